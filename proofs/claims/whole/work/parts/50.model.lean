/-! ===== DiagonalTextsModel: the state ===== -/
def RowM (F : Int → Int) (σ : St) : Prop := (F 0 = σ.1 ∧ F 1 = σ.2.1) ∧ (∀ i, 0 ≤ i → i < 3 → F (2 + i) = σ.2.2.2.2 i) ∧ (∀ i, 0 ≤ i → i < σ.1 → F (5 + i) = σ.2.2.1 i) ∧ ∀ i, 0 ≤ i → i < σ.2.1 → F (33 + i) = σ.2.2.2.1 i
def MHist (mi : MI) (hs : List St) : Prop := mi 62 3 = hs.length ∧ hs.length ≤ 4 ∧ ∀ (i : Nat) (σ : St), hs[i]? = some σ → RowM (fun k => mi 64 (61 * (i : Int) + k)) σ ∧ StV σ
def MTyp (mi : MI) (u : Int × (Int → Int)) : Prop := mi 62 5 = u.1 ∧ (∀ i, 0 ≤ i → i < u.1 → mi 66 i = u.2 i) ∧ TxOk u.1 u.2
def RepM (mi : MI) (s : Sg) : Prop := RowM (mi 63) s.1 ∧ StV s.1 ∧ MHist mi s.2.1 ∧ MTyp mi s.2.2
abbrev PoM (o : Int × Sg) (mi : MI) (mr : MR) : AV → MI → MR → Prop := fun v mi' mr' => v = vi o.1 ∧ mr' = mr ∧ RepM mi' o.2 ∧ ∀ x, x < 62 → mi' x = mi x
theorem RowM.eq {F F' : Int → Int} {σ : St} (h : RowM F σ) (hv : σ.1 ≤ 28 ∧ σ.2.1 ≤ 28) (he : ∀ k, 0 ≤ k → k < 61 → F' k = F k) : RowM F' σ := by
  obtain ⟨⟨h1, h2⟩, h3, h4, h5⟩ := h
  exact ⟨⟨by rw [he 0 (by omega) (by omega)]; exact h1, by rw [he 1 (by omega) (by omega)]; exact h2⟩, fun i i1 i2 => by rw [he _ (by omega) (by omega)]; exact h3 i i1 i2, fun i i1 i2 => by rw [he _ (by omega) (by omega)]; exact h4 i i1 i2, fun i i1 i2 => by rw [he _ (by omega) (by omega)]; exact h5 i i1 i2⟩
section MODEL
variable {mi mi1 mi2 : MI} {mr : MR} {n m n' m' tl : Int} {A B A' B' Z T : Int → Int} {hs : List St}
theorem MHist.keep (h : MHist mi hs) (h1 : mi1 62 3 = mi 62 3) (h2 : mi1 64 = mi 64) : MHist mi1 hs := by
  obtain ⟨g1, g2, g3⟩ := h
  exact ⟨by rw [h1]; exact g1, g2, by rw [h2]; exact g3⟩
theorem MTyp.keep {u : Int × (Int → Int)} (h : MTyp mi u) (h1 : mi1 62 5 = mi 62 5) (h2 : mi1 66 = mi 66) : MTyp mi1 u := by
  obtain ⟨g1, g2, g3⟩ := h
  exact ⟨by rw [h1]; exact g1, by rw [h2]; exact g2, g3⟩
theorem RepM.keep {s : Sg} (h : RepM mi s) (h1 : mi1 62 3 = mi 62 3) (h2 : mi1 62 5 = mi 62 5) (h3 : ∀ x, x = 63 ∨ x = 64 ∨ x = 66 → mi1 x = mi x) : RepM mi1 s := by
  obtain ⟨g1, g2, g3, g4⟩ := h
  exact ⟨by rw [h3 63 (by decide)]; exact g1, g2, g3.keep h1 (h3 64 (by decide)), g4.keep h2 (h3 66 (by decide))⟩
set_option maxRecDepth 100000 in
theorem c_X11_in {sh : ShT} {v a b : Int} (hv : rng v) (ha : rng a) (hb : rng b) : CP yX11_in cX11_in 3 (some .boolean) 0 sh mi mr [vi v, vi a, vi b] (vi (if a ≤ v ∧ v ≤ b then 1 else 0)) := by
  refine Ct.ofV (ini := false) [some (vi v), some (vi a), some (vi b)] km_X11_in (by decide) rfl (Nat.le_of_ble_eq_true rfl) ?_
  refine V_iload_n dX11_in_0 rfl ?_
  refine V_iload_n dX11_in_1 rfl ?_
  refine V_icmp_lt 14 dX11_in_2 (by decide) (by omega) (by omega) (fun h2 => ?_) (fun h2 => ?_)
  · refine V_iconst dX11_in_14 ?_
    refine V_zret dX11_in_15 rfl ⟨Nat.le_of_ble_eq_true rfl, Nat.le_of_ble_eq_true rfl⟩ (by first | exact Or.inl rfl | exact Or.inr rfl | omega) ?_
    exact ⟨rfl, svi (by split <;> first | rfl | (exfalso; omega)), rfl, rfl⟩
  · refine V_iload_n dX11_in_5 rfl ?_
    refine V_iload_n dX11_in_6 rfl ?_
    refine V_icmp_gt 14 dX11_in_7 (by decide) (by omega) (by omega) (fun h7 => ?_) (fun h7 => ?_)
    · refine V_iconst dX11_in_14 ?_
      refine V_zret dX11_in_15 rfl ⟨Nat.le_of_ble_eq_true rfl, Nat.le_of_ble_eq_true rfl⟩ (by first | exact Or.inl rfl | exact Or.inr rfl | omega) ?_
      exact ⟨rfl, svi (by split <;> first | rfl | (exfalso; omega)), rfl, rfl⟩
    · refine V_iconst dX11_in_10 ?_
      refine V_goto 15 dX11_in_11 (by decide) ?_
      refine V_zret dX11_in_15 rfl ⟨Nat.le_of_ble_eq_true rfl, Nat.le_of_ble_eq_true rfl⟩ (by first | exact Or.inl rfl | exact Or.inr rfl | omega) ?_
      exact ⟨rfl, svi (by split <;> first | rfl | (exfalso; omega)), rfl, rfl⟩
set_option maxRecDepth 100000 in
theorem c_X11_letter {row p : Int} (hG : Gr mr) (hr : row = 0 ∨ row = 1) (hp : 0 ≤ p ∧ p < 28) : CP yX11_letter cX11_letter 3 (some .int) 0 SH mi mr [vr 62, vi row, vi p] (vi (mi 63 (5 + 28 * row + p))) := by
  refine Ct.ofV (ini := false) [some (vr 62), some (vi row), some (vi p)] km_X11_letter (by decide) rfl (Nat.le_of_ble_eq_true rfl) ?_
  refine V_aload_n dX11_letter_0 rfl ?_
  refine V_getr 0 _ dX11_letter_1 fl_RX11_7 (by first | with_reducible assumption | rfl) rfl rfl (by first | with_reducible assumption | exact hG.at rfl) ?_
  refine V_iconst dX11_letter_4 ?_
  refine V_bipush dX11_letter_5 (by decide) ?_
  refine V_iload_n dX11_letter_7 rfl ?_
  refine V_imul dX11_letter_8 ?_
  refine V_iadd dX11_letter_9 ?_
  refine V_iload_n dX11_letter_10 rfl ?_
  refine V_iadd dX11_letter_11 ?_
  refine V_iald dX11_letter_12 (by first | with_reducible assumption | rfl) (by decide) (by omega) ?_
  refine V_iret dX11_letter_13 rfl ⟨Nat.le_of_ble_eq_true rfl, Nat.le_of_ble_eq_true rfl⟩ ?_
  exact ⟨rfl, rfl, rfl, rfl⟩
theorem letA (h : RowM (mi 63) (n, m, A, B, Z)) {p : Int} (hp : 0 ≤ p ∧ p < n) : mi 63 (5 + 28 * 0 + p) = A p := by
  rw [show (5 : Int) + 28 * 0 + p = 5 + p by omega]
  exact h.2.2.1 p hp.1 hp.2
theorem letB (h : RowM (mi 63) (n, m, A, B, Z)) {p : Int} (hp : 0 ≤ p ∧ p < m) : mi 63 (5 + 28 * 1 + p) = B p := by
  rw [show (5 : Int) + 28 * 1 + p = 33 + p by omega]
  exact h.2.2.2 p hp.1 hp.2
set_option maxRecDepth 100000 in
theorem c_X11_alike {x y : Int} (hG : Gr mr) (h : RowM (mi 63) (n, m, A, B, Z)) (hA : NR n A) (hB : NR m B) (hx : rng x) (hy : rng y) : CP yX11_alike cX11_alike 3 (some .boolean) 1 SH mi mr [vr 62, vi x, vi y] (vi (if al A B x y then 1 else 0)) := by
  have h0 := h.1.1
  have h1 := h.1.2
  simp only at h0 h1
  have hn := hA.1
  have hm := hB.1
  have rA := hA.r x
  have rB := hB.r y
  refine Ct.ofV (ini := false) [some (vr 62), some (vi x), some (vi y)] km_X11_alike (by decide) rfl (Nat.le_of_ble_eq_true rfl) ?_
  by_cases hx1 : 0 ≤ x ∧ x ≤ n - 1
  · have e1 : (if 0 ≤ x ∧ x ≤ n - 1 then (1 : Int) else 0) = 1 := if_pos hx1
    have ax := hA.2.1 x hx1.1 (by omega)
    by_cases hy1 : 0 ≤ y ∧ y ≤ m - 1
    · have e2 : (if 0 ≤ y ∧ y ≤ m - 1 then (1 : Int) else 0) = 1 := if_pos hy1
      refine V_iload_n dX11_alike_0 rfl ?_
      refine V_iconst dX11_alike_1 ?_
      refine V_aload_n dX11_alike_2 rfl ?_
      refine V_getr 0 _ dX11_alike_3 fl_RX11_7 (by first | with_reducible assumption | rfl) rfl rfl (by first | with_reducible assumption | exact hG.at rfl) ?_
      refine V_iconst dX11_alike_6 ?_
      refine V_iald dX11_alike_7 (by first | with_reducible assumption | rfl) (by decide) (by omega) ?_
      rw [h0]
      refine V_iconst dX11_alike_8 ?_
      refine V_isub dX11_alike_9 ?_
      refine V_callSP dX11_alike_10 ml_RX11_48 km_X11_in ks_X11_in (c_X11_in (v := x) (a := 0) (b := n - 1) (by omega) (by omega) (by omega)) rfl rfl (Nat.le_of_ble_eq_true rfl) ⟨Nat.le_of_ble_eq_true rfl, Nat.le_of_ble_eq_true rfl⟩ ⟨Nat.le_of_ble_eq_true rfl, Nat.le_of_ble_eq_true rfl⟩ ?_
      rw [e1]
      refine V_if_eq 51 dX11_alike_13 (by decide) (by omega) (fun h13 => absurd h13 ((by decide))) (fun _ => ?_)
      refine V_iload_n dX11_alike_16 rfl ?_
      refine V_iconst dX11_alike_17 ?_
      refine V_aload_n dX11_alike_18 rfl ?_
      refine V_getr 0 _ dX11_alike_19 fl_RX11_7 (by first | with_reducible assumption | rfl) rfl rfl (by first | with_reducible assumption | exact hG.at rfl) ?_
      refine V_iconst dX11_alike_22 ?_
      refine V_iald dX11_alike_23 (by first | with_reducible assumption | rfl) (by decide) (by omega) ?_
      rw [h1]
      refine V_iconst dX11_alike_24 ?_
      refine V_isub dX11_alike_25 ?_
      refine V_callSP dX11_alike_26 ml_RX11_48 km_X11_in ks_X11_in (c_X11_in (v := y) (a := 0) (b := m - 1) (by omega) (by omega) (by omega)) rfl rfl (Nat.le_of_ble_eq_true rfl) ⟨Nat.le_of_ble_eq_true rfl, Nat.le_of_ble_eq_true rfl⟩ ⟨Nat.le_of_ble_eq_true rfl, Nat.le_of_ble_eq_true rfl⟩ ?_
      rw [e2]
      refine V_if_eq 51 dX11_alike_29 (by decide) (by omega) (fun h29 => absurd h29 ((by decide))) (fun _ => ?_)
      refine V_aload_n dX11_alike_32 rfl ?_
      refine V_iconst dX11_alike_33 ?_
      refine V_iload_n dX11_alike_34 rfl ?_
      refine V_callVP dX11_alike_35 ml_RX11_52 km_X11_letter kv_X11_letter (c_X11_letter (row := 0) (p := x) hG (Or.inl rfl) (by omega)) (by first | with_reducible assumption | rfl) rfl rfl rfl (Nat.le_of_ble_eq_true rfl) ⟨Nat.le_of_ble_eq_true rfl, Nat.le_of_ble_eq_true rfl⟩ ⟨Nat.le_of_ble_eq_true rfl, Nat.le_of_ble_eq_true rfl⟩ ?_
      rw [letA h (p := x) (by omega)]
      refine V_aload_n dX11_alike_38 rfl ?_
      refine V_iconst dX11_alike_39 ?_
      refine V_iload_n dX11_alike_40 rfl ?_
      refine V_callVP dX11_alike_41 ml_RX11_52 km_X11_letter kv_X11_letter (c_X11_letter (row := 1) (p := y) hG (Or.inr rfl) (by omega)) (by first | with_reducible assumption | rfl) rfl rfl rfl (Nat.le_of_ble_eq_true rfl) ⟨Nat.le_of_ble_eq_true rfl, Nat.le_of_ble_eq_true rfl⟩ ⟨Nat.le_of_ble_eq_true rfl, Nat.le_of_ble_eq_true rfl⟩ ?_
      rw [letB h (p := y) (by omega)]
      refine V_icmp_ne 51 dX11_alike_44 (by decide) (by omega) (by omega) (fun h44 => ?_) (fun h44 => ?_)
      · refine V_iconst dX11_alike_51 ?_
        refine V_zret dX11_alike_52 rfl ⟨Nat.le_of_ble_eq_true rfl, Nat.le_of_ble_eq_true rfl⟩ (by first | exact Or.inl rfl | exact Or.inr rfl | omega) ?_
        exact ⟨rfl, svi (by unfold al; split <;> first | rfl | (exfalso; omega)), rfl, rfl⟩
      · refine V_iconst dX11_alike_47 ?_
        refine V_goto 52 dX11_alike_48 (by decide) ?_
        refine V_zret dX11_alike_52 rfl ⟨Nat.le_of_ble_eq_true rfl, Nat.le_of_ble_eq_true rfl⟩ (by first | exact Or.inl rfl | exact Or.inr rfl | omega) ?_
        exact ⟨rfl, svi (by unfold al; split <;> first | rfl | (exfalso; omega)), rfl, rfl⟩
    · have e2 : (if 0 ≤ y ∧ y ≤ m - 1 then (1 : Int) else 0) = 0 := if_neg hy1
      have bx := hB.2.2 y (by omega)
      refine V_iload_n dX11_alike_0 rfl ?_
      refine V_iconst dX11_alike_1 ?_
      refine V_aload_n dX11_alike_2 rfl ?_
      refine V_getr 0 _ dX11_alike_3 fl_RX11_7 (by first | with_reducible assumption | rfl) rfl rfl (by first | with_reducible assumption | exact hG.at rfl) ?_
      refine V_iconst dX11_alike_6 ?_
      refine V_iald dX11_alike_7 (by first | with_reducible assumption | rfl) (by decide) (by omega) ?_
      rw [h0]
      refine V_iconst dX11_alike_8 ?_
      refine V_isub dX11_alike_9 ?_
      refine V_callSP dX11_alike_10 ml_RX11_48 km_X11_in ks_X11_in (c_X11_in (v := x) (a := 0) (b := n - 1) (by omega) (by omega) (by omega)) rfl rfl (Nat.le_of_ble_eq_true rfl) ⟨Nat.le_of_ble_eq_true rfl, Nat.le_of_ble_eq_true rfl⟩ ⟨Nat.le_of_ble_eq_true rfl, Nat.le_of_ble_eq_true rfl⟩ ?_
      rw [e1]
      refine V_if_eq 51 dX11_alike_13 (by decide) (by omega) (fun h13 => absurd h13 ((by decide))) (fun _ => ?_)
      refine V_iload_n dX11_alike_16 rfl ?_
      refine V_iconst dX11_alike_17 ?_
      refine V_aload_n dX11_alike_18 rfl ?_
      refine V_getr 0 _ dX11_alike_19 fl_RX11_7 (by first | with_reducible assumption | rfl) rfl rfl (by first | with_reducible assumption | exact hG.at rfl) ?_
      refine V_iconst dX11_alike_22 ?_
      refine V_iald dX11_alike_23 (by first | with_reducible assumption | rfl) (by decide) (by omega) ?_
      rw [h1]
      refine V_iconst dX11_alike_24 ?_
      refine V_isub dX11_alike_25 ?_
      refine V_callSP dX11_alike_26 ml_RX11_48 km_X11_in ks_X11_in (c_X11_in (v := y) (a := 0) (b := m - 1) (by omega) (by omega) (by omega)) rfl rfl (Nat.le_of_ble_eq_true rfl) ⟨Nat.le_of_ble_eq_true rfl, Nat.le_of_ble_eq_true rfl⟩ ⟨Nat.le_of_ble_eq_true rfl, Nat.le_of_ble_eq_true rfl⟩ ?_
      rw [e2]
      refine V_if_eq 51 dX11_alike_29 (by decide) (by omega) (fun _ => ?_) (fun h29 => absurd h29 ((by decide)))
      refine V_iconst dX11_alike_51 ?_
      refine V_zret dX11_alike_52 rfl ⟨Nat.le_of_ble_eq_true rfl, Nat.le_of_ble_eq_true rfl⟩ (by first | exact Or.inl rfl | exact Or.inr rfl | omega) ?_
      exact ⟨rfl, svi (by unfold al; split <;> first | rfl | (exfalso; omega)), rfl, rfl⟩
  · have e1 : (if 0 ≤ x ∧ x ≤ n - 1 then (1 : Int) else 0) = 0 := if_neg hx1
    have ax := hA.2.2 x (by omega)
    refine V_iload_n dX11_alike_0 rfl ?_
    refine V_iconst dX11_alike_1 ?_
    refine V_aload_n dX11_alike_2 rfl ?_
    refine V_getr 0 _ dX11_alike_3 fl_RX11_7 (by first | with_reducible assumption | rfl) rfl rfl (by first | with_reducible assumption | exact hG.at rfl) ?_
    refine V_iconst dX11_alike_6 ?_
    refine V_iald dX11_alike_7 (by first | with_reducible assumption | rfl) (by decide) (by omega) ?_
    rw [h0]
    refine V_iconst dX11_alike_8 ?_
    refine V_isub dX11_alike_9 ?_
    refine V_callSP dX11_alike_10 ml_RX11_48 km_X11_in ks_X11_in (c_X11_in (v := x) (a := 0) (b := n - 1) (by omega) (by omega) (by omega)) rfl rfl (Nat.le_of_ble_eq_true rfl) ⟨Nat.le_of_ble_eq_true rfl, Nat.le_of_ble_eq_true rfl⟩ ⟨Nat.le_of_ble_eq_true rfl, Nat.le_of_ble_eq_true rfl⟩ ?_
    rw [e1]
    refine V_if_eq 51 dX11_alike_13 (by decide) (by omega) (fun _ => ?_) (fun h13 => absurd h13 ((by decide)))
    refine V_iconst dX11_alike_51 ?_
    refine V_zret dX11_alike_52 rfl ⟨Nat.le_of_ble_eq_true rfl, Nat.le_of_ble_eq_true rfl⟩ (by first | exact Or.inl rfl | exact Or.inr rfl | omega) ?_
    exact ⟨rfl, svi (by unfold al; split <;> first | rfl | (exfalso; omega)), rfl, rfl⟩
set_option maxRecDepth 100000 in
theorem c_X11_keeps (hG : Gr mr) : C0 yX11_keeps cX11_keeps 2 none 0 SH mi mr [vr 62] (fun mi' mr' => mr' = mr ∧ (∀ k, 0 ≤ k → k < 61 → mi' 65 k = mi 63 k) ∧ ∀ x, x ≠ 65 → mi' x = mi x) := by
  have loop : ∀ (t : Nat) (j : Int) (mi' : MI), 0 ≤ j → j ≤ 61 → 61 - j < t → (∀ k, 0 ≤ k → k < j → mi' 65 k = mi 63 k) → (∀ x, x ≠ 65 → mi' x = mi x) → V (RX11, cX11_keeps, 2, rm 0, false, none, none) (fun r sh' mi' mr' => sh' = SH ∧ r = none ∧ mr' = mr ∧ (∀ k, 0 ≤ k → k < 61 → mi' 65 k = mi 63 k) ∧ ∀ x, x ≠ 65 → mi' x = mi x) 0 0 SH mi' mr [some (vr 62), some (vi j)] [] 2 := by
    intro t
    induction t with
    | zero => intro j mi' h1 h2 h3; omega
    | succ t ih =>
      intro j mi' a1 a2 a3 a4 a5
      refine V_iload_n dX11_keeps_2 rfl ?_
      refine V_bipush dX11_keeps_3 (by decide) ?_
      refine V_icmp_ge 26 dX11_keeps_5 (by decide) (by omega) (by omega) (fun h5 => ?_) (fun h5 => ?_)
      · refine V_vret dX11_keeps_26 rfl ⟨Nat.le_of_ble_eq_true rfl, Nat.le_of_ble_eq_true rfl⟩ ?_
        exact ⟨rfl, rfl, rfl, fun k g1 g2 => a4 k g1 (by omega), a5⟩
      · refine V_aload_n dX11_keeps_8 rfl ?_
        refine V_getr 2 _ dX11_keeps_9 fl_RX11_16 (by first | with_reducible assumption | rfl) rfl rfl (by first | with_reducible assumption | exact hG.at rfl) ?_
        refine V_iload_n dX11_keeps_12 rfl ?_
        refine V_aload_n dX11_keeps_13 rfl ?_
        refine V_getr 0 _ dX11_keeps_14 fl_RX11_7 (by first | with_reducible assumption | rfl) rfl rfl (by first | with_reducible assumption | exact hG.at rfl) ?_
        refine V_iload_n dX11_keeps_17 rfl ?_
        refine V_iald dX11_keeps_18 (by first | with_reducible assumption | rfl) (by decide) (by omega) ?_
        refine V_iast dX11_keeps_19 (by first | with_reducible assumption | rfl) (by decide) (by omega) ?_
        refine S_iinc (ls' := [_, _]) dX11_keeps_20 rfl ⟨rfl, rfl⟩ rfl ?_
        refine V_goto 2 dX11_keeps_23 (by decide) ?_
        refine ih (j + 1) _ (by omega) (by omega) (by omega) (fun k g1 g2 => ?_) (fun x hx => by rw [up2_n _ _ _ hx]; exact a5 x hx)
        by_cases hk : k = j
        · subst hk; rw [up2_ss, a5 63 (by decide)]
        · rw [up2_sn _ _ _ hk]; exact a4 k g1 (by omega)
  refine Ct.ofV (ini := false) [some (vr 62), none] km_X11_keeps (by decide) rfl (Nat.le_of_ble_eq_true rfl) ?_
  refine V_iconst dX11_keeps_0 ?_
  refine S_istore_n (ls' := [_, _]) dX11_keeps_1 ⟨Nat.le_of_ble_eq_true rfl, rfl, rfl⟩ rfl ?_
  exact loop 62 0 mi (by omega) (by omega) (by omega) (fun k g1 g2 => by omega) (fun _ _ => rfl)
set_option maxRecDepth 100000 in
set_option maxHeartbeats 1000000 in
theorem c_X11_acted {r : Int} {σ : St} (hG : Gr mr) (hr : rng r) (hr2 : -1000001 < r) (hM : MHist mi hs) (hb : RowM (mi 65) σ) (hv : StV σ) : C1 yX11_acted cX11_acted 3 (some .int) 0 SH mi mr [vr 62, vi r] (fun v mi' mr' => v = vi r ∧ mr' = mr ∧ MHist mi' (hpush hs σ) ∧ (∀ x, x ≠ 62 → x ≠ 64 → mi' x = mi x) ∧ ∀ j, j ≠ 3 → mi' 62 j = mi 62 j) := by
  have hn := hv.1.1
  have hm := hv.2.1.1
  have push : ∀ (mi1 : MI) (hs1 : List St) (o : Option AV), MHist mi1 hs1 → hs1.length < 4 → hpush hs σ = hs1 ++ [σ] → (∀ x, x ≠ 62 → x ≠ 64 → mi1 x = mi x) → (∀ j, j ≠ 3 → mi1 62 j = mi 62 j) → V (RX11, cX11_acted, 3, rm 0, false, none, (some .int)) (fun r' sh' mi' mr' => sh' = SH ∧ ∃ v, r' = some v ∧ v = vi r ∧ mr' = mr ∧ MHist mi' (hpush hs σ) ∧ (∀ x, x ≠ 62 → x ≠ 64 → mi' x = mi x) ∧ ∀ j, j ≠ 3 → mi' 62 j = mi 62 j) 0 0 SH mi1 mr [some (vr 62), some (vi r), o] [] 54 := by
    intro mi1 hs1 o g1 g2 g3 g4 g5
    obtain ⟨q1, q2, q3⟩ := g1
    have loop : ∀ (t : Nat) (j : Int) (mi' : MI), 0 ≤ j → j ≤ 61 → 61 - j < t → (∀ k : Int, 0 ≤ k → k < j → mi' 64 (61 * (hs1.length : Int) + k) = mi1 65 k) → (∀ k : Int, k < 61 * (hs1.length : Int) → mi' 64 k = mi1 64 k) → (∀ x, x ≠ 64 → mi' x = mi1 x) → V (RX11, cX11_acted, 3, rm 0, false, none, (some .int)) (fun r' sh' mi' mr' => sh' = SH ∧ ∃ v, r' = some v ∧ v = vi r ∧ mr' = mr ∧ MHist mi' (hpush hs σ) ∧ (∀ x, x ≠ 62 → x ≠ 64 → mi' x = mi x) ∧ ∀ j, j ≠ 3 → mi' 62 j = mi 62 j) 0 0 SH mi' mr [some (vr 62), some (vi r), some (vi j)] [] 56 := by
      intro t
      induction t with
      | zero => intro j mi' h1 h2 h3; omega
      | succ t ih =>
        intro j mi' h1 h2 h3 h4 h5 h6
        have e3 : mi' 62 3 = hs1.length := by rw [h6 62 (by decide)]; exact q1
        refine V_iload_n dX11_acted_56 rfl ?_
        refine V_bipush dX11_acted_57 (by decide) ?_
        refine V_icmp_ge 88 dX11_acted_59 (by decide) (by omega) (by omega) (fun h59 => ?_) (fun h59 => ?_)
        · refine V_aload_n dX11_acted_88 rfl ?_
          refine V_dup dX11_acted_89 rfl ?_
          refine V_geti 3 dX11_acted_90 fl_RX11_57 (by first | with_reducible assumption | rfl) rfl rfl ?_
          rw [e3]
          refine V_iconst dX11_acted_93 ?_
          refine V_iadd dX11_acted_94 ?_
          refine V_puti 3 dX11_acted_95 fl_RX11_57 (by first | with_reducible assumption | rfl) rfl rfl rfl ?_
          refine V_iload_n dX11_acted_98 rfl ?_
          refine V_iret dX11_acted_99 rfl ⟨Nat.le_of_ble_eq_true rfl, Nat.le_of_ble_eq_true rfl⟩ ?_
          refine ⟨rfl, _, rfl, rfl, rfl, ⟨?_, ?_, fun i τ hi => ?_⟩, fun x x1 x2 => by rw [up2_n _ _ _ x1, h6 x x2, g4 x x1 x2], fun j hj => by rw [up2_sn _ _ _ hj, h6 62 (by decide), g5 j hj]⟩
          · rw [up2_ss, g3]; simp
          · rw [g3]; simp; omega
          · rw [g3] at hi
            rw [up2_n _ _ _ (by decide)]
            by_cases hil : i < hs1.length
            · rw [List.getElem?_append_left hil] at hi
              refine ⟨(q3 i τ hi).1.eq (by have := (q3 i τ hi).2; exact ⟨this.1.1.2, this.2.1.1.2⟩) (fun k k1 k2 => h5 (61 * (i : Int) + k) (by omega)), (q3 i τ hi).2⟩
            · have hlt := lt_of_get hi
              have hie : i = hs1.length := by simp at hlt; omega
              subst hie
              simp at hi
              subst hi
              refine ⟨hb.eq ⟨hn.2, hm.2⟩ (fun k k1 k2 => ?_), hv⟩
              rw [h4 k k1 (by omega), g4 65 (by decide) (by decide)]
        · refine V_aload_n dX11_acted_62 rfl ?_
          refine V_getr 1 _ dX11_acted_63 fl_RX11_13 (by first | with_reducible assumption | rfl) rfl rfl (by first | with_reducible assumption | exact hG.at rfl) ?_
          refine V_bipush dX11_acted_66 (by decide) ?_
          refine V_aload_n dX11_acted_68 rfl ?_
          refine V_geti 3 dX11_acted_69 fl_RX11_57 (by first | with_reducible assumption | rfl) rfl rfl ?_
          rw [e3]
          refine V_imul dX11_acted_72 ?_
          refine V_iload_n dX11_acted_73 rfl ?_
          refine V_iadd dX11_acted_74 ?_
          refine V_aload_n dX11_acted_75 rfl ?_
          refine V_getr 2 _ dX11_acted_76 fl_RX11_16 (by first | with_reducible assumption | rfl) rfl rfl (by first | with_reducible assumption | exact hG.at rfl) ?_
          refine V_iload_n dX11_acted_79 rfl ?_
          refine V_iald dX11_acted_80 (by first | with_reducible assumption | rfl) (by decide) (by omega) ?_
          refine V_iast dX11_acted_81 (by first | with_reducible assumption | rfl) (by decide) (by omega) ?_
          refine S_iinc (ls' := [_, _, _]) dX11_acted_82 rfl ⟨rfl, rfl⟩ rfl ?_
          refine V_goto 56 dX11_acted_85 (by decide) ?_
          refine ih (j + 1) _ (by omega) (by omega) (by omega) (fun k k1 k2 => ?_) (fun k hk => by rw [up2_sn _ _ _ (by omega)]; exact h5 k hk) (fun x hx => by rw [up2_n _ _ _ hx]; exact h6 x hx)
          by_cases hk : k = j
          · subst hk; rw [up2_ss, h6 65 (by decide)]
          · rw [up2_sn _ _ _ (by omega)]; exact h4 k k1 (by omega)
    refine V_iconst dX11_acted_54 ?_
    refine S_istore_n (ls' := [_, _, _]) dX11_acted_55 ⟨Nat.le_of_ble_eq_true rfl, rfl, rfl⟩ rfl ?_
    exact loop 62 0 mi1 (by omega) (by omega) (by omega) (fun k k1 k2 => by omega) (fun _ _ => rfl) (fun _ _ => rfl)
  have hq1 := hM.1
  have hq2 := hM.2.1
  have loop : hs.length = 4 → ∀ (t : Nat) (j : Int) (mi' : MI), 0 ≤ j → j ≤ 183 → 183 - j < t → (∀ k, 0 ≤ k → k < j → mi' 64 k = mi 64 (k + 61)) → (∀ k, j ≤ k → mi' 64 k = mi 64 k) → (∀ x, x ≠ 64 → mi' x = mi x) → V (RX11, cX11_acted, 3, rm 0, false, none, (some .int)) (fun r' sh' mi' mr' => sh' = SH ∧ ∃ v, r' = some v ∧ v = vi r ∧ mr' = mr ∧ MHist mi' (hpush hs σ) ∧ (∀ x, x ≠ 62 → x ≠ 64 → mi' x = mi x) ∧ ∀ j, j ≠ 3 → mi' 62 j = mi 62 j) 0 0 SH mi' mr [some (vr 62), some (vi r), some (vi j)] [] 16 := by
    intro hl4 t
    induction t with
    | zero => intro j mi' a1 a2 a3; omega
    | succ t ih =>
      intro j mi' a1 a2 a3 a4 a5 a6
      have e3 : mi' 62 3 = 4 := by rw [a6 62 (by decide), hq1]; omega
      refine V_iload_n dX11_acted_16 rfl ?_
      refine V_sipush dX11_acted_17 (by decide) ?_
      refine V_icmp_ge 44 dX11_acted_20 (by decide) (by omega) (by omega) (fun h20 => ?_) (fun h20 => ?_)
      · refine V_aload_n dX11_acted_44 rfl ?_
        refine V_dup dX11_acted_45 rfl ?_
        refine V_geti 3 dX11_acted_46 fl_RX11_57 (by first | with_reducible assumption | rfl) rfl rfl ?_
        rw [e3]
        refine V_iconst dX11_acted_49 ?_
        refine V_isub dX11_acted_50 ?_
        refine V_puti 3 dX11_acted_51 fl_RX11_57 (by first | with_reducible assumption | rfl) rfl rfl rfl ?_
        refine push _ hs.tail _ ⟨?_, ?_, fun i τ hi => ?_⟩ ?_ ?_ (fun x x1 x2 => by rw [up2_n _ _ _ x1]; exact a6 x x2) (fun q hq => by rw [up2_sn _ _ _ hq, a6 62 (by decide)])
        · rw [up2_ss]; simp; omega
        · simp; omega
        · rw [up2_n _ _ _ (by decide)]
          have hi2 : hs[i + 1]? = some τ := by
            cases hs with
            | nil => simp at hi
            | cons a t => simpa using hi
          have hlt := lt_of_get hi2
          have hh := hM.2.2 (i + 1) τ hi2
          refine ⟨hh.1.eq (by have := hh.2; exact ⟨this.1.1.2, this.2.1.1.2⟩) (fun k k1 k2 => ?_), hh.2⟩
          rw [a4 _ (by omega) (by omega)]
          rw [show 61 * (i : Int) + k + 61 = 61 * ((i + 1 : Nat) : Int) + k by omega]
        · simp; omega
        · unfold hpush; rw [if_pos hl4]
      · refine V_aload_n dX11_acted_23 rfl ?_
        refine V_getr 1 _ dX11_acted_24 fl_RX11_13 (by first | with_reducible assumption | rfl) rfl rfl (by first | with_reducible assumption | exact hG.at rfl) ?_
        refine V_iload_n dX11_acted_27 rfl ?_
        refine V_aload_n dX11_acted_28 rfl ?_
        refine V_getr 1 _ dX11_acted_29 fl_RX11_13 (by first | with_reducible assumption | rfl) rfl rfl (by first | with_reducible assumption | exact hG.at rfl) ?_
        refine V_iload_n dX11_acted_32 rfl ?_
        refine V_bipush dX11_acted_33 (by decide) ?_
        refine V_iadd dX11_acted_35 ?_
        refine V_iald dX11_acted_36 (by first | with_reducible assumption | rfl) (by decide) (by omega) ?_
        refine V_iast dX11_acted_37 (by first | with_reducible assumption | rfl) (by decide) (by omega) ?_
        refine S_iinc (ls' := [_, _, _]) dX11_acted_38 rfl ⟨rfl, rfl⟩ rfl ?_
        refine V_goto 16 dX11_acted_41 (by decide) ?_
        refine ih (j + 1) _ (by omega) (by omega) (by omega) (fun k k1 k2 => ?_) (fun k hk => by rw [up2_sn _ _ _ (by omega)]; exact a5 k (by omega)) (fun x hx => by rw [up2_n _ _ _ hx]; exact a6 x hx)
        by_cases hk : k = j
        · subst hk; rw [up2_ss, a5 _ (by omega)]
        · rw [up2_sn _ _ _ hk]; exact a4 k k1 (by omega)
  refine Ct.ofV (ini := false) [some (vr 62), some (vi r), none] km_X11_acted (by decide) rfl (Nat.le_of_ble_eq_true rfl) ?_
  refine V_iload_n dX11_acted_0 rfl ?_
  refine V_ldc (-1000001) dX11_acted_1 kc_RX11_56 rfl ?_
  refine V_icmp_le 98 dX11_acted_3 (by decide) (by omega) (by omega) (fun h3 => absurd h3 ((by omega))) (fun _ => ?_)
  refine V_aload_n dX11_acted_6 rfl ?_
  refine V_geti 3 dX11_acted_7 fl_RX11_57 (by first | with_reducible assumption | rfl) rfl rfl ?_
  refine V_iconst dX11_acted_10 ?_
  refine V_icmp_ne 54 dX11_acted_11 (by decide) (by omega) (by omega) (fun h11 => ?_) (fun h11 => ?_)
  · refine push mi hs _ hM (by omega) ?_ (fun _ _ _ => rfl) (fun _ _ => rfl)
    unfold hpush
    rw [if_neg (by omega)]
  · refine V_iconst dX11_acted_14 ?_
    refine S_istore_n (ls' := [_, _, _]) dX11_acted_15 ⟨Nat.le_of_ble_eq_true rfl, rfl, rfl⟩ rfl ?_
    exact loop (by omega) 184 0 mi (by omega) (by omega) (by omega) (fun k k1 k2 => by omega) (fun _ _ => rfl) (fun _ _ => rfl)
end MODEL
