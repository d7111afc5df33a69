/-! ===== DiagonalTexts$Row ===== -/
/-- what a row tells at a place -/
def rat (mi : MI) (a b : Nat) (i : Int) : Int := if 0 ≤ i ∧ i < mi a 1 then mi b i else -1
theorem rat_in {mi : MI} {a b : Nat} {i : Int} (h : 0 ≤ i ∧ i < mi a 1) : rat mi a b i = mi b i := by simp [rat, h]
theorem rat_out {mi : MI} {a b : Nat} {i : Int} (h : ¬ (0 ≤ i ∧ i < mi a 1)) : rat mi a b i = -1 := by simp [rat, h]
section ROW
variable {sh : ShT} {mi : MI} {mr : MR} {a b N : Nat}
set_option maxRecDepth 100000 in
theorem c_X7_at {i : Int} (hi : rng i) (ha : sh[a]? = some (.inl 7)) (hr : mr a 0 = some b) (hb : sh[b]? = some (.inr (0, N))) (hN : N ≤ 1000) (hl : 0 ≤ mi a 1 ∧ mi a 1 ≤ N) : CP yX7_at cX7_at 2 (some .int) 0 sh mi mr [vr a, vi i] (vi (rat mi a b i)) := by
  refine Ct.ofV (ini := false) [some (vr a), some (vi i)] km_X7_at (by decide) rfl (Nat.le_of_ble_eq_true rfl) ?_
  refine V_iload_n dX7_at_0 rfl ?_
  refine V_if_lt 21 dX7_at_1 (by decide) (by omega) (fun h1 => ?_) (fun h1 => ?_)
  · refine V_iconst dX7_at_21 ?_
    refine V_iret dX7_at_22 rfl ⟨Nat.le_of_ble_eq_true rfl, Nat.le_of_ble_eq_true rfl⟩ ?_
    exact ⟨rfl, svi (rat_out (by omega)).symm, rfl, rfl⟩
  · refine V_iload_n dX7_at_4 rfl ?_
    refine V_aload_n dX7_at_5 rfl ?_
    refine V_geti 1 dX7_at_6 fl_RX7_21 (by first | with_reducible assumption | rfl) rfl rfl ?_
    refine V_icmp_ge 21 dX7_at_9 (by decide) (by omega) (by omega) (fun h9 => ?_) (fun h9 => ?_)
    · refine V_iconst dX7_at_21 ?_
      refine V_iret dX7_at_22 rfl ⟨Nat.le_of_ble_eq_true rfl, Nat.le_of_ble_eq_true rfl⟩ ?_
      exact ⟨rfl, svi (rat_out (by omega)).symm, rfl, rfl⟩
    · refine V_iload_n dX7_at_12 rfl ?_
      refine V_aload_n dX7_at_13 rfl ?_
      refine V_getr 0 _ dX7_at_14 fl_RX7_15 (by first | with_reducible assumption | rfl) rfl rfl (by first | with_reducible assumption | exact hG.at rfl) ?_
      refine V_alen dX7_at_17 (by first | with_reducible assumption | rfl) ?_
      refine V_icmp_lt 23 dX7_at_18 (by decide) (by omega) (by omega) (fun h18 => ?_) (fun h18 => ?_)
      · refine V_aload_n dX7_at_23 rfl ?_
        refine V_getr 0 _ dX7_at_24 fl_RX7_15 (by first | with_reducible assumption | rfl) rfl rfl (by first | with_reducible assumption | exact hG.at rfl) ?_
        refine V_iload_n dX7_at_27 rfl ?_
        refine V_iald dX7_at_28 (by first | with_reducible assumption | rfl) (by omega) (by omega) ?_
        refine V_iret dX7_at_29 rfl ⟨Nat.le_of_ble_eq_true rfl, Nat.le_of_ble_eq_true rfl⟩ ?_
        exact ⟨rfl, svi (rat_in (by omega)).symm, rfl, rfl⟩
      · exact absurd h9 (by omega)
set_option maxRecDepth 100000 in
theorem c_X7_put {i v : Int} (hi : rng i) (ha : sh[a]? = some (.inl 7)) (hr : mr a 0 = some b) (hb : sh[b]? = some (.inr (0, N))) (hN : N ≤ 1000) (hl : 0 ≤ mi a 1 ∧ mi a 1 ≤ N) : C0 yX7_put cX7_put 3 none 0 sh mi mr [vr a, vi i, vi v] (fun mi' mr' => mr' = mr ∧ mi' = if 0 ≤ i ∧ i < mi a 1 then up2 mi b i v else mi) := by
  refine Ct.ofV (ini := false) [some (vr a), some (vi i), some (vi v)] km_X7_put (by decide) rfl (Nat.le_of_ble_eq_true rfl) ?_
  refine V_iload_n dX7_put_0 rfl ?_
  refine V_if_lt 28 dX7_put_1 (by decide) (by omega) (fun h1 => ?_) (fun h1 => ?_)
  · refine V_vret dX7_put_28 rfl ⟨Nat.le_of_ble_eq_true rfl, Nat.le_of_ble_eq_true rfl⟩ ?_
    exact ⟨rfl, rfl, rfl, by split <;> first | rfl | (exfalso; omega)⟩
  · refine V_iload_n dX7_put_4 rfl ?_
    refine V_aload_n dX7_put_5 rfl ?_
    refine V_geti 1 dX7_put_6 fl_RX7_21 (by first | with_reducible assumption | rfl) rfl rfl ?_
    refine V_icmp_ge 28 dX7_put_9 (by decide) (by omega) (by omega) (fun h9 => ?_) (fun h9 => ?_)
    · refine V_vret dX7_put_28 rfl ⟨Nat.le_of_ble_eq_true rfl, Nat.le_of_ble_eq_true rfl⟩ ?_
      exact ⟨rfl, rfl, rfl, by split <;> first | rfl | (exfalso; omega)⟩
    · refine V_iload_n dX7_put_12 rfl ?_
      refine V_aload_n dX7_put_13 rfl ?_
      refine V_getr 0 _ dX7_put_14 fl_RX7_15 (by first | with_reducible assumption | rfl) rfl rfl (by first | with_reducible assumption | exact hG.at rfl) ?_
      refine V_alen dX7_put_17 (by first | with_reducible assumption | rfl) ?_
      refine V_icmp_ge 28 dX7_put_18 (by decide) (by omega) (by omega) (fun h18 => ?_) (fun h18 => ?_)
      · refine V_vret dX7_put_28 rfl ⟨Nat.le_of_ble_eq_true rfl, Nat.le_of_ble_eq_true rfl⟩ ?_
        exact ⟨rfl, rfl, rfl, by split <;> first | rfl | (exfalso; omega)⟩
      · refine V_aload_n dX7_put_21 rfl ?_
        refine V_getr 0 _ dX7_put_22 fl_RX7_15 (by first | with_reducible assumption | rfl) rfl rfl (by first | with_reducible assumption | exact hG.at rfl) ?_
        refine V_iload_n dX7_put_25 rfl ?_
        refine V_iload_n dX7_put_26 rfl ?_
        refine V_iast dX7_put_27 (by first | with_reducible assumption | rfl) (by omega) (by omega) ?_
        refine V_vret dX7_put_28 rfl ⟨Nat.le_of_ble_eq_true rfl, Nat.le_of_ble_eq_true rfl⟩ ?_
        exact ⟨rfl, rfl, rfl, by split <;> first | rfl | (exfalso; omega)⟩
set_option maxRecDepth 100000 in
theorem c_X7_add {v : Int} (ha : sh[a]? = some (.inl 7)) (hr : mr a 0 = some b) (hb : sh[b]? = some (.inr (0, N))) (hN : N ≤ 1000) (hl : 0 ≤ mi a 1 ∧ mi a 1 ≤ N) (hab : a ≠ b) : C0 yX7_add cX7_add 2 none 0 sh mi mr [vr a, vi v] (fun mi' mr' => mr' = mr ∧ mi' = if mi a 1 < N then up2 (up2 mi b (mi a 1) v) a 1 (mi a 1 + 1) else mi) := by
  refine Ct.ofV (ini := false) [some (vr a), some (vi v)] km_X7_add (by decide) rfl (Nat.le_of_ble_eq_true rfl) ?_
  refine V_aload_n dX7_add_0 rfl ?_
  refine V_geti 1 dX7_add_1 fl_RX7_21 (by first | with_reducible assumption | rfl) rfl rfl ?_
  refine V_if_lt 39 dX7_add_4 (by decide) (by omega) (fun h4 => ?_) (fun h4 => ?_)
  · refine V_vret dX7_add_39 rfl ⟨Nat.le_of_ble_eq_true rfl, Nat.le_of_ble_eq_true rfl⟩ ?_
    exact ⟨rfl, rfl, rfl, by split <;> first | rfl | (exfalso; omega)⟩
  · refine V_aload_n dX7_add_7 rfl ?_
    refine V_geti 1 dX7_add_8 fl_RX7_21 (by first | with_reducible assumption | rfl) rfl rfl ?_
    refine V_aload_n dX7_add_11 rfl ?_
    refine V_getr 0 _ dX7_add_12 fl_RX7_15 (by first | with_reducible assumption | rfl) rfl rfl (by first | with_reducible assumption | exact hG.at rfl) ?_
    refine V_alen dX7_add_15 (by first | with_reducible assumption | rfl) ?_
    refine V_icmp_ge 39 dX7_add_16 (by decide) (by omega) (by omega) (fun h16 => ?_) (fun h16 => ?_)
    · refine V_vret dX7_add_39 rfl ⟨Nat.le_of_ble_eq_true rfl, Nat.le_of_ble_eq_true rfl⟩ ?_
      exact ⟨rfl, rfl, rfl, by split <;> first | rfl | (exfalso; omega)⟩
    · refine V_aload_n dX7_add_19 rfl ?_
      refine V_getr 0 _ dX7_add_20 fl_RX7_15 (by first | with_reducible assumption | rfl) rfl rfl (by first | with_reducible assumption | exact hG.at rfl) ?_
      refine V_aload_n dX7_add_23 rfl ?_
      refine V_geti 1 dX7_add_24 fl_RX7_21 (by first | with_reducible assumption | rfl) rfl rfl ?_
      refine V_iload_n dX7_add_27 rfl ?_
      refine V_iast dX7_add_28 (by first | with_reducible assumption | rfl) (by omega) (by omega) ?_
      refine V_aload_n dX7_add_29 rfl ?_
      refine V_dup dX7_add_30 rfl ?_
      refine V_geti 1 dX7_add_31 fl_RX7_21 (by first | with_reducible assumption | rfl) rfl rfl ?_
      rw [up2_n mi _ _ hab]
      refine V_iconst dX7_add_34 ?_
      refine V_iadd dX7_add_35 ?_
      refine V_puti 1 dX7_add_36 fl_RX7_21 (by first | with_reducible assumption | rfl) rfl rfl rfl ?_
      refine V_vret dX7_add_39 rfl ⟨Nat.le_of_ble_eq_true rfl, Nat.le_of_ble_eq_true rfl⟩ ?_
      exact ⟨rfl, rfl, rfl, by split <;> first | rfl | (exfalso; omega)⟩
set_option maxRecDepth 100000 in
theorem c_X7_empty (ha : sh[a]? = some (.inl 7)) : C0 yX7_empty cX7_empty 1 none 0 sh mi mr [vr a] (fun mi' mr' => mr' = mr ∧ mi' = up2 mi a 1 0) := by
  refine Ct.ofV (ini := false) [some (vr a)] km_X7_empty (by decide) rfl (Nat.le_of_ble_eq_true rfl) ?_
  refine V_aload_n dX7_empty_0 rfl ?_
  refine V_iconst dX7_empty_1 ?_
  refine V_puti 1 dX7_empty_2 fl_RX7_21 (by first | with_reducible assumption | rfl) rfl rfl rfl ?_
  refine V_vret dX7_empty_5 rfl ⟨Nat.le_of_ble_eq_true rfl, Nat.le_of_ble_eq_true rfl⟩ ?_
  exact ⟨rfl, rfl, rfl, rfl⟩
set_option maxRecDepth 100000 in
theorem l_X7_remove {Q : PQ} {f m len : Int} (ha : sh[a]? = some (.inl 7)) (hr : mr a 0 = some b) (hb : sh[b]? = some (.inr (0, N))) (hN : N ≤ 1000) (hab : a ≠ b) (hf : 0 ≤ f) (hm : 1 ≤ m) (hl : f + m ≤ len ∧ len ≤ N)
    (kk : ∀ mi' : MI, mi' a 1 = len → (∀ i, 0 ≤ i → i < len - m → mi' b i = if i < f then mi b i else mi b (i + m)) → (∀ x, x ≠ b → mi' x = mi x) → V (RX7, cX7_remove, 4, rm 1, false, none, none) Q 0 0 sh mi' mr [some (vr a), some (vi f), some (vi m), some (vi len)] [] 30) :
    ∀ (t : Nat) (j : Int) (mi' : MI), f + m ≤ j → j ≤ len → len - j < t → mi' a 1 = len → (∀ i, 0 ≤ i → i < len → mi' b i = if f ≤ i ∧ i < j - m then mi b (i + m) else mi b i) → (∀ x, x ≠ b → mi' x = mi x) → V (RX7, cX7_remove, 4, rm 1, false, none, none) Q 0 0 sh mi' mr [some (vr a), some (vi f), some (vi m), some (vi j)] [] 4 := by
  intro t
  induction t with
  | zero => intro j mi' h1 h2 h3; omega
  | succ t ih =>
    intro j mi' h1 h2 h3 h4 h5 h6
    refine V_iload_n dX7_remove_4 rfl ?_
    refine V_aload_n dX7_remove_5 rfl ?_
    refine V_geti 1 dX7_remove_6 fl_RX7_21 (by first | with_reducible assumption | rfl) rfl rfl ?_
    refine V_icmp_ge 30 dX7_remove_9 (by decide) (by omega) (by omega) (fun h9 => ?_) (fun h9 => ?_)
    · have e : j = len := by omega
      subst e
      refine kk mi' h4 (fun i g1 g2 => ?_) h6
      rw [h5 i g1 (by omega)]
      split <;> split <;> first | rfl | (exfalso; omega)
    · refine V_aload_n dX7_remove_12 rfl ?_
      refine V_iload_n dX7_remove_13 rfl ?_
      refine V_iload_n dX7_remove_14 rfl ?_
      refine V_isub dX7_remove_15 ?_
      refine V_aload_n dX7_remove_16 rfl ?_
      refine V_iload_n dX7_remove_17 rfl ?_
      refine V_callVP dX7_remove_18 ml_RX7_25 km_X7_at kv_X7_at (c_X7_at (i := j) (by omega) ha hr hb hN (by omega)) (by first | with_reducible assumption | rfl) rfl rfl rfl (Nat.le_of_ble_eq_true rfl) ⟨Nat.le_of_ble_eq_true rfl, Nat.le_of_ble_eq_true rfl⟩ ⟨Nat.le_of_ble_eq_true rfl, Nat.le_of_ble_eq_true rfl⟩ ?_
      refine V_callV0 dX7_remove_21 ml_RX7_29 km_X7_put kv_X7_put (c_X7_put (i := j - m) (by omega) ha hr hb hN (by omega)) (by first | with_reducible assumption | rfl) rfl rfl rfl (Nat.le_of_ble_eq_true rfl) ⟨Nat.le_of_ble_eq_true rfl, Nat.le_of_ble_eq_true rfl⟩ ⟨Nat.le_of_ble_eq_true rfl, Nat.le_of_ble_eq_true rfl⟩ ?_
      intro mi2 mr2 hq
      obtain ⟨rfl, rfl⟩ := hq
      rw [if_pos (by omega), rat_in (by omega), h5 j (by omega) (by omega), if_neg (by omega)]
      refine S_iinc (ls' := [_, _, _, _]) dX7_remove_24 rfl ⟨rfl, rfl⟩ rfl ?_
      refine V_goto 4 dX7_remove_27 (by decide) ?_
      refine ih (j + 1) _ (by omega) (by omega) (by omega) (by rw [up2_n mi' _ _ hab]; exact h4) (fun i g1 g2 => ?_) (fun x hx => by rw [up2_n mi' _ _ hx]; exact h6 x hx)
      by_cases hi : i = j - m
      · subst hi
        rw [up2_ss, if_pos (by omega)]
        congr 1
        omega
      · rw [up2_sn mi' b _ hi, h5 i g1 g2]
        split <;> split <;> first | rfl | (exfalso; omega)
set_option maxRecDepth 100000 in
theorem c_X7_remove {f m : Int} (ha : sh[a]? = some (.inl 7)) (hr : mr a 0 = some b) (hb : sh[b]? = some (.inr (0, N))) (hN : N ≤ 1000) (hab : a ≠ b) (hf : 0 ≤ f) (hm : 1 ≤ m) (hl : f + m ≤ mi a 1 ∧ mi a 1 ≤ N) : C0 yX7_remove cX7_remove 4 none 1 sh mi mr [vr a, vi f, vi m] (fun mi' mr' => mr' = mr ∧ mi' a 1 = mi a 1 - m ∧ (∀ i, 0 ≤ i → i < mi a 1 - m → mi' b i = if i < f then mi b i else mi b (i + m)) ∧ (∀ x, x ≠ a → x ≠ b → mi' x = mi x)) := by
  refine Ct.ofV (ini := false) [some (vr a), some (vi f), some (vi m), none] km_X7_remove (by decide) rfl (Nat.le_of_ble_eq_true rfl) ?_
  refine V_iload_n dX7_remove_0 rfl ?_
  refine V_iload_n dX7_remove_1 rfl ?_
  refine V_iadd dX7_remove_2 ?_
  refine S_istore_n (ls' := [_, _, _, _]) dX7_remove_3 ⟨Nat.le_of_ble_eq_true rfl, rfl, rfl⟩ rfl ?_
  refine l_X7_remove (mi := mi) ha hr hb hN hab hf hm hl (fun mi' g1 g2 g3 => ?_) (mi a 1 - (f + m) + 1).toNat (f + m) mi (by omega) (by omega) (by omega) rfl (fun i g1 g2 => by rw [if_neg (by omega)]) (fun x _ => rfl)
  refine V_aload_n dX7_remove_30 rfl ?_
  refine V_aload_n dX7_remove_31 rfl ?_
  refine V_geti 1 dX7_remove_32 fl_RX7_21 (by first | with_reducible assumption | rfl) rfl rfl ?_
  refine V_iload_n dX7_remove_35 rfl ?_
  refine V_isub dX7_remove_36 ?_
  refine V_iconst dX7_remove_37 ?_
  refine V_mmax dX7_remove_38 ml_RX7_9 (by omega) (by omega) ⟨Nat.le_of_ble_eq_true rfl, Nat.le_of_ble_eq_true rfl, Nat.le_of_ble_eq_true rfl, Nat.le_of_ble_eq_true rfl⟩ ?_
  refine V_puti 1 dX7_remove_41 fl_RX7_21 (by first | with_reducible assumption | rfl) rfl rfl rfl ?_
  refine V_vret dX7_remove_44 rfl ⟨Nat.le_of_ble_eq_true rfl, Nat.le_of_ble_eq_true rfl⟩ ?_
  exact ⟨rfl, rfl, rfl, by rw [up2_ss]; omega, fun i h1 h2 => by rw [up2_n mi' _ _ (Ne.symm hab)]; exact g2 i h1 h2, fun x hx hy => by rw [up2_n mi' _ _ hx]; exact g3 x hy⟩
set_option maxRecDepth 100000 in
theorem l_X7_copyFrom {Q : PQ} {a2 b2 N2 : Nat} {len : Int} (ha : sh[a]? = some (.inl 7)) (hr : mr a 0 = some b) (hb : sh[b]? = some (.inr (0, N))) (hN : N ≤ 1000) (ha2 : sh[a2]? = some (.inl 7)) (hr2 : mr a2 0 = some b2) (hb2 : sh[b2]? = some (.inr (0, N2))) (hN2 : N2 ≤ 1000) (hne : a ≠ b ∧ a ≠ a2 ∧ a ≠ b2 ∧ b ≠ a2 ∧ b ≠ b2) (hl : 0 ≤ len ∧ len ≤ N ∧ len ≤ N2) (hl2 : mi a2 1 = len)
    (kk : ∀ mi' : MI, mi' a 1 = len → (∀ i, 0 ≤ i → i < len → mi' b i = mi b2 i) → (∀ x, x ≠ a → x ≠ b → mi' x = mi x) → V (RX7, cX7_copyFrom, 3, rm 1, false, none, none) Q 0 0 sh mi' mr [some (vr a), some (vr a2), some (vi len)] [] 29) :
    ∀ (t : Nat) (j : Int) (mi' : MI), 0 ≤ j → j ≤ len → len - j < t → mi' a 1 = j → (∀ i, 0 ≤ i → i < j → mi' b i = mi b2 i) → (∀ x, x ≠ a → x ≠ b → mi' x = mi x) → V (RX7, cX7_copyFrom, 3, rm 1, false, none, none) Q 0 0 sh mi' mr [some (vr a), some (vr a2), some (vi j)] [] 6 := by
  obtain ⟨n1, n2, n3, n4, n5⟩ := hne
  intro t
  induction t with
  | zero => intro j mi' h1 h2 h3; omega
  | succ t ih =>
    intro j mi' h1 h2 h3 h4 h5 h6
    have e2 : mi' a2 1 = len := by rw [h6 a2 (Ne.symm n2) (Ne.symm n4)]; exact hl2
    have e3 : mi' b2 = mi b2 := h6 b2 (Ne.symm n3) (Ne.symm n5)
    refine V_iload_n dX7_copyFrom_6 rfl ?_
    refine V_aload_n dX7_copyFrom_7 rfl ?_
    refine V_geti 1 dX7_copyFrom_8 fl_RX7_21 (by first | with_reducible assumption | rfl) rfl rfl ?_
    refine V_icmp_ge 29 dX7_copyFrom_11 (by decide) (by omega) (by omega) (fun h11 => ?_) (fun h11 => ?_)
    · have e : j = len := by omega
      subst e
      exact kk mi' h4 h5 h6
    · refine V_aload_n dX7_copyFrom_14 rfl ?_
      refine V_aload_n dX7_copyFrom_15 rfl ?_
      refine V_iload_n dX7_copyFrom_16 rfl ?_
      refine V_callVP dX7_copyFrom_17 ml_RX7_25 km_X7_at kv_X7_at (c_X7_at (i := j) (by omega) ha2 hr2 hb2 hN2 (by omega)) (by first | with_reducible assumption | rfl) rfl rfl rfl (Nat.le_of_ble_eq_true rfl) ⟨Nat.le_of_ble_eq_true rfl, Nat.le_of_ble_eq_true rfl⟩ ⟨Nat.le_of_ble_eq_true rfl, Nat.le_of_ble_eq_true rfl⟩ ?_
      refine V_callV0 dX7_copyFrom_20 ml_RX7_36 km_X7_add kv_X7_add (c_X7_add ha hr hb hN (by omega) n1) (by first | with_reducible assumption | rfl) rfl rfl rfl (Nat.le_of_ble_eq_true rfl) ⟨Nat.le_of_ble_eq_true rfl, Nat.le_of_ble_eq_true rfl⟩ ⟨Nat.le_of_ble_eq_true rfl, Nat.le_of_ble_eq_true rfl⟩ ?_
      intro mi2 mr2 hq
      obtain ⟨rfl, rfl⟩ := hq
      rw [if_pos (by omega), rat_in (by omega), h4, e3]
      refine S_iinc (ls' := [_, _, _]) dX7_copyFrom_23 rfl ⟨rfl, rfl⟩ rfl ?_
      refine V_goto 6 dX7_copyFrom_26 (by decide) ?_
      refine ih (j + 1) _ (by omega) (by omega) (by omega) (by rw [up2_ss]) (fun i g1 g2 => ?_) (fun x hx hy => by rw [up2_n _ _ _ hx, up2_n mi' _ _ hy]; exact h6 x hx hy)
      rw [up2_n _ _ _ (Ne.symm n1)]
      by_cases hi : i = j
      · subst hi
        rw [up2_ss]
      · rw [up2_sn mi' b _ hi, h5 i g1 (by omega)]
set_option maxRecDepth 100000 in
theorem c_X7_copyFrom {a2 b2 N2 : Nat} (ha : sh[a]? = some (.inl 7)) (hr : mr a 0 = some b) (hb : sh[b]? = some (.inr (0, N))) (hN : N ≤ 1000) (ha2 : sh[a2]? = some (.inl 7)) (hr2 : mr a2 0 = some b2) (hb2 : sh[b2]? = some (.inr (0, N2))) (hN2 : N2 ≤ 1000) (hne : a ≠ b ∧ a ≠ a2 ∧ a ≠ b2 ∧ b ≠ a2 ∧ b ≠ b2) (hl : 0 ≤ mi a2 1 ∧ mi a2 1 ≤ N ∧ mi a2 1 ≤ N2) : C0 yX7_copyFrom cX7_copyFrom 3 none 1 sh mi mr [vr a, vr a2] (fun mi' mr' => mr' = mr ∧ mi' a 1 = mi a2 1 ∧ (∀ i, 0 ≤ i → i < mi a2 1 → mi' b i = mi b2 i) ∧ (∀ x, x ≠ a → x ≠ b → mi' x = mi x)) := by
  refine Ct.ofV (ini := false) [some (vr a), some (vr a2), none] km_X7_copyFrom (by decide) rfl (Nat.le_of_ble_eq_true rfl) ?_
  refine V_aload_n dX7_copyFrom_0 rfl ?_
  refine V_callV0 dX7_copyFrom_1 ml_RX7_33 km_X7_empty kv_X7_empty (c_X7_empty ha) (by first | with_reducible assumption | rfl) rfl rfl rfl (Nat.le_of_ble_eq_true rfl) ⟨Nat.le_of_ble_eq_true rfl, Nat.le_of_ble_eq_true rfl⟩ ⟨Nat.le_of_ble_eq_true rfl, Nat.le_of_ble_eq_true rfl⟩ ?_
  intro mi2 mr2 hq
  obtain ⟨rfl, rfl⟩ := hq
  refine V_iconst dX7_copyFrom_4 ?_
  refine S_istore_n (ls' := [_, _, _]) dX7_copyFrom_5 ⟨Nat.le_of_ble_eq_true rfl, rfl, rfl⟩ rfl ?_
  have n := hne
  refine l_X7_copyFrom (mi := up2 mi a 1 0) (len := mi a2 1) ha hr hb hN ha2 hr2 hb2 hN2 hne hl (by rw [up2_n mi _ _ (Ne.symm n.2.1)]) (fun mi' g1 g2 g3 => ?_) (mi a2 1 + 1).toNat 0 _ (by omega) (by omega) (by omega) (by rw [up2_ss]) (fun i g1 g2 => by omega) (fun x _ _ => rfl)
  refine V_vret dX7_copyFrom_29 rfl ⟨Nat.le_of_ble_eq_true rfl, Nat.le_of_ble_eq_true rfl⟩ ?_
  exact ⟨rfl, rfl, rfl, g1, fun i h1 h2 => by rw [g2 i h1 h2, up2_n mi _ _ (Ne.symm n.2.2.1)], fun x hx hy => by rw [g3 x hx hy, up2_n mi _ _ hx]⟩
end ROW
