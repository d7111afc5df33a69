/-! ===== DiagonalTextsModel: cut, exchange, settings, letters, undo, typed texts ===== -/
section MODEL3
variable {mi mi1 mi2 mi3 mi4 : MI} {mr : MR} {n m n' m' tl : Int} {A B A' B' Z T F : Int → Int} {hs hs' : List St} {u : Int × (Int → Int)} {σ : St}
theorem RowM.cut0 {F' : Int → Int} {p k : Int} (h : RowM F (n, m, A, B, Z)) (hn : n ≤ 28) (hp : 0 ≤ p) (hk : 1 ≤ k) (h0 : F' 0 = n - k) (h1 : ∀ i, 0 ≤ i → i < n - k → F' (5 + i) = cutF (fun j => F (5 + j)) p k i) (h2 : ∀ i, i ≠ 0 → (i < 5 ∨ 5 + n - k ≤ i) → F' i = F i) : RowM F' (n - k, m, cutF A p k, B, Z) := by
  obtain ⟨⟨g1, g2⟩, g3, g4, g5⟩ := h
  simp only at g1 g2 g3 g4 g5
  refine ⟨⟨h0, by rw [h2 1 (by omega) (by omega)]; exact g2⟩, fun i i1 i2 => by rw [h2 _ (by omega) (by omega)]; exact g3 i i1 i2, fun i i1 i2 => ?_, fun i i1 i2 => by rw [h2 _ (by omega) (by omega)]; exact g5 i i1 i2⟩
  simp only at i2 ⊢
  rw [h1 i i1 i2]
  unfold cutF
  by_cases hi : i < p
  · rw [if_pos hi, if_pos hi]; exact g4 i i1 (by omega)
  · rw [if_neg hi, if_neg hi]; exact g4 (i + k) (by omega) (by omega)
theorem RowM.cut1 {F' : Int → Int} {p k : Int} (h : RowM F (n, m, A, B, Z)) (hn : n ≤ 28) (hp : 0 ≤ p) (hk : 1 ≤ k) (h0 : F' 1 = m - k) (h1 : ∀ i, 0 ≤ i → i < m - k → F' (33 + i) = cutF (fun j => F (33 + j)) p k i) (h2 : ∀ i, i ≠ 1 → (i < 33 ∨ 33 + m - k ≤ i) → F' i = F i) : RowM F' (n, m - k, A, cutF B p k, Z) := by
  obtain ⟨⟨g1, g2⟩, g3, g4, g5⟩ := h
  simp only at g1 g2 g3 g4 g5
  refine ⟨⟨by rw [h2 0 (by omega) (by omega)]; exact g1, h0⟩, fun i i1 i2 => by rw [h2 _ (by omega) (by omega)]; exact g3 i i1 i2, fun i i1 i2 => by simp only at i2; rw [h2 _ (by omega) (by omega)]; exact g4 i i1 i2, fun i i1 i2 => ?_⟩
  simp only at i2 ⊢
  rw [h1 i i1 i2]
  unfold cutF
  by_cases hi : i < p
  · rw [if_pos hi, if_pos hi]; exact g5 i i1 (by omega)
  · rw [if_neg hi, if_neg hi]; exact g5 (i + k) (by omega) (by omega)
set_option maxRecDepth 100000 in
set_option maxHeartbeats 1000000 in
theorem l_X11_cut {Q : PQ} {row p k L : Int} (hG : Gr mr) (hr : row = 0 ∨ row = 1) (hp : 0 ≤ p) (hk : 1 ≤ k ∧ k ≤ 28) (hL : p ≤ L ∧ L + k ≤ 28) (hm2 : mi 63 row = L)
    (kk : ∀ (mi' : MI) (o : Option AV), (∀ i, 0 ≤ i → i < L → mi' 63 (5 + 28 * row + i) = cutF (fun j => mi 63 (5 + 28 * row + j)) p k i) → (∀ i, (i < 5 + 28 * row ∨ 5 + 28 * row + L ≤ i) → mi' 63 i = mi 63 i) → (∀ x, x ≠ 63 → mi' x = mi x) → V (RX11, cX11_cut, 5, rm 1, false, none, (some .int)) Q 0 0 SH mi' mr [some (vr 62), some (vi row), some (vi p), some (vi k), o] [] 98) :
    ∀ (t : Nat) (j : Int) (mi' : MI), p ≤ j → j ≤ L → L - j < t → (∀ i, 0 ≤ i → i < j → mi' 63 (5 + 28 * row + i) = cutF (fun q => mi 63 (5 + 28 * row + q)) p k i) → (∀ i, (i < 5 + 28 * row ∨ 5 + 28 * row + j ≤ i) → mi' 63 i = mi 63 i) → (∀ x, x ≠ 63 → mi' x = mi x) → V (RX11, cX11_cut, 5, rm 1, false, none, (some .int)) Q 0 0 SH mi' mr [some (vr 62), some (vi row), some (vi p), some (vi k), some (vi j)] [] 58 := by
  intro t
  induction t with
  | zero => intro j mi' a1 a2 a3; omega
  | succ t ih =>
    intro j mi' a1 a2 a3 a4 a5 a6
    have e0 : mi' 63 row = L := by rw [a5 row (by omega)]; exact hm2
    refine V_iload dX11_cut_58 rfl ?_
    refine V_aload_n dX11_cut_60 rfl ?_
    refine V_getr 0 _ dX11_cut_61 fl_RX11_7 (by first | with_reducible assumption | rfl) rfl rfl (by first | with_reducible assumption | exact hG.at rfl) ?_
    refine V_iload_n dX11_cut_64 rfl ?_
    refine V_iald dX11_cut_65 (by first | with_reducible assumption | rfl) (by decide) (by omega) ?_
    rw [e0]
    refine V_icmp_ge 98 dX11_cut_66 (by decide) (by omega) (by omega) (fun h66 => ?_) (fun h66 => ?_)
    · rw [show j = L by omega] at a4 a5
      exact kk mi' _ a4 a5 a6
    · refine V_aload_n dX11_cut_69 rfl ?_
      refine V_getr 0 _ dX11_cut_70 fl_RX11_7 (by first | with_reducible assumption | rfl) rfl rfl (by first | with_reducible assumption | exact hG.at rfl) ?_
      refine V_iconst dX11_cut_73 ?_
      refine V_bipush dX11_cut_74 (by decide) ?_
      refine V_iload_n dX11_cut_76 rfl ?_
      refine V_imul dX11_cut_77 ?_
      refine V_iadd dX11_cut_78 ?_
      refine V_iload dX11_cut_79 rfl ?_
      refine V_iadd dX11_cut_81 ?_
      refine V_aload_n dX11_cut_82 rfl ?_
      refine V_iload_n dX11_cut_83 rfl ?_
      refine V_iload dX11_cut_84 rfl ?_
      refine V_iload_n dX11_cut_86 rfl ?_
      refine V_iadd dX11_cut_87 ?_
      refine V_callVP dX11_cut_88 ml_RX11_52 km_X11_letter kv_X11_letter (c_X11_letter (row := row) (p := j + k) hG hr (by omega)) (by first | with_reducible assumption | rfl) rfl rfl rfl (Nat.le_of_ble_eq_true rfl) ⟨Nat.le_of_ble_eq_true rfl, Nat.le_of_ble_eq_true rfl⟩ ⟨Nat.le_of_ble_eq_true rfl, Nat.le_of_ble_eq_true rfl⟩ ?_
      refine V_iast dX11_cut_91 (by first | with_reducible assumption | rfl) (by decide) (by omega) ?_
      refine S_iinc (ls' := [_, _, _, _, _]) dX11_cut_92 rfl ⟨rfl, rfl⟩ rfl ?_
      refine V_goto 58 dX11_cut_95 (by decide) ?_
      refine ih (j + 1) _ (by omega) (by omega) (by omega) (fun i i1 i2 => ?_) (fun i i1 => by rw [up2_sn _ _ _ (by omega)]; exact a5 i (by omega)) (fun x hx => by rw [up2_n _ _ _ hx]; exact a6 x hx)
      by_cases hi : i = j
      · subst hi
        rw [up2_ss, a5 _ (by omega)]
        unfold cutF
        rw [if_neg (by omega)]
      · rw [up2_sn _ _ _ (by omega)]; exact a4 i i1 (by omega)
set_option maxRecDepth 100000 in
set_option maxHeartbeats 1000000 in
theorem c_X11_cut {row p k : Int} (hG : Gr mr) (hr : rng row) (hp : rng p) (hk : rng k) (h : RepM mi ((n, m, A, B, Z), hs, tl, T)) : C1 yX11_cut cX11_cut 5 (some .int) 1 SH mi mr [vr 62, vi row, vi p, vi k] (PoM (opCut n m A B Z (hs, tl, T) row p k) mi mr) := by
  have hR := h.1
  have hS := h.2.1
  have q0 := hR.1.1
  have q1 := hR.1.2
  have hn := hS.1.1
  have hm := hS.2.1.1
  simp only at q0 q1 hn hm hR
  refine Ct.ofV (ini := false) [some (vr 62), some (vi row), some (vi p), some (vi k), none] km_X11_cut (by decide) rfl (Nat.le_of_ble_eq_true rfl) ?_
  by_cases hin : (0 ≤ row ∧ row ≤ 1) ∧ 0 ≤ p ∧ 1 ≤ k ∧ k ≤ 28
  · have eo : opCut n m A B Z (hs, tl, T) row p k = if row = 0 then (if n - k < p then (-1000002, (n, m, A, B, Z), hs, tl, T) else (n - k, psh ((n, m, A, B, Z), hs, tl, T) (n - k, m, cutF A p k, B, Z))) else if m - k < p then (-1000002, (n, m, A, B, Z), hs, tl, T) else (m - k, psh ((n, m, A, B, Z), hs, tl, T) (n, m - k, A, cutF B p k, Z)) := by
      unfold opCut; rw [if_neg (not_not_intro hin)]
    rw [eo]
    have e2 : (if 1 ≤ k ∧ k ≤ 28 then (1 : Int) else 0) = 1 := if_pos hin.2.2
    rcases (show row = 0 ∨ row = 1 by omega) with rfl | rfl
    · rw [if_pos rfl]
      refine V_iload_n dX11_cut_0 rfl ?_
      refine V_iconst dX11_cut_1 ?_
      refine V_iconst dX11_cut_2 ?_
      refine V_callSP dX11_cut_3 ml_RX11_48 km_X11_in ks_X11_in (c_X11_in (v := 0) (a := 0) (b := 1) (by omega) (by omega) (by omega)) rfl rfl (Nat.le_of_ble_eq_true rfl) ⟨Nat.le_of_ble_eq_true rfl, Nat.le_of_ble_eq_true rfl⟩ ⟨Nat.le_of_ble_eq_true rfl, Nat.le_of_ble_eq_true rfl⟩ ?_
      refine V_if_eq 23 dX11_cut_6 (by decide) (by omega) (fun h6 => absurd h6 ((by decide))) (fun _ => ?_)
      refine V_iload_n dX11_cut_9 rfl ?_
      refine V_if_lt 23 dX11_cut_10 (by decide) (by omega) (fun h10 => absurd h10 ((by omega))) (fun _ => ?_)
      refine V_iload_n dX11_cut_13 rfl ?_
      refine V_iconst dX11_cut_14 ?_
      refine V_bipush dX11_cut_15 (by decide) ?_
      refine V_callSP dX11_cut_17 ml_RX11_48 km_X11_in ks_X11_in (c_X11_in (v := k) (a := 1) (b := 28) (by omega) (by omega) (by omega)) rfl rfl (Nat.le_of_ble_eq_true rfl) ⟨Nat.le_of_ble_eq_true rfl, Nat.le_of_ble_eq_true rfl⟩ ⟨Nat.le_of_ble_eq_true rfl, Nat.le_of_ble_eq_true rfl⟩ ?_
      rw [e2]
      refine V_if_ne 26 dX11_cut_20 (by decide) (by omega) (fun _ => ?_) (fun h20 => absurd h20 ((by decide)))
      refine V_iload_n dX11_cut_26 rfl ?_
      refine V_aload_n dX11_cut_27 rfl ?_
      refine V_getr 0 _ dX11_cut_28 fl_RX11_7 (by first | with_reducible assumption | rfl) rfl rfl (by first | with_reducible assumption | exact hG.at rfl) ?_
      refine V_iload_n dX11_cut_31 rfl ?_
      refine V_iald dX11_cut_32 (by first | with_reducible assumption | rfl) (by decide) (by omega) ?_
      rw [q0]
      refine V_iload_n dX11_cut_33 rfl ?_
      refine V_isub dX11_cut_34 ?_
      refine V_icmp_le 41 dX11_cut_35 (by decide) (by omega) (by omega) (fun h35 => ?_) (fun h35 => ?_)
      · refine V_aload_n dX11_cut_41 rfl ?_
        refine V_callV0 dX11_cut_42 ml_RX11_62 km_X11_keeps kv_X11_keeps (c_X11_keeps hG) (by first | with_reducible assumption | rfl) rfl rfl rfl (Nat.le_of_ble_eq_true rfl) ⟨Nat.le_of_ble_eq_true rfl, Nat.le_of_ble_eq_true rfl⟩ ⟨Nat.le_of_ble_eq_true rfl, Nat.le_of_ble_eq_true rfl⟩ ?_
        rintro mi2 mr2 ⟨rfl, k1, k2⟩
        have e63 : mi2 63 = mi 63 := k2 63 (by decide)
        refine V_aload_n dX11_cut_45 rfl ?_
        refine V_getr 0 _ dX11_cut_46 fl_RX11_7 (by first | with_reducible assumption | rfl) rfl rfl (by first | with_reducible assumption | exact hG.at rfl) ?_
        refine V_iload_n dX11_cut_49 rfl ?_
        refine V_dup2 dX11_cut_50 rfl rfl ?_
        refine V_iald dX11_cut_51 (by first | with_reducible assumption | rfl) (by decide) (by omega) ?_
        rw [show mi2 63 0 = n by rw [e63]; exact q0]
        refine V_iload_n dX11_cut_52 rfl ?_
        refine V_isub dX11_cut_53 ?_
        refine V_iast dX11_cut_54 (by first | with_reducible assumption | rfl) (by decide) (by omega) ?_
        refine V_iload_n dX11_cut_55 rfl ?_
        refine S_istore (ls' := [_, _, _, _, _]) dX11_cut_56 ⟨Nat.le_of_ble_eq_true rfl, rfl, rfl⟩ rfl ?_
        refine l_X11_cut (mi := up2 mi2 63 0 (n - k)) (L := n - k) hG (Or.inl rfl) hin.2.1 hin.2.2 (by omega) (up2_ss _ _ _ _) (fun mi3 o c1 c2 c3 => ?_) 30 p _ (by omega) (by omega) (by omega) (fun i i1 i2 => by unfold cutF; rw [if_pos i2]) (fun _ _ => rfl) (fun _ _ => rfl)
        have c3' : ∀ x, x ≠ 63 → mi3 x = mi2 x := fun x x1 => by rw [c3 x x1, up2_n _ _ _ x1]
        have hpre := act_pre h k1 k2 c3'
        have e0 : mi3 63 0 = n - k := by rw [c2 0 (by omega), up2_ss]
        have hrow : RowM (mi3 63) (n - k, m, cutF A p k, B, Z) := hR.cut0 hn.2 hin.2.1 hin.2.2.1 e0 (fun i i1 i2 => by have := c1 i i1 i2; rw [show (5 : Int) + 28 * 0 + i = 5 + i by omega] at this; rw [this]; unfold cutF; split <;> (dsimp only; rw [up2_sn _ _ _ (by omega), e63] <;> (congr 1 <;> omega))) (fun i i1 i2 => by rw [c2 i (by omega), up2_sn _ _ _ i1, e63])
        refine V_aload_n dX11_cut_98 rfl ?_
        refine V_aload_n dX11_cut_99 rfl ?_
        refine V_getr 0 _ dX11_cut_100 fl_RX11_7 (by first | with_reducible assumption | rfl) rfl rfl (by first | with_reducible assumption | exact hG.at rfl) ?_
        refine V_iload_n dX11_cut_103 rfl ?_
        refine V_iald dX11_cut_104 (by first | with_reducible assumption | rfl) (by decide) (by omega) ?_
        rw [e0]
        refine V_callV1 dX11_cut_105 ml_RX11_65 km_X11_acted kv_X11_acted (c_X11_acted (r := n - k) hG (by omega) (by omega) hpre.1 hpre.2 hS) (by first | with_reducible assumption | rfl) rfl rfl rfl (Nat.le_of_ble_eq_true rfl) ⟨Nat.le_of_ble_eq_true rfl, Nat.le_of_ble_eq_true rfl⟩ ⟨Nat.le_of_ble_eq_true rfl, Nat.le_of_ble_eq_true rfl⟩ ?_
        rintro v mi4 mr4 ⟨rfl, rfl, a1, a2, a3⟩
        refine V_iret dX11_cut_108 rfl ⟨Nat.le_of_ble_eq_true rfl, Nat.le_of_ble_eq_true rfl⟩ ?_
        rw [if_neg (show ¬ n - k < p by omega)]
        exact ⟨rfl, _, rfl, rfl, rfl, act_post h k2 c3' hrow ⟨NR.cut (n := n) (A := A) hS.1 hin.2.1 hin.2.2.1 (by omega), hS.2⟩ a1 a2 a3⟩
      · refine V_ldc (-1000002) dX11_cut_38 kc_RX11_69 rfl ?_
        refine V_iret dX11_cut_40 rfl ⟨Nat.le_of_ble_eq_true rfl, Nat.le_of_ble_eq_true rfl⟩ ?_
        exact ⟨rfl, _, rfl, by rw [if_pos (by omega)], rfl, by rw [if_pos (by omega)]; exact h, fun _ _ => rfl⟩
    · rw [if_neg (show ¬ (1 : Int) = 0 by decide)]
      refine V_iload_n dX11_cut_0 rfl ?_
      refine V_iconst dX11_cut_1 ?_
      refine V_iconst dX11_cut_2 ?_
      refine V_callSP dX11_cut_3 ml_RX11_48 km_X11_in ks_X11_in (c_X11_in (v := 1) (a := 0) (b := 1) (by omega) (by omega) (by omega)) rfl rfl (Nat.le_of_ble_eq_true rfl) ⟨Nat.le_of_ble_eq_true rfl, Nat.le_of_ble_eq_true rfl⟩ ⟨Nat.le_of_ble_eq_true rfl, Nat.le_of_ble_eq_true rfl⟩ ?_
      refine V_if_eq 23 dX11_cut_6 (by decide) (by omega) (fun h6 => absurd h6 ((by decide))) (fun _ => ?_)
      refine V_iload_n dX11_cut_9 rfl ?_
      refine V_if_lt 23 dX11_cut_10 (by decide) (by omega) (fun h10 => absurd h10 ((by omega))) (fun _ => ?_)
      refine V_iload_n dX11_cut_13 rfl ?_
      refine V_iconst dX11_cut_14 ?_
      refine V_bipush dX11_cut_15 (by decide) ?_
      refine V_callSP dX11_cut_17 ml_RX11_48 km_X11_in ks_X11_in (c_X11_in (v := k) (a := 1) (b := 28) (by omega) (by omega) (by omega)) rfl rfl (Nat.le_of_ble_eq_true rfl) ⟨Nat.le_of_ble_eq_true rfl, Nat.le_of_ble_eq_true rfl⟩ ⟨Nat.le_of_ble_eq_true rfl, Nat.le_of_ble_eq_true rfl⟩ ?_
      rw [e2]
      refine V_if_ne 26 dX11_cut_20 (by decide) (by omega) (fun _ => ?_) (fun h20 => absurd h20 ((by decide)))
      refine V_iload_n dX11_cut_26 rfl ?_
      refine V_aload_n dX11_cut_27 rfl ?_
      refine V_getr 0 _ dX11_cut_28 fl_RX11_7 (by first | with_reducible assumption | rfl) rfl rfl (by first | with_reducible assumption | exact hG.at rfl) ?_
      refine V_iload_n dX11_cut_31 rfl ?_
      refine V_iald dX11_cut_32 (by first | with_reducible assumption | rfl) (by decide) (by omega) ?_
      rw [q1]
      refine V_iload_n dX11_cut_33 rfl ?_
      refine V_isub dX11_cut_34 ?_
      refine V_icmp_le 41 dX11_cut_35 (by decide) (by omega) (by omega) (fun h35 => ?_) (fun h35 => ?_)
      · refine V_aload_n dX11_cut_41 rfl ?_
        refine V_callV0 dX11_cut_42 ml_RX11_62 km_X11_keeps kv_X11_keeps (c_X11_keeps hG) (by first | with_reducible assumption | rfl) rfl rfl rfl (Nat.le_of_ble_eq_true rfl) ⟨Nat.le_of_ble_eq_true rfl, Nat.le_of_ble_eq_true rfl⟩ ⟨Nat.le_of_ble_eq_true rfl, Nat.le_of_ble_eq_true rfl⟩ ?_
        rintro mi2 mr2 ⟨rfl, k1, k2⟩
        have e63 : mi2 63 = mi 63 := k2 63 (by decide)
        refine V_aload_n dX11_cut_45 rfl ?_
        refine V_getr 0 _ dX11_cut_46 fl_RX11_7 (by first | with_reducible assumption | rfl) rfl rfl (by first | with_reducible assumption | exact hG.at rfl) ?_
        refine V_iload_n dX11_cut_49 rfl ?_
        refine V_dup2 dX11_cut_50 rfl rfl ?_
        refine V_iald dX11_cut_51 (by first | with_reducible assumption | rfl) (by decide) (by omega) ?_
        rw [show mi2 63 1 = m by rw [e63]; exact q1]
        refine V_iload_n dX11_cut_52 rfl ?_
        refine V_isub dX11_cut_53 ?_
        refine V_iast dX11_cut_54 (by first | with_reducible assumption | rfl) (by decide) (by omega) ?_
        refine V_iload_n dX11_cut_55 rfl ?_
        refine S_istore (ls' := [_, _, _, _, _]) dX11_cut_56 ⟨Nat.le_of_ble_eq_true rfl, rfl, rfl⟩ rfl ?_
        refine l_X11_cut (mi := up2 mi2 63 1 (m - k)) (L := m - k) hG (Or.inr rfl) hin.2.1 hin.2.2 (by omega) (up2_ss _ _ _ _) (fun mi3 o c1 c2 c3 => ?_) 30 p _ (by omega) (by omega) (by omega) (fun i i1 i2 => by unfold cutF; rw [if_pos i2]) (fun _ _ => rfl) (fun _ _ => rfl)
        have c3' : ∀ x, x ≠ 63 → mi3 x = mi2 x := fun x x1 => by rw [c3 x x1, up2_n _ _ _ x1]
        have hpre := act_pre h k1 k2 c3'
        have e0 : mi3 63 1 = m - k := by rw [c2 1 (by omega), up2_ss]
        have hrow : RowM (mi3 63) (n, m - k, A, cutF B p k, Z) := hR.cut1 hn.2 hin.2.1 hin.2.2.1 e0 (fun i i1 i2 => by have := c1 i i1 i2; rw [show (5 : Int) + 28 * 1 + i = 33 + i by omega] at this; rw [this]; unfold cutF; split <;> (dsimp only; rw [up2_sn _ _ _ (by omega), e63] <;> (congr 1 <;> omega))) (fun i i1 i2 => by rw [c2 i (by omega), up2_sn _ _ _ i1, e63])
        refine V_aload_n dX11_cut_98 rfl ?_
        refine V_aload_n dX11_cut_99 rfl ?_
        refine V_getr 0 _ dX11_cut_100 fl_RX11_7 (by first | with_reducible assumption | rfl) rfl rfl (by first | with_reducible assumption | exact hG.at rfl) ?_
        refine V_iload_n dX11_cut_103 rfl ?_
        refine V_iald dX11_cut_104 (by first | with_reducible assumption | rfl) (by decide) (by omega) ?_
        rw [e0]
        refine V_callV1 dX11_cut_105 ml_RX11_65 km_X11_acted kv_X11_acted (c_X11_acted (r := m - k) hG (by omega) (by omega) hpre.1 hpre.2 hS) (by first | with_reducible assumption | rfl) rfl rfl rfl (Nat.le_of_ble_eq_true rfl) ⟨Nat.le_of_ble_eq_true rfl, Nat.le_of_ble_eq_true rfl⟩ ⟨Nat.le_of_ble_eq_true rfl, Nat.le_of_ble_eq_true rfl⟩ ?_
        rintro v mi4 mr4 ⟨rfl, rfl, a1, a2, a3⟩
        refine V_iret dX11_cut_108 rfl ⟨Nat.le_of_ble_eq_true rfl, Nat.le_of_ble_eq_true rfl⟩ ?_
        rw [if_neg (show ¬ m - k < p by omega)]
        exact ⟨rfl, _, rfl, rfl, rfl, act_post h k2 c3' hrow ⟨hS.1, NR.cut (n := m) (A := B) hS.2.1 hin.2.1 hin.2.2.1 (by omega), hS.2.2⟩ a1 a2 a3⟩
      · refine V_ldc (-1000002) dX11_cut_38 kc_RX11_69 rfl ?_
        refine V_iret dX11_cut_40 rfl ⟨Nat.le_of_ble_eq_true rfl, Nat.le_of_ble_eq_true rfl⟩ ?_
        exact ⟨rfl, _, rfl, by rw [if_pos (by omega)], rfl, by rw [if_pos (by omega)]; exact h, fun _ _ => rfl⟩
  · have eo : opCut n m A B Z (hs, tl, T) row p k = (-1000001, (n, m, A, B, Z), hs, tl, T) := by unfold opCut; rw [if_pos hin]
    rw [eo]
    refine V_iload_n dX11_cut_0 rfl ?_
    refine V_iconst dX11_cut_1 ?_
    refine V_iconst dX11_cut_2 ?_
    refine V_callSP dX11_cut_3 ml_RX11_48 km_X11_in ks_X11_in (c_X11_in (v := row) (a := 0) (b := 1) (by omega) (by omega) (by omega)) rfl rfl (Nat.le_of_ble_eq_true rfl) ⟨Nat.le_of_ble_eq_true rfl, Nat.le_of_ble_eq_true rfl⟩ ⟨Nat.le_of_ble_eq_true rfl, Nat.le_of_ble_eq_true rfl⟩ ?_
    refine V_if_eq 23 dX11_cut_6 (by decide) (by split <;> omega) (fun h6 => ?_) (fun h6 => ?_)
    · refine V_ldc (-1000001) dX11_cut_23 kc_RX11_56 rfl ?_
      refine V_iret dX11_cut_25 rfl ⟨Nat.le_of_ble_eq_true rfl, Nat.le_of_ble_eq_true rfl⟩ ?_
      exact ⟨rfl, _, rfl, rfl, rfl, h, fun _ _ => rfl⟩
    · refine V_iload_n dX11_cut_9 rfl ?_
      refine V_if_lt 23 dX11_cut_10 (by decide) (by omega) (fun h10 => ?_) (fun h10 => ?_)
      · refine V_ldc (-1000001) dX11_cut_23 kc_RX11_56 rfl ?_
        refine V_iret dX11_cut_25 rfl ⟨Nat.le_of_ble_eq_true rfl, Nat.le_of_ble_eq_true rfl⟩ ?_
        exact ⟨rfl, _, rfl, rfl, rfl, h, fun _ _ => rfl⟩
      · refine V_iload_n dX11_cut_13 rfl ?_
        refine V_iconst dX11_cut_14 ?_
        refine V_bipush dX11_cut_15 (by decide) ?_
        refine V_callSP dX11_cut_17 ml_RX11_48 km_X11_in ks_X11_in (c_X11_in (v := k) (a := 1) (b := 28) (by omega) (by omega) (by omega)) rfl rfl (Nat.le_of_ble_eq_true rfl) ⟨Nat.le_of_ble_eq_true rfl, Nat.le_of_ble_eq_true rfl⟩ ⟨Nat.le_of_ble_eq_true rfl, Nat.le_of_ble_eq_true rfl⟩ ?_
        refine V_if_ne 26 dX11_cut_20 (by decide) (by split <;> omega) (fun h20 => ?_) (fun h20 => ?_)
        · exact absurd (by rw [ifz] at h6 h20; rw [Decidable.not_not] at h6 h20; exact ⟨h6, by omega, h20⟩) hin
        · refine V_ldc (-1000001) dX11_cut_23 kc_RX11_56 rfl ?_
          refine V_iret dX11_cut_25 rfl ⟨Nat.le_of_ble_eq_true rfl, Nat.le_of_ble_eq_true rfl⟩ ?_
          exact ⟨rfl, _, rfl, rfl, rfl, h, fun _ _ => rfl⟩
set_option maxRecDepth 100000 in
set_option maxHeartbeats 1000000 in
theorem c_X11_exchange (hG : Gr mr) (h : RepM mi ((n, m, A, B, Z), hs, tl, T)) : C1 yX11_exchange cX11_exchange 2 (some .int) 1 SH mi mr [vr 62] (PoM (opExchange n m A B Z (hs, tl, T)) mi mr) := by
  have hR := h.1
  have hS := h.2.1
  have q0 := hR.1.1
  have q1 := hR.1.2
  have hn := hS.1.1
  have hm := hS.2.1.1
  simp only at q0 q1 hn hm hR
  have loop : ∀ (mi1 : MI), (∀ k, 0 ≤ k → k < 61 → mi1 65 k = mi 63 k) → ∀ (Q : PQ), (∀ (mi' : MI) (o : Option AV), (∀ i, 0 ≤ i → i < 28 → mi' 63 (5 + i) = mi 63 (33 + i) ∧ mi' 63 (33 + i) = mi 63 (5 + i)) → (∀ i, i < 5 → mi' 63 i = mi1 63 i) → (∀ x, x ≠ 63 → mi' x = mi1 x) → V (RX11, cX11_exchange, 2, rm 1, false, none, (some .int)) Q 0 0 SH mi' mr [some (vr 62), o] [] 76) → ∀ (t : Nat) (j : Int) (mi' : MI), 0 ≤ j → j ≤ 28 → 28 - j < t → (∀ i, 0 ≤ i → i < j → mi' 63 (5 + i) = mi 63 (33 + i) ∧ mi' 63 (33 + i) = mi 63 (5 + i)) → (∀ i, i < 5 → mi' 63 i = mi1 63 i) → (∀ x, x ≠ 63 → mi' x = mi1 x) → V (RX11, cX11_exchange, 2, rm 1, false, none, (some .int)) Q 0 0 SH mi' mr [some (vr 62), some (vi j)] [] 30 := by
    intro mi1 hb Q kk t
    induction t with
    | zero => intro j mi' a1 a2 a3; omega
    | succ t ih =>
      intro j mi' a1 a2 a3 a4 a5 a6
      have e1 : j < 28 → mi' 65 (33 + j) = mi 63 (33 + j) := fun h28 => by rw [a6 65 (by decide), hb _ (by omega) (by omega)]
      have e2 : j < 28 → mi' 65 (5 + j) = mi 63 (5 + j) := fun h28 => by rw [a6 65 (by decide), hb _ (by omega) (by omega)]
      refine V_iload_n dX11_exchange_30 rfl ?_
      refine V_bipush dX11_exchange_31 (by decide) ?_
      refine V_icmp_ge 76 dX11_exchange_33 (by decide) (by omega) (by omega) (fun h33 => ?_) (fun h33 => ?_)
      · rw [show j = 28 by omega] at a4
        exact kk mi' _ a4 a5 a6
      · refine V_aload_n dX11_exchange_36 rfl ?_
        refine V_getr 0 _ dX11_exchange_37 fl_RX11_7 (by first | with_reducible assumption | rfl) rfl rfl (by first | with_reducible assumption | exact hG.at rfl) ?_
        refine V_iconst dX11_exchange_40 ?_
        refine V_iload_n dX11_exchange_41 rfl ?_
        refine V_iadd dX11_exchange_42 ?_
        refine V_aload_n dX11_exchange_43 rfl ?_
        refine V_getr 2 _ dX11_exchange_44 fl_RX11_16 (by first | with_reducible assumption | rfl) rfl rfl (by first | with_reducible assumption | exact hG.at rfl) ?_
        refine V_bipush dX11_exchange_47 (by decide) ?_
        refine V_iload_n dX11_exchange_49 rfl ?_
        refine V_iadd dX11_exchange_50 ?_
        refine V_iald dX11_exchange_51 (by first | with_reducible assumption | rfl) (by decide) (by omega) ?_
        rw [e1 (by omega)]
        refine V_iast dX11_exchange_52 (by first | with_reducible assumption | rfl) (by decide) (by omega) ?_
        refine V_aload_n dX11_exchange_53 rfl ?_
        refine V_getr 0 _ dX11_exchange_54 fl_RX11_7 (by first | with_reducible assumption | rfl) rfl rfl (by first | with_reducible assumption | exact hG.at rfl) ?_
        refine V_bipush dX11_exchange_57 (by decide) ?_
        refine V_iload_n dX11_exchange_59 rfl ?_
        refine V_iadd dX11_exchange_60 ?_
        refine V_aload_n dX11_exchange_61 rfl ?_
        refine V_getr 2 _ dX11_exchange_62 fl_RX11_16 (by first | with_reducible assumption | rfl) rfl rfl (by first | with_reducible assumption | exact hG.at rfl) ?_
        refine V_iconst dX11_exchange_65 ?_
        refine V_iload_n dX11_exchange_66 rfl ?_
        refine V_iadd dX11_exchange_67 ?_
        refine V_iald dX11_exchange_68 (by first | with_reducible assumption | rfl) (by decide) (by omega) ?_
        rw [up2_n _ _ _ (by decide), e2 (by omega)]
        refine V_iast dX11_exchange_69 (by first | with_reducible assumption | rfl) (by decide) (by omega) ?_
        refine S_iinc (ls' := [_, _]) dX11_exchange_70 rfl ⟨rfl, rfl⟩ rfl ?_
        refine V_goto 30 dX11_exchange_73 (by decide) ?_
        refine ih (j + 1) _ (by omega) (by omega) (by omega) (fun i i1 i2 => ?_) (fun i i1 => by rw [up2_sn _ _ _ (by omega), up2_sn _ _ _ (by omega)]; exact a5 i i1) (fun x hx => by rw [up2_n _ _ _ hx, up2_n _ _ _ hx]; exact a6 x hx)
        by_cases hi : i = j
        · subst hi
          exact ⟨by rw [up2_sn _ _ _ (by omega), up2_ss], by rw [up2_ss]⟩
        · rw [up2_sn _ _ _ (by omega), up2_sn _ _ _ (by omega), up2_sn _ _ _ (by omega), up2_sn _ _ _ (by omega)]; exact a4 i i1 (by omega)
  refine Ct.ofV (ini := false) [some (vr 62), none] km_X11_exchange (by decide) rfl (Nat.le_of_ble_eq_true rfl) ?_
  refine V_aload_n dX11_exchange_0 rfl ?_
  refine V_callV0 dX11_exchange_1 ml_RX11_62 km_X11_keeps kv_X11_keeps (c_X11_keeps hG) (by first | with_reducible assumption | rfl) rfl rfl rfl (Nat.le_of_ble_eq_true rfl) ⟨Nat.le_of_ble_eq_true rfl, Nat.le_of_ble_eq_true rfl⟩ ⟨Nat.le_of_ble_eq_true rfl, Nat.le_of_ble_eq_true rfl⟩ ?_
  rintro mi2 mr2 ⟨rfl, k1, k2⟩
  have e63 : mi2 63 = mi 63 := k2 63 (by decide)
  refine V_aload_n dX11_exchange_4 rfl ?_
  refine V_getr 0 _ dX11_exchange_5 fl_RX11_7 (by first | with_reducible assumption | rfl) rfl rfl (by first | with_reducible assumption | exact hG.at rfl) ?_
  refine V_iconst dX11_exchange_8 ?_
  refine V_aload_n dX11_exchange_9 rfl ?_
  refine V_getr 2 _ dX11_exchange_10 fl_RX11_16 (by first | with_reducible assumption | rfl) rfl rfl (by first | with_reducible assumption | exact hG.at rfl) ?_
  refine V_iconst dX11_exchange_13 ?_
  refine V_iald dX11_exchange_14 (by first | with_reducible assumption | rfl) (by decide) (by omega) ?_
  rw [k1 1 (by decide) (by decide), q1]
  refine V_iast dX11_exchange_15 (by first | with_reducible assumption | rfl) (by decide) (by omega) ?_
  refine V_aload_n dX11_exchange_16 rfl ?_
  refine V_getr 0 _ dX11_exchange_17 fl_RX11_7 (by first | with_reducible assumption | rfl) rfl rfl (by first | with_reducible assumption | exact hG.at rfl) ?_
  refine V_iconst dX11_exchange_20 ?_
  refine V_aload_n dX11_exchange_21 rfl ?_
  refine V_getr 2 _ dX11_exchange_22 fl_RX11_16 (by first | with_reducible assumption | rfl) rfl rfl (by first | with_reducible assumption | exact hG.at rfl) ?_
  refine V_iconst dX11_exchange_25 ?_
  refine V_iald dX11_exchange_26 (by first | with_reducible assumption | rfl) (by decide) (by omega) ?_
  rw [up2_n _ _ _ (by decide), k1 0 (by decide) (by decide), q0]
  refine V_iast dX11_exchange_27 (by first | with_reducible assumption | rfl) (by decide) (by omega) ?_
  refine V_iconst dX11_exchange_28 ?_
  refine S_istore_n (ls' := [_, _]) dX11_exchange_29 ⟨Nat.le_of_ble_eq_true rfl, rfl, rfl⟩ rfl ?_
  refine loop (up2 (up2 mi2 63 0 m) 63 1 n) (fun k k0 k9 => by rw [up2_n _ _ _ (by decide), up2_n _ _ _ (by decide)]; exact k1 k k0 k9) _ (fun mi3 o c1 c2 c3 => ?_) 29 0 _ (by omega) (by omega) (by omega) (fun i i1 i2 => by omega) (fun _ _ => rfl) (fun _ _ => rfl)
  have c3' : ∀ x, x ≠ 63 → mi3 x = mi2 x := fun x x1 => by rw [c3 x x1, up2_n _ _ _ x1, up2_n _ _ _ x1]
  have hpre := act_pre h k1 k2 c3'
  have e0 : mi3 63 0 = m := by rw [c2 0 (by omega), up2_sn _ _ _ (by decide), up2_ss]
  have hrow : RowM (mi3 63) (m, n, B, A, Z) := by
    refine ⟨⟨e0, by rw [c2 1 (by omega), up2_ss]⟩, fun i i1 i2 => ?_, fun i i1 i2 => ?_, fun i i1 i2 => ?_⟩ <;> simp only at *
    · rw [c2 _ (by omega), up2_sn _ _ _ (by omega), up2_sn _ _ _ (by omega), e63]; exact hR.2.1 i i1 i2
    · rw [(c1 i i1 (by omega)).1]; exact hR.2.2.2 i i1 i2
    · rw [(c1 i i1 (by omega)).2]; exact hR.2.2.1 i i1 i2
  refine V_aload_n dX11_exchange_76 rfl ?_
  refine V_aload_n dX11_exchange_77 rfl ?_
  refine V_getr 0 _ dX11_exchange_78 fl_RX11_7 (by first | with_reducible assumption | rfl) rfl rfl (by first | with_reducible assumption | exact hG.at rfl) ?_
  refine V_iconst dX11_exchange_81 ?_
  refine V_iald dX11_exchange_82 (by first | with_reducible assumption | rfl) (by decide) (by omega) ?_
  rw [e0]
  refine V_callV1 dX11_exchange_83 ml_RX11_65 km_X11_acted kv_X11_acted (c_X11_acted (r := m) hG (by omega) (by omega) hpre.1 hpre.2 hS) (by first | with_reducible assumption | rfl) rfl rfl rfl (Nat.le_of_ble_eq_true rfl) ⟨Nat.le_of_ble_eq_true rfl, Nat.le_of_ble_eq_true rfl⟩ ⟨Nat.le_of_ble_eq_true rfl, Nat.le_of_ble_eq_true rfl⟩ ?_
  rintro v mi4 mr4 ⟨rfl, rfl, a1, a2, a3⟩
  refine V_iret dX11_exchange_86 rfl ⟨Nat.le_of_ble_eq_true rfl, Nat.le_of_ble_eq_true rfl⟩ ?_
  exact ⟨rfl, _, rfl, rfl, rfl, act_post h k2 c3' hrow ⟨hS.2.1, hS.1, hS.2.2⟩ a1 a2 a3⟩
end MODEL3
