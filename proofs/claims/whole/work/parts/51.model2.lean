/-! ===== DiagonalTextsModel: the rows ===== -/
section MODEL2
variable {mi mi1 mi2 mi3 mi4 : MI} {mr : MR} {n m n' m' tl : Int} {A B A' B' Z T F : Int → Int} {hs hs' : List St} {u : Int × (Int → Int)} {σ : St}
theorem act_pre (h : RepM mi ((n, m, A, B, Z), hs, u)) (k1 : ∀ k, 0 ≤ k → k < 61 → mi2 65 k = mi 63 k) (k2 : ∀ x, x ≠ 65 → mi2 x = mi x) (k3 : ∀ x, x ≠ 63 → mi3 x = mi2 x) : MHist mi3 hs ∧ RowM (mi3 65) (n, m, A, B, Z) := by
  refine ⟨h.2.2.1.keep (by rw [k3 62 (by decide), k2 62 (by decide)]) (by rw [k3 64 (by decide), k2 64 (by decide)]), ?_⟩
  rw [k3 65 (by decide)]
  exact h.1.eq ⟨h.2.1.1.1.2, h.2.1.2.1.1.2⟩ k1
theorem act_post (h : RepM mi ((n, m, A, B, Z), hs, u)) (k2 : ∀ x, x ≠ 65 → mi2 x = mi x) (k3 : ∀ x, x ≠ 63 → mi3 x = mi2 x) (hrow : RowM (mi3 63) σ) (hv : StV σ) (a1 : MHist mi4 hs') (a2 : ∀ x, x ≠ 62 → x ≠ 64 → mi4 x = mi3 x) (a3 : ∀ j, j ≠ 3 → mi4 62 j = mi3 62 j) : RepM mi4 (σ, hs', u) ∧ ∀ x, x < 62 → mi4 x = mi x := by
  refine ⟨⟨by rw [a2 63 (by decide) (by decide)]; exact hrow, hv, a1, h.2.2.2.keep (by rw [a3 5 (by decide), k3 62 (by decide), k2 62 (by decide)]) (by rw [a2 66 (by decide) (by decide), k3 66 (by decide), k2 66 (by decide)])⟩, fun x hx => by rw [a2 x (by omega) (by omega), k3 x (by omega), k2 x (by omega)]⟩
theorem RowM.app0 {l : Int} (h : RowM F (n, m, A, B, Z)) (hn : 0 ≤ n ∧ n < 28) : RowM (up1 (up1 F (5 + n) l) 0 (n + 1)) (n + 1, m, fset A n l, B, Z) := by
  obtain ⟨⟨h1, h2⟩, h3, h4, h5⟩ := h
  simp only at h1 h2 h3 h4 h5
  refine ⟨⟨by simp [up1], by simp only [up1]; rw [if_neg (by decide), if_neg (by omega)]; exact h2⟩, fun i i1 i2 => ?_, fun i i1 i2 => ?_, fun i i1 i2 => ?_⟩ <;> simp only [up1, fset] at *
  · rw [if_neg (by omega), if_neg (by omega)]; exact h3 i i1 i2
  · rw [if_neg (by omega)]
    by_cases hi : i = n
    · rw [if_pos (by omega), if_pos hi]
    · rw [if_neg (by omega), if_neg hi]; exact h4 i i1 (by omega)
  · rw [if_neg (by omega), if_neg (by omega)]; exact h5 i i1 i2
theorem RowM.app1 {l : Int} (h : RowM F (n, m, A, B, Z)) (hm : 0 ≤ m ∧ m < 28) (hn : n ≤ 28) : RowM (up1 (up1 F (33 + m) l) 1 (m + 1)) (n, m + 1, A, fset B m l, Z) := by
  obtain ⟨⟨h1, h2⟩, h3, h4, h5⟩ := h
  simp only at h1 h2 h3 h4 h5
  refine ⟨⟨by simp only [up1]; rw [if_neg (by decide), if_neg (by omega)]; exact h1, by simp [up1]⟩, fun i i1 i2 => ?_, fun i i1 i2 => ?_, fun i i1 i2 => ?_⟩ <;> simp only [up1, fset] at *
  · rw [if_neg (by omega), if_neg (by omega)]; exact h3 i i1 i2
  · rw [if_neg (by omega), if_neg (by omega)]; exact h4 i i1 i2
  · rw [if_neg (by omega)]
    by_cases hi : i = m
    · rw [if_pos (by omega), if_pos hi]
    · rw [if_neg (by omega), if_neg hi]; exact h5 i i1 (by omega)
theorem RowM.chg0 {p l : Int} (h : RowM F (n, m, A, B, Z)) (hn : n ≤ 28) (hp : 0 ≤ p ∧ p < n) : RowM (up1 F (5 + p) l) (n, m, fset A p l, B, Z) := by
  obtain ⟨⟨h1, h2⟩, h3, h4, h5⟩ := h
  simp only at h1 h2 h3 h4 h5
  refine ⟨⟨by simp only [up1]; rw [if_neg (by omega)]; exact h1, by simp only [up1]; rw [if_neg (by omega)]; exact h2⟩, fun i i1 i2 => ?_, fun i i1 i2 => ?_, fun i i1 i2 => ?_⟩ <;> simp only [up1, fset] at *
  · rw [if_neg (by omega)]; exact h3 i i1 i2
  · by_cases hi : i = p
    · rw [if_pos (by omega), if_pos hi]
    · rw [if_neg (by omega), if_neg hi]; exact h4 i i1 (by omega)
  · rw [if_neg (by omega)]; exact h5 i i1 i2
theorem RowM.chg1 {p l : Int} (h : RowM F (n, m, A, B, Z)) (hn : n ≤ 28) (hp : 0 ≤ p ∧ p < m) : RowM (up1 F (33 + p) l) (n, m, A, fset B p l, Z) := by
  obtain ⟨⟨h1, h2⟩, h3, h4, h5⟩ := h
  simp only at h1 h2 h3 h4 h5
  refine ⟨⟨by simp only [up1]; rw [if_neg (by omega)]; exact h1, by simp only [up1]; rw [if_neg (by omega)]; exact h2⟩, fun i i1 i2 => ?_, fun i i1 i2 => ?_, fun i i1 i2 => ?_⟩ <;> simp only [up1, fset] at *
  · rw [if_neg (by omega)]; exact h3 i i1 i2
  · rw [if_neg (by omega)]; exact h4 i i1 i2
  · by_cases hi : i = p
    · rw [if_pos (by omega), if_pos hi]
    · rw [if_neg (by omega), if_neg hi]; exact h5 i i1 (by omega)
theorem RowM.set {w v : Int} (h : RowM F (n, m, A, B, Z)) (hw : 0 ≤ w ∧ w ≤ 2) : RowM (up1 F (2 + w) v) (n, m, A, B, fset Z w v) := by
  obtain ⟨⟨h1, h2⟩, h3, h4, h5⟩ := h
  simp only at h1 h2 h3 h4 h5
  refine ⟨⟨by simp only [up1]; rw [if_neg (by omega)]; exact h1, by simp only [up1]; rw [if_neg (by omega)]; exact h2⟩, fun i i1 i2 => ?_, fun i i1 i2 => ?_, fun i i1 i2 => ?_⟩ <;> simp only [up1, fset] at *
  · by_cases hi : i = w
    · rw [if_pos (by omega), if_pos hi]
    · rw [if_neg (by omega), if_neg hi]; exact h3 i i1 i2
  · rw [if_neg (by omega)]; exact h4 i i1 i2
  · rw [if_neg (by omega)]; exact h5 i i1 i2
set_option maxRecDepth 100000 in
set_option maxHeartbeats 1000000 in
theorem c_X11_append {row l : Int} (hG : Gr mr) (hr : rng row) (hl : rng l) (h : RepM mi ((n, m, A, B, Z), hs, tl, T)) : C1 yX11_append cX11_append 3 (some .int) 1 SH mi mr [vr 62, vi row, vi l] (PoM (opAppend n m A B Z (hs, tl, T) row l) mi mr) := by
  have hR := h.1
  have hS := h.2.1
  have q0 := hR.1.1
  have q1 := hR.1.2
  have hn := hS.1.1
  have hm := hS.2.1.1
  simp only at q0 q1 hn hm hR
  refine Ct.ofV (ini := false) [some (vr 62), some (vi row), some (vi l)] km_X11_append (by decide) rfl (Nat.le_of_ble_eq_true rfl) ?_
  by_cases hin : (0 ≤ row ∧ row ≤ 1) ∧ 0 ≤ l ∧ l ≤ 7
  · have eo : opAppend n m A B Z (hs, tl, T) row l = if row = 0 then (if 28 ≤ n then (-1000003, (n, m, A, B, Z), hs, tl, T) else (n + 1, psh ((n, m, A, B, Z), hs, tl, T) (n + 1, m, fset A n l, B, Z))) else if 28 ≤ m then (-1000003, (n, m, A, B, Z), hs, tl, T) else (m + 1, psh ((n, m, A, B, Z), hs, tl, T) (n, m + 1, A, fset B m l, Z)) := by
      unfold opAppend; rw [if_neg (not_not_intro hin)]
    rw [eo]
    have e2 : (if 0 ≤ l ∧ l ≤ 7 then (1 : Int) else 0) = 1 := if_pos hin.2
    rcases (show row = 0 ∨ row = 1 by omega) with rfl | rfl
    · rw [if_pos rfl]
      refine V_iload_n dX11_append_0 rfl ?_
      refine V_iconst dX11_append_1 ?_
      refine V_iconst dX11_append_2 ?_
      refine V_callSP dX11_append_3 ml_RX11_48 km_X11_in ks_X11_in (c_X11_in (v := 0) (a := 0) (b := 1) (by omega) (by omega) (by omega)) rfl rfl (Nat.le_of_ble_eq_true rfl) ⟨Nat.le_of_ble_eq_true rfl, Nat.le_of_ble_eq_true rfl⟩ ⟨Nat.le_of_ble_eq_true rfl, Nat.le_of_ble_eq_true rfl⟩ ?_
      refine V_if_eq 19 dX11_append_6 (by decide) (by omega) (fun h6 => absurd h6 ((by decide))) (fun _ => ?_)
      refine V_iload_n dX11_append_9 rfl ?_
      refine V_iconst dX11_append_10 ?_
      refine V_bipush dX11_append_11 (by decide) ?_
      refine V_callSP dX11_append_13 ml_RX11_48 km_X11_in ks_X11_in (c_X11_in (v := l) (a := 0) (b := 7) (by omega) (by omega) (by omega)) rfl rfl (Nat.le_of_ble_eq_true rfl) ⟨Nat.le_of_ble_eq_true rfl, Nat.le_of_ble_eq_true rfl⟩ ⟨Nat.le_of_ble_eq_true rfl, Nat.le_of_ble_eq_true rfl⟩ ?_
      rw [e2]
      refine V_if_ne 22 dX11_append_16 (by decide) (by omega) (fun _ => ?_) (fun h16 => absurd h16 ((by decide)))
      refine V_aload_n dX11_append_22 rfl ?_
      refine V_getr 0 _ dX11_append_23 fl_RX11_7 (by first | with_reducible assumption | rfl) rfl rfl (by first | with_reducible assumption | exact hG.at rfl) ?_
      refine V_iload_n dX11_append_26 rfl ?_
      refine V_iald dX11_append_27 (by first | with_reducible assumption | rfl) (by decide) (by omega) ?_
      rw [q0]
      refine V_bipush dX11_append_28 (by decide) ?_
      refine V_icmp_ne 36 dX11_append_30 (by decide) (by omega) (by omega) (fun h30 => ?_) (fun h30 => ?_)
      · refine V_aload_n dX11_append_36 rfl ?_
        refine V_callV0 dX11_append_37 ml_RX11_62 km_X11_keeps kv_X11_keeps (c_X11_keeps hG) (by first | with_reducible assumption | rfl) rfl rfl rfl (Nat.le_of_ble_eq_true rfl) ⟨Nat.le_of_ble_eq_true rfl, Nat.le_of_ble_eq_true rfl⟩ ⟨Nat.le_of_ble_eq_true rfl, Nat.le_of_ble_eq_true rfl⟩ ?_
        rintro mi2 mr2 ⟨rfl, k1, k2⟩
        have e63 : mi2 63 = mi 63 := k2 63 (by decide)
        have q0' : mi2 63 0 = n := by rw [e63]; exact q0
        refine V_aload_n dX11_append_40 rfl ?_
        refine V_getr 0 _ dX11_append_41 fl_RX11_7 (by first | with_reducible assumption | rfl) rfl rfl (by first | with_reducible assumption | exact hG.at rfl) ?_
        refine V_iconst dX11_append_44 ?_
        refine V_bipush dX11_append_45 (by decide) ?_
        refine V_iload_n dX11_append_47 rfl ?_
        refine V_imul dX11_append_48 ?_
        refine V_iadd dX11_append_49 ?_
        refine V_aload_n dX11_append_50 rfl ?_
        refine V_getr 0 _ dX11_append_51 fl_RX11_7 (by first | with_reducible assumption | rfl) rfl rfl (by first | with_reducible assumption | exact hG.at rfl) ?_
        refine V_iload_n dX11_append_54 rfl ?_
        refine V_iald dX11_append_55 (by first | with_reducible assumption | rfl) (by decide) (by omega) ?_
        rw [q0']
        refine V_iadd dX11_append_56 ?_
        refine V_iload_n dX11_append_57 rfl ?_
        refine V_iast dX11_append_58 (by first | with_reducible assumption | rfl) (by decide) (by omega) ?_
        refine V_aload_n dX11_append_59 rfl ?_
        refine V_getr 0 _ dX11_append_60 fl_RX11_7 (by first | with_reducible assumption | rfl) rfl rfl (by first | with_reducible assumption | exact hG.at rfl) ?_
        refine V_iload_n dX11_append_63 rfl ?_
        refine V_dup2 dX11_append_64 rfl rfl ?_
        refine V_iald dX11_append_65 (by first | with_reducible assumption | rfl) (by decide) (by omega) ?_
        rw [up2_sn _ _ _ (by omega), q0']
        refine V_iconst dX11_append_66 ?_
        refine V_iadd dX11_append_67 ?_
        refine V_iast dX11_append_68 (by first | with_reducible assumption | rfl) (by decide) (by omega) ?_
        have hpre := act_pre h k1 k2 (mi3 := up2 (up2 mi2 63 (5 + 28 * 0 + n) l) 63 0 (n + 1)) (fun x x1 => by rw [up2_n _ _ _ x1, up2_n _ _ _ x1])
        refine V_aload_n dX11_append_69 rfl ?_
        refine V_aload_n dX11_append_70 rfl ?_
        refine V_getr 0 _ dX11_append_71 fl_RX11_7 (by first | with_reducible assumption | rfl) rfl rfl (by first | with_reducible assumption | exact hG.at rfl) ?_
        refine V_iload_n dX11_append_74 rfl ?_
        refine V_iald dX11_append_75 (by first | with_reducible assumption | rfl) (by decide) (by omega) ?_
        rw [up2_ss]
        refine V_callV1 dX11_append_76 ml_RX11_65 km_X11_acted kv_X11_acted (c_X11_acted (r := n + 1) hG (by omega) (by omega) hpre.1 hpre.2 hS) (by first | with_reducible assumption | rfl) rfl rfl rfl (Nat.le_of_ble_eq_true rfl) ⟨Nat.le_of_ble_eq_true rfl, Nat.le_of_ble_eq_true rfl⟩ ⟨Nat.le_of_ble_eq_true rfl, Nat.le_of_ble_eq_true rfl⟩ ?_
        rintro v mi4 mr4 ⟨rfl, rfl, a1, a2, a3⟩
        refine V_iret dX11_append_79 rfl ⟨Nat.le_of_ble_eq_true rfl, Nat.le_of_ble_eq_true rfl⟩ ?_
        rw [if_neg (show ¬ 28 ≤ n by omega)]
        exact ⟨rfl, _, rfl, rfl, rfl, act_post h k2 (mi3 := up2 (up2 mi2 63 (5 + 28 * 0 + n) l) 63 0 (n + 1)) (fun x x1 => by rw [up2_n _ _ _ x1, up2_n _ _ _ x1]) (by rw [up2_s, up2_s, e63]; exact hR.app0 (by omega)) ⟨NR.add (n := n) (A := A) hS.1 (by omega) hin.2, hS.2⟩ a1 a2 a3⟩
      · rw [if_pos (show 28 ≤ n by omega)]
        refine V_ldc (-1000003) dX11_append_33 kc_RX11_61 rfl ?_
        refine V_iret dX11_append_35 rfl ⟨Nat.le_of_ble_eq_true rfl, Nat.le_of_ble_eq_true rfl⟩ ?_
        exact ⟨rfl, _, rfl, rfl, rfl, h, fun _ _ => rfl⟩
    · rw [if_neg (show ¬ (1 : Int) = 0 by decide)]
      refine V_iload_n dX11_append_0 rfl ?_
      refine V_iconst dX11_append_1 ?_
      refine V_iconst dX11_append_2 ?_
      refine V_callSP dX11_append_3 ml_RX11_48 km_X11_in ks_X11_in (c_X11_in (v := 1) (a := 0) (b := 1) (by omega) (by omega) (by omega)) rfl rfl (Nat.le_of_ble_eq_true rfl) ⟨Nat.le_of_ble_eq_true rfl, Nat.le_of_ble_eq_true rfl⟩ ⟨Nat.le_of_ble_eq_true rfl, Nat.le_of_ble_eq_true rfl⟩ ?_
      refine V_if_eq 19 dX11_append_6 (by decide) (by omega) (fun h6 => absurd h6 ((by decide))) (fun _ => ?_)
      refine V_iload_n dX11_append_9 rfl ?_
      refine V_iconst dX11_append_10 ?_
      refine V_bipush dX11_append_11 (by decide) ?_
      refine V_callSP dX11_append_13 ml_RX11_48 km_X11_in ks_X11_in (c_X11_in (v := l) (a := 0) (b := 7) (by omega) (by omega) (by omega)) rfl rfl (Nat.le_of_ble_eq_true rfl) ⟨Nat.le_of_ble_eq_true rfl, Nat.le_of_ble_eq_true rfl⟩ ⟨Nat.le_of_ble_eq_true rfl, Nat.le_of_ble_eq_true rfl⟩ ?_
      rw [e2]
      refine V_if_ne 22 dX11_append_16 (by decide) (by omega) (fun _ => ?_) (fun h16 => absurd h16 ((by decide)))
      refine V_aload_n dX11_append_22 rfl ?_
      refine V_getr 0 _ dX11_append_23 fl_RX11_7 (by first | with_reducible assumption | rfl) rfl rfl (by first | with_reducible assumption | exact hG.at rfl) ?_
      refine V_iload_n dX11_append_26 rfl ?_
      refine V_iald dX11_append_27 (by first | with_reducible assumption | rfl) (by decide) (by omega) ?_
      rw [q1]
      refine V_bipush dX11_append_28 (by decide) ?_
      refine V_icmp_ne 36 dX11_append_30 (by decide) (by omega) (by omega) (fun h30 => ?_) (fun h30 => ?_)
      · refine V_aload_n dX11_append_36 rfl ?_
        refine V_callV0 dX11_append_37 ml_RX11_62 km_X11_keeps kv_X11_keeps (c_X11_keeps hG) (by first | with_reducible assumption | rfl) rfl rfl rfl (Nat.le_of_ble_eq_true rfl) ⟨Nat.le_of_ble_eq_true rfl, Nat.le_of_ble_eq_true rfl⟩ ⟨Nat.le_of_ble_eq_true rfl, Nat.le_of_ble_eq_true rfl⟩ ?_
        rintro mi2 mr2 ⟨rfl, k1, k2⟩
        have e63 : mi2 63 = mi 63 := k2 63 (by decide)
        have q1' : mi2 63 1 = m := by rw [e63]; exact q1
        refine V_aload_n dX11_append_40 rfl ?_
        refine V_getr 0 _ dX11_append_41 fl_RX11_7 (by first | with_reducible assumption | rfl) rfl rfl (by first | with_reducible assumption | exact hG.at rfl) ?_
        refine V_iconst dX11_append_44 ?_
        refine V_bipush dX11_append_45 (by decide) ?_
        refine V_iload_n dX11_append_47 rfl ?_
        refine V_imul dX11_append_48 ?_
        refine V_iadd dX11_append_49 ?_
        refine V_aload_n dX11_append_50 rfl ?_
        refine V_getr 0 _ dX11_append_51 fl_RX11_7 (by first | with_reducible assumption | rfl) rfl rfl (by first | with_reducible assumption | exact hG.at rfl) ?_
        refine V_iload_n dX11_append_54 rfl ?_
        refine V_iald dX11_append_55 (by first | with_reducible assumption | rfl) (by decide) (by omega) ?_
        rw [q1']
        refine V_iadd dX11_append_56 ?_
        refine V_iload_n dX11_append_57 rfl ?_
        refine V_iast dX11_append_58 (by first | with_reducible assumption | rfl) (by decide) (by omega) ?_
        refine V_aload_n dX11_append_59 rfl ?_
        refine V_getr 0 _ dX11_append_60 fl_RX11_7 (by first | with_reducible assumption | rfl) rfl rfl (by first | with_reducible assumption | exact hG.at rfl) ?_
        refine V_iload_n dX11_append_63 rfl ?_
        refine V_dup2 dX11_append_64 rfl rfl ?_
        refine V_iald dX11_append_65 (by first | with_reducible assumption | rfl) (by decide) (by omega) ?_
        rw [up2_sn _ _ _ (by omega), q1']
        refine V_iconst dX11_append_66 ?_
        refine V_iadd dX11_append_67 ?_
        refine V_iast dX11_append_68 (by first | with_reducible assumption | rfl) (by decide) (by omega) ?_
        have hpre := act_pre h k1 k2 (mi3 := up2 (up2 mi2 63 (5 + 28 * 1 + m) l) 63 1 (m + 1)) (fun x x1 => by rw [up2_n _ _ _ x1, up2_n _ _ _ x1])
        refine V_aload_n dX11_append_69 rfl ?_
        refine V_aload_n dX11_append_70 rfl ?_
        refine V_getr 0 _ dX11_append_71 fl_RX11_7 (by first | with_reducible assumption | rfl) rfl rfl (by first | with_reducible assumption | exact hG.at rfl) ?_
        refine V_iload_n dX11_append_74 rfl ?_
        refine V_iald dX11_append_75 (by first | with_reducible assumption | rfl) (by decide) (by omega) ?_
        rw [up2_ss]
        refine V_callV1 dX11_append_76 ml_RX11_65 km_X11_acted kv_X11_acted (c_X11_acted (r := m + 1) hG (by omega) (by omega) hpre.1 hpre.2 hS) (by first | with_reducible assumption | rfl) rfl rfl rfl (Nat.le_of_ble_eq_true rfl) ⟨Nat.le_of_ble_eq_true rfl, Nat.le_of_ble_eq_true rfl⟩ ⟨Nat.le_of_ble_eq_true rfl, Nat.le_of_ble_eq_true rfl⟩ ?_
        rintro v mi4 mr4 ⟨rfl, rfl, a1, a2, a3⟩
        refine V_iret dX11_append_79 rfl ⟨Nat.le_of_ble_eq_true rfl, Nat.le_of_ble_eq_true rfl⟩ ?_
        rw [if_neg (show ¬ 28 ≤ m by omega)]
        exact ⟨rfl, _, rfl, rfl, rfl, act_post h k2 (mi3 := up2 (up2 mi2 63 (5 + 28 * 1 + m) l) 63 1 (m + 1)) (fun x x1 => by rw [up2_n _ _ _ x1, up2_n _ _ _ x1]) (by rw [up2_s, up2_s, e63]; exact hR.app1 (by omega) hn.2) ⟨hS.1, NR.add (n := m) (A := B) hS.2.1 (by omega) hin.2, hS.2.2⟩ a1 a2 a3⟩
      · rw [if_pos (show 28 ≤ m by omega)]
        refine V_ldc (-1000003) dX11_append_33 kc_RX11_61 rfl ?_
        refine V_iret dX11_append_35 rfl ⟨Nat.le_of_ble_eq_true rfl, Nat.le_of_ble_eq_true rfl⟩ ?_
        exact ⟨rfl, _, rfl, rfl, rfl, h, fun _ _ => rfl⟩
  · have eo : opAppend n m A B Z (hs, tl, T) row l = (-1000001, (n, m, A, B, Z), hs, tl, T) := by unfold opAppend; rw [if_pos hin]
    rw [eo]
    refine V_iload_n dX11_append_0 rfl ?_
    refine V_iconst dX11_append_1 ?_
    refine V_iconst dX11_append_2 ?_
    refine V_callSP dX11_append_3 ml_RX11_48 km_X11_in ks_X11_in (c_X11_in (v := row) (a := 0) (b := 1) (by omega) (by omega) (by omega)) rfl rfl (Nat.le_of_ble_eq_true rfl) ⟨Nat.le_of_ble_eq_true rfl, Nat.le_of_ble_eq_true rfl⟩ ⟨Nat.le_of_ble_eq_true rfl, Nat.le_of_ble_eq_true rfl⟩ ?_
    refine V_if_eq 19 dX11_append_6 (by decide) (by split <;> omega) (fun h6 => ?_) (fun h6 => ?_)
    · refine V_ldc (-1000001) dX11_append_19 kc_RX11_56 rfl ?_
      refine V_iret dX11_append_21 rfl ⟨Nat.le_of_ble_eq_true rfl, Nat.le_of_ble_eq_true rfl⟩ ?_
      exact ⟨rfl, _, rfl, rfl, rfl, h, fun _ _ => rfl⟩
    · refine V_iload_n dX11_append_9 rfl ?_
      refine V_iconst dX11_append_10 ?_
      refine V_bipush dX11_append_11 (by decide) ?_
      refine V_callSP dX11_append_13 ml_RX11_48 km_X11_in ks_X11_in (c_X11_in (v := l) (a := 0) (b := 7) (by omega) (by omega) (by omega)) rfl rfl (Nat.le_of_ble_eq_true rfl) ⟨Nat.le_of_ble_eq_true rfl, Nat.le_of_ble_eq_true rfl⟩ ⟨Nat.le_of_ble_eq_true rfl, Nat.le_of_ble_eq_true rfl⟩ ?_
      refine V_if_ne 22 dX11_append_16 (by decide) (by split <;> omega) (fun h16 => ?_) (fun h16 => ?_)
      · exact absurd (by rw [ifz] at h6 h16; rw [Decidable.not_not] at h6 h16; exact ⟨h6, h16⟩) hin
      · refine V_ldc (-1000001) dX11_append_19 kc_RX11_56 rfl ?_
        refine V_iret dX11_append_21 rfl ⟨Nat.le_of_ble_eq_true rfl, Nat.le_of_ble_eq_true rfl⟩ ?_
        exact ⟨rfl, _, rfl, rfl, rfl, h, fun _ _ => rfl⟩
set_option maxRecDepth 100000 in
set_option maxHeartbeats 1000000 in
theorem c_X11_change {row p l : Int} (hG : Gr mr) (hr : rng row) (hp : rng p) (hl : rng l) (h : RepM mi ((n, m, A, B, Z), hs, tl, T)) : C1 yX11_change cX11_change 5 (some .int) 1 SH mi mr [vr 62, vi row, vi p, vi l] (PoM (opChange n m A B Z (hs, tl, T) row p l) mi mr) := by
  have hR := h.1
  have hS := h.2.1
  have q0 := hR.1.1
  have q1 := hR.1.2
  have hn := hS.1.1
  have hm := hS.2.1.1
  have rAp := NR.r (n := n) (A := A) hS.1 p
  have rBp := NR.r (n := m) (A := B) hS.2.1 p
  simp only at q0 q1 hn hm hR
  refine Ct.ofV (ini := false) [some (vr 62), some (vi row), some (vi p), some (vi l), none] km_X11_change (by decide) rfl (Nat.le_of_ble_eq_true rfl) ?_
  by_cases hin : (0 ≤ row ∧ row ≤ 1) ∧ 0 ≤ l ∧ l ≤ 7
  · have eo : opChange n m A B Z (hs, tl, T) row p l = if row = 0 then (if A p = -1 then (-1000001, (n, m, A, B, Z), hs, tl, T) else (A p, psh ((n, m, A, B, Z), hs, tl, T) (n, m, fset A p l, B, Z))) else if B p = -1 then (-1000001, (n, m, A, B, Z), hs, tl, T) else (B p, psh ((n, m, A, B, Z), hs, tl, T) (n, m, A, fset B p l, Z)) := by
      unfold opChange; rw [if_neg (not_not_intro hin)]
    rw [eo]
    have e2 : (if 0 ≤ l ∧ l ≤ 7 then (1 : Int) else 0) = 1 := if_pos hin.2
    rcases (show row = 0 ∨ row = 1 by omega) with rfl | rfl
    · rw [if_pos rfl]
      refine V_iload_n dX11_change_0 rfl ?_
      refine V_iconst dX11_change_1 ?_
      refine V_iconst dX11_change_2 ?_
      refine V_callSP dX11_change_3 ml_RX11_48 km_X11_in ks_X11_in (c_X11_in (v := 0) (a := 0) (b := 1) (by omega) (by omega) (by omega)) rfl rfl (Nat.le_of_ble_eq_true rfl) ⟨Nat.le_of_ble_eq_true rfl, Nat.le_of_ble_eq_true rfl⟩ ⟨Nat.le_of_ble_eq_true rfl, Nat.le_of_ble_eq_true rfl⟩ ?_
      refine V_if_eq 35 dX11_change_6 (by decide) (by omega) (fun h6 => absurd h6 ((by decide))) (fun _ => ?_)
      refine V_iload_n dX11_change_9 rfl ?_
      refine V_iconst dX11_change_10 ?_
      refine V_bipush dX11_change_11 (by decide) ?_
      refine V_callSP dX11_change_13 ml_RX11_48 km_X11_in ks_X11_in (c_X11_in (v := l) (a := 0) (b := 7) (by omega) (by omega) (by omega)) rfl rfl (Nat.le_of_ble_eq_true rfl) ⟨Nat.le_of_ble_eq_true rfl, Nat.le_of_ble_eq_true rfl⟩ ⟨Nat.le_of_ble_eq_true rfl, Nat.le_of_ble_eq_true rfl⟩ ?_
      rw [e2]
      refine V_if_eq 35 dX11_change_16 (by decide) (by omega) (fun h16 => absurd h16 ((by decide))) (fun _ => ?_)
      refine V_iload_n dX11_change_19 rfl ?_
      refine V_iconst dX11_change_20 ?_
      refine V_aload_n dX11_change_21 rfl ?_
      refine V_getr 0 _ dX11_change_22 fl_RX11_7 (by first | with_reducible assumption | rfl) rfl rfl (by first | with_reducible assumption | exact hG.at rfl) ?_
      refine V_iload_n dX11_change_25 rfl ?_
      refine V_iald dX11_change_26 (by first | with_reducible assumption | rfl) (by decide) (by omega) ?_
      rw [q0]
      refine V_iconst dX11_change_27 ?_
      refine V_isub dX11_change_28 ?_
      refine V_callSP dX11_change_29 ml_RX11_48 km_X11_in ks_X11_in (c_X11_in (v := p) (a := 0) (b := n - 1) (by omega) (by omega) (by omega)) rfl rfl (Nat.le_of_ble_eq_true rfl) ⟨Nat.le_of_ble_eq_true rfl, Nat.le_of_ble_eq_true rfl⟩ ⟨Nat.le_of_ble_eq_true rfl, Nat.le_of_ble_eq_true rfl⟩ ?_
      refine V_if_ne 38 dX11_change_32 (by decide) (by split <;> omega) (fun h32 => ?_) (fun h32 => ?_)
      · rw [ifz, Decidable.not_not] at h32
        have hpn : 0 ≤ p ∧ p < n := by omega
        have hA1 := hS.1.2.1 p hpn.1 hpn.2
        simp only at hA1
        refine V_aload_n dX11_change_38 rfl ?_
        refine V_callV0 dX11_change_39 ml_RX11_62 km_X11_keeps kv_X11_keeps (c_X11_keeps hG) (by first | with_reducible assumption | rfl) rfl rfl rfl (Nat.le_of_ble_eq_true rfl) ⟨Nat.le_of_ble_eq_true rfl, Nat.le_of_ble_eq_true rfl⟩ ⟨Nat.le_of_ble_eq_true rfl, Nat.le_of_ble_eq_true rfl⟩ ?_
        rintro mi2 mr2 ⟨rfl, k1, k2⟩
        have e63 : mi2 63 = mi 63 := k2 63 (by decide)
        have hpre := act_pre h k1 k2 (mi3 := up2 mi2 63 (5 + 28 * 0 + p) l) (fun x x1 => by rw [up2_n _ _ _ x1])
        refine V_aload_n dX11_change_42 rfl ?_
        refine V_iload_n dX11_change_43 rfl ?_
        refine V_iload_n dX11_change_44 rfl ?_
        refine V_callVP dX11_change_45 ml_RX11_52 km_X11_letter kv_X11_letter (c_X11_letter (row := 0) (p := p) hG (Or.inl rfl) (by omega)) (by first | with_reducible assumption | rfl) rfl rfl rfl (Nat.le_of_ble_eq_true rfl) ⟨Nat.le_of_ble_eq_true rfl, Nat.le_of_ble_eq_true rfl⟩ ⟨Nat.le_of_ble_eq_true rfl, Nat.le_of_ble_eq_true rfl⟩ ?_
        rw [e63, letA hR hpn]
        refine S_istore (ls' := [_, _, _, _, _]) dX11_change_48 ⟨Nat.le_of_ble_eq_true rfl, rfl, rfl⟩ rfl ?_
        refine V_aload_n dX11_change_50 rfl ?_
        refine V_getr 0 _ dX11_change_51 fl_RX11_7 (by first | with_reducible assumption | rfl) rfl rfl (by first | with_reducible assumption | exact hG.at rfl) ?_
        refine V_iconst dX11_change_54 ?_
        refine V_bipush dX11_change_55 (by decide) ?_
        refine V_iload_n dX11_change_57 rfl ?_
        refine V_imul dX11_change_58 ?_
        refine V_iadd dX11_change_59 ?_
        refine V_iload_n dX11_change_60 rfl ?_
        refine V_iadd dX11_change_61 ?_
        refine V_iload_n dX11_change_62 rfl ?_
        refine V_iast dX11_change_63 (by first | with_reducible assumption | rfl) (by decide) (by omega) ?_
        refine V_aload_n dX11_change_64 rfl ?_
        refine V_iload dX11_change_65 rfl ?_
        refine V_callV1 dX11_change_67 ml_RX11_65 km_X11_acted kv_X11_acted (c_X11_acted (r := A p) hG (by omega) (by omega) hpre.1 hpre.2 hS) (by first | with_reducible assumption | rfl) rfl rfl rfl (Nat.le_of_ble_eq_true rfl) ⟨Nat.le_of_ble_eq_true rfl, Nat.le_of_ble_eq_true rfl⟩ ⟨Nat.le_of_ble_eq_true rfl, Nat.le_of_ble_eq_true rfl⟩ ?_
        rintro v mi4 mr4 ⟨rfl, rfl, a1, a2, a3⟩
        refine V_iret dX11_change_70 rfl ⟨Nat.le_of_ble_eq_true rfl, Nat.le_of_ble_eq_true rfl⟩ ?_
        rw [if_neg (show ¬ A p = -1 by omega)]
        exact ⟨rfl, _, rfl, rfl, rfl, act_post h k2 (mi3 := up2 mi2 63 (5 + 28 * 0 + p) l) (fun x x1 => by rw [up2_n _ _ _ x1]) (by rw [up2_s, e63]; exact hR.chg0 hn.2 hpn) ⟨NR.chg (n := n) (A := A) hS.1 hpn hin.2, hS.2⟩ a1 a2 a3⟩
      · rw [ifz] at h32
        have hA1 : A p = -1 := hS.1.2.2 p (by simp only; omega)
        refine V_ldc (-1000001) dX11_change_35 kc_RX11_56 rfl ?_
        refine V_iret dX11_change_37 rfl ⟨Nat.le_of_ble_eq_true rfl, Nat.le_of_ble_eq_true rfl⟩ ?_
        exact ⟨rfl, _, rfl, by rw [if_pos hA1], rfl, by rw [if_pos hA1]; exact h, fun _ _ => rfl⟩
    · rw [if_neg (show ¬ (1 : Int) = 0 by decide)]
      refine V_iload_n dX11_change_0 rfl ?_
      refine V_iconst dX11_change_1 ?_
      refine V_iconst dX11_change_2 ?_
      refine V_callSP dX11_change_3 ml_RX11_48 km_X11_in ks_X11_in (c_X11_in (v := 1) (a := 0) (b := 1) (by omega) (by omega) (by omega)) rfl rfl (Nat.le_of_ble_eq_true rfl) ⟨Nat.le_of_ble_eq_true rfl, Nat.le_of_ble_eq_true rfl⟩ ⟨Nat.le_of_ble_eq_true rfl, Nat.le_of_ble_eq_true rfl⟩ ?_
      refine V_if_eq 35 dX11_change_6 (by decide) (by omega) (fun h6 => absurd h6 ((by decide))) (fun _ => ?_)
      refine V_iload_n dX11_change_9 rfl ?_
      refine V_iconst dX11_change_10 ?_
      refine V_bipush dX11_change_11 (by decide) ?_
      refine V_callSP dX11_change_13 ml_RX11_48 km_X11_in ks_X11_in (c_X11_in (v := l) (a := 0) (b := 7) (by omega) (by omega) (by omega)) rfl rfl (Nat.le_of_ble_eq_true rfl) ⟨Nat.le_of_ble_eq_true rfl, Nat.le_of_ble_eq_true rfl⟩ ⟨Nat.le_of_ble_eq_true rfl, Nat.le_of_ble_eq_true rfl⟩ ?_
      rw [e2]
      refine V_if_eq 35 dX11_change_16 (by decide) (by omega) (fun h16 => absurd h16 ((by decide))) (fun _ => ?_)
      refine V_iload_n dX11_change_19 rfl ?_
      refine V_iconst dX11_change_20 ?_
      refine V_aload_n dX11_change_21 rfl ?_
      refine V_getr 0 _ dX11_change_22 fl_RX11_7 (by first | with_reducible assumption | rfl) rfl rfl (by first | with_reducible assumption | exact hG.at rfl) ?_
      refine V_iload_n dX11_change_25 rfl ?_
      refine V_iald dX11_change_26 (by first | with_reducible assumption | rfl) (by decide) (by omega) ?_
      rw [q1]
      refine V_iconst dX11_change_27 ?_
      refine V_isub dX11_change_28 ?_
      refine V_callSP dX11_change_29 ml_RX11_48 km_X11_in ks_X11_in (c_X11_in (v := p) (a := 0) (b := m - 1) (by omega) (by omega) (by omega)) rfl rfl (Nat.le_of_ble_eq_true rfl) ⟨Nat.le_of_ble_eq_true rfl, Nat.le_of_ble_eq_true rfl⟩ ⟨Nat.le_of_ble_eq_true rfl, Nat.le_of_ble_eq_true rfl⟩ ?_
      refine V_if_ne 38 dX11_change_32 (by decide) (by split <;> omega) (fun h32 => ?_) (fun h32 => ?_)
      · rw [ifz, Decidable.not_not] at h32
        have hpn : 0 ≤ p ∧ p < m := by omega
        have hA1 := hS.2.1.2.1 p hpn.1 hpn.2
        simp only at hA1
        refine V_aload_n dX11_change_38 rfl ?_
        refine V_callV0 dX11_change_39 ml_RX11_62 km_X11_keeps kv_X11_keeps (c_X11_keeps hG) (by first | with_reducible assumption | rfl) rfl rfl rfl (Nat.le_of_ble_eq_true rfl) ⟨Nat.le_of_ble_eq_true rfl, Nat.le_of_ble_eq_true rfl⟩ ⟨Nat.le_of_ble_eq_true rfl, Nat.le_of_ble_eq_true rfl⟩ ?_
        rintro mi2 mr2 ⟨rfl, k1, k2⟩
        have e63 : mi2 63 = mi 63 := k2 63 (by decide)
        have hpre := act_pre h k1 k2 (mi3 := up2 mi2 63 (5 + 28 * 1 + p) l) (fun x x1 => by rw [up2_n _ _ _ x1])
        refine V_aload_n dX11_change_42 rfl ?_
        refine V_iload_n dX11_change_43 rfl ?_
        refine V_iload_n dX11_change_44 rfl ?_
        refine V_callVP dX11_change_45 ml_RX11_52 km_X11_letter kv_X11_letter (c_X11_letter (row := 1) (p := p) hG (Or.inr rfl) (by omega)) (by first | with_reducible assumption | rfl) rfl rfl rfl (Nat.le_of_ble_eq_true rfl) ⟨Nat.le_of_ble_eq_true rfl, Nat.le_of_ble_eq_true rfl⟩ ⟨Nat.le_of_ble_eq_true rfl, Nat.le_of_ble_eq_true rfl⟩ ?_
        rw [e63, letB hR hpn]
        refine S_istore (ls' := [_, _, _, _, _]) dX11_change_48 ⟨Nat.le_of_ble_eq_true rfl, rfl, rfl⟩ rfl ?_
        refine V_aload_n dX11_change_50 rfl ?_
        refine V_getr 0 _ dX11_change_51 fl_RX11_7 (by first | with_reducible assumption | rfl) rfl rfl (by first | with_reducible assumption | exact hG.at rfl) ?_
        refine V_iconst dX11_change_54 ?_
        refine V_bipush dX11_change_55 (by decide) ?_
        refine V_iload_n dX11_change_57 rfl ?_
        refine V_imul dX11_change_58 ?_
        refine V_iadd dX11_change_59 ?_
        refine V_iload_n dX11_change_60 rfl ?_
        refine V_iadd dX11_change_61 ?_
        refine V_iload_n dX11_change_62 rfl ?_
        refine V_iast dX11_change_63 (by first | with_reducible assumption | rfl) (by decide) (by omega) ?_
        refine V_aload_n dX11_change_64 rfl ?_
        refine V_iload dX11_change_65 rfl ?_
        refine V_callV1 dX11_change_67 ml_RX11_65 km_X11_acted kv_X11_acted (c_X11_acted (r := B p) hG (by omega) (by omega) hpre.1 hpre.2 hS) (by first | with_reducible assumption | rfl) rfl rfl rfl (Nat.le_of_ble_eq_true rfl) ⟨Nat.le_of_ble_eq_true rfl, Nat.le_of_ble_eq_true rfl⟩ ⟨Nat.le_of_ble_eq_true rfl, Nat.le_of_ble_eq_true rfl⟩ ?_
        rintro v mi4 mr4 ⟨rfl, rfl, a1, a2, a3⟩
        refine V_iret dX11_change_70 rfl ⟨Nat.le_of_ble_eq_true rfl, Nat.le_of_ble_eq_true rfl⟩ ?_
        rw [if_neg (show ¬ B p = -1 by omega)]
        exact ⟨rfl, _, rfl, rfl, rfl, act_post h k2 (mi3 := up2 mi2 63 (5 + 28 * 1 + p) l) (fun x x1 => by rw [up2_n _ _ _ x1]) (by rw [up2_s, e63]; exact hR.chg1 hn.2 hpn) ⟨hS.1, NR.chg (n := m) (A := B) hS.2.1 hpn hin.2, hS.2.2⟩ a1 a2 a3⟩
      · rw [ifz] at h32
        have hA1 : B p = -1 := hS.2.1.2.2 p (by simp only; omega)
        refine V_ldc (-1000001) dX11_change_35 kc_RX11_56 rfl ?_
        refine V_iret dX11_change_37 rfl ⟨Nat.le_of_ble_eq_true rfl, Nat.le_of_ble_eq_true rfl⟩ ?_
        exact ⟨rfl, _, rfl, by rw [if_pos hA1], rfl, by rw [if_pos hA1]; exact h, fun _ _ => rfl⟩
  · have eo : opChange n m A B Z (hs, tl, T) row p l = (-1000001, (n, m, A, B, Z), hs, tl, T) := by unfold opChange; rw [if_pos hin]
    rw [eo]
    refine V_iload_n dX11_change_0 rfl ?_
    refine V_iconst dX11_change_1 ?_
    refine V_iconst dX11_change_2 ?_
    refine V_callSP dX11_change_3 ml_RX11_48 km_X11_in ks_X11_in (c_X11_in (v := row) (a := 0) (b := 1) (by omega) (by omega) (by omega)) rfl rfl (Nat.le_of_ble_eq_true rfl) ⟨Nat.le_of_ble_eq_true rfl, Nat.le_of_ble_eq_true rfl⟩ ⟨Nat.le_of_ble_eq_true rfl, Nat.le_of_ble_eq_true rfl⟩ ?_
    refine V_if_eq 35 dX11_change_6 (by decide) (by split <;> omega) (fun h6 => ?_) (fun h6 => ?_)
    · refine V_ldc (-1000001) dX11_change_35 kc_RX11_56 rfl ?_
      refine V_iret dX11_change_37 rfl ⟨Nat.le_of_ble_eq_true rfl, Nat.le_of_ble_eq_true rfl⟩ ?_
      exact ⟨rfl, _, rfl, rfl, rfl, h, fun _ _ => rfl⟩
    · refine V_iload_n dX11_change_9 rfl ?_
      refine V_iconst dX11_change_10 ?_
      refine V_bipush dX11_change_11 (by decide) ?_
      refine V_callSP dX11_change_13 ml_RX11_48 km_X11_in ks_X11_in (c_X11_in (v := l) (a := 0) (b := 7) (by omega) (by omega) (by omega)) rfl rfl (Nat.le_of_ble_eq_true rfl) ⟨Nat.le_of_ble_eq_true rfl, Nat.le_of_ble_eq_true rfl⟩ ⟨Nat.le_of_ble_eq_true rfl, Nat.le_of_ble_eq_true rfl⟩ ?_
      refine V_if_eq 35 dX11_change_16 (by decide) (by split <;> omega) (fun h16 => ?_) (fun h16 => ?_)
      · refine V_ldc (-1000001) dX11_change_35 kc_RX11_56 rfl ?_
        refine V_iret dX11_change_37 rfl ⟨Nat.le_of_ble_eq_true rfl, Nat.le_of_ble_eq_true rfl⟩ ?_
        exact ⟨rfl, _, rfl, rfl, rfl, h, fun _ _ => rfl⟩
      · exact absurd (by rw [ifz] at h6 h16; rw [Decidable.not_not] at h6 h16; exact ⟨h6, h16⟩) hin
end MODEL2
