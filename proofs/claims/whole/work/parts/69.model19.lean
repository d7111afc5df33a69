/-! ===== DiagonalTextsModel: count ===== -/
section MODEL19
variable {mi mi1 mi2 mi3 mi4 : MI} {mr : MR} {n m n' m' tl D : Int} {A B A' B' Z T : Int → Int} {hs hs' : List St} {u : Int × (Int → Int)} {σ : St}
set_option maxRecDepth 100000 in
set_option maxHeartbeats 1000000 in
theorem c_X11_count {w : Int} (hG : Gr mr) (hD : isD n m A B D) (hw : rng w) (h : RepM mi ((n, m, A, B, Z), hs, tl, T)) : C1 yX11_count cX11_count 2 (some .int) 6 SH mi mr [vr 62, vi w] (PoM (opCount D n m A B Z hs tl T w) mi mr) := by
  have hR := h.1
  have hS := h.2.1
  have hA : NR n A := hS.1
  have hB : NR m B := hS.2.1
  have hLr := sL_r hA hB hD
  have hz1 := hS.2.2.2.1
  have hz2 := hS.2.2.2.2
  have hsc := sc_ok hA hB hD
  have hn := hA.1
  have hm := hB.1
  have q0 := hR.1.1
  have q1 := hR.1.2
  simp only at hz1 hz2 hR q0 q1
  refine Ct.ofV (ini := false) [some (vr 62), some (vi w)] km_X11_count (by decide) rfl (Nat.le_of_ble_eq_true rfl) ?_
  by_cases h25 : 2 ≤ w ∧ w ≤ 5
  · have e1 : (if 2 ≤ w ∧ w ≤ 5 then (1 : Int) else 0) = 1 := if_pos h25
    have eo : opCount D n m A B Z hs tl T w = (if Z 0 < D then -1000003 else vCount D n m A B Z w, (n, m, A, B, Z), hs, tl, T) := by
      unfold opCount
      rw [if_neg (show ¬ (20 ≤ w ∧ w ≤ 22) by omega), if_neg (show ¬ w = 0 by omega), if_neg (show ¬ w = 1 by omega), if_pos h25]
    rw [eo]
    have hO := hk_L hLr.1 (Z 1) hz1.1 (sK A B n m D)
    have hkr := hk_r (Z 1) (sK A B n m D) (sL n m D).toNat
    have hmem := ball_mem (K := sK A B n m D) (Lt := sLt A B n m D) (lb := Z 2) (L := sL n m D) (sL n m D).toNat (by omega)
    have hbl := bs_len (mvd D n m A B Z) (fun q hq => (hmem q hq).1)
    refine V_iload_n dX11_count_0 rfl ?_
    refine V_iconst dX11_count_1 ?_
    refine V_iconst dX11_count_2 ?_
    refine V_callSP dX11_count_3 ml_RX11_48 km_X11_in ks_X11_in (c_X11_in (v := w) (a := 2) (b := 5) (by omega) (by omega) (by omega)) rfl rfl (Nat.le_of_ble_eq_true rfl) ⟨Nat.le_of_ble_eq_true rfl, Nat.le_of_ble_eq_true rfl⟩ ⟨Nat.le_of_ble_eq_true rfl, Nat.le_of_ble_eq_true rfl⟩ ?_
    rw [e1]
    refine V_if_eq 19 dX11_count_6 (by decide) (by omega) (fun h6 => absurd h6 ((by decide))) (fun _ => ?_)
    refine V_aload_n dX11_count_9 rfl ?_
    refine V_callV1 dX11_count_10 ml_RX11_102 km_X11_traces kv_X11_traces (c_X11_traces hG hD h) (by first | with_reducible assumption | rfl) rfl rfl rfl (Nat.le_of_ble_eq_true rfl) ⟨Nat.le_of_ble_eq_true rfl, Nat.le_of_ble_eq_true rfl⟩ ⟨Nat.le_of_ble_eq_true rfl, Nat.le_of_ble_eq_true rfl⟩ ?_
    rintro v mi2 mr2 ⟨rfl, rfl, k1, k3, k4, k5⟩
    have hfin : RepM mi2 ((n, m, A, B, Z), hs, tl, T) ∧ ∀ x, x < 62 → mi2 x = mi x := ⟨h.keep (k4 3 (by decide) (by decide)) (k4 5 (by decide) (by decide)) (fun x hx => k5 x (by omega) (by omega) (by omega)), fun x hx => k5 x (by omega) (by omega) (by omega)⟩
    refine V_if_ne 19 dX11_count_13 (by decide) (by split <;> omega) (fun h13 => ?_) (fun h13 => ?_)
    · have hzd : ¬ Z 0 < D := fun hc => by rw [if_pos hc] at h13; omega
      rw [if_neg hzd]
      have hK := StM.ki hA hB hD k1
      have q3 : mi2 63 3 = Z 1 := hfin.1.1.2.1 1 (by decide) (by decide)
      have hrr : ∀ i, 0 ≤ i → i < sL n m D → (0 ≤ sK A B n m D i ∧ sK A B n m D i ≤ 2) ∧ (0 ≤ sX A B n m D i ∧ sX A B n m D i ≤ 28) ∧ 0 ≤ sY A B n m D i ∧ sY A B n m D i ≤ 28 := fun i i1 i2 => by have := sc_lt hA hB hD i1 i2; omega
      refine V_iload_n dX11_count_19 rfl ?_
      rcases (show w = 2 ∨ w = 3 ∨ w = 4 ∨ w = 5 by omega) with rfl | rfl | rfl | rfl
      · refine V_tsw 59 79 dX11_count_20 (by decide) (Or.inl ⟨by decide, by decide, rfl⟩) (by decide) ?_
        refine V_aload_n dX11_count_79 rfl ?_
        refine V_geti 13 dX11_count_80 fl_RX11_95 (by first | with_reducible assumption | rfl) rfl rfl ?_
        rw [k1.1]
        refine V_iret dX11_count_83 rfl ⟨Nat.le_of_ble_eq_true rfl, Nat.le_of_ble_eq_true rfl⟩ ?_
        exact ⟨rfl, _, rfl, rfl, rfl, hfin⟩
      · refine V_tsw 64 84 dX11_count_20 (by decide) (Or.inl ⟨by decide, by decide, rfl⟩) (by decide) ?_
        refine V_aload_n dX11_count_84 rfl ?_
        refine V_geti 13 dX11_count_85 fl_RX11_95 (by first | with_reducible assumption | rfl) rfl rfl ?_
        rw [k1.1]
        refine V_aload_n dX11_count_88 rfl ?_
        refine V_geti 11 dX11_count_89 fl_RX11_84 (by first | with_reducible assumption | rfl) rfl rfl ?_
        rw [k3]
        refine V_isub dX11_count_92 ?_
        refine V_iret dX11_count_93 rfl ⟨Nat.le_of_ble_eq_true rfl, Nat.le_of_ble_eq_true rfl⟩ ?_
        exact ⟨rfl, _, rfl, rfl, rfl, hfin⟩
      · refine V_tsw 74 94 dX11_count_20 (by decide) (Or.inl ⟨by decide, by decide, rfl⟩) (by decide) ?_
        refine V_aload_n dX11_count_94 rfl ?_
        refine V_callV1 dX11_count_95 ml_RX11_152 km_X11_hunks kv_X11_hunks (c_X11_hunks hG hK hz1 q3 hO (by omega)) (by first | with_reducible assumption | rfl) rfl rfl rfl (Nat.le_of_ble_eq_true rfl) ⟨Nat.le_of_ble_eq_true rfl, Nat.le_of_ble_eq_true rfl⟩ ⟨Nat.le_of_ble_eq_true rfl, Nat.le_of_ble_eq_true rfl⟩ ?_
        rintro v mi3 mr3 ⟨rfl, rfl, g1, g2⟩
        refine V_iret dX11_count_98 rfl ⟨Nat.le_of_ble_eq_true rfl, Nat.le_of_ble_eq_true rfl⟩ ?_
        exact ⟨rfl, _, rfl, rfl, rfl, hfin.1.keep (g1 3 (by decide) (by decide)) (g1 5 (by decide) (by decide)) (fun x hx => g2 x (by omega)), fun x hx => by rw [g2 x (by omega)]; exact hfin.2 x hx⟩
      · refine V_tsw 79 99 dX11_count_20 (by decide) (Or.inl ⟨by decide, by decide, rfl⟩) (by decide) ?_
        refine V_aload_n dX11_count_99 rfl ?_
        refine V_iconst dX11_count_100 ?_
        refine V_callV1 dX11_count_101 ml_RX11_149 km_X11_blocks kv_X11_blocks (c_X11_blocks (p := -1) hG (by decide) hfin.1.1 hA hB k1 ⟨hLr.1, hLr.2.1⟩ hrr hsc hz2) (by first | with_reducible assumption | rfl) rfl rfl rfl (Nat.le_of_ble_eq_true rfl) ⟨Nat.le_of_ble_eq_true rfl, Nat.le_of_ble_eq_true rfl⟩ ⟨Nat.le_of_ble_eq_true rfl, Nat.le_of_ble_eq_true rfl⟩ ?_
        rintro v mi3 mr3 ⟨rfl, rfl, j2⟩
        rw [vBl_no (Or.inl (by decide)), List.length_map]
        refine V_iret dX11_count_104 rfl ⟨Nat.le_of_ble_eq_true rfl, Nat.le_of_ble_eq_true rfl⟩ ?_
        exact ⟨rfl, _, rfl, vie (by show ((bs (mvd D n m A B Z)).length : Int) = (mvd D n m A B Z).length; rw [hbl]), rfl, hfin.1.keep (by rw [j2 62 (by decide) (by decide)]) (by rw [j2 62 (by decide) (by decide)]) (fun x hx => j2 x (by omega) (by omega)), fun x hx => by rw [j2 x (by omega) (by omega)]; exact hfin.2 x hx⟩
    · have hzd : Z 0 < D := Decidable.byContradiction fun hc => by rw [if_neg hc] at h13; omega
      refine V_ldc (-1000003) dX11_count_16 kc_RX11_61 rfl ?_
      refine V_iret dX11_count_18 rfl ⟨Nat.le_of_ble_eq_true rfl, Nat.le_of_ble_eq_true rfl⟩ ?_
      exact ⟨rfl, _, rfl, by rw [if_pos hzd], rfl, hfin⟩
  · have e1 : (if 2 ≤ w ∧ w ≤ 5 then (1 : Int) else 0) = 0 := if_neg h25
    by_cases h20 : 20 ≤ w ∧ w ≤ 22
    · have e2 : (if 20 ≤ w ∧ w ≤ 22 then (1 : Int) else 0) = 1 := if_pos h20
      have eo : opCount D n m A B Z hs tl T w = (Z (w - 20), (n, m, A, B, Z), hs, tl, T) := by
        unfold opCount
        rw [if_pos h20]
      rw [eo]
      have ez : mi 63 (2 + w - 20) = Z (w - 20) := by
        rw [show 2 + w - 20 = 2 + (w - 20) by omega]
        exact hR.2.1 (w - 20) (by omega) (by omega)
      refine V_iload_n dX11_count_0 rfl ?_
      refine V_iconst dX11_count_1 ?_
      refine V_iconst dX11_count_2 ?_
      refine V_callSP dX11_count_3 ml_RX11_48 km_X11_in ks_X11_in (c_X11_in (v := w) (a := 2) (b := 5) (by omega) (by omega) (by omega)) rfl rfl (Nat.le_of_ble_eq_true rfl) ⟨Nat.le_of_ble_eq_true rfl, Nat.le_of_ble_eq_true rfl⟩ ⟨Nat.le_of_ble_eq_true rfl, Nat.le_of_ble_eq_true rfl⟩ ?_
      rw [e1]
      refine V_if_eq 19 dX11_count_6 (by decide) (by omega) (fun _ => ?_) (fun h6 => absurd h6 ((by decide)))
      refine V_iload_n dX11_count_19 rfl ?_
      refine V_tsw 100 120 dX11_count_20 hw (Or.inr ⟨by omega, rfl⟩) (by decide) ?_
      refine V_iload_n dX11_count_120 rfl ?_
      refine V_bipush dX11_count_121 (by decide) ?_
      refine V_bipush dX11_count_123 (by decide) ?_
      refine V_callSP dX11_count_125 ml_RX11_48 km_X11_in ks_X11_in (c_X11_in (v := w) (a := 20) (b := 22) (by omega) (by omega) (by omega)) rfl rfl (Nat.le_of_ble_eq_true rfl) ⟨Nat.le_of_ble_eq_true rfl, Nat.le_of_ble_eq_true rfl⟩ ⟨Nat.le_of_ble_eq_true rfl, Nat.le_of_ble_eq_true rfl⟩ ?_
      rw [e2]
      refine V_if_eq 145 dX11_count_128 (by decide) (by omega) (fun h128 => absurd h128 ((by decide))) (fun _ => ?_)
      refine V_aload_n dX11_count_131 rfl ?_
      refine V_getr 0 _ dX11_count_132 fl_RX11_7 (by first | with_reducible assumption | rfl) rfl rfl (by first | with_reducible assumption | exact hG.at rfl) ?_
      refine V_iconst dX11_count_135 ?_
      refine V_iload_n dX11_count_136 rfl ?_
      refine V_iadd dX11_count_137 ?_
      refine V_bipush dX11_count_138 (by decide) ?_
      refine V_isub dX11_count_140 ?_
      refine V_iald dX11_count_141 (by first | with_reducible assumption | rfl) (by decide) (by omega) ?_
      rw [ez]
      refine V_goto 147 dX11_count_142 (by decide) ?_
      refine V_iret dX11_count_147 rfl ⟨Nat.le_of_ble_eq_true rfl, Nat.le_of_ble_eq_true rfl⟩ ?_
      exact ⟨rfl, _, rfl, rfl, rfl, h, fun _ _ => rfl⟩
    · have e2 : (if 20 ≤ w ∧ w ≤ 22 then (1 : Int) else 0) = 0 := if_neg h20
      unfold opCount
      rw [if_neg h20]
      refine V_iload_n dX11_count_0 rfl ?_
      refine V_iconst dX11_count_1 ?_
      refine V_iconst dX11_count_2 ?_
      refine V_callSP dX11_count_3 ml_RX11_48 km_X11_in ks_X11_in (c_X11_in (v := w) (a := 2) (b := 5) (by omega) (by omega) (by omega)) rfl rfl (Nat.le_of_ble_eq_true rfl) ⟨Nat.le_of_ble_eq_true rfl, Nat.le_of_ble_eq_true rfl⟩ ⟨Nat.le_of_ble_eq_true rfl, Nat.le_of_ble_eq_true rfl⟩ ?_
      rw [e1]
      refine V_if_eq 19 dX11_count_6 (by decide) (by omega) (fun _ => ?_) (fun h6 => absurd h6 ((by decide)))
      refine V_iload_n dX11_count_19 rfl ?_
      rcases (show w = 0 ∨ w = 1 ∨ w = 6 ∨ w = 7 ∨ w = 8 ∨ (w < 0 ∨ 8 < w) by omega) with rfl | rfl | rfl | rfl | rfl | hw9
      · refine V_tsw 52 72 dX11_count_20 (by decide) (Or.inl ⟨by decide, by decide, rfl⟩) (by decide) ?_
        refine V_aload_n dX11_count_72 rfl ?_
        refine V_getr 0 _ dX11_count_73 fl_RX11_7 (by first | with_reducible assumption | rfl) rfl rfl (by first | with_reducible assumption | exact hG.at rfl) ?_
        refine V_iload_n dX11_count_76 rfl ?_
        refine V_iald dX11_count_77 (by first | with_reducible assumption | rfl) (by decide) (by omega) ?_
        first | rw [q0] | rw [q1]
        refine V_iret dX11_count_78 rfl ⟨Nat.le_of_ble_eq_true rfl, Nat.le_of_ble_eq_true rfl⟩ ?_
        exact ⟨rfl, _, rfl, rfl, rfl, h, fun _ _ => rfl⟩
      · refine V_tsw 52 72 dX11_count_20 (by decide) (Or.inl ⟨by decide, by decide, rfl⟩) (by decide) ?_
        refine V_aload_n dX11_count_72 rfl ?_
        refine V_getr 0 _ dX11_count_73 fl_RX11_7 (by first | with_reducible assumption | rfl) rfl rfl (by first | with_reducible assumption | exact hG.at rfl) ?_
        refine V_iload_n dX11_count_76 rfl ?_
        refine V_iald dX11_count_77 (by first | with_reducible assumption | rfl) (by decide) (by omega) ?_
        first | rw [q0] | rw [q1]
        refine V_iret dX11_count_78 rfl ⟨Nat.le_of_ble_eq_true rfl, Nat.le_of_ble_eq_true rfl⟩ ?_
        exact ⟨rfl, _, rfl, rfl, rfl, h, fun _ _ => rfl⟩
      · refine V_tsw 85 105 dX11_count_20 (by decide) (Or.inl ⟨by decide, by decide, rfl⟩) (by decide) ?_
        refine V_aload_n dX11_count_105 rfl ?_
        refine V_callVP dX11_count_106 ml_RX11_155 km_X11_longest kv_X11_longest (c_X11_longest hG hR hA hB) (by first | with_reducible assumption | rfl) rfl rfl rfl (Nat.le_of_ble_eq_true rfl) ⟨Nat.le_of_ble_eq_true rfl, Nat.le_of_ble_eq_true rfl⟩ ⟨Nat.le_of_ble_eq_true rfl, Nat.le_of_ble_eq_true rfl⟩ ?_
        refine V_iret dX11_count_109 rfl ⟨Nat.le_of_ble_eq_true rfl, Nat.le_of_ble_eq_true rfl⟩ ?_
        exact ⟨rfl, _, rfl, rfl, rfl, h, fun _ _ => rfl⟩
      · refine V_tsw 90 110 dX11_count_20 (by decide) (Or.inl ⟨by decide, by decide, rfl⟩) (by decide) ?_
        refine V_aload_n dX11_count_110 rfl ?_
        refine V_geti 3 dX11_count_111 fl_RX11_57 (by first | with_reducible assumption | rfl) rfl rfl ?_
        rw [h.2.2.1.1]
        refine V_iret dX11_count_114 rfl ⟨Nat.le_of_ble_eq_true rfl, Nat.le_of_ble_eq_true rfl⟩ ?_
        exact ⟨rfl, _, rfl, rfl, rfl, h, fun _ _ => rfl⟩
      · refine V_tsw 95 115 dX11_count_20 (by decide) (Or.inl ⟨by decide, by decide, rfl⟩) (by decide) ?_
        refine V_aload_n dX11_count_115 rfl ?_
        refine V_geti 5 dX11_count_116 fl_RX11_158 (by first | with_reducible assumption | rfl) rfl rfl ?_
        rw [h.2.2.2.1]
        refine V_iret dX11_count_119 rfl ⟨Nat.le_of_ble_eq_true rfl, Nat.le_of_ble_eq_true rfl⟩ ?_
        exact ⟨rfl, _, rfl, rfl, rfl, h, fun _ _ => rfl⟩
      · refine V_tsw 100 120 dX11_count_20 hw (Or.inr ⟨by omega, rfl⟩) (by decide) ?_
        refine V_iload_n dX11_count_120 rfl ?_
        refine V_bipush dX11_count_121 (by decide) ?_
        refine V_bipush dX11_count_123 (by decide) ?_
        refine V_callSP dX11_count_125 ml_RX11_48 km_X11_in ks_X11_in (c_X11_in (v := w) (a := 20) (b := 22) (by omega) (by omega) (by omega)) rfl rfl (Nat.le_of_ble_eq_true rfl) ⟨Nat.le_of_ble_eq_true rfl, Nat.le_of_ble_eq_true rfl⟩ ⟨Nat.le_of_ble_eq_true rfl, Nat.le_of_ble_eq_true rfl⟩ ?_
        rw [e2]
        refine V_if_eq 145 dX11_count_128 (by decide) (by omega) (fun _ => ?_) (fun h128 => absurd h128 ((by decide)))
        refine V_ldc (-1000001) dX11_count_145 kc_RX11_56 rfl ?_
        refine V_iret dX11_count_147 rfl ⟨Nat.le_of_ble_eq_true rfl, Nat.le_of_ble_eq_true rfl⟩ ?_
        exact ⟨rfl, _, rfl, by rw [if_neg (show ¬ w = 0 by omega), if_neg (show ¬ w = 1 by omega), if_neg h25, if_neg (show ¬ w = 6 by omega), if_neg (show ¬ w = 7 by omega), if_neg (show ¬ w = 8 by omega)], rfl, h, fun _ _ => rfl⟩
end MODEL19
