/-! ===== DiagonalTexts: hunks, the best change ===== -/
section CLASS5
variable {mi mi1 mi2 : MI} {mr mr1 mr2 : MR} {f fb g gb : Nat} {n m n' m' tl D : Int} {A B A' B' Z T : Int → Int} {hs : List St} {P : Int → Nat}
/-- the hunks' begins, last edits and counts are in their places -/
theorem hk_b (r : Int) (K : Int → Int) : ∀ (s : Nat) (i : Int), 0 ≤ i → i < (hk r K s).1 → (0 ≤ (hk r K s).2.1 i ∧ (hk r K s).2.1 i < s) ∧ (0 ≤ (hk r K s).2.2.1 i ∧ (hk r K s).2.2.1 i < s) ∧ (0 ≤ (hk r K s).2.2.2 i ∧ (hk r K s).2.2.2 i ≤ s)
  | 0, i, h0, h1 => by simp [hk] at h1; omega
  | s + 1, i, h0, h1 => by
    have hr := hk_r r K s
    have ih := fun j g0 g1 => hk_b r K s j g0 g1
    by_cases hK : K s = 0
    · have e : hk r K (s + 1) = hk r K s := by simp only [hk]; rw [if_pos hK]
      rw [e] at h1 ⊢
      have := ih i h0 h1
      omega
    · by_cases hc : (hk r K s).1 = 0 ∨ 2 * r < (s : Int) - (hk r K s).2.2.1 ((hk r K s).1 - 1) - 1
      · have e : hk r K (s + 1) = ((hk r K s).1 + 1, up1 (hk r K s).2.1 (hk r K s).1 s, up1 (hk r K s).2.2.1 (hk r K s).1 s, up1 (hk r K s).2.2.2 (hk r K s).1 1) := by simp only [hk]; rw [if_neg hK, if_pos hc]
        rw [e] at h1 ⊢
        simp only at h1 ⊢
        unfold up1
        by_cases hi : i = (hk r K s).1
        · rw [if_pos hi, if_pos hi, if_pos hi]; omega
        · rw [if_neg hi, if_neg hi, if_neg hi]
          have := ih i h0 (by omega)
          omega
      · have e : hk r K (s + 1) = ((hk r K s).1, (hk r K s).2.1, up1 (hk r K s).2.2.1 ((hk r K s).1 - 1) s, up1 (hk r K s).2.2.2 ((hk r K s).1 - 1) ((hk r K s).2.2.2 ((hk r K s).1 - 1) + 1)) := by simp only [hk]; rw [if_neg hK, if_neg hc]
        rw [e] at h1 ⊢
        simp only at h1 ⊢
        unfold up1
        have h3 := ih i h0 h1
        by_cases hi : i = (hk r K s).1 - 1
        · rw [if_pos hi, if_pos hi, ← hi]; omega
        · rw [if_neg hi, if_neg hi]
          omega
def vHunk (r L : Int) (K X Y : Int → Int) (i w : Int) : Int :=
  if (hk r K L.toNat).1 ≤ i then -1000004
  else if w = 0 then X (max ((hk r K L.toNat).2.1 i - r) 0)
  else if w = 1 then X (min ((hk r K L.toNat).2.2.1 i + 1 + r) L) - X (max ((hk r K L.toNat).2.1 i - r) 0)
  else if w = 2 then Y (max ((hk r K L.toNat).2.1 i - r) 0)
  else if w = 3 then Y (min ((hk r K L.toNat).2.2.1 i + 1 + r) L) - Y (max ((hk r K L.toNat).2.1 i - r) 0)
  else (hk r K L.toNat).2.2.2 i
set_option maxRecDepth 100000 in
set_option maxHeartbeats 1000000 in
theorem c_X10_hunkOf {i w : Int} (hD : isD n m A B D) (hi : rng i) (hw : rng w) (h : RepC mi mr ((n, m, A, B, Z), hs, tl, T)) : C1 yX10_hunkOf cX10_hunkOf 5 (some .int) 5 SH mi mr [vr 0, vi i, vi w] (PoC (opScr D n m A B Z (hs, tl, T) (0 ≤ i ∧ 0 ≤ w ∧ w ≤ 4) (vHunk (Z 1) (sL n m D) (sK A B n m D) (sX A B n m D) (sY A B n m D) i w)) mi) := by
  obtain ⟨f, fb, g, gb, P, hN, hZ, hS, hP, hH, hT⟩ := id h
  simp only at hN hZ hS hP hH hT
  obtain ⟨⟨u1, u2, hG⟩, -⟩ := hN.u
  have hR := sc_R hS.1 hS.2.1 hD
  simp only at hR
  have hz1 := hS.2.2.2.1
  simp only at hz1
  refine Ct.ofV (ini := false) [some (vr 0), some (vi i), some (vi w), none, none] km_X10_hunkOf (by decide) rfl (Nat.le_of_ble_eq_true rfl) ?_
  unfold opScr
  by_cases hin : 0 ≤ i ∧ 0 ≤ w ∧ w ≤ 4
  · rw [if_neg (not_not_intro hin)]
    have e1 : (if 0 ≤ w ∧ w ≤ 4 then (1 : Int) else 0) = 1 := if_pos hin.2
    refine V_iload_n dX10_hunkOf_0 rfl ?_
    refine V_if_lt 13 dX10_hunkOf_1 (by decide) (by omega) (fun h1 => absurd h1 ((by omega))) (fun _ => ?_)
    refine V_iload_n dX10_hunkOf_4 rfl ?_
    refine V_iconst dX10_hunkOf_5 ?_
    refine V_iconst dX10_hunkOf_6 ?_
    refine V_callSP dX10_hunkOf_7 ml_RX10_77 km_X10_isIn ks_X10_isIn (c_X10_isIn (v := w) (a := 0) (b := 4) (by omega) (by omega) (by omega)) rfl rfl (Nat.le_of_ble_eq_true rfl) ⟨Nat.le_of_ble_eq_true rfl, Nat.le_of_ble_eq_true rfl⟩ ⟨Nat.le_of_ble_eq_true rfl, Nat.le_of_ble_eq_true rfl⟩ ?_
    rw [e1]
    refine V_if_ne 16 dX10_hunkOf_10 (by decide) (by omega) (fun _ => ?_) (fun h10 => absurd h10 ((by decide)))
    refine V_aload_n dX10_hunkOf_16 rfl ?_
    refine V_callV1 dX10_hunkOf_17 ml_RX10_149 km_X10_findScript kv_X10_findScript (c_X10_findScript hD h) (by first | with_reducible assumption | rfl) rfl rfl rfl (Nat.le_of_ble_eq_true rfl) ⟨Nat.le_of_ble_eq_true rfl, Nat.le_of_ble_eq_true rfl⟩ ⟨Nat.le_of_ble_eq_true rfl, Nat.le_of_ble_eq_true rfl⟩ ?_
    rintro v mi2 mr2 ⟨rfl, rfl, k1, k2, k3⟩
    have hfin : RepC mi2 mr2 ((n, m, A, B, Z), hs, tl, T) ∧ ∀ x, 62 ≤ x → mi2 x = mi x := ⟨h.keep (fun x x1 x2 => k3 x (by omega)), fun x x1 => k3 x (by omega)⟩
    refine V_if_ne 26 dX10_hunkOf_20 (by decide) (by split <;> omega) (fun h20 => ?_) (fun h20 => ?_)
    · have hzd : ¬ Z 0 < D := fun hc => by rw [if_pos hc] at h20; omega
      have hSc := k2 hzd
      have hL := hSc.1
      refine V_aload_n dX10_hunkOf_26 rfl ?_
      refine V_getr 6 _ dX10_hunkOf_27 fl_RX10_52 (by first | with_reducible assumption | rfl) rfl rfl (by first | with_reducible assumption | exact hG.at rfl) ?_
      refine V_aload_n dX10_hunkOf_30 rfl ?_
      refine V_getr 4 _ dX10_hunkOf_31 fl_RX10_42 (by first | with_reducible assumption | rfl) rfl rfl (by first | with_reducible assumption | exact hG.at rfl) ?_
      refine V_aload_n dX10_hunkOf_34 rfl ?_
      refine V_getr 0 _ dX10_hunkOf_35 fl_RX10_12 (by first | with_reducible assumption | rfl) rfl rfl (by first | with_reducible assumption | exact hG.at rfl) ?_
      refine V_getr 2 _ dX10_hunkOf_38 fl_RX10_123 (by first | with_reducible assumption | rfl) rfl rfl (by first | with_reducible assumption | exact hG.at rfl) ?_
      refine V_iconst dX10_hunkOf_41 ?_
      refine V_iald dX10_hunkOf_42 (by first | with_reducible assumption | rfl) (by decide) (by omega) ?_
      rw [k3 6 (by decide), hZ 1 (by decide) (by decide)]
      refine V_callV0 dX10_hunkOf_43 ml_RX10_173 km_X4_find kv_X4_find (c_X4_find (r := Z 1) hz1 hG hSc hR) (by first | with_reducible assumption | rfl) rfl rfl rfl (Nat.le_of_ble_eq_true rfl) ⟨Nat.le_of_ble_eq_true rfl, Nat.le_of_ble_eq_true rfl⟩ ⟨Nat.le_of_ble_eq_true rfl, Nat.le_of_ble_eq_true rfl⟩ ?_
      rintro mi3 mr3 ⟨rfl, ⟨q1, q2⟩, j2⟩
      have hSc3 := hSc.keep (mi' := mi3) (fun x x1 x2 => j2 x (by omega))
      have hfin3 : RepC mi3 mr3 ((n, m, A, B, Z), hs, tl, T) ∧ ∀ x, 62 ≤ x → mi3 x = mi x := ⟨hfin.1.keep (fun x x1 x2 => j2 x (by omega)), fun x x1 => by rw [j2 x (by omega), hfin.2 x x1]⟩
      have hkr := hk_r (Z 1) (sK A B n m D) (sL n m D).toNat
      refine V_iload_n dX10_hunkOf_46 rfl ?_
      refine V_aload_n dX10_hunkOf_47 rfl ?_
      refine V_getr 6 _ dX10_hunkOf_48 fl_RX10_52 (by first | with_reducible assumption | rfl) rfl rfl (by first | with_reducible assumption | exact hG.at rfl) ?_
      refine V_geti 3 dX10_hunkOf_51 fl_RX10_176 (by first | with_reducible assumption | rfl) rfl rfl ?_
      rw [q1]
      refine V_icmp_lt 60 dX10_hunkOf_54 (by decide) (by omega) (by omega) (fun h54 => ?_) (fun h54 => ?_)
      · have hlt : ¬ (hk (Z 1) (sK A B n m D) (sL n m D).toNat).1 ≤ i := by omega
        obtain ⟨b1, b2, b3⟩ := hk_b (Z 1) (sK A B n m D) (sL n m D).toNat i hin.1 (by omega)
        obtain ⟨q3, q4, q5⟩ := q2 i hin.1 (by omega)
        refine V_aload_n dX10_hunkOf_60 rfl ?_
        refine V_getr 6 _ dX10_hunkOf_61 fl_RX10_52 (by first | with_reducible assumption | rfl) rfl rfl (by first | with_reducible assumption | exact hG.at rfl) ?_
        refine V_iload_n dX10_hunkOf_64 rfl ?_
        refine V_callVP dX10_hunkOf_65 ml_RX10_179 km_X4_beginOf kv_X4_beginOf (c_X4_beginOf hG (by omega) (by omega)) (by first | with_reducible assumption | rfl) rfl rfl rfl (Nat.le_of_ble_eq_true rfl) ⟨Nat.le_of_ble_eq_true rfl, Nat.le_of_ble_eq_true rfl⟩ ⟨Nat.le_of_ble_eq_true rfl, Nat.le_of_ble_eq_true rfl⟩ ?_
        rw [q3]
        refine S_istore_n (ls' := [_, _, _, _, _]) dX10_hunkOf_68 ⟨Nat.le_of_ble_eq_true rfl, rfl, rfl⟩ rfl ?_
        refine V_aload_n dX10_hunkOf_69 rfl ?_
        refine V_getr 6 _ dX10_hunkOf_70 fl_RX10_52 (by first | with_reducible assumption | rfl) rfl rfl (by first | with_reducible assumption | exact hG.at rfl) ?_
        refine V_iload_n dX10_hunkOf_73 rfl ?_
        refine V_callVP dX10_hunkOf_74 ml_RX10_182 km_X4_endOf kv_X4_endOf (c_X4_endOf hG (by omega) (by omega)) (by first | with_reducible assumption | rfl) rfl rfl rfl (Nat.le_of_ble_eq_true rfl) ⟨Nat.le_of_ble_eq_true rfl, Nat.le_of_ble_eq_true rfl⟩ ⟨Nat.le_of_ble_eq_true rfl, Nat.le_of_ble_eq_true rfl⟩ ?_
        rw [q4]
        refine S_istore (ls' := [_, _, _, _, _]) dX10_hunkOf_77 ⟨Nat.le_of_ble_eq_true rfl, rfl, rfl⟩ rfl ?_
        refine V_iload_n dX10_hunkOf_79 rfl ?_
        rcases (show w = 0 ∨ w = 1 ∨ w = 2 ∨ w = 3 ∨ w = 4 by omega) with rfl | rfl | rfl | rfl | rfl
        · refine V_tsw 32 112 dX10_hunkOf_80 (by decide) (Or.inl ⟨by decide, by decide, rfl⟩) (by decide) ?_
          refine V_aload_n dX10_hunkOf_112 rfl ?_
          refine V_getr 4 _ dX10_hunkOf_113 fl_RX10_42 (by first | with_reducible assumption | rfl) rfl rfl (by first | with_reducible assumption | exact hG.at rfl) ?_
          refine V_iload_n dX10_hunkOf_116 rfl ?_
          refine V_callVP dX10_hunkOf_117 ml_RX10_159 km_X8_firstDoneAt kv_X8_firstDoneAt (d_firstDoneAt hG (by omega) hSc3) (by first | with_reducible assumption | rfl) rfl rfl rfl (Nat.le_of_ble_eq_true rfl) ⟨Nat.le_of_ble_eq_true rfl, Nat.le_of_ble_eq_true rfl⟩ ⟨Nat.le_of_ble_eq_true rfl, Nat.le_of_ble_eq_true rfl⟩ ?_
          refine V_iret dX10_hunkOf_120 rfl ⟨Nat.le_of_ble_eq_true rfl, Nat.le_of_ble_eq_true rfl⟩ ?_
          exact ⟨rfl, _, rfl, by rw [if_neg hzd]; unfold vHunk; rw [if_neg hlt]; rfl, hfin3⟩
        · refine V_tsw 41 121 dX10_hunkOf_80 (by decide) (Or.inl ⟨by decide, by decide, rfl⟩) (by decide) ?_
          refine V_aload_n dX10_hunkOf_121 rfl ?_
          refine V_getr 4 _ dX10_hunkOf_122 fl_RX10_42 (by first | with_reducible assumption | rfl) rfl rfl (by first | with_reducible assumption | exact hG.at rfl) ?_
          refine V_iload dX10_hunkOf_125 rfl ?_
          refine V_callVP dX10_hunkOf_127 ml_RX10_159 km_X8_firstDoneAt kv_X8_firstDoneAt (d_firstDoneAt hG (by omega) hSc3) (by first | with_reducible assumption | rfl) rfl rfl rfl (Nat.le_of_ble_eq_true rfl) ⟨Nat.le_of_ble_eq_true rfl, Nat.le_of_ble_eq_true rfl⟩ ⟨Nat.le_of_ble_eq_true rfl, Nat.le_of_ble_eq_true rfl⟩ ?_
          refine V_aload_n dX10_hunkOf_130 rfl ?_
          refine V_getr 4 _ dX10_hunkOf_131 fl_RX10_42 (by first | with_reducible assumption | rfl) rfl rfl (by first | with_reducible assumption | exact hG.at rfl) ?_
          refine V_iload_n dX10_hunkOf_134 rfl ?_
          refine V_callVP dX10_hunkOf_135 ml_RX10_159 km_X8_firstDoneAt kv_X8_firstDoneAt (d_firstDoneAt hG (by omega) hSc3) (by first | with_reducible assumption | rfl) rfl rfl rfl (Nat.le_of_ble_eq_true rfl) ⟨Nat.le_of_ble_eq_true rfl, Nat.le_of_ble_eq_true rfl⟩ ⟨Nat.le_of_ble_eq_true rfl, Nat.le_of_ble_eq_true rfl⟩ ?_
          refine V_isub dX10_hunkOf_138 ?_
          refine V_iret dX10_hunkOf_139 rfl ⟨Nat.le_of_ble_eq_true rfl, Nat.le_of_ble_eq_true rfl⟩ ?_
          exact ⟨rfl, _, rfl, by rw [if_neg hzd]; unfold vHunk; rw [if_neg hlt]; rfl, hfin3⟩
        · refine V_tsw 60 140 dX10_hunkOf_80 (by decide) (Or.inl ⟨by decide, by decide, rfl⟩) (by decide) ?_
          refine V_aload_n dX10_hunkOf_140 rfl ?_
          refine V_getr 4 _ dX10_hunkOf_141 fl_RX10_42 (by first | with_reducible assumption | rfl) rfl rfl (by first | with_reducible assumption | exact hG.at rfl) ?_
          refine V_iload_n dX10_hunkOf_144 rfl ?_
          refine V_callVP dX10_hunkOf_145 ml_RX10_162 km_X8_secondDoneAt kv_X8_secondDoneAt (d_secondDoneAt hG (by omega) hSc3) (by first | with_reducible assumption | rfl) rfl rfl rfl (Nat.le_of_ble_eq_true rfl) ⟨Nat.le_of_ble_eq_true rfl, Nat.le_of_ble_eq_true rfl⟩ ⟨Nat.le_of_ble_eq_true rfl, Nat.le_of_ble_eq_true rfl⟩ ?_
          refine V_iret dX10_hunkOf_148 rfl ⟨Nat.le_of_ble_eq_true rfl, Nat.le_of_ble_eq_true rfl⟩ ?_
          exact ⟨rfl, _, rfl, by rw [if_neg hzd]; unfold vHunk; rw [if_neg hlt]; rfl, hfin3⟩
        · refine V_tsw 69 149 dX10_hunkOf_80 (by decide) (Or.inl ⟨by decide, by decide, rfl⟩) (by decide) ?_
          refine V_aload_n dX10_hunkOf_149 rfl ?_
          refine V_getr 4 _ dX10_hunkOf_150 fl_RX10_42 (by first | with_reducible assumption | rfl) rfl rfl (by first | with_reducible assumption | exact hG.at rfl) ?_
          refine V_iload dX10_hunkOf_153 rfl ?_
          refine V_callVP dX10_hunkOf_155 ml_RX10_162 km_X8_secondDoneAt kv_X8_secondDoneAt (d_secondDoneAt hG (by omega) hSc3) (by first | with_reducible assumption | rfl) rfl rfl rfl (Nat.le_of_ble_eq_true rfl) ⟨Nat.le_of_ble_eq_true rfl, Nat.le_of_ble_eq_true rfl⟩ ⟨Nat.le_of_ble_eq_true rfl, Nat.le_of_ble_eq_true rfl⟩ ?_
          refine V_aload_n dX10_hunkOf_158 rfl ?_
          refine V_getr 4 _ dX10_hunkOf_159 fl_RX10_42 (by first | with_reducible assumption | rfl) rfl rfl (by first | with_reducible assumption | exact hG.at rfl) ?_
          refine V_iload_n dX10_hunkOf_162 rfl ?_
          refine V_callVP dX10_hunkOf_163 ml_RX10_162 km_X8_secondDoneAt kv_X8_secondDoneAt (d_secondDoneAt hG (by omega) hSc3) (by first | with_reducible assumption | rfl) rfl rfl rfl (Nat.le_of_ble_eq_true rfl) ⟨Nat.le_of_ble_eq_true rfl, Nat.le_of_ble_eq_true rfl⟩ ⟨Nat.le_of_ble_eq_true rfl, Nat.le_of_ble_eq_true rfl⟩ ?_
          refine V_isub dX10_hunkOf_166 ?_
          refine V_iret dX10_hunkOf_167 rfl ⟨Nat.le_of_ble_eq_true rfl, Nat.le_of_ble_eq_true rfl⟩ ?_
          exact ⟨rfl, _, rfl, by rw [if_neg hzd]; unfold vHunk; rw [if_neg hlt]; rfl, hfin3⟩
        · refine V_tsw 88 168 dX10_hunkOf_80 (by decide) (Or.inr ⟨Or.inr (by decide), rfl⟩) (by decide) ?_
          refine V_aload_n dX10_hunkOf_168 rfl ?_
          refine V_getr 6 _ dX10_hunkOf_169 fl_RX10_52 (by first | with_reducible assumption | rfl) rfl rfl (by first | with_reducible assumption | exact hG.at rfl) ?_
          refine V_iload_n dX10_hunkOf_172 rfl ?_
          refine V_callVP dX10_hunkOf_173 ml_RX10_185 km_X4_editsOf kv_X4_editsOf (c_X4_editsOf hG (by omega) (by omega)) (by first | with_reducible assumption | rfl) rfl rfl rfl (Nat.le_of_ble_eq_true rfl) ⟨Nat.le_of_ble_eq_true rfl, Nat.le_of_ble_eq_true rfl⟩ ⟨Nat.le_of_ble_eq_true rfl, Nat.le_of_ble_eq_true rfl⟩ ?_
          rw [q5]
          refine V_iret dX10_hunkOf_176 rfl ⟨Nat.le_of_ble_eq_true rfl, Nat.le_of_ble_eq_true rfl⟩ ?_
          exact ⟨rfl, _, rfl, by rw [if_neg hzd]; unfold vHunk; rw [if_neg hlt]; rfl, hfin3⟩
      · have hge : (hk (Z 1) (sK A B n m D) (sL n m D).toNat).1 ≤ i := by omega
        refine V_ldc (-1000004) dX10_hunkOf_57 kc_RX10_142 rfl ?_
        refine V_iret dX10_hunkOf_59 rfl ⟨Nat.le_of_ble_eq_true rfl, Nat.le_of_ble_eq_true rfl⟩ ?_
        exact ⟨rfl, _, rfl, by rw [if_neg hzd]; unfold vHunk; rw [if_pos hge], hfin3⟩
    · have hzd : Z 0 < D := Decidable.byContradiction fun hc => by rw [if_neg hc] at h20; omega
      refine V_ldc (-1000003) dX10_hunkOf_23 kc_RX10_90 rfl ?_
      refine V_iret dX10_hunkOf_25 rfl ⟨Nat.le_of_ble_eq_true rfl, Nat.le_of_ble_eq_true rfl⟩ ?_
      exact ⟨rfl, _, rfl, by rw [if_pos hzd], hfin⟩
  · rw [if_pos hin]
    refine V_iload_n dX10_hunkOf_0 rfl ?_
    refine V_if_lt 13 dX10_hunkOf_1 (by decide) (by omega) (fun h1 => ?_) (fun h1 => ?_)
    · refine V_ldc (-1000001) dX10_hunkOf_13 kc_RX10_81 rfl ?_
      refine V_iret dX10_hunkOf_15 rfl ⟨Nat.le_of_ble_eq_true rfl, Nat.le_of_ble_eq_true rfl⟩ ?_
      exact ⟨rfl, _, rfl, rfl, h, fun _ _ => rfl⟩
    · refine V_iload_n dX10_hunkOf_4 rfl ?_
      refine V_iconst dX10_hunkOf_5 ?_
      refine V_iconst dX10_hunkOf_6 ?_
      refine V_callSP dX10_hunkOf_7 ml_RX10_77 km_X10_isIn ks_X10_isIn (c_X10_isIn (v := w) (a := 0) (b := 4) (by omega) (by omega) (by omega)) rfl rfl (Nat.le_of_ble_eq_true rfl) ⟨Nat.le_of_ble_eq_true rfl, Nat.le_of_ble_eq_true rfl⟩ ⟨Nat.le_of_ble_eq_true rfl, Nat.le_of_ble_eq_true rfl⟩ ?_
      refine V_if_ne 16 dX10_hunkOf_10 (by decide) (by split <;> omega) (fun h10 => ?_) (fun h10 => ?_)
      · exact absurd (by rw [ifz, Decidable.not_not] at h10; exact ⟨by omega, h10⟩) hin
      · refine V_ldc (-1000001) dX10_hunkOf_13 kc_RX10_81 rfl ?_
        refine V_iret dX10_hunkOf_15 rfl ⟨Nat.le_of_ble_eq_true rfl, Nat.le_of_ble_eq_true rfl⟩ ?_
        exact ⟨rfl, _, rfl, rfl, h, fun _ _ => rfl⟩
theorem bRow_b (c : Nat → Int → Int) (p : Nat) (s : Int × Int × Int) (hs : (-1 ≤ s.1 ∧ s.1 ≤ p) ∧ -1 ≤ s.2.1 ∧ s.2.1 < 8) : ∀ v : Nat, v ≤ 8 → (-1 ≤ (bRow c p s v).1 ∧ (bRow c p s v).1 ≤ p) ∧ -1 ≤ (bRow c p s v).2.1 ∧ (bRow c p s v).2.1 < 8
  | 0, _ => hs
  | v + 1, hv => by
    have := bRow_b c p s hs v (by omega)
    simp only [bRow]
    split
    · simp only; omega
    · exact this
theorem bAll_b (c : Nat → Int → Int) (s : Int × Int × Int) (hs : s.1 = -1 ∧ s.2.1 = -1) : ∀ k : Nat, (-1 ≤ (bAll c s k).1 ∧ (bAll c s k).1 < k) ∧ -1 ≤ (bAll c s k).2.1 ∧ (bAll c s k).2.1 < 8
  | 0 => by simp only [bAll]; omega
  | k + 1 => by
    have ih := bAll_b c s hs k
    have := bRow_b c k (bAll c s k) (by omega) 8 (by omega)
    simp only [bAll]
    omega
def bst (A B : Int → Int) (n m : Int) : Int × Int × Int := bAll (cwF A B n m) (-1, -1, lcN A B n.toNat m.toNat) n.toNat
def opBest (n m : Int) (A B Z : Int → Int) (u : List St × Int × (Int → Int)) (w : Int) : Int × Sg :=
  (if ¬ (0 ≤ w ∧ w ≤ 2) then -1000001 else if (bst A B n m).1 = -1 then -1000004 else if w = 0 then (bst A B n m).1 else if w = 1 then (bst A B n m).2.1 else n + m - 2 * (bst A B n m).2.2, (n, m, A, B, Z), u)
set_option maxRecDepth 100000 in
set_option maxHeartbeats 1000000 in
theorem c_X10_bestChange {w : Int} (hw : rng w) (h : RepC mi mr ((n, m, A, B, Z), hs, tl, T)) : C1 yX10_bestChange cX10_bestChange 2 (some .int) 6 SH mi mr [vr 0, vi w] (PoC (opBest n m A B Z (hs, tl, T) w) mi) := by
  obtain ⟨f, fb, g, gb, P, hN, hZ, hS, hP, hH, hT⟩ := id h
  simp only at hN hZ hS hP hH hT
  obtain ⟨⟨u1, u2, hG⟩, -⟩ := hN.u
  have hlc := lcN_r A B n.toNat m.toNat
  have hn := hS.1.1
  simp only at hn
  have hbb := bAll_b (cwF A B n m) (-1, -1, lcN A B n.toNat m.toNat) ⟨rfl, rfl⟩ n.toNat
  have hbr := bAll_r (cwF A B n m) (-1, -1, lcN A B n.toNat m.toNat) (by simp only; omega) n.toNat (fun p v hp => cwN_r A B n m p v ⟨by omega, hn.2⟩ _) n.toNat (by omega)
  refine Ct.ofV (ini := false) [some (vr 0), some (vi w)] km_X10_bestChange (by decide) rfl (Nat.le_of_ble_eq_true rfl) ?_
  unfold opBest bst
  generalize hq : bAll (cwF A B n m) (-1, -1, lcN A B n.toNat m.toNat) n.toNat = q at hbb hbr
  by_cases hin : 0 ≤ w ∧ w ≤ 2
  · rw [if_neg (not_not_intro hin)]
    have e1 : (if 0 ≤ w ∧ w ≤ 2 then (1 : Int) else 0) = 1 := if_pos hin
    refine V_iload_n dX10_bestChange_0 rfl ?_
    refine V_iconst dX10_bestChange_1 ?_
    refine V_iconst dX10_bestChange_2 ?_
    refine V_callSP dX10_bestChange_3 ml_RX10_77 km_X10_isIn ks_X10_isIn (c_X10_isIn (v := w) (a := 0) (b := 2) (by omega) (by omega) (by omega)) rfl rfl (Nat.le_of_ble_eq_true rfl) ⟨Nat.le_of_ble_eq_true rfl, Nat.le_of_ble_eq_true rfl⟩ ⟨Nat.le_of_ble_eq_true rfl, Nat.le_of_ble_eq_true rfl⟩ ?_
    rw [e1]
    refine V_if_ne 12 dX10_bestChange_6 (by decide) (by omega) (fun _ => ?_) (fun h6 => absurd h6 ((by decide)))
    refine V_aload_n dX10_bestChange_12 rfl ?_
    refine V_getr 8 _ dX10_bestChange_13 fl_RX10_66 (by first | with_reducible assumption | rfl) rfl rfl (by first | with_reducible assumption | exact hG.at rfl) ?_
    refine V_aload_n dX10_bestChange_16 rfl ?_
    refine V_getr 0 _ dX10_bestChange_17 fl_RX10_12 (by first | with_reducible assumption | rfl) rfl rfl (by first | with_reducible assumption | exact hG.at rfl) ?_
    refine V_callV0 dX10_bestChange_20 ml_RX10_201 km_X1_findBest kv_X1_findBest (c_X1_findBest hN) (by first | with_reducible assumption | rfl) rfl rfl rfl (Nat.le_of_ble_eq_true rfl) ⟨Nat.le_of_ble_eq_true rfl, Nat.le_of_ble_eq_true rfl⟩ ⟨Nat.le_of_ble_eq_true rfl, Nat.le_of_ble_eq_true rfl⟩ ?_
    rintro mi2 mr2 ⟨rfl, ⟨k1, k2, k2b⟩, k3⟩
    rw [hq] at k1 k2 k2b
    have hfin : RepC mi2 mr2 ((n, m, A, B, Z), hs, tl, T) ∧ ∀ x, 62 ≤ x → mi2 x = mi x := ⟨h.keep (fun x x1 x2 => k3 x (by omega) (by omega) (by omega)), fun x x1 => k3 x (by omega) (by omega) (by omega)⟩
    obtain ⟨-, ⟨w4, w5, w6⟩, ⟨w7, w8, w9⟩, ⟨w10, w11, w12⟩, -⟩ := (hN.keep (mi' := mi2) (fun x x1 x2 => k3 x (by omega) (by omega) (by omega))).u
    refine V_aload_n dX10_bestChange_23 rfl ?_
    refine V_getr 8 _ dX10_bestChange_24 fl_RX10_66 (by first | with_reducible assumption | rfl) rfl rfl (by first | with_reducible assumption | exact hG.at rfl) ?_
    refine V_geti 3 dX10_bestChange_27 fl_RX10_204 (by first | with_reducible assumption | rfl) rfl rfl ?_
    rw [k1]
    refine V_iconst dX10_bestChange_30 ?_
    refine V_icmp_ne 37 dX10_bestChange_31 (by decide) (by omega) (by omega) (fun h31 => ?_) (fun h31 => ?_)
    · refine V_iload_n dX10_bestChange_37 rfl ?_
      rcases (show w = 0 ∨ w = 1 ∨ w = 2 by omega) with rfl | rfl | rfl
      · refine V_lsw 26 64 dX10_bestChange_38 (by decide) (by decide) (by decide) (by decide) ?_
        refine V_aload_n dX10_bestChange_64 rfl ?_
        refine V_getr 8 _ dX10_bestChange_65 fl_RX10_66 (by first | with_reducible assumption | rfl) rfl rfl (by first | with_reducible assumption | exact hG.at rfl) ?_
        refine V_geti 3 dX10_bestChange_68 fl_RX10_204 (by first | with_reducible assumption | rfl) rfl rfl ?_
        rw [k1]
        refine V_iret dX10_bestChange_71 rfl ⟨Nat.le_of_ble_eq_true rfl, Nat.le_of_ble_eq_true rfl⟩ ?_
        exact ⟨rfl, _, rfl, by rw [if_neg (show ¬ q.1 = -1 by omega)]; rfl, hfin⟩
      · refine V_lsw 34 72 dX10_bestChange_38 (by decide) (by decide) (by decide) (by decide) ?_
        refine V_aload_n dX10_bestChange_72 rfl ?_
        refine V_getr 8 _ dX10_bestChange_73 fl_RX10_66 (by first | with_reducible assumption | rfl) rfl rfl (by first | with_reducible assumption | exact hG.at rfl) ?_
        refine V_geti 4 dX10_bestChange_76 fl_RX10_207 (by first | with_reducible assumption | rfl) rfl rfl ?_
        rw [k2]
        refine V_iret dX10_bestChange_79 rfl ⟨Nat.le_of_ble_eq_true rfl, Nat.le_of_ble_eq_true rfl⟩ ?_
        exact ⟨rfl, _, rfl, by rw [if_neg (show ¬ q.1 = -1 by omega)]; rfl, hfin⟩
      · refine V_lsw 42 80 dX10_bestChange_38 (by decide) (by decide) (by decide) (by decide) ?_
        refine V_aload_n dX10_bestChange_80 rfl ?_
        refine V_getr 0 _ dX10_bestChange_81 fl_RX10_12 (by first | with_reducible assumption | rfl) rfl rfl (by first | with_reducible assumption | exact hG.at rfl) ?_
        refine V_getr 0 _ dX10_bestChange_84 fl_RX10_113 (by first | with_reducible assumption | rfl) rfl rfl (by first | with_reducible assumption | exact hG.at rfl) ?_
        refine V_geti 1 dX10_bestChange_87 fl_RX10_86 (by exact w4) rfl rfl ?_
        rw [w10]
        refine V_aload_n dX10_bestChange_90 rfl ?_
        refine V_getr 0 _ dX10_bestChange_91 fl_RX10_12 (by first | with_reducible assumption | rfl) rfl rfl (by first | with_reducible assumption | exact hG.at rfl) ?_
        refine V_getr 1 _ dX10_bestChange_94 fl_RX10_129 (by first | with_reducible assumption | rfl) rfl rfl (by first | with_reducible assumption | exact hG.at rfl) ?_
        refine V_geti 1 dX10_bestChange_97 fl_RX10_86 (by exact w7) rfl rfl ?_
        rw [w11]
        refine V_iadd dX10_bestChange_100 ?_
        refine V_iconst dX10_bestChange_101 ?_
        refine V_aload_n dX10_bestChange_102 rfl ?_
        refine V_getr 8 _ dX10_bestChange_103 fl_RX10_66 (by first | with_reducible assumption | rfl) rfl rfl (by first | with_reducible assumption | exact hG.at rfl) ?_
        refine V_geti 5 dX10_bestChange_106 fl_RX10_210 (by first | with_reducible assumption | rfl) rfl rfl ?_
        rw [k2b]
        refine V_imul dX10_bestChange_109 ?_
        refine V_isub dX10_bestChange_110 ?_
        refine V_iret dX10_bestChange_111 rfl ⟨Nat.le_of_ble_eq_true rfl, Nat.le_of_ble_eq_true rfl⟩ ?_
        exact ⟨rfl, _, rfl, by rw [if_neg (show ¬ q.1 = -1 by omega)]; rfl, hfin⟩
    · refine V_ldc (-1000004) dX10_bestChange_34 kc_RX10_142 rfl ?_
      refine V_iret dX10_bestChange_36 rfl ⟨Nat.le_of_ble_eq_true rfl, Nat.le_of_ble_eq_true rfl⟩ ?_
      exact ⟨rfl, _, rfl, by rw [if_pos (by omega)], hfin⟩
  · rw [if_pos hin]
    have e1 : (if 0 ≤ w ∧ w ≤ 2 then (1 : Int) else 0) = 0 := if_neg hin
    refine V_iload_n dX10_bestChange_0 rfl ?_
    refine V_iconst dX10_bestChange_1 ?_
    refine V_iconst dX10_bestChange_2 ?_
    refine V_callSP dX10_bestChange_3 ml_RX10_77 km_X10_isIn ks_X10_isIn (c_X10_isIn (v := w) (a := 0) (b := 2) (by omega) (by omega) (by omega)) rfl rfl (Nat.le_of_ble_eq_true rfl) ⟨Nat.le_of_ble_eq_true rfl, Nat.le_of_ble_eq_true rfl⟩ ⟨Nat.le_of_ble_eq_true rfl, Nat.le_of_ble_eq_true rfl⟩ ?_
    rw [e1]
    refine V_if_ne 12 dX10_bestChange_6 (by decide) (by omega) (fun h6 => absurd h6 ((by decide))) (fun _ => ?_)
    refine V_ldc (-1000001) dX10_bestChange_9 kc_RX10_81 rfl ?_
    refine V_iret dX10_bestChange_11 rfl ⟨Nat.le_of_ble_eq_true rfl, Nat.le_of_ble_eq_true rfl⟩ ?_
    exact ⟨rfl, _, rfl, rfl, h, fun _ _ => rfl⟩
end CLASS5
