/-! ===== DiagonalTexts: settings, letters, reaches, texts ===== -/
section CLASS2
variable {mi mi1 mi2 : MI} {mr mr1 mr2 : MR} {f fb g gb : Nat} {n m n' m' tl D : Int} {A B A' B' Z T : Int → Int} {hs : List St} {P : Int → Nat}
def opSet (n m : Int) (A B Z : Int → Int) (u : List St × Int × (Int → Int)) (w v : Int) : Int × Sg :=
  if ¬ ((0 ≤ w ∧ w ≤ 2) ∧ svF 0 w ≤ v ∧ v ≤ svF 1 w) then (-1000001, (n, m, A, B, Z), u)
  else (Z w, psh ((n, m, A, B, Z), u) (n, m, A, B, fset Z w v))
theorem StV.set {w v : Int} (h : StV (n, m, A, B, Z)) (hw : 0 ≤ w ∧ w ≤ 2) (hv : svF 0 w ≤ v ∧ v ≤ svF 1 w) : StV (n, m, A, B, fset Z w v) := by
  obtain ⟨h1, h2, h3, h4, h5⟩ := h
  simp only at h3 h4 h5
  rcases (show w = 0 ∨ w = 1 ∨ w = 2 by omega) with rfl | rfl | rfl
  · exact ⟨h1, h2, by simpa [fset, svF] using hv, by simpa [fset] using h4, by simpa [fset] using h5⟩
  · exact ⟨h1, h2, by simpa [fset] using h3, by simpa [fset, svF] using hv, by simpa [fset] using h5⟩
  · exact ⟨h1, h2, by simpa [fset] using h3, by simpa [fset] using h4, by simpa [fset, svF] using hv⟩
set_option maxRecDepth 100000 in
set_option maxHeartbeats 1000000 in
theorem c_X10_set {w v : Int} (hw : rng w) (hv : rng v) (h : RepC mi mr ((n, m, A, B, Z), hs, tl, T)) : C1 yX10_set cX10_set 4 (some .int) 4 SH mi mr [vr 0, vi w, vi v] (PoC (opSet n m A B Z (hs, tl, T) w v) mi) := by
  obtain ⟨f, fb, g, gb, P, hN, hZ, hS, hP, hH, hT⟩ := id h
  simp only at hN hZ hS hP hH hT
  obtain ⟨⟨u1, u2, hG⟩, ⟨u4, u5, u6⟩, ⟨u7, u8, u9⟩, ⟨u10, u11, u12⟩, uA, uB, rA, rB⟩ := hN.u
  have hse := sne hN
  have r0 : 0 ≤ svF 0 w ∧ svF 0 w ≤ 1 := by simp only [svF]; split <;> omega
  have r1 : 5 ≤ svF 1 w ∧ svF 1 w ≤ 56 := by simp only [svF]; split <;> (try split) <;> omega
  refine Ct.ofV (ini := false) [some (vr 0), some (vi w), some (vi v), none] km_X10_set (by decide) rfl (Nat.le_of_ble_eq_true rfl) ?_
  by_cases hin : (0 ≤ w ∧ w ≤ 2) ∧ svF 0 w ≤ v ∧ v ≤ svF 1 w
  · have eo : opSet n m A B Z (hs, tl, T) w v = (Z w, psh ((n, m, A, B, Z), hs, tl, T) (n, m, A, B, fset Z w v)) := by
      unfold opSet; rw [if_neg (not_not_intro hin)]
    rw [eo]
    have e1 : (if 0 ≤ w ∧ w ≤ 2 then (1 : Int) else 0) = 1 := if_pos hin.1
    have e2 : (if svF 0 w ≤ v ∧ v ≤ svF 1 w then (1 : Int) else 0) = 1 := if_pos hin.2
    refine V_iload_n dX10_set_0 rfl ?_
    refine V_iconst dX10_set_1 ?_
    refine V_iconst dX10_set_2 ?_
    refine V_callSP dX10_set_3 ml_RX10_77 km_X10_isIn ks_X10_isIn (c_X10_isIn (v := w) (a := 0) (b := 2) (by omega) (by omega) (by omega)) rfl rfl (Nat.le_of_ble_eq_true rfl) ⟨Nat.le_of_ble_eq_true rfl, Nat.le_of_ble_eq_true rfl⟩ ⟨Nat.le_of_ble_eq_true rfl, Nat.le_of_ble_eq_true rfl⟩ ?_
    rw [e1]
    refine V_if_eq 26 dX10_set_6 (by decide) (by omega) (fun h6 => absurd h6 ((by decide))) (fun _ => ?_)
    refine V_iload_n dX10_set_9 rfl ?_
    refine V_gets 0 (by decide) dX10_set_10 (Or.inl sl_RX10_116) ?_
    refine V_iload_n dX10_set_13 rfl ?_
    refine V_stld (by decide) dX10_set_14 (by omega) ?_
    refine V_gets 1 (by decide) dX10_set_15 (Or.inl sl_RX10_120) ?_
    refine V_iload_n dX10_set_18 rfl ?_
    refine V_stld (by decide) dX10_set_19 (by omega) ?_
    refine V_callSP dX10_set_20 ml_RX10_77 km_X10_isIn ks_X10_isIn (c_X10_isIn (v := v) (a := svF 0 w) (b := svF 1 w) (by omega) (by omega) (by omega)) rfl rfl (Nat.le_of_ble_eq_true rfl) ⟨Nat.le_of_ble_eq_true rfl, Nat.le_of_ble_eq_true rfl⟩ ⟨Nat.le_of_ble_eq_true rfl, Nat.le_of_ble_eq_true rfl⟩ ?_
    rw [e2]
    refine V_if_ne 29 dX10_set_23 (by decide) (by omega) (fun _ => ?_) (fun h23 => absurd h23 ((by decide)))
    refine V_aload_n dX10_set_29 rfl ?_
    refine V_getr 1 _ dX10_set_30 fl_RX10_19 (by first | with_reducible assumption | rfl) rfl rfl (by first | with_reducible assumption | exact hG.at rfl) ?_
    refine V_aload_n dX10_set_33 rfl ?_
    refine V_getr 0 _ dX10_set_34 fl_RX10_12 (by first | with_reducible assumption | rfl) rfl rfl (by first | with_reducible assumption | exact hG.at rfl) ?_
    refine V_callV0 dX10_set_37 ml_RX10_91 km_X3_record kv_X3_record (c_X3_record hN hZ hS hP hH) (by first | with_reducible assumption | rfl) rfl rfl rfl (Nat.le_of_ble_eq_true rfl) ⟨Nat.le_of_ble_eq_true rfl, Nat.le_of_ble_eq_true rfl⟩ ⟨Nat.le_of_ble_eq_true rfl, Nat.le_of_ble_eq_true rfl⟩ ?_
    rintro mi2 mr2 ⟨⟨P', k1, k2⟩, k3, k4⟩
    have hN2 := hN.rec k3 k4
    have hG2 := hN2.u.1.2.2
    refine V_aload_n dX10_set_40 rfl ?_
    refine V_getr 0 _ dX10_set_41 fl_RX10_12 (by first | with_reducible assumption | rfl) rfl rfl (by exact (hG2.at rfl : mr2 0 0 = some 1)) ?_
    refine V_getr 2 _ dX10_set_44 fl_RX10_123 (by first | with_reducible assumption | rfl) rfl rfl (by exact (hG2.at rfl : mr2 1 2 = some 6)) ?_
    refine V_iload_n dX10_set_47 rfl ?_
    refine V_iald dX10_set_48 (by first | with_reducible assumption | rfl) (by decide) (by omega) ?_
    refine S_istore_n (ls' := [_, _, _, _]) dX10_set_49 ⟨Nat.le_of_ble_eq_true rfl, rfl, rfl⟩ rfl ?_
    refine V_aload_n dX10_set_50 rfl ?_
    refine V_getr 0 _ dX10_set_51 fl_RX10_12 (by first | with_reducible assumption | rfl) rfl rfl (by exact (hG2.at rfl : mr2 0 0 = some 1)) ?_
    refine V_getr 2 _ dX10_set_54 fl_RX10_123 (by first | with_reducible assumption | rfl) rfl rfl (by exact (hG2.at rfl : mr2 1 2 = some 6)) ?_
    refine V_iload_n dX10_set_57 rfl ?_
    refine V_iload_n dX10_set_58 rfl ?_
    refine V_iast dX10_set_59 (by first | with_reducible assumption | rfl) (by decide) (by omega) ?_
    refine V_iload_n dX10_set_60 rfl ?_
    refine V_iret dX10_set_61 rfl ⟨Nat.le_of_ble_eq_true rfl, Nat.le_of_ble_eq_true rfl⟩ ?_
    refine ⟨rfl, _, rfl, by rw [k3 6 (by decide), hZ w hin.1.1 (by omega)], ⟨f, fb, g, gb, P', hN2.keep (fun x x1 x2 => up2_n _ _ _ (by omega)), fset_at (n := 3) (fun j j1 j2 j3 => by rw [k3 6 (by decide)]; exact hZ j j1 j2) (by omega), hS.set hin.1 hin.2, k1, k2.keep k1 (fun x x1 x2 => up2_n _ _ _ (by omega)), hT.keep (by rw [up2_n _ _ _ (by decide), k3 33 (by decide)]) (by rw [up2_n _ _ _ (by decide), k3 34 (by decide)])⟩, fun x hx => by rw [up2_n _ _ _ (by omega), k3 x (by omega)]⟩
  · have eo : opSet n m A B Z (hs, tl, T) w v = (-1000001, (n, m, A, B, Z), hs, tl, T) := by unfold opSet; rw [if_pos hin]
    rw [eo]
    refine V_iload_n dX10_set_0 rfl ?_
    refine V_iconst dX10_set_1 ?_
    refine V_iconst dX10_set_2 ?_
    refine V_callSP dX10_set_3 ml_RX10_77 km_X10_isIn ks_X10_isIn (c_X10_isIn (v := w) (a := 0) (b := 2) (by omega) (by omega) (by omega)) rfl rfl (Nat.le_of_ble_eq_true rfl) ⟨Nat.le_of_ble_eq_true rfl, Nat.le_of_ble_eq_true rfl⟩ ⟨Nat.le_of_ble_eq_true rfl, Nat.le_of_ble_eq_true rfl⟩ ?_
    refine V_if_eq 26 dX10_set_6 (by decide) (by split <;> omega) (fun h6 => ?_) (fun h6 => ?_)
    · refine V_ldc (-1000001) dX10_set_26 kc_RX10_81 rfl ?_
      refine V_iret dX10_set_28 rfl ⟨Nat.le_of_ble_eq_true rfl, Nat.le_of_ble_eq_true rfl⟩ ?_
      exact ⟨rfl, _, rfl, rfl, h, fun _ _ => rfl⟩
    · rw [ifz, Decidable.not_not] at h6
      refine V_iload_n dX10_set_9 rfl ?_
      refine V_gets 0 (by decide) dX10_set_10 (Or.inl sl_RX10_116) ?_
      refine V_iload_n dX10_set_13 rfl ?_
      refine V_stld (by decide) dX10_set_14 (by omega) ?_
      refine V_gets 1 (by decide) dX10_set_15 (Or.inl sl_RX10_120) ?_
      refine V_iload_n dX10_set_18 rfl ?_
      refine V_stld (by decide) dX10_set_19 (by omega) ?_
      refine V_callSP dX10_set_20 ml_RX10_77 km_X10_isIn ks_X10_isIn (c_X10_isIn (v := v) (a := svF 0 w) (b := svF 1 w) (by omega) (by omega) (by omega)) rfl rfl (Nat.le_of_ble_eq_true rfl) ⟨Nat.le_of_ble_eq_true rfl, Nat.le_of_ble_eq_true rfl⟩ ⟨Nat.le_of_ble_eq_true rfl, Nat.le_of_ble_eq_true rfl⟩ ?_
      refine V_if_ne 29 dX10_set_23 (by decide) (by split <;> omega) (fun h23 => ?_) (fun h23 => ?_)
      · exact absurd (by rw [ifz] at h23; rw [Decidable.not_not] at h23; exact ⟨h6, h23⟩) hin
      · refine V_ldc (-1000001) dX10_set_26 kc_RX10_81 rfl ?_
        refine V_iret dX10_set_28 rfl ⟨Nat.le_of_ble_eq_true rfl, Nat.le_of_ble_eq_true rfl⟩ ?_
        exact ⟨rfl, _, rfl, rfl, h, fun _ _ => rfl⟩
def opLetterAt (n m : Int) (A B Z : Int → Int) (u : List St × Int × (Int → Int)) (row p : Int) : Int × Sg :=
  (if ¬ ((0 ≤ row ∧ row ≤ 1) ∧ 0 ≤ p) then -1000001 else if row = 0 then nf (A p) else nf (B p), (n, m, A, B, Z), u)
set_option maxRecDepth 100000 in
set_option maxHeartbeats 1000000 in
theorem c_X10_letterAt {row p : Int} (hr : rng row) (hp : rng p) (h : RepC mi mr ((n, m, A, B, Z), hs, tl, T)) : C1 yX10_letterAt cX10_letterAt 3 (some .int) 1 SH mi mr [vr 0, vi row, vi p] (PoC (opLetterAt n m A B Z (hs, tl, T) row p) mi) := by
  obtain ⟨f, fb, g, gb, P, hN, hZ, hS, hP, hH, hT⟩ := id h
  simp only at hN hZ hS hP hH hT
  obtain ⟨⟨u1, u2, hG⟩, ⟨u4, u5, u6⟩, ⟨u7, u8, u9⟩, ⟨u10, u11, u12⟩, uA, uB, rA, rB⟩ := hN.u
  have rAp := rA p
  have rBp := rB p
  refine Ct.ofV (ini := false) [some (vr 0), some (vi row), some (vi p)] km_X10_letterAt (by decide) rfl (Nat.le_of_ble_eq_true rfl) ?_
  by_cases hin : (0 ≤ row ∧ row ≤ 1) ∧ 0 ≤ p
  · have eo : opLetterAt n m A B Z (hs, tl, T) row p = (if row = 0 then nf (A p) else nf (B p), (n, m, A, B, Z), hs, tl, T) := by
      unfold opLetterAt; rw [if_neg (not_not_intro hin)]
    rw [eo]
    rcases (show row = 0 ∨ row = 1 by omega) with rfl | rfl
    · rw [if_pos rfl]
      refine V_iload_n dX10_letterAt_0 rfl ?_
      refine V_iconst dX10_letterAt_1 ?_
      refine V_iconst dX10_letterAt_2 ?_
      refine V_callSP dX10_letterAt_3 ml_RX10_77 km_X10_isIn ks_X10_isIn (c_X10_isIn (v := 0) (a := 0) (b := 1) (by omega) (by omega) (by omega)) rfl rfl (Nat.le_of_ble_eq_true rfl) ⟨Nat.le_of_ble_eq_true rfl, Nat.le_of_ble_eq_true rfl⟩ ⟨Nat.le_of_ble_eq_true rfl, Nat.le_of_ble_eq_true rfl⟩ ?_
      refine V_if_eq 13 dX10_letterAt_6 (by decide) (by omega) (fun h6 => absurd h6 ((by decide))) (fun _ => ?_)
      refine V_iload_n dX10_letterAt_9 rfl ?_
      refine V_if_ge 16 dX10_letterAt_10 (by decide) (by omega) (fun _ => ?_) (fun h10 => absurd h10 ((by omega)))
      refine V_aload_n dX10_letterAt_16 rfl ?_
      refine V_getr 0 _ dX10_letterAt_17 fl_RX10_12 (by first | with_reducible assumption | rfl) rfl rfl (by first | with_reducible assumption | exact hG.at rfl) ?_
      refine V_iload_n dX10_letterAt_20 rfl ?_
      refine V_callVP dX10_letterAt_21 ml_RX10_82 km_X9_rowOf kv_X9_rowOf (c_X9_rowOf (Or.inl rfl) hN) (by first | with_reducible assumption | rfl) rfl rfl rfl (Nat.le_of_ble_eq_true rfl) ⟨Nat.le_of_ble_eq_true rfl, Nat.le_of_ble_eq_true rfl⟩ ⟨Nat.le_of_ble_eq_true rfl, Nat.le_of_ble_eq_true rfl⟩ ?_
      rw [if_pos rfl]
      refine V_iload_n dX10_letterAt_24 rfl ?_
      refine V_callVP dX10_letterAt_25 ml_RX10_103 km_X7_at kv_X7_at (c_X7_at (i := p) hp u4 u5 u6 (by decide) (by omega)) (by exact u4) rfl rfl rfl (Nat.le_of_ble_eq_true rfl) ⟨Nat.le_of_ble_eq_true rfl, Nat.le_of_ble_eq_true rfl⟩ ⟨Nat.le_of_ble_eq_true rfl, Nat.le_of_ble_eq_true rfl⟩ ?_
      rw [uA p]
      refine V_callSP dX10_letterAt_28 ml_RX10_126 km_X10_orNotFound ks_X10_orNotFound (c_X10_orNotFound (by omega)) rfl rfl (Nat.le_of_ble_eq_true rfl) ⟨Nat.le_of_ble_eq_true rfl, Nat.le_of_ble_eq_true rfl⟩ ⟨Nat.le_of_ble_eq_true rfl, Nat.le_of_ble_eq_true rfl⟩ ?_
      refine V_iret dX10_letterAt_31 rfl ⟨Nat.le_of_ble_eq_true rfl, Nat.le_of_ble_eq_true rfl⟩ ?_
      exact ⟨rfl, _, rfl, rfl, h, fun _ _ => rfl⟩
    · rw [if_neg (show ¬ (1 : Int) = 0 by decide)]
      refine V_iload_n dX10_letterAt_0 rfl ?_
      refine V_iconst dX10_letterAt_1 ?_
      refine V_iconst dX10_letterAt_2 ?_
      refine V_callSP dX10_letterAt_3 ml_RX10_77 km_X10_isIn ks_X10_isIn (c_X10_isIn (v := 1) (a := 0) (b := 1) (by omega) (by omega) (by omega)) rfl rfl (Nat.le_of_ble_eq_true rfl) ⟨Nat.le_of_ble_eq_true rfl, Nat.le_of_ble_eq_true rfl⟩ ⟨Nat.le_of_ble_eq_true rfl, Nat.le_of_ble_eq_true rfl⟩ ?_
      refine V_if_eq 13 dX10_letterAt_6 (by decide) (by omega) (fun h6 => absurd h6 ((by decide))) (fun _ => ?_)
      refine V_iload_n dX10_letterAt_9 rfl ?_
      refine V_if_ge 16 dX10_letterAt_10 (by decide) (by omega) (fun _ => ?_) (fun h10 => absurd h10 ((by omega)))
      refine V_aload_n dX10_letterAt_16 rfl ?_
      refine V_getr 0 _ dX10_letterAt_17 fl_RX10_12 (by first | with_reducible assumption | rfl) rfl rfl (by first | with_reducible assumption | exact hG.at rfl) ?_
      refine V_iload_n dX10_letterAt_20 rfl ?_
      refine V_callVP dX10_letterAt_21 ml_RX10_82 km_X9_rowOf kv_X9_rowOf (c_X9_rowOf (Or.inr rfl) hN) (by first | with_reducible assumption | rfl) rfl rfl rfl (Nat.le_of_ble_eq_true rfl) ⟨Nat.le_of_ble_eq_true rfl, Nat.le_of_ble_eq_true rfl⟩ ⟨Nat.le_of_ble_eq_true rfl, Nat.le_of_ble_eq_true rfl⟩ ?_
      rw [if_neg (show ¬ (1 : Int) = 0 by decide)]
      refine V_iload_n dX10_letterAt_24 rfl ?_
      refine V_callVP dX10_letterAt_25 ml_RX10_103 km_X7_at kv_X7_at (c_X7_at (i := p) hp u7 u8 u9 (by decide) (by omega)) (by exact u7) rfl rfl rfl (Nat.le_of_ble_eq_true rfl) ⟨Nat.le_of_ble_eq_true rfl, Nat.le_of_ble_eq_true rfl⟩ ⟨Nat.le_of_ble_eq_true rfl, Nat.le_of_ble_eq_true rfl⟩ ?_
      rw [uB p]
      refine V_callSP dX10_letterAt_28 ml_RX10_126 km_X10_orNotFound ks_X10_orNotFound (c_X10_orNotFound (by omega)) rfl rfl (Nat.le_of_ble_eq_true rfl) ⟨Nat.le_of_ble_eq_true rfl, Nat.le_of_ble_eq_true rfl⟩ ⟨Nat.le_of_ble_eq_true rfl, Nat.le_of_ble_eq_true rfl⟩ ?_
      refine V_iret dX10_letterAt_31 rfl ⟨Nat.le_of_ble_eq_true rfl, Nat.le_of_ble_eq_true rfl⟩ ?_
      exact ⟨rfl, _, rfl, rfl, h, fun _ _ => rfl⟩
  · have eo : opLetterAt n m A B Z (hs, tl, T) row p = (-1000001, (n, m, A, B, Z), hs, tl, T) := by unfold opLetterAt; rw [if_pos hin]
    rw [eo]
    refine V_iload_n dX10_letterAt_0 rfl ?_
    refine V_iconst dX10_letterAt_1 ?_
    refine V_iconst dX10_letterAt_2 ?_
    refine V_callSP dX10_letterAt_3 ml_RX10_77 km_X10_isIn ks_X10_isIn (c_X10_isIn (v := row) (a := 0) (b := 1) (by omega) (by omega) (by omega)) rfl rfl (Nat.le_of_ble_eq_true rfl) ⟨Nat.le_of_ble_eq_true rfl, Nat.le_of_ble_eq_true rfl⟩ ⟨Nat.le_of_ble_eq_true rfl, Nat.le_of_ble_eq_true rfl⟩ ?_
    refine V_if_eq 13 dX10_letterAt_6 (by decide) (by split <;> omega) (fun h6 => ?_) (fun h6 => ?_)
    · refine V_ldc (-1000001) dX10_letterAt_13 kc_RX10_81 rfl ?_
      refine V_iret dX10_letterAt_15 rfl ⟨Nat.le_of_ble_eq_true rfl, Nat.le_of_ble_eq_true rfl⟩ ?_
      exact ⟨rfl, _, rfl, rfl, h, fun _ _ => rfl⟩
    · refine V_iload_n dX10_letterAt_9 rfl ?_
      refine V_if_ge 16 dX10_letterAt_10 (by decide) (by omega) (fun h10 => ?_) (fun h10 => ?_)
      · exact absurd (by rw [ifz, Decidable.not_not] at h6; exact ⟨h6, by omega⟩) hin
      · refine V_ldc (-1000001) dX10_letterAt_13 kc_RX10_81 rfl ?_
        refine V_iret dX10_letterAt_15 rfl ⟨Nat.le_of_ble_eq_true rfl, Nat.le_of_ble_eq_true rfl⟩ ?_
        exact ⟨rfl, _, rfl, rfl, h, fun _ _ => rfl⟩
def opSame (n m : Int) (A B Z : Int → Int) (u : List St × Int × (Int → Int)) (x y : Int) : Int × Sg :=
  (if ¬ ((0 ≤ x ∧ x ≤ n) ∧ 0 ≤ y ∧ y ≤ m) then -1000001 else sn A B x y, (n, m, A, B, Z), u)
set_option maxRecDepth 100000 in
set_option maxHeartbeats 1000000 in
theorem c_X10_same {x y : Int} (hx : rng x) (hy : rng y) (h : RepC mi mr ((n, m, A, B, Z), hs, tl, T)) : C1 yX10_same cX10_same 3 (some .int) 3 SH mi mr [vr 0, vi x, vi y] (PoC (opSame n m A B Z (hs, tl, T) x y) mi) := by
  obtain ⟨f, fb, g, gb, P, hN, hZ, hS, hP, hH, hT⟩ := id h
  simp only at hN hZ hS hP hH hT
  obtain ⟨⟨u1, u2, hG⟩, ⟨u4, u5, u6⟩, ⟨u7, u8, u9⟩, ⟨u10, u11, u12⟩, uA, uB, rA, rB⟩ := hN.u
  refine Ct.ofV (ini := false) [some (vr 0), some (vi x), some (vi y)] km_X10_same (by decide) rfl (Nat.le_of_ble_eq_true rfl) ?_
  by_cases hin : (0 ≤ x ∧ x ≤ n) ∧ 0 ≤ y ∧ y ≤ m
  · have eo : opSame n m A B Z (hs, tl, T) x y = (sn A B x y, (n, m, A, B, Z), hs, tl, T) := by
      unfold opSame; rw [if_neg (not_not_intro hin)]
    rw [eo]
    have e1 : (if 0 ≤ x ∧ x ≤ n then (1 : Int) else 0) = 1 := if_pos hin.1
    have e2 : (if 0 ≤ y ∧ y ≤ m then (1 : Int) else 0) = 1 := if_pos hin.2
    refine V_iload_n dX10_same_0 rfl ?_
    refine V_iconst dX10_same_1 ?_
    refine V_aload_n dX10_same_2 rfl ?_
    refine V_getr 0 _ dX10_same_3 fl_RX10_12 (by first | with_reducible assumption | rfl) rfl rfl (by first | with_reducible assumption | exact hG.at rfl) ?_
    refine V_getr 0 _ dX10_same_6 fl_RX10_113 (by first | with_reducible assumption | rfl) rfl rfl (by first | with_reducible assumption | exact hG.at rfl) ?_
    refine V_geti 1 dX10_same_9 fl_RX10_86 (by exact u4) rfl rfl ?_
    rw [u10]
    refine V_callSP dX10_same_12 ml_RX10_77 km_X10_isIn ks_X10_isIn (c_X10_isIn (v := x) (a := 0) (b := n) (by omega) (by omega) (by omega)) rfl rfl (Nat.le_of_ble_eq_true rfl) ⟨Nat.le_of_ble_eq_true rfl, Nat.le_of_ble_eq_true rfl⟩ ⟨Nat.le_of_ble_eq_true rfl, Nat.le_of_ble_eq_true rfl⟩ ?_
    rw [e1]
    refine V_if_eq 36 dX10_same_15 (by decide) (by omega) (fun h15 => absurd h15 ((by decide))) (fun _ => ?_)
    refine V_iload_n dX10_same_18 rfl ?_
    refine V_iconst dX10_same_19 ?_
    refine V_aload_n dX10_same_20 rfl ?_
    refine V_getr 0 _ dX10_same_21 fl_RX10_12 (by first | with_reducible assumption | rfl) rfl rfl (by first | with_reducible assumption | exact hG.at rfl) ?_
    refine V_getr 1 _ dX10_same_24 fl_RX10_129 (by first | with_reducible assumption | rfl) rfl rfl (by first | with_reducible assumption | exact hG.at rfl) ?_
    refine V_geti 1 dX10_same_27 fl_RX10_86 (by exact u7) rfl rfl ?_
    rw [u11]
    refine V_callSP dX10_same_30 ml_RX10_77 km_X10_isIn ks_X10_isIn (c_X10_isIn (v := y) (a := 0) (b := m) (by omega) (by omega) (by omega)) rfl rfl (Nat.le_of_ble_eq_true rfl) ⟨Nat.le_of_ble_eq_true rfl, Nat.le_of_ble_eq_true rfl⟩ ⟨Nat.le_of_ble_eq_true rfl, Nat.le_of_ble_eq_true rfl⟩ ?_
    rw [e2]
    refine V_if_ne 39 dX10_same_33 (by decide) (by omega) (fun _ => ?_) (fun h33 => absurd h33 ((by decide)))
    refine V_aload_n dX10_same_39 rfl ?_
    refine V_getr 0 _ dX10_same_40 fl_RX10_12 (by first | with_reducible assumption | rfl) rfl rfl (by first | with_reducible assumption | exact hG.at rfl) ?_
    refine V_iload_n dX10_same_43 rfl ?_
    refine V_iload_n dX10_same_44 rfl ?_
    refine V_callVP dX10_same_45 ml_RX10_132 km_X9_alikeFrom kv_X9_alikeFrom (c_X9_alikeFrom hN (by omega) (by omega)) (by first | with_reducible assumption | rfl) rfl rfl rfl (Nat.le_of_ble_eq_true rfl) ⟨Nat.le_of_ble_eq_true rfl, Nat.le_of_ble_eq_true rfl⟩ ⟨Nat.le_of_ble_eq_true rfl, Nat.le_of_ble_eq_true rfl⟩ ?_
    refine V_iret dX10_same_48 rfl ⟨Nat.le_of_ble_eq_true rfl, Nat.le_of_ble_eq_true rfl⟩ ?_
    exact ⟨rfl, _, rfl, rfl, h, fun _ _ => rfl⟩
  · have eo : opSame n m A B Z (hs, tl, T) x y = (-1000001, (n, m, A, B, Z), hs, tl, T) := by unfold opSame; rw [if_pos hin]
    rw [eo]
    refine V_iload_n dX10_same_0 rfl ?_
    refine V_iconst dX10_same_1 ?_
    refine V_aload_n dX10_same_2 rfl ?_
    refine V_getr 0 _ dX10_same_3 fl_RX10_12 (by first | with_reducible assumption | rfl) rfl rfl (by first | with_reducible assumption | exact hG.at rfl) ?_
    refine V_getr 0 _ dX10_same_6 fl_RX10_113 (by first | with_reducible assumption | rfl) rfl rfl (by first | with_reducible assumption | exact hG.at rfl) ?_
    refine V_geti 1 dX10_same_9 fl_RX10_86 (by exact u4) rfl rfl ?_
    rw [u10]
    refine V_callSP dX10_same_12 ml_RX10_77 km_X10_isIn ks_X10_isIn (c_X10_isIn (v := x) (a := 0) (b := n) (by omega) (by omega) (by omega)) rfl rfl (Nat.le_of_ble_eq_true rfl) ⟨Nat.le_of_ble_eq_true rfl, Nat.le_of_ble_eq_true rfl⟩ ⟨Nat.le_of_ble_eq_true rfl, Nat.le_of_ble_eq_true rfl⟩ ?_
    refine V_if_eq 36 dX10_same_15 (by decide) (by split <;> omega) (fun h15 => ?_) (fun h15 => ?_)
    · refine V_ldc (-1000001) dX10_same_36 kc_RX10_81 rfl ?_
      refine V_iret dX10_same_38 rfl ⟨Nat.le_of_ble_eq_true rfl, Nat.le_of_ble_eq_true rfl⟩ ?_
      exact ⟨rfl, _, rfl, rfl, h, fun _ _ => rfl⟩
    · refine V_iload_n dX10_same_18 rfl ?_
      refine V_iconst dX10_same_19 ?_
      refine V_aload_n dX10_same_20 rfl ?_
      refine V_getr 0 _ dX10_same_21 fl_RX10_12 (by first | with_reducible assumption | rfl) rfl rfl (by first | with_reducible assumption | exact hG.at rfl) ?_
      refine V_getr 1 _ dX10_same_24 fl_RX10_129 (by first | with_reducible assumption | rfl) rfl rfl (by first | with_reducible assumption | exact hG.at rfl) ?_
      refine V_geti 1 dX10_same_27 fl_RX10_86 (by exact u7) rfl rfl ?_
      rw [u11]
      refine V_callSP dX10_same_30 ml_RX10_77 km_X10_isIn ks_X10_isIn (c_X10_isIn (v := y) (a := 0) (b := m) (by omega) (by omega) (by omega)) rfl rfl (Nat.le_of_ble_eq_true rfl) ⟨Nat.le_of_ble_eq_true rfl, Nat.le_of_ble_eq_true rfl⟩ ⟨Nat.le_of_ble_eq_true rfl, Nat.le_of_ble_eq_true rfl⟩ ?_
      refine V_if_ne 39 dX10_same_33 (by decide) (by split <;> omega) (fun h33 => ?_) (fun h33 => ?_)
      · exact absurd (by rw [ifz] at h15 h33; rw [Decidable.not_not] at h15 h33; exact ⟨h15, h33⟩) hin
      · refine V_ldc (-1000001) dX10_same_36 kc_RX10_81 rfl ?_
        refine V_iret dX10_same_38 rfl ⟨Nat.le_of_ble_eq_true rfl, Nat.le_of_ble_eq_true rfl⟩ ?_
        exact ⟨rfl, _, rfl, rfl, h, fun _ _ => rfl⟩
def opReach (D n m : Int) (A B Z : Int → Int) (u : List St × Int × (Int → Int)) (e k : Int) : Int × Sg :=
  (if ¬ ((0 ≤ e ∧ e ≤ 56) ∧ -56 ≤ k ∧ k ≤ 56) then -1000001 else if D < e then -1000004 else if lat e k then fI A B e k else -1000004, (n, m, A, B, Z), u)
set_option maxRecDepth 100000 in
set_option maxHeartbeats 1000000 in
theorem c_X10_reach {e k : Int} (hD : isD n m A B D) (he : rng e) (hk : rng k) (h : RepC mi mr ((n, m, A, B, Z), hs, tl, T)) : C1 yX10_reach cX10_reach 3 (some .int) 4 SH mi mr [vr 0, vi e, vi k] (PoC (opReach D n m A B Z (hs, tl, T) e k) mi) := by
  obtain ⟨f, fb, g, gb, P, hN, hZ, hS, hP, hH, hT⟩ := id h
  simp only at hN hZ hS hP hH hT
  obtain ⟨⟨u1, u2, hG⟩, -⟩ := hN.u
  have hDr := isD_nn hD
  refine Ct.ofV (ini := false) [some (vr 0), some (vi e), some (vi k)] km_X10_reach (by decide) rfl (Nat.le_of_ble_eq_true rfl) ?_
  by_cases hin : (0 ≤ e ∧ e ≤ 56) ∧ -56 ≤ k ∧ k ≤ 56
  · have eo : opReach D n m A B Z (hs, tl, T) e k = (if D < e then -1000004 else if lat e k then fI A B e k else -1000004, (n, m, A, B, Z), hs, tl, T) := by
      unfold opReach; rw [if_neg (not_not_intro hin)]
    rw [eo]
    have hfr := fI_rr hS.1 hS.2.1 e k hin.1.1
    simp only at hfr
    have e1 : (if 0 ≤ e ∧ e ≤ 56 then (1 : Int) else 0) = 1 := if_pos hin.1
    have e2 : (if -56 ≤ k ∧ k ≤ 56 then (1 : Int) else 0) = 1 := if_pos hin.2
    refine V_iload_n dX10_reach_0 rfl ?_
    refine V_iconst dX10_reach_1 ?_
    refine V_bipush dX10_reach_2 (by decide) ?_
    refine V_callSP dX10_reach_4 ml_RX10_77 km_X10_isIn ks_X10_isIn (c_X10_isIn (v := e) (a := 0) (b := 56) (by omega) (by omega) (by omega)) rfl rfl (Nat.le_of_ble_eq_true rfl) ⟨Nat.le_of_ble_eq_true rfl, Nat.le_of_ble_eq_true rfl⟩ ⟨Nat.le_of_ble_eq_true rfl, Nat.le_of_ble_eq_true rfl⟩ ?_
    rw [e1]
    refine V_if_eq 21 dX10_reach_7 (by decide) (by omega) (fun h7 => absurd h7 ((by decide))) (fun _ => ?_)
    refine V_iload_n dX10_reach_10 rfl ?_
    refine V_bipush dX10_reach_11 (by decide) ?_
    refine V_bipush dX10_reach_13 (by decide) ?_
    refine V_callSP dX10_reach_15 ml_RX10_77 km_X10_isIn ks_X10_isIn (c_X10_isIn (v := k) (a := -56) (b := 56) (by omega) (by omega) (by omega)) rfl rfl (Nat.le_of_ble_eq_true rfl) ⟨Nat.le_of_ble_eq_true rfl, Nat.le_of_ble_eq_true rfl⟩ ⟨Nat.le_of_ble_eq_true rfl, Nat.le_of_ble_eq_true rfl⟩ ?_
    rw [e2]
    refine V_if_ne 24 dX10_reach_18 (by decide) (by omega) (fun _ => ?_) (fun h18 => absurd h18 ((by decide)))
    refine V_aload_n dX10_reach_24 rfl ?_
    refine V_getr 3 _ dX10_reach_25 fl_RX10_35 (by first | with_reducible assumption | rfl) rfl rfl (by first | with_reducible assumption | exact hG.at rfl) ?_
    refine V_aload_n dX10_reach_28 rfl ?_
    refine V_getr 0 _ dX10_reach_29 fl_RX10_12 (by first | with_reducible assumption | rfl) rfl rfl (by first | with_reducible assumption | exact hG.at rfl) ?_
    refine V_callV0 dX10_reach_32 ml_RX10_136 km_X5_find kv_X5_find (c_X5_find hN hD) (by first | with_reducible assumption | rfl) rfl rfl rfl (Nat.le_of_ble_eq_true rfl) ⟨Nat.le_of_ble_eq_true rfl, Nat.le_of_ble_eq_true rfl⟩ ⟨Nat.le_of_ble_eq_true rfl, Nat.le_of_ble_eq_true rfl⟩ ?_
    rintro mi2 mr2 ⟨rfl, k1, k2, k3⟩
    have hfin : RepC mi2 mr2 ((n, m, A, B, Z), hs, tl, T) ∧ ∀ x, 62 ≤ x → mi2 x = mi x := ⟨h.keep (fun x x1 x2 => k3 x (by omega) (by omega)), fun x x1 => k3 x (by omega) (by omega)⟩
    refine V_iload_n dX10_reach_35 rfl ?_
    refine V_aload_n dX10_reach_36 rfl ?_
    refine V_getr 3 _ dX10_reach_37 fl_RX10_35 (by first | with_reducible assumption | rfl) rfl rfl (by first | with_reducible assumption | exact hG.at rfl) ?_
    refine V_geti 1 dX10_reach_40 fl_RX10_139 (by first | with_reducible assumption | rfl) rfl rfl ?_
    rw [k1]
    refine V_icmp_le 49 dX10_reach_43 (by decide) (by omega) (by omega) (fun h43 => ?_) (fun h43 => ?_)
    · have er := rch_eq k2 e k (by omega)
      refine V_aload_n dX10_reach_49 rfl ?_
      refine V_getr 3 _ dX10_reach_50 fl_RX10_35 (by first | with_reducible assumption | rfl) rfl rfl (by first | with_reducible assumption | exact hG.at rfl) ?_
      refine V_iload_n dX10_reach_53 rfl ?_
      refine V_iload_n dX10_reach_54 rfl ?_
      refine V_callVP dX10_reach_55 ml_RX10_143 km_X5_at kv_X5_at (c_X5_at hG he hk) (by first | with_reducible assumption | rfl) rfl rfl rfl (Nat.le_of_ble_eq_true rfl) ⟨Nat.le_of_ble_eq_true rfl, Nat.le_of_ble_eq_true rfl⟩ ⟨Nat.le_of_ble_eq_true rfl, Nat.le_of_ble_eq_true rfl⟩ ?_
      rw [er]
      refine V_callSP dX10_reach_58 ml_RX10_126 km_X10_orNotFound ks_X10_orNotFound (c_X10_orNotFound (by split <;> omega)) rfl rfl (Nat.le_of_ble_eq_true rfl) ⟨Nat.le_of_ble_eq_true rfl, Nat.le_of_ble_eq_true rfl⟩ ⟨Nat.le_of_ble_eq_true rfl, Nat.le_of_ble_eq_true rfl⟩ ?_
      refine V_iret dX10_reach_61 rfl ⟨Nat.le_of_ble_eq_true rfl, Nat.le_of_ble_eq_true rfl⟩ ?_
      refine ⟨rfl, _, rfl, ?_, hfin⟩
      rw [if_neg (show ¬ D < e by omega)]
      unfold nf
      by_cases hl : lat e k
      · rw [if_pos hl, if_neg (show ¬ fI A B e k = -1 by omega), if_pos hl]
      · rw [if_neg hl, if_pos rfl, if_neg hl]
    · refine V_ldc (-1000004) dX10_reach_46 kc_RX10_142 rfl ?_
      refine V_iret dX10_reach_48 rfl ⟨Nat.le_of_ble_eq_true rfl, Nat.le_of_ble_eq_true rfl⟩ ?_
      exact ⟨rfl, _, rfl, by rw [if_pos (by omega)], hfin⟩
  · have eo : opReach D n m A B Z (hs, tl, T) e k = (-1000001, (n, m, A, B, Z), hs, tl, T) := by unfold opReach; rw [if_pos hin]
    rw [eo]
    refine V_iload_n dX10_reach_0 rfl ?_
    refine V_iconst dX10_reach_1 ?_
    refine V_bipush dX10_reach_2 (by decide) ?_
    refine V_callSP dX10_reach_4 ml_RX10_77 km_X10_isIn ks_X10_isIn (c_X10_isIn (v := e) (a := 0) (b := 56) (by omega) (by omega) (by omega)) rfl rfl (Nat.le_of_ble_eq_true rfl) ⟨Nat.le_of_ble_eq_true rfl, Nat.le_of_ble_eq_true rfl⟩ ⟨Nat.le_of_ble_eq_true rfl, Nat.le_of_ble_eq_true rfl⟩ ?_
    refine V_if_eq 21 dX10_reach_7 (by decide) (by split <;> omega) (fun h7 => ?_) (fun h7 => ?_)
    · refine V_ldc (-1000001) dX10_reach_21 kc_RX10_81 rfl ?_
      refine V_iret dX10_reach_23 rfl ⟨Nat.le_of_ble_eq_true rfl, Nat.le_of_ble_eq_true rfl⟩ ?_
      exact ⟨rfl, _, rfl, rfl, h, fun _ _ => rfl⟩
    · refine V_iload_n dX10_reach_10 rfl ?_
      refine V_bipush dX10_reach_11 (by decide) ?_
      refine V_bipush dX10_reach_13 (by decide) ?_
      refine V_callSP dX10_reach_15 ml_RX10_77 km_X10_isIn ks_X10_isIn (c_X10_isIn (v := k) (a := -56) (b := 56) (by omega) (by omega) (by omega)) rfl rfl (Nat.le_of_ble_eq_true rfl) ⟨Nat.le_of_ble_eq_true rfl, Nat.le_of_ble_eq_true rfl⟩ ⟨Nat.le_of_ble_eq_true rfl, Nat.le_of_ble_eq_true rfl⟩ ?_
      refine V_if_ne 24 dX10_reach_18 (by decide) (by split <;> omega) (fun h18 => ?_) (fun h18 => ?_)
      · exact absurd (by rw [ifz] at h7 h18; rw [Decidable.not_not] at h7 h18; exact ⟨h7, h18⟩) hin
      · refine V_ldc (-1000001) dX10_reach_21 kc_RX10_81 rfl ?_
        refine V_iret dX10_reach_23 rfl ⟨Nat.le_of_ble_eq_true rfl, Nat.le_of_ble_eq_true rfl⟩ ?_
        exact ⟨rfl, _, rfl, rfl, h, fun _ _ => rfl⟩
set_option maxRecDepth 100000 in
theorem c_X10_isAboveLimit (hG : Gr mr) (h1 : mi 35 1 = D) (hD : 0 ≤ D ∧ D ≤ 56) (hz : mi 6 0 = Z 0) (hzr : 0 ≤ Z 0 ∧ Z 0 ≤ 56) : CP yX10_isAboveLimit cX10_isAboveLimit 1 (some .boolean) 0 SH mi mr [vr 0] (vi (if Z 0 < D then 1 else 0)) := by
  refine Ct.ofV (ini := false) [some (vr 0)] km_X10_isAboveLimit (by decide) rfl (Nat.le_of_ble_eq_true rfl) ?_
  refine V_aload_n dX10_isAboveLimit_0 rfl ?_
  refine V_getr 3 _ dX10_isAboveLimit_1 fl_RX10_35 (by first | with_reducible assumption | rfl) rfl rfl (by first | with_reducible assumption | exact hG.at rfl) ?_
  refine V_geti 1 dX10_isAboveLimit_4 fl_RX10_139 (by first | with_reducible assumption | rfl) rfl rfl ?_
  rw [h1]
  refine V_aload_n dX10_isAboveLimit_7 rfl ?_
  refine V_getr 0 _ dX10_isAboveLimit_8 fl_RX10_12 (by first | with_reducible assumption | rfl) rfl rfl (by first | with_reducible assumption | exact hG.at rfl) ?_
  refine V_getr 2 _ dX10_isAboveLimit_11 fl_RX10_123 (by first | with_reducible assumption | rfl) rfl rfl (by first | with_reducible assumption | exact hG.at rfl) ?_
  refine V_iconst dX10_isAboveLimit_14 ?_
  refine V_iald dX10_isAboveLimit_15 (by first | with_reducible assumption | rfl) (by decide) (by omega) ?_
  rw [hz]
  refine V_icmp_le 23 dX10_isAboveLimit_16 (by decide) (by omega) (by omega) (fun h16 => ?_) (fun h16 => ?_)
  · refine V_iconst dX10_isAboveLimit_23 ?_
    refine V_zret dX10_isAboveLimit_24 rfl ⟨Nat.le_of_ble_eq_true rfl, Nat.le_of_ble_eq_true rfl⟩ (by first | exact Or.inl rfl | exact Or.inr rfl | omega) ?_
    exact ⟨rfl, by first | rw [if_pos (by omega)] | rw [if_neg (by omega)], rfl, rfl⟩
  · refine V_iconst dX10_isAboveLimit_19 ?_
    refine V_goto 24 dX10_isAboveLimit_20 (by decide) ?_
    refine V_zret dX10_isAboveLimit_24 rfl ⟨Nat.le_of_ble_eq_true rfl, Nat.le_of_ble_eq_true rfl⟩ (by first | exact Or.inl rfl | exact Or.inr rfl | omega) ?_
    exact ⟨rfl, by first | rw [if_pos (by omega)] | rw [if_neg (by omega)], rfl, rfl⟩
def opDistance (D n m : Int) (A B Z : Int → Int) (u : List St × Int × (Int → Int)) : Int × Sg := (if Z 0 < D then -1000003 else D, (n, m, A, B, Z), u)
set_option maxRecDepth 100000 in
set_option maxHeartbeats 1000000 in
theorem c_X10_distance (hD : isD n m A B D) (h : RepC mi mr ((n, m, A, B, Z), hs, tl, T)) : C1 yX10_distance cX10_distance 1 (some .int) 4 SH mi mr [vr 0] (PoC (opDistance D n m A B Z (hs, tl, T)) mi) := by
  obtain ⟨f, fb, g, gb, P, hN, hZ, hS, hP, hH, hT⟩ := id h
  simp only at hN hZ hS hP hH hT
  obtain ⟨⟨u1, u2, hG⟩, -⟩ := hN.u
  have hDr := isD_nn hD
  refine Ct.ofV (ini := false) [some (vr 0)] km_X10_distance (by decide) rfl (Nat.le_of_ble_eq_true rfl) ?_
  refine V_aload_n dX10_distance_0 rfl ?_
  refine V_getr 3 _ dX10_distance_1 fl_RX10_35 (by first | with_reducible assumption | rfl) rfl rfl (by first | with_reducible assumption | exact hG.at rfl) ?_
  refine V_aload_n dX10_distance_4 rfl ?_
  refine V_getr 0 _ dX10_distance_5 fl_RX10_12 (by first | with_reducible assumption | rfl) rfl rfl (by first | with_reducible assumption | exact hG.at rfl) ?_
  refine V_callV0 dX10_distance_8 ml_RX10_136 km_X5_find kv_X5_find (c_X5_find hN hD) (by first | with_reducible assumption | rfl) rfl rfl rfl (Nat.le_of_ble_eq_true rfl) ⟨Nat.le_of_ble_eq_true rfl, Nat.le_of_ble_eq_true rfl⟩ ⟨Nat.le_of_ble_eq_true rfl, Nat.le_of_ble_eq_true rfl⟩ ?_
  rintro mi2 mr2 ⟨rfl, k1, k2, k3⟩
  have hfin : RepC mi2 mr2 ((n, m, A, B, Z), hs, tl, T) ∧ ∀ x, 62 ≤ x → mi2 x = mi x := ⟨h.keep (fun x x1 x2 => k3 x (by omega) (by omega)), fun x x1 => k3 x (by omega) (by omega)⟩
  have hz : mi2 6 0 = Z 0 := by rw [k3 6 (by decide) (by decide)]; exact hZ 0 (by decide) (by decide)
  refine V_aload_n dX10_distance_11 rfl ?_
  refine V_callVP dX10_distance_12 ml_RX10_145 km_X10_isAboveLimit kv_X10_isAboveLimit (c_X10_isAboveLimit (Z := Z) hG k1 hDr hz hS.2.2.1) (by first | with_reducible assumption | rfl) rfl rfl rfl (Nat.le_of_ble_eq_true rfl) ⟨Nat.le_of_ble_eq_true rfl, Nat.le_of_ble_eq_true rfl⟩ ⟨Nat.le_of_ble_eq_true rfl, Nat.le_of_ble_eq_true rfl⟩ ?_
  refine V_if_eq 23 dX10_distance_15 (by decide) (by split <;> omega) (fun h15 => ?_) (fun h15 => ?_)
  · rw [ifz] at h15
    refine V_aload_n dX10_distance_23 rfl ?_
    refine V_getr 3 _ dX10_distance_24 fl_RX10_35 (by first | with_reducible assumption | rfl) rfl rfl (by first | with_reducible assumption | exact hG.at rfl) ?_
    refine V_geti 1 dX10_distance_27 fl_RX10_139 (by first | with_reducible assumption | rfl) rfl rfl ?_
    rw [k1]
    refine V_iret dX10_distance_30 rfl ⟨Nat.le_of_ble_eq_true rfl, Nat.le_of_ble_eq_true rfl⟩ ?_
    exact ⟨rfl, _, rfl, by unfold opDistance; first | rw [if_pos h15] | rw [if_neg h15], hfin⟩
  · rw [ifz, Decidable.not_not] at h15
    refine V_ldc (-1000003) dX10_distance_18 kc_RX10_90 rfl ?_
    refine V_goto 30 dX10_distance_20 (by decide) ?_
    refine V_iret dX10_distance_30 rfl ⟨Nat.le_of_ble_eq_true rfl, Nat.le_of_ble_eq_true rfl⟩ ?_
    exact ⟨rfl, _, rfl, by unfold opDistance; first | rw [if_pos h15] | rw [if_neg h15], hfin⟩
set_option maxRecDepth 100000 in
set_option maxHeartbeats 1000000 in
theorem c_X10_scripts (h : RepC mi mr ((n, m, A, B, Z), hs, tl, T)) : C1 yX10_scripts cX10_scripts 1 (some .long) 5 SH mi mr [vr 0] (fun v mi' mr' => v = vl (wyN A B n.toNat m.toNat) ∧ RepC mi' mr' ((n, m, A, B, Z), hs, tl, T) ∧ ∀ x, 62 ≤ x → mi' x = mi x) := by
  obtain ⟨f, fb, g, gb, P, hN, hZ, hS, hP, hH, hT⟩ := id h
  simp only at hN hZ hS hP hH hT
  obtain ⟨⟨u1, u2, hG⟩, -⟩ := hN.u
  refine Ct.ofV (ini := false) [some (vr 0)] km_X10_scripts (by decide) rfl (Nat.le_of_ble_eq_true rfl) ?_
  refine V_aload_n dX10_scripts_0 rfl ?_
  refine V_getr 8 _ dX10_scripts_1 fl_RX10_66 (by first | with_reducible assumption | rfl) rfl rfl (by first | with_reducible assumption | exact hG.at rfl) ?_
  refine V_aload_n dX10_scripts_4 rfl ?_
  refine V_getr 0 _ dX10_scripts_5 fl_RX10_12 (by first | with_reducible assumption | rfl) rfl rfl (by first | with_reducible assumption | exact hG.at rfl) ?_
  refine V_callV1 dX10_scripts_8 ml_RX10_169 km_X1_countWays kv_X1_countWays (c_X1_countWays hN) (by first | with_reducible assumption | rfl) rfl rfl rfl (Nat.le_of_ble_eq_true rfl) ⟨Nat.le_of_ble_eq_true rfl, Nat.le_of_ble_eq_true rfl⟩ ⟨Nat.le_of_ble_eq_true rfl, Nat.le_of_ble_eq_true rfl⟩ ?_
  rintro v mi2 mr2 ⟨rfl, rfl, k3⟩
  refine V_lret dX10_scripts_11 rfl ⟨Nat.le_of_ble_eq_true rfl, Nat.le_of_ble_eq_true rfl⟩ ?_
  exact ⟨rfl, _, rfl, rfl, h.keep (fun x x1 x2 => k3 x (by omega) (by omega)), fun x x1 => k3 x (by omega) (by omega)⟩
end CLASS2
