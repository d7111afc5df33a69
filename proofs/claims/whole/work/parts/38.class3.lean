/-! ===== DiagonalTexts: undo, typed texts ===== -/
section CLASS3
variable {mi mi1 mi2 : MI} {mr mr1 mr2 : MR} {f fb g gb : Nat} {n m n' m' tl D : Int} {A B A' B' Z T : Int → Int} {hs : List St} {P : Int → Nat}
def opUndo (n m : Int) (A B Z : Int → Int) (hs : List St) (u : Int × (Int → Int)) : Int × Sg :=
  if hs.length = 0 then (-1000002, (n, m, A, B, Z), hs, u) else ((hs.length : Int) - 1, hs.getLastD (n, m, A, B, Z), hs.dropLast, u)
set_option maxRecDepth 100000 in
set_option maxHeartbeats 1000000 in
theorem c_X10_undo (h : RepC mi mr ((n, m, A, B, Z), hs, tl, T)) : C1 yX10_undo cX10_undo 1 (some .int) 4 SH mi mr [vr 0] (PoC (opUndo n m A B Z hs (tl, T)) mi) := by
  obtain ⟨f, fb, g, gb, P, hN, hZ, hS, hP, hH, hT⟩ := id h
  simp only at hN hZ hS hP hH hT
  obtain ⟨⟨u1, u2, hG⟩, -⟩ := hN.u
  have hH1 := hH.1
  have hH2 := hH.2.1
  refine Ct.ofV (ini := false) [some (vr 0)] km_X10_undo (by decide) rfl (Nat.le_of_ble_eq_true rfl) ?_
  rcases List.eq_nil_or_concat hs with rfl | ⟨h', σ, rfl⟩
  · have h0 : mi 7 1 = 0 := by rw [hH1]; rfl
    refine V_aload_n dX10_undo_0 rfl ?_
    refine V_getr 1 _ dX10_undo_1 fl_RX10_19 (by first | with_reducible assumption | rfl) rfl rfl (by first | with_reducible assumption | exact hG.at rfl) ?_
    refine V_geti 1 dX10_undo_4 fl_RX10_220 (by first | with_reducible assumption | rfl) rfl rfl ?_
    rw [h0]
    refine V_if_ne 13 dX10_undo_7 (by decide) (by omega) (fun h7 => absurd h7 ((by decide))) (fun _ => ?_)
    refine V_ldc (-1000002) dX10_undo_10 kc_RX10_98 rfl ?_
    refine V_iret dX10_undo_12 rfl ⟨Nat.le_of_ble_eq_true rfl, Nat.le_of_ble_eq_true rfl⟩ ?_
    exact ⟨rfl, _, rfl, rfl, h, fun _ _ => rfl⟩
  · rw [List.concat_eq_append] at *
    have h0 : mi 7 1 = h'.length + 1 := by rw [hH1]; simp
    have h1 : h'.length + 1 ≤ 4 := by simpa using hH2
    have eo : opUndo n m A B Z (h' ++ [σ]) (tl, T) = ((h'.length : Int), σ, h', tl, T) := by
      unfold opUndo
      rw [if_neg (by simp)]
      simp
    rw [eo]
    refine V_aload_n dX10_undo_0 rfl ?_
    refine V_getr 1 _ dX10_undo_1 fl_RX10_19 (by first | with_reducible assumption | rfl) rfl rfl (by first | with_reducible assumption | exact hG.at rfl) ?_
    refine V_geti 1 dX10_undo_4 fl_RX10_220 (by first | with_reducible assumption | rfl) rfl rfl ?_
    rw [h0]
    refine V_if_ne 13 dX10_undo_7 (by decide) (by omega) (fun _ => ?_) (fun h7 => absurd h7 ((by omega)))
    refine V_aload_n dX10_undo_13 rfl ?_
    refine V_getr 1 _ dX10_undo_14 fl_RX10_19 (by first | with_reducible assumption | rfl) rfl rfl (by first | with_reducible assumption | exact hG.at rfl) ?_
    refine V_aload_n dX10_undo_17 rfl ?_
    refine V_getr 0 _ dX10_undo_18 fl_RX10_12 (by first | with_reducible assumption | rfl) rfl rfl (by first | with_reducible assumption | exact hG.at rfl) ?_
    refine V_callV0 dX10_undo_21 ml_RX10_221 km_X3_restoreTo kv_X3_restoreTo (c_X3_restoreTo hN hP hH) (by first | with_reducible assumption | rfl) rfl rfl rfl (Nat.le_of_ble_eq_true rfl) ⟨Nat.le_of_ble_eq_true rfl, Nat.le_of_ble_eq_true rfl⟩ ⟨Nat.le_of_ble_eq_true rfl, Nat.le_of_ble_eq_true rfl⟩ ?_
    rintro mi2 mr2 ⟨rfl, k1, k2, k3, k4⟩
    refine V_aload_n dX10_undo_24 rfl ?_
    refine V_getr 1 _ dX10_undo_25 fl_RX10_19 (by first | with_reducible assumption | rfl) rfl rfl (by first | with_reducible assumption | exact hG.at rfl) ?_
    refine V_geti 1 dX10_undo_28 fl_RX10_220 (by first | with_reducible assumption | rfl) rfl rfl ?_
    rw [k1.1]
    refine V_iret dX10_undo_31 rfl ⟨Nat.le_of_ble_eq_true rfl, Nat.le_of_ble_eq_true rfl⟩ ?_
    refine ⟨rfl, _, rfl, rfl, ⟨f, fb, g, gb, P, ⟨hN.1, hN.2.1, hG, ⟨k2.1, k2.2.1⟩, k2.2.2.1, k2.2.2.2.1, k3.1, k3.2.1⟩, k2.2.2.2.2, k3, hP, k1, hT.keep (k4 33 (by decide)) (k4 34 (by decide))⟩, fun x hx => k4 x (by omega)⟩
theorem TxOk.add {c : Int} (h : TxOk tl T) (ht : tl < 60) (hc : 32 ≤ c ∧ c ≤ 126) : TxOk (tl + 1) (fset T tl c) := by
  obtain ⟨h1, h2, h3⟩ := h
  refine ⟨by omega, fun i g1 g2 => ?_, fun i g1 => ?_⟩ <;> unfold fset <;> by_cases hi : i = tl
  · rw [if_pos hi]; exact hc
  · rw [if_neg hi]; exact h2 i g1 (by omega)
  · omega
  · rw [if_neg hi]; exact h3 i (by omega)
def opType (s : St) (hs : List St) (tl : Int) (T : Int → Int) (c : Int) : Int × Sg :=
  if ¬ (32 ≤ c ∧ c ≤ 126) then (-1000001, s, hs, tl, T) else if 60 ≤ tl then (-1000003, s, hs, tl, T) else (tl + 1, s, hs, tl + 1, fset T tl c)
set_option maxRecDepth 100000 in
set_option maxHeartbeats 1000000 in
theorem c_X10_type {c : Int} (hc : rng c) (h : RepC mi mr ((n, m, A, B, Z), hs, tl, T)) : C1 yX10_type cX10_type 2 (some .int) 1 SH mi mr [vr 0, vi c] (PoC (opType (n, m, A, B, Z) hs tl T c) mi) := by
  obtain ⟨f, fb, g, gb, P, hN, hZ, hS, hP, hH, hT⟩ := id h
  simp only at hN hZ hS hP hH hT
  obtain ⟨⟨u1, u2, hG⟩, -⟩ := hN.u
  have hl := hT.1
  have htl := hT.2.2.1
  refine Ct.ofV (ini := false) [some (vr 0), some (vi c)] km_X10_type (by decide) rfl (Nat.le_of_ble_eq_true rfl) ?_
  by_cases hin : 32 ≤ c ∧ c ≤ 126
  · have eo : opType (n, m, A, B, Z) hs tl T c = if 60 ≤ tl then (-1000003, (n, m, A, B, Z), hs, tl, T) else (tl + 1, (n, m, A, B, Z), hs, tl + 1, fset T tl c) := by unfold opType; rw [if_neg (not_not_intro hin)]
    rw [eo]
    have e1 : (if 32 ≤ c ∧ c ≤ 126 then (1 : Int) else 0) = 1 := if_pos hin
    refine V_iload_n dX10_type_0 rfl ?_
    refine V_bipush dX10_type_1 (by decide) ?_
    refine V_bipush dX10_type_3 (by decide) ?_
    refine V_callSP dX10_type_5 ml_RX10_77 km_X10_isIn ks_X10_isIn (c_X10_isIn (v := c) (a := 32) (b := 126) (by omega) (by omega) (by omega)) rfl rfl (Nat.le_of_ble_eq_true rfl) ⟨Nat.le_of_ble_eq_true rfl, Nat.le_of_ble_eq_true rfl⟩ ⟨Nat.le_of_ble_eq_true rfl, Nat.le_of_ble_eq_true rfl⟩ ?_
    rw [e1]
    refine V_if_ne 14 dX10_type_8 (by decide) (by omega) (fun _ => ?_) (fun h8 => absurd h8 ((by decide)))
    refine V_aload_n dX10_type_14 rfl ?_
    refine V_getr 2 _ dX10_type_15 fl_RX10_28 (by first | with_reducible assumption | rfl) rfl rfl (by first | with_reducible assumption | exact hG.at rfl) ?_
    refine V_geti 1 dX10_type_18 fl_RX10_86 (by first | with_reducible assumption | rfl) rfl rfl ?_
    rw [hl]
    refine V_bipush dX10_type_21 (by decide) ?_
    refine V_icmp_lt 29 dX10_type_23 (by decide) (by omega) (by omega) (fun h23 => ?_) (fun h23 => ?_)
    · refine V_aload_n dX10_type_29 rfl ?_
      refine V_getr 2 _ dX10_type_30 fl_RX10_28 (by first | with_reducible assumption | rfl) rfl rfl (by first | with_reducible assumption | exact hG.at rfl) ?_
      refine V_iload_n dX10_type_33 rfl ?_
      refine V_callV0 dX10_type_34 ml_RX10_95 km_X7_add kv_X7_add (c_X7_add (a := 33) (b := 34) (N := 60) rfl (hG.at rfl) rfl (by decide) (by omega) (by decide)) (by first | with_reducible assumption | rfl) rfl rfl rfl (Nat.le_of_ble_eq_true rfl) ⟨Nat.le_of_ble_eq_true rfl, Nat.le_of_ble_eq_true rfl⟩ ⟨Nat.le_of_ble_eq_true rfl, Nat.le_of_ble_eq_true rfl⟩ ?_
      rintro mi2 mr2 ⟨rfl, rfl⟩
      rw [if_pos (show mi 33 1 < (60 : Nat) by omega), hl]
      refine V_aload_n dX10_type_37 rfl ?_
      refine V_getr 2 _ dX10_type_38 fl_RX10_28 (by first | with_reducible assumption | rfl) rfl rfl (by first | with_reducible assumption | exact hG.at rfl) ?_
      refine V_geti 1 dX10_type_41 fl_RX10_86 (by first | with_reducible assumption | rfl) rfl rfl ?_
      rw [up2_ss]
      refine V_iret dX10_type_44 rfl ⟨Nat.le_of_ble_eq_true rfl, Nat.le_of_ble_eq_true rfl⟩ ?_
      rw [if_neg (show ¬ 60 ≤ tl by omega)]
      refine ⟨rfl, _, rfl, rfl, ⟨f, fb, g, gb, P, hN.keep (fun x x1 x2 => by rw [up2_n _ _ _ (by omega), up2_n _ _ _ (by omega)]), fun i i1 i2 => by rw [up2_n _ _ _ (by decide), up2_n _ _ _ (by decide)]; exact hZ i i1 i2, hS, hP, hH.keep hP (fun x x1 x2 => by rw [up2_n _ _ _ (by omega), up2_n _ _ _ (by omega)]), up2_ss _ _ _ _, fun i i1 i2 => by rw [up2_n _ _ _ (by decide)]; exact fset_at (n := tl + 1) (k := tl + 1) (fun j j1 j2 j3 => hT.2.1 j j1 (by omega)) (by omega) i i1 i2, hT.2.2.add (by omega) hin⟩, fun x hx => by rw [up2_n _ _ _ (by omega), up2_n _ _ _ (by omega)]⟩
    · refine V_ldc (-1000003) dX10_type_26 kc_RX10_90 rfl ?_
      refine V_iret dX10_type_28 rfl ⟨Nat.le_of_ble_eq_true rfl, Nat.le_of_ble_eq_true rfl⟩ ?_
      exact ⟨rfl, _, rfl, by rw [if_pos (by omega)], by rw [if_pos (by omega)]; exact h, fun _ _ => rfl⟩
  · have eo : opType (n, m, A, B, Z) hs tl T c = (-1000001, (n, m, A, B, Z), hs, tl, T) := by unfold opType; rw [if_pos hin]
    rw [eo]
    have e1 : (if 32 ≤ c ∧ c ≤ 126 then (1 : Int) else 0) = 0 := if_neg hin
    refine V_iload_n dX10_type_0 rfl ?_
    refine V_bipush dX10_type_1 (by decide) ?_
    refine V_bipush dX10_type_3 (by decide) ?_
    refine V_callSP dX10_type_5 ml_RX10_77 km_X10_isIn ks_X10_isIn (c_X10_isIn (v := c) (a := 32) (b := 126) (by omega) (by omega) (by omega)) rfl rfl (Nat.le_of_ble_eq_true rfl) ⟨Nat.le_of_ble_eq_true rfl, Nat.le_of_ble_eq_true rfl⟩ ⟨Nat.le_of_ble_eq_true rfl, Nat.le_of_ble_eq_true rfl⟩ ?_
    rw [e1]
    refine V_if_ne 14 dX10_type_8 (by decide) (by omega) (fun h8 => absurd h8 ((by decide))) (fun _ => ?_)
    refine V_ldc (-1000001) dX10_type_11 kc_RX10_81 rfl ?_
    refine V_iret dX10_type_13 rfl ⟨Nat.le_of_ble_eq_true rfl, Nat.le_of_ble_eq_true rfl⟩ ?_
    exact ⟨rfl, _, rfl, rfl, h, fun _ _ => rfl⟩
def opClear (s : St) (hs : List St) (tl : Int) : Int × Sg := (tl, s, hs, 0, fun _ => -1)
set_option maxRecDepth 100000 in
set_option maxHeartbeats 1000000 in
theorem c_X10_clearText (h : RepC mi mr ((n, m, A, B, Z), hs, tl, T)) : C1 yX10_clearText cX10_clearText 2 (some .int) 1 SH mi mr [vr 0] (PoC (opClear (n, m, A, B, Z) hs tl) mi) := by
  obtain ⟨f, fb, g, gb, P, hN, hZ, hS, hP, hH, hT⟩ := id h
  simp only at hN hZ hS hP hH hT
  obtain ⟨⟨u1, u2, hG⟩, -⟩ := hN.u
  have hl := hT.1
  refine Ct.ofV (ini := false) [some (vr 0), none] km_X10_clearText (by decide) rfl (Nat.le_of_ble_eq_true rfl) ?_
  refine V_aload_n dX10_clearText_0 rfl ?_
  refine V_getr 2 _ dX10_clearText_1 fl_RX10_28 (by first | with_reducible assumption | rfl) rfl rfl (by first | with_reducible assumption | exact hG.at rfl) ?_
  refine V_geti 1 dX10_clearText_4 fl_RX10_86 (by first | with_reducible assumption | rfl) rfl rfl ?_
  rw [hl]
  refine S_istore_n (ls' := [_, _]) dX10_clearText_7 ⟨Nat.le_of_ble_eq_true rfl, rfl, rfl⟩ rfl ?_
  refine V_aload_n dX10_clearText_8 rfl ?_
  refine V_getr 2 _ dX10_clearText_9 fl_RX10_28 (by first | with_reducible assumption | rfl) rfl rfl (by first | with_reducible assumption | exact hG.at rfl) ?_
  refine V_callV0 dX10_clearText_12 ml_RX10_224 km_X7_empty kv_X7_empty (c_X7_empty (a := 33) rfl) (by first | with_reducible assumption | rfl) rfl rfl rfl (Nat.le_of_ble_eq_true rfl) ⟨Nat.le_of_ble_eq_true rfl, Nat.le_of_ble_eq_true rfl⟩ ⟨Nat.le_of_ble_eq_true rfl, Nat.le_of_ble_eq_true rfl⟩ ?_
  rintro mi2 mr2 ⟨rfl, rfl⟩
  refine V_iload_n dX10_clearText_15 rfl ?_
  refine V_iret dX10_clearText_16 rfl ⟨Nat.le_of_ble_eq_true rfl, Nat.le_of_ble_eq_true rfl⟩ ?_
  refine ⟨rfl, _, rfl, rfl, ⟨f, fb, g, gb, P, hN.keep (fun x x1 x2 => by rw [up2_n _ _ _ (by omega)]), fun i i1 i2 => by rw [up2_n _ _ _ (by decide)]; exact hZ i i1 i2, hS, hP, hH.keep hP (fun x x1 x2 => by rw [up2_n _ _ _ (by omega)]), up2_ss _ _ _ _, fun i i1 i2 => absurd i2 (by simp only [opClear]; omega), ⟨by simp [opClear], fun i i1 i2 => absurd i2 (by simp only [opClear]; omega), fun i _ => rfl⟩⟩, fun x hx => by rw [up2_n _ _ _ (by omega)]⟩
def opFault (n m : Int) (A B Z : Int → Int) (hs : List St) (tl : Int) (T : Int → Int) (w : Int) : Int × Sg :=
  (if ¬ (0 ≤ w ∧ w ≤ 2) then -1000001 else if (prs A T n tl 61 0 0 []).1 = 0 then -1000004 else if w = 0 then (prs A T n tl 61 0 0 []).2.1 else if w = 1 then (prs A T n tl 61 0 0 []).1 else nf (prs A T n tl 61 0 0 []).2.2.1, (n, m, A, B, Z), hs, tl, T)
/-- what reading a text gives: ranges -/
theorem prs_r (hA : NR n A) (hT : TxOk tl T) : ∀ (t : Nat) (i d : Int) (bt : List Int), 0 ≤ i → 0 ≤ d → d ≤ n → bt.length ≤ 28 → (∀ v ∈ bt, 0 ≤ v ∧ v ≤ 7) → (0 ≤ (prs A T n tl t i d bt).1 ∧ (prs A T n tl t i d bt).1 ≤ 4) ∧ (0 ≤ (prs A T n tl t i d bt).2.1 ∧ (prs A T n tl t i d bt).2.1 ≤ 60) ∧ (-1 ≤ (prs A T n tl t i d bt).2.2.1 ∧ (prs A T n tl t i d bt).2.2.1 ≤ 61) ∧ ((prs A T n tl t i d bt).1 = 0 → (prs A T n tl t i d bt).2.2.2.length ≤ 28 ∧ ∀ v ∈ (prs A T n tl t i d bt).2.2.2, 0 ≤ v ∧ v ≤ 7) := by
  intro t
  induction t with
  | zero =>
    intro i d bt h0 h1 h2 h3 h4
    exact ⟨by simp [prs], by simp [prs], by simp [prs], fun _ => ⟨by simpa [prs] using h3, by simpa [prs] using h4⟩⟩
  | succ t ih =>
    intro i d bt h0 h1 h2 h3 h4
    have htl := hT.1
    have hn := hA.1
    have e0 : prs A T n tl (t + 1) i d bt = if tl ≤ i then (if d < n then (4, tl, n - d, bt) else (0, 0, -1, bt)) else if (pstep A T n i d bt).1 ≠ 0 then ((pstep A T n i d bt).1, i, (pstep A T n i d bt).2.1, bt) else prs A T n tl t (i + pn T i) (pstep A T n i d bt).2.2.1 (pstep A T n i d bt).2.2.2 := rfl
    rw [e0]
    by_cases ht : tl ≤ i
    · rw [if_pos ht]
      by_cases hd : d < n
      · rw [if_pos hd]
        exact ⟨by simp only; omega, by simp only; omega, by simp only; omega, fun h => absurd h (by simp)⟩
      · rw [if_neg hd]
        exact ⟨by simp only; omega, by simp only; omega, by simp only; omega, fun _ => ⟨h3, h4⟩⟩
    · rw [if_neg ht]
      by_cases hp : (pstep A T n i d bt).1 = 0
      · rw [if_neg (not_not_intro hp)]
        have hp0 := pstep_0 hp
        have hok := brk_ok hT h0 hp0.1
        have hpl := padd_len (A := A) (T := T) (i := i) (d := d) (show 0 ≤ pm T i by omega)
        rw [hp0.2.2.2]
        refine ih _ _ _ (by omega) (by simp only; split <;> omega) (by simp only; split <;> omega) ?_ ?_
        · simp only [List.length_append]
          rcases hp0.2.2.1 with h45 | h45
          · rw [hpl.1 h45]; simpa using h3
          · omega
        · intro v hv
          simp only [List.mem_append] at hv
          rcases hv with hv | hv
          · exact h4 v hv
          · have hsg : ∀ (F : Int → Int) (a : Int) (k : Nat), (∀ j, a ≤ j → j < a + k → 0 ≤ F j ∧ F j ≤ 7) → v ∈ sgm F a k → 0 ≤ v ∧ v ≤ 7 := by
              intro F a k
              induction k with
              | zero => intro _ h; simp [sgm] at h
              | succ k ihk =>
                intro hF h
                simp only [sgm, List.mem_append, List.mem_singleton] at h
                rcases h with h | h
                · exact ihk (fun j j1 j2 => hF j j1 (by omega)) h
                · rw [h]; exact hF _ (by omega) (by omega)
            unfold padd at hv
            by_cases h43 : T i = 43
            · rw [if_pos h43] at hv
              refine hsg _ _ _ (fun j j1 j2 => ?_) hv
              have h2 := (hok.2.2.2.2.2.2 h43).1
              unfold lr at h2
              have := lrun_run T 60 (i + 1) (j - (i + 1)) (by omega) (by omega)
              rw [show i + 1 + (j - (i + 1)) = j by omega] at this
              unfold tlet
              unfold isLet at this
              omega
            · rw [if_neg h43] at hv
              by_cases h61 : T i = 61
              · rw [if_pos h61] at hv
                exact hsg _ _ _ (fun j j1 j2 => hA.2.1 j (by omega) (by omega)) hv
              · rw [if_neg h61] at hv
                simp at hv
      · rw [if_pos hp]
        have hbr := brk_r hT h0
        have hr : (1 ≤ (pstep A T n i d bt).1 ∧ (pstep A T n i d bt).1 ≤ 3) ∧ -1 ≤ (pstep A T n i d bt).2.1 ∧ (pstep A T n i d bt).2.1 ≤ 61 := by
          revert hp
          unfold pstep
          split
          · intro; simp only; omega
          · split
            · intro; simp only; omega
            · split
              · intro; simp only; omega
              · intro h; exact absurd rfl h
        exact ⟨by simp only; omega, by simp only; omega, by simp only; omega, fun h => absurd h hp⟩
set_option maxRecDepth 100000 in
set_option maxHeartbeats 1000000 in
theorem c_X10_fault {w : Int} (hw : rng w) (h : RepC mi mr ((n, m, A, B, Z), hs, tl, T)) : C1 yX10_fault cX10_fault 2 (some .int) 5 SH mi mr [vr 0, vi w] (PoC (opFault n m A B Z hs tl T w) mi) := by
  obtain ⟨f, fb, g, gb, P, hN, hZ, hS, hP, hH, hT⟩ := id h
  simp only at hN hZ hS hP hH hT
  obtain ⟨⟨u1, u2, hG⟩, -⟩ := hN.u
  have hpr := prs_r hS.1 hT.2.2 61 0 0 [] (by omega) (by omega) hS.1.1.1 (by simp) (by simp)
  refine Ct.ofV (ini := false) [some (vr 0), some (vi w)] km_X10_fault (by decide) rfl (Nat.le_of_ble_eq_true rfl) ?_
  by_cases hin : 0 ≤ w ∧ w ≤ 2
  · have eo : opFault n m A B Z hs tl T w = (if (prs A T n tl 61 0 0 []).1 = 0 then -1000004 else if w = 0 then (prs A T n tl 61 0 0 []).2.1 else if w = 1 then (prs A T n tl 61 0 0 []).1 else nf (prs A T n tl 61 0 0 []).2.2.1, (n, m, A, B, Z), hs, tl, T) := by unfold opFault; rw [if_neg (not_not_intro hin)]
    rw [eo]
    have e1 : (if 0 ≤ w ∧ w ≤ 2 then (1 : Int) else 0) = 1 := if_pos hin
    simp only at hpr
    generalize hR : prs A T n tl 61 0 0 [] = R at hpr
    refine V_iload_n dX10_fault_0 rfl ?_
    refine V_iconst dX10_fault_1 ?_
    refine V_iconst dX10_fault_2 ?_
    refine V_callSP dX10_fault_3 ml_RX10_77 km_X10_isIn ks_X10_isIn (c_X10_isIn (v := w) (a := 0) (b := 2) (by omega) (by omega) (by omega)) rfl rfl (Nat.le_of_ble_eq_true rfl) ⟨Nat.le_of_ble_eq_true rfl, Nat.le_of_ble_eq_true rfl⟩ ⟨Nat.le_of_ble_eq_true rfl, Nat.le_of_ble_eq_true rfl⟩ ?_
    rw [e1]
    refine V_if_ne 12 dX10_fault_6 (by decide) (by omega) (fun _ => ?_) (fun h6 => absurd h6 ((by decide)))
    refine V_aload_n dX10_fault_12 rfl ?_
    refine V_getr 9 _ dX10_fault_13 fl_RX10_73 (by first | with_reducible assumption | rfl) rfl rfl (by first | with_reducible assumption | exact hG.at rfl) ?_
    refine V_aload_n dX10_fault_16 rfl ?_
    refine V_getr 2 _ dX10_fault_17 fl_RX10_28 (by first | with_reducible assumption | rfl) rfl rfl (by first | with_reducible assumption | exact hG.at rfl) ?_
    refine V_aload_n dX10_fault_20 rfl ?_
    refine V_getr 0 _ dX10_fault_21 fl_RX10_12 (by first | with_reducible assumption | rfl) rfl rfl (by first | with_reducible assumption | exact hG.at rfl) ?_
    refine V_getr 0 _ dX10_fault_24 fl_RX10_113 (by first | with_reducible assumption | rfl) rfl rfl (by exact u1) ?_
    refine V_callV0 dX10_fault_27 ml_RX10_227 km_X6_read kv_X6_read (c_X6_read hN hT R hR.symm) (by first | with_reducible assumption | rfl) rfl rfl rfl (Nat.le_of_ble_eq_true rfl) ⟨Nat.le_of_ble_eq_true rfl, Nat.le_of_ble_eq_true rfl⟩ ⟨Nat.le_of_ble_eq_true rfl, Nat.le_of_ble_eq_true rfl⟩ ?_
    rintro mi2 mr2 ⟨rfl, k1, k2, k3, k4⟩
    have hfin : RepC mi2 mr2 ((n, m, A, B, Z), hs, tl, T) ∧ ∀ x, 62 ≤ x → mi2 x = mi x := ⟨h.keep (fun x x1 x2 => k4 x (by omega) (by omega) (by omega)), fun x x1 => k4 x (by omega) (by omega) (by omega)⟩
    refine V_aload_n dX10_fault_30 rfl ?_
    refine V_getr 9 _ dX10_fault_31 fl_RX10_73 (by first | with_reducible assumption | rfl) rfl rfl (by first | with_reducible assumption | exact hG.at rfl) ?_
    refine V_geti 3 dX10_fault_34 fl_RX10_231 (by first | with_reducible assumption | rfl) rfl rfl ?_
    rw [k1]
    refine V_if_ne 43 dX10_fault_37 (by decide) (by omega) (fun h37 => ?_) (fun h37 => ?_)
    · refine V_iload_n dX10_fault_43 rfl ?_
      obtain ⟨k5, k6⟩ := k2 (by omega)
      rcases (show w = 0 ∨ w = 1 ∨ w = 2 by omega) with rfl | rfl | rfl
      · refine V_lsw 28 72 dX10_fault_44 (by decide) (by decide) (by decide) (by decide) ?_
        refine V_aload_n dX10_fault_72 rfl ?_
        refine V_getr 9 _ dX10_fault_73 fl_RX10_73 (by first | with_reducible assumption | rfl) rfl rfl (by first | with_reducible assumption | exact hG.at rfl) ?_
        refine V_geti 2 dX10_fault_76 fl_RX10_234 (by first | with_reducible assumption | rfl) rfl rfl ?_
        rw [k5]
        refine V_iret dX10_fault_79 rfl ⟨Nat.le_of_ble_eq_true rfl, Nat.le_of_ble_eq_true rfl⟩ ?_
        exact ⟨rfl, _, rfl, by rw [if_neg (by omega), if_pos rfl], hfin⟩
      · refine V_lsw 36 80 dX10_fault_44 (by decide) (by decide) (by decide) (by decide) ?_
        refine V_aload_n dX10_fault_80 rfl ?_
        refine V_getr 9 _ dX10_fault_81 fl_RX10_73 (by first | with_reducible assumption | rfl) rfl rfl (by first | with_reducible assumption | exact hG.at rfl) ?_
        refine V_geti 3 dX10_fault_84 fl_RX10_231 (by first | with_reducible assumption | rfl) rfl rfl ?_
        rw [k1]
        refine V_iret dX10_fault_87 rfl ⟨Nat.le_of_ble_eq_true rfl, Nat.le_of_ble_eq_true rfl⟩ ?_
        exact ⟨rfl, _, rfl, by rw [if_neg (by omega), if_neg (by decide), if_pos rfl], hfin⟩
      · refine V_lsw 44 88 dX10_fault_44 (by decide) (by decide) (by decide) (by decide) ?_
        refine V_aload_n dX10_fault_88 rfl ?_
        refine V_getr 9 _ dX10_fault_89 fl_RX10_73 (by first | with_reducible assumption | rfl) rfl rfl (by first | with_reducible assumption | exact hG.at rfl) ?_
        refine V_geti 4 dX10_fault_92 fl_RX10_237 (by first | with_reducible assumption | rfl) rfl rfl ?_
        rw [k6]
        refine V_callSP dX10_fault_95 ml_RX10_126 km_X10_orNotFound ks_X10_orNotFound (c_X10_orNotFound (by omega)) rfl rfl (Nat.le_of_ble_eq_true rfl) ⟨Nat.le_of_ble_eq_true rfl, Nat.le_of_ble_eq_true rfl⟩ ⟨Nat.le_of_ble_eq_true rfl, Nat.le_of_ble_eq_true rfl⟩ ?_
        refine V_iret dX10_fault_98 rfl ⟨Nat.le_of_ble_eq_true rfl, Nat.le_of_ble_eq_true rfl⟩ ?_
        exact ⟨rfl, _, rfl, by rw [if_neg (by omega), if_neg (by decide), if_neg (by decide)], hfin⟩
    · refine V_ldc (-1000004) dX10_fault_40 kc_RX10_142 rfl ?_
      refine V_iret dX10_fault_42 rfl ⟨Nat.le_of_ble_eq_true rfl, Nat.le_of_ble_eq_true rfl⟩ ?_
      exact ⟨rfl, _, rfl, by rw [if_pos (by omega)], hfin⟩
  · have eo : opFault n m A B Z hs tl T w = (-1000001, (n, m, A, B, Z), hs, tl, T) := by unfold opFault; rw [if_pos hin]
    rw [eo]
    have e1 : (if 0 ≤ w ∧ w ≤ 2 then (1 : Int) else 0) = 0 := if_neg hin
    refine V_iload_n dX10_fault_0 rfl ?_
    refine V_iconst dX10_fault_1 ?_
    refine V_iconst dX10_fault_2 ?_
    refine V_callSP dX10_fault_3 ml_RX10_77 km_X10_isIn ks_X10_isIn (c_X10_isIn (v := w) (a := 0) (b := 2) (by omega) (by omega) (by omega)) rfl rfl (Nat.le_of_ble_eq_true rfl) ⟨Nat.le_of_ble_eq_true rfl, Nat.le_of_ble_eq_true rfl⟩ ⟨Nat.le_of_ble_eq_true rfl, Nat.le_of_ble_eq_true rfl⟩ ?_
    rw [e1]
    refine V_if_ne 12 dX10_fault_6 (by decide) (by omega) (fun h6 => absurd h6 ((by decide))) (fun _ => ?_)
    refine V_ldc (-1000001) dX10_fault_9 kc_RX10_81 rfl ?_
    refine V_iret dX10_fault_11 rfl ⟨Nat.le_of_ble_eq_true rfl, Nat.le_of_ble_eq_true rfl⟩ ?_
    exact ⟨rfl, _, rfl, rfl, h, fun _ _ => rfl⟩
/-- a list as a row -/
def lrow (l : List Int) : Int → Int := fun i => if 0 ≤ i ∧ i < l.length then l.getD i.toNat 0 else -1
theorem lrow_NR {l : List Int} (h1 : l.length ≤ 28) (h2 : ∀ v ∈ l, 0 ≤ v ∧ v ≤ 7) : NR l.length (lrow l) := by
  refine ⟨by omega, fun i g1 g2 => ?_, fun i g1 => ?_⟩ <;> unfold lrow
  · rw [if_pos ⟨g1, g2⟩]
    have hlt : i.toNat < l.length := by omega
    have e : l.getD i.toNat 0 = l[i.toNat] := by simp [List.getD, hlt]
    rw [e]
    exact h2 _ (List.getElem_mem hlt)
  · rw [if_neg (by omega)]
def opApply (n m : Int) (A B Z : Int → Int) (hs : List St) (tl : Int) (T : Int → Int) : Int × Sg :=
  if (prs A T n tl 61 0 0 []).1 ≠ 0 then (-1000002, (n, m, A, B, Z), hs, tl, T)
  else (((prs A T n tl 61 0 0 []).2.2.2.length : Int), psh ((n, m, A, B, Z), hs, tl, T) (n, ((prs A T n tl 61 0 0 []).2.2.2.length : Int), A, lrow (prs A T n tl 61 0 0 []).2.2.2, Z))
set_option maxRecDepth 100000 in
set_option maxHeartbeats 1000000 in
theorem c_X10_apply (h : RepC mi mr ((n, m, A, B, Z), hs, tl, T)) : C1 yX10_apply cX10_apply 1 (some .int) 5 SH mi mr [vr 0] (PoC (opApply n m A B Z hs tl T) mi) := by
  obtain ⟨f, fb, g, gb, P, hN, hZ, hS, hP, hH, hT⟩ := id h
  simp only at hN hZ hS hP hH hT
  obtain ⟨⟨u1, u2, hG⟩, -⟩ := hN.u
  have hse := sne hN
  have hpr := prs_r hS.1 hT.2.2 61 0 0 [] (by omega) (by omega) hS.1.1.1 (by simp) (by simp)
  refine Ct.ofV (ini := false) [some (vr 0)] km_X10_apply (by decide) rfl (Nat.le_of_ble_eq_true rfl) ?_
  unfold opApply
  simp only at hpr
  generalize hR : prs A T n tl 61 0 0 [] = R at hpr
  refine V_aload_n dX10_apply_0 rfl ?_
  refine V_getr 9 _ dX10_apply_1 fl_RX10_73 (by first | with_reducible assumption | rfl) rfl rfl (by first | with_reducible assumption | exact hG.at rfl) ?_
  refine V_aload_n dX10_apply_4 rfl ?_
  refine V_getr 2 _ dX10_apply_5 fl_RX10_28 (by first | with_reducible assumption | rfl) rfl rfl (by first | with_reducible assumption | exact hG.at rfl) ?_
  refine V_aload_n dX10_apply_8 rfl ?_
  refine V_getr 0 _ dX10_apply_9 fl_RX10_12 (by first | with_reducible assumption | rfl) rfl rfl (by first | with_reducible assumption | exact hG.at rfl) ?_
  refine V_getr 0 _ dX10_apply_12 fl_RX10_113 (by first | with_reducible assumption | rfl) rfl rfl (by exact u1) ?_
  refine V_callV0 dX10_apply_15 ml_RX10_227 km_X6_read kv_X6_read (c_X6_read hN hT R hR.symm) (by first | with_reducible assumption | rfl) rfl rfl rfl (Nat.le_of_ble_eq_true rfl) ⟨Nat.le_of_ble_eq_true rfl, Nat.le_of_ble_eq_true rfl⟩ ⟨Nat.le_of_ble_eq_true rfl, Nat.le_of_ble_eq_true rfl⟩ ?_
  rintro mi1 mr1 ⟨rfl, k1, k2, k3, k4⟩
  refine V_aload_n dX10_apply_18 rfl ?_
  refine V_getr 9 _ dX10_apply_19 fl_RX10_73 (by first | with_reducible assumption | rfl) rfl rfl (by first | with_reducible assumption | exact hG.at rfl) ?_
  refine V_geti 3 dX10_apply_22 fl_RX10_231 (by first | with_reducible assumption | rfl) rfl rfl ?_
  rw [k1]
  refine V_if_eq 31 dX10_apply_25 (by decide) (by omega) (fun h25 => ?_) (fun h25 => ?_)
  · refine V_aload_n dX10_apply_31 rfl ?_
    refine V_getr 1 _ dX10_apply_32 fl_RX10_19 (by first | with_reducible assumption | rfl) rfl rfl (by first | with_reducible assumption | exact hG.at rfl) ?_
    refine V_aload_n dX10_apply_35 rfl ?_
    refine V_getr 0 _ dX10_apply_36 fl_RX10_12 (by first | with_reducible assumption | rfl) rfl rfl (by first | with_reducible assumption | exact hG.at rfl) ?_
    refine V_callV0 dX10_apply_39 ml_RX10_91 km_X3_record kv_X3_record (c_X3_record (hN.keep (mi' := mi1) (fun x x1 x2 => k4 x (by omega) (by omega) (by omega))) (Z := Z) (fun i i1 i2 => by rw [k4 6 (by decide) (by decide) (by decide)]; exact hZ i i1 i2) hS hP (hH.keep hP (fun x x1 x2 => k4 x (by omega) (by omega) (by omega)))) (by first | with_reducible assumption | rfl) rfl rfl rfl (Nat.le_of_ble_eq_true rfl) ⟨Nat.le_of_ble_eq_true rfl, Nat.le_of_ble_eq_true rfl⟩ ⟨Nat.le_of_ble_eq_true rfl, Nat.le_of_ble_eq_true rfl⟩ ?_
    rintro mi2 mr2 ⟨⟨P', j1, j2⟩, j3, j4⟩
    have hR0 : R.1 = 0 := by omega
    have hN1 : Now mi1 mr1 f fb g gb n m A B := hN.keep (fun x x1 x2 => k4 x (by omega) (by omega) (by omega))
    have hT1 : Typ mi1 tl T := hT.keep (k4 33 (by decide) (by decide) (by decide)) (k4 34 (by decide) (by decide) (by decide))
    have hN2 := hN1.rec j3 j4
    obtain ⟨⟨w1, w2, hG2⟩, ⟨w4, w5, w6⟩, ⟨w7, w8, w9⟩, ⟨w10, w11, w12⟩, -⟩ := hN2.u
    obtain ⟨t1, t2⟩ := (k3 hR0).keep (mi' := mi2) (j3 60 (by decide)) (j3 61 (by decide))
    obtain ⟨b1, b2⟩ := hpr.2.2.2 hR0
    refine V_aload_n dX10_apply_42 rfl ?_
    refine V_getr 0 _ dX10_apply_43 fl_RX10_12 (by first | with_reducible assumption | rfl) rfl rfl (by exact (hG2.at rfl : mr2 0 0 = some 1)) ?_
    refine V_getr 1 _ dX10_apply_46 fl_RX10_129 (by first | with_reducible assumption | rfl) rfl rfl (by exact w2) ?_
    refine V_aload_n dX10_apply_49 rfl ?_
    refine V_getr 9 _ dX10_apply_50 fl_RX10_73 (by first | with_reducible assumption | rfl) rfl rfl (by exact (hG2.at rfl : mr2 0 9 = some 59)) ?_
    refine V_getr 0 _ dX10_apply_53 fl_RX10_240 (by first | with_reducible assumption | rfl) rfl rfl (by exact (hG2.at rfl : mr2 59 0 = some 60)) ?_
    refine V_callV0 dX10_apply_56 ml_RX10_243 km_X7_copyFrom kv_X7_copyFrom (c_X7_copyFrom w7 w8 w9 (by decide) (a2 := 60) (b2 := 61) (N2 := 28) rfl (hG2.at rfl) rfl (by decide) ⟨by omega, by omega, by omega, by omega, by omega⟩ (by omega)) (by exact w7) rfl rfl rfl (Nat.le_of_ble_eq_true rfl) ⟨Nat.le_of_ble_eq_true rfl, Nat.le_of_ble_eq_true rfl⟩ ⟨Nat.le_of_ble_eq_true rfl, Nat.le_of_ble_eq_true rfl⟩ ?_
    rintro mi3 mr3 ⟨rfl, q1, q2, q3⟩
    rw [t1] at q1 q2
    refine V_aload_n dX10_apply_59 rfl ?_
    refine V_getr 0 _ dX10_apply_60 fl_RX10_12 (by first | with_reducible assumption | rfl) rfl rfl (by exact (hG2.at rfl : mr3 0 0 = some 1)) ?_
    refine V_getr 1 _ dX10_apply_63 fl_RX10_129 (by first | with_reducible assumption | rfl) rfl rfl (by exact w2) ?_
    refine V_geti 1 dX10_apply_66 fl_RX10_86 (by exact w7) rfl rfl ?_
    rw [q1]
    refine V_iret dX10_apply_69 rfl ⟨Nat.le_of_ble_eq_true rfl, Nat.le_of_ble_eq_true rfl⟩ ?_
    rw [if_neg (not_not_intro hR0)]
    have hrec := RepC.recG hN1 (Z := Z) (fun i i1 i2 => by rw [k4 6 (by decide) (by decide) (by decide)]; exact hZ i i1 i2) hS hT1 j1 j2 j3 j4 (mi3 := mi3) q1 (B' := lrow R.2.2.2) (fun i i1 i2 => by rw [q2 i i1 i2]; unfold lrow; rw [if_pos ⟨i1, i2⟩]; have := t2 i.toNat (by omega); rw [show ((i.toNat : Nat) : Int) = i by omega] at this; exact this) (lrow_NR b1 b2) q3
    exact ⟨rfl, _, rfl, rfl, hrec.1, fun x hx => by rw [hrec.2 x hx, k4 x (by omega) (by omega) (by omega)]⟩
  · refine V_ldc (-1000002) dX10_apply_28 kc_RX10_98 rfl ?_
    refine V_iret dX10_apply_30 rfl ⟨Nat.le_of_ble_eq_true rfl, Nat.le_of_ble_eq_true rfl⟩ ?_
    exact ⟨rfl, _, rfl, by rw [if_pos (by omega)], by rw [if_pos (by omega)]; exact h.keep (fun x x1 x2 => k4 x (by omega) (by omega) (by omega)), fun x x1 => k4 x (by omega) (by omega) (by omega)⟩
end CLASS3
