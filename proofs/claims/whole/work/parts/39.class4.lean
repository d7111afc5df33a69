/-! ===== DiagonalTexts: the least script, its text, hunks; the best change ===== -/
section CLASS4
variable {mi mi1 mi2 : MI} {mr mr1 mr2 : MR} {f fb g gb : Nat} {n m n' m' tl D : Int} {A B A' B' Z T : Int → Int} {hs : List St} {P : Int → Nat}
set_option maxRecDepth 100000 in
set_option maxHeartbeats 1000000 in
theorem c_X10_findScript (hD : isD n m A B D) (h : RepC mi mr ((n, m, A, B, Z), hs, tl, T)) : C1 yX10_findScript cX10_findScript 1 (some .boolean) 4 SH mi mr [vr 0] (fun v mi' mr' => v = vi (if Z 0 < D then 0 else 1) ∧ mr' = mr ∧ mi' 35 1 = D ∧ (¬ Z 0 < D → ScM mi' (sL n m D) (sK A B n m D) (sLt A B n m D) (sX A B n m D) (sY A B n m D)) ∧ ∀ x, x < 35 ∨ 41 < x → mi' x = mi x) := by
  obtain ⟨f, fb, g, gb, P, hN, hZ, hS, hP, hH, hT⟩ := id h
  simp only at hN hZ hS hP hH hT
  obtain ⟨⟨u1, u2, hG⟩, -⟩ := hN.u
  have hDr := isD_nn hD
  refine Ct.ofV (ini := false) [some (vr 0)] km_X10_findScript (by decide) rfl (Nat.le_of_ble_eq_true rfl) ?_
  refine V_aload_n dX10_findScript_0 rfl ?_
  refine V_getr 3 _ dX10_findScript_1 fl_RX10_35 (by first | with_reducible assumption | rfl) rfl rfl (by first | with_reducible assumption | exact hG.at rfl) ?_
  refine V_aload_n dX10_findScript_4 rfl ?_
  refine V_getr 0 _ dX10_findScript_5 fl_RX10_12 (by first | with_reducible assumption | rfl) rfl rfl (by first | with_reducible assumption | exact hG.at rfl) ?_
  refine V_callV0 dX10_findScript_8 ml_RX10_136 km_X5_find kv_X5_find (c_X5_find hN hD) (by first | with_reducible assumption | rfl) rfl rfl rfl (Nat.le_of_ble_eq_true rfl) ⟨Nat.le_of_ble_eq_true rfl, Nat.le_of_ble_eq_true rfl⟩ ⟨Nat.le_of_ble_eq_true rfl, Nat.le_of_ble_eq_true rfl⟩ ?_
  rintro mi2 mr2 ⟨rfl, k1, k2, k3⟩
  have hz : mi2 6 0 = Z 0 := by rw [k3 6 (by decide) (by decide)]; exact hZ 0 (by decide) (by decide)
  refine V_aload_n dX10_findScript_11 rfl ?_
  refine V_callVP dX10_findScript_12 ml_RX10_145 km_X10_isAboveLimit kv_X10_isAboveLimit (c_X10_isAboveLimit (Z := Z) hG k1 hDr hz hS.2.2.1) (by first | with_reducible assumption | rfl) rfl rfl rfl (Nat.le_of_ble_eq_true rfl) ⟨Nat.le_of_ble_eq_true rfl, Nat.le_of_ble_eq_true rfl⟩ ⟨Nat.le_of_ble_eq_true rfl, Nat.le_of_ble_eq_true rfl⟩ ?_
  refine V_if_eq 20 dX10_findScript_15 (by decide) (by split <;> omega) (fun h15 => ?_) (fun h15 => ?_)
  · rw [ifz] at h15
    refine V_aload_n dX10_findScript_20 rfl ?_
    refine V_getr 4 _ dX10_findScript_21 fl_RX10_42 (by first | with_reducible assumption | rfl) rfl rfl (by first | with_reducible assumption | exact hG.at rfl) ?_
    refine V_aload_n dX10_findScript_24 rfl ?_
    refine V_getr 0 _ dX10_findScript_25 fl_RX10_12 (by first | with_reducible assumption | rfl) rfl rfl (by first | with_reducible assumption | exact hG.at rfl) ?_
    refine V_aload_n dX10_findScript_28 rfl ?_
    refine V_getr 3 _ dX10_findScript_29 fl_RX10_35 (by first | with_reducible assumption | rfl) rfl rfl (by first | with_reducible assumption | exact hG.at rfl) ?_
    refine V_callV0 dX10_findScript_32 ml_RX10_246 km_X8_rebuild kv_X8_rebuild (c_X8_rebuild (hN.keep (mi' := mi2) (fun x x1 x2 => k3 x (by omega) (by omega))) hD k2 k1) (by first | with_reducible assumption | rfl) rfl rfl rfl (Nat.le_of_ble_eq_true rfl) ⟨Nat.le_of_ble_eq_true rfl, Nat.le_of_ble_eq_true rfl⟩ ⟨Nat.le_of_ble_eq_true rfl, Nat.le_of_ble_eq_true rfl⟩ ?_
    rintro mi3 mr3 ⟨rfl, j1, j2⟩
    refine V_iconst dX10_findScript_35 ?_
    refine V_zret dX10_findScript_36 rfl ⟨Nat.le_of_ble_eq_true rfl, Nat.le_of_ble_eq_true rfl⟩ (by first | exact Or.inl rfl | exact Or.inr rfl | omega) ?_
    exact ⟨rfl, _, rfl, by rw [if_neg h15], rfl, by rw [j2 35 (by decide)]; exact k1, fun _ => j1, fun x hx => by rw [j2 x (by omega), k3 x (by omega) (by omega)]⟩
  · rw [ifz, Decidable.not_not] at h15
    refine V_iconst dX10_findScript_18 ?_
    refine V_zret dX10_findScript_19 rfl ⟨Nat.le_of_ble_eq_true rfl, Nat.le_of_ble_eq_true rfl⟩ (by first | exact Or.inl rfl | exact Or.inr rfl | omega) ?_
    exact ⟨rfl, _, rfl, by rw [if_pos h15], rfl, k1, fun h => absurd h15 h, fun x hx => k3 x (by omega) (by omega)⟩
/-- what a call gives that needs the least script -/
def opScr (D n m : Int) (A B Z : Int → Int) (u : List St × Int × (Int → Int)) (ok : Prop) [Decidable ok] (v : Int) : Int × Sg := (if ¬ ok then -1000001 else if Z 0 < D then -1000003 else v, (n, m, A, B, Z), u)
def vStep (D n m : Int) (A B : Int → Int) (i w : Int) : Int := if sL n m D ≤ i then -1000004 else if w = 0 then sK A B n m D i else if w = 1 then sLt A B n m D i else if w = 2 then sX A B n m D i else sY A B n m D i
set_option maxRecDepth 100000 in
set_option maxHeartbeats 1000000 in
theorem c_X10_stepOf {i w : Int} (hD : isD n m A B D) (hi : rng i) (hw : rng w) (h : RepC mi mr ((n, m, A, B, Z), hs, tl, T)) : C1 yX10_stepOf cX10_stepOf 3 (some .int) 5 SH mi mr [vr 0, vi i, vi w] (PoC (opScr D n m A B Z (hs, tl, T) (0 ≤ i ∧ 0 ≤ w ∧ w ≤ 3) (vStep D n m A B i w)) mi) := by
  obtain ⟨f, fb, g, gb, P, hN, hZ, hS, hP, hH, hT⟩ := id h
  simp only at hN hZ hS hP hH hT
  obtain ⟨⟨u1, u2, hG⟩, -⟩ := hN.u
  refine Ct.ofV (ini := false) [some (vr 0), some (vi i), some (vi w)] km_X10_stepOf (by decide) rfl (Nat.le_of_ble_eq_true rfl) ?_
  unfold opScr
  by_cases hin : 0 ≤ i ∧ 0 ≤ w ∧ w ≤ 3
  · rw [if_neg (not_not_intro hin)]
    have e1 : (if 0 ≤ w ∧ w ≤ 3 then (1 : Int) else 0) = 1 := if_pos hin.2
    refine V_iload_n dX10_stepOf_0 rfl ?_
    refine V_if_lt 13 dX10_stepOf_1 (by decide) (by omega) (fun h1 => absurd h1 ((by omega))) (fun _ => ?_)
    refine V_iload_n dX10_stepOf_4 rfl ?_
    refine V_iconst dX10_stepOf_5 ?_
    refine V_iconst dX10_stepOf_6 ?_
    refine V_callSP dX10_stepOf_7 ml_RX10_77 km_X10_isIn ks_X10_isIn (c_X10_isIn (v := w) (a := 0) (b := 3) (by omega) (by omega) (by omega)) rfl rfl (Nat.le_of_ble_eq_true rfl) ⟨Nat.le_of_ble_eq_true rfl, Nat.le_of_ble_eq_true rfl⟩ ⟨Nat.le_of_ble_eq_true rfl, Nat.le_of_ble_eq_true rfl⟩ ?_
    rw [e1]
    refine V_if_ne 16 dX10_stepOf_10 (by decide) (by omega) (fun _ => ?_) (fun h10 => absurd h10 ((by decide)))
    refine V_aload_n dX10_stepOf_16 rfl ?_
    refine V_callV1 dX10_stepOf_17 ml_RX10_149 km_X10_findScript kv_X10_findScript (c_X10_findScript hD h) (by first | with_reducible assumption | rfl) rfl rfl rfl (Nat.le_of_ble_eq_true rfl) ⟨Nat.le_of_ble_eq_true rfl, Nat.le_of_ble_eq_true rfl⟩ ⟨Nat.le_of_ble_eq_true rfl, Nat.le_of_ble_eq_true rfl⟩ ?_
    rintro v mi2 mr2 ⟨rfl, rfl, k1, k2, k3⟩
    have hfin : RepC mi2 mr2 ((n, m, A, B, Z), hs, tl, T) ∧ ∀ x, 62 ≤ x → mi2 x = mi x := ⟨h.keep (fun x x1 x2 => k3 x (by omega)), fun x x1 => k3 x (by omega)⟩
    refine V_if_ne 26 dX10_stepOf_20 (by decide) (by split <;> omega) (fun h20 => ?_) (fun h20 => ?_)
    · have hzd : ¬ Z 0 < D := fun hc => by rw [if_pos hc] at h20; omega
      have hSc := k2 hzd
      have hL := hSc.1
      refine V_iload_n dX10_stepOf_26 rfl ?_
      refine V_aload_n dX10_stepOf_27 rfl ?_
      refine V_getr 4 _ dX10_stepOf_28 fl_RX10_42 (by first | with_reducible assumption | rfl) rfl rfl (by first | with_reducible assumption | exact hG.at rfl) ?_
      refine V_geti 4 dX10_stepOf_31 fl_RX10_152 (by first | with_reducible assumption | rfl) rfl rfl ?_
      rw [hL.1]
      refine V_icmp_lt 40 dX10_stepOf_34 (by decide) (by omega) (by omega) (fun h34 => ?_) (fun h34 => ?_)
      · refine V_iload_n dX10_stepOf_40 rfl ?_
        have hil : 0 ≤ i ∧ i < sL n m D := ⟨hin.1, by omega⟩
        rcases (show w = 0 ∨ w = 1 ∨ w = 2 ∨ w = 3 by omega) with rfl | rfl | rfl | rfl
        · refine V_tsw 27 68 dX10_stepOf_41 (by decide) (Or.inl ⟨by decide, by decide, rfl⟩) (by decide) ?_
          refine V_aload_n dX10_stepOf_68 rfl ?_
          refine V_getr 4 _ dX10_stepOf_69 fl_RX10_42 (by first | with_reducible assumption | rfl) rfl rfl (by first | with_reducible assumption | exact hG.at rfl) ?_
          refine V_iload_n dX10_stepOf_72 rfl ?_
          refine V_callVP dX10_stepOf_73 ml_RX10_153 km_X8_kindAt kv_X8_kindAt (d_kindAt hG hi hSc) (by first | with_reducible assumption | rfl) rfl rfl rfl (Nat.le_of_ble_eq_true rfl) ⟨Nat.le_of_ble_eq_true rfl, Nat.le_of_ble_eq_true rfl⟩ ⟨Nat.le_of_ble_eq_true rfl, Nat.le_of_ble_eq_true rfl⟩ ?_
          rw [show kx (sL n m D) (sK A B n m D) i = sK A B n m D i from if_pos hil]
          refine V_iret dX10_stepOf_76 rfl ⟨Nat.le_of_ble_eq_true rfl, Nat.le_of_ble_eq_true rfl⟩ ?_
          exact ⟨rfl, _, rfl, by rw [if_neg hzd]; unfold vStep; rw [if_neg (by omega), if_pos rfl], hfin⟩
        · refine V_tsw 36 77 dX10_stepOf_41 (by decide) (Or.inl ⟨by decide, by decide, rfl⟩) (by decide) ?_
          refine V_aload_n dX10_stepOf_77 rfl ?_
          refine V_getr 4 _ dX10_stepOf_78 fl_RX10_42 (by first | with_reducible assumption | rfl) rfl rfl (by first | with_reducible assumption | exact hG.at rfl) ?_
          refine V_iload_n dX10_stepOf_81 rfl ?_
          refine V_callVP dX10_stepOf_82 ml_RX10_156 km_X8_letterOf kv_X8_letterOf (d_letterOf hG hi hSc) (by first | with_reducible assumption | rfl) rfl rfl rfl (Nat.le_of_ble_eq_true rfl) ⟨Nat.le_of_ble_eq_true rfl, Nat.le_of_ble_eq_true rfl⟩ ⟨Nat.le_of_ble_eq_true rfl, Nat.le_of_ble_eq_true rfl⟩ ?_
          rw [show kx (sL n m D) (sLt A B n m D) i = sLt A B n m D i from if_pos hil]
          refine V_iret dX10_stepOf_85 rfl ⟨Nat.le_of_ble_eq_true rfl, Nat.le_of_ble_eq_true rfl⟩ ?_
          exact ⟨rfl, _, rfl, by rw [if_neg hzd]; unfold vStep; rw [if_neg (show ¬ sL n m D ≤ i by omega), if_neg (show ¬ (1 : Int) = 0 by decide), if_pos rfl], hfin⟩
        · refine V_tsw 45 86 dX10_stepOf_41 (by decide) (Or.inl ⟨by decide, by decide, rfl⟩) (by decide) ?_
          refine V_aload_n dX10_stepOf_86 rfl ?_
          refine V_getr 4 _ dX10_stepOf_87 fl_RX10_42 (by first | with_reducible assumption | rfl) rfl rfl (by first | with_reducible assumption | exact hG.at rfl) ?_
          refine V_iload_n dX10_stepOf_90 rfl ?_
          refine V_callVP dX10_stepOf_91 ml_RX10_159 km_X8_firstDoneAt kv_X8_firstDoneAt (d_firstDoneAt hG (by omega) hSc) (by first | with_reducible assumption | rfl) rfl rfl rfl (Nat.le_of_ble_eq_true rfl) ⟨Nat.le_of_ble_eq_true rfl, Nat.le_of_ble_eq_true rfl⟩ ⟨Nat.le_of_ble_eq_true rfl, Nat.le_of_ble_eq_true rfl⟩ ?_
          refine V_iret dX10_stepOf_94 rfl ⟨Nat.le_of_ble_eq_true rfl, Nat.le_of_ble_eq_true rfl⟩ ?_
          exact ⟨rfl, _, rfl, by rw [if_neg hzd]; unfold vStep; rw [if_neg (show ¬ sL n m D ≤ i by omega), if_neg (show ¬ (2 : Int) = 0 by decide), if_neg (show ¬ (2 : Int) = 1 by decide), if_pos rfl], hfin⟩
        · refine V_tsw 54 95 dX10_stepOf_41 (by decide) (Or.inr ⟨Or.inr (by decide), rfl⟩) (by decide) ?_
          refine V_aload_n dX10_stepOf_95 rfl ?_
          refine V_getr 4 _ dX10_stepOf_96 fl_RX10_42 (by first | with_reducible assumption | rfl) rfl rfl (by first | with_reducible assumption | exact hG.at rfl) ?_
          refine V_iload_n dX10_stepOf_99 rfl ?_
          refine V_callVP dX10_stepOf_100 ml_RX10_162 km_X8_secondDoneAt kv_X8_secondDoneAt (d_secondDoneAt hG (by omega) hSc) (by first | with_reducible assumption | rfl) rfl rfl rfl (Nat.le_of_ble_eq_true rfl) ⟨Nat.le_of_ble_eq_true rfl, Nat.le_of_ble_eq_true rfl⟩ ⟨Nat.le_of_ble_eq_true rfl, Nat.le_of_ble_eq_true rfl⟩ ?_
          refine V_iret dX10_stepOf_103 rfl ⟨Nat.le_of_ble_eq_true rfl, Nat.le_of_ble_eq_true rfl⟩ ?_
          exact ⟨rfl, _, rfl, by rw [if_neg hzd]; unfold vStep; rw [if_neg (show ¬ sL n m D ≤ i by omega), if_neg (show ¬ (3 : Int) = 0 by decide), if_neg (show ¬ (3 : Int) = 1 by decide), if_neg (show ¬ (3 : Int) = 2 by decide)], hfin⟩
      · refine V_ldc (-1000004) dX10_stepOf_37 kc_RX10_142 rfl ?_
        refine V_iret dX10_stepOf_39 rfl ⟨Nat.le_of_ble_eq_true rfl, Nat.le_of_ble_eq_true rfl⟩ ?_
        exact ⟨rfl, _, rfl, by rw [if_neg hzd]; unfold vStep; rw [if_pos (by omega)], hfin⟩
    · have hzd : Z 0 < D := Decidable.byContradiction fun hc => by rw [if_neg hc] at h20; omega
      refine V_ldc (-1000003) dX10_stepOf_23 kc_RX10_90 rfl ?_
      refine V_iret dX10_stepOf_25 rfl ⟨Nat.le_of_ble_eq_true rfl, Nat.le_of_ble_eq_true rfl⟩ ?_
      exact ⟨rfl, _, rfl, by rw [if_pos hzd], hfin⟩
  · rw [if_pos hin]
    refine V_iload_n dX10_stepOf_0 rfl ?_
    refine V_if_lt 13 dX10_stepOf_1 (by decide) (by omega) (fun h1 => ?_) (fun h1 => ?_)
    · refine V_ldc (-1000001) dX10_stepOf_13 kc_RX10_81 rfl ?_
      refine V_iret dX10_stepOf_15 rfl ⟨Nat.le_of_ble_eq_true rfl, Nat.le_of_ble_eq_true rfl⟩ ?_
      exact ⟨rfl, _, rfl, rfl, h, fun _ _ => rfl⟩
    · refine V_iload_n dX10_stepOf_4 rfl ?_
      refine V_iconst dX10_stepOf_5 ?_
      refine V_iconst dX10_stepOf_6 ?_
      refine V_callSP dX10_stepOf_7 ml_RX10_77 km_X10_isIn ks_X10_isIn (c_X10_isIn (v := w) (a := 0) (b := 3) (by omega) (by omega) (by omega)) rfl rfl (Nat.le_of_ble_eq_true rfl) ⟨Nat.le_of_ble_eq_true rfl, Nat.le_of_ble_eq_true rfl⟩ ⟨Nat.le_of_ble_eq_true rfl, Nat.le_of_ble_eq_true rfl⟩ ?_
      refine V_if_ne 16 dX10_stepOf_10 (by decide) (by split <;> omega) (fun h10 => ?_) (fun h10 => ?_)
      · exact absurd (by rw [ifz, Decidable.not_not] at h10; exact ⟨by omega, h10⟩) hin
      · refine V_ldc (-1000001) dX10_stepOf_13 kc_RX10_81 rfl ?_
        refine V_iret dX10_stepOf_15 rfl ⟨Nat.le_of_ble_eq_true rfl, Nat.le_of_ble_eq_true rfl⟩ ?_
        exact ⟨rfl, _, rfl, rfl, h, fun _ _ => rfl⟩
theorem ptx_ch {K Lt : Int → Int} {a e : Int} (h : a < e ∧ e - a ≤ 56) (hl : K a = 2 → ∀ j, a ≤ j → j < e → 0 ≤ Lt j ∧ Lt j ≤ 7) : ∀ v ∈ ptx K Lt a e, 43 ≤ v ∧ v ≤ 104 := by
  intro v hv
  have hlt : ∀ t : Nat, (∀ j, a ≤ j → j < a + t → 0 ≤ Lt j ∧ Lt j ≤ 7) → v ∈ lts Lt a t → 43 ≤ v ∧ v ≤ 104 := by
    intro t
    induction t with
    | zero => intro _ h; simp [lts] at h
    | succ t ih =>
      intro hF h
      simp only [lts, List.mem_append, List.mem_singleton] at h
      rcases h with h | h
      · exact ih (fun j j1 j2 => hF j j1 (by omega)) h
      · have := hF (a + t) (by omega) (by omega); omega
  unfold ptx at hv
  by_cases hk : K a = 2
  · rw [if_pos hk] at hv
    simp only [List.cons_append, List.mem_cons, List.mem_append, List.not_mem_nil, or_false] at hv
    rcases hv with hv | hv | hv
    · omega
    · exact hlt _ (fun j j1 j2 => hl hk j j1 (by omega)) hv
    · omega
  · rw [if_neg hk] at hv
    simp only [List.cons_append, List.mem_cons, List.mem_append, List.not_mem_nil, or_false] at hv
    rcases hv with hv | hv | hv
    · split at hv <;> omega
    · unfold num at hv
      split at hv
      · simp only [List.mem_cons, List.not_mem_nil, or_false] at hv; omega
      · simp only [List.mem_cons, List.not_mem_nil, or_false] at hv; omega
    · omega
theorem tx_ch {L : Int} {K Lt X Y : Int → Int} (h : ScR L K Lt X Y) (hL : L ≤ 56) : ∀ s : Nat, (s : Int) ≤ L → ∀ v ∈ (tx L K Lt s).2, 43 ≤ v ∧ v ≤ 104
  | 0, _ => by simp [tx]
  | s + 1, hs => by
    intro v hv
    have hr := tx_r L K Lt s
    simp only [tx] at hv
    split at hv
    · exact tx_ch h hL s (by omega) v hv
    · simp only [List.mem_append] at hv
      rcases hv with hv | hv
      · exact tx_ch h hL s (by omega) v hv
      · exact ptx_ch (by omega) (fun _ j j1 j2 => by have := h.1 j (by omega) (by omega); omega) v hv
theorem lrow_r {l : List Int} (h : ∀ v ∈ l, 43 ≤ v ∧ v ≤ 104) (i : Int) : lrow l i = -1 ∨ 43 ≤ lrow l i ∧ lrow l i ≤ 104 := by
  unfold lrow
  split
  · rename_i g
    right
    have hlt : i.toNat < l.length := by omega
    have e : l.getD i.toNat 0 = l[i.toNat] := by simp [List.getD, hlt]
    rw [e]
    exact h _ (List.getElem_mem hlt)
  · left; rfl
def vText (D n m : Int) (A B : Int → Int) (i : Int) : Int := nf (lrow (tx (sL n m D) (sK A B n m D) (sLt A B n m D) (sL n m D).toNat).2 i)
set_option maxRecDepth 100000 in
set_option maxHeartbeats 1000000 in
theorem c_X10_textAt {i : Int} (hD : isD n m A B D) (hi : rng i) (h : RepC mi mr ((n, m, A, B, Z), hs, tl, T)) : C1 yX10_textAt cX10_textAt 2 (some .int) 5 SH mi mr [vr 0, vi i] (PoC (opScr D n m A B Z (hs, tl, T) (0 ≤ i) (vText D n m A B i)) mi) := by
  obtain ⟨f, fb, g, gb, P, hN, hZ, hS, hP, hH, hT⟩ := id h
  simp only at hN hZ hS hP hH hT
  obtain ⟨⟨u1, u2, hG⟩, -⟩ := hN.u
  have hR := sc_R hS.1 hS.2.1 hD
  simp only at hR
  refine Ct.ofV (ini := false) [some (vr 0), some (vi i)] km_X10_textAt (by decide) rfl (Nat.le_of_ble_eq_true rfl) ?_
  unfold opScr
  by_cases hin : 0 ≤ i
  · rw [if_neg (not_not_intro hin)]
    refine V_iload_n dX10_textAt_0 rfl ?_
    refine V_if_ge 7 dX10_textAt_1 (by decide) (by omega) (fun _ => ?_) (fun h1 => absurd h1 ((by omega)))
    refine V_aload_n dX10_textAt_7 rfl ?_
    refine V_callV1 dX10_textAt_8 ml_RX10_149 km_X10_findScript kv_X10_findScript (c_X10_findScript hD h) (by first | with_reducible assumption | rfl) rfl rfl rfl (Nat.le_of_ble_eq_true rfl) ⟨Nat.le_of_ble_eq_true rfl, Nat.le_of_ble_eq_true rfl⟩ ⟨Nat.le_of_ble_eq_true rfl, Nat.le_of_ble_eq_true rfl⟩ ?_
    rintro v mi2 mr2 ⟨rfl, rfl, k1, k2, k3⟩
    have hfin : RepC mi2 mr2 ((n, m, A, B, Z), hs, tl, T) ∧ ∀ x, 62 ≤ x → mi2 x = mi x := ⟨h.keep (fun x x1 x2 => k3 x (by omega)), fun x x1 => k3 x (by omega)⟩
    refine V_if_ne 17 dX10_textAt_11 (by decide) (by split <;> omega) (fun h11 => ?_) (fun h11 => ?_)
    · have hzd : ¬ Z 0 < D := fun hc => by rw [if_pos hc] at h11; omega
      have hSc := k2 hzd
      have hL := hSc.1
      refine V_aload_n dX10_textAt_17 rfl ?_
      refine V_getr 4 _ dX10_textAt_18 fl_RX10_42 (by first | with_reducible assumption | rfl) rfl rfl (by first | with_reducible assumption | exact hG.at rfl) ?_
      refine V_aload_n dX10_textAt_21 rfl ?_
      refine V_getr 5 _ dX10_textAt_22 fl_RX10_46 (by first | with_reducible assumption | rfl) rfl rfl (by first | with_reducible assumption | exact hG.at rfl) ?_
      refine V_callV0 dX10_textAt_25 ml_RX10_165 km_X8_writeTo kv_X8_writeTo (c_X8_writeTo hG hSc hR) (by first | with_reducible assumption | rfl) rfl rfl rfl (Nat.le_of_ble_eq_true rfl) ⟨Nat.le_of_ble_eq_true rfl, Nat.le_of_ble_eq_true rfl⟩ ⟨Nat.le_of_ble_eq_true rfl, Nat.le_of_ble_eq_true rfl⟩ ?_
      rintro mi3 mr3 ⟨rfl, ⟨t1, t2⟩, j2⟩
      have htr := tx_r (sL n m D) (sK A B n m D) (sLt A B n m D) (sL n m D).toNat
      have hch := tx_ch hR hL.2.2 (sL n m D).toNat (by omega)
      have hlr := lrow_r hch i
      have erat : rat mi3 42 43 i = lrow (tx (sL n m D) (sK A B n m D) (sLt A B n m D) (sL n m D).toNat).2 i := by
        unfold rat lrow
        rw [t1]
        by_cases hc : 0 ≤ i ∧ i < ((tx (sL n m D) (sK A B n m D) (sLt A B n m D) (sL n m D).toNat).2.length : Int)
        · rw [if_pos hc, if_pos hc]
          have := t2 i.toNat (by omega)
          rw [show ((i.toNat : Nat) : Int) = i by omega] at this
          exact this
        · rw [if_neg hc, if_neg hc]
      refine V_aload_n dX10_textAt_28 rfl ?_
      refine V_getr 5 _ dX10_textAt_29 fl_RX10_46 (by first | with_reducible assumption | rfl) rfl rfl (by first | with_reducible assumption | exact hG.at rfl) ?_
      refine V_iload_n dX10_textAt_32 rfl ?_
      refine V_callVP dX10_textAt_33 ml_RX10_103 km_X7_at kv_X7_at (c_X7_at (a := 42) (b := 43) (N := 168) hi rfl (hG.at rfl) rfl (by decide) (by omega)) (by first | with_reducible assumption | rfl) rfl rfl rfl (Nat.le_of_ble_eq_true rfl) ⟨Nat.le_of_ble_eq_true rfl, Nat.le_of_ble_eq_true rfl⟩ ⟨Nat.le_of_ble_eq_true rfl, Nat.le_of_ble_eq_true rfl⟩ ?_
      rw [erat]
      refine V_callSP dX10_textAt_36 ml_RX10_126 km_X10_orNotFound ks_X10_orNotFound (c_X10_orNotFound (by omega)) rfl rfl (Nat.le_of_ble_eq_true rfl) ⟨Nat.le_of_ble_eq_true rfl, Nat.le_of_ble_eq_true rfl⟩ ⟨Nat.le_of_ble_eq_true rfl, Nat.le_of_ble_eq_true rfl⟩ ?_
      refine V_iret dX10_textAt_39 rfl ⟨Nat.le_of_ble_eq_true rfl, Nat.le_of_ble_eq_true rfl⟩ ?_
      exact ⟨rfl, _, rfl, by rw [if_neg hzd]; rfl, hfin.1.keep (fun x x1 x2 => j2 x (by omega) (by omega)), fun x hx => by rw [j2 x (by omega) (by omega), hfin.2 x hx]⟩
    · have hzd : Z 0 < D := Decidable.byContradiction fun hc => by rw [if_neg hc] at h11; omega
      refine V_ldc (-1000003) dX10_textAt_14 kc_RX10_90 rfl ?_
      refine V_iret dX10_textAt_16 rfl ⟨Nat.le_of_ble_eq_true rfl, Nat.le_of_ble_eq_true rfl⟩ ?_
      exact ⟨rfl, _, rfl, by rw [if_pos hzd], hfin⟩
  · rw [if_pos hin]
    refine V_iload_n dX10_textAt_0 rfl ?_
    refine V_if_ge 7 dX10_textAt_1 (by decide) (by omega) (fun h1 => absurd h1 ((by omega))) (fun _ => ?_)
    refine V_ldc (-1000001) dX10_textAt_4 kc_RX10_81 rfl ?_
    refine V_iret dX10_textAt_6 rfl ⟨Nat.le_of_ble_eq_true rfl, Nat.le_of_ble_eq_true rfl⟩ ?_
    exact ⟨rfl, _, rfl, rfl, h, fun _ _ => rfl⟩
end CLASS4
