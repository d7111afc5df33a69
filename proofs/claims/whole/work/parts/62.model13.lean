/-! ===== DiagonalTextsModel: the fault of a typed text; applying it ===== -/
section MODEL13
variable {mi mi1 mi2 mi3 mi4 : MI} {mr : MR} {n m n' m' tl D : Int} {A B A' B' Z T F : Int → Int} {hs hs' : List St} {u : Int × (Int → Int)} {σ : St} {bt : List Int}
theorem PKeep.tr {a b c : MI} (h : PKeep a b) (h' : PKeep b c) : PKeep a c := ⟨fun q q1 q2 q3 q4 q5 q6 => by rw [h.1 q q1 q2 q3 q4 q5 q6, h'.1 q q1 q2 q3 q4 q5 q6], fun z z1 z2 => by rw [h.2 z z1 z2, h'.2 z z1 z2]⟩
theorem PKeep.u7 {a b : MI} (h : PKeep a b) (v : Int) : PKeep (up2 a 62 7 v) b := ⟨fun q q1 q2 q3 q4 q5 q6 => by rw [up2_sn _ _ _ q2]; exact h.1 q q1 q2 q3 q4 q5 q6, fun z z1 z2 => by rw [up2_n _ _ _ z1]; exact h.2 z z1 z2⟩
theorem PKeep.u8 {a b : MI} (h : PKeep a b) (v : Int) : PKeep (up2 a 62 8 v) b := ⟨fun q q1 q2 q3 q4 q5 q6 => by rw [up2_sn _ _ _ q3]; exact h.1 q q1 q2 q3 q4 q5 q6, fun z z1 z2 => by rw [up2_n _ _ _ z1]; exact h.2 z z1 z2⟩
theorem PKeep.rep {s : Sg} (h : RepM mi s) (hk : PKeep mi1 mi) : RepM mi1 s ∧ ∀ x, x < 62 → mi1 x = mi x := ⟨h.keep (hk.1 3 (by decide) (by decide) (by decide) (by decide) (by decide) (by decide)) (hk.1 5 (by decide) (by decide) (by decide) (by decide) (by decide) (by decide)) (fun x hx => hk.2 x (by omega) (by omega)), fun x hx => hk.2 x (by omega) (by omega)⟩
theorem MB.put {a j : Int} (h : MB mi bt) (hj : j ≠ 23) : MB (up2 mi 62 j a) bt := ⟨by rw [up2_sn _ _ _ (Ne.symm hj)]; exact h.1, by rw [up2_n _ _ _ (by decide)]; exact h.2⟩
theorem pstep_r (A T : Int → Int) (n i d : Int) (bt : List Int) : 0 ≤ (pstep A T n i d bt).1 ∧ (pstep A T n i d bt).1 ≤ 3 := by
  unfold pstep
  split
  · simp only; omega
  · split
    · simp only; omega
    · split
      · simp only; omega
      · simp only; omega
abbrev PoF (R : Int × Int × Int × List Int) (mi : MI) (mr : MR) : AV → MI → MR → Prop := fun v mi' mr' => v = vi (if R.1 = 0 then -1000004 else R.2.1) ∧ mr' = mr ∧ (R.1 ≠ 0 → mi' 62 7 = R.1 ∧ mi' 62 8 = nf R.2.2.1) ∧ (R.1 = 0 → MB mi' R.2.2.2) ∧ PKeep mi' mi
set_option maxRecDepth 100000 in
set_option maxHeartbeats 1000000 in
theorem c_X11_faulty (hG : Gr mr) (h : RepM mi ((n, m, A, B, Z), hs, tl, T)) (R : Int × Int × Int × List Int) (hRR : R = prs A T n tl 61 0 0 []) : C1 yX11_faulty cX11_faulty 2 (some .int) 3 SH mi mr [vr 62] (PoF R mi mr) := by
  have hR := h.1
  have hA : NR n A := h.2.1.1
  have hT : MTyp mi (tl, T) := h.2.2.2
  have htl := hT.2.2.1
  have hn := hA.1
  simp only at hR htl
  have loop : ∀ (t : Nat) (i d : Int) (bt : List Int) (mi' : MI) (o1 : Option AV), 0 ≤ i → i ≤ tl → tl - i < t → 0 ≤ d → d ≤ n → bt.length ≤ 28 → R = prs A T n tl t i d bt → mi' 62 6 = i → mi' 62 24 = d → MB mi' bt → PKeep mi' mi → V (RX11, cX11_faulty, 2, rm 3, false, none, (some .int)) (fun r sh' mi' mr' => sh' = SH ∧ ∃ v, r = some v ∧ PoF R mi mr v mi' mr') 0 0 SH mi' mr [some (vr 62), o1] [] 15 := by
    intro t
    induction t with
    | zero => intro i d bt mi' o1 a1 a2 a3; omega
    | succ t ih =>
      intro i d bt mi' o1 a1 a2 a3 a4 a5 a6 a7 a8 a9 a10 a11
      have hT' : MTyp mi' (tl, T) := hT.keep (a11.1 5 (by decide) (by decide) (by decide) (by decide) (by decide) (by decide)) (a11.2 66 (by decide) (by decide))
      have hR' : RowM (mi' 63) (n, m, A, B, Z) := by rw [a11.2 63 (by decide) (by decide)]; exact hR
      have q5 : mi' 62 5 = tl := hT'.1
      have q0 : mi' 63 0 = n := hR'.1.1
      have e0 : prs A T n tl (t + 1) i d bt = if tl ≤ i then (if d < n then (4, tl, n - d, bt) else (0, 0, -1, bt)) else if (pstep A T n i d bt).1 ≠ 0 then ((pstep A T n i d bt).1, i, (pstep A T n i d bt).2.1, bt) else prs A T n tl t (i + pn T i) (pstep A T n i d bt).2.2.1 (pstep A T n i d bt).2.2.2 := rfl
      rw [e0] at a7
      by_cases hend : tl ≤ i
      · rw [if_pos hend] at a7
        by_cases hdn : d < n
        · rw [if_pos hdn] at a7
          refine V_aload_n dX11_faulty_15 rfl ?_
          refine V_geti 6 dX11_faulty_16 fl_RX11_161 (by first | with_reducible assumption | rfl) rfl rfl ?_
          rw [a8]
          refine V_aload_n dX11_faulty_19 rfl ?_
          refine V_geti 5 dX11_faulty_20 fl_RX11_158 (by first | with_reducible assumption | rfl) rfl rfl ?_
          rw [q5]
          refine V_icmp_ge 51 dX11_faulty_23 (by decide) (by omega) (by omega) (fun _ => ?_) (fun h23 => absurd h23 ((not_not_intro hend)))
          refine V_aload_n dX11_faulty_51 rfl ?_
          refine V_geti 24 dX11_faulty_52 fl_RX11_178 (by first | with_reducible assumption | rfl) rfl rfl ?_
          rw [a9]
          refine V_aload_n dX11_faulty_55 rfl ?_
          refine V_getr 0 _ dX11_faulty_56 fl_RX11_7 (by first | with_reducible assumption | rfl) rfl rfl (by first | with_reducible assumption | exact hG.at rfl) ?_
          refine V_iconst dX11_faulty_59 ?_
          refine V_iald dX11_faulty_60 (by first | with_reducible assumption | rfl) (by decide) (by omega) ?_
          rw [q0]
          refine V_icmp_ge 89 dX11_faulty_61 (by decide) (by omega) (by omega) (fun h61 => absurd h61 ((by omega))) (fun _ => ?_)
          refine V_aload_n dX11_faulty_64 rfl ?_
          refine V_iconst dX11_faulty_65 ?_
          refine V_puti 7 dX11_faulty_66 fl_RX11_187 (by first | with_reducible assumption | rfl) rfl rfl rfl ?_
          refine V_aload_n dX11_faulty_69 rfl ?_
          refine V_aload_n dX11_faulty_70 rfl ?_
          refine V_getr 0 _ dX11_faulty_71 fl_RX11_7 (by first | with_reducible assumption | rfl) rfl rfl (by exact (hG.at rfl : mr 62 0 = some 63)) ?_
          refine V_iconst dX11_faulty_74 ?_
          refine V_iald dX11_faulty_75 (by first | with_reducible assumption | rfl) (by decide) (by omega) ?_
          rw [up2_n _ _ _ (by decide), q0]
          refine V_aload_n dX11_faulty_76 rfl ?_
          refine V_geti 24 dX11_faulty_77 fl_RX11_178 (by first | with_reducible assumption | rfl) rfl rfl ?_
          rw [up2_sn _ _ _ (by decide), a9]
          refine V_isub dX11_faulty_80 ?_
          refine V_puti 8 dX11_faulty_81 fl_RX11_175 (by first | with_reducible assumption | rfl) rfl rfl rfl ?_
          refine V_aload_n dX11_faulty_84 rfl ?_
          refine V_geti 5 dX11_faulty_85 fl_RX11_158 (by first | with_reducible assumption | rfl) rfl rfl ?_
          rw [up2_sn _ _ _ (by decide), up2_sn _ _ _ (by decide), q5]
          refine V_iret dX11_faulty_88 rfl ⟨Nat.le_of_ble_eq_true rfl, Nat.le_of_ble_eq_true rfl⟩ ?_
          exact ⟨rfl, _, rfl, by rw [a7, if_neg (show ¬ (4 : Int) = 0 by decide)], rfl, fun _ => by rw [a7]; exact ⟨by rw [up2_sn _ _ _ (by decide), up2_ss], by rw [up2_ss]; show n - d = nf (n - d); unfold nf; rw [if_neg (by omega)]⟩, fun hc => absurd hc (by rw [a7]; show ¬ (4 : Int) = 0; decide), (a11.u7 _).u8 _⟩
        · rw [if_neg hdn] at a7
          refine V_aload_n dX11_faulty_15 rfl ?_
          refine V_geti 6 dX11_faulty_16 fl_RX11_161 (by first | with_reducible assumption | rfl) rfl rfl ?_
          rw [a8]
          refine V_aload_n dX11_faulty_19 rfl ?_
          refine V_geti 5 dX11_faulty_20 fl_RX11_158 (by first | with_reducible assumption | rfl) rfl rfl ?_
          rw [q5]
          refine V_icmp_ge 51 dX11_faulty_23 (by decide) (by omega) (by omega) (fun _ => ?_) (fun h23 => absurd h23 ((not_not_intro hend)))
          refine V_aload_n dX11_faulty_51 rfl ?_
          refine V_geti 24 dX11_faulty_52 fl_RX11_178 (by first | with_reducible assumption | rfl) rfl rfl ?_
          rw [a9]
          refine V_aload_n dX11_faulty_55 rfl ?_
          refine V_getr 0 _ dX11_faulty_56 fl_RX11_7 (by first | with_reducible assumption | rfl) rfl rfl (by first | with_reducible assumption | exact hG.at rfl) ?_
          refine V_iconst dX11_faulty_59 ?_
          refine V_iald dX11_faulty_60 (by first | with_reducible assumption | rfl) (by decide) (by omega) ?_
          rw [q0]
          refine V_icmp_ge 89 dX11_faulty_61 (by decide) (by omega) (by omega) (fun _ => ?_) (fun h61 => absurd h61 ((by omega)))
          refine V_ldc (-1000004) dX11_faulty_89 kc_RX11_70 rfl ?_
          refine V_iret dX11_faulty_91 rfl ⟨Nat.le_of_ble_eq_true rfl, Nat.le_of_ble_eq_true rfl⟩ ?_
          exact ⟨rfl, _, rfl, by rw [a7, if_pos rfl], rfl, fun hc => absurd (by rw [a7]) hc, fun _ => by rw [a7]; exact a10, a11⟩
      · rw [if_neg hend] at a7
        have hpr := pstep_r A T n i d bt
        refine V_aload_n dX11_faulty_15 rfl ?_
        refine V_geti 6 dX11_faulty_16 fl_RX11_161 (by first | with_reducible assumption | rfl) rfl rfl ?_
        rw [a8]
        refine V_aload_n dX11_faulty_19 rfl ?_
        refine V_geti 5 dX11_faulty_20 fl_RX11_158 (by first | with_reducible assumption | rfl) rfl rfl ?_
        rw [q5]
        refine V_icmp_ge 51 dX11_faulty_23 (by decide) (by omega) (by omega) (fun h23 => absurd h23 (hend)) (fun _ => ?_)
        refine V_aload_n dX11_faulty_26 rfl ?_
        refine V_geti 6 dX11_faulty_27 fl_RX11_161 (by first | with_reducible assumption | rfl) rfl rfl ?_
        rw [a8]
        refine S_istore_n (ls' := [_, _]) dX11_faulty_30 ⟨Nat.le_of_ble_eq_true rfl, rfl, rfl⟩ rfl ?_
        refine V_aload_n dX11_faulty_31 rfl ?_
        refine V_aload_n dX11_faulty_32 rfl ?_
        refine V_callV1 dX11_faulty_33 ml_RX11_184 km_X11_doesNext kv_X11_doesNext (c_X11_doesNext (i := i) (d := d) hG hT' hR' hA ⟨a1, by omega⟩ a8 a9 ⟨a4, a5⟩ a10 a6) (by first | with_reducible assumption | rfl) rfl rfl rfl (Nat.le_of_ble_eq_true rfl) ⟨Nat.le_of_ble_eq_true rfl, Nat.le_of_ble_eq_true rfl⟩ ⟨Nat.le_of_ble_eq_true rfl, Nat.le_of_ble_eq_true rfl⟩ ?_
        rintro v mi2 mr2 ⟨rfl, rfl, k1, k2, k3⟩
        refine V_puti 7 dX11_faulty_36 fl_RX11_187 (by first | with_reducible assumption | rfl) rfl rfl rfl ?_
        refine V_aload_n dX11_faulty_39 rfl ?_
        refine V_geti 7 dX11_faulty_40 fl_RX11_187 (by first | with_reducible assumption | rfl) rfl rfl ?_
        rw [up2_ss]
        refine V_if_le 48 dX11_faulty_43 (by decide) (by omega) (fun h43 => ?_) (fun h43 => ?_)
        · refine V_goto 15 dX11_faulty_48 (by decide) ?_
          have hp : (pstep A T n i d bt).1 = 0 := by omega
          rw [if_neg (not_not_intro hp)] at a7
          obtain ⟨j1, j2, j3⟩ := k2 hp
          have hp0 := pstep_0 hp
          have hok := brk_ok hT.2.2 a1 hp0.1
          simp only at hok
          have hpl := padd_len (A := A) (i := i) (d := d) (show 0 ≤ pm T i by omega)
          refine ih (i + pn T i) _ _ _ _ (by omega) (by omega) (by omega) ?_ ?_ ?_ a7 (by rw [up2_sn _ _ _ (by decide)]; exact j1) (by rw [up2_sn _ _ _ (by decide)]; exact j2) (MB.put j3 (by decide)) ((k3.tr a11).u7 _)
          · rw [hp0.2.2.2]; simp only; split <;> omega
          · rw [hp0.2.2.2]; simp only; split <;> omega
          · rw [hp0.2.2.2]; simp only [List.length_append]
            rcases hp0.2.2.1 with h45 | h45
            · rw [hpl.1 h45]; simpa using a6
            · omega
        · refine V_iload_n dX11_faulty_46 rfl ?_
          refine V_iret dX11_faulty_47 rfl ⟨Nat.le_of_ble_eq_true rfl, Nat.le_of_ble_eq_true rfl⟩ ?_
          rw [if_pos (show (pstep A T n i d bt).1 ≠ 0 by omega)] at a7
          exact ⟨rfl, _, rfl, by rw [a7, if_neg (show ¬ (pstep A T n i d bt).1 = 0 by omega)], rfl, fun _ => by rw [a7]; exact ⟨up2_ss _ _ _ _, by rw [up2_sn _ _ _ (by decide)]; exact k1 (by omega)⟩, fun hc => absurd hc (by rw [a7]; simp only; omega), (k3.tr a11).u7 _⟩
  refine Ct.ofV (ini := false) [some (vr 62), none] km_X11_faulty (by decide) rfl (Nat.le_of_ble_eq_true rfl) ?_
  refine V_aload_n dX11_faulty_0 rfl ?_
  refine V_iconst dX11_faulty_1 ?_
  refine V_puti 6 dX11_faulty_2 fl_RX11_161 (by first | with_reducible assumption | rfl) rfl rfl rfl ?_
  refine V_aload_n dX11_faulty_5 rfl ?_
  refine V_iconst dX11_faulty_6 ?_
  refine V_puti 23 dX11_faulty_7 fl_RX11_181 (by first | with_reducible assumption | rfl) rfl rfl rfl ?_
  refine V_aload_n dX11_faulty_10 rfl ?_
  refine V_iconst dX11_faulty_11 ?_
  refine V_puti 24 dX11_faulty_12 fl_RX11_178 (by first | with_reducible assumption | rfl) rfl rfl rfl ?_
  refine loop 61 0 0 [] _ _ (by omega) (by omega) (by omega) (by omega) (by omega) (by decide) hRR (by rw [up2_sn _ _ _ (by decide), up2_sn _ _ _ (by decide), up2_ss]) (up2_ss _ _ _ _) ⟨by rw [up2_sn _ _ _ (by decide), up2_ss]; rfl, fun i hi => absurd hi (by simp)⟩ ⟨fun q q1 q2 q3 q4 q5 q6 => by rw [up2_sn _ _ _ q6, up2_sn _ _ _ q5, up2_sn _ _ _ q1], fun z z1 z2 => by rw [up2_n _ _ _ z1, up2_n _ _ _ z1, up2_n _ _ _ z1]⟩
set_option maxRecDepth 100000 in
set_option maxHeartbeats 1000000 in
theorem c_X11_fault {w : Int} (hG : Gr mr) (hw : rng w) (h : RepM mi ((n, m, A, B, Z), hs, tl, T)) : C1 yX11_fault cX11_fault 3 (some .int) 4 SH mi mr [vr 62, vi w] (PoM (opFault n m A B Z hs tl T w) mi mr) := by
  have hpr := prs_r h.2.1.1 h.2.2.2.2.2 61 0 0 [] (by omega) (by omega) h.2.1.1.1.1 (by simp) (by simp)
  simp only at hpr
  refine Ct.ofV (ini := false) [some (vr 62), some (vi w), none] km_X11_fault (by decide) rfl (Nat.le_of_ble_eq_true rfl) ?_
  by_cases hin : 0 ≤ w ∧ w ≤ 2
  · have eo : opFault n m A B Z hs tl T w = (if (prs A T n tl 61 0 0 []).1 = 0 then -1000004 else if w = 0 then (prs A T n tl 61 0 0 []).2.1 else if w = 1 then (prs A T n tl 61 0 0 []).1 else nf (prs A T n tl 61 0 0 []).2.2.1, (n, m, A, B, Z), hs, tl, T) := by unfold opFault; rw [if_neg (not_not_intro hin)]
    rw [eo]
    have e1 : (if 0 ≤ w ∧ w ≤ 2 then (1 : Int) else 0) = 1 := if_pos hin
    generalize hR : prs A T n tl 61 0 0 [] = R at hpr
    by_cases h0 : R.1 = 0
    · have e2 : (if R.1 = 0 then (-1000004 : Int) else R.2.1) = -1000004 := if_pos h0
      refine V_iload_n dX11_fault_0 rfl ?_
      refine V_iconst dX11_fault_1 ?_
      refine V_iconst dX11_fault_2 ?_
      refine V_callSP dX11_fault_3 ml_RX11_48 km_X11_in ks_X11_in (c_X11_in (v := w) (a := 0) (b := 2) (by omega) (by omega) (by omega)) rfl rfl (Nat.le_of_ble_eq_true rfl) ⟨Nat.le_of_ble_eq_true rfl, Nat.le_of_ble_eq_true rfl⟩ ⟨Nat.le_of_ble_eq_true rfl, Nat.le_of_ble_eq_true rfl⟩ ?_
      rw [e1]
      refine V_if_ne 12 dX11_fault_6 (by decide) (by omega) (fun _ => ?_) (fun h6 => absurd h6 ((by decide)))
      refine V_aload_n dX11_fault_12 rfl ?_
      refine V_callV1 dX11_fault_13 ml_RX11_190 km_X11_faulty kv_X11_faulty (c_X11_faulty hG h R hR.symm) (by first | with_reducible assumption | rfl) rfl rfl rfl (Nat.le_of_ble_eq_true rfl) ⟨Nat.le_of_ble_eq_true rfl, Nat.le_of_ble_eq_true rfl⟩ ⟨Nat.le_of_ble_eq_true rfl, Nat.le_of_ble_eq_true rfl⟩ ?_
      rintro v mi2 mr2 ⟨rfl, rfl, k1, k2, k3⟩
      rw [e2]
      refine S_istore_n (ls' := [_, _, _]) dX11_fault_16 ⟨Nat.le_of_ble_eq_true rfl, rfl, rfl⟩ rfl ?_
      refine V_iload_n dX11_fault_17 rfl ?_
      refine V_ldc (-1000004) dX11_fault_18 kc_RX11_70 rfl ?_
      refine V_icmp_eq 27 dX11_fault_20 (by decide) (by omega) (by omega) (fun _ => ?_) (fun h20 => absurd h20 ((not_not_intro rfl)))
      refine V_iload_n dX11_fault_27 rfl ?_
      refine V_goto 47 dX11_fault_28 (by decide) ?_
      refine V_iret dX11_fault_47 rfl ⟨Nat.le_of_ble_eq_true rfl, Nat.le_of_ble_eq_true rfl⟩ ?_
      exact ⟨rfl, _, rfl, by rw [if_pos h0], rfl, k3.rep h⟩
    · have e2 : (if R.1 = 0 then (-1000004 : Int) else R.2.1) = R.2.1 := if_neg h0
      refine V_iload_n dX11_fault_0 rfl ?_
      refine V_iconst dX11_fault_1 ?_
      refine V_iconst dX11_fault_2 ?_
      refine V_callSP dX11_fault_3 ml_RX11_48 km_X11_in ks_X11_in (c_X11_in (v := w) (a := 0) (b := 2) (by omega) (by omega) (by omega)) rfl rfl (Nat.le_of_ble_eq_true rfl) ⟨Nat.le_of_ble_eq_true rfl, Nat.le_of_ble_eq_true rfl⟩ ⟨Nat.le_of_ble_eq_true rfl, Nat.le_of_ble_eq_true rfl⟩ ?_
      rw [e1]
      refine V_if_ne 12 dX11_fault_6 (by decide) (by omega) (fun _ => ?_) (fun h6 => absurd h6 ((by decide)))
      refine V_aload_n dX11_fault_12 rfl ?_
      refine V_callV1 dX11_fault_13 ml_RX11_190 km_X11_faulty kv_X11_faulty (c_X11_faulty hG h R hR.symm) (by first | with_reducible assumption | rfl) rfl rfl rfl (Nat.le_of_ble_eq_true rfl) ⟨Nat.le_of_ble_eq_true rfl, Nat.le_of_ble_eq_true rfl⟩ ⟨Nat.le_of_ble_eq_true rfl, Nat.le_of_ble_eq_true rfl⟩ ?_
      rintro v mi2 mr2 ⟨rfl, rfl, k1, k2, k3⟩
      rw [e2]
      have hfin := k3.rep h
      refine S_istore_n (ls' := [_, _, _]) dX11_fault_16 ⟨Nat.le_of_ble_eq_true rfl, rfl, rfl⟩ rfl ?_
      refine V_iload_n dX11_fault_17 rfl ?_
      refine V_ldc (-1000004) dX11_fault_18 kc_RX11_70 rfl ?_
      refine V_icmp_eq 27 dX11_fault_20 (by decide) (by omega) (by omega) (fun h20 => absurd h20 ((by omega))) (fun _ => ?_)
      refine V_iload_n dX11_fault_23 rfl ?_
      refine V_if_ne 31 dX11_fault_24 (by decide) (by omega) (fun h24 => ?_) (fun h24 => ?_)
      · refine V_iload_n dX11_fault_31 rfl ?_
        refine V_iconst dX11_fault_32 ?_
        refine V_icmp_ne 43 dX11_fault_33 (by decide) (by omega) (by omega) (fun h33 => ?_) (fun h33 => ?_)
        · refine V_aload_n dX11_fault_43 rfl ?_
          refine V_geti 8 dX11_fault_44 fl_RX11_175 (by first | with_reducible assumption | rfl) rfl rfl ?_
          rw [(k1 h0).2]
          refine V_iret dX11_fault_47 rfl ⟨Nat.le_of_ble_eq_true rfl, Nat.le_of_ble_eq_true rfl⟩ ?_
          refine ⟨rfl, _, rfl, ?_, rfl, hfin⟩
          rw [if_neg h0]
          first | (rw [if_pos (show w = 0 by omega)]; done) | (rw [if_neg (show ¬ w = 0 by omega), if_pos (show w = 1 by omega)]; done) | (rw [if_neg (show ¬ w = 0 by omega), if_neg (show ¬ w = 1 by omega)]; done)
        · refine V_aload_n dX11_fault_36 rfl ?_
          refine V_geti 7 dX11_fault_37 fl_RX11_187 (by first | with_reducible assumption | rfl) rfl rfl ?_
          rw [(k1 h0).1]
          refine V_goto 47 dX11_fault_40 (by decide) ?_
          refine V_iret dX11_fault_47 rfl ⟨Nat.le_of_ble_eq_true rfl, Nat.le_of_ble_eq_true rfl⟩ ?_
          refine ⟨rfl, _, rfl, ?_, rfl, hfin⟩
          rw [if_neg h0]
          first | (rw [if_pos (show w = 0 by omega)]; done) | (rw [if_neg (show ¬ w = 0 by omega), if_pos (show w = 1 by omega)]; done) | (rw [if_neg (show ¬ w = 0 by omega), if_neg (show ¬ w = 1 by omega)]; done)
      · refine V_iload_n dX11_fault_27 rfl ?_
        refine V_goto 47 dX11_fault_28 (by decide) ?_
        refine V_iret dX11_fault_47 rfl ⟨Nat.le_of_ble_eq_true rfl, Nat.le_of_ble_eq_true rfl⟩ ?_
        refine ⟨rfl, _, rfl, ?_, rfl, hfin⟩
        rw [if_neg h0]
        first | (rw [if_pos (show w = 0 by omega)]; done) | (rw [if_neg (show ¬ w = 0 by omega), if_pos (show w = 1 by omega)]; done) | (rw [if_neg (show ¬ w = 0 by omega), if_neg (show ¬ w = 1 by omega)]; done)
  · have eo : opFault n m A B Z hs tl T w = (-1000001, (n, m, A, B, Z), hs, tl, T) := by unfold opFault; rw [if_pos hin]
    rw [eo]
    have e1 : (if 0 ≤ w ∧ w ≤ 2 then (1 : Int) else 0) = 0 := if_neg hin
    refine V_iload_n dX11_fault_0 rfl ?_
    refine V_iconst dX11_fault_1 ?_
    refine V_iconst dX11_fault_2 ?_
    refine V_callSP dX11_fault_3 ml_RX11_48 km_X11_in ks_X11_in (c_X11_in (v := w) (a := 0) (b := 2) (by omega) (by omega) (by omega)) rfl rfl (Nat.le_of_ble_eq_true rfl) ⟨Nat.le_of_ble_eq_true rfl, Nat.le_of_ble_eq_true rfl⟩ ⟨Nat.le_of_ble_eq_true rfl, Nat.le_of_ble_eq_true rfl⟩ ?_
    rw [e1]
    refine V_if_ne 12 dX11_fault_6 (by decide) (by omega) (fun h6 => absurd h6 ((by decide))) (fun _ => ?_)
    refine V_ldc (-1000001) dX11_fault_9 kc_RX11_56 rfl ?_
    refine V_iret dX11_fault_11 rfl ⟨Nat.le_of_ble_eq_true rfl, Nat.le_of_ble_eq_true rfl⟩ ?_
    exact ⟨rfl, _, rfl, rfl, rfl, h, fun _ _ => rfl⟩
set_option maxRecDepth 100000 in
set_option maxHeartbeats 1000000 in
theorem l_X11_apply {Q : PQ} {l : List Int} (hG : Gr mr) (hl : l.length ≤ 28) (hB : MB mi l)
    (kk : ∀ mi' : MI, (∀ i : Nat, i < l.length → mi' 63 (33 + i) = l.getD i 0) → (∀ j : Int, j < 33 → mi' 63 j = mi 63 j) → (∀ x, x ≠ 63 → mi' x = mi x) → V (RX11, cX11_apply, 2, rm 4, false, none, (some .int)) Q 0 0 SH mi' mr [some (vr 62), some (vi l.length)] [] 47) :
    ∀ (t k : Nat) (mi' : MI), k ≤ l.length → l.length - k < t → (∀ i : Nat, i < k → mi' 63 (33 + i) = l.getD i 0) → (∀ j : Int, j < 33 → mi' 63 j = mi 63 j) → (∀ x, x ≠ 63 → mi' x = mi x) → V (RX11, cX11_apply, 2, rm 4, false, none, (some .int)) Q 0 0 SH mi' mr [some (vr 62), some (vi k)] [] 18 := by
  intro t
  induction t with
  | zero => intro k mi' c1 c2; omega
  | succ t ih =>
    intro k mi' c1 c2 c3 c4 c5
    have q23 : mi' 62 23 = l.length := by rw [c5 62 (by decide)]; exact hB.1
    have q74 : k < l.length → mi' 74 k = l.getD k 0 := fun hk => by rw [c5 74 (by decide)]; exact hB.2 k hk
    by_cases hend : l.length ≤ k
    · have ek : l.length = k := by omega
      refine V_iload_n dX11_apply_18 rfl ?_
      refine V_aload_n dX11_apply_19 rfl ?_
      refine V_geti 23 dX11_apply_20 fl_RX11_181 (by first | with_reducible assumption | rfl) rfl rfl ?_
      rw [q23]
      refine V_icmp_ge 47 dX11_apply_23 (by decide) (by omega) (by omega) (fun _ => ?_) (fun h23 => absurd h23 ((by omega)))
      have hgo := kk mi' (by rw [ek]; exact c3) c4 c5
      rw [ek] at hgo
      exact hgo
    · refine V_iload_n dX11_apply_18 rfl ?_
      refine V_aload_n dX11_apply_19 rfl ?_
      refine V_geti 23 dX11_apply_20 fl_RX11_181 (by first | with_reducible assumption | rfl) rfl rfl ?_
      rw [q23]
      refine V_icmp_ge 47 dX11_apply_23 (by decide) (by omega) (by omega) (fun h23 => absurd h23 ((by omega))) (fun _ => ?_)
      refine V_aload_n dX11_apply_26 rfl ?_
      refine V_getr 0 _ dX11_apply_27 fl_RX11_7 (by first | with_reducible assumption | rfl) rfl rfl (by first | with_reducible assumption | exact hG.at rfl) ?_
      refine V_bipush dX11_apply_30 (by decide) ?_
      refine V_iload_n dX11_apply_32 rfl ?_
      refine V_iadd dX11_apply_33 ?_
      refine V_aload_n dX11_apply_34 rfl ?_
      refine V_getr 22 _ dX11_apply_35 fl_RX11_45 (by first | with_reducible assumption | rfl) rfl rfl (by first | with_reducible assumption | exact hG.at rfl) ?_
      refine V_iload_n dX11_apply_38 rfl ?_
      refine V_iald dX11_apply_39 (by first | with_reducible assumption | rfl) (by decide) (by omega) ?_
      rw [q74 (by omega)]
      refine V_iast dX11_apply_40 (by first | with_reducible assumption | rfl) (by decide) (by omega) ?_
      refine S_iinc (ls' := [_, _]) dX11_apply_41 rfl ⟨rfl, rfl⟩ rfl ?_
      refine V_goto 18 dX11_apply_44 (by decide) ?_
      refine ih (k + 1) _ (by omega) (by omega) (fun i hi => ?_) (fun j hj => by rw [up2_sn _ _ _ (by omega)]; exact c4 j hj) (fun x hx => by rw [up2_n _ _ _ hx]; exact c5 x hx)
      by_cases hik : i = k
      · subst hik; rw [up2_ss]
      · rw [up2_sn _ _ _ (by omega)]; exact c3 i (by omega)
set_option maxRecDepth 100000 in
set_option maxHeartbeats 1000000 in
theorem c_X11_apply (hG : Gr mr) (h : RepM mi ((n, m, A, B, Z), hs, tl, T)) : C1 yX11_apply cX11_apply 2 (some .int) 4 SH mi mr [vr 62] (PoM (opApply n m A B Z hs tl T) mi mr) := by
  have hpr := prs_r h.2.1.1 h.2.2.2.2.2 61 0 0 [] (by omega) (by omega) h.2.1.1.1.1 (by simp) (by simp)
  have hn := h.2.1.1.1
  have hm := h.2.1.2.1.1
  have hS := h.2.1
  simp only at hpr hn hm
  refine Ct.ofV (ini := false) [some (vr 62), none] km_X11_apply (by decide) rfl (Nat.le_of_ble_eq_true rfl) ?_
  unfold opApply
  generalize hR : prs A T n tl 61 0 0 [] = R at hpr
  by_cases h0 : R.1 = 0
  · have e2 : (if R.1 = 0 then (-1000004 : Int) else R.2.1) = -1000004 := if_pos h0
    rw [if_neg (not_not_intro h0)]
    obtain ⟨b1, b2⟩ := hpr.2.2.2 h0
    have hlr := lrow_NR b1 b2
    refine V_aload_n dX11_apply_0 rfl ?_
    refine V_callV1 dX11_apply_1 ml_RX11_190 km_X11_faulty kv_X11_faulty (c_X11_faulty hG h R hR.symm) (by first | with_reducible assumption | rfl) rfl rfl rfl (Nat.le_of_ble_eq_true rfl) ⟨Nat.le_of_ble_eq_true rfl, Nat.le_of_ble_eq_true rfl⟩ ⟨Nat.le_of_ble_eq_true rfl, Nat.le_of_ble_eq_true rfl⟩ ?_
    rintro v mi1 mr1 ⟨rfl, rfl, k1, k2, k3⟩
    rw [e2]
    obtain ⟨h1, h1x⟩ := k3.rep h
    have hB := k2 h0
    have hR1 := h1.1
    simp only at hR1
    refine V_ldc (-1000004) dX11_apply_4 kc_RX11_70 rfl ?_
    refine V_icmp_eq 12 dX11_apply_6 (by decide) (by omega) (by omega) (fun _ => ?_) (fun h6 => absurd h6 ((not_not_intro rfl)))
    refine V_aload_n dX11_apply_12 rfl ?_
    refine V_callV0 dX11_apply_13 ml_RX11_62 km_X11_keeps kv_X11_keeps (c_X11_keeps hG) (by first | with_reducible assumption | rfl) rfl rfl rfl (Nat.le_of_ble_eq_true rfl) ⟨Nat.le_of_ble_eq_true rfl, Nat.le_of_ble_eq_true rfl⟩ ⟨Nat.le_of_ble_eq_true rfl, Nat.le_of_ble_eq_true rfl⟩ ?_
    rintro mi2 mr2 ⟨rfl, j1, j2⟩
    have hB2 : MB mi2 R.2.2.2 := ⟨by rw [j2 62 (by decide)]; exact hB.1, by rw [j2 74 (by decide)]; exact hB.2⟩
    refine V_iconst dX11_apply_16 ?_
    refine S_istore_n (ls' := [_, _]) dX11_apply_17 ⟨Nat.le_of_ble_eq_true rfl, rfl, rfl⟩ rfl ?_
    refine l_X11_apply hG b1 hB2 (fun mi3 c1 c2 c3 => ?_) (R.2.2.2.length + 1) 0 mi2 (by omega) (by omega) (fun i hi => by omega) (fun _ _ => rfl) (fun _ _ => rfl)
    have q23 : mi3 62 23 = R.2.2.2.length := by rw [c3 62 (by decide)]; exact hB2.1
    have c3' : ∀ x, x ≠ 63 → up2 mi3 63 1 (R.2.2.2.length : Int) x = mi2 x := fun x x1 => by rw [up2_n _ _ _ x1, c3 x x1]
    have hpre := act_pre h1 j1 j2 c3'
    have e63 : mi2 63 = mi1 63 := j2 63 (by decide)
    have hrow : RowM (up2 mi3 63 1 (R.2.2.2.length : Int) 63) (n, (R.2.2.2.length : Int), A, lrow R.2.2.2, Z) := by
      refine ⟨⟨by rw [up2_sn _ _ _ (by decide), c2 0 (by omega), e63]; exact hR1.1.1, up2_ss _ _ _ _⟩, fun i i1 i2 => ?_, fun i i1 i2 => ?_, fun i i1 i2 => ?_⟩ <;> simp only at *
      · rw [up2_sn _ _ _ (by omega), c2 _ (by omega), e63]; exact hR1.2.1 i i1 i2
      · rw [up2_sn _ _ _ (by omega), c2 _ (by omega), e63]; exact hR1.2.2.1 i i1 i2
      · rw [up2_sn _ _ _ (by omega)]
        have := c1 i.toNat (by omega)
        rw [show ((i.toNat : Nat) : Int) = i by omega] at this
        rw [this]
        unfold lrow
        rw [if_pos ⟨i1, i2⟩]
    refine V_aload_n dX11_apply_47 rfl ?_
    refine V_getr 0 _ dX11_apply_48 fl_RX11_7 (by first | with_reducible assumption | rfl) rfl rfl (by first | with_reducible assumption | exact hG.at rfl) ?_
    refine V_iconst dX11_apply_51 ?_
    refine V_aload_n dX11_apply_52 rfl ?_
    refine V_geti 23 dX11_apply_53 fl_RX11_181 (by first | with_reducible assumption | rfl) rfl rfl ?_
    rw [q23]
    refine V_iast dX11_apply_56 (by first | with_reducible assumption | rfl) (by decide) (by omega) ?_
    refine V_aload_n dX11_apply_57 rfl ?_
    refine V_aload_n dX11_apply_58 rfl ?_
    refine V_geti 23 dX11_apply_59 fl_RX11_181 (by first | with_reducible assumption | rfl) rfl rfl ?_
    rw [up2_n _ _ _ (by decide), q23]
    refine V_callV1 dX11_apply_62 ml_RX11_65 km_X11_acted kv_X11_acted (c_X11_acted (r := (R.2.2.2.length : Int)) hG (by omega) (by omega) hpre.1 hpre.2 hS) (by first | with_reducible assumption | rfl) rfl rfl rfl (Nat.le_of_ble_eq_true rfl) ⟨Nat.le_of_ble_eq_true rfl, Nat.le_of_ble_eq_true rfl⟩ ⟨Nat.le_of_ble_eq_true rfl, Nat.le_of_ble_eq_true rfl⟩ ?_
    rintro v mi4 mr4 ⟨rfl, rfl, a1, a2, a3⟩
    refine V_iret dX11_apply_65 rfl ⟨Nat.le_of_ble_eq_true rfl, Nat.le_of_ble_eq_true rfl⟩ ?_
    have hpost := act_post h1 j2 c3' hrow ⟨hS.1, hlr, hS.2.2⟩ a1 a2 a3
    exact ⟨rfl, _, rfl, rfl, rfl, hpost.1, fun x hx => by rw [hpost.2 x hx]; exact h1x x hx⟩
  · have e2 : (if R.1 = 0 then (-1000004 : Int) else R.2.1) = R.2.1 := if_neg h0
    rw [if_pos h0]
    refine V_aload_n dX11_apply_0 rfl ?_
    refine V_callV1 dX11_apply_1 ml_RX11_190 km_X11_faulty kv_X11_faulty (c_X11_faulty hG h R hR.symm) (by first | with_reducible assumption | rfl) rfl rfl rfl (Nat.le_of_ble_eq_true rfl) ⟨Nat.le_of_ble_eq_true rfl, Nat.le_of_ble_eq_true rfl⟩ ⟨Nat.le_of_ble_eq_true rfl, Nat.le_of_ble_eq_true rfl⟩ ?_
    rintro v mi1 mr1 ⟨rfl, rfl, k1, k2, k3⟩
    rw [e2]
    refine V_ldc (-1000004) dX11_apply_4 kc_RX11_70 rfl ?_
    refine V_icmp_eq 12 dX11_apply_6 (by decide) (by omega) (by omega) (fun h6 => absurd h6 ((by omega))) (fun _ => ?_)
    refine V_ldc (-1000002) dX11_apply_9 kc_RX11_69 rfl ?_
    refine V_iret dX11_apply_11 rfl ⟨Nat.le_of_ble_eq_true rfl, Nat.le_of_ble_eq_true rfl⟩ ?_
    exact ⟨rfl, _, rfl, rfl, rfl, k3.rep h⟩
end MODEL13
