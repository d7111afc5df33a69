/-! ===== the law: its loop, its start ===== -/
section LAWL
variable {L : Nat} {xs : Nat → Int}
set_option maxRecDepth 100000 in
set_option maxHeartbeats 1000000 in
theorem lw_loop (hxr : ∀ j, rng (xs j)) (hL : L ≤ 2048) : ∀ (t : Nat) (i : Int) (mi : MI) (mr : MR) (s : Sg), 0 ≤ i → i ≤ L + 4 → L + 4 - i < t → RepC mi mr s → RepM mi s → V (muL L xs) QL 75 16789 SH mi mr (Hd0 i) [] 18 := by
  intro t
  induction t with
  | zero => intro i mi mr s a1 a2 a3; omega
  | succ t ih =>
    intro i mi mr s a1 a2 a3 hC hM
    obtain ⟨⟨n, m, A, B, Z⟩, hs, tl, T⟩ := s
    by_cases hend : (L : Int) - 4 < i
    · refine V_iload_n dL_law_18 rfl ?_
      refine V_aload_n dL_law_19 rfl ?_
      refine V_slen rfl dL_law_20 ?_
      refine V_iconst dL_law_21 ?_
      refine V_isub dL_law_22 ?_
      refine V_icmp_gt 682 dL_law_23 (by decide) (by omega) (by omega) (fun _ => ?_) (fun h23 => absurd h23 ((not_not_intro hend)))
      refine V_iconst dL_law_682 ?_
      refine V_zret dL_law_683 rfl ⟨Nat.le_of_ble_eq_true rfl, Nat.le_of_ble_eq_true rfl⟩ (by first | exact Or.inl rfl | exact Or.inr rfl | omega) ?_
      rfl
    · have kk : lwK L xs i := fun mi' mr' s' h1 h2 => by
        refine S_iinc (ls' := [_, _, _, _]) dL_law_676 rfl ⟨rfl, rfl⟩ rfl ?_
        refine V_goto 18 dL_law_679 (by decide) ?_
        exact ih (i + 4) mi' mr' s' (by omega) (by omega) (by omega) h1 h2
      have hi : 0 ≤ i ∧ i + 4 ≤ L := by omega
      have hL2 : L ≤ 2147483648 := by omega
      refine V_iload_n dL_law_18 rfl ?_
      refine V_aload_n dL_law_19 rfl ?_
      refine V_slen rfl dL_law_20 ?_
      refine V_iconst dL_law_21 ?_
      refine V_isub dL_law_22 ?_
      refine V_icmp_gt 682 dL_law_23 (by decide) (by omega) (by omega) (fun h23 => absurd h23 (hend)) (fun _ => ?_)
      refine V_aload_n dL_law_26 rfl ?_
      refine V_iload_n dL_law_27 rfl ?_
      refine V_sld rfl hL2 dL_law_28 (by omega) ?_
      refine V_bipush dL_law_29 (by decide) ?_
      refine V_iand31 dL_law_31 (fun c c0 c31 => ?_)
      rcases (show c = 0 ∨ c = 1 ∨ c = 2 ∨ c = 3 ∨ c = 4 ∨ c = 5 ∨ c = 6 ∨ c = 7 ∨ c = 8 ∨ c = 9 ∨ c = 10 ∨ c = 11 ∨ c = 12 ∨ c = 13 ∨ c = 14 ∨ c = 15 ∨ c = 16 ∨ c = 17 ∨ c = 18 ∨ c = 19 ∨ c = 20 ∨ 20 < c by omega) with rfl | rfl | rfl | rfl | rfl | rfl | rfl | rfl | rfl | rfl | rfl | rfl | rfl | rfl | rfl | rfl | rfl | rfl | rfl | rfl | rfl | hc
      · refine V_tsw 100 132 dL_law_32 (by decide) (Or.inl ⟨by decide, by decide, rfl⟩) (by decide) ?_
        exact lw_c0 hxr hL2 hi hC hM kk
      · refine V_tsw 133 165 dL_law_32 (by decide) (Or.inl ⟨by decide, by decide, rfl⟩) (by decide) ?_
        exact lw_c1 hxr hL2 hi hC hM kk
      · refine V_tsw 176 208 dL_law_32 (by decide) (Or.inl ⟨by decide, by decide, rfl⟩) (by decide) ?_
        exact lw_c2 hxr hL2 hi hC hM kk
      · refine V_tsw 219 251 dL_law_32 (by decide) (Or.inl ⟨by decide, by decide, rfl⟩) (by decide) ?_
        exact lw_c3 hxr hL2 hi hC hM kk
      · refine V_tsw 232 264 dL_law_32 (by decide) (Or.inl ⟨by decide, by decide, rfl⟩) (by decide) ?_
        exact lw_c4 hxr hL2 hi hC hM kk
      · refine V_tsw 265 297 dL_law_32 (by decide) (Or.inl ⟨by decide, by decide, rfl⟩) (by decide) ?_
        exact lw_c5 hxr hL2 hi hC hM kk
      · refine V_tsw 298 330 dL_law_32 (by decide) (Or.inl ⟨by decide, by decide, rfl⟩) (by decide) ?_
        exact lw_c6 hxr hL2 hi hC hM kk
      · refine V_tsw 331 363 dL_law_32 (by decide) (Or.inl ⟨by decide, by decide, rfl⟩) (by decide) ?_
        exact lw_c7 hxr hL2 hi hC hM kk
      · refine V_tsw 364 396 dL_law_32 (by decide) (Or.inl ⟨by decide, by decide, rfl⟩) (by decide) ?_
        exact lw_c8 hxr hL2 hi hC hM kk
      · refine V_tsw 377 409 dL_law_32 (by decide) (Or.inl ⟨by decide, by decide, rfl⟩) (by decide) ?_
        exact lw_c9 hxr hL2 hi hC hM kk
      · refine V_tsw 410 442 dL_law_32 (by decide) (Or.inl ⟨by decide, by decide, rfl⟩) (by decide) ?_
        exact lw_c10 hxr hL2 hi hC hM kk
      · refine V_tsw 433 465 dL_law_32 (by decide) (Or.inl ⟨by decide, by decide, rfl⟩) (by decide) ?_
        exact lw_c11 hxr hL2 hi hC hM kk
      · refine V_tsw 447 479 dL_law_32 (by decide) (Or.inl ⟨by decide, by decide, rfl⟩) (by decide) ?_
        exact lw_c12 hxr hL2 hi hC hM kk
      · refine V_tsw 480 512 dL_law_32 (by decide) (Or.inl ⟨by decide, by decide, rfl⟩) (by decide) ?_
        exact lw_c13 hxr hL2 hi hC hM kk
      · refine V_tsw 513 545 dL_law_32 (by decide) (Or.inl ⟨by decide, by decide, rfl⟩) (by decide) ?_
        exact lw_c14 hxr hL2 hi hC hM kk
      · refine V_tsw 536 568 dL_law_32 (by decide) (Or.inl ⟨by decide, by decide, rfl⟩) (by decide) ?_
        exact lw_c15 hxr hL2 hi hC hM kk
      · refine V_tsw 559 591 dL_law_32 (by decide) (Or.inl ⟨by decide, by decide, rfl⟩) (by decide) ?_
        exact lw_c16 hxr hL2 hi hC hM kk
      · refine V_tsw 572 604 dL_law_32 (by decide) (Or.inl ⟨by decide, by decide, rfl⟩) (by decide) ?_
        exact lw_c17 hxr hL2 hi hC hM kk
      · refine V_tsw 595 627 dL_law_32 (by decide) (Or.inl ⟨by decide, by decide, rfl⟩) (by decide) ?_
        exact lw_c18 hxr hL2 hi hC hM kk
      · refine V_tsw 608 640 dL_law_32 (by decide) (Or.inl ⟨by decide, by decide, rfl⟩) (by decide) ?_
        exact lw_c19 hxr hL2 hi hC hM kk
      · refine V_tsw 631 663 dL_law_32 (by decide) (Or.inl ⟨by decide, by decide, rfl⟩) (by decide) ?_
        exact lw_c20 hxr hL2 hi hC hM kk
      · refine V_tsw 644 676 dL_law_32 (by omega) (Or.inr ⟨Or.inr (by omega), rfl⟩) (by decide) ?_
        exact kk mi mr _ hC hM
/-- the start: two made objects, empty rows -/
def mi0 : MI := iMod 63 (zm (iTop 1 (zm (fun _ _ => 0) 0 0)) 62 0)
def mr0 : MR := rMod 62 63 (zm (rTop 0 1 (zm (fun _ _ => none) 0 none)) 62 none)
def s0 : Sg := ((0, 0, fun _ => -1, fun _ => -1, svF 2), [], 0, fun _ => -1)
theorem sh0 : (((([] : ShT) ++ ([.inl 10] : ShT)) ++ sTop) ++ ([.inl 11] : ShT)) ++ sMod = SH := by decide +kernel
theorem sh0l : ((([] : ShT) ++ ([.inl 10] : ShT)) ++ sTop).length = 62 := by decide +kernel
theorem gr0 : ∀ q ∈ grL, mr0 q.1 q.2.1 = some q.2.2 := by decide +kernel
theorem Gr.of {mr : MR} (h : ∀ q ∈ grL, mr q.1 q.2.1 = some q.2.2) : Gr mr := by
  intro a j b hq
  unfold grf at hq
  cases hf : grL.find? (fun q => q.1 == a && q.2.1 == j) with
  | none => rw [hf] at hq; cases hq
  | some q =>
    rw [hf] at hq
    have h1 := h q (List.mem_of_find?_eq_some hf)
    have h2 := List.find?_some hf
    simp only [Bool.and_eq_true, beq_iff_eq] at h2
    have h3 : q.2.2 = b := Option.some.inj hq
    rw [h2.1, h2.2, h3] at h1
    exact h1
theorem nr0 : NR 0 (fun _ => -1) := ⟨by omega, fun i i1 i2 => by omega, fun _ _ => rfl⟩
theorem stv0 : StV s0.1 := ⟨nr0, nr0, by decide, by decide, by decide⟩
theorem tx0 : TxOk 0 (fun _ => -1) := ⟨by omega, fun i i1 i2 => by omega, fun _ _ => rfl⟩
theorem repC0 : RepC mi0 mr0 s0 := by
  refine ⟨2, 3, 4, 5, fun i => if i = 0 then 9 else if i = 1 then 15 else if i = 2 then 21 else 27, ⟨⟨by decide +kernel, by decide +kernel⟩, Or.inl ⟨rfl, rfl, rfl, rfl⟩, Gr.of gr0, ⟨by decide +kernel, by decide +kernel⟩, fun i i1 i2 => ?_, fun i i1 i2 => ?_, nr0, nr0⟩, fun i i1 i2 => ?_, stv0, ⟨fun i i1 i2 => ?_, fun i j i1 i2 j1 j2 h => ?_⟩, ⟨by decide +kernel, by decide, fun i σ h => by simp [s0] at h⟩, ⟨by decide +kernel, fun i i1 i2 => ?_, tx0⟩⟩
  · simp only [s0] at i2; omega
  · simp only [s0] at i2; omega
  · rcases (show i = 0 ∨ i = 1 ∨ i = 2 by omega) with rfl | rfl | rfl <;> decide +kernel
  · rcases (show i = 0 ∨ i = 1 ∨ i = 2 ∨ i = 3 by omega) with rfl | rfl | rfl | rfl <;> decide +kernel
  · rcases (show i = 0 ∨ i = 1 ∨ i = 2 ∨ i = 3 by omega) with rfl | rfl | rfl | rfl <;> rcases (show j = 0 ∨ j = 1 ∨ j = 2 ∨ j = 3 by omega) with rfl | rfl | rfl | rfl <;> first | rfl | (exfalso; revert h; decide)
  · simp only [s0] at i2; omega
theorem repM0 : RepM mi0 s0 := by
  refine ⟨⟨⟨by decide +kernel, by decide +kernel⟩, fun i i1 i2 => ?_, fun i i1 i2 => ?_, fun i i1 i2 => ?_⟩, stv0, ⟨by decide +kernel, by decide, fun i σ h => by simp [s0] at h⟩, ⟨by decide +kernel, fun i i1 i2 => ?_, tx0⟩⟩
  · rcases (show i = 0 ∨ i = 1 ∨ i = 2 by omega) with rfl | rfl | rfl <;> decide +kernel
  · simp only [s0] at i2; omega
  · simp only [s0] at i2; omega
  · simp only [s0] at i2; omega
set_option maxRecDepth 100000 in
set_option maxHeartbeats 1000000 in
theorem lw_V (hxr : ∀ j, rng (xs j)) (hL : L ≤ 2048) : V (muL L xs) QL 0 0 [] (fun _ _ => 0) (fun _ _ => none) [some (vr 1003), none, none, none] [] 0 := by
  refine V_new dL_law_0 (ci := 10) rfl cl_RL_7 in_RX10 it_RX10 uX10 (by (try simp) <;> omega) (by (try simp [okl, oklo, sTop, sState, sHist]) <;> omega) ⟨Nat.le_of_ble_eq_true rfl, Nat.le_of_ble_eq_true rfl⟩ ?_
  refine V_dup dL_law_3 rfl ?_
  refine V_callI dL_law_4 ml_RL_9 km_X10_init ki_X10_init (c_X10_init (a := 0) rfl (by decide)) rfl rfl (Nat.le_of_ble_eq_true rfl) (by (try simp [okn, sTop, sState, sHist]) <;> omega) ⟨Nat.le_of_ble_eq_true rfl, Nat.le_of_ble_eq_true rfl⟩ ⟨Nat.le_of_ble_eq_true rfl, Nat.le_of_ble_eq_true rfl⟩ ?_
  rintro r sh1 mi1 mr1 ⟨rfl, rfl, rfl, rfl⟩
  refine S_astore_n (ls' := [_, _, _, _]) dL_law_7 ⟨Nat.le_of_ble_eq_true rfl, rfl, rfl⟩ rfl ?_
  refine V_new dL_law_8 (ci := 11) rfl cl_RL_10 in_RX11 it_RX11 uX11 (by simp [sTop, sState, sHist]) (by (try simp [okl, oklo, sTop, sState, sHist]) <;> omega) ⟨Nat.le_of_ble_eq_true rfl, Nat.le_of_ble_eq_true rfl⟩ ?_
  refine V_dup dL_law_11 rfl ?_
  refine V_callI dL_law_12 ml_RL_12 km_X11_init ki_X11_init (c_X11_init gN (by simp [sTop, sState, sHist])) rfl rfl (Nat.le_of_ble_eq_true rfl) (by (try simp [okn, sTop, sState, sHist]) <;> omega) ⟨Nat.le_of_ble_eq_true rfl, Nat.le_of_ble_eq_true rfl⟩ ⟨Nat.le_of_ble_eq_true rfl, Nat.le_of_ble_eq_true rfl⟩ ?_
  rintro r sh1 mi1 mr1 ⟨rfl, rfl, rfl, rfl⟩
  refine S_astore_n (ls' := [_, _, _, _]) dL_law_15 ⟨Nat.le_of_ble_eq_true rfl, rfl, rfl⟩ rfl ?_
  refine V_iconst dL_law_16 ?_
  refine S_istore_n (ls' := [_, _, _, _]) dL_law_17 ⟨Nat.le_of_ble_eq_true rfl, rfl, rfl⟩ rfl ?_
  rw [sh0]
  exact lw_loop hxr hL (L + 5) 0 mi0 mr0 s0 (by omega) (by omega) (by omega) repC0 repM0
end LAWL
