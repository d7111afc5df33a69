section HISTORY2
variable {mi : MI} {mr : MR}
theorem Hist.drop {P : Int → Nat} {hs : List St} (hP : HiP mr P) (h : Hist mi P hs) (h4 : hs.length = 4) : Hist (up2 mi 7 1 3) (rotP P) hs.tail ∧ hs.tail.length = 3 := by
  have hl : hs.tail.length = 3 := by simp; omega
  refine ⟨⟨by rw [up2_ss, hl]; rfl, by omega, fun i σ hi => ?_⟩, hl⟩
  have hlt := lt_of_get hi
  have hi2 : hs[i + 1]? = some σ := by
    cases hs with
    | nil => simp at hi
    | cons a t => simpa using hi
  have h3 := h.2.2 (i + 1) σ hi2
  have e : rotP P i = P ((i + 1 : Nat) : Int) := by
    unfold rotP
    rw [if_neg (by omega)]
    rfl
  rw [e]
  have hv := (hP.1 ((i + 1 : Nat) : Int) (by omega) (by omega)).2
  refine ⟨h3.1.keep ?_, h3.2⟩
  refine ⟨?_, ?_, ?_, ?_, ?_⟩ <;> exact up2_n _ _ _ (by omega)
set_option maxRecDepth 100000 in
set_option maxHeartbeats 1000000 in
theorem c_X3_record {f fb g gb : Nat} {n m : Int} {A B Z : Int → Int} {P : Int → Nat} {hs : List St} (hN : Now mi mr f fb g gb n m A B) (hZ : ∀ i, 0 ≤ i → i < 3 → mi 6 i = Z i) (hv : StV (n, m, A, B, Z)) (hP : HiP mr P) (hH : Hist mi P hs) : C0 yX3_record cX3_record 2 none 3 SH mi mr [vr 7, vr 1] (fun mi' mr' => (∃ P', HiP mr' P' ∧ Hist mi' P' (hpush hs (n, m, A, B, Z))) ∧ (∀ x, (x < 7 ∨ 33 ≤ x) → mi' x = mi x) ∧ ∀ x, x ≠ 8 → mr' x = mr x) := by
  have hG := hN.2.2.1
  have h1 := hH.1
  have h2 := hH.2.1
  refine Ct.ofV (ini := false) [some (vr 7), some (vr 1)] km_X3_record (by decide) rfl (Nat.le_of_ble_eq_true rfl) ?_
  refine V_aload_n dX3_record_0 rfl ?_
  refine V_geti 1 dX3_record_1 fl_RX3_18 (by first | with_reducible assumption | rfl) rfl rfl ?_
  refine V_iconst dX3_record_4 ?_
  refine V_icmp_lt 12 dX3_record_5 (by decide) (by omega) (by omega) (fun h5 => ?_) (fun h5 => ?_)
  · refine l_X3_record hN hZ hv hP hH (by omega) (fun mi' k1 k2 => ?_)
    refine ⟨rfl, rfl, ⟨P, hP, ?_⟩, k2, fun _ _ => rfl⟩
    unfold hpush
    rw [if_neg (by omega)]
    exact k1
  · refine V_aload_n dX3_record_8 rfl ?_
    refine V_callV0 dX3_record_9 ml_RX3_22 km_X3_dropOldest kv_X3_dropOldest (c_X3_dropOldest hG hP) (by first | with_reducible assumption | rfl) rfl rfl rfl (Nat.le_of_ble_eq_true rfl) ⟨Nat.le_of_ble_eq_true rfl, Nat.le_of_ble_eq_true rfl⟩ ⟨Nat.le_of_ble_eq_true rfl, Nat.le_of_ble_eq_true rfl⟩ ?_
    rintro mi1 mr1 ⟨rfl, r1, r2⟩
    have h4 : hs.length = 4 := by omega
    obtain ⟨d1, d2⟩ := hH.drop hP h4
    have hG1 : Gr mr1 := fun a j b hq => by
      by_cases ha : a = 8
      · subst ha
        simp [grf, grL] at hq
      · rw [r2 a ha]; exact hG a j b hq
    have hN1 : Now (up2 mi 7 1 3) mr1 f fb g gb n m A B := by
      obtain ⟨g1, g2, g3, g4⟩ := hN.keep (mi' := up2 mi 7 1 3) (fun x x1 x2 => up2_n _ _ _ (by omega))
      exact ⟨by rw [r2 1 (by decide)]; exact g1, g2, hG1, g4⟩
    refine l_X3_record hN1 (fun i i1 i2 => by rw [up2_n _ _ _ (by decide)]; exact hZ i i1 i2) hv r1 d1 (by omega) (fun mi' k1 k2 => ?_)
    refine ⟨rfl, rfl, ⟨rotP P, r1, ?_⟩, fun x hx => by rw [k2 x hx, up2_n _ _ _ (by omega)], r2⟩
    unfold hpush
    rw [if_pos h4]
    exact k1
set_option maxRecDepth 100000 in
set_option maxHeartbeats 1000000 in
theorem c_X3_restoreTo {f fb g gb : Nat} {n m : Int} {A B : Int → Int} {P : Int → Nat} {hs : List St} {σ : St} (hN : Now mi mr f fb g gb n m A B) (hP : HiP mr P) (hH : Hist mi P (hs ++ [σ])) : C0 yX3_restoreTo cX3_restoreTo 2 none 3 SH mi mr [vr 7, vr 1] (fun mi' mr' => mr' = mr ∧ Hist mi' P hs ∧ SIs mi' f fb g gb 6 σ ∧ StV σ ∧ ∀ x, 8 ≤ x → mi' x = mi x) := by
  have hG := hN.2.2.1
  obtain ⟨h1, h2, h3⟩ := hH
  have hl : ((hs ++ [σ]).length : Int) = hs.length + 1 := by simp
  have hl2 : hs.length + 1 ≤ 4 := by simpa using h2
  rw [hl] at h1
  have hk4 : (0 : Int) ≤ hs.length ∧ (hs.length : Int) < 4 := by omega
  obtain ⟨pk, pv⟩ := hP.1 hs.length hk4.1 hk4.2
  have sp := hP.sha hG hk4.1 hk4.2
  have sN := hN.sha
  have hin := hN.2.1
  have hdis : Dis f fb g gb 6 (P hs.length + 1) (P hs.length + 2) (P hs.length + 3) (P hs.length + 4) (P hs.length + 5) := by unfold Dis; omega
  have hσ := h3 hs.length σ (by simp)
  have q9 := sp.2.1.1
  have h1e : mi 7 1 - 1 = hs.length := by omega
  have hσ1 : SIs (up2 mi 7 1 (hs.length : Int)) (P hs.length + 1) (P hs.length + 2) (P hs.length + 3) (P hs.length + 4) (P hs.length + 5) σ := hσ.1.keep (by refine ⟨?_, ?_, ?_, ?_, ?_⟩ <;> exact up2_n _ _ _ (by omega))
  refine Ct.ofV (ini := false) [some (vr 7), some (vr 1)] km_X3_restoreTo (by decide) rfl (Nat.le_of_ble_eq_true rfl) ?_
  refine V_aload_n dX3_restoreTo_0 rfl ?_
  refine V_geti 1 dX3_restoreTo_1 fl_RX3_18 (by first | with_reducible assumption | rfl) rfl rfl ?_
  refine V_if_le 38 dX3_restoreTo_4 (by decide) (by omega) (fun h4 => ?_) (fun h4 => ?_)
  · omega
  · refine V_aload_n dX3_restoreTo_7 rfl ?_
    refine V_geti 1 dX3_restoreTo_8 fl_RX3_18 (by first | with_reducible assumption | rfl) rfl rfl ?_
    refine V_iconst dX3_restoreTo_11 ?_
    refine V_icmp_gt 38 dX3_restoreTo_12 (by decide) (by omega) (by omega) (fun h12 => ?_) (fun h12 => ?_)
    · omega
    · refine V_aload_n dX3_restoreTo_15 rfl ?_
      refine V_dup dX3_restoreTo_16 rfl ?_
      refine V_geti 1 dX3_restoreTo_17 fl_RX3_18 (by first | with_reducible assumption | rfl) rfl rfl ?_
      refine V_iconst dX3_restoreTo_20 ?_
      refine V_isub dX3_restoreTo_21 ?_
      refine V_puti 1 dX3_restoreTo_22 fl_RX3_18 (by first | with_reducible assumption | rfl) rfl rfl rfl ?_
      refine V_aload_n dX3_restoreTo_25 rfl ?_
      refine V_aload_n dX3_restoreTo_26 rfl ?_
      refine V_getr 0 _ dX3_restoreTo_27 fl_RX3_11 (by first | with_reducible assumption | rfl) rfl rfl (by first | with_reducible assumption | exact hG.at rfl) ?_
      refine V_aload_n dX3_restoreTo_30 rfl ?_
      refine V_geti 1 dX3_restoreTo_31 fl_RX3_18 (by first | with_reducible assumption | rfl) rfl rfl ?_
      rw [up2_ss, h1e]
      refine V_aald dX3_restoreTo_34 (by first | with_reducible assumption | rfl) (by decide) (by omega) (by exact pk) ?_
      refine V_callV0 dX3_restoreTo_35 ml_RX3_25 km_X9_copyFrom kv_X9_copyFrom (c_X9_copyFrom (σ := σ) sN sp hdis hσ1 hσ.2) (by first | with_reducible assumption | rfl) rfl rfl rfl (Nat.le_of_ble_eq_true rfl) ⟨Nat.le_of_ble_eq_true rfl, Nat.le_of_ble_eq_true rfl⟩ ⟨Nat.le_of_ble_eq_true rfl, Nat.le_of_ble_eq_true rfl⟩ ?_
      rintro mi1 mr1 ⟨rfl, r1, r2⟩
      refine V_vret dX3_restoreTo_38 rfl ⟨Nat.le_of_ble_eq_true rfl, Nat.le_of_ble_eq_true rfl⟩ ?_
      refine ⟨rfl, rfl, rfl, ⟨?_, by omega, fun i τ hi => ?_⟩, r1, hσ.2, fun x hx => by rw [r2 x (by omega) (by omega) (by omega) (by omega) (by omega), up2_n _ _ _ (by omega)]⟩
      · rw [r2 7 (by omega) (by omega) (by omega) (by omega) (by omega), up2_ss]
      · have hlt := lt_of_get hi
        have hi4 := hP.1 i (by omega) (by omega)
        have h5 := h3 i τ (by rw [List.getElem?_append_left hlt]; exact hi)
        refine ⟨h5.1.keep ?_, h5.2⟩
        refine ⟨?_, ?_, ?_, ?_, ?_⟩ <;> (rw [r2 _ (by omega) (by omega) (by omega) (by omega) (by omega)]; exact up2_n _ _ _ (by omega))
end HISTORY2
