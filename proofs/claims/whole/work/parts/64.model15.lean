/-! ===== DiagonalTextsModel: hunkOf ===== -/
section MODEL15
variable {mi mi1 mi2 mi3 mi4 : MI} {mr : MR} {n m n' m' tl D L r : Int} {A B A' B' Z T : Int → Int} {K X Y F E C : Int → Int} {hs hs' : List St} {u : Int × (Int → Int)} {σ : St}
theorem StM.ki (hA : NR n A) (hB : NR m B) (hD : isD n m A B D) (h : StM mi (sL n m D) (sK A B n m D) (sX A B n m D) (sY A B n m D)) : KiM mi (sL n m D) (sK A B n m D) := by
  have hL := sL_r hA hB hD
  exact ⟨h.1, ⟨hL.1, hL.2.1⟩, fun j j1 j2 => ⟨(h.2 j j1 j2).1, (sc_lt hA hB hD j1 j2).1⟩⟩
theorem hk_L {L : Int} (hL : 0 ≤ L) (r : Int) (hr : 0 ≤ r) (K : Int → Int) : HOK r K L (hk r K L.toNat).1 (hk r K L.toNat).2.1 (hk r K L.toNat).2.2.1 (hk r K L.toNat).2.2.2 := by
  have := hk_ok r hr K L.toNat
  rw [show ((L.toNat : Nat) : Int) = L by omega] at this
  exact this
/-- the value that is told -/
def vHk (r L c : Int) (F E C X Y : Int → Int) (i w : Int) : Int :=
  if c ≤ i then -1000004
  else if w = 0 then X (max (F i - r) 0)
  else if w = 1 then X (min (E i + 1 + r) L) - X (max (F i - r) 0)
  else if w = 2 then Y (max (F i - r) 0)
  else if w = 3 then Y (min (E i + 1 + r) L) - Y (max (F i - r) 0)
  else C i
set_option maxRecDepth 100000 in
set_option maxHeartbeats 1000000 in
theorem l_X11_hunkOf {i w c : Int} {Q : PQ} (hG : Gr mr) (hin : 0 ≤ i ∧ 0 ≤ w ∧ w ≤ 4) (hi : rng i) (hO : HOK r K L c F E C) (hc : c ≤ 56) (hK : KiM mi L K) (q3 : mi 63 3 = r) (hr : 0 ≤ r ∧ r ≤ 5) (hsc : Sc n m A B L K X Y) (hSt : StM mi L K X Y) (hnm : n ≤ 28 ∧ m ≤ 28)
    (kk : ∀ mi' : MI, (∀ j, j ≠ 20 → j ≠ 21 → mi' 62 j = mi 62 j) → (∀ z, z ≠ 62 → mi' z = mi z) → Q (some (vi (vHk r L c F E C X Y i w))) SH mi' mr) : V (RX11, cX11_hunkOf, 5, rm 6, false, none, (some .int)) Q 0 0 SH mi mr [some (vr 62), some (vi i), some (vi w), none, none] [] 26 := by
  have hc0 := hO.1.1
  have hL := hK.2.1
  have loop : ∀ (t : Nat) (k : Int) (mi' : MI), 0 ≤ k → k ≤ c → k ≤ i + 1 → c - k < t → (0 < k → mi' 62 20 = max (F (k - 1) - r) 0 ∧ mi' 62 21 = min (E (k - 1) + 1 + r) L) → (∀ j, j ≠ 20 → j ≠ 21 → mi' 62 j = mi 62 j) → (∀ z, z ≠ 62 → mi' z = mi z) → V (RX11, cX11_hunkOf, 5, rm 6, false, none, (some .int)) Q 0 0 SH mi' mr [some (vr 62), some (vi i), some (vi w), some (vi (hb E r L k)), some (vi k)] [] 31 := by
    intro t
    induction t with
    | zero => intro k mi' a1 a2 a3 a4; omega
    | succ t ih =>
      intro k mi' a1 a2 a3 a4 a5 a6 a7
      by_cases hki : k ≤ i
      · have hc1 := c_X11_hunkFrom (mi := mi') (mr := mr) (i := k) hG (hK.keep (a6 13 (by decide) (by decide)) (a7 68 (by decide))) hr (by rw [a7 63 (by decide)]; exact q3) hO ⟨a1, a2⟩
        by_cases hkc : k < c
        · have e1 : (if k < c then (1 : Int) else 0) = 1 := if_pos hkc
          refine V_iload dX11_hunkOf_31 rfl ?_
          refine V_iload_n dX11_hunkOf_33 rfl ?_
          refine V_icmp_gt 59 dX11_hunkOf_34 (by decide) (by omega) (by omega) (fun h34 => absurd h34 ((by omega))) (fun _ => ?_)
          refine V_aload_n dX11_hunkOf_37 rfl ?_
          refine V_iload_n dX11_hunkOf_38 rfl ?_
          refine V_callV1 dX11_hunkOf_39 ml_RX11_131 km_X11_hunkFrom kv_X11_hunkFrom (hc1) (by first | with_reducible assumption | rfl) rfl rfl rfl (Nat.le_of_ble_eq_true rfl) ⟨Nat.le_of_ble_eq_true rfl, Nat.le_of_ble_eq_true rfl⟩ ⟨Nat.le_of_ble_eq_true rfl, Nat.le_of_ble_eq_true rfl⟩ ?_
          rintro v mi2 mr2 ⟨rfl, rfl, k1, k2, k3⟩
          rw [e1]
          refine V_if_ne 48 dX11_hunkOf_42 (by decide) (by omega) (fun _ => ?_) (fun h42 => absurd h42 ((by decide)))
          refine V_aload_n dX11_hunkOf_48 rfl ?_
          refine V_geti 21 dX11_hunkOf_49 fl_RX11_128 (by first | with_reducible assumption | rfl) rfl rfl ?_
          rw [(k1 hkc).2]
          refine S_istore_n (ls' := [_, _, _, _, _]) dX11_hunkOf_52 ⟨Nat.le_of_ble_eq_true rfl, rfl, rfl⟩ rfl ?_
          refine S_iinc (ls' := [_, _, _, _, _]) dX11_hunkOf_53 rfl ⟨rfl, rfl⟩ rfl ?_
          refine V_goto 31 dX11_hunkOf_56 (by decide) ?_
          have hgo := ih (k + 1) mi2 (by omega) (by omega) (by omega) (by omega) (fun _ => by rw [show k + 1 - 1 = k by omega]; exact k1 hkc) (fun j j1 j2 => by rw [k2 j j1 j2]; exact a6 j j1 j2) (fun z z1 => by rw [k3 z z1]; exact a7 z z1)
          rw [show hb E r L (k + 1) = min (E k + 1 + r) L by unfold hb; rw [if_neg (by omega), show k + 1 - 1 = k by omega]] at hgo
          exact hgo
        · have e1 : (if k < c then (1 : Int) else 0) = 0 := if_neg hkc
          have ev : vHk r L c F E C X Y i w = -1000004 := by unfold vHk; rw [if_pos (by omega)]
          rw [ev] at kk
          refine V_iload dX11_hunkOf_31 rfl ?_
          refine V_iload_n dX11_hunkOf_33 rfl ?_
          refine V_icmp_gt 59 dX11_hunkOf_34 (by decide) (by omega) (by omega) (fun h34 => absurd h34 ((by omega))) (fun _ => ?_)
          refine V_aload_n dX11_hunkOf_37 rfl ?_
          refine V_iload_n dX11_hunkOf_38 rfl ?_
          refine V_callV1 dX11_hunkOf_39 ml_RX11_131 km_X11_hunkFrom kv_X11_hunkFrom (hc1) (by first | with_reducible assumption | rfl) rfl rfl rfl (Nat.le_of_ble_eq_true rfl) ⟨Nat.le_of_ble_eq_true rfl, Nat.le_of_ble_eq_true rfl⟩ ⟨Nat.le_of_ble_eq_true rfl, Nat.le_of_ble_eq_true rfl⟩ ?_
          rintro v mi2 mr2 ⟨rfl, rfl, k1, k2, k3⟩
          rw [e1]
          refine V_if_ne 48 dX11_hunkOf_42 (by decide) (by omega) (fun h42 => absurd h42 ((by decide))) (fun _ => ?_)
          refine V_ldc (-1000004) dX11_hunkOf_45 kc_RX11_70 rfl ?_
          refine V_iret dX11_hunkOf_47 rfl ⟨Nat.le_of_ble_eq_true rfl, Nat.le_of_ble_eq_true rfl⟩ ?_
          exact kk mi2 (fun j j1 j2 => by rw [k2 j j1 j2]; exact a6 j j1 j2) (fun z z1 => by rw [k3 z z1]; exact a7 z z1)
      · have hk : k = i + 1 := by omega
        subst hk
        have hic : i < c := by omega
        obtain ⟨q20, q21⟩ := a5 (by omega)
        rw [show i + 1 - 1 = i by omega] at q20 q21
        have hkk := kk mi' a6 a7
        obtain ⟨g1, g2, g3, g4, g5, g6⟩ := hO.2.1 i hin.1 hic
        have hK' : KiM mi' L K := hK.keep (a6 13 (by decide) (by decide)) (a7 68 (by decide))
        have hst := hSt.2 (max (F i - r) 0) (by omega) (by omega)
        rw [← a7 68 (by decide)] at hst
        have hX := hsc.2.1 (max (F i - r) 0) (by omega) (by omega)
        have hcnt := hO.cnt hr.1 hin.1 hic
        have hXY := wI_XY hsc (a := max (F i - r) 0) (b := min (E i + 1 + r) L) (by omega) (by omega) (by omega)
        have hwo := fun v (hv : 0 ≤ v ∧ v ≤ 2) => c_X11_without (mi := mi') (mr := mr) (v := v) hG hK' q20 q21 ⟨by omega, by omega, by omega⟩ hv
        unfold vHk at hkk
        rw [if_neg (by omega)] at hkk
        refine V_iload dX11_hunkOf_31 rfl ?_
        refine V_iload_n dX11_hunkOf_33 rfl ?_
        refine V_icmp_gt 59 dX11_hunkOf_34 (by decide) (by omega) (by omega) (fun _ => ?_) (fun h34 => absurd h34 ((by omega)))
        refine V_iload_n dX11_hunkOf_59 rfl ?_
        rcases (show w = 0 ∨ w = 1 ∨ w = 2 ∨ w = 3 ∨ w = 4 by omega) with rfl | rfl | rfl | rfl | rfl
        · refine V_tsw 32 92 dX11_hunkOf_60 (by decide) (Or.inl ⟨by decide, by decide, rfl⟩) (by decide) ?_
          refine V_aload_n dX11_hunkOf_92 rfl ?_
          refine V_getr 12 _ dX11_hunkOf_93 fl_RX11_26 (by first | with_reducible assumption | rfl) rfl rfl (by first | with_reducible assumption | exact hG.at rfl) ?_
          refine V_iconst dX11_hunkOf_96 ?_
          refine V_aload_n dX11_hunkOf_97 rfl ?_
          refine V_geti 20 dX11_hunkOf_98 fl_RX11_125 (by first | with_reducible assumption | rfl) rfl rfl ?_
          rw [q20]
          refine V_imul dX11_hunkOf_101 ?_
          refine V_iload_n dX11_hunkOf_102 rfl ?_
          refine V_if_ne 110 dX11_hunkOf_103 (by decide) (by omega) (fun h103 => absurd h103 ((by decide))) (fun _ => ?_)
          refine V_iconst dX11_hunkOf_106 ?_
          refine V_goto 111 dX11_hunkOf_107 (by decide) ?_
          refine V_iadd dX11_hunkOf_111 ?_
          refine V_iald dX11_hunkOf_112 (by first | with_reducible assumption | rfl) (by decide) (by omega) ?_
          refine V_iret dX11_hunkOf_113 rfl ⟨Nat.le_of_ble_eq_true rfl, Nat.le_of_ble_eq_true rfl⟩ ?_
          first | (rw [hst.2.1]; exact hkk) | (rw [hst.2.2]; exact hkk)
        · refine V_tsw 54 114 dX11_hunkOf_60 (by decide) (Or.inl ⟨by decide, by decide, rfl⟩) (by decide) ?_
          refine V_aload_n dX11_hunkOf_114 rfl ?_
          refine V_iconst dX11_hunkOf_115 ?_
          refine V_callVP dX11_hunkOf_116 ml_RX11_134 km_X11_without kv_X11_without (hwo 2 (by decide)) (by first | with_reducible assumption | rfl) rfl rfl rfl (Nat.le_of_ble_eq_true rfl) ⟨Nat.le_of_ble_eq_true rfl, Nat.le_of_ble_eq_true rfl⟩ ⟨Nat.le_of_ble_eq_true rfl, Nat.le_of_ble_eq_true rfl⟩ ?_
          rw [hXY.1]
          refine V_iret dX11_hunkOf_119 rfl ⟨Nat.le_of_ble_eq_true rfl, Nat.le_of_ble_eq_true rfl⟩ ?_
          exact hkk
        · refine V_tsw 32 92 dX11_hunkOf_60 (by decide) (Or.inl ⟨by decide, by decide, rfl⟩) (by decide) ?_
          refine V_aload_n dX11_hunkOf_92 rfl ?_
          refine V_getr 12 _ dX11_hunkOf_93 fl_RX11_26 (by first | with_reducible assumption | rfl) rfl rfl (by first | with_reducible assumption | exact hG.at rfl) ?_
          refine V_iconst dX11_hunkOf_96 ?_
          refine V_aload_n dX11_hunkOf_97 rfl ?_
          refine V_geti 20 dX11_hunkOf_98 fl_RX11_125 (by first | with_reducible assumption | rfl) rfl rfl ?_
          rw [q20]
          refine V_imul dX11_hunkOf_101 ?_
          refine V_iload_n dX11_hunkOf_102 rfl ?_
          refine V_if_ne 110 dX11_hunkOf_103 (by decide) (by omega) (fun _ => ?_) (fun h103 => absurd h103 ((by decide)))
          refine V_iconst dX11_hunkOf_110 ?_
          refine V_iadd dX11_hunkOf_111 ?_
          refine V_iald dX11_hunkOf_112 (by first | with_reducible assumption | rfl) (by decide) (by omega) ?_
          refine V_iret dX11_hunkOf_113 rfl ⟨Nat.le_of_ble_eq_true rfl, Nat.le_of_ble_eq_true rfl⟩ ?_
          first | (rw [hst.2.1]; exact hkk) | (rw [hst.2.2]; exact hkk)
        · refine V_tsw 60 120 dX11_hunkOf_60 (by decide) (Or.inl ⟨by decide, by decide, rfl⟩) (by decide) ?_
          refine V_aload_n dX11_hunkOf_120 rfl ?_
          refine V_iconst dX11_hunkOf_121 ?_
          refine V_callVP dX11_hunkOf_122 ml_RX11_134 km_X11_without kv_X11_without (hwo 1 (by decide)) (by first | with_reducible assumption | rfl) rfl rfl rfl (Nat.le_of_ble_eq_true rfl) ⟨Nat.le_of_ble_eq_true rfl, Nat.le_of_ble_eq_true rfl⟩ ⟨Nat.le_of_ble_eq_true rfl, Nat.le_of_ble_eq_true rfl⟩ ?_
          rw [hXY.2]
          refine V_iret dX11_hunkOf_125 rfl ⟨Nat.le_of_ble_eq_true rfl, Nat.le_of_ble_eq_true rfl⟩ ?_
          exact hkk
        · refine V_tsw 66 126 dX11_hunkOf_60 (by decide) (Or.inr ⟨Or.inr (by decide), rfl⟩) (by decide) ?_
          refine V_aload_n dX11_hunkOf_126 rfl ?_
          refine V_iconst dX11_hunkOf_127 ?_
          refine V_callVP dX11_hunkOf_128 ml_RX11_134 km_X11_without kv_X11_without (hwo 0 (by decide)) (by first | with_reducible assumption | rfl) rfl rfl rfl (Nat.le_of_ble_eq_true rfl) ⟨Nat.le_of_ble_eq_true rfl, Nat.le_of_ble_eq_true rfl⟩ ⟨Nat.le_of_ble_eq_true rfl, Nat.le_of_ble_eq_true rfl⟩ ?_
          rw [hcnt]
          refine V_iret dX11_hunkOf_131 rfl ⟨Nat.le_of_ble_eq_true rfl, Nat.le_of_ble_eq_true rfl⟩ ?_
          exact hkk
  refine V_iconst dX11_hunkOf_26 ?_
  refine S_istore_n (ls' := [_, _, _, _, _]) dX11_hunkOf_27 ⟨Nat.le_of_ble_eq_true rfl, rfl, rfl⟩ rfl ?_
  refine V_iconst dX11_hunkOf_28 ?_
  refine S_istore (ls' := [_, _, _, _, _]) dX11_hunkOf_29 ⟨Nat.le_of_ble_eq_true rfl, rfl, rfl⟩ rfl ?_
  exact loop 57 0 mi (by omega) hc0 (by omega) (by omega) (fun h => by omega) (fun _ _ _ => rfl) (fun _ _ => rfl)
set_option maxRecDepth 100000 in
set_option maxHeartbeats 1000000 in
theorem c_X11_hunkOf {i w : Int} (hG : Gr mr) (hD : isD n m A B D) (hi : rng i) (hw : rng w) (h : RepM mi ((n, m, A, B, Z), hs, tl, T)) : C1 yX11_hunkOf cX11_hunkOf 5 (some .int) 6 SH mi mr [vr 62, vi i, vi w] (PoM (opScr D n m A B Z (hs, tl, T) (0 ≤ i ∧ 0 ≤ w ∧ w ≤ 4) (vHunk (Z 1) (sL n m D) (sK A B n m D) (sX A B n m D) (sY A B n m D) i w)) mi mr) := by
  have hS := h.2.1
  have hA : NR n A := hS.1
  have hB : NR m B := hS.2.1
  have hLr := sL_r hA hB hD
  have hz1 := hS.2.2.2.1
  have hsc := sc_ok hA hB hD
  have hn := hA.1
  have hm := hB.1
  simp only at hz1
  refine Ct.ofV (ini := false) [some (vr 62), some (vi i), some (vi w), none, none] km_X11_hunkOf (by decide) rfl (Nat.le_of_ble_eq_true rfl) ?_
  unfold opScr
  by_cases hin : 0 ≤ i ∧ 0 ≤ w ∧ w ≤ 4
  · rw [if_neg (not_not_intro hin)]
    have e1 : (if 0 ≤ w ∧ w ≤ 4 then (1 : Int) else 0) = 1 := if_pos hin.2
    have hO := hk_L hLr.1 (Z 1) hz1.1 (sK A B n m D)
    have hkr := hk_r (Z 1) (sK A B n m D) (sL n m D).toNat
    have ev : vHunk (Z 1) (sL n m D) (sK A B n m D) (sX A B n m D) (sY A B n m D) i w = vHk (Z 1) (sL n m D) (hk (Z 1) (sK A B n m D) (sL n m D).toNat).1 (hk (Z 1) (sK A B n m D) (sL n m D).toNat).2.1 (hk (Z 1) (sK A B n m D) (sL n m D).toNat).2.2.1 (hk (Z 1) (sK A B n m D) (sL n m D).toNat).2.2.2 (sX A B n m D) (sY A B n m D) i w := rfl
    rw [ev]
    refine V_iload_n dX11_hunkOf_0 rfl ?_
    refine V_if_lt 13 dX11_hunkOf_1 (by decide) (by omega) (fun h1 => absurd h1 ((by omega))) (fun _ => ?_)
    refine V_iload_n dX11_hunkOf_4 rfl ?_
    refine V_iconst dX11_hunkOf_5 ?_
    refine V_iconst dX11_hunkOf_6 ?_
    refine V_callSP dX11_hunkOf_7 ml_RX11_48 km_X11_in ks_X11_in (c_X11_in (v := w) (a := 0) (b := 4) (by omega) (by omega) (by omega)) rfl rfl (Nat.le_of_ble_eq_true rfl) ⟨Nat.le_of_ble_eq_true rfl, Nat.le_of_ble_eq_true rfl⟩ ⟨Nat.le_of_ble_eq_true rfl, Nat.le_of_ble_eq_true rfl⟩ ?_
    rw [e1]
    refine V_if_ne 16 dX11_hunkOf_10 (by decide) (by omega) (fun _ => ?_) (fun h10 => absurd h10 ((by decide)))
    refine V_aload_n dX11_hunkOf_16 rfl ?_
    refine V_callV1 dX11_hunkOf_17 ml_RX11_102 km_X11_traces kv_X11_traces (c_X11_traces hG hD h) (by first | with_reducible assumption | rfl) rfl rfl rfl (Nat.le_of_ble_eq_true rfl) ⟨Nat.le_of_ble_eq_true rfl, Nat.le_of_ble_eq_true rfl⟩ ⟨Nat.le_of_ble_eq_true rfl, Nat.le_of_ble_eq_true rfl⟩ ?_
    rintro v mi2 mr2 ⟨rfl, rfl, k1, k3, k4, k5⟩
    have hfin : RepM mi2 ((n, m, A, B, Z), hs, tl, T) ∧ ∀ x, x < 62 → mi2 x = mi x := ⟨h.keep (k4 3 (by decide) (by decide)) (k4 5 (by decide) (by decide)) (fun x hx => k5 x (by omega) (by omega) (by omega)), fun x hx => k5 x (by omega) (by omega) (by omega)⟩
    refine V_if_ne 26 dX11_hunkOf_20 (by decide) (by split <;> omega) (fun h20 => ?_) (fun h20 => ?_)
    · have hzd : ¬ Z 0 < D := fun hc => by rw [if_pos hc] at h20; omega
      have hK := StM.ki hA hB hD k1
      have q3 : mi2 63 3 = Z 1 := hfin.1.1.2.1 1 (by decide) (by decide)
      rw [if_neg hzd]
      exact l_X11_hunkOf hG hin hi hO (by omega) hK q3 hz1 hsc k1 ⟨hn.2, hm.2⟩ (fun mi3 g1 g2 => ⟨rfl, _, rfl, rfl, rfl, hfin.1.keep (g1 3 (by decide) (by decide)) (g1 5 (by decide) (by decide)) (fun x hx => g2 x (by omega)), fun x hx => by rw [g2 x (by omega)]; exact hfin.2 x hx⟩)
    · have hzd : Z 0 < D := Decidable.byContradiction fun hc => by rw [if_neg hc] at h20; omega
      refine V_ldc (-1000003) dX11_hunkOf_23 kc_RX11_61 rfl ?_
      refine V_iret dX11_hunkOf_25 rfl ⟨Nat.le_of_ble_eq_true rfl, Nat.le_of_ble_eq_true rfl⟩ ?_
      exact ⟨rfl, _, rfl, by rw [if_pos hzd], rfl, hfin⟩
  · rw [if_pos hin]
    refine V_iload_n dX11_hunkOf_0 rfl ?_
    refine V_if_lt 13 dX11_hunkOf_1 (by decide) (by omega) (fun h1 => ?_) (fun h1 => ?_)
    · refine V_ldc (-1000001) dX11_hunkOf_13 kc_RX11_56 rfl ?_
      refine V_iret dX11_hunkOf_15 rfl ⟨Nat.le_of_ble_eq_true rfl, Nat.le_of_ble_eq_true rfl⟩ ?_
      exact ⟨rfl, _, rfl, rfl, rfl, h, fun _ _ => rfl⟩
    · refine V_iload_n dX11_hunkOf_4 rfl ?_
      refine V_iconst dX11_hunkOf_5 ?_
      refine V_iconst dX11_hunkOf_6 ?_
      refine V_callSP dX11_hunkOf_7 ml_RX11_48 km_X11_in ks_X11_in (c_X11_in (v := w) (a := 0) (b := 4) (by omega) (by omega) (by omega)) rfl rfl (Nat.le_of_ble_eq_true rfl) ⟨Nat.le_of_ble_eq_true rfl, Nat.le_of_ble_eq_true rfl⟩ ⟨Nat.le_of_ble_eq_true rfl, Nat.le_of_ble_eq_true rfl⟩ ?_
      refine V_if_ne 16 dX11_hunkOf_10 (by decide) (by split <;> omega) (fun h10 => ?_) (fun h10 => ?_)
      · exact absurd (by rw [ifz, Decidable.not_not] at h10; exact ⟨by omega, h10⟩) hin
      · refine V_ldc (-1000001) dX11_hunkOf_13 kc_RX11_56 rfl ?_
        refine V_iret dX11_hunkOf_15 rfl ⟨Nat.le_of_ble_eq_true rfl, Nat.le_of_ble_eq_true rfl⟩ ?_
        exact ⟨rfl, _, rfl, rfl, rfl, h, fun _ _ => rfl⟩
end MODEL15
