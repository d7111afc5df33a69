/-! ===== DiagonalTextsModel: doesNext, whole ===== -/
section MODEL12
variable {mi mi1 mi2 mi3 mi4 : MI} {mr : MR} {n m n' m' tl D : Int} {A B A' B' Z T F : Int → Int} {hs hs' : List St} {u : Int × (Int → Int)} {σ : St} {bt : List Int}
theorem RKeep.p {a b : MI} (h : RKeep a b) : PKeep a b := ⟨fun q q1 q2 q3 q4 q5 q6 => h.1 q q1 q4, fun z z1 z2 => h.2 z z1⟩
set_option maxRecDepth 100000 in
set_option maxHeartbeats 1000000 in
theorem c_X11_doesNext {i d : Int} (hG : Gr mr) (hT : MTyp mi (tl, T)) (hR : RowM (mi 63) (n, m, A, B, Z)) (hA : NR n A) (hi : 0 ≤ i ∧ i < tl) (h6 : mi 62 6 = i) (hd : mi 62 24 = d) (hd0 : 0 ≤ d ∧ d ≤ n) (hB : MB mi bt) (hl : bt.length ≤ 28) : C1 yX11_doesNext cX11_doesNext 6 (some .int) 2 SH mi mr [vr 62] (PoN (pstep A T n i d bt) (i + pn T i) mi mr) := by
  have htl := hT.2.2.1
  have rT := hT.2.2.r i
  simp only at htl rT
  have hbr := brk_r hT.2.2 hi.1
  have fail : ∀ (mi2 : MI) (c : Int), RKeep mi2 mi → c = brk T i → brk T i ≠ -1 → PoN (pstep A T n i d bt) (i + pn T i) mi mr (vi 1) (up2 mi2 62 8 c) mr := fun mi2 c hk hc hb => by
    have ep : pstep A T n i d bt = (1, brk T i, d, bt) := by unfold pstep; rw [if_pos hb]
    rw [ep]
    refine ⟨rfl, rfl, fun _ => by rw [up2_ss, hc]; unfold nf; rw [if_neg hb], fun h => absurd h (show ¬ (1 : Int) = 0 by decide), fun q q1 q2 q3 q4 q5 q6 => by rw [up2_sn _ _ _ q3]; exact hk.1 q q1 q4, fun z z1 z2 => by rw [up2_n _ _ _ z1]; exact hk.2 z z1⟩
  have g6 : up2 mi 62 6 (i + 1) 62 6 = i + 1 := up2_ss _ _ _ _
  have gk : RKeep (up2 mi 62 6 (i + 1)) mi := ⟨fun q q1 q2 => by rw [up2_sn _ _ _ q1], fun z z1 => by rw [up2_n _ _ _ z1]⟩
  have rtr : ∀ {a b c : MI}, RKeep a b → RKeep b c → RKeep a c := fun h h' => ⟨fun q q1 q2 => by rw [h.1 q q1 q2, h'.1 q q1 q2], fun z z1 => by rw [h.2 z z1, h'.2 z z1]⟩
  have mid : ∀ (mi2 : MI) (N : Int), RKeep mi2 mi → mi2 62 6 = i + 1 + N → (0 < N ∧ T (i + 1 + N) = 59 → brk T i = -1 ∧ mi2 62 9 = pm T i ∧ i + 1 + N + 1 = i + pn T i) → True := fun _ _ _ _ _ => trivial
  by_cases h43 : T i = 43
  · have hlr := lr_lt hT.2.2 (i := i + 1) (by omega)
    simp only at hlr
    have hbl := brk_let (T := T) (i := i) h43
    have rT2 := hT.2.2.r (i + 1 + lr T (i + 1))
    simp only at rT2
    refine Ct.ofV (ini := false) [some (vr 62), none, none, none, none, none] km_X11_doesNext (by decide) rfl (Nat.le_of_ble_eq_true rfl) ?_
    refine V_aload_n dX11_doesNext_0 rfl ?_
    refine V_geti 6 dX11_doesNext_1 fl_RX11_161 (by first | with_reducible assumption | rfl) rfl rfl ?_
    rw [h6]
    refine S_istore_n (ls' := [_, _, _, _, _, _]) dX11_doesNext_4 ⟨Nat.le_of_ble_eq_true rfl, rfl, rfl⟩ rfl ?_
    refine V_aload_n dX11_doesNext_5 rfl ?_
    refine V_callVP dX11_doesNext_6 ml_RX11_166 km_X11_sign kv_X11_sign (c_X11_sign (a := i) hG hT h6 (by omega)) (by first | with_reducible assumption | rfl) rfl rfl rfl (Nat.le_of_ble_eq_true rfl) ⟨Nat.le_of_ble_eq_true rfl, Nat.le_of_ble_eq_true rfl⟩ ⟨Nat.le_of_ble_eq_true rfl, Nat.le_of_ble_eq_true rfl⟩ ?_
    refine S_istore_n (ls' := [_, _, _, _, _, _]) dX11_doesNext_9 ⟨Nat.le_of_ble_eq_true rfl, rfl, rfl⟩ rfl ?_
    refine V_iload_n dX11_doesNext_10 rfl ?_
    refine V_bipush dX11_doesNext_11 (by decide) ?_
    refine V_icmp_eq 28 dX11_doesNext_13 (by decide) (by omega) (by omega) (fun h13 => absurd h13 ((by omega))) (fun _ => ?_)
    refine V_iload_n dX11_doesNext_16 rfl ?_
    refine V_bipush dX11_doesNext_17 (by decide) ?_
    refine V_icmp_eq 28 dX11_doesNext_19 (by decide) (by omega) (by omega) (fun h19 => absurd h19 ((by omega))) (fun _ => ?_)
    refine V_iload_n dX11_doesNext_22 rfl ?_
    refine V_bipush dX11_doesNext_23 (by decide) ?_
    refine V_icmp_ne 32 dX11_doesNext_25 (by decide) (by omega) (by omega) (fun h25 => absurd h25 ((not_not_intro h43))) (fun _ => ?_)
    refine V_iconst dX11_doesNext_28 ?_
    refine V_goto 33 dX11_doesNext_29 (by decide) ?_
    refine S_istore_n (ls' := [_, _, _, _, _, _]) dX11_doesNext_33 ⟨Nat.le_of_ble_eq_true rfl, rfl, rfl⟩ rfl ?_
    refine V_aload_n dX11_doesNext_34 rfl ?_
    refine V_dup dX11_doesNext_35 rfl ?_
    refine V_geti 6 dX11_doesNext_36 fl_RX11_161 (by first | with_reducible assumption | rfl) rfl rfl ?_
    rw [h6]
    refine V_iload_n dX11_doesNext_39 rfl ?_
    refine V_if_eq 47 dX11_doesNext_40 (by decide) (by omega) (fun h40 => absurd h40 ((by decide))) (fun _ => ?_)
    refine V_iconst dX11_doesNext_43 ?_
    refine V_goto 48 dX11_doesNext_44 (by decide) ?_
    refine V_iadd dX11_doesNext_48 ?_
    refine V_puti 6 dX11_doesNext_49 fl_RX11_161 (by first | with_reducible assumption | rfl) rfl rfl rfl ?_
    refine V_aload_n dX11_doesNext_52 rfl ?_
    refine V_geti 6 dX11_doesNext_53 fl_RX11_161 (by first | with_reducible assumption | rfl) rfl rfl ?_
    rw [g6]
    refine S_istore (ls' := [_, _, _, _, _, _]) dX11_doesNext_56 ⟨Nat.le_of_ble_eq_true rfl, rfl, rfl⟩ rfl ?_
    refine V_iload_n dX11_doesNext_58 rfl ?_
    refine V_if_eq 89 dX11_doesNext_59 (by decide) (by omega) (fun h59 => absurd h59 ((by decide))) (fun _ => ?_)
    refine V_iload_n dX11_doesNext_62 rfl ?_
    refine V_bipush dX11_doesNext_63 (by decide) ?_
    refine V_icmp_ne 78 dX11_doesNext_65 (by decide) (by omega) (by omega) (fun h65 => absurd h65 ((not_not_intro h43))) (fun _ => ?_)
    refine V_aload_n dX11_doesNext_68 rfl ?_
    refine V_callV1 dX11_doesNext_69 ml_RX11_169 km_X11_readsLetters kv_X11_readsLetters (c_X11_readsLetters (a := i + 1) hG (hT.rk gk) g6 (by omega)) (by first | with_reducible assumption | rfl) rfl rfl rfl (Nat.le_of_ble_eq_true rfl) ⟨Nat.le_of_ble_eq_true rfl, Nat.le_of_ble_eq_true rfl⟩ ⟨Nat.le_of_ble_eq_true rfl, Nat.le_of_ble_eq_true rfl⟩ ?_
    rintro v mi2 mr2 ⟨rfl, rfl, k1, k2, k3⟩
    refine V_if_eq 89 dX11_doesNext_72 (by decide) (by split <;> omega) (fun h72 => ?_) (fun h72 => ?_)
    · rw [ifz] at h72
      refine V_iconst dX11_doesNext_89 ?_
      refine S_istore_n (ls' := [_, _, _, _, _, _]) dX11_doesNext_90 ⟨Nat.le_of_ble_eq_true rfl, rfl, rfl⟩ rfl ?_
      refine V_iload_n dX11_doesNext_91 rfl ?_
      refine V_if_eq 104 dX11_doesNext_92 (by decide) (by omega) (fun _ => ?_) (fun h92 => absurd h92 ((by decide)))
      refine V_aload_n dX11_doesNext_104 rfl ?_
      refine V_aload_n dX11_doesNext_105 rfl ?_
      refine V_geti 6 dX11_doesNext_106 fl_RX11_161 (by first | with_reducible assumption | rfl) rfl rfl ?_
      rw [k1]
      refine V_iload_n dX11_doesNext_109 rfl ?_
      refine V_isub dX11_doesNext_110 ?_
      refine V_puti 8 dX11_doesNext_111 fl_RX11_175 (by first | with_reducible assumption | rfl) rfl rfl rfl ?_
      refine V_iconst dX11_doesNext_114 ?_
      refine V_iret dX11_doesNext_115 rfl ⟨Nat.le_of_ble_eq_true rfl, Nat.le_of_ble_eq_true rfl⟩ ?_
      have hb := hbl.2 (fun hc => by omega)
      exact ⟨rfl, _, rfl, fail mi2 _ (rtr k3 gk) (by omega) (by omega)⟩
    · rw [ifz, Decidable.not_not] at h72
      refine V_goto 85 dX11_doesNext_75 (by decide) ?_
      refine V_iconst dX11_doesNext_85 ?_
      refine V_goto 90 dX11_doesNext_86 (by decide) ?_
      refine S_istore_n (ls' := [_, _, _, _, _, _]) dX11_doesNext_90 ⟨Nat.le_of_ble_eq_true rfl, rfl, rfl⟩ rfl ?_
      refine V_iload_n dX11_doesNext_91 rfl ?_
      refine V_if_eq 104 dX11_doesNext_92 (by decide) (by omega) (fun h92 => absurd h92 ((by decide))) (fun _ => ?_)
      refine V_aload_n dX11_doesNext_95 rfl ?_
      refine V_callVP dX11_doesNext_96 ml_RX11_166 km_X11_sign kv_X11_sign (c_X11_sign (a := i + 1 + lr T (i + 1)) hG (hT.rk (rtr k3 gk)) k1 (by omega)) (by first | with_reducible assumption | rfl) rfl rfl rfl (Nat.le_of_ble_eq_true rfl) ⟨Nat.le_of_ble_eq_true rfl, Nat.le_of_ble_eq_true rfl⟩ ⟨Nat.le_of_ble_eq_true rfl, Nat.le_of_ble_eq_true rfl⟩ ?_
      refine V_bipush dX11_doesNext_99 (by decide) ?_
      refine V_icmp_eq 116 dX11_doesNext_101 (by decide) (by omega) (by omega) (fun h101 => ?_) (fun h101 => ?_)
      · obtain ⟨b1, b2, b3⟩ := hbl.1 ⟨by omega, by omega⟩
        exact m_X11_doesNext (o3 := none) hG hT hR hA hi b1 (by omega) rfl (by rw [k2, b2]) (by rw [(rtr k3 gk).1 24 (by decide) (by decide)]; exact hd) hd0 ⟨by rw [(rtr k3 gk).1 23 (by decide) (by decide)]; exact hB.1, by rw [(rtr k3 gk).2 74 (by decide)]; exact hB.2⟩ hl (rtr k3 gk).p
      · refine V_aload_n dX11_doesNext_104 rfl ?_
        refine V_aload_n dX11_doesNext_105 rfl ?_
        refine V_geti 6 dX11_doesNext_106 fl_RX11_161 (by first | with_reducible assumption | rfl) rfl rfl ?_
        rw [k1]
        refine V_iload_n dX11_doesNext_109 rfl ?_
        refine V_isub dX11_doesNext_110 ?_
        refine V_puti 8 dX11_doesNext_111 fl_RX11_175 (by first | with_reducible assumption | rfl) rfl rfl rfl ?_
        refine V_iconst dX11_doesNext_114 ?_
        refine V_iret dX11_doesNext_115 rfl ⟨Nat.le_of_ble_eq_true rfl, Nat.le_of_ble_eq_true rfl⟩ ?_
        have hb := hbl.2 (fun hc => by omega)
        exact ⟨rfl, _, rfl, fail mi2 _ (rtr k3 gk) (by omega) (by omega)⟩
  · by_cases hs : T i = 61 ∨ T i = 45
    · have hbl := brk_num (T := T) (tl := tl) (i := i) hT.2.2 hi.1 hs
      have hdg : 0 ≤ dgn T (i + 1) ∧ dgn T (i + 1) ≤ 2 := by unfold dgn; split <;> (try split) <;> omega
      have rT2 := hT.2.2.r (i + 1 + dgn T (i + 1))
      simp only at rT2
      have tail : V (RX11, cX11_doesNext, 6, rm 2, false, none, (some .int)) (fun r sh' mi' mr' => sh' = SH ∧ ∃ v, r = some v ∧ PoN (pstep A T n i d bt) (i + pn T i) mi mr v mi' mr') 0 0 SH mi mr [some (vr 62), some (vi i), some (vi (T i)), some (vi 1), none, none] [] 34 := by
        refine V_aload_n dX11_doesNext_34 rfl ?_
        refine V_dup dX11_doesNext_35 rfl ?_
        refine V_geti 6 dX11_doesNext_36 fl_RX11_161 (by first | with_reducible assumption | rfl) rfl rfl ?_
        rw [h6]
        refine V_iload_n dX11_doesNext_39 rfl ?_
        refine V_if_eq 47 dX11_doesNext_40 (by decide) (by omega) (fun h40 => absurd h40 ((by decide))) (fun _ => ?_)
        refine V_iconst dX11_doesNext_43 ?_
        refine V_goto 48 dX11_doesNext_44 (by decide) ?_
        refine V_iadd dX11_doesNext_48 ?_
        refine V_puti 6 dX11_doesNext_49 fl_RX11_161 (by first | with_reducible assumption | rfl) rfl rfl rfl ?_
        refine V_aload_n dX11_doesNext_52 rfl ?_
        refine V_geti 6 dX11_doesNext_53 fl_RX11_161 (by first | with_reducible assumption | rfl) rfl rfl ?_
        rw [g6]
        refine S_istore (ls' := [_, _, _, _, _, _]) dX11_doesNext_56 ⟨Nat.le_of_ble_eq_true rfl, rfl, rfl⟩ rfl ?_
        refine V_iload_n dX11_doesNext_58 rfl ?_
        refine V_if_eq 89 dX11_doesNext_59 (by decide) (by omega) (fun h59 => absurd h59 ((by decide))) (fun _ => ?_)
        refine V_iload_n dX11_doesNext_62 rfl ?_
        refine V_bipush dX11_doesNext_63 (by decide) ?_
        refine V_icmp_ne 78 dX11_doesNext_65 (by decide) (by omega) (by omega) (fun _ => ?_) (fun h65 => absurd h65 (h43))
        refine V_aload_n dX11_doesNext_78 rfl ?_
        refine V_callV1 dX11_doesNext_79 ml_RX11_172 km_X11_readsNumber kv_X11_readsNumber (c_X11_readsNumber (a := i + 1) hG (hT.rk gk) g6 (by omega)) (by first | with_reducible assumption | rfl) rfl rfl rfl (Nat.le_of_ble_eq_true rfl) ⟨Nat.le_of_ble_eq_true rfl, Nat.le_of_ble_eq_true rfl⟩ ⟨Nat.le_of_ble_eq_true rfl, Nat.le_of_ble_eq_true rfl⟩ ?_
        rintro v mi2 mr2 ⟨rfl, rfl, k1, k2, k3⟩
        refine V_if_eq 89 dX11_doesNext_82 (by decide) (by split <;> omega) (fun h82 => ?_) (fun h82 => ?_)
        · rw [ifz] at h82
          refine V_iconst dX11_doesNext_89 ?_
          refine S_istore_n (ls' := [_, _, _, _, _, _]) dX11_doesNext_90 ⟨Nat.le_of_ble_eq_true rfl, rfl, rfl⟩ rfl ?_
          refine V_iload_n dX11_doesNext_91 rfl ?_
          refine V_if_eq 104 dX11_doesNext_92 (by decide) (by omega) (fun _ => ?_) (fun h92 => absurd h92 ((by decide)))
          refine V_aload_n dX11_doesNext_104 rfl ?_
          refine V_aload_n dX11_doesNext_105 rfl ?_
          refine V_geti 6 dX11_doesNext_106 fl_RX11_161 (by first | with_reducible assumption | rfl) rfl rfl ?_
          rw [k1]
          refine V_iload_n dX11_doesNext_109 rfl ?_
          refine V_isub dX11_doesNext_110 ?_
          refine V_puti 8 dX11_doesNext_111 fl_RX11_175 (by first | with_reducible assumption | rfl) rfl rfl rfl ?_
          refine V_iconst dX11_doesNext_114 ?_
          refine V_iret dX11_doesNext_115 rfl ⟨Nat.le_of_ble_eq_true rfl, Nat.le_of_ble_eq_true rfl⟩ ?_
          have hb := hbl.2 (fun hc => by omega)
          exact ⟨rfl, _, rfl, fail mi2 _ (rtr k3 gk) (by omega) (by omega)⟩
        · rw [ifz, Decidable.not_not] at h82
          refine V_iconst dX11_doesNext_85 ?_
          refine V_goto 90 dX11_doesNext_86 (by decide) ?_
          refine S_istore_n (ls' := [_, _, _, _, _, _]) dX11_doesNext_90 ⟨Nat.le_of_ble_eq_true rfl, rfl, rfl⟩ rfl ?_
          refine V_iload_n dX11_doesNext_91 rfl ?_
          refine V_if_eq 104 dX11_doesNext_92 (by decide) (by omega) (fun h92 => absurd h92 ((by decide))) (fun _ => ?_)
          refine V_aload_n dX11_doesNext_95 rfl ?_
          refine V_callVP dX11_doesNext_96 ml_RX11_166 km_X11_sign kv_X11_sign (c_X11_sign (a := i + 1 + dgn T (i + 1)) hG (hT.rk (rtr k3 gk)) k1 (by omega)) (by first | with_reducible assumption | rfl) rfl rfl rfl (Nat.le_of_ble_eq_true rfl) ⟨Nat.le_of_ble_eq_true rfl, Nat.le_of_ble_eq_true rfl⟩ ⟨Nat.le_of_ble_eq_true rfl, Nat.le_of_ble_eq_true rfl⟩ ?_
          refine V_bipush dX11_doesNext_99 (by decide) ?_
          refine V_icmp_eq 116 dX11_doesNext_101 (by decide) (by omega) (by omega) (fun h101 => ?_) (fun h101 => ?_)
          · obtain ⟨b1, b2, b3⟩ := hbl.1 ⟨by omega, by omega⟩
            exact m_X11_doesNext (o3 := none) hG hT hR hA hi b1 (by omega) rfl (by rw [k2, b2]) (by rw [(rtr k3 gk).1 24 (by decide) (by decide)]; exact hd) hd0 ⟨by rw [(rtr k3 gk).1 23 (by decide) (by decide)]; exact hB.1, by rw [(rtr k3 gk).2 74 (by decide)]; exact hB.2⟩ hl (rtr k3 gk).p
          · refine V_aload_n dX11_doesNext_104 rfl ?_
            refine V_aload_n dX11_doesNext_105 rfl ?_
            refine V_geti 6 dX11_doesNext_106 fl_RX11_161 (by first | with_reducible assumption | rfl) rfl rfl ?_
            rw [k1]
            refine V_iload_n dX11_doesNext_109 rfl ?_
            refine V_isub dX11_doesNext_110 ?_
            refine V_puti 8 dX11_doesNext_111 fl_RX11_175 (by first | with_reducible assumption | rfl) rfl rfl rfl ?_
            refine V_iconst dX11_doesNext_114 ?_
            refine V_iret dX11_doesNext_115 rfl ⟨Nat.le_of_ble_eq_true rfl, Nat.le_of_ble_eq_true rfl⟩ ?_
            have hb := hbl.2 (fun hc => by omega)
            exact ⟨rfl, _, rfl, fail mi2 _ (rtr k3 gk) (by omega) (by omega)⟩
      refine Ct.ofV (ini := false) [some (vr 62), none, none, none, none, none] km_X11_doesNext (by decide) rfl (Nat.le_of_ble_eq_true rfl) ?_
      refine V_aload_n dX11_doesNext_0 rfl ?_
      refine V_geti 6 dX11_doesNext_1 fl_RX11_161 (by first | with_reducible assumption | rfl) rfl rfl ?_
      rw [h6]
      refine S_istore_n (ls' := [_, _, _, _, _, _]) dX11_doesNext_4 ⟨Nat.le_of_ble_eq_true rfl, rfl, rfl⟩ rfl ?_
      refine V_aload_n dX11_doesNext_5 rfl ?_
      refine V_callVP dX11_doesNext_6 ml_RX11_166 km_X11_sign kv_X11_sign (c_X11_sign (a := i) hG hT h6 (by omega)) (by first | with_reducible assumption | rfl) rfl rfl rfl (Nat.le_of_ble_eq_true rfl) ⟨Nat.le_of_ble_eq_true rfl, Nat.le_of_ble_eq_true rfl⟩ ⟨Nat.le_of_ble_eq_true rfl, Nat.le_of_ble_eq_true rfl⟩ ?_
      refine S_istore_n (ls' := [_, _, _, _, _, _]) dX11_doesNext_9 ⟨Nat.le_of_ble_eq_true rfl, rfl, rfl⟩ rfl ?_
      refine V_iload_n dX11_doesNext_10 rfl ?_
      refine V_bipush dX11_doesNext_11 (by decide) ?_
      refine V_icmp_eq 28 dX11_doesNext_13 (by decide) (by omega) (by omega) (fun h13 => ?_) (fun h13 => ?_)
      · refine V_iconst dX11_doesNext_28 ?_
        refine V_goto 33 dX11_doesNext_29 (by decide) ?_
        refine S_istore_n (ls' := [_, _, _, _, _, _]) dX11_doesNext_33 ⟨Nat.le_of_ble_eq_true rfl, rfl, rfl⟩ rfl ?_
        exact tail
      · refine V_iload_n dX11_doesNext_16 rfl ?_
        refine V_bipush dX11_doesNext_17 (by decide) ?_
        refine V_icmp_eq 28 dX11_doesNext_19 (by decide) (by omega) (by omega) (fun h19 => ?_) (fun h19 => ?_)
        · refine V_iconst dX11_doesNext_28 ?_
          refine V_goto 33 dX11_doesNext_29 (by decide) ?_
          refine S_istore_n (ls' := [_, _, _, _, _, _]) dX11_doesNext_33 ⟨Nat.le_of_ble_eq_true rfl, rfl, rfl⟩ rfl ?_
          exact tail
        · refine V_iload_n dX11_doesNext_22 rfl ?_
          refine V_bipush dX11_doesNext_23 (by decide) ?_
          refine V_icmp_ne 32 dX11_doesNext_25 (by decide) (by omega) (by omega) (fun h25 => ?_) (fun h25 => ?_)
          · exact absurd hs (by omega)
          · refine V_iconst dX11_doesNext_28 ?_
            refine V_goto 33 dX11_doesNext_29 (by decide) ?_
            refine S_istore_n (ls' := [_, _, _, _, _, _]) dX11_doesNext_33 ⟨Nat.le_of_ble_eq_true rfl, rfl, rfl⟩ rfl ?_
            exact tail
    · have hb : brk T i = 0 := by unfold brk; rw [if_neg h43, if_neg hs]
      have gk0 : RKeep (up2 mi 62 6 (i + 0)) mi := ⟨fun q q1 q2 => by rw [up2_sn _ _ _ q1], fun z z1 => by rw [up2_n _ _ _ z1]⟩
      have g60 : up2 mi 62 6 (i + 0) 62 6 = i + 0 := up2_ss _ _ _ _
      refine Ct.ofV (ini := false) [some (vr 62), none, none, none, none, none] km_X11_doesNext (by decide) rfl (Nat.le_of_ble_eq_true rfl) ?_
      refine V_aload_n dX11_doesNext_0 rfl ?_
      refine V_geti 6 dX11_doesNext_1 fl_RX11_161 (by first | with_reducible assumption | rfl) rfl rfl ?_
      rw [h6]
      refine S_istore_n (ls' := [_, _, _, _, _, _]) dX11_doesNext_4 ⟨Nat.le_of_ble_eq_true rfl, rfl, rfl⟩ rfl ?_
      refine V_aload_n dX11_doesNext_5 rfl ?_
      refine V_callVP dX11_doesNext_6 ml_RX11_166 km_X11_sign kv_X11_sign (c_X11_sign (a := i) hG hT h6 (by omega)) (by first | with_reducible assumption | rfl) rfl rfl rfl (Nat.le_of_ble_eq_true rfl) ⟨Nat.le_of_ble_eq_true rfl, Nat.le_of_ble_eq_true rfl⟩ ⟨Nat.le_of_ble_eq_true rfl, Nat.le_of_ble_eq_true rfl⟩ ?_
      refine S_istore_n (ls' := [_, _, _, _, _, _]) dX11_doesNext_9 ⟨Nat.le_of_ble_eq_true rfl, rfl, rfl⟩ rfl ?_
      refine V_iload_n dX11_doesNext_10 rfl ?_
      refine V_bipush dX11_doesNext_11 (by decide) ?_
      refine V_icmp_eq 28 dX11_doesNext_13 (by decide) (by omega) (by omega) (fun h13 => absurd h13 ((by omega))) (fun _ => ?_)
      refine V_iload_n dX11_doesNext_16 rfl ?_
      refine V_bipush dX11_doesNext_17 (by decide) ?_
      refine V_icmp_eq 28 dX11_doesNext_19 (by decide) (by omega) (by omega) (fun h19 => absurd h19 ((by omega))) (fun _ => ?_)
      refine V_iload_n dX11_doesNext_22 rfl ?_
      refine V_bipush dX11_doesNext_23 (by decide) ?_
      refine V_icmp_ne 32 dX11_doesNext_25 (by decide) (by omega) (by omega) (fun _ => ?_) (fun h25 => absurd h25 (h43))
      refine V_iconst dX11_doesNext_32 ?_
      refine S_istore_n (ls' := [_, _, _, _, _, _]) dX11_doesNext_33 ⟨Nat.le_of_ble_eq_true rfl, rfl, rfl⟩ rfl ?_
      refine V_aload_n dX11_doesNext_34 rfl ?_
      refine V_dup dX11_doesNext_35 rfl ?_
      refine V_geti 6 dX11_doesNext_36 fl_RX11_161 (by first | with_reducible assumption | rfl) rfl rfl ?_
      rw [h6]
      refine V_iload_n dX11_doesNext_39 rfl ?_
      refine V_if_eq 47 dX11_doesNext_40 (by decide) (by omega) (fun _ => ?_) (fun h40 => absurd h40 ((by decide)))
      refine V_iconst dX11_doesNext_47 ?_
      refine V_iadd dX11_doesNext_48 ?_
      refine V_puti 6 dX11_doesNext_49 fl_RX11_161 (by first | with_reducible assumption | rfl) rfl rfl rfl ?_
      refine V_aload_n dX11_doesNext_52 rfl ?_
      refine V_geti 6 dX11_doesNext_53 fl_RX11_161 (by first | with_reducible assumption | rfl) rfl rfl ?_
      rw [g60]
      refine S_istore (ls' := [_, _, _, _, _, _]) dX11_doesNext_56 ⟨Nat.le_of_ble_eq_true rfl, rfl, rfl⟩ rfl ?_
      refine V_iload_n dX11_doesNext_58 rfl ?_
      refine V_if_eq 89 dX11_doesNext_59 (by decide) (by omega) (fun _ => ?_) (fun h59 => absurd h59 ((by decide)))
      refine V_iconst dX11_doesNext_89 ?_
      refine S_istore_n (ls' := [_, _, _, _, _, _]) dX11_doesNext_90 ⟨Nat.le_of_ble_eq_true rfl, rfl, rfl⟩ rfl ?_
      refine V_iload_n dX11_doesNext_91 rfl ?_
      refine V_if_eq 104 dX11_doesNext_92 (by decide) (by omega) (fun _ => ?_) (fun h92 => absurd h92 ((by decide)))
      refine V_aload_n dX11_doesNext_104 rfl ?_
      refine V_aload_n dX11_doesNext_105 rfl ?_
      refine V_geti 6 dX11_doesNext_106 fl_RX11_161 (by first | with_reducible assumption | rfl) rfl rfl ?_
      rw [g60]
      refine V_iload_n dX11_doesNext_109 rfl ?_
      refine V_isub dX11_doesNext_110 ?_
      refine V_puti 8 dX11_doesNext_111 fl_RX11_175 (by first | with_reducible assumption | rfl) rfl rfl rfl ?_
      refine V_iconst dX11_doesNext_114 ?_
      refine V_iret dX11_doesNext_115 rfl ⟨Nat.le_of_ble_eq_true rfl, Nat.le_of_ble_eq_true rfl⟩ ?_
      exact ⟨rfl, _, rfl, fail _ _ gk0 (by omega) (by omega)⟩
end MODEL12
