/-! ===== DiagonalTextsModel: reading a typed text ===== -/
section MODEL9
variable {mi mi1 mi2 mi3 mi4 : MI} {mr : MR} {n m n' m' tl D : Int} {A B A' B' Z T F : Int → Int} {hs hs' : List St} {u : Int × (Int → Int)} {σ : St}
/-- what reading leaves alone: all but the place and the number -/
def RKeep (mi' mi : MI) : Prop := (∀ q, q ≠ 6 → q ≠ 9 → mi' 62 q = mi 62 q) ∧ ∀ z, z ≠ 62 → mi' z = mi z
theorem MTyp.rk (h : MTyp mi u) (hk : RKeep mi1 mi) : MTyp mi1 u := h.keep (hk.1 5 (by decide) (by decide)) (hk.2 66 (by decide))
set_option maxRecDepth 100000 in
theorem c_X11_sign {a : Int} (hG : Gr mr) (hT : MTyp mi (tl, T)) (h1 : mi 62 6 = a) (ha : 0 ≤ a ∧ a ≤ 1000) : CP yX11_sign cX11_sign 1 (some .int) 0 SH mi mr [vr 62] (vi (T a)) := by
  have hl := hT.1
  have htl := hT.2.2.1
  simp only at hl htl
  refine Ct.ofV (ini := false) [some (vr 62)] km_X11_sign (by decide) rfl (Nat.le_of_ble_eq_true rfl) ?_
  refine V_aload_n dX11_sign_0 rfl ?_
  refine V_geti 6 dX11_sign_1 fl_RX11_161 (by first | with_reducible assumption | rfl) rfl rfl ?_
  rw [h1]
  refine V_aload_n dX11_sign_4 rfl ?_
  refine V_geti 5 dX11_sign_5 fl_RX11_158 (by first | with_reducible assumption | rfl) rfl rfl ?_
  rw [hl]
  refine V_icmp_ge 23 dX11_sign_8 (by decide) (by omega) (by omega) (fun h8 => ?_) (fun h8 => ?_)
  · have e : T a = -1 := hT.2.2.2.2 a (by simp only; omega)
    refine V_iconst dX11_sign_23 ?_
    refine V_iret dX11_sign_24 rfl ⟨Nat.le_of_ble_eq_true rfl, Nat.le_of_ble_eq_true rfl⟩ ?_
    first | exact ⟨rfl, rfl, rfl, rfl⟩ | exact ⟨rfl, svi (by omega), rfl, rfl⟩
  · refine V_aload_n dX11_sign_11 rfl ?_
    refine V_getr 4 _ dX11_sign_12 fl_RX11_19 (by first | with_reducible assumption | rfl) rfl rfl (by exact (hG.at rfl : mr 62 4 = some 66)) ?_
    refine V_aload_n dX11_sign_15 rfl ?_
    refine V_geti 6 dX11_sign_16 fl_RX11_161 (by first | with_reducible assumption | rfl) rfl rfl ?_
    rw [h1]
    refine V_cald dX11_sign_19 (by first | with_reducible assumption | rfl) (by decide) (by omega) ?_
    rw [hT.2.1 a ha.1 (by simp only; omega)]
    refine V_goto 24 dX11_sign_20 (by decide) ?_
    refine V_iret dX11_sign_24 rfl ⟨Nat.le_of_ble_eq_true rfl, Nat.le_of_ble_eq_true rfl⟩ ?_
    first | exact ⟨rfl, rfl, rfl, rfl⟩ | exact ⟨rfl, svi (by omega), rfl, rfl⟩
set_option maxRecDepth 100000 in
set_option maxHeartbeats 1000000 in
theorem c_X11_readsLetters {a : Int} (hG : Gr mr) (hT : MTyp mi (tl, T)) (h1 : mi 62 6 = a) (ha : 1 ≤ a ∧ a ≤ 100) : C1 yX11_readsLetters cX11_readsLetters 2 (some .boolean) 1 SH mi mr [vr 62] (fun v mi' mr' => v = vi (if 0 < lr T a then 1 else 0) ∧ mr' = mr ∧ mi' 62 6 = a + lr T a ∧ mi' 62 9 = lr T a ∧ RKeep mi' mi) := by
  have hlr := lr_lt hT.2.2 (i := a) (by omega)
  simp only at hlr
  have loop : ∀ (t : Nat) (j : Int) (mi' : MI), j + t = 60 → 0 ≤ j → lr T a = j + lrun T t (a + j) → mi' 62 6 = a + j → RKeep mi' mi → V (RX11, cX11_readsLetters, 2, rm 1, false, none, (some .boolean)) (fun r sh' mi' mr' => sh' = SH ∧ ∃ v, r = some v ∧ v = vi (if 0 < lr T a then 1 else 0) ∧ mr' = mr ∧ mi' 62 6 = a + lr T a ∧ mi' 62 9 = lr T a ∧ RKeep mi' mi) 0 0 SH mi' mr [some (vr 62), some (vi a)] [] 5 := by
    intro t
    induction t with
    | zero =>
      intro j mi' g1 g2 g3 g4 g5
      simp only [lrun] at g3
      omega
    | succ t ih =>
      intro j mi' g1 g2 g3 g4 g5
      simp only [lrun] at g3
      have rT := hT.2.2.r (a + j)
      simp only at rT
      refine V_aload_n dX11_readsLetters_5 rfl ?_
      refine V_callVP dX11_readsLetters_6 ml_RX11_166 km_X11_sign kv_X11_sign (c_X11_sign (a := a + j) hG (hT.rk g5) g4 (by omega)) (by first | with_reducible assumption | rfl) rfl rfl rfl (Nat.le_of_ble_eq_true rfl) ⟨Nat.le_of_ble_eq_true rfl, Nat.le_of_ble_eq_true rfl⟩ ⟨Nat.le_of_ble_eq_true rfl, Nat.le_of_ble_eq_true rfl⟩ ?_
      refine V_bipush dX11_readsLetters_9 (by decide) ?_
      refine V_bipush dX11_readsLetters_11 (by decide) ?_
      refine V_callSP dX11_readsLetters_13 ml_RX11_48 km_X11_in ks_X11_in (c_X11_in (v := T (a + j)) (a := 97) (b := 104) (by omega) (by omega) (by omega)) rfl rfl (Nat.le_of_ble_eq_true rfl) ⟨Nat.le_of_ble_eq_true rfl, Nat.le_of_ble_eq_true rfl⟩ ⟨Nat.le_of_ble_eq_true rfl, Nat.le_of_ble_eq_true rfl⟩ ?_
      refine V_if_eq 32 dX11_readsLetters_16 (by decide) (by split <;> omega) (fun h16 => ?_) (fun h16 => ?_)
      · rw [ifz] at h16
        rw [if_neg h16] at g3
        have ej : j = lr T a := by omega
        subst ej
        refine V_aload_n dX11_readsLetters_32 rfl ?_
        refine V_aload_n dX11_readsLetters_33 rfl ?_
        refine V_geti 6 dX11_readsLetters_34 fl_RX11_161 (by first | with_reducible assumption | rfl) rfl rfl ?_
        rw [g4]
        refine V_iload_n dX11_readsLetters_37 rfl ?_
        refine V_isub dX11_readsLetters_38 ?_
        rw [show a + lr T a - a = lr T a by omega]
        refine V_puti 9 dX11_readsLetters_39 fl_RX11_164 (by first | with_reducible assumption | rfl) rfl rfl rfl ?_
        refine V_aload_n dX11_readsLetters_42 rfl ?_
        refine V_geti 9 dX11_readsLetters_43 fl_RX11_164 (by first | with_reducible assumption | rfl) rfl rfl ?_
        rw [up2_ss]
        refine V_if_le 53 dX11_readsLetters_46 (by decide) (by omega) (fun h46 => ?_) (fun h46 => ?_)
        · refine V_iconst dX11_readsLetters_53 ?_
          refine V_zret dX11_readsLetters_54 rfl ⟨Nat.le_of_ble_eq_true rfl, Nat.le_of_ble_eq_true rfl⟩ (by first | exact Or.inl rfl | exact Or.inr rfl | omega) ?_
          refine ⟨rfl, _, rfl, by first | rw [if_pos (by omega)] | rw [if_neg (by omega)], rfl, by rw [up2_sn _ _ _ (by decide)]; exact g4, ?_, fun q q1 q2 => by rw [up2_sn _ _ _ q2]; exact g5.1 q q1 q2, fun z z1 => by rw [up2_n _ _ _ z1]; exact g5.2 z z1⟩
          first | exact up2_ss _ _ _ _ | (rw [up2_ss]; omega)
        · refine V_iconst dX11_readsLetters_49 ?_
          refine V_goto 54 dX11_readsLetters_50 (by decide) ?_
          refine V_zret dX11_readsLetters_54 rfl ⟨Nat.le_of_ble_eq_true rfl, Nat.le_of_ble_eq_true rfl⟩ (by first | exact Or.inl rfl | exact Or.inr rfl | omega) ?_
          refine ⟨rfl, _, rfl, by first | rw [if_pos (by omega)] | rw [if_neg (by omega)], rfl, by rw [up2_sn _ _ _ (by decide)]; exact g4, ?_, fun q q1 q2 => by rw [up2_sn _ _ _ q2]; exact g5.1 q q1 q2, fun z z1 => by rw [up2_n _ _ _ z1]; exact g5.2 z z1⟩
          first | exact up2_ss _ _ _ _ | (rw [up2_ss]; omega)
      · rw [ifz, Decidable.not_not] at h16
        rw [if_pos h16] at g3
        refine V_aload_n dX11_readsLetters_19 rfl ?_
        refine V_dup dX11_readsLetters_20 rfl ?_
        refine V_geti 6 dX11_readsLetters_21 fl_RX11_161 (by first | with_reducible assumption | rfl) rfl rfl ?_
        rw [g4]
        refine V_iconst dX11_readsLetters_24 ?_
        refine V_iadd dX11_readsLetters_25 ?_
        refine V_puti 6 dX11_readsLetters_26 fl_RX11_161 (by first | with_reducible assumption | rfl) rfl rfl rfl ?_
        refine V_goto 5 dX11_readsLetters_29 (by decide) ?_
        exact ih (j + 1) _ (by omega) (by omega) (by rw [show a + (j + 1) = a + j + 1 by omega]; omega) (by rw [up2_ss]; omega) ⟨fun q q1 q2 => by rw [up2_sn _ _ _ q1]; exact g5.1 q q1 q2, fun z z1 => by rw [up2_n _ _ _ z1]; exact g5.2 z z1⟩
  refine Ct.ofV (ini := false) [some (vr 62), none] km_X11_readsLetters (by decide) rfl (Nat.le_of_ble_eq_true rfl) ?_
  refine V_aload_n dX11_readsLetters_0 rfl ?_
  refine V_geti 6 dX11_readsLetters_1 fl_RX11_161 (by first | with_reducible assumption | rfl) rfl rfl ?_
  rw [h1]
  refine S_istore_n (ls' := [_, _]) dX11_readsLetters_4 ⟨Nat.le_of_ble_eq_true rfl, rfl, rfl⟩ rfl ?_
  exact loop 60 0 mi (by omega) (by omega) (by simp [lr]) (by rw [h1]; omega) ⟨fun _ _ _ => rfl, fun _ _ => rfl⟩
/-- how many digits a number has; the number -/
def dgn (T : Int → Int) (a : Int) : Int := if 49 ≤ T a ∧ T a ≤ 57 then (if 48 ≤ T (a + 1) ∧ T (a + 1) ≤ 57 then 2 else 1) else 0
def dgv (T : Int → Int) (a : Int) : Int := if 49 ≤ T a ∧ T a ≤ 57 then (if 48 ≤ T (a + 1) ∧ T (a + 1) ≤ 57 then 10 * (T a - 48) + T (a + 1) - 48 else T a - 48) else 0
set_option maxRecDepth 100000 in
set_option maxHeartbeats 1000000 in
theorem c_X11_readsNumber {a : Int} (hG : Gr mr) (hT : MTyp mi (tl, T)) (h1 : mi 62 6 = a) (ha : 1 ≤ a ∧ a ≤ 100) : C1 yX11_readsNumber cX11_readsNumber 2 (some .boolean) 1 SH mi mr [vr 62] (fun v mi' mr' => v = vi (if 0 < dgn T a then 1 else 0) ∧ mr' = mr ∧ mi' 62 6 = a + dgn T a ∧ mi' 62 9 = dgv T a ∧ RKeep mi' mi) := by
  have r0 := hT.2.2.r a
  have r1 := hT.2.2.r (a + 1)
  have r2 := hT.2.2.r (a + 2)
  simp only at r0 r1 r2
  have hd : 0 ≤ dgn T a ∧ dgn T a ≤ 2 := by unfold dgn; split <;> (try split) <;> omega
  have fin : ∀ (mi' : MI), mi' 62 6 = a + dgn T a → mi' 62 9 = dgv T a → RKeep mi' mi → V (RX11, cX11_readsNumber, 2, rm 1, false, none, (some .boolean)) (fun r sh' mi' mr' => sh' = SH ∧ ∃ v, r = some v ∧ v = vi (if 0 < dgn T a then 1 else 0) ∧ mr' = mr ∧ mi' 62 6 = a + dgn T a ∧ mi' 62 9 = dgv T a ∧ RKeep mi' mi) 0 0 SH mi' mr [some (vr 62), some (vi a)] [] 79 := by
    intro mi' g1 g2 g3
    refine V_aload_n dX11_readsNumber_79 rfl ?_
    refine V_geti 6 dX11_readsNumber_80 fl_RX11_161 (by first | with_reducible assumption | rfl) rfl rfl ?_
    rw [g1]
    refine V_iload_n dX11_readsNumber_83 rfl ?_
    refine V_icmp_le 91 dX11_readsNumber_84 (by decide) (by omega) (by omega) (fun h84 => ?_) (fun h84 => ?_)
    · refine V_iconst dX11_readsNumber_91 ?_
      refine V_zret dX11_readsNumber_92 rfl ⟨Nat.le_of_ble_eq_true rfl, Nat.le_of_ble_eq_true rfl⟩ (by first | exact Or.inl rfl | exact Or.inr rfl | omega) ?_
      exact ⟨rfl, _, rfl, by first | rw [if_pos (by omega)] | rw [if_neg (by omega)], rfl, g1, g2, g3⟩
    · refine V_iconst dX11_readsNumber_87 ?_
      refine V_goto 92 dX11_readsNumber_88 (by decide) ?_
      refine V_zret dX11_readsNumber_92 rfl ⟨Nat.le_of_ble_eq_true rfl, Nat.le_of_ble_eq_true rfl⟩ (by first | exact Or.inl rfl | exact Or.inr rfl | omega) ?_
      exact ⟨rfl, _, rfl, by first | rw [if_pos (by omega)] | rw [if_neg (by omega)], rfl, g1, g2, g3⟩
  have s2 : ∀ (mi' : MI), dgn T a = 2 → mi' 62 6 = a + 2 → mi' 62 9 = dgv T a → RKeep mi' mi → V (RX11, cX11_readsNumber, 2, rm 1, false, none, (some .boolean)) (fun r sh' mi' mr' => sh' = SH ∧ ∃ v, r = some v ∧ v = vi (if 0 < dgn T a then 1 else 0) ∧ mr' = mr ∧ mi' 62 6 = a + dgn T a ∧ mi' 62 9 = dgv T a ∧ RKeep mi' mi) 0 0 SH mi' mr [some (vr 62), some (vi a)] [] 10 := by
    intro mi' g0 g1 g2 g3
    refine V_aload_n dX11_readsNumber_10 rfl ?_
    refine V_callVP dX11_readsNumber_11 ml_RX11_166 km_X11_sign kv_X11_sign (c_X11_sign (a := a + 2) hG (hT.rk g3) g1 (by omega)) (by first | with_reducible assumption | rfl) rfl rfl rfl (Nat.le_of_ble_eq_true rfl) ⟨Nat.le_of_ble_eq_true rfl, Nat.le_of_ble_eq_true rfl⟩ ⟨Nat.le_of_ble_eq_true rfl, Nat.le_of_ble_eq_true rfl⟩ ?_
    refine V_aload_n dX11_readsNumber_14 rfl ?_
    refine V_geti 6 dX11_readsNumber_15 fl_RX11_161 (by first | with_reducible assumption | rfl) rfl rfl ?_
    rw [g1]
    refine V_iload_n dX11_readsNumber_18 rfl ?_
    refine V_icmp_ne 27 dX11_readsNumber_19 (by decide) (by omega) (by omega) (fun _ => ?_) (fun h19 => absurd h19 ((by omega)))
    refine V_bipush dX11_readsNumber_27 (by decide) ?_
    refine V_bipush dX11_readsNumber_29 (by decide) ?_
    refine V_callSP dX11_readsNumber_31 ml_RX11_48 km_X11_in ks_X11_in (c_X11_in (v := T (a + 2)) (a := 48) (b := 57) (by omega) (by omega) (by omega)) rfl rfl (Nat.le_of_ble_eq_true rfl) ⟨Nat.le_of_ble_eq_true rfl, Nat.le_of_ble_eq_true rfl⟩ ⟨Nat.le_of_ble_eq_true rfl, Nat.le_of_ble_eq_true rfl⟩ ?_
    refine V_if_eq 79 dX11_readsNumber_34 (by decide) (by split <;> omega) (fun h34 => ?_) (fun h34 => ?_)
    · exact fin mi' (by rw [g0]; exact g1) g2 g3
    · refine V_aload_n dX11_readsNumber_37 rfl ?_
      refine V_geti 6 dX11_readsNumber_38 fl_RX11_161 (by first | with_reducible assumption | rfl) rfl rfl ?_
      rw [g1]
      refine V_iload_n dX11_readsNumber_41 rfl ?_
      refine V_iconst dX11_readsNumber_42 ?_
      refine V_iadd dX11_readsNumber_43 ?_
      refine V_icmp_ge 79 dX11_readsNumber_44 (by decide) (by omega) (by omega) (fun _ => ?_) (fun h44 => absurd h44 ((by omega)))
      exact fin mi' (by rw [g0]; exact g1) g2 g3
  have s1 : ∀ (mi' : MI), (49 ≤ T a ∧ T a ≤ 57) → mi' 62 6 = a + 1 → mi' 62 9 = T a - 48 → RKeep mi' mi → V (RX11, cX11_readsNumber, 2, rm 1, false, none, (some .boolean)) (fun r sh' mi' mr' => sh' = SH ∧ ∃ v, r = some v ∧ v = vi (if 0 < dgn T a then 1 else 0) ∧ mr' = mr ∧ mi' 62 6 = a + dgn T a ∧ mi' 62 9 = dgv T a ∧ RKeep mi' mi) 0 0 SH mi' mr [some (vr 62), some (vi a)] [] 10 := by
    intro mi' g0 g1 g2 g3
    refine V_aload_n dX11_readsNumber_10 rfl ?_
    refine V_callVP dX11_readsNumber_11 ml_RX11_166 km_X11_sign kv_X11_sign (c_X11_sign (a := a + 1) hG (hT.rk g3) g1 (by omega)) (by first | with_reducible assumption | rfl) rfl rfl rfl (Nat.le_of_ble_eq_true rfl) ⟨Nat.le_of_ble_eq_true rfl, Nat.le_of_ble_eq_true rfl⟩ ⟨Nat.le_of_ble_eq_true rfl, Nat.le_of_ble_eq_true rfl⟩ ?_
    refine V_aload_n dX11_readsNumber_14 rfl ?_
    refine V_geti 6 dX11_readsNumber_15 fl_RX11_161 (by first | with_reducible assumption | rfl) rfl rfl ?_
    rw [g1]
    refine V_iload_n dX11_readsNumber_18 rfl ?_
    refine V_icmp_ne 27 dX11_readsNumber_19 (by decide) (by omega) (by omega) (fun _ => ?_) (fun h19 => absurd h19 ((by omega)))
    refine V_bipush dX11_readsNumber_27 (by decide) ?_
    refine V_bipush dX11_readsNumber_29 (by decide) ?_
    refine V_callSP dX11_readsNumber_31 ml_RX11_48 km_X11_in ks_X11_in (c_X11_in (v := T (a + 1)) (a := 48) (b := 57) (by omega) (by omega) (by omega)) rfl rfl (Nat.le_of_ble_eq_true rfl) ⟨Nat.le_of_ble_eq_true rfl, Nat.le_of_ble_eq_true rfl⟩ ⟨Nat.le_of_ble_eq_true rfl, Nat.le_of_ble_eq_true rfl⟩ ?_
    refine V_if_eq 79 dX11_readsNumber_34 (by decide) (by split <;> omega) (fun h34 => ?_) (fun h34 => ?_)
    · rw [ifz] at h34
      have e1 : dgn T a = 1 := by unfold dgn; rw [if_pos g0, if_neg h34]
      have e2 : dgv T a = T a - 48 := by unfold dgv; rw [if_pos g0, if_neg h34]
      exact fin mi' (by rw [e1]; exact g1) (by rw [e2]; exact g2) g3
    · rw [ifz, Decidable.not_not] at h34
      have e1 : dgn T a = 2 := by unfold dgn; rw [if_pos g0, if_pos h34]
      have e2 : dgv T a = 10 * (T a - 48) + T (a + 1) - 48 := by unfold dgv; rw [if_pos g0, if_pos h34]
      refine V_aload_n dX11_readsNumber_37 rfl ?_
      refine V_geti 6 dX11_readsNumber_38 fl_RX11_161 (by first | with_reducible assumption | rfl) rfl rfl ?_
      rw [g1]
      refine V_iload_n dX11_readsNumber_41 rfl ?_
      refine V_iconst dX11_readsNumber_42 ?_
      refine V_iadd dX11_readsNumber_43 ?_
      refine V_icmp_ge 79 dX11_readsNumber_44 (by decide) (by omega) (by omega) (fun h44 => absurd h44 ((by omega))) (fun _ => ?_)
      refine V_aload_n dX11_readsNumber_47 rfl ?_
      refine V_bipush dX11_readsNumber_48 (by decide) ?_
      refine V_aload_n dX11_readsNumber_50 rfl ?_
      refine V_geti 9 dX11_readsNumber_51 fl_RX11_164 (by first | with_reducible assumption | rfl) rfl rfl ?_
      rw [g2]
      refine V_imul dX11_readsNumber_54 ?_
      refine V_aload_n dX11_readsNumber_55 rfl ?_
      refine V_callVP dX11_readsNumber_56 ml_RX11_166 km_X11_sign kv_X11_sign (c_X11_sign (a := a + 1) hG (hT.rk g3) g1 (by omega)) (by first | with_reducible assumption | rfl) rfl rfl rfl (Nat.le_of_ble_eq_true rfl) ⟨Nat.le_of_ble_eq_true rfl, Nat.le_of_ble_eq_true rfl⟩ ⟨Nat.le_of_ble_eq_true rfl, Nat.le_of_ble_eq_true rfl⟩ ?_
      refine V_iadd dX11_readsNumber_59 ?_
      refine V_bipush dX11_readsNumber_60 (by decide) ?_
      refine V_isub dX11_readsNumber_62 ?_
      refine V_puti 9 dX11_readsNumber_63 fl_RX11_164 (by first | with_reducible assumption | rfl) rfl rfl rfl ?_
      refine V_aload_n dX11_readsNumber_66 rfl ?_
      refine V_dup dX11_readsNumber_67 rfl ?_
      refine V_geti 6 dX11_readsNumber_68 fl_RX11_161 (by first | with_reducible assumption | rfl) rfl rfl ?_
      rw [up2_sn _ _ _ (by decide), g1]
      refine V_iconst dX11_readsNumber_71 ?_
      refine V_iadd dX11_readsNumber_72 ?_
      refine V_puti 6 dX11_readsNumber_73 fl_RX11_161 (by first | with_reducible assumption | rfl) rfl rfl rfl ?_
      refine V_goto 10 dX11_readsNumber_76 (by decide) ?_
      exact s2 _ e1 (by rw [up2_ss]; omega) (by rw [up2_sn _ _ _ (by decide), up2_ss, e2]) ⟨fun q q1 q2 => by rw [up2_sn _ _ _ q1, up2_sn _ _ _ q2]; exact g3.1 q q1 q2, fun z z1 => by rw [up2_n _ _ _ z1, up2_n _ _ _ z1]; exact g3.2 z z1⟩
  have g3 : RKeep (up2 mi 62 9 0) mi := ⟨fun q q1 q2 => by rw [up2_sn _ _ _ q2], fun z z1 => by rw [up2_n _ _ _ z1]⟩
  have g1 : up2 mi 62 9 0 62 6 = a := by rw [up2_sn _ _ _ (by decide)]; exact h1
  refine Ct.ofV (ini := false) [some (vr 62), none] km_X11_readsNumber (by decide) rfl (Nat.le_of_ble_eq_true rfl) ?_
  refine V_aload_n dX11_readsNumber_0 rfl ?_
  refine V_iconst dX11_readsNumber_1 ?_
  refine V_puti 9 dX11_readsNumber_2 fl_RX11_164 (by first | with_reducible assumption | rfl) rfl rfl rfl ?_
  refine V_aload_n dX11_readsNumber_5 rfl ?_
  refine V_geti 6 dX11_readsNumber_6 fl_RX11_161 (by first | with_reducible assumption | rfl) rfl rfl ?_
  rw [g1]
  refine S_istore_n (ls' := [_, _]) dX11_readsNumber_9 ⟨Nat.le_of_ble_eq_true rfl, rfl, rfl⟩ rfl ?_
  refine V_aload_n dX11_readsNumber_10 rfl ?_
  refine V_callVP dX11_readsNumber_11 ml_RX11_166 km_X11_sign kv_X11_sign (c_X11_sign (a := a) hG (hT.rk g3) g1 (by omega)) (by first | with_reducible assumption | rfl) rfl rfl rfl (Nat.le_of_ble_eq_true rfl) ⟨Nat.le_of_ble_eq_true rfl, Nat.le_of_ble_eq_true rfl⟩ ⟨Nat.le_of_ble_eq_true rfl, Nat.le_of_ble_eq_true rfl⟩ ?_
  refine V_aload_n dX11_readsNumber_14 rfl ?_
  refine V_geti 6 dX11_readsNumber_15 fl_RX11_161 (by first | with_reducible assumption | rfl) rfl rfl ?_
  rw [g1]
  refine V_iload_n dX11_readsNumber_18 rfl ?_
  refine V_icmp_ne 27 dX11_readsNumber_19 (by decide) (by omega) (by omega) (fun h19 => absurd h19 ((not_not_intro rfl))) (fun _ => ?_)
  refine V_bipush dX11_readsNumber_22 (by decide) ?_
  refine V_goto 29 dX11_readsNumber_24 (by decide) ?_
  refine V_bipush dX11_readsNumber_29 (by decide) ?_
  refine V_callSP dX11_readsNumber_31 ml_RX11_48 km_X11_in ks_X11_in (c_X11_in (v := T a) (a := 49) (b := 57) (by omega) (by omega) (by omega)) rfl rfl (Nat.le_of_ble_eq_true rfl) ⟨Nat.le_of_ble_eq_true rfl, Nat.le_of_ble_eq_true rfl⟩ ⟨Nat.le_of_ble_eq_true rfl, Nat.le_of_ble_eq_true rfl⟩ ?_
  refine V_if_eq 79 dX11_readsNumber_34 (by decide) (by split <;> omega) (fun h34 => ?_) (fun h34 => ?_)
  · rw [ifz] at h34
    have e1 : dgn T a = 0 := by unfold dgn; rw [if_neg h34]
    have e2 : dgv T a = 0 := by unfold dgv; rw [if_neg h34]
    exact fin _ (by rw [e1, g1]; omega) (by rw [e2, up2_ss]) g3
  · rw [ifz, Decidable.not_not] at h34
    refine V_aload_n dX11_readsNumber_37 rfl ?_
    refine V_geti 6 dX11_readsNumber_38 fl_RX11_161 (by first | with_reducible assumption | rfl) rfl rfl ?_
    rw [g1]
    refine V_iload_n dX11_readsNumber_41 rfl ?_
    refine V_iconst dX11_readsNumber_42 ?_
    refine V_iadd dX11_readsNumber_43 ?_
    refine V_icmp_ge 79 dX11_readsNumber_44 (by decide) (by omega) (by omega) (fun h44 => absurd h44 ((by omega))) (fun _ => ?_)
    refine V_aload_n dX11_readsNumber_47 rfl ?_
    refine V_bipush dX11_readsNumber_48 (by decide) ?_
    refine V_aload_n dX11_readsNumber_50 rfl ?_
    refine V_geti 9 dX11_readsNumber_51 fl_RX11_164 (by first | with_reducible assumption | rfl) rfl rfl ?_
    rw [up2_ss]
    refine V_imul dX11_readsNumber_54 ?_
    refine V_aload_n dX11_readsNumber_55 rfl ?_
    refine V_callVP dX11_readsNumber_56 ml_RX11_166 km_X11_sign kv_X11_sign (c_X11_sign (a := a) hG (hT.rk g3) g1 (by omega)) (by first | with_reducible assumption | rfl) rfl rfl rfl (Nat.le_of_ble_eq_true rfl) ⟨Nat.le_of_ble_eq_true rfl, Nat.le_of_ble_eq_true rfl⟩ ⟨Nat.le_of_ble_eq_true rfl, Nat.le_of_ble_eq_true rfl⟩ ?_
    refine V_iadd dX11_readsNumber_59 ?_
    refine V_bipush dX11_readsNumber_60 (by decide) ?_
    refine V_isub dX11_readsNumber_62 ?_
    refine V_puti 9 dX11_readsNumber_63 fl_RX11_164 (by first | with_reducible assumption | rfl) rfl rfl rfl ?_
    refine V_aload_n dX11_readsNumber_66 rfl ?_
    refine V_dup dX11_readsNumber_67 rfl ?_
    refine V_geti 6 dX11_readsNumber_68 fl_RX11_161 (by first | with_reducible assumption | rfl) rfl rfl ?_
    rw [up2_sn _ _ _ (by decide), g1]
    refine V_iconst dX11_readsNumber_71 ?_
    refine V_iadd dX11_readsNumber_72 ?_
    refine V_puti 6 dX11_readsNumber_73 fl_RX11_161 (by first | with_reducible assumption | rfl) rfl rfl rfl ?_
    refine V_goto 10 dX11_readsNumber_76 (by decide) ?_
    exact s1 _ h34 (by rw [up2_ss]) (by rw [up2_sn _ _ _ (by decide), up2_ss]; omega) ⟨fun q q1 q2 => by rw [up2_sn _ _ _ q1, up2_sn _ _ _ q2]; exact g3.1 q q1 q2, fun z z1 => by rw [up2_n _ _ _ z1, up2_n _ _ _ z1]; exact g3.2 z z1⟩
end MODEL9
