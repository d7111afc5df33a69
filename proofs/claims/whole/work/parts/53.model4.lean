/-! ===== DiagonalTextsModel: settings, letters, undo, typed texts, reaches ===== -/
section MODEL4
variable {mi mi1 mi2 mi3 mi4 : MI} {mr : MR} {n m n' m' tl D : Int} {A B A' B' Z T F : Int → Int} {hs hs' : List St} {u : Int × (Int → Int)} {σ : St}
set_option maxRecDepth 100000 in
set_option maxHeartbeats 1000000 in
theorem c_X11_set {w v : Int} (hG : Gr mr) (hw : rng w) (hv : rng v) (h : RepM mi ((n, m, A, B, Z), hs, tl, T)) : C1 yX11_set cX11_set 4 (some .int) 1 SH mi mr [vr 62, vi w, vi v] (PoM (opSet n m A B Z (hs, tl, T) w v) mi mr) := by
  have hR := h.1
  have hS := h.2.1
  simp only at hR
  have hzr : 0 ≤ w → w ≤ 2 → 0 ≤ Z w ∧ Z w ≤ 56 := fun h0 h1 => by
    have g0 := hS.2.2.1
    have g1 := hS.2.2.2.1
    have g2 := hS.2.2.2.2
    simp only at g0 g1 g2
    rcases (show w = 0 ∨ w = 1 ∨ w = 2 by omega) with rfl | rfl | rfl <;> omega
  refine Ct.ofV (ini := false) [some (vr 62), some (vi w), some (vi v), none] km_X11_set (by decide) rfl (Nat.le_of_ble_eq_true rfl) ?_
  by_cases hin : (0 ≤ w ∧ w ≤ 2) ∧ svF 0 w ≤ v ∧ v ≤ svF 1 w
  · have eo : opSet n m A B Z (hs, tl, T) w v = (Z w, psh ((n, m, A, B, Z), hs, tl, T) (n, m, A, B, fset Z w v)) := by
      unfold opSet; rw [if_neg (not_not_intro hin)]
    rw [eo]
    have e1 : (if 0 ≤ w ∧ w ≤ 2 then (1 : Int) else 0) = 1 := if_pos hin.1
    have hzr := hzr hin.1.1 hin.1.2
    have tail : V (RX11, cX11_set, 4, rm 1, false, none, (some .int)) (fun r' sh' mi' mr' => sh' = SH ∧ ∃ v', r' = some v' ∧ PoM (Z w, psh ((n, m, A, B, Z), hs, tl, T) (n, m, A, B, fset Z w v)) mi mr v' mi' mr') 0 0 SH mi mr [some (vr 62), some (vi w), some (vi v), none] [] 49 := by
      refine V_aload_n dX11_set_49 rfl ?_
      refine V_callV0 dX11_set_50 ml_RX11_62 km_X11_keeps kv_X11_keeps (c_X11_keeps hG) (by first | with_reducible assumption | rfl) rfl rfl rfl (Nat.le_of_ble_eq_true rfl) ⟨Nat.le_of_ble_eq_true rfl, Nat.le_of_ble_eq_true rfl⟩ ⟨Nat.le_of_ble_eq_true rfl, Nat.le_of_ble_eq_true rfl⟩ ?_
      rintro mi2 mr2 ⟨rfl, k1, k2⟩
      have e63 : mi2 63 = mi 63 := k2 63 (by decide)
      have ez : mi2 63 (2 + w) = Z w := by rw [e63]; exact hR.2.1 w hin.1.1 (by omega)
      have k3 : ∀ x, x ≠ 63 → up2 mi2 63 (2 + w) v x = mi2 x := fun x x1 => up2_n _ _ _ x1
      have hpre := act_pre h k1 k2 k3
      refine V_aload_n dX11_set_53 rfl ?_
      refine V_getr 0 _ dX11_set_54 fl_RX11_7 (by first | with_reducible assumption | rfl) rfl rfl (by first | with_reducible assumption | exact hG.at rfl) ?_
      refine V_iconst dX11_set_57 ?_
      refine V_iload_n dX11_set_58 rfl ?_
      refine V_iadd dX11_set_59 ?_
      refine V_iald dX11_set_60 (by first | with_reducible assumption | rfl) (by decide) (by omega) ?_
      rw [ez]
      refine S_istore_n (ls' := [_, _, _, _]) dX11_set_61 ⟨Nat.le_of_ble_eq_true rfl, rfl, rfl⟩ rfl ?_
      refine V_aload_n dX11_set_62 rfl ?_
      refine V_getr 0 _ dX11_set_63 fl_RX11_7 (by first | with_reducible assumption | rfl) rfl rfl (by first | with_reducible assumption | exact hG.at rfl) ?_
      refine V_iconst dX11_set_66 ?_
      refine V_iload_n dX11_set_67 rfl ?_
      refine V_iadd dX11_set_68 ?_
      refine V_iload_n dX11_set_69 rfl ?_
      refine V_iast dX11_set_70 (by first | with_reducible assumption | rfl) (by decide) (by omega) ?_
      refine V_aload_n dX11_set_71 rfl ?_
      refine V_iload_n dX11_set_72 rfl ?_
      refine V_callV1 dX11_set_73 ml_RX11_65 km_X11_acted kv_X11_acted (c_X11_acted (r := Z w) hG (by omega) (by omega) hpre.1 hpre.2 hS) (by first | with_reducible assumption | rfl) rfl rfl rfl (Nat.le_of_ble_eq_true rfl) ⟨Nat.le_of_ble_eq_true rfl, Nat.le_of_ble_eq_true rfl⟩ ⟨Nat.le_of_ble_eq_true rfl, Nat.le_of_ble_eq_true rfl⟩ ?_
      rintro v' mi4 mr4 ⟨rfl, rfl, a1, a2, a3⟩
      refine V_iret dX11_set_76 rfl ⟨Nat.le_of_ble_eq_true rfl, Nat.le_of_ble_eq_true rfl⟩ ?_
      exact ⟨rfl, _, rfl, rfl, rfl, act_post h k2 k3 (by rw [up2_s, e63]; exact hR.set hin.1) (hS.set hin.1 hin.2) a1 a2 a3⟩
    rcases (show w = 0 ∨ w = 1 ∨ w = 2 by omega) with rfl | rfl | rfl
    · have e2 : (if 0 ≤ v ∧ v ≤ 56 then (1 : Int) else 0) = 1 := if_pos hin.2
      refine V_iload_n dX11_set_0 rfl ?_
      refine V_iconst dX11_set_1 ?_
      refine V_iconst dX11_set_2 ?_
      refine V_callSP dX11_set_3 ml_RX11_48 km_X11_in ks_X11_in (c_X11_in (v := 0) (a := 0) (b := 2) (by omega) (by omega) (by omega)) rfl rfl (Nat.le_of_ble_eq_true rfl) ⟨Nat.le_of_ble_eq_true rfl, Nat.le_of_ble_eq_true rfl⟩ ⟨Nat.le_of_ble_eq_true rfl, Nat.le_of_ble_eq_true rfl⟩ ?_
      refine V_if_eq 46 dX11_set_6 (by decide) (by omega) (fun h6 => absurd h6 ((by decide))) (fun _ => ?_)
      refine V_iload_n dX11_set_9 rfl ?_
      refine V_iload_n dX11_set_10 rfl ?_
      refine V_iconst dX11_set_11 ?_
      refine V_icmp_ne 19 dX11_set_12 (by decide) (by omega) (by omega) (fun _ => ?_) (fun h12 => absurd h12 ((by decide)))
      refine V_iconst dX11_set_19 ?_
      refine V_iload_n dX11_set_20 rfl ?_
      refine V_if_ne 29 dX11_set_21 (by decide) (by omega) (fun h21 => absurd h21 ((by decide))) (fun _ => ?_)
      refine V_bipush dX11_set_24 (by decide) ?_
      refine V_goto 40 dX11_set_26 (by decide) ?_
      refine V_callSP dX11_set_40 ml_RX11_48 km_X11_in ks_X11_in (c_X11_in (v := v) (a := 0) (b := 56) (by omega) (by omega) (by omega)) rfl rfl (Nat.le_of_ble_eq_true rfl) ⟨Nat.le_of_ble_eq_true rfl, Nat.le_of_ble_eq_true rfl⟩ ⟨Nat.le_of_ble_eq_true rfl, Nat.le_of_ble_eq_true rfl⟩ ?_
      rw [e2]
      refine V_if_ne 49 dX11_set_43 (by decide) (by omega) (fun _ => ?_) (fun h43 => absurd h43 ((by decide)))
      exact tail
    · have e2 : (if 0 ≤ v ∧ v ≤ 5 then (1 : Int) else 0) = 1 := if_pos hin.2
      refine V_iload_n dX11_set_0 rfl ?_
      refine V_iconst dX11_set_1 ?_
      refine V_iconst dX11_set_2 ?_
      refine V_callSP dX11_set_3 ml_RX11_48 km_X11_in ks_X11_in (c_X11_in (v := 1) (a := 0) (b := 2) (by omega) (by omega) (by omega)) rfl rfl (Nat.le_of_ble_eq_true rfl) ⟨Nat.le_of_ble_eq_true rfl, Nat.le_of_ble_eq_true rfl⟩ ⟨Nat.le_of_ble_eq_true rfl, Nat.le_of_ble_eq_true rfl⟩ ?_
      refine V_if_eq 46 dX11_set_6 (by decide) (by omega) (fun h6 => absurd h6 ((by decide))) (fun _ => ?_)
      refine V_iload_n dX11_set_9 rfl ?_
      refine V_iload_n dX11_set_10 rfl ?_
      refine V_iconst dX11_set_11 ?_
      refine V_icmp_ne 19 dX11_set_12 (by decide) (by omega) (by omega) (fun _ => ?_) (fun h12 => absurd h12 ((by decide)))
      refine V_iconst dX11_set_19 ?_
      refine V_iload_n dX11_set_20 rfl ?_
      refine V_if_ne 29 dX11_set_21 (by decide) (by omega) (fun _ => ?_) (fun h21 => absurd h21 ((by decide)))
      refine V_iload_n dX11_set_29 rfl ?_
      refine V_iconst dX11_set_30 ?_
      refine V_icmp_ne 38 dX11_set_31 (by decide) (by omega) (by omega) (fun h31 => absurd h31 ((by decide))) (fun _ => ?_)
      refine V_iconst dX11_set_34 ?_
      refine V_goto 40 dX11_set_35 (by decide) ?_
      refine V_callSP dX11_set_40 ml_RX11_48 km_X11_in ks_X11_in (c_X11_in (v := v) (a := 0) (b := 5) (by omega) (by omega) (by omega)) rfl rfl (Nat.le_of_ble_eq_true rfl) ⟨Nat.le_of_ble_eq_true rfl, Nat.le_of_ble_eq_true rfl⟩ ⟨Nat.le_of_ble_eq_true rfl, Nat.le_of_ble_eq_true rfl⟩ ?_
      rw [e2]
      refine V_if_ne 49 dX11_set_43 (by decide) (by omega) (fun _ => ?_) (fun h43 => absurd h43 ((by decide)))
      exact tail
    · have e2 : (if 1 ≤ v ∧ v ≤ 9 then (1 : Int) else 0) = 1 := if_pos hin.2
      refine V_iload_n dX11_set_0 rfl ?_
      refine V_iconst dX11_set_1 ?_
      refine V_iconst dX11_set_2 ?_
      refine V_callSP dX11_set_3 ml_RX11_48 km_X11_in ks_X11_in (c_X11_in (v := 2) (a := 0) (b := 2) (by omega) (by omega) (by omega)) rfl rfl (Nat.le_of_ble_eq_true rfl) ⟨Nat.le_of_ble_eq_true rfl, Nat.le_of_ble_eq_true rfl⟩ ⟨Nat.le_of_ble_eq_true rfl, Nat.le_of_ble_eq_true rfl⟩ ?_
      refine V_if_eq 46 dX11_set_6 (by decide) (by omega) (fun h6 => absurd h6 ((by decide))) (fun _ => ?_)
      refine V_iload_n dX11_set_9 rfl ?_
      refine V_iload_n dX11_set_10 rfl ?_
      refine V_iconst dX11_set_11 ?_
      refine V_icmp_ne 19 dX11_set_12 (by decide) (by omega) (by omega) (fun h12 => absurd h12 ((by decide))) (fun _ => ?_)
      refine V_iconst dX11_set_15 ?_
      refine V_goto 20 dX11_set_16 (by decide) ?_
      refine V_iload_n dX11_set_20 rfl ?_
      refine V_if_ne 29 dX11_set_21 (by decide) (by omega) (fun _ => ?_) (fun h21 => absurd h21 ((by decide)))
      refine V_iload_n dX11_set_29 rfl ?_
      refine V_iconst dX11_set_30 ?_
      refine V_icmp_ne 38 dX11_set_31 (by decide) (by omega) (by omega) (fun _ => ?_) (fun h31 => absurd h31 ((by decide)))
      refine V_bipush dX11_set_38 (by decide) ?_
      refine V_callSP dX11_set_40 ml_RX11_48 km_X11_in ks_X11_in (c_X11_in (v := v) (a := 1) (b := 9) (by omega) (by omega) (by omega)) rfl rfl (Nat.le_of_ble_eq_true rfl) ⟨Nat.le_of_ble_eq_true rfl, Nat.le_of_ble_eq_true rfl⟩ ⟨Nat.le_of_ble_eq_true rfl, Nat.le_of_ble_eq_true rfl⟩ ?_
      rw [e2]
      refine V_if_ne 49 dX11_set_43 (by decide) (by omega) (fun _ => ?_) (fun h43 => absurd h43 ((by decide)))
      exact tail
  · have eo : opSet n m A B Z (hs, tl, T) w v = (-1000001, (n, m, A, B, Z), hs, tl, T) := by unfold opSet; rw [if_pos hin]
    rw [eo]
    by_cases hw2 : 0 ≤ w ∧ w ≤ 2
    · rcases (show w = 0 ∨ w = 1 ∨ w = 2 by omega) with rfl | rfl | rfl
      · have e2 : (if 0 ≤ v ∧ v ≤ 56 then (1 : Int) else 0) = 0 := if_neg (fun hc => hin ⟨by decide, hc⟩)
        refine V_iload_n dX11_set_0 rfl ?_
        refine V_iconst dX11_set_1 ?_
        refine V_iconst dX11_set_2 ?_
        refine V_callSP dX11_set_3 ml_RX11_48 km_X11_in ks_X11_in (c_X11_in (v := 0) (a := 0) (b := 2) (by omega) (by omega) (by omega)) rfl rfl (Nat.le_of_ble_eq_true rfl) ⟨Nat.le_of_ble_eq_true rfl, Nat.le_of_ble_eq_true rfl⟩ ⟨Nat.le_of_ble_eq_true rfl, Nat.le_of_ble_eq_true rfl⟩ ?_
        refine V_if_eq 46 dX11_set_6 (by decide) (by omega) (fun h6 => absurd h6 ((by decide))) (fun _ => ?_)
        refine V_iload_n dX11_set_9 rfl ?_
        refine V_iload_n dX11_set_10 rfl ?_
        refine V_iconst dX11_set_11 ?_
        refine V_icmp_ne 19 dX11_set_12 (by decide) (by omega) (by omega) (fun _ => ?_) (fun h12 => absurd h12 ((by decide)))
        refine V_iconst dX11_set_19 ?_
        refine V_iload_n dX11_set_20 rfl ?_
        refine V_if_ne 29 dX11_set_21 (by decide) (by omega) (fun h21 => absurd h21 ((by decide))) (fun _ => ?_)
        refine V_bipush dX11_set_24 (by decide) ?_
        refine V_goto 40 dX11_set_26 (by decide) ?_
        refine V_callSP dX11_set_40 ml_RX11_48 km_X11_in ks_X11_in (c_X11_in (v := v) (a := 0) (b := 56) (by omega) (by omega) (by omega)) rfl rfl (Nat.le_of_ble_eq_true rfl) ⟨Nat.le_of_ble_eq_true rfl, Nat.le_of_ble_eq_true rfl⟩ ⟨Nat.le_of_ble_eq_true rfl, Nat.le_of_ble_eq_true rfl⟩ ?_
        rw [e2]
        refine V_if_ne 49 dX11_set_43 (by decide) (by omega) (fun h43 => absurd h43 ((by decide))) (fun _ => ?_)
        refine V_ldc (-1000001) dX11_set_46 kc_RX11_56 rfl ?_
        refine V_iret dX11_set_48 rfl ⟨Nat.le_of_ble_eq_true rfl, Nat.le_of_ble_eq_true rfl⟩ ?_
        exact ⟨rfl, _, rfl, rfl, rfl, h, fun _ _ => rfl⟩
      · have e2 : (if 0 ≤ v ∧ v ≤ 5 then (1 : Int) else 0) = 0 := if_neg (fun hc => hin ⟨by decide, hc⟩)
        refine V_iload_n dX11_set_0 rfl ?_
        refine V_iconst dX11_set_1 ?_
        refine V_iconst dX11_set_2 ?_
        refine V_callSP dX11_set_3 ml_RX11_48 km_X11_in ks_X11_in (c_X11_in (v := 1) (a := 0) (b := 2) (by omega) (by omega) (by omega)) rfl rfl (Nat.le_of_ble_eq_true rfl) ⟨Nat.le_of_ble_eq_true rfl, Nat.le_of_ble_eq_true rfl⟩ ⟨Nat.le_of_ble_eq_true rfl, Nat.le_of_ble_eq_true rfl⟩ ?_
        refine V_if_eq 46 dX11_set_6 (by decide) (by omega) (fun h6 => absurd h6 ((by decide))) (fun _ => ?_)
        refine V_iload_n dX11_set_9 rfl ?_
        refine V_iload_n dX11_set_10 rfl ?_
        refine V_iconst dX11_set_11 ?_
        refine V_icmp_ne 19 dX11_set_12 (by decide) (by omega) (by omega) (fun _ => ?_) (fun h12 => absurd h12 ((by decide)))
        refine V_iconst dX11_set_19 ?_
        refine V_iload_n dX11_set_20 rfl ?_
        refine V_if_ne 29 dX11_set_21 (by decide) (by omega) (fun _ => ?_) (fun h21 => absurd h21 ((by decide)))
        refine V_iload_n dX11_set_29 rfl ?_
        refine V_iconst dX11_set_30 ?_
        refine V_icmp_ne 38 dX11_set_31 (by decide) (by omega) (by omega) (fun h31 => absurd h31 ((by decide))) (fun _ => ?_)
        refine V_iconst dX11_set_34 ?_
        refine V_goto 40 dX11_set_35 (by decide) ?_
        refine V_callSP dX11_set_40 ml_RX11_48 km_X11_in ks_X11_in (c_X11_in (v := v) (a := 0) (b := 5) (by omega) (by omega) (by omega)) rfl rfl (Nat.le_of_ble_eq_true rfl) ⟨Nat.le_of_ble_eq_true rfl, Nat.le_of_ble_eq_true rfl⟩ ⟨Nat.le_of_ble_eq_true rfl, Nat.le_of_ble_eq_true rfl⟩ ?_
        rw [e2]
        refine V_if_ne 49 dX11_set_43 (by decide) (by omega) (fun h43 => absurd h43 ((by decide))) (fun _ => ?_)
        refine V_ldc (-1000001) dX11_set_46 kc_RX11_56 rfl ?_
        refine V_iret dX11_set_48 rfl ⟨Nat.le_of_ble_eq_true rfl, Nat.le_of_ble_eq_true rfl⟩ ?_
        exact ⟨rfl, _, rfl, rfl, rfl, h, fun _ _ => rfl⟩
      · have e2 : (if 1 ≤ v ∧ v ≤ 9 then (1 : Int) else 0) = 0 := if_neg (fun hc => hin ⟨by decide, hc⟩)
        refine V_iload_n dX11_set_0 rfl ?_
        refine V_iconst dX11_set_1 ?_
        refine V_iconst dX11_set_2 ?_
        refine V_callSP dX11_set_3 ml_RX11_48 km_X11_in ks_X11_in (c_X11_in (v := 2) (a := 0) (b := 2) (by omega) (by omega) (by omega)) rfl rfl (Nat.le_of_ble_eq_true rfl) ⟨Nat.le_of_ble_eq_true rfl, Nat.le_of_ble_eq_true rfl⟩ ⟨Nat.le_of_ble_eq_true rfl, Nat.le_of_ble_eq_true rfl⟩ ?_
        refine V_if_eq 46 dX11_set_6 (by decide) (by omega) (fun h6 => absurd h6 ((by decide))) (fun _ => ?_)
        refine V_iload_n dX11_set_9 rfl ?_
        refine V_iload_n dX11_set_10 rfl ?_
        refine V_iconst dX11_set_11 ?_
        refine V_icmp_ne 19 dX11_set_12 (by decide) (by omega) (by omega) (fun h12 => absurd h12 ((by decide))) (fun _ => ?_)
        refine V_iconst dX11_set_15 ?_
        refine V_goto 20 dX11_set_16 (by decide) ?_
        refine V_iload_n dX11_set_20 rfl ?_
        refine V_if_ne 29 dX11_set_21 (by decide) (by omega) (fun _ => ?_) (fun h21 => absurd h21 ((by decide)))
        refine V_iload_n dX11_set_29 rfl ?_
        refine V_iconst dX11_set_30 ?_
        refine V_icmp_ne 38 dX11_set_31 (by decide) (by omega) (by omega) (fun _ => ?_) (fun h31 => absurd h31 ((by decide)))
        refine V_bipush dX11_set_38 (by decide) ?_
        refine V_callSP dX11_set_40 ml_RX11_48 km_X11_in ks_X11_in (c_X11_in (v := v) (a := 1) (b := 9) (by omega) (by omega) (by omega)) rfl rfl (Nat.le_of_ble_eq_true rfl) ⟨Nat.le_of_ble_eq_true rfl, Nat.le_of_ble_eq_true rfl⟩ ⟨Nat.le_of_ble_eq_true rfl, Nat.le_of_ble_eq_true rfl⟩ ?_
        rw [e2]
        refine V_if_ne 49 dX11_set_43 (by decide) (by omega) (fun h43 => absurd h43 ((by decide))) (fun _ => ?_)
        refine V_ldc (-1000001) dX11_set_46 kc_RX11_56 rfl ?_
        refine V_iret dX11_set_48 rfl ⟨Nat.le_of_ble_eq_true rfl, Nat.le_of_ble_eq_true rfl⟩ ?_
        exact ⟨rfl, _, rfl, rfl, rfl, h, fun _ _ => rfl⟩
    · have e1 : (if 0 ≤ w ∧ w ≤ 2 then (1 : Int) else 0) = 0 := if_neg hw2
      refine V_iload_n dX11_set_0 rfl ?_
      refine V_iconst dX11_set_1 ?_
      refine V_iconst dX11_set_2 ?_
      refine V_callSP dX11_set_3 ml_RX11_48 km_X11_in ks_X11_in (c_X11_in (v := w) (a := 0) (b := 2) (by omega) (by omega) (by omega)) rfl rfl (Nat.le_of_ble_eq_true rfl) ⟨Nat.le_of_ble_eq_true rfl, Nat.le_of_ble_eq_true rfl⟩ ⟨Nat.le_of_ble_eq_true rfl, Nat.le_of_ble_eq_true rfl⟩ ?_
      rw [e1]
      refine V_if_eq 46 dX11_set_6 (by decide) (by omega) (fun _ => ?_) (fun h6 => absurd h6 ((by decide)))
      refine V_ldc (-1000001) dX11_set_46 kc_RX11_56 rfl ?_
      refine V_iret dX11_set_48 rfl ⟨Nat.le_of_ble_eq_true rfl, Nat.le_of_ble_eq_true rfl⟩ ?_
      exact ⟨rfl, _, rfl, rfl, rfl, h, fun _ _ => rfl⟩
set_option maxRecDepth 100000 in
set_option maxHeartbeats 1000000 in
theorem c_X11_letterAt {row p : Int} (hG : Gr mr) (hr : rng row) (hp : rng p) (h : RepM mi ((n, m, A, B, Z), hs, tl, T)) : C1 yX11_letterAt cX11_letterAt 3 (some .int) 1 SH mi mr [vr 62, vi row, vi p] (PoM (opLetterAt n m A B Z (hs, tl, T) row p) mi mr) := by
  have hR := h.1
  have hS := h.2.1
  have q0 := hR.1.1
  have q1 := hR.1.2
  have hn := hS.1.1
  have hm := hS.2.1.1
  simp only at q0 q1 hn hm hR
  refine Ct.ofV (ini := false) [some (vr 62), some (vi row), some (vi p)] km_X11_letterAt (by decide) rfl (Nat.le_of_ble_eq_true rfl) ?_
  by_cases hin : (0 ≤ row ∧ row ≤ 1) ∧ 0 ≤ p
  · have eo : opLetterAt n m A B Z (hs, tl, T) row p = (if row = 0 then nf (A p) else nf (B p), (n, m, A, B, Z), hs, tl, T) := by
      unfold opLetterAt; rw [if_neg (not_not_intro hin)]
    rw [eo]
    rcases (show row = 0 ∨ row = 1 by omega) with rfl | rfl
    · rw [if_pos rfl]
      refine V_iload_n dX11_letterAt_0 rfl ?_
      refine V_iconst dX11_letterAt_1 ?_
      refine V_iconst dX11_letterAt_2 ?_
      refine V_callSP dX11_letterAt_3 ml_RX11_48 km_X11_in ks_X11_in (c_X11_in (v := 0) (a := 0) (b := 1) (by omega) (by omega) (by omega)) rfl rfl (Nat.le_of_ble_eq_true rfl) ⟨Nat.le_of_ble_eq_true rfl, Nat.le_of_ble_eq_true rfl⟩ ⟨Nat.le_of_ble_eq_true rfl, Nat.le_of_ble_eq_true rfl⟩ ?_
      refine V_if_eq 13 dX11_letterAt_6 (by decide) (by omega) (fun h6 => absurd h6 ((by decide))) (fun _ => ?_)
      refine V_iload_n dX11_letterAt_9 rfl ?_
      refine V_if_ge 16 dX11_letterAt_10 (by decide) (by omega) (fun _ => ?_) (fun h10 => absurd h10 ((by omega)))
      refine V_iload_n dX11_letterAt_16 rfl ?_
      refine V_aload_n dX11_letterAt_17 rfl ?_
      refine V_getr 0 _ dX11_letterAt_18 fl_RX11_7 (by first | with_reducible assumption | rfl) rfl rfl (by first | with_reducible assumption | exact hG.at rfl) ?_
      refine V_iload_n dX11_letterAt_21 rfl ?_
      refine V_iald dX11_letterAt_22 (by first | with_reducible assumption | rfl) (by decide) (by omega) ?_
      rw [q0]
      refine V_icmp_ge 35 dX11_letterAt_23 (by decide) (by omega) (by omega) (fun h23 => ?_) (fun h23 => ?_)
      · have e1 : A p = -1 := hS.1.2.2 p (by simp only; omega)
        rw [e1]
        refine V_ldc (-1000004) dX11_letterAt_35 kc_RX11_70 rfl ?_
        refine V_iret dX11_letterAt_37 rfl ⟨Nat.le_of_ble_eq_true rfl, Nat.le_of_ble_eq_true rfl⟩ ?_
        exact ⟨rfl, _, rfl, by unfold nf; first | rw [if_pos rfl] | rw [if_neg (show ¬ A p = -1 by omega)], rfl, h, fun _ _ => rfl⟩
      · have e1 := hS.1.2.1 p hin.2 (by simp only; omega)
        simp only at e1
        refine V_aload_n dX11_letterAt_26 rfl ?_
        refine V_iload_n dX11_letterAt_27 rfl ?_
        refine V_iload_n dX11_letterAt_28 rfl ?_
        refine V_callVP dX11_letterAt_29 ml_RX11_52 km_X11_letter kv_X11_letter (c_X11_letter (row := 0) (p := p) hG (Or.inl rfl) (by omega)) (by first | with_reducible assumption | rfl) rfl rfl rfl (Nat.le_of_ble_eq_true rfl) ⟨Nat.le_of_ble_eq_true rfl, Nat.le_of_ble_eq_true rfl⟩ ⟨Nat.le_of_ble_eq_true rfl, Nat.le_of_ble_eq_true rfl⟩ ?_
        rw [letA hR (p := p) (by omega)]
        refine V_goto 37 dX11_letterAt_32 (by decide) ?_
        refine V_iret dX11_letterAt_37 rfl ⟨Nat.le_of_ble_eq_true rfl, Nat.le_of_ble_eq_true rfl⟩ ?_
        exact ⟨rfl, _, rfl, by unfold nf; first | rw [if_pos rfl] | rw [if_neg (show ¬ A p = -1 by omega)], rfl, h, fun _ _ => rfl⟩
    · rw [if_neg (show ¬ (1 : Int) = 0 by decide)]
      refine V_iload_n dX11_letterAt_0 rfl ?_
      refine V_iconst dX11_letterAt_1 ?_
      refine V_iconst dX11_letterAt_2 ?_
      refine V_callSP dX11_letterAt_3 ml_RX11_48 km_X11_in ks_X11_in (c_X11_in (v := 1) (a := 0) (b := 1) (by omega) (by omega) (by omega)) rfl rfl (Nat.le_of_ble_eq_true rfl) ⟨Nat.le_of_ble_eq_true rfl, Nat.le_of_ble_eq_true rfl⟩ ⟨Nat.le_of_ble_eq_true rfl, Nat.le_of_ble_eq_true rfl⟩ ?_
      refine V_if_eq 13 dX11_letterAt_6 (by decide) (by omega) (fun h6 => absurd h6 ((by decide))) (fun _ => ?_)
      refine V_iload_n dX11_letterAt_9 rfl ?_
      refine V_if_ge 16 dX11_letterAt_10 (by decide) (by omega) (fun _ => ?_) (fun h10 => absurd h10 ((by omega)))
      refine V_iload_n dX11_letterAt_16 rfl ?_
      refine V_aload_n dX11_letterAt_17 rfl ?_
      refine V_getr 0 _ dX11_letterAt_18 fl_RX11_7 (by first | with_reducible assumption | rfl) rfl rfl (by first | with_reducible assumption | exact hG.at rfl) ?_
      refine V_iload_n dX11_letterAt_21 rfl ?_
      refine V_iald dX11_letterAt_22 (by first | with_reducible assumption | rfl) (by decide) (by omega) ?_
      rw [q1]
      refine V_icmp_ge 35 dX11_letterAt_23 (by decide) (by omega) (by omega) (fun h23 => ?_) (fun h23 => ?_)
      · have e1 : B p = -1 := hS.2.1.2.2 p (by simp only; omega)
        rw [e1]
        refine V_ldc (-1000004) dX11_letterAt_35 kc_RX11_70 rfl ?_
        refine V_iret dX11_letterAt_37 rfl ⟨Nat.le_of_ble_eq_true rfl, Nat.le_of_ble_eq_true rfl⟩ ?_
        exact ⟨rfl, _, rfl, by unfold nf; first | rw [if_pos rfl] | rw [if_neg (show ¬ B p = -1 by omega)], rfl, h, fun _ _ => rfl⟩
      · have e1 := hS.2.1.2.1 p hin.2 (by simp only; omega)
        simp only at e1
        refine V_aload_n dX11_letterAt_26 rfl ?_
        refine V_iload_n dX11_letterAt_27 rfl ?_
        refine V_iload_n dX11_letterAt_28 rfl ?_
        refine V_callVP dX11_letterAt_29 ml_RX11_52 km_X11_letter kv_X11_letter (c_X11_letter (row := 1) (p := p) hG (Or.inr rfl) (by omega)) (by first | with_reducible assumption | rfl) rfl rfl rfl (Nat.le_of_ble_eq_true rfl) ⟨Nat.le_of_ble_eq_true rfl, Nat.le_of_ble_eq_true rfl⟩ ⟨Nat.le_of_ble_eq_true rfl, Nat.le_of_ble_eq_true rfl⟩ ?_
        rw [letB hR (p := p) (by omega)]
        refine V_goto 37 dX11_letterAt_32 (by decide) ?_
        refine V_iret dX11_letterAt_37 rfl ⟨Nat.le_of_ble_eq_true rfl, Nat.le_of_ble_eq_true rfl⟩ ?_
        exact ⟨rfl, _, rfl, by unfold nf; first | rw [if_pos rfl] | rw [if_neg (show ¬ B p = -1 by omega)], rfl, h, fun _ _ => rfl⟩
  · have eo : opLetterAt n m A B Z (hs, tl, T) row p = (-1000001, (n, m, A, B, Z), hs, tl, T) := by unfold opLetterAt; rw [if_pos hin]
    rw [eo]
    refine V_iload_n dX11_letterAt_0 rfl ?_
    refine V_iconst dX11_letterAt_1 ?_
    refine V_iconst dX11_letterAt_2 ?_
    refine V_callSP dX11_letterAt_3 ml_RX11_48 km_X11_in ks_X11_in (c_X11_in (v := row) (a := 0) (b := 1) (by omega) (by omega) (by omega)) rfl rfl (Nat.le_of_ble_eq_true rfl) ⟨Nat.le_of_ble_eq_true rfl, Nat.le_of_ble_eq_true rfl⟩ ⟨Nat.le_of_ble_eq_true rfl, Nat.le_of_ble_eq_true rfl⟩ ?_
    refine V_if_eq 13 dX11_letterAt_6 (by decide) (by split <;> omega) (fun h6 => ?_) (fun h6 => ?_)
    · refine V_ldc (-1000001) dX11_letterAt_13 kc_RX11_56 rfl ?_
      refine V_iret dX11_letterAt_15 rfl ⟨Nat.le_of_ble_eq_true rfl, Nat.le_of_ble_eq_true rfl⟩ ?_
      exact ⟨rfl, _, rfl, rfl, rfl, h, fun _ _ => rfl⟩
    · refine V_iload_n dX11_letterAt_9 rfl ?_
      refine V_if_ge 16 dX11_letterAt_10 (by decide) (by omega) (fun h10 => ?_) (fun h10 => ?_)
      · exact absurd (by rw [ifz, Decidable.not_not] at h6; exact ⟨h6, by omega⟩) hin
      · refine V_ldc (-1000001) dX11_letterAt_13 kc_RX11_56 rfl ?_
        refine V_iret dX11_letterAt_15 rfl ⟨Nat.le_of_ble_eq_true rfl, Nat.le_of_ble_eq_true rfl⟩ ?_
        exact ⟨rfl, _, rfl, rfl, rfl, h, fun _ _ => rfl⟩
theorem sn_fin {x y : Int} (hA : NR n A) (hB : NR m B) : ¬ al A B (x + sn A B x y) (y + sn A B x y) := by
  intro hc
  have hr := sn_r A B x y
  have h1 := al_in hA hB hc
  have hn := hA.1
  have hm := hB.1
  by_cases h28 : sn A B x y = 28
  · have := al_in hA hB (sn_run (A := A) (B := B) (x := x) (y := y) (j := 0) (by omega) (by omega))
    omega
  · exact snk_end A B 28 x y (by unfold sn at *; omega) hc
set_option maxRecDepth 100000 in
theorem c_X11_alikeFrom {x y : Int} (hG : Gr mr) (hR : RowM (mi 63) (n, m, A, B, Z)) (hA : NR n A) (hB : NR m B) (hx : -1000 ≤ x ∧ x ≤ 1000) (hy : -1000 ≤ y ∧ y ≤ 1000) : CP yX11_alikeFrom cX11_alikeFrom 4 (some .int) 2 SH mi mr [vr 62, vi x, vi y] (vi (sn A B x y)) := by
  have hsr := sn_r A B x y
  have loop : ∀ (t : Nat) (j : Int), 0 ≤ j → j ≤ sn A B x y → sn A B x y - j < t → V (RX11, cX11_alikeFrom, 4, rm 2, false, none, (some .int)) (fun r sh' mi' mr' => sh' = SH ∧ r = some (vi (sn A B x y)) ∧ mi' = mi ∧ mr' = mr) 0 0 SH mi mr [some (vr 62), some (vi x), some (vi y), some (vi j)] [] 2 := by
    intro t
    induction t with
    | zero => intro j a1 a2 a3; omega
    | succ t ih =>
      intro j a1 a2 a3
      refine V_aload_n dX11_alikeFrom_2 rfl ?_
      refine V_iload_n dX11_alikeFrom_3 rfl ?_
      refine V_iload_n dX11_alikeFrom_4 rfl ?_
      refine V_iadd dX11_alikeFrom_5 ?_
      refine V_iload_n dX11_alikeFrom_6 rfl ?_
      refine V_iload_n dX11_alikeFrom_7 rfl ?_
      refine V_iadd dX11_alikeFrom_8 ?_
      refine V_callVP dX11_alikeFrom_9 ml_RX11_71 km_X11_alike kv_X11_alike (c_X11_alike (x := x + j) (y := y + j) hG hR hA hB (by omega) (by omega)) (by first | with_reducible assumption | rfl) rfl rfl rfl (Nat.le_of_ble_eq_true rfl) ⟨Nat.le_of_ble_eq_true rfl, Nat.le_of_ble_eq_true rfl⟩ ⟨Nat.le_of_ble_eq_true rfl, Nat.le_of_ble_eq_true rfl⟩ ?_
      refine V_if_eq 21 dX11_alikeFrom_12 (by decide) (by split <;> omega) (fun h12 => ?_) (fun h12 => ?_)
      · rw [ifz] at h12
        have hj : j = sn A B x y := by
          by_cases hc : j < sn A B x y
          · exact absurd (sn_run a1 hc) h12
          · omega
        refine V_iload_n dX11_alikeFrom_21 rfl ?_
        refine V_iret dX11_alikeFrom_22 rfl ⟨Nat.le_of_ble_eq_true rfl, Nat.le_of_ble_eq_true rfl⟩ ?_
        exact ⟨rfl, svi hj, rfl, rfl⟩
      · rw [ifz, Decidable.not_not] at h12
        have hj : j ≠ sn A B x y := fun hc => by rw [hc] at h12; exact sn_fin hA hB h12
        refine S_iinc (ls' := [_, _, _, _]) dX11_alikeFrom_15 rfl ⟨rfl, rfl⟩ rfl ?_
        refine V_goto 2 dX11_alikeFrom_18 (by decide) ?_
        exact ih (j + 1) (by omega) (by omega) (by omega)
  refine Ct.ofV (ini := false) [some (vr 62), some (vi x), some (vi y), none] km_X11_alikeFrom (by decide) rfl (Nat.le_of_ble_eq_true rfl) ?_
  refine V_iconst dX11_alikeFrom_0 ?_
  refine S_istore_n (ls' := [_, _, _, _]) dX11_alikeFrom_1 ⟨Nat.le_of_ble_eq_true rfl, rfl, rfl⟩ rfl ?_
  exact loop 29 0 (by omega) (by omega) (by omega)
set_option maxRecDepth 100000 in
set_option maxHeartbeats 1000000 in
theorem c_X11_same {x y : Int} (hG : Gr mr) (hx : rng x) (hy : rng y) (h : RepM mi ((n, m, A, B, Z), hs, tl, T)) : C1 yX11_same cX11_same 3 (some .int) 3 SH mi mr [vr 62, vi x, vi y] (PoM (opSame n m A B Z (hs, tl, T) x y) mi mr) := by
  have hR := h.1
  have hS := h.2.1
  have q0 := hR.1.1
  have q1 := hR.1.2
  have hn := hS.1.1
  have hm := hS.2.1.1
  simp only at q0 q1 hn hm hR
  refine Ct.ofV (ini := false) [some (vr 62), some (vi x), some (vi y)] km_X11_same (by decide) rfl (Nat.le_of_ble_eq_true rfl) ?_
  by_cases hin : (0 ≤ x ∧ x ≤ n) ∧ 0 ≤ y ∧ y ≤ m
  · have eo : opSame n m A B Z (hs, tl, T) x y = (sn A B x y, (n, m, A, B, Z), hs, tl, T) := by
      unfold opSame; rw [if_neg (not_not_intro hin)]
    rw [eo]
    have e1 : (if 0 ≤ x ∧ x ≤ n then (1 : Int) else 0) = 1 := if_pos hin.1
    have e2 : (if 0 ≤ y ∧ y ≤ m then (1 : Int) else 0) = 1 := if_pos hin.2
    refine V_iload_n dX11_same_0 rfl ?_
    refine V_iconst dX11_same_1 ?_
    refine V_aload_n dX11_same_2 rfl ?_
    refine V_getr 0 _ dX11_same_3 fl_RX11_7 (by first | with_reducible assumption | rfl) rfl rfl (by first | with_reducible assumption | exact hG.at rfl) ?_
    refine V_iconst dX11_same_6 ?_
    refine V_iald dX11_same_7 (by first | with_reducible assumption | rfl) (by decide) (by omega) ?_
    rw [q0]
    refine V_callSP dX11_same_8 ml_RX11_48 km_X11_in ks_X11_in (c_X11_in (v := x) (a := 0) (b := n) (by omega) (by omega) (by omega)) rfl rfl (Nat.le_of_ble_eq_true rfl) ⟨Nat.le_of_ble_eq_true rfl, Nat.le_of_ble_eq_true rfl⟩ ⟨Nat.le_of_ble_eq_true rfl, Nat.le_of_ble_eq_true rfl⟩ ?_
    rw [e1]
    refine V_if_eq 37 dX11_same_11 (by decide) (by omega) (fun h11 => absurd h11 ((by decide))) (fun _ => ?_)
    refine V_iload_n dX11_same_14 rfl ?_
    refine V_iconst dX11_same_15 ?_
    refine V_aload_n dX11_same_16 rfl ?_
    refine V_getr 0 _ dX11_same_17 fl_RX11_7 (by first | with_reducible assumption | rfl) rfl rfl (by first | with_reducible assumption | exact hG.at rfl) ?_
    refine V_iconst dX11_same_20 ?_
    refine V_iald dX11_same_21 (by first | with_reducible assumption | rfl) (by decide) (by omega) ?_
    rw [q1]
    refine V_callSP dX11_same_22 ml_RX11_48 km_X11_in ks_X11_in (c_X11_in (v := y) (a := 0) (b := m) (by omega) (by omega) (by omega)) rfl rfl (Nat.le_of_ble_eq_true rfl) ⟨Nat.le_of_ble_eq_true rfl, Nat.le_of_ble_eq_true rfl⟩ ⟨Nat.le_of_ble_eq_true rfl, Nat.le_of_ble_eq_true rfl⟩ ?_
    rw [e2]
    refine V_if_eq 37 dX11_same_25 (by decide) (by omega) (fun h25 => absurd h25 ((by decide))) (fun _ => ?_)
    refine V_aload_n dX11_same_28 rfl ?_
    refine V_iload_n dX11_same_29 rfl ?_
    refine V_iload_n dX11_same_30 rfl ?_
    refine V_callVP dX11_same_31 ml_RX11_75 km_X11_alikeFrom kv_X11_alikeFrom (c_X11_alikeFrom hG hR hS.1 hS.2.1 (by omega) (by omega)) (by first | with_reducible assumption | rfl) rfl rfl rfl (Nat.le_of_ble_eq_true rfl) ⟨Nat.le_of_ble_eq_true rfl, Nat.le_of_ble_eq_true rfl⟩ ⟨Nat.le_of_ble_eq_true rfl, Nat.le_of_ble_eq_true rfl⟩ ?_
    refine V_goto 39 dX11_same_34 (by decide) ?_
    refine V_iret dX11_same_39 rfl ⟨Nat.le_of_ble_eq_true rfl, Nat.le_of_ble_eq_true rfl⟩ ?_
    exact ⟨rfl, _, rfl, rfl, rfl, h, fun _ _ => rfl⟩
  · have eo : opSame n m A B Z (hs, tl, T) x y = (-1000001, (n, m, A, B, Z), hs, tl, T) := by unfold opSame; rw [if_pos hin]
    rw [eo]
    refine V_iload_n dX11_same_0 rfl ?_
    refine V_iconst dX11_same_1 ?_
    refine V_aload_n dX11_same_2 rfl ?_
    refine V_getr 0 _ dX11_same_3 fl_RX11_7 (by first | with_reducible assumption | rfl) rfl rfl (by first | with_reducible assumption | exact hG.at rfl) ?_
    refine V_iconst dX11_same_6 ?_
    refine V_iald dX11_same_7 (by first | with_reducible assumption | rfl) (by decide) (by omega) ?_
    rw [q0]
    refine V_callSP dX11_same_8 ml_RX11_48 km_X11_in ks_X11_in (c_X11_in (v := x) (a := 0) (b := n) (by omega) (by omega) (by omega)) rfl rfl (Nat.le_of_ble_eq_true rfl) ⟨Nat.le_of_ble_eq_true rfl, Nat.le_of_ble_eq_true rfl⟩ ⟨Nat.le_of_ble_eq_true rfl, Nat.le_of_ble_eq_true rfl⟩ ?_
    refine V_if_eq 37 dX11_same_11 (by decide) (by split <;> omega) (fun h11 => ?_) (fun h11 => ?_)
    · refine V_ldc (-1000001) dX11_same_37 kc_RX11_56 rfl ?_
      refine V_iret dX11_same_39 rfl ⟨Nat.le_of_ble_eq_true rfl, Nat.le_of_ble_eq_true rfl⟩ ?_
      exact ⟨rfl, _, rfl, rfl, rfl, h, fun _ _ => rfl⟩
    · refine V_iload_n dX11_same_14 rfl ?_
      refine V_iconst dX11_same_15 ?_
      refine V_aload_n dX11_same_16 rfl ?_
      refine V_getr 0 _ dX11_same_17 fl_RX11_7 (by first | with_reducible assumption | rfl) rfl rfl (by first | with_reducible assumption | exact hG.at rfl) ?_
      refine V_iconst dX11_same_20 ?_
      refine V_iald dX11_same_21 (by first | with_reducible assumption | rfl) (by decide) (by omega) ?_
      rw [q1]
      refine V_callSP dX11_same_22 ml_RX11_48 km_X11_in ks_X11_in (c_X11_in (v := y) (a := 0) (b := m) (by omega) (by omega) (by omega)) rfl rfl (Nat.le_of_ble_eq_true rfl) ⟨Nat.le_of_ble_eq_true rfl, Nat.le_of_ble_eq_true rfl⟩ ⟨Nat.le_of_ble_eq_true rfl, Nat.le_of_ble_eq_true rfl⟩ ?_
      refine V_if_eq 37 dX11_same_25 (by decide) (by split <;> omega) (fun h25 => ?_) (fun h25 => ?_)
      · refine V_ldc (-1000001) dX11_same_37 kc_RX11_56 rfl ?_
        refine V_iret dX11_same_39 rfl ⟨Nat.le_of_ble_eq_true rfl, Nat.le_of_ble_eq_true rfl⟩ ?_
        exact ⟨rfl, _, rfl, rfl, rfl, h, fun _ _ => rfl⟩
      · exact absurd (by rw [ifz] at h11 h25; rw [Decidable.not_not] at h11 h25; exact ⟨h11, h25⟩) hin
end MODEL4
