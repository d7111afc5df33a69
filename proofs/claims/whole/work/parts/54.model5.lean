/-! ===== DiagonalTextsModel: undo, typed texts, reaches ===== -/
section MODEL5
variable {mi mi1 mi2 mi3 mi4 : MI} {mr : MR} {n m n' m' tl D : Int} {A B A' B' Z T F : Int → Int} {hs hs' : List St} {u : Int × (Int → Int)} {σ : St}
set_option maxRecDepth 100000 in
set_option maxHeartbeats 1000000 in
theorem c_X11_undo (hG : Gr mr) (h : RepM mi ((n, m, A, B, Z), hs, tl, T)) : C1 yX11_undo cX11_undo 2 (some .int) 0 SH mi mr [vr 62] (PoM (opUndo n m A B Z hs (tl, T)) mi mr) := by
  have hM := h.2.2.1
  have hM1 := hM.1
  have hM2 := hM.2.1
  simp only at hM1 hM2 hM
  refine Ct.ofV (ini := false) [some (vr 62), none] km_X11_undo (by decide) rfl (Nat.le_of_ble_eq_true rfl) ?_
  rcases List.eq_nil_or_concat hs with rfl | ⟨h', σ, rfl⟩
  · have h0 : mi 62 3 = 0 := by rw [hM1]; rfl
    refine V_aload_n dX11_undo_0 rfl ?_
    refine V_geti 3 dX11_undo_1 fl_RX11_57 (by first | with_reducible assumption | rfl) rfl rfl ?_
    rw [h0]
    refine V_if_ne 10 dX11_undo_4 (by decide) (by omega) (fun h4 => absurd h4 ((by decide))) (fun _ => ?_)
    refine V_ldc (-1000002) dX11_undo_7 kc_RX11_69 rfl ?_
    refine V_iret dX11_undo_9 rfl ⟨Nat.le_of_ble_eq_true rfl, Nat.le_of_ble_eq_true rfl⟩ ?_
    exact ⟨rfl, _, rfl, rfl, rfl, h, fun _ _ => rfl⟩
  · rw [List.concat_eq_append] at *
    have h0 : mi 62 3 = h'.length + 1 := by rw [hM1]; simp
    have h1 : h'.length + 1 ≤ 4 := by simpa using hM2
    have eo : opUndo n m A B Z (h' ++ [σ]) (tl, T) = ((h'.length : Int), σ, h', tl, T) := by
      unfold opUndo
      rw [if_neg (by simp)]
      simp
    rw [eo]
    have hσ := hM.2.2 h'.length σ (by simp)
    have loop : ∀ (t : Nat) (j : Int) (mi' : MI), 0 ≤ j → j ≤ 61 → 61 - j < t → mi' 62 3 = h'.length → (∀ k, k ≠ 3 → mi' 62 k = mi 62 k) → (∀ k, 0 ≤ k → k < j → mi' 63 k = mi 64 (61 * (h'.length : Int) + k)) → (∀ x, x ≠ 62 → x ≠ 63 → mi' x = mi x) → V (RX11, cX11_undo, 2, rm 0, false, none, (some .int)) (fun r' sh' mi' mr' => sh' = SH ∧ ∃ v', r' = some v' ∧ PoM ((h'.length : Int), σ, h', tl, T) mi mr v' mi' mr') 0 0 SH mi' mr [some (vr 62), some (vi j)] [] 22 := by
      intro t
      induction t with
      | zero => intro j mi' a1 a2 a3; omega
      | succ t ih =>
        intro j mi' a1 a2 a3 a4 a5 a6 a7
        refine V_iload_n dX11_undo_22 rfl ?_
        refine V_bipush dX11_undo_23 (by decide) ?_
        refine V_icmp_ge 54 dX11_undo_25 (by decide) (by omega) (by omega) (fun h25 => ?_) (fun h25 => ?_)
        · refine V_aload_n dX11_undo_54 rfl ?_
          refine V_geti 3 dX11_undo_55 fl_RX11_57 (by first | with_reducible assumption | rfl) rfl rfl ?_
          rw [a4]
          refine V_iret dX11_undo_58 rfl ⟨Nat.le_of_ble_eq_true rfl, Nat.le_of_ble_eq_true rfl⟩ ?_
          refine ⟨rfl, _, rfl, rfl, rfl, ⟨hσ.1.eq ⟨hσ.2.1.1.2, hσ.2.2.1.1.2⟩ (fun k k1 k2 => a6 k k1 (by omega)), hσ.2, ⟨a4, (show h'.length ≤ 4 by omega), fun i τ hi => ?_⟩, h.2.2.2.keep (a5 5 (by decide)) (a7 66 (by decide) (by decide))⟩, fun x hx => a7 x (by omega) (by omega)⟩
          have hlt := lt_of_get hi
          have hh := hM.2.2 i τ (by rw [List.getElem?_append_left hlt]; exact hi)
          rw [a7 64 (by decide) (by decide)]
          exact hh
        · refine V_aload_n dX11_undo_28 rfl ?_
          refine V_getr 0 _ dX11_undo_29 fl_RX11_7 (by first | with_reducible assumption | rfl) rfl rfl (by first | with_reducible assumption | exact hG.at rfl) ?_
          refine V_iload_n dX11_undo_32 rfl ?_
          refine V_aload_n dX11_undo_33 rfl ?_
          refine V_getr 1 _ dX11_undo_34 fl_RX11_13 (by first | with_reducible assumption | rfl) rfl rfl (by first | with_reducible assumption | exact hG.at rfl) ?_
          refine V_bipush dX11_undo_37 (by decide) ?_
          refine V_aload_n dX11_undo_39 rfl ?_
          refine V_geti 3 dX11_undo_40 fl_RX11_57 (by first | with_reducible assumption | rfl) rfl rfl ?_
          rw [a4]
          refine V_imul dX11_undo_43 ?_
          refine V_iload_n dX11_undo_44 rfl ?_
          refine V_iadd dX11_undo_45 ?_
          refine V_iald dX11_undo_46 (by first | with_reducible assumption | rfl) (by decide) (by omega) ?_
          refine V_iast dX11_undo_47 (by first | with_reducible assumption | rfl) (by decide) (by omega) ?_
          refine S_iinc (ls' := [_, _]) dX11_undo_48 rfl ⟨rfl, rfl⟩ rfl ?_
          refine V_goto 22 dX11_undo_51 (by decide) ?_
          refine ih (j + 1) _ (by omega) (by omega) (by omega) (by rw [up2_n _ _ _ (by decide)]; exact a4) (fun k hk => by rw [up2_n _ _ _ (by decide)]; exact a5 k hk) (fun k k1 k2 => ?_) (fun x x1 x2 => by rw [up2_n _ _ _ x2]; exact a7 x x1 x2)
          by_cases hk : k = j
          · subst hk; rw [up2_ss, a7 64 (by decide) (by decide)]
          · rw [up2_sn _ _ _ hk]; exact a6 k k1 (by omega)
    refine V_aload_n dX11_undo_0 rfl ?_
    refine V_geti 3 dX11_undo_1 fl_RX11_57 (by first | with_reducible assumption | rfl) rfl rfl ?_
    rw [h0]
    refine V_if_ne 10 dX11_undo_4 (by decide) (by omega) (fun _ => ?_) (fun h4 => absurd h4 ((by omega)))
    refine V_aload_n dX11_undo_10 rfl ?_
    refine V_dup dX11_undo_11 rfl ?_
    refine V_geti 3 dX11_undo_12 fl_RX11_57 (by first | with_reducible assumption | rfl) rfl rfl ?_
    rw [h0]
    refine V_iconst dX11_undo_15 ?_
    refine V_isub dX11_undo_16 ?_
    refine V_puti 3 dX11_undo_17 fl_RX11_57 (by first | with_reducible assumption | rfl) rfl rfl rfl ?_
    refine V_iconst dX11_undo_20 ?_
    refine S_istore_n (ls' := [_, _]) dX11_undo_21 ⟨Nat.le_of_ble_eq_true rfl, rfl, rfl⟩ rfl ?_
    exact loop 62 0 _ (by omega) (by omega) (by omega) (by rw [up2_ss]; omega) (fun k hk => up2_sn _ _ _ hk) (fun k k1 k2 => by omega) (fun x x1 x2 => up2_n _ _ _ x1)
set_option maxRecDepth 100000 in
set_option maxHeartbeats 1000000 in
theorem c_X11_type {c : Int} (hG : Gr mr) (hc : rng c) (h : RepM mi ((n, m, A, B, Z), hs, tl, T)) : C1 yX11_type cX11_type 2 (some .int) 1 SH mi mr [vr 62, vi c] (PoM (opType (n, m, A, B, Z) hs tl T c) mi mr) := by
  have hT := h.2.2.2
  have hl := hT.1
  have htl := hT.2.2.1
  simp only at hT hl htl
  refine Ct.ofV (ini := false) [some (vr 62), some (vi c)] km_X11_type (by decide) rfl (Nat.le_of_ble_eq_true rfl) ?_
  by_cases hin : 32 ≤ c ∧ c ≤ 126
  · have eo : opType (n, m, A, B, Z) hs tl T c = if 60 ≤ tl then (-1000003, (n, m, A, B, Z), hs, tl, T) else (tl + 1, (n, m, A, B, Z), hs, tl + 1, fset T tl c) := by unfold opType; rw [if_neg (not_not_intro hin)]
    rw [eo]
    have e1 : (if 32 ≤ c ∧ c ≤ 126 then (1 : Int) else 0) = 1 := if_pos hin
    refine V_iload_n dX11_type_0 rfl ?_
    refine V_bipush dX11_type_1 (by decide) ?_
    refine V_bipush dX11_type_3 (by decide) ?_
    refine V_callSP dX11_type_5 ml_RX11_48 km_X11_in ks_X11_in (c_X11_in (v := c) (a := 32) (b := 126) (by omega) (by omega) (by omega)) rfl rfl (Nat.le_of_ble_eq_true rfl) ⟨Nat.le_of_ble_eq_true rfl, Nat.le_of_ble_eq_true rfl⟩ ⟨Nat.le_of_ble_eq_true rfl, Nat.le_of_ble_eq_true rfl⟩ ?_
    rw [e1]
    refine V_if_ne 14 dX11_type_8 (by decide) (by omega) (fun _ => ?_) (fun h8 => absurd h8 ((by decide)))
    refine V_aload_n dX11_type_14 rfl ?_
    refine V_geti 5 dX11_type_15 fl_RX11_158 (by first | with_reducible assumption | rfl) rfl rfl ?_
    rw [hl]
    refine V_bipush dX11_type_18 (by decide) ?_
    refine V_icmp_ne 26 dX11_type_20 (by decide) (by omega) (by omega) (fun h20 => ?_) (fun h20 => ?_)
    · refine V_aload_n dX11_type_26 rfl ?_
      refine V_getr 4 _ dX11_type_27 fl_RX11_19 (by first | with_reducible assumption | rfl) rfl rfl (by exact (hG.at rfl : mr 62 4 = some 66)) ?_
      refine V_aload_n dX11_type_30 rfl ?_
      refine V_geti 5 dX11_type_31 fl_RX11_158 (by first | with_reducible assumption | rfl) rfl rfl ?_
      rw [hl]
      refine V_iload_n dX11_type_34 rfl ?_
      refine V_i2c dX11_type_35 (by omega) ?_
      refine V_cast dX11_type_36 (by first | with_reducible assumption | rfl) (by decide) (by omega) (by omega) ?_
      refine V_aload_n dX11_type_37 rfl ?_
      refine V_dup dX11_type_38 rfl ?_
      refine V_geti 5 dX11_type_39 fl_RX11_158 (by first | with_reducible assumption | rfl) rfl rfl ?_
      rw [up2_n _ _ _ (by decide), hl]
      refine V_iconst dX11_type_42 ?_
      refine V_iadd dX11_type_43 ?_
      refine V_puti 5 dX11_type_44 fl_RX11_158 (by first | with_reducible assumption | rfl) rfl rfl rfl ?_
      refine V_aload_n dX11_type_47 rfl ?_
      refine V_geti 5 dX11_type_48 fl_RX11_158 (by first | with_reducible assumption | rfl) rfl rfl ?_
      rw [up2_ss]
      refine V_iret dX11_type_51 rfl ⟨Nat.le_of_ble_eq_true rfl, Nat.le_of_ble_eq_true rfl⟩ ?_
      rw [if_neg (show ¬ 60 ≤ tl by omega)]
      refine ⟨rfl, _, rfl, rfl, rfl, ⟨by rw [up2_n _ _ _ (by decide), up2_n _ _ _ (by decide)]; exact h.1, h.2.1, h.2.2.1.keep (by rw [up2_sn _ _ _ (by decide), up2_n _ _ _ (by decide)]) (by rw [up2_n _ _ _ (by decide), up2_n _ _ _ (by decide)]), up2_ss _ _ _ _, fun i i1 i2 => by rw [up2_n _ _ _ (by decide)]; exact fset_at (n := tl + 1) (k := tl + 1) (fun j j1 j2 j3 => hT.2.1 j j1 (by omega)) (by omega) i i1 i2, hT.2.2.add (by omega) hin⟩, fun x hx => by rw [up2_n _ _ _ (by omega), up2_n _ _ _ (by omega)]⟩
    · refine V_ldc (-1000003) dX11_type_23 kc_RX11_61 rfl ?_
      refine V_iret dX11_type_25 rfl ⟨Nat.le_of_ble_eq_true rfl, Nat.le_of_ble_eq_true rfl⟩ ?_
      exact ⟨rfl, _, rfl, by rw [if_pos (by omega)], rfl, by rw [if_pos (by omega)]; exact h, fun _ _ => rfl⟩
  · have eo : opType (n, m, A, B, Z) hs tl T c = (-1000001, (n, m, A, B, Z), hs, tl, T) := by unfold opType; rw [if_pos hin]
    rw [eo]
    have e1 : (if 32 ≤ c ∧ c ≤ 126 then (1 : Int) else 0) = 0 := if_neg hin
    refine V_iload_n dX11_type_0 rfl ?_
    refine V_bipush dX11_type_1 (by decide) ?_
    refine V_bipush dX11_type_3 (by decide) ?_
    refine V_callSP dX11_type_5 ml_RX11_48 km_X11_in ks_X11_in (c_X11_in (v := c) (a := 32) (b := 126) (by omega) (by omega) (by omega)) rfl rfl (Nat.le_of_ble_eq_true rfl) ⟨Nat.le_of_ble_eq_true rfl, Nat.le_of_ble_eq_true rfl⟩ ⟨Nat.le_of_ble_eq_true rfl, Nat.le_of_ble_eq_true rfl⟩ ?_
    rw [e1]
    refine V_if_ne 14 dX11_type_8 (by decide) (by omega) (fun h8 => absurd h8 ((by decide))) (fun _ => ?_)
    refine V_ldc (-1000001) dX11_type_11 kc_RX11_56 rfl ?_
    refine V_iret dX11_type_13 rfl ⟨Nat.le_of_ble_eq_true rfl, Nat.le_of_ble_eq_true rfl⟩ ?_
    exact ⟨rfl, _, rfl, rfl, rfl, h, fun _ _ => rfl⟩
set_option maxRecDepth 100000 in
set_option maxHeartbeats 1000000 in
theorem c_X11_clearText (hG : Gr mr) (h : RepM mi ((n, m, A, B, Z), hs, tl, T)) : C1 yX11_clearText cX11_clearText 2 (some .int) 0 SH mi mr [vr 62] (PoM (opClear (n, m, A, B, Z) hs tl) mi mr) := by
  have hl := h.2.2.2.1
  simp only at hl
  refine Ct.ofV (ini := false) [some (vr 62), none] km_X11_clearText (by decide) rfl (Nat.le_of_ble_eq_true rfl) ?_
  refine V_aload_n dX11_clearText_0 rfl ?_
  refine V_geti 5 dX11_clearText_1 fl_RX11_158 (by first | with_reducible assumption | rfl) rfl rfl ?_
  rw [hl]
  refine S_istore_n (ls' := [_, _]) dX11_clearText_4 ⟨Nat.le_of_ble_eq_true rfl, rfl, rfl⟩ rfl ?_
  refine V_aload_n dX11_clearText_5 rfl ?_
  refine V_iconst dX11_clearText_6 ?_
  refine V_puti 5 dX11_clearText_7 fl_RX11_158 (by first | with_reducible assumption | rfl) rfl rfl rfl ?_
  refine V_iload_n dX11_clearText_10 rfl ?_
  refine V_iret dX11_clearText_11 rfl ⟨Nat.le_of_ble_eq_true rfl, Nat.le_of_ble_eq_true rfl⟩ ?_
  refine ⟨rfl, _, rfl, rfl, rfl, ⟨by rw [up2_n _ _ _ (by decide)]; exact h.1, h.2.1, h.2.2.1.keep (by rw [up2_sn _ _ _ (by decide)]) (by rw [up2_n _ _ _ (by decide)]), up2_ss _ _ _ _, fun i i1 i2 => absurd i2 (by simp only [opClear]; omega), ⟨by simp [opClear], fun i i1 i2 => absurd i2 (by simp only [opClear]; omega), fun i _ => rfl⟩⟩, fun x hx => by rw [up2_n _ _ _ (by omega)]⟩
/-- reaches that are laid down -/
def RchM (mi : MI) (A B : Int → Int) (d kk : Int) : Prop := ∀ d' k', lat d' k' → (d' < d ∨ (d' = d ∧ k' < kk)) → mi 67 (113 * d' + k' + 56) = fI A B d' k'
set_option maxRecDepth 100000 in
theorem c_X11_reached {d k : Int} (hG : Gr mr) (hd : 0 ≤ d ∧ d ≤ 56) (hk : -56 ≤ k ∧ k ≤ 56) : CP yX11_reached cX11_reached 3 (some .int) 0 SH mi mr [vr 62, vi d, vi k] (vi (mi 67 (113 * d + k + 56))) := by
  refine Ct.ofV (ini := false) [some (vr 62), some (vi d), some (vi k)] km_X11_reached (by decide) rfl (Nat.le_of_ble_eq_true rfl) ?_
  refine V_aload_n dX11_reached_0 rfl ?_
  refine V_getr 10 _ dX11_reached_1 fl_RX11_23 (by first | with_reducible assumption | rfl) rfl rfl (by first | with_reducible assumption | exact hG.at rfl) ?_
  refine V_bipush dX11_reached_4 (by decide) ?_
  refine V_iload_n dX11_reached_6 rfl ?_
  refine V_imul dX11_reached_7 ?_
  refine V_iload_n dX11_reached_8 rfl ?_
  refine V_iadd dX11_reached_9 ?_
  refine V_bipush dX11_reached_10 (by decide) ?_
  refine V_iadd dX11_reached_12 ?_
  refine V_iald dX11_reached_13 (by first | with_reducible assumption | rfl) (by decide) (by omega) ?_
  refine V_iret dX11_reached_14 rfl ⟨Nat.le_of_ble_eq_true rfl, Nat.le_of_ble_eq_true rfl⟩ ?_
  exact ⟨rfl, rfl, rfl, rfl⟩
set_option maxRecDepth 100000 in
theorem c_X11_putsIn {d k kk : Int} (hG : Gr mr) (hA : NR n A) (hB : NR m B) (h : RchM mi A B d kk) (hl : lat d k) (h0 : 0 < d) : CP yX11_putsIn cX11_putsIn 3 (some .boolean) 1 SH mi mr [vr 62, vi d, vi k] (vi (if k = -d ∨ (k ≠ d ∧ fI A B (d - 1) (k - 1) < fI A B (d - 1) (k + 1)) then 1 else 0)) := by
  have r1 := fI_rr hA hB (d - 1) (k - 1) (by omega)
  have r2 := fI_rr hA hB (d - 1) (k + 1) (by omega)
  have e1 : k ≠ -d → k ≠ d → mi 67 (113 * (d - 1) + (k - 1) + 56) = fI A B (d - 1) (k - 1) := fun g1 g2 => h _ _ (by omega) (by omega)
  have e2 : k ≠ -d → k ≠ d → mi 67 (113 * (d - 1) + (k + 1) + 56) = fI A B (d - 1) (k + 1) := fun g1 g2 => h _ _ (by omega) (by omega)
  refine Ct.ofV (ini := false) [some (vr 62), some (vi d), some (vi k)] km_X11_putsIn (by decide) rfl (Nat.le_of_ble_eq_true rfl) ?_
  refine V_iload_n dX11_putsIn_0 rfl ?_
  refine V_iload_n dX11_putsIn_1 rfl ?_
  refine V_ineg dX11_putsIn_2 ?_
  refine V_icmp_eq 34 dX11_putsIn_3 (by decide) (by omega) (by omega) (fun h3 => ?_) (fun h3 => ?_)
  · refine V_iconst dX11_putsIn_34 ?_
    refine V_goto 39 dX11_putsIn_35 (by decide) ?_
    refine V_zret dX11_putsIn_39 rfl ⟨Nat.le_of_ble_eq_true rfl, Nat.le_of_ble_eq_true rfl⟩ (by first | exact Or.inl rfl | exact Or.inr rfl | omega) ?_
    exact ⟨rfl, svi (by first | rw [if_pos (by omega)] | rw [if_neg (by omega)]), rfl, rfl⟩
  · refine V_iload_n dX11_putsIn_6 rfl ?_
    refine V_iload_n dX11_putsIn_7 rfl ?_
    refine V_icmp_eq 38 dX11_putsIn_8 (by decide) (by omega) (by omega) (fun h8 => ?_) (fun h8 => ?_)
    · refine V_iconst dX11_putsIn_38 ?_
      refine V_zret dX11_putsIn_39 rfl ⟨Nat.le_of_ble_eq_true rfl, Nat.le_of_ble_eq_true rfl⟩ (by first | exact Or.inl rfl | exact Or.inr rfl | omega) ?_
      exact ⟨rfl, svi (by first | rw [if_pos (by omega)] | rw [if_neg (by omega)]), rfl, rfl⟩
    · refine V_aload_n dX11_putsIn_11 rfl ?_
      refine V_iload_n dX11_putsIn_12 rfl ?_
      refine V_iconst dX11_putsIn_13 ?_
      refine V_isub dX11_putsIn_14 ?_
      refine V_iload_n dX11_putsIn_15 rfl ?_
      refine V_iconst dX11_putsIn_16 ?_
      refine V_isub dX11_putsIn_17 ?_
      refine V_callVP dX11_putsIn_18 ml_RX11_78 km_X11_reached kv_X11_reached (c_X11_reached (d := d - 1) (k := k - 1) hG (by omega) (by omega)) (by first | with_reducible assumption | rfl) rfl rfl rfl (Nat.le_of_ble_eq_true rfl) ⟨Nat.le_of_ble_eq_true rfl, Nat.le_of_ble_eq_true rfl⟩ ⟨Nat.le_of_ble_eq_true rfl, Nat.le_of_ble_eq_true rfl⟩ ?_
      rw [e1 (by omega) (by omega)]
      refine V_aload_n dX11_putsIn_21 rfl ?_
      refine V_iload_n dX11_putsIn_22 rfl ?_
      refine V_iconst dX11_putsIn_23 ?_
      refine V_isub dX11_putsIn_24 ?_
      refine V_iload_n dX11_putsIn_25 rfl ?_
      refine V_iconst dX11_putsIn_26 ?_
      refine V_iadd dX11_putsIn_27 ?_
      refine V_callVP dX11_putsIn_28 ml_RX11_78 km_X11_reached kv_X11_reached (c_X11_reached (d := d - 1) (k := k + 1) hG (by omega) (by omega)) (by first | with_reducible assumption | rfl) rfl rfl rfl (Nat.le_of_ble_eq_true rfl) ⟨Nat.le_of_ble_eq_true rfl, Nat.le_of_ble_eq_true rfl⟩ ⟨Nat.le_of_ble_eq_true rfl, Nat.le_of_ble_eq_true rfl⟩ ?_
      rw [e2 (by omega) (by omega)]
      refine V_icmp_ge 38 dX11_putsIn_31 (by decide) (by omega) (by omega) (fun h31 => ?_) (fun h31 => ?_)
      · refine V_iconst dX11_putsIn_38 ?_
        refine V_zret dX11_putsIn_39 rfl ⟨Nat.le_of_ble_eq_true rfl, Nat.le_of_ble_eq_true rfl⟩ (by first | exact Or.inl rfl | exact Or.inr rfl | omega) ?_
        exact ⟨rfl, svi (by first | rw [if_pos (by omega)] | rw [if_neg (by omega)]), rfl, rfl⟩
      · refine V_iconst dX11_putsIn_34 ?_
        refine V_goto 39 dX11_putsIn_35 (by decide) ?_
        refine V_zret dX11_putsIn_39 rfl ⟨Nat.le_of_ble_eq_true rfl, Nat.le_of_ble_eq_true rfl⟩ (by first | exact Or.inl rfl | exact Or.inr rfl | omega) ?_
        exact ⟨rfl, svi (by first | rw [if_pos (by omega)] | rw [if_neg (by omega)]), rfl, rfl⟩
set_option maxRecDepth 100000 in
set_option maxHeartbeats 1000000 in
theorem c_X11_lays {d k : Int} (hG : Gr mr) (hR : RowM (mi 63) (n, m, A, B, Z)) (hA : NR n A) (hB : NR m B) (h : RchM mi A B d k) (hl : lat d k) : C0 yX11_lays cX11_lays 4 none 3 SH mi mr [vr 62, vi d, vi k] (fun mi' mr' => mr' = mr ∧ mi' = up2 mi 67 (113 * d + k + 56) (fI A B d k)) := by
  have hb := bI_rr hA hB d k (by omega)
  have tail : V (RX11, cX11_lays, 4, rm 3, false, none, none) (fun r sh' mi' mr' => sh' = SH ∧ r = none ∧ mr' = mr ∧ mi' = up2 mi 67 (113 * d + k + 56) (fI A B d k)) 0 0 SH mi mr [some (vr 62), some (vi d), some (vi k), some (vi (bI A B d k))] [] 43 := by
    refine V_aload_n dX11_lays_43 rfl ?_
    refine V_getr 10 _ dX11_lays_44 fl_RX11_23 (by first | with_reducible assumption | rfl) rfl rfl (by first | with_reducible assumption | exact hG.at rfl) ?_
    refine V_bipush dX11_lays_47 (by decide) ?_
    refine V_iload_n dX11_lays_49 rfl ?_
    refine V_imul dX11_lays_50 ?_
    refine V_iload_n dX11_lays_51 rfl ?_
    refine V_iadd dX11_lays_52 ?_
    refine V_bipush dX11_lays_53 (by decide) ?_
    refine V_iadd dX11_lays_55 ?_
    refine V_iload_n dX11_lays_56 rfl ?_
    refine V_aload_n dX11_lays_57 rfl ?_
    refine V_iload_n dX11_lays_58 rfl ?_
    refine V_iload_n dX11_lays_59 rfl ?_
    refine V_iload_n dX11_lays_60 rfl ?_
    refine V_isub dX11_lays_61 ?_
    refine V_callVP dX11_lays_62 ml_RX11_75 km_X11_alikeFrom kv_X11_alikeFrom (c_X11_alikeFrom (x := bI A B d k) (y := bI A B d k - k) hG hR hA hB (by omega) (by omega)) (by first | with_reducible assumption | rfl) rfl rfl rfl (Nat.le_of_ble_eq_true rfl) ⟨Nat.le_of_ble_eq_true rfl, Nat.le_of_ble_eq_true rfl⟩ ⟨Nat.le_of_ble_eq_true rfl, Nat.le_of_ble_eq_true rfl⟩ ?_
    refine V_iadd dX11_lays_65 ?_
    refine V_iast dX11_lays_66 (by first | with_reducible assumption | rfl) (by decide) (by omega) ?_
    refine V_vret dX11_lays_67 rfl ⟨Nat.le_of_ble_eq_true rfl, Nat.le_of_ble_eq_true rfl⟩ ?_
    exact ⟨rfl, rfl, rfl, by rw [← fI_eq]⟩
  refine Ct.ofV (ini := false) [some (vr 62), some (vi d), some (vi k), none] km_X11_lays (by decide) rfl (Nat.le_of_ble_eq_true rfl) ?_
  by_cases h0 : d = 0
  · have eb : bI A B d k = 0 := by unfold bI; rw [if_pos (by omega)]
    rw [eb] at tail
    refine V_iload_n dX11_lays_0 rfl ?_
    refine V_if_ne 8 dX11_lays_1 (by decide) (by omega) (fun h1 => absurd h1 ((not_not_intro h0))) (fun _ => ?_)
    refine V_iconst dX11_lays_4 ?_
    refine V_goto 42 dX11_lays_5 (by decide) ?_
    refine S_istore_n (ls' := [_, _, _, _]) dX11_lays_42 ⟨Nat.le_of_ble_eq_true rfl, rfl, rfl⟩ rfl ?_
    exact tail
  · by_cases hp : k = -d ∨ (k ≠ d ∧ fI A B (d - 1) (k - 1) < fI A B (d - 1) (k + 1))
    · have eb : bI A B d k = fI A B (d - 1) (k + 1) := by rw [bI_pos (by omega), if_pos hp]
      have e1 : (if k = -d ∨ (k ≠ d ∧ fI A B (d - 1) (k - 1) < fI A B (d - 1) (k + 1)) then (1 : Int) else 0) = 1 := if_pos hp
      have e2 : mi 67 (113 * (d - 1) + (k + 1) + 56) = fI A B (d - 1) (k + 1) := h _ _ (by omega) (by omega)
      rw [eb] at tail
      refine V_iload_n dX11_lays_0 rfl ?_
      refine V_if_ne 8 dX11_lays_1 (by decide) (by omega) (fun _ => ?_) (fun h1 => absurd h1 (h0))
      refine V_aload_n dX11_lays_8 rfl ?_
      refine V_iload_n dX11_lays_9 rfl ?_
      refine V_iload_n dX11_lays_10 rfl ?_
      refine V_callVP dX11_lays_11 ml_RX11_81 km_X11_putsIn kv_X11_putsIn (c_X11_putsIn hG hA hB h hl (by omega)) (by first | with_reducible assumption | rfl) rfl rfl rfl (Nat.le_of_ble_eq_true rfl) ⟨Nat.le_of_ble_eq_true rfl, Nat.le_of_ble_eq_true rfl⟩ ⟨Nat.le_of_ble_eq_true rfl, Nat.le_of_ble_eq_true rfl⟩ ?_
      rw [e1]
      refine V_if_eq 30 dX11_lays_14 (by decide) (by omega) (fun h14 => absurd h14 ((by decide))) (fun _ => ?_)
      refine V_aload_n dX11_lays_17 rfl ?_
      refine V_iload_n dX11_lays_18 rfl ?_
      refine V_iconst dX11_lays_19 ?_
      refine V_isub dX11_lays_20 ?_
      refine V_iload_n dX11_lays_21 rfl ?_
      refine V_iconst dX11_lays_22 ?_
      refine V_iadd dX11_lays_23 ?_
      refine V_callVP dX11_lays_24 ml_RX11_78 km_X11_reached kv_X11_reached (c_X11_reached (d := d - 1) (k := k + 1) hG (by omega) (by omega)) (by first | with_reducible assumption | rfl) rfl rfl rfl (Nat.le_of_ble_eq_true rfl) ⟨Nat.le_of_ble_eq_true rfl, Nat.le_of_ble_eq_true rfl⟩ ⟨Nat.le_of_ble_eq_true rfl, Nat.le_of_ble_eq_true rfl⟩ ?_
      rw [e2]
      refine V_goto 42 dX11_lays_27 (by decide) ?_
      refine S_istore_n (ls' := [_, _, _, _]) dX11_lays_42 ⟨Nat.le_of_ble_eq_true rfl, rfl, rfl⟩ rfl ?_
      exact tail
    · have eb : bI A B d k = fI A B (d - 1) (k - 1) + 1 := by rw [bI_pos (by omega), if_neg hp]
      have e1 : (if k = -d ∨ (k ≠ d ∧ fI A B (d - 1) (k - 1) < fI A B (d - 1) (k + 1)) then (1 : Int) else 0) = 0 := if_neg hp
      have e2 : mi 67 (113 * (d - 1) + (k - 1) + 56) = fI A B (d - 1) (k - 1) := h _ _ (by omega) (by omega)
      rw [eb] at tail
      refine V_iload_n dX11_lays_0 rfl ?_
      refine V_if_ne 8 dX11_lays_1 (by decide) (by omega) (fun _ => ?_) (fun h1 => absurd h1 (h0))
      refine V_aload_n dX11_lays_8 rfl ?_
      refine V_iload_n dX11_lays_9 rfl ?_
      refine V_iload_n dX11_lays_10 rfl ?_
      refine V_callVP dX11_lays_11 ml_RX11_81 km_X11_putsIn kv_X11_putsIn (c_X11_putsIn hG hA hB h hl (by omega)) (by first | with_reducible assumption | rfl) rfl rfl rfl (Nat.le_of_ble_eq_true rfl) ⟨Nat.le_of_ble_eq_true rfl, Nat.le_of_ble_eq_true rfl⟩ ⟨Nat.le_of_ble_eq_true rfl, Nat.le_of_ble_eq_true rfl⟩ ?_
      rw [e1]
      refine V_if_eq 30 dX11_lays_14 (by decide) (by omega) (fun _ => ?_) (fun h14 => absurd h14 ((by decide)))
      refine V_aload_n dX11_lays_30 rfl ?_
      refine V_iload_n dX11_lays_31 rfl ?_
      refine V_iconst dX11_lays_32 ?_
      refine V_isub dX11_lays_33 ?_
      refine V_iload_n dX11_lays_34 rfl ?_
      refine V_iconst dX11_lays_35 ?_
      refine V_isub dX11_lays_36 ?_
      refine V_callVP dX11_lays_37 ml_RX11_78 km_X11_reached kv_X11_reached (c_X11_reached (d := d - 1) (k := k - 1) hG (by omega) (by omega)) (by first | with_reducible assumption | rfl) rfl rfl rfl (Nat.le_of_ble_eq_true rfl) ⟨Nat.le_of_ble_eq_true rfl, Nat.le_of_ble_eq_true rfl⟩ ⟨Nat.le_of_ble_eq_true rfl, Nat.le_of_ble_eq_true rfl⟩ ?_
      rw [e2]
      refine V_iconst dX11_lays_40 ?_
      refine V_iadd dX11_lays_41 ?_
      refine S_istore_n (ls' := [_, _, _, _]) dX11_lays_42 ⟨Nat.le_of_ble_eq_true rfl, rfl, rfl⟩ rfl ?_
      exact tail
set_option maxRecDepth 100000 in
set_option maxHeartbeats 1000000 in
theorem l_X11_finds {Q : PQ} (hG : Gr mr) (hA : NR n A) (hB : NR m B) (d : Int) (hd : 0 ≤ d ∧ d ≤ 56)
    (kk : ∀ (mi' : MI) (o3 : Option AV), RchM mi' A B (d + 1) (-(d + 1)) → RowM (mi' 63) (n, m, A, B, Z) → mi' 62 11 = d → (∀ j, j ≠ 11 → mi' 62 j = mi 62 j) → (∀ x, x ≠ 62 → x ≠ 67 → mi' x = mi x) → V (RX11, cX11_finds, 4, rm 4, false, none, (some .int)) Q 0 0 SH mi' mr [some (vr 62), some (vi (n - m)), some (vi 0), o3] [] 64) :
    ∀ (t : Nat) (k : Int) (mi' : MI), -d ≤ k → (d + k) % 2 = 0 → k ≤ d + 2 → d + 2 - k < t → RchM mi' A B d k → RowM (mi' 63) (n, m, A, B, Z) → mi' 62 11 = d → (∀ j, j ≠ 11 → mi' 62 j = mi 62 j) → (∀ x, x ≠ 62 → x ≠ 67 → mi' x = mi x) → V (RX11, cX11_finds, 4, rm 4, false, none, (some .int)) Q 0 0 SH mi' mr [some (vr 62), some (vi (n - m)), some (vi 0), some (vi k)] [] 41 := by
  intro t
  induction t with
  | zero => intro k mi' a1 a2 a3 a4; omega
  | succ t ih =>
    intro k mi' a1 a2 a3 a4 a5 a6 a7 a8 a9
    refine V_iload_n dX11_finds_41 rfl ?_
    refine V_aload_n dX11_finds_42 rfl ?_
    refine V_geti 11 dX11_finds_43 fl_RX11_84 (by first | with_reducible assumption | rfl) rfl rfl ?_
    rw [a7]
    refine V_icmp_gt 64 dX11_finds_46 (by decide) (by omega) (by omega) (fun h46 => ?_) (fun h46 => ?_)
    · exact kk mi' _ (fun d' k' hl hd' => a5 d' k' hl (by omega)) a6 a7 a8 a9
    · refine V_aload_n dX11_finds_49 rfl ?_
      refine V_aload_n dX11_finds_50 rfl ?_
      refine V_geti 11 dX11_finds_51 fl_RX11_84 (by first | with_reducible assumption | rfl) rfl rfl ?_
      rw [a7]
      refine V_iload_n dX11_finds_54 rfl ?_
      refine V_callV0 dX11_finds_55 ml_RX11_87 km_X11_lays kv_X11_lays (c_X11_lays (d := d) (k := k) hG a6 hA hB a5 ⟨by omega, by omega, by omega, by omega, a2⟩) (by first | with_reducible assumption | rfl) rfl rfl rfl (Nat.le_of_ble_eq_true rfl) ⟨Nat.le_of_ble_eq_true rfl, Nat.le_of_ble_eq_true rfl⟩ ⟨Nat.le_of_ble_eq_true rfl, Nat.le_of_ble_eq_true rfl⟩ ?_
      rintro mi2 mr2 ⟨rfl, rfl⟩
      refine S_iinc (ls' := [_, _, _, _]) dX11_finds_58 rfl ⟨rfl, rfl⟩ rfl ?_
      refine V_goto 41 dX11_finds_61 (by decide) ?_
      refine ih (k + 2) _ (by omega) (by omega) (by omega) (by omega) (fun d' k' hl' hd' => ?_) (by rw [up2_n _ _ _ (by decide)]; exact a6) (by rw [up2_n _ _ _ (by decide)]; exact a7) (fun j hj => by rw [up2_n _ _ _ (by decide)]; exact a8 j hj) (fun x x1 x2 => by rw [up2_n _ _ _ x2]; exact a9 x x1 x2)
      by_cases he : d' = d ∧ k' = k
      · obtain ⟨rfl, rfl⟩ := he
        rw [up2_ss]
      · rw [up2_sn _ _ _ (by omega)]
        exact a5 d' k' hl' (by omega)
set_option maxRecDepth 100000 in
set_option maxHeartbeats 1000000 in
theorem c_X11_finds (hG : Gr mr) (hR : RowM (mi 63) (n, m, A, B, Z)) (hA : NR n A) (hB : NR m B) (hD : isD n m A B D) : C1 yX11_finds cX11_finds 4 (some .int) 4 SH mi mr [vr 62] (fun v mi' mr' => v = vi D ∧ mr' = mr ∧ mi' 62 11 = D ∧ RchM mi' A B (D + 1) (-(D + 1)) ∧ (∀ j, j ≠ 11 → mi' 62 j = mi 62 j) ∧ ∀ x, x ≠ 62 → x ≠ 67 → mi' x = mi x) := by
  have hDr := isD_nn hD
  have hn := hA.1
  have hm := hB.1
  have q0 := hR.1.1
  have q1 := hR.1.2
  simp only at q0 q1
  have fin : ∀ (mi' : MI) (o3 : Option AV), mi' 62 11 = D → RchM mi' A B (D + 1) (-(D + 1)) → (∀ j, j ≠ 11 → mi' 62 j = mi 62 j) → (∀ x, x ≠ 62 → x ≠ 67 → mi' x = mi x) → V (RX11, cX11_finds, 4, rm 4, false, none, (some .int)) (fun r sh' mi' mr' => sh' = SH ∧ ∃ v, r = some v ∧ v = vi D ∧ mr' = mr ∧ mi' 62 11 = D ∧ RchM mi' A B (D + 1) (-(D + 1)) ∧ (∀ j, j ≠ 11 → mi' 62 j = mi 62 j) ∧ ∀ x, x ≠ 62 → x ≠ 67 → mi' x = mi x) 0 0 SH mi' mr [some (vr 62), some (vi (n - m)), some (vi 1), o3] [] 21 := by
    intro mi' o3 a1 a2 a3 a4
    refine V_iload_n dX11_finds_21 rfl ?_
    refine V_if_ne 118 dX11_finds_22 (by decide) (by omega) (fun _ => ?_) (fun h22 => absurd h22 ((by decide)))
    refine V_aload_n dX11_finds_118 rfl ?_
    refine V_geti 11 dX11_finds_119 fl_RX11_84 (by first | with_reducible assumption | rfl) rfl rfl ?_
    rw [a1]
    refine V_iret dX11_finds_122 rfl ⟨Nat.le_of_ble_eq_true rfl, Nat.le_of_ble_eq_true rfl⟩ ?_
    exact ⟨rfl, _, rfl, rfl, rfl, a1, a2, a3, a4⟩
  have loop : ∀ (t : Nat) (d : Int) (mi' : MI) (o3 : Option AV), 0 ≤ d → d ≤ D → D - d < t → RchM mi' A B d (-d) → RowM (mi' 63) (n, m, A, B, Z) → mi' 62 11 = d - 1 → (∀ j, j ≠ 11 → mi' 62 j = mi 62 j) → (∀ x, x ≠ 62 → x ≠ 67 → mi' x = mi x) → V (RX11, cX11_finds, 4, rm 4, false, none, (some .int)) (fun r sh' mi' mr' => sh' = SH ∧ ∃ v, r = some v ∧ v = vi D ∧ mr' = mr ∧ mi' 62 11 = D ∧ RchM mi' A B (D + 1) (-(D + 1)) ∧ (∀ j, j ≠ 11 → mi' 62 j = mi 62 j) ∧ ∀ x, x ≠ 62 → x ≠ 67 → mi' x = mi x) 0 0 SH mi' mr [some (vr 62), some (vi (n - m)), some (vi 0), o3] [] 21 := by
    intro t
    induction t with
    | zero => intro d mi' o3 a1 a2 a3; omega
    | succ t ih =>
      intro d mi' o3 a1 a2 a3 a4 a5 a6 a7 a8
      refine V_iload_n dX11_finds_21 rfl ?_
      refine V_if_ne 118 dX11_finds_22 (by decide) (by omega) (fun h22 => absurd h22 ((by decide))) (fun _ => ?_)
      refine V_aload_n dX11_finds_25 rfl ?_
      refine V_dup dX11_finds_26 rfl ?_
      refine V_geti 11 dX11_finds_27 fl_RX11_84 (by first | with_reducible assumption | rfl) rfl rfl ?_
      rw [a6]
      refine V_iconst dX11_finds_30 ?_
      refine V_iadd dX11_finds_31 ?_
      refine V_puti 11 dX11_finds_32 fl_RX11_84 (by first | with_reducible assumption | rfl) rfl rfl rfl ?_
      rw [show d - 1 + 1 = d by omega]
      refine V_aload_n dX11_finds_35 rfl ?_
      refine V_geti 11 dX11_finds_36 fl_RX11_84 (by first | with_reducible assumption | rfl) rfl rfl ?_
      rw [up2_ss]
      refine V_ineg dX11_finds_39 ?_
      refine S_istore_n (ls' := [_, _, _, _]) dX11_finds_40 ⟨Nat.le_of_ble_eq_true rfl, rfl, rfl⟩ rfl ?_
      refine l_X11_finds (mi := mi) hG hA hB d ⟨a1, by omega⟩ (fun mi2 o4 g1 g2 g3 g4 g5 => ?_) (2 * d.toNat + 3) (-d) _ (by omega) (by omega) (by omega) (by omega) (fun d' k' hl hd' => by rw [up2_n _ _ _ (by decide)]; exact a4 d' k' hl hd') (by rw [up2_n _ _ _ (by decide)]; exact a5) (up2_ss _ _ _ _) (fun j hj => by rw [up2_sn _ _ _ hj]; exact a7 j hj) (fun x x1 x2 => by rw [up2_n _ _ _ x1]; exact a8 x x1 x2)
      have hit2 : hit n m A B d ↔ ((-d ≤ n - m ∧ n - m ≤ d) ∧ (n - m + d) % 2 = 0 ∧ n ≤ fI A B d (n - m)) := by unfold hit; constructor <;> (intro hc; omega)
      have hfr := fI_rr hA hB d (n - m) a1
      have q0' : mi2 63 0 = n := g2.1.1
      refine V_iload_n dX11_finds_64 rfl ?_
      refine V_aload_n dX11_finds_65 rfl ?_
      refine V_geti 11 dX11_finds_66 fl_RX11_84 (by first | with_reducible assumption | rfl) rfl rfl ?_
      rw [g3]
      refine V_ineg dX11_finds_69 ?_
      refine V_aload_n dX11_finds_70 rfl ?_
      refine V_geti 11 dX11_finds_71 fl_RX11_84 (by first | with_reducible assumption | rfl) rfl rfl ?_
      rw [g3]
      refine V_callSP dX11_finds_74 ml_RX11_48 km_X11_in ks_X11_in (c_X11_in (v := n - m) (a := -d) (b := d) (by omega) (by omega) (by omega)) rfl rfl (Nat.le_of_ble_eq_true rfl) ⟨Nat.le_of_ble_eq_true rfl, Nat.le_of_ble_eq_true rfl⟩ ⟨Nat.le_of_ble_eq_true rfl, Nat.le_of_ble_eq_true rfl⟩ ?_
      refine V_if_eq 113 dX11_finds_77 (by decide) (by split <;> omega) (fun h77 => ?_) (fun h77 => ?_)
      · rw [ifz] at h77
        have hno : ¬ hit n m A B d := fun hc => h77 (hit2.mp hc).1
        refine V_iconst dX11_finds_113 ?_
        refine S_istore_n (ls' := [_, _, _, _]) dX11_finds_114 ⟨Nat.le_of_ble_eq_true rfl, rfl, rfl⟩ rfl ?_
        refine V_goto 21 dX11_finds_115 (by decide) ?_
        first | exact fin mi2 _ (by omega) (by rw [← hdD]; exact g1) g4 g5 | exact ih (d + 1) mi2 _ (by omega) (by have hne : d ≠ D := (fun hc => hno (by rw [hc]; exact hD.2.1)); omega) (by omega) g1 g2 (by omega) g4 g5
      · rw [ifz, Decidable.not_not] at h77
        refine V_iload_n dX11_finds_80 rfl ?_
        refine V_aload_n dX11_finds_81 rfl ?_
        refine V_geti 11 dX11_finds_82 fl_RX11_84 (by first | with_reducible assumption | rfl) rfl rfl ?_
        rw [g3]
        refine V_iadd dX11_finds_85 ?_
        refine V_iconst dX11_finds_86 ?_
        refine V_irem dX11_finds_87 (by omega) (by omega) ?_
        refine V_if_ne 113 dX11_finds_88 (by decide) (by omega) (fun h88 => ?_) (fun h88 => ?_)
        · have hno : ¬ hit n m A B d := fun hc => by have := hit2.mp hc; omega
          refine V_iconst dX11_finds_113 ?_
          refine S_istore_n (ls' := [_, _, _, _]) dX11_finds_114 ⟨Nat.le_of_ble_eq_true rfl, rfl, rfl⟩ rfl ?_
          refine V_goto 21 dX11_finds_115 (by decide) ?_
          first | exact fin mi2 _ (by omega) (by rw [← hdD]; exact g1) g4 g5 | exact ih (d + 1) mi2 _ (by omega) (by have hne : d ≠ D := (fun hc => hno (by rw [hc]; exact hD.2.1)); omega) (by omega) g1 g2 (by omega) g4 g5
        · refine V_aload_n dX11_finds_91 rfl ?_
          refine V_aload_n dX11_finds_92 rfl ?_
          refine V_geti 11 dX11_finds_93 fl_RX11_84 (by first | with_reducible assumption | rfl) rfl rfl ?_
          rw [g3]
          refine V_iload_n dX11_finds_96 rfl ?_
          refine V_callVP dX11_finds_97 ml_RX11_78 km_X11_reached kv_X11_reached (c_X11_reached (d := d) (k := n - m) hG (by omega) (by omega)) (by first | with_reducible assumption | rfl) rfl rfl rfl (Nat.le_of_ble_eq_true rfl) ⟨Nat.le_of_ble_eq_true rfl, Nat.le_of_ble_eq_true rfl⟩ ⟨Nat.le_of_ble_eq_true rfl, Nat.le_of_ble_eq_true rfl⟩ ?_
          rw [g1 d (n - m) (by omega) (by omega)]
          refine V_aload_n dX11_finds_100 rfl ?_
          refine V_getr 0 _ dX11_finds_101 fl_RX11_7 (by first | with_reducible assumption | rfl) rfl rfl (by first | with_reducible assumption | exact hG.at rfl) ?_
          refine V_iconst dX11_finds_104 ?_
          refine V_iald dX11_finds_105 (by first | with_reducible assumption | rfl) (by decide) (by omega) ?_
          rw [q0']
          refine V_icmp_lt 113 dX11_finds_106 (by decide) (by omega) (by omega) (fun h106 => ?_) (fun h106 => ?_)
          · have hno : ¬ hit n m A B d := fun hc => by have := hit2.mp hc; omega
            refine V_iconst dX11_finds_113 ?_
            refine S_istore_n (ls' := [_, _, _, _]) dX11_finds_114 ⟨Nat.le_of_ble_eq_true rfl, rfl, rfl⟩ rfl ?_
            refine V_goto 21 dX11_finds_115 (by decide) ?_
            first | exact fin mi2 _ (by omega) (by rw [← hdD]; exact g1) g4 g5 | exact ih (d + 1) mi2 _ (by omega) (by have hne : d ≠ D := (fun hc => hno (by rw [hc]; exact hD.2.1)); omega) (by omega) g1 g2 (by omega) g4 g5
          · have hh : hit n m A B d := hit2.mpr ⟨h77, by omega, by omega⟩
            have hdD : d = D := by
              by_cases hc : d < D
              · exact absurd hh (hD.2.2 d hc)
              · omega
            refine V_iconst dX11_finds_109 ?_
            refine V_goto 114 dX11_finds_110 (by decide) ?_
            refine S_istore_n (ls' := [_, _, _, _]) dX11_finds_114 ⟨Nat.le_of_ble_eq_true rfl, rfl, rfl⟩ rfl ?_
            refine V_goto 21 dX11_finds_115 (by decide) ?_
            first | exact fin mi2 _ (by omega) (by rw [← hdD]; exact g1) g4 g5 | exact ih (d + 1) mi2 _ (by omega) (by have hne : d ≠ D := (fun hc => hno (by rw [hc]; exact hD.2.1)); omega) (by omega) g1 g2 (by omega) g4 g5
  refine Ct.ofV (ini := false) [some (vr 62), none, none, none] km_X11_finds (by decide) rfl (Nat.le_of_ble_eq_true rfl) ?_
  refine V_aload_n dX11_finds_0 rfl ?_
  refine V_getr 0 _ dX11_finds_1 fl_RX11_7 (by first | with_reducible assumption | rfl) rfl rfl (by first | with_reducible assumption | exact hG.at rfl) ?_
  refine V_iconst dX11_finds_4 ?_
  refine V_iald dX11_finds_5 (by first | with_reducible assumption | rfl) (by decide) (by omega) ?_
  rw [q0]
  refine V_aload_n dX11_finds_6 rfl ?_
  refine V_getr 0 _ dX11_finds_7 fl_RX11_7 (by first | with_reducible assumption | rfl) rfl rfl (by first | with_reducible assumption | exact hG.at rfl) ?_
  refine V_iconst dX11_finds_10 ?_
  refine V_iald dX11_finds_11 (by first | with_reducible assumption | rfl) (by decide) (by omega) ?_
  rw [q1]
  refine V_isub dX11_finds_12 ?_
  refine S_istore_n (ls' := [_, _, _, _]) dX11_finds_13 ⟨Nat.le_of_ble_eq_true rfl, rfl, rfl⟩ rfl ?_
  refine V_aload_n dX11_finds_14 rfl ?_
  refine V_iconst dX11_finds_15 ?_
  refine V_puti 11 dX11_finds_16 fl_RX11_84 (by first | with_reducible assumption | rfl) rfl rfl rfl ?_
  refine V_iconst dX11_finds_19 ?_
  refine S_istore_n (ls' := [_, _, _, _]) dX11_finds_20 ⟨Nat.le_of_ble_eq_true rfl, rfl, rfl⟩ rfl ?_
  exact loop 57 0 _ _ (by omega) (by omega) (by omega) (fun d' k' hl hd' => by omega) (by rw [up2_n _ _ _ (by decide)]; exact hR) (by rw [up2_ss]; omega) (fun j hj => up2_sn _ _ _ hj) (fun x x1 x2 => up2_n _ _ _ x1)
set_option maxRecDepth 100000 in
set_option maxHeartbeats 1000000 in
theorem c_X11_reach {e k : Int} (hG : Gr mr) (hD : isD n m A B D) (he : rng e) (hk : rng k) (h : RepM mi ((n, m, A, B, Z), hs, tl, T)) : C1 yX11_reach cX11_reach 3 (some .int) 5 SH mi mr [vr 62, vi e, vi k] (PoM (opReach D n m A B Z (hs, tl, T) e k) mi mr) := by
  have hR := h.1
  have hS := h.2.1
  have hDr := isD_nn hD
  simp only at hR
  refine Ct.ofV (ini := false) [some (vr 62), some (vi e), some (vi k)] km_X11_reach (by decide) rfl (Nat.le_of_ble_eq_true rfl) ?_
  by_cases hin : (0 ≤ e ∧ e ≤ 56) ∧ -56 ≤ k ∧ k ≤ 56
  · have eo : opReach D n m A B Z (hs, tl, T) e k = (if D < e then -1000004 else if lat e k then fI A B e k else -1000004, (n, m, A, B, Z), hs, tl, T) := by
      unfold opReach; rw [if_neg (not_not_intro hin)]
    rw [eo]
    have e1 : (if 0 ≤ e ∧ e ≤ 56 then (1 : Int) else 0) = 1 := if_pos hin.1
    have e2 : (if -56 ≤ k ∧ k ≤ 56 then (1 : Int) else 0) = 1 := if_pos hin.2
    have nfv : ¬ lat e k → (if D < e then (-1000004 : Int) else if lat e k then fI A B e k else -1000004) = -1000004 := fun hc => by rw [if_neg hc]; split <;> rfl
    refine V_iload_n dX11_reach_0 rfl ?_
    refine V_iconst dX11_reach_1 ?_
    refine V_bipush dX11_reach_2 (by decide) ?_
    refine V_callSP dX11_reach_4 ml_RX11_48 km_X11_in ks_X11_in (c_X11_in (v := e) (a := 0) (b := 56) (by omega) (by omega) (by omega)) rfl rfl (Nat.le_of_ble_eq_true rfl) ⟨Nat.le_of_ble_eq_true rfl, Nat.le_of_ble_eq_true rfl⟩ ⟨Nat.le_of_ble_eq_true rfl, Nat.le_of_ble_eq_true rfl⟩ ?_
    rw [e1]
    refine V_if_eq 21 dX11_reach_7 (by decide) (by omega) (fun h7 => absurd h7 ((by decide))) (fun _ => ?_)
    refine V_iload_n dX11_reach_10 rfl ?_
    refine V_bipush dX11_reach_11 (by decide) ?_
    refine V_bipush dX11_reach_13 (by decide) ?_
    refine V_callSP dX11_reach_15 ml_RX11_48 km_X11_in ks_X11_in (c_X11_in (v := k) (a := -56) (b := 56) (by omega) (by omega) (by omega)) rfl rfl (Nat.le_of_ble_eq_true rfl) ⟨Nat.le_of_ble_eq_true rfl, Nat.le_of_ble_eq_true rfl⟩ ⟨Nat.le_of_ble_eq_true rfl, Nat.le_of_ble_eq_true rfl⟩ ?_
    rw [e2]
    refine V_if_ne 24 dX11_reach_18 (by decide) (by omega) (fun _ => ?_) (fun h18 => absurd h18 ((by decide)))
    refine V_iload_n dX11_reach_24 rfl ?_
    refine V_iload_n dX11_reach_25 rfl ?_
    refine V_ineg dX11_reach_26 ?_
    refine V_iload_n dX11_reach_27 rfl ?_
    refine V_callSP dX11_reach_28 ml_RX11_48 km_X11_in ks_X11_in (c_X11_in (v := k) (a := -e) (b := e) (by omega) (by omega) (by omega)) rfl rfl (Nat.le_of_ble_eq_true rfl) ⟨Nat.le_of_ble_eq_true rfl, Nat.le_of_ble_eq_true rfl⟩ ⟨Nat.le_of_ble_eq_true rfl, Nat.le_of_ble_eq_true rfl⟩ ?_
    refine V_if_eq 50 dX11_reach_31 (by decide) (by split <;> omega) (fun h31 => ?_) (fun h31 => ?_)
    · rw [ifz] at h31
      have hfin : vi (-1000004) = vi (if D < e then (-1000004 : Int) else if lat e k then fI A B e k else -1000004) ∧ mr = mr ∧ RepM mi ((n, m, A, B, Z), hs, tl, T) ∧ ∀ x, x < 62 → mi x = mi x := ⟨by rw [nfv (fun hc => h31 ⟨by omega, by omega⟩)], rfl, h, fun _ _ => rfl⟩
      refine V_ldc (-1000004) dX11_reach_50 kc_RX11_70 rfl ?_
      refine V_iret dX11_reach_52 rfl ⟨Nat.le_of_ble_eq_true rfl, Nat.le_of_ble_eq_true rfl⟩ ?_
      exact ⟨rfl, _, rfl, hfin⟩
    · rw [ifz, Decidable.not_not] at h31
      refine V_iload_n dX11_reach_34 rfl ?_
      refine V_iload_n dX11_reach_35 rfl ?_
      refine V_iadd dX11_reach_36 ?_
      refine V_iconst dX11_reach_37 ?_
      refine V_irem dX11_reach_38 (by omega) (by omega) ?_
      refine V_if_ne 50 dX11_reach_39 (by decide) (by omega) (fun h39 => ?_) (fun h39 => ?_)
      · have hfin : vi (-1000004) = vi (if D < e then (-1000004 : Int) else if lat e k then fI A B e k else -1000004) ∧ mr = mr ∧ RepM mi ((n, m, A, B, Z), hs, tl, T) ∧ ∀ x, x < 62 → mi x = mi x := ⟨by rw [nfv (fun hc => by omega)], rfl, h, fun _ _ => rfl⟩
        refine V_ldc (-1000004) dX11_reach_50 kc_RX11_70 rfl ?_
        refine V_iret dX11_reach_52 rfl ⟨Nat.le_of_ble_eq_true rfl, Nat.le_of_ble_eq_true rfl⟩ ?_
        exact ⟨rfl, _, rfl, hfin⟩
      · refine V_iload_n dX11_reach_42 rfl ?_
        refine V_aload_n dX11_reach_43 rfl ?_
        refine V_callV1 dX11_reach_44 ml_RX11_91 km_X11_finds kv_X11_finds (c_X11_finds hG hR hS.1 hS.2.1 hD) (by first | with_reducible assumption | rfl) rfl rfl rfl (Nat.le_of_ble_eq_true rfl) ⟨Nat.le_of_ble_eq_true rfl, Nat.le_of_ble_eq_true rfl⟩ ⟨Nat.le_of_ble_eq_true rfl, Nat.le_of_ble_eq_true rfl⟩ ?_
        rintro v mi2 mr2 ⟨rfl, rfl, k1, k2, k3, k4⟩
        have hkeep : RepM mi2 ((n, m, A, B, Z), hs, tl, T) ∧ ∀ x, x < 62 → mi2 x = mi x := ⟨h.keep (k3 3 (by decide)) (k3 5 (by decide)) (fun x hx => k4 x (by omega) (by omega)), fun x hx => k4 x (by omega) (by omega)⟩
        refine V_icmp_le 53 dX11_reach_47 (by decide) (by omega) (by omega) (fun h47 => ?_) (fun h47 => ?_)
        · have hl : lat e k := ⟨by omega, by omega, by omega, by omega, by omega⟩
          refine V_aload_n dX11_reach_53 rfl ?_
          refine V_iload_n dX11_reach_54 rfl ?_
          refine V_iload_n dX11_reach_55 rfl ?_
          refine V_callVP dX11_reach_56 ml_RX11_78 km_X11_reached kv_X11_reached (c_X11_reached (d := e) (k := k) hG (by omega) (by omega)) (by first | with_reducible assumption | rfl) rfl rfl rfl (Nat.le_of_ble_eq_true rfl) ⟨Nat.le_of_ble_eq_true rfl, Nat.le_of_ble_eq_true rfl⟩ ⟨Nat.le_of_ble_eq_true rfl, Nat.le_of_ble_eq_true rfl⟩ ?_
          rw [k2 e k hl (by omega)]
          refine V_iret dX11_reach_59 rfl ⟨Nat.le_of_ble_eq_true rfl, Nat.le_of_ble_eq_true rfl⟩ ?_
          exact ⟨rfl, _, rfl, by rw [if_neg (show ¬ D < e by omega), if_pos hl], rfl, hkeep⟩
        · have hfin : vi (-1000004) = vi (if D < e then (-1000004 : Int) else if lat e k then fI A B e k else -1000004) ∧ mr2 = mr2 ∧ RepM mi2 ((n, m, A, B, Z), hs, tl, T) ∧ ∀ x, x < 62 → mi2 x = mi x := ⟨by rw [if_pos (show D < e by omega)], rfl, hkeep⟩
          refine V_ldc (-1000004) dX11_reach_50 kc_RX11_70 rfl ?_
          refine V_iret dX11_reach_52 rfl ⟨Nat.le_of_ble_eq_true rfl, Nat.le_of_ble_eq_true rfl⟩ ?_
          exact ⟨rfl, _, rfl, hfin⟩
  · have eo : opReach D n m A B Z (hs, tl, T) e k = (-1000001, (n, m, A, B, Z), hs, tl, T) := by unfold opReach; rw [if_pos hin]
    rw [eo]
    refine V_iload_n dX11_reach_0 rfl ?_
    refine V_iconst dX11_reach_1 ?_
    refine V_bipush dX11_reach_2 (by decide) ?_
    refine V_callSP dX11_reach_4 ml_RX11_48 km_X11_in ks_X11_in (c_X11_in (v := e) (a := 0) (b := 56) (by omega) (by omega) (by omega)) rfl rfl (Nat.le_of_ble_eq_true rfl) ⟨Nat.le_of_ble_eq_true rfl, Nat.le_of_ble_eq_true rfl⟩ ⟨Nat.le_of_ble_eq_true rfl, Nat.le_of_ble_eq_true rfl⟩ ?_
    refine V_if_eq 21 dX11_reach_7 (by decide) (by split <;> omega) (fun h7 => ?_) (fun h7 => ?_)
    · refine V_ldc (-1000001) dX11_reach_21 kc_RX11_56 rfl ?_
      refine V_iret dX11_reach_23 rfl ⟨Nat.le_of_ble_eq_true rfl, Nat.le_of_ble_eq_true rfl⟩ ?_
      exact ⟨rfl, _, rfl, rfl, rfl, h, fun _ _ => rfl⟩
    · refine V_iload_n dX11_reach_10 rfl ?_
      refine V_bipush dX11_reach_11 (by decide) ?_
      refine V_bipush dX11_reach_13 (by decide) ?_
      refine V_callSP dX11_reach_15 ml_RX11_48 km_X11_in ks_X11_in (c_X11_in (v := k) (a := -56) (b := 56) (by omega) (by omega) (by omega)) rfl rfl (Nat.le_of_ble_eq_true rfl) ⟨Nat.le_of_ble_eq_true rfl, Nat.le_of_ble_eq_true rfl⟩ ⟨Nat.le_of_ble_eq_true rfl, Nat.le_of_ble_eq_true rfl⟩ ?_
      refine V_if_ne 24 dX11_reach_18 (by decide) (by split <;> omega) (fun h18 => ?_) (fun h18 => ?_)
      · exact absurd (by rw [ifz] at h7 h18; rw [Decidable.not_not] at h7 h18; exact ⟨h7, h18⟩) hin
      · refine V_ldc (-1000001) dX11_reach_21 kc_RX11_56 rfl ?_
        refine V_iret dX11_reach_23 rfl ⟨Nat.le_of_ble_eq_true rfl, Nat.le_of_ble_eq_true rfl⟩ ?_
        exact ⟨rfl, _, rfl, rfl, rfl, h, fun _ _ => rfl⟩
set_option maxRecDepth 100000 in
set_option maxHeartbeats 1000000 in
theorem c_X11_distance (hG : Gr mr) (hD : isD n m A B D) (h : RepM mi ((n, m, A, B, Z), hs, tl, T)) : C1 yX11_distance cX11_distance 2 (some .int) 5 SH mi mr [vr 62] (PoM (opDistance D n m A B Z (hs, tl, T)) mi mr) := by
  have hR := h.1
  have hS := h.2.1
  have hDr := isD_nn hD
  have hz := hS.2.2.1
  simp only at hR hz
  refine Ct.ofV (ini := false) [some (vr 62), none] km_X11_distance (by decide) rfl (Nat.le_of_ble_eq_true rfl) ?_
  refine V_aload_n dX11_distance_0 rfl ?_
  refine V_callV1 dX11_distance_1 ml_RX11_91 km_X11_finds kv_X11_finds (c_X11_finds hG hR hS.1 hS.2.1 hD) (by first | with_reducible assumption | rfl) rfl rfl rfl (Nat.le_of_ble_eq_true rfl) ⟨Nat.le_of_ble_eq_true rfl, Nat.le_of_ble_eq_true rfl⟩ ⟨Nat.le_of_ble_eq_true rfl, Nat.le_of_ble_eq_true rfl⟩ ?_
  rintro v mi2 mr2 ⟨rfl, rfl, k1, k2, k3, k4⟩
  have hkeep : RepM mi2 ((n, m, A, B, Z), hs, tl, T) ∧ ∀ x, x < 62 → mi2 x = mi x := ⟨h.keep (k3 3 (by decide)) (k3 5 (by decide)) (fun x hx => k4 x (by omega) (by omega)), fun x hx => k4 x (by omega) (by omega)⟩
  have ez : mi2 63 2 = Z 0 := hkeep.1.1.2.1 0 (by decide) (by decide)
  refine S_istore_n (ls' := [_, _]) dX11_distance_4 ⟨Nat.le_of_ble_eq_true rfl, rfl, rfl⟩ rfl ?_
  refine V_iload_n dX11_distance_5 rfl ?_
  refine V_aload_n dX11_distance_6 rfl ?_
  refine V_getr 0 _ dX11_distance_7 fl_RX11_7 (by first | with_reducible assumption | rfl) rfl rfl (by first | with_reducible assumption | exact hG.at rfl) ?_
  refine V_iconst dX11_distance_10 ?_
  refine V_iald dX11_distance_11 (by first | with_reducible assumption | rfl) (by decide) (by omega) ?_
  rw [ez]
  refine V_icmp_le 20 dX11_distance_12 (by decide) (by omega) (by omega) (fun h12 => ?_) (fun h12 => ?_)
  · refine V_iload_n dX11_distance_20 rfl ?_
    refine V_iret dX11_distance_21 rfl ⟨Nat.le_of_ble_eq_true rfl, Nat.le_of_ble_eq_true rfl⟩ ?_
    exact ⟨rfl, _, rfl, by unfold opDistance; first | rw [if_pos (by omega)] | rw [if_neg (by omega)], rfl, hkeep⟩
  · refine V_ldc (-1000003) dX11_distance_15 kc_RX11_61 rfl ?_
    refine V_goto 21 dX11_distance_17 (by decide) ?_
    refine V_iret dX11_distance_21 rfl ⟨Nat.le_of_ble_eq_true rfl, Nat.le_of_ble_eq_true rfl⟩ ?_
    exact ⟨rfl, _, rfl, by unfold opDistance; first | rw [if_pos (by omega)] | rw [if_neg (by omega)], rfl, hkeep⟩
set_option maxRecDepth 100000 in
set_option maxHeartbeats 1000000 in
theorem c_X11_longest (hG : Gr mr) (hR : RowM (mi 63) (n, m, A, B, Z)) (hA : NR n A) (hB : NR m B) : CP yX11_longest cX11_longest 5 (some .int) 3 SH mi mr [vr 62] (vi (lgA m.toNat A B n.toNat)) := by
  have hn := hA.1
  have hm := hB.1
  have q0 := hR.1.1
  have q1 := hR.1.2
  simp only at q0 q1
  have lr : ∀ (x : Int) (t : Nat), 0 ≤ lgR A B x t ∧ lgR A B x t ≤ 28 := by
    intro x t
    induction t with
    | zero => simp [lgR]
    | succ t ih =>
      have := sn_r A B x t
      simp only [lgR]
      omega
  have la : ∀ (s : Nat), 0 ≤ lgA m.toNat A B s ∧ lgA m.toNat A B s ≤ 28 := by
    intro s
    induction s with
    | zero => simp [lgA]
    | succ s ih =>
      have := lr s m.toNat
      simp only [lgA]
      omega
  have inner : ∀ (Q : PQ) (x : Nat), (x : Int) < n → (∀ o3 o4, V (RX11, cX11_longest, 5, rm 3, false, none, (some .int)) Q 0 0 SH mi mr [some (vr 62), some (vi (lgA m.toNat A B (x + 1))), some (vi x), o3, o4] [] 53) → ∀ (t y : Nat) (o4 : Option AV), (y : Int) ≤ m → m - y < t → V (RX11, cX11_longest, 5, rm 3, false, none, (some .int)) Q 0 0 SH mi mr [some (vr 62), some (vi (max (lgA m.toNat A B x) (lgR A B x y))), some (vi x), some (vi y), o4] [] 16 := by
    intro Q x hx kk t
    induction t with
    | zero => intro y o4 a1 a2; omega
    | succ t ih =>
      intro y o4 a1 a2
      have h1 := lr x y
      have h2 := la x
      have h3 := sn_r A B x y
      have e1 : lgR A B x (y + 1) = max (lgR A B x y) (sn A B x y) := rfl
      refine V_iload_n dX11_longest_16 rfl ?_
      refine V_aload_n dX11_longest_17 rfl ?_
      refine V_getr 0 _ dX11_longest_18 fl_RX11_7 (by first | with_reducible assumption | rfl) rfl rfl (by first | with_reducible assumption | exact hG.at rfl) ?_
      refine V_iconst dX11_longest_21 ?_
      refine V_iald dX11_longest_22 (by first | with_reducible assumption | rfl) (by decide) (by omega) ?_
      rw [q1]
      refine V_icmp_ge 53 dX11_longest_23 (by decide) (by omega) (by omega) (fun h23 => ?_) (fun h23 => ?_)
      · have := kk (some (vi y)) o4
        rw [show lgA m.toNat A B (x + 1) = max (lgA m.toNat A B x) (lgR A B x y) by rw [show y = m.toNat by omega]; rfl] at this
        exact this
      · refine V_aload_n dX11_longest_26 rfl ?_
        refine V_iload_n dX11_longest_27 rfl ?_
        refine V_iload_n dX11_longest_28 rfl ?_
        refine V_callVP dX11_longest_29 ml_RX11_75 km_X11_alikeFrom kv_X11_alikeFrom (c_X11_alikeFrom (x := x) (y := y) hG hR hA hB (by omega) (by omega)) (by first | with_reducible assumption | rfl) rfl rfl rfl (Nat.le_of_ble_eq_true rfl) ⟨Nat.le_of_ble_eq_true rfl, Nat.le_of_ble_eq_true rfl⟩ ⟨Nat.le_of_ble_eq_true rfl, Nat.le_of_ble_eq_true rfl⟩ ?_
        refine S_istore (ls' := [_, _, _, _, _]) dX11_longest_32 ⟨Nat.le_of_ble_eq_true rfl, rfl, rfl⟩ rfl ?_
        refine V_iload dX11_longest_34 rfl ?_
        refine V_iload_n dX11_longest_36 rfl ?_
        refine V_icmp_le 45 dX11_longest_37 (by decide) (by omega) (by omega) (fun h37 => ?_) (fun h37 => ?_)
        · refine V_iload_n dX11_longest_45 rfl ?_
          refine S_istore_n (ls' := [_, _, _, _, _]) dX11_longest_46 ⟨Nat.le_of_ble_eq_true rfl, rfl, rfl⟩ rfl ?_
          refine S_iinc (ls' := [_, _, _, _, _]) dX11_longest_47 rfl ⟨rfl, rfl⟩ rfl ?_
          refine V_goto 16 dX11_longest_50 (by decide) ?_
          have hgo := ih (y + 1) (some (vi (sn A B x y))) (by omega) (by omega)
          rw [e1] at hgo
          first | (rw [show max (lgA m.toNat A B x) (max (lgR A B x y) (sn A B x y)) = sn A B x y by omega] at hgo; exact hgo) | (rw [show max (lgA m.toNat A B x) (max (lgR A B x y) (sn A B x y)) = max (lgA m.toNat A B x) (lgR A B x y) by omega] at hgo; exact hgo)
        · refine V_iload dX11_longest_40 rfl ?_
          refine V_goto 46 dX11_longest_42 (by decide) ?_
          refine S_istore_n (ls' := [_, _, _, _, _]) dX11_longest_46 ⟨Nat.le_of_ble_eq_true rfl, rfl, rfl⟩ rfl ?_
          refine S_iinc (ls' := [_, _, _, _, _]) dX11_longest_47 rfl ⟨rfl, rfl⟩ rfl ?_
          refine V_goto 16 dX11_longest_50 (by decide) ?_
          have hgo := ih (y + 1) (some (vi (sn A B x y))) (by omega) (by omega)
          rw [e1] at hgo
          first | (rw [show max (lgA m.toNat A B x) (max (lgR A B x y) (sn A B x y)) = sn A B x y by omega] at hgo; exact hgo) | (rw [show max (lgA m.toNat A B x) (max (lgR A B x y) (sn A B x y)) = max (lgA m.toNat A B x) (lgR A B x y) by omega] at hgo; exact hgo)
  have outer : ∀ (t x : Nat) (o3 o4 : Option AV), (x : Int) ≤ n → n - x < t → V (RX11, cX11_longest, 5, rm 3, false, none, (some .int)) (fun r sh' mi' mr' => sh' = SH ∧ r = some (vi (lgA m.toNat A B n.toNat)) ∧ mi' = mi ∧ mr' = mr) 0 0 SH mi mr [some (vr 62), some (vi (lgA m.toNat A B x)), some (vi x), o3, o4] [] 4 := by
    intro t
    induction t with
    | zero => intro x o3 o4 a1 a2; omega
    | succ t ih =>
      intro x o3 o4 a1 a2
      have h2 := la x
      refine V_iload_n dX11_longest_4 rfl ?_
      refine V_aload_n dX11_longest_5 rfl ?_
      refine V_getr 0 _ dX11_longest_6 fl_RX11_7 (by first | with_reducible assumption | rfl) rfl rfl (by first | with_reducible assumption | exact hG.at rfl) ?_
      refine V_iconst dX11_longest_9 ?_
      refine V_iald dX11_longest_10 (by first | with_reducible assumption | rfl) (by decide) (by omega) ?_
      rw [q0]
      refine V_icmp_ge 59 dX11_longest_11 (by decide) (by omega) (by omega) (fun h11 => ?_) (fun h11 => ?_)
      · refine V_iload_n dX11_longest_59 rfl ?_
        refine V_iret dX11_longest_60 rfl ⟨Nat.le_of_ble_eq_true rfl, Nat.le_of_ble_eq_true rfl⟩ ?_
        exact ⟨rfl, by rw [show n.toNat = x by omega], rfl, rfl⟩
      · refine V_iconst dX11_longest_14 ?_
        refine S_istore_n (ls' := [_, _, _, _, _]) dX11_longest_15 ⟨Nat.le_of_ble_eq_true rfl, rfl, rfl⟩ rfl ?_
        have hgo := inner (fun r sh' mi' mr' => sh' = SH ∧ r = some (vi (lgA m.toNat A B n.toNat)) ∧ mi' = mi ∧ mr' = mr) x (by omega) (fun o3 o4 => ?_) (m.toNat + 1) 0 o4 (by omega) (by omega)
        · rw [show max (lgA m.toNat A B x) (lgR A B x 0) = lgA m.toNat A B x by simp only [lgR]; omega] at hgo
          exact hgo
        · refine S_iinc (ls' := [_, _, _, _, _]) dX11_longest_53 rfl ⟨rfl, rfl⟩ rfl ?_
          refine V_goto 4 dX11_longest_56 (by decide) ?_
          exact ih (x + 1) _ _ (by omega) (by omega)
  refine Ct.ofV (ini := false) [some (vr 62), none, none, none, none] km_X11_longest (by decide) rfl (Nat.le_of_ble_eq_true rfl) ?_
  refine V_iconst dX11_longest_0 ?_
  refine S_istore_n (ls' := [_, _, _, _, _]) dX11_longest_1 ⟨Nat.le_of_ble_eq_true rfl, rfl, rfl⟩ rfl ?_
  refine V_iconst dX11_longest_2 ?_
  refine S_istore_n (ls' := [_, _, _, _, _]) dX11_longest_3 ⟨Nat.le_of_ble_eq_true rfl, rfl, rfl⟩ rfl ?_
  exact outer (n.toNat + 1) 0 _ _ (by omega) (by omega)
end MODEL5
