/-! ===== DiagonalTexts$State ===== -/
section STATE
variable {mi : MI} {mr : MR} {f fb g gb : Nat} {n m : Int} {A B : Int → Int}
set_option maxRecDepth 100000 in
theorem c_X9_isAlike {x y : Int} (hN : Now mi mr f fb g gb n m A B) (hx : rng x) (hy : rng y) : CP yX9_isAlike cX9_isAlike 4 (some .boolean) 1 SH mi mr [vr 1, vi x, vi y] (vi (if al A B x y then 1 else 0)) := by
  obtain ⟨⟨u1, u2, hG⟩, ⟨u4, u5, u6⟩, ⟨u7, u8, u9⟩, ⟨u10, u11, u12⟩, uA, uB, rA, rB⟩ := hN.u
  have rAx := rA x
  have rBy := rB y
  refine Ct.ofV (ini := false) [some (vr 1), some (vi x), some (vi y), none] km_X9_isAlike (by decide) rfl (Nat.le_of_ble_eq_true rfl) ?_
  refine V_aload_n dX9_isAlike_0 rfl ?_
  refine V_getr 0 _ dX9_isAlike_1 fl_RX9_14 (by first | with_reducible assumption | rfl) rfl rfl (by first | with_reducible assumption | exact hG.at rfl) ?_
  refine V_iload_n dX9_isAlike_4 rfl ?_
  refine V_callVP dX9_isAlike_5 ml_RX9_34 km_X7_at kv_X7_at (c_X7_at (i := x) hx u4 u5 u6 (by decide) (by omega)) (by first | with_reducible assumption | rfl) rfl rfl rfl (Nat.le_of_ble_eq_true rfl) ⟨Nat.le_of_ble_eq_true rfl, Nat.le_of_ble_eq_true rfl⟩ ⟨Nat.le_of_ble_eq_true rfl, Nat.le_of_ble_eq_true rfl⟩ ?_
  rw [uA x]
  refine S_istore_n (ls' := [_, _, _, _]) dX9_isAlike_8 ⟨Nat.le_of_ble_eq_true rfl, rfl, rfl⟩ rfl ?_
  refine V_iload_n dX9_isAlike_9 rfl ?_
  refine V_iconst dX9_isAlike_10 ?_
  refine V_icmp_eq 30 dX9_isAlike_11 (by decide) (by omega) (by omega) (fun h11 => ?_) (fun h11 => ?_)
  · refine V_iconst dX9_isAlike_30 ?_
    refine V_zret dX9_isAlike_31 rfl ⟨Nat.le_of_ble_eq_true rfl, Nat.le_of_ble_eq_true rfl⟩ (by first | exact Or.inl rfl | exact Or.inr rfl | omega) ?_
    exact ⟨rfl, svi (by split <;> first | rfl | (exfalso; omega)), rfl, rfl⟩
  · refine V_iload_n dX9_isAlike_14 rfl ?_
    refine V_aload_n dX9_isAlike_15 rfl ?_
    refine V_getr 1 _ dX9_isAlike_16 fl_RX9_20 (by first | with_reducible assumption | rfl) rfl rfl (by first | with_reducible assumption | exact hG.at rfl) ?_
    refine V_iload_n dX9_isAlike_19 rfl ?_
    refine V_callVP dX9_isAlike_20 ml_RX9_34 km_X7_at kv_X7_at (c_X7_at (i := y) hy u7 u8 u9 (by decide) (by omega)) (by first | with_reducible assumption | rfl) rfl rfl rfl (Nat.le_of_ble_eq_true rfl) ⟨Nat.le_of_ble_eq_true rfl, Nat.le_of_ble_eq_true rfl⟩ ⟨Nat.le_of_ble_eq_true rfl, Nat.le_of_ble_eq_true rfl⟩ ?_
    rw [uB y]
    refine V_icmp_ne 30 dX9_isAlike_23 (by decide) (by omega) (by omega) (fun h23 => ?_) (fun h23 => ?_)
    · refine V_iconst dX9_isAlike_30 ?_
      refine V_zret dX9_isAlike_31 rfl ⟨Nat.le_of_ble_eq_true rfl, Nat.le_of_ble_eq_true rfl⟩ (by first | exact Or.inl rfl | exact Or.inr rfl | omega) ?_
      exact ⟨rfl, svi (by split <;> first | rfl | (exfalso; omega)), rfl, rfl⟩
    · refine V_iconst dX9_isAlike_26 ?_
      refine V_goto 31 dX9_isAlike_27 (by decide) ?_
      refine V_zret dX9_isAlike_31 rfl ⟨Nat.le_of_ble_eq_true rfl, Nat.le_of_ble_eq_true rfl⟩ (by first | exact Or.inl rfl | exact Or.inr rfl | omega) ?_
      exact ⟨rfl, svi (by split <;> first | rfl | (exfalso; omega)), rfl, rfl⟩
set_option maxRecDepth 100000 in
theorem l_X9_alikeFrom {Q : PQ} {x y : Int} (hN : Now mi mr f fb g gb n m A B) (hx : -1000 ≤ x ∧ x ≤ 1000) (hy : -1000 ≤ y ∧ y ≤ 1000)
    (kk : ∀ j : Int, j = sn A B x y → V (RX9, cX9_alikeFrom, 4, rm 2, false, none, (some .int)) Q 0 0 SH mi mr [some (vr 1), some (vi x), some (vi y), some (vi j)] [] 27) :
    ∀ (t : Nat) (j : Int), j + t = 28 → 0 ≤ j → sn A B x y = j + snk A B t (x + j) (y + j) → V (RX9, cX9_alikeFrom, 4, rm 2, false, none, (some .int)) Q 0 0 SH mi mr [some (vr 1), some (vi x), some (vi y), some (vi j)] [] 2 := by
  intro t
  induction t with
  | zero =>
    intro j h1 h2 h3
    simp only [snk] at h3
    refine V_iload_n dX9_alikeFrom_2 rfl ?_
    refine V_bipush dX9_alikeFrom_3 (by decide) ?_
    refine V_icmp_ge 27 dX9_alikeFrom_5 (by decide) (by omega) (by omega) (fun h5 => ?_) (fun h5 => ?_)
    · exact kk j (by omega)
    · omega
  | succ t ih =>
    intro j h1 h2 h3
    refine V_iload_n dX9_alikeFrom_2 rfl ?_
    refine V_bipush dX9_alikeFrom_3 (by decide) ?_
    refine V_icmp_ge 27 dX9_alikeFrom_5 (by decide) (by omega) (by omega) (fun h5 => ?_) (fun h5 => ?_)
    · omega
    · refine V_aload_n dX9_alikeFrom_8 rfl ?_
      refine V_iload_n dX9_alikeFrom_9 rfl ?_
      refine V_iload_n dX9_alikeFrom_10 rfl ?_
      refine V_iadd dX9_alikeFrom_11 ?_
      refine V_iload_n dX9_alikeFrom_12 rfl ?_
      refine V_iload_n dX9_alikeFrom_13 rfl ?_
      refine V_iadd dX9_alikeFrom_14 ?_
      refine V_callVP dX9_alikeFrom_15 ml_RX9_38 km_X9_isAlike kv_X9_isAlike (c_X9_isAlike (x := x + j) (y := y + j) hN (by omega) (by omega)) (by first | with_reducible assumption | rfl) rfl rfl rfl (Nat.le_of_ble_eq_true rfl) ⟨Nat.le_of_ble_eq_true rfl, Nat.le_of_ble_eq_true rfl⟩ ⟨Nat.le_of_ble_eq_true rfl, Nat.le_of_ble_eq_true rfl⟩ ?_
      refine V_if_eq 27 dX9_alikeFrom_18 (by decide) (by split <;> omega) (fun h18 => ?_) (fun h18 => ?_)
      · refine kk j ?_
        have ha : ¬ al A B (x + j) (y + j) := fun ha => by rw [if_pos ha] at h18; omega
        simp only [snk] at h3
        rw [if_neg ha] at h3
        omega
      · refine S_iinc (ls' := [_, _, _, _]) dX9_alikeFrom_21 rfl ⟨rfl, rfl⟩ rfl ?_
        refine V_goto 2 dX9_alikeFrom_24 (by decide) ?_
        refine ih (j + 1) (by omega) (by omega) ?_
        have ha : al A B (x + j) (y + j) := Decidable.byContradiction fun ha => h18 (by rw [if_neg ha])
        simp only [snk] at h3
        rw [if_pos ha] at h3
        rw [show x + (j + 1) = x + j + 1 by omega, show y + (j + 1) = y + j + 1 by omega]
        omega
set_option maxRecDepth 100000 in
theorem c_X9_alikeFrom {x y : Int} (hN : Now mi mr f fb g gb n m A B) (hx : -1000 ≤ x ∧ x ≤ 1000) (hy : -1000 ≤ y ∧ y ≤ 1000) : CP yX9_alikeFrom cX9_alikeFrom 4 (some .int) 2 SH mi mr [vr 1, vi x, vi y] (vi (sn A B x y)) := by
  refine Ct.ofV (ini := false) [some (vr 1), some (vi x), some (vi y), none] km_X9_alikeFrom (by decide) rfl (Nat.le_of_ble_eq_true rfl) ?_
  refine V_iconst dX9_alikeFrom_0 ?_
  refine S_istore_n (ls' := [_, _, _, _]) dX9_alikeFrom_1 ⟨Nat.le_of_ble_eq_true rfl, rfl, rfl⟩ rfl ?_
  refine l_X9_alikeFrom hN hx hy (fun j hj => ?_) 28 0 (by omega) (by omega) (by simp [sn])
  refine V_iload_n dX9_alikeFrom_27 rfl ?_
  refine V_iret dX9_alikeFrom_28 rfl ⟨Nat.le_of_ble_eq_true rfl, Nat.le_of_ble_eq_true rfl⟩ ?_
  exact ⟨rfl, svi hj, rfl, rfl⟩
/-- the longest run from the places of the first t of the second row; of the first s of the first row, each with all m -/
def lgR (A B : Int → Int) (x : Int) : Nat → Int
  | 0 => 0
  | t + 1 => max (lgR A B x t) (sn A B x t)
def lgA (m : Nat) (A B : Int → Int) : Nat → Int
  | 0 => 0
  | s + 1 => max (lgA m A B s) (lgR A B s m)
theorem lgR_ge {A B : Int → Int} {x : Int} : ∀ {t : Nat} {y : Nat}, y < t → sn A B x y ≤ lgR A B x t
  | t + 1, y, h => by
    simp only [lgR]
    by_cases hy : y = t
    · subst hy; omega
    · have := lgR_ge (A := A) (B := B) (x := x) (t := t) (y := y) (by omega)
      omega
theorem lgA_ge {m : Nat} {A B : Int → Int} : ∀ {s : Nat} {x : Nat} {y : Nat}, x < s → y < m → sn A B x y ≤ lgA m A B s
  | s + 1, x, y, h, hy => by
    simp only [lgA]
    by_cases hx : x = s
    · subst hx
      have := lgR_ge (A := A) (B := B) (x := (x : Int)) hy
      omega
    · have := lgA_ge (m := m) (A := A) (B := B) (s := s) (x := x) (y := y) (by omega) hy
      omega
theorem lg_r (m : Nat) (A B : Int → Int) : ∀ (s : Nat), 0 ≤ lgA m A B s ∧ lgA m A B s ≤ 28
  | 0 => by simp [lgA]
  | s + 1 => by
    have h1 := lg_r m A B s
    have h2 : ∀ t : Nat, 0 ≤ lgR A B s t ∧ lgR A B s t ≤ 28 := by
      intro t
      induction t with
      | zero => simp [lgR]
      | succ t ih =>
        have := sn_r A B s t
        simp only [lgR]
        omega
    have h3 := h2 m
    simp only [lgA]
    omega
theorem lgR_r (A B : Int → Int) (x : Int) : ∀ (t : Nat), 0 ≤ lgR A B x t ∧ lgR A B x t ≤ 28
  | 0 => by simp [lgR]
  | t + 1 => by
    have h1 := lgR_r A B x t
    have := sn_r A B x t
    simp only [lgR]
    omega
/-- what goes on from the letters ahead is no longer than from there -/
theorem snk_mono (A B : Int → Int) : ∀ (t : Nat) (x y : Int), snk A B (t + 1) x y ≤ 1 + snk A B t x y
  | 0, x, y => by
    have := snk_r A B 1 x y
    simp only [snk] at this ⊢
    omega
  | t + 1, x, y => by
    have := snk_mono A B t (x + 1) (y + 1)
    rw [snk_s A B (t + 1) x y, snk_s A B t x y]
    split <;> omega
theorem sn_goes {A B : Int → Int} {x y : Int} (h : al A B (x - 1) (y - 1)) : sn A B x y ≤ sn A B (x - 1) (y - 1) := by
  have h1 := snk_mono A B 27 x y
  unfold sn
  have e : snk A B 28 (x - 1) (y - 1) = 1 + snk A B 27 (x - 1 + 1) (y - 1 + 1) := by
    rw [snk_s A B 27 (x - 1) (y - 1), if_pos h]
  rw [e, show x - 1 + 1 = x by omega, show y - 1 + 1 = y by omega]
  exact h1
set_option maxRecDepth 100000 in
theorem l_X9_longestAlike {Q : PQ} (hN : Now mi mr f fb g gb n m A B) (s : Nat) (hs : s < n)
    (kk : V (RX9, cX9_longestAlike, 4, rm 3, false, none, (some .int)) Q 0 0 SH mi mr [some (vr 1), some (vi (lgA m.toNat A B (s + 1))), some (vi s), some (vi m)] [] 58) :
    ∀ (u t : Nat), (t : Int) ≤ m → m - t < u → V (RX9, cX9_longestAlike, 4, rm 3, false, none, (some .int)) Q 0 0 SH mi mr [some (vr 1), some (vi (max (lgA m.toNat A B s) (lgR A B s t))), some (vi s), some (vi t)] [] 17 := by
  obtain ⟨⟨u1, u2, hG⟩, ⟨u4, u5, u6⟩, ⟨u7, u8, u9⟩, ⟨u10, u11, u12⟩, uA, uB, rA, rB⟩ := hN.u
  intro u
  induction u with
  | zero => intro t h1 h2; omega
  | succ u ih =>
    intro t h1 h2
    have rs := sn_r A B s t
    have r1 := lg_r m.toNat A B s
    have r2 := lgR_r A B s t
    have goal2 : max (max (lgA m.toNat A B s) (lgR A B s t)) (sn A B s t) = max (lgA m.toNat A B s) (lgR A B s (t + 1)) := by
      simp only [lgR]; omega
    refine V_iload_n dX9_longestAlike_17 rfl ?_
    refine V_aload_n dX9_longestAlike_18 rfl ?_
    refine V_getr 1 _ dX9_longestAlike_19 fl_RX9_20 (by first | with_reducible assumption | rfl) rfl rfl (by first | with_reducible assumption | exact hG.at rfl) ?_
    refine V_geti 1 dX9_longestAlike_22 fl_RX9_42 (by first | with_reducible assumption | rfl) rfl rfl ?_
    refine V_icmp_ge 58 dX9_longestAlike_25 (by decide) (by omega) (by omega) (fun h25 => ?_) (fun h25 => ?_)
    · have e : (t : Int) = m := by omega
      have e2 : t = m.toNat := by omega
      subst e2
      rw [← show max (lgA m.toNat A B s) (lgR A B s m.toNat) = lgA m.toNat A B (s + 1) from rfl, ← e] at kk
      simp only [Int.toNat_natCast] at kk
      exact kk
    · refine V_aload_n dX9_longestAlike_28 rfl ?_
      refine V_iload_n dX9_longestAlike_29 rfl ?_
      refine V_iconst dX9_longestAlike_30 ?_
      refine V_isub dX9_longestAlike_31 ?_
      refine V_iload_n dX9_longestAlike_32 rfl ?_
      refine V_iconst dX9_longestAlike_33 ?_
      refine V_isub dX9_longestAlike_34 ?_
      refine V_callVP dX9_longestAlike_35 ml_RX9_38 km_X9_isAlike kv_X9_isAlike (c_X9_isAlike (x := s - 1) (y := t - 1) hN (by omega) (by omega)) (by first | with_reducible assumption | rfl) rfl rfl rfl (Nat.le_of_ble_eq_true rfl) ⟨Nat.le_of_ble_eq_true rfl, Nat.le_of_ble_eq_true rfl⟩ ⟨Nat.le_of_ble_eq_true rfl, Nat.le_of_ble_eq_true rfl⟩ ?_
      refine V_if_ne 52 dX9_longestAlike_38 (by decide) (by split <;> omega) (fun h38 => ?_) (fun h38 => ?_)
      · have ha : al A B (s - 1) (t - 1) := Decidable.byContradiction fun ha => h38 (by rw [if_neg ha])
        have hin := al_in hN.2.2.2.2.2.2.1 hN.2.2.2.2.2.2.2 ha
        have hle := sn_goes ha
        have hge := lgA_ge (m := m.toNat) (A := A) (B := B) (s := s) (x := s - 1) (y := t - 1) (by omega) (by omega)
        rw [show ((s - 1 : Nat) : Int) = (s : Int) - 1 by omega, show ((t - 1 : Nat) : Int) = (t : Int) - 1 by omega] at hge
        rw [show max (lgA m.toNat A B s) (lgR A B s t) = max (lgA m.toNat A B s) (lgR A B s (t + 1)) by simp only [lgR]; omega]
        refine S_iinc (ls' := [_, _, _, _]) dX9_longestAlike_52 rfl ⟨rfl, rfl⟩ rfl ?_
        refine V_goto 17 dX9_longestAlike_55 (by decide) ?_
        exact ih (t + 1) (by omega) (by omega)
      · refine V_iload_n dX9_longestAlike_41 rfl ?_
        refine V_aload_n dX9_longestAlike_42 rfl ?_
        refine V_iload_n dX9_longestAlike_43 rfl ?_
        refine V_iload_n dX9_longestAlike_44 rfl ?_
        refine V_callVP dX9_longestAlike_45 ml_RX9_46 km_X9_alikeFrom kv_X9_alikeFrom (c_X9_alikeFrom (x := s) (y := t) hN (by omega) (by omega)) (by first | with_reducible assumption | rfl) rfl rfl rfl (Nat.le_of_ble_eq_true rfl) ⟨Nat.le_of_ble_eq_true rfl, Nat.le_of_ble_eq_true rfl⟩ ⟨Nat.le_of_ble_eq_true rfl, Nat.le_of_ble_eq_true rfl⟩ ?_
        refine V_mmax dX9_longestAlike_48 ml_RX9_50 (by omega) (by omega) ⟨Nat.le_of_ble_eq_true rfl, Nat.le_of_ble_eq_true rfl, Nat.le_of_ble_eq_true rfl, Nat.le_of_ble_eq_true rfl⟩ ?_
        rw [goal2]
        refine S_istore_n (ls' := [_, _, _, _]) dX9_longestAlike_51 ⟨Nat.le_of_ble_eq_true rfl, rfl, rfl⟩ rfl ?_
        refine S_iinc (ls' := [_, _, _, _]) dX9_longestAlike_52 rfl ⟨rfl, rfl⟩ rfl ?_
        refine V_goto 17 dX9_longestAlike_55 (by decide) ?_
        exact ih (t + 1) (by omega) (by omega)
set_option maxRecDepth 100000 in
theorem c_X9_longestAlike (hN : Now mi mr f fb g gb n m A B) : CP yX9_longestAlike cX9_longestAlike 4 (some .int) 3 SH mi mr [vr 1] (vi (lgA m.toNat A B n.toNat)) := by
  have u := hN.u
  obtain ⟨⟨u1, u2, hG⟩, ⟨u4, u5, u6⟩, ⟨u7, u8, u9⟩, ⟨u10, u11, u12⟩, uA, uB, rA, rB⟩ := u
  refine Ct.ofV (ini := false) [some (vr 1), none, none, none] km_X9_longestAlike (by decide) rfl (Nat.le_of_ble_eq_true rfl) ?_
  refine V_iconst dX9_longestAlike_0 ?_
  refine S_istore_n (ls' := [_, _, _, _]) dX9_longestAlike_1 ⟨Nat.le_of_ble_eq_true rfl, rfl, rfl⟩ rfl ?_
  refine V_iconst dX9_longestAlike_2 ?_
  refine S_istore_n (ls' := [_, _, _, _]) dX9_longestAlike_3 ⟨Nat.le_of_ble_eq_true rfl, rfl, rfl⟩ rfl ?_
  have loop : ∀ (w s : Nat), (s : Int) ≤ n → n - s < w → ∀ o : Option AV, V (RX9, cX9_longestAlike, 4, rm 3, false, none, (some .int)) (fun r sh' mi' mr' => sh' = SH ∧ r = some (vi (lgA m.toNat A B n.toNat)) ∧ mi' = mi ∧ mr' = mr) 0 0 SH mi mr [some (vr 1), some (vi (lgA m.toNat A B s)), some (vi s), o] [] 4 := by
    intro w
    induction w with
    | zero => intro s h1 h2; omega
    | succ w ih =>
      intro s h1 h2 o
      have r1 := lg_r m.toNat A B s
      refine V_iload_n dX9_longestAlike_4 rfl ?_
      refine V_aload_n dX9_longestAlike_5 rfl ?_
      refine V_getr 0 _ dX9_longestAlike_6 fl_RX9_14 (by first | with_reducible assumption | rfl) rfl rfl (by first | with_reducible assumption | exact hG.at rfl) ?_
      refine V_geti 1 dX9_longestAlike_9 fl_RX9_42 (by first | with_reducible assumption | rfl) rfl rfl ?_
      refine V_icmp_ge 64 dX9_longestAlike_12 (by decide) (by omega) (by omega) (fun h12 => ?_) (fun h12 => ?_)
      · refine V_iload_n dX9_longestAlike_64 rfl ?_
        refine V_iret dX9_longestAlike_65 rfl ⟨Nat.le_of_ble_eq_true rfl, Nat.le_of_ble_eq_true rfl⟩ ?_
        exact ⟨rfl, svi (by rw [show s = n.toNat by omega]), rfl, rfl⟩
      · refine V_iconst dX9_longestAlike_15 ?_
        refine S_istore_n (ls' := [_, _, _, _]) dX9_longestAlike_16 ⟨Nat.le_of_ble_eq_true rfl, rfl, rfl⟩ rfl ?_
        rw [show lgA m.toNat A B s = max (lgA m.toNat A B s) (lgR A B s 0) by simp only [lgR]; omega]
        refine l_X9_longestAlike hN s (by omega) ?_ (m.toNat + 1) 0 (by omega) (by omega)
        refine S_iinc (ls' := [_, _, _, _]) dX9_longestAlike_58 rfl ⟨rfl, rfl⟩ rfl ?_
        refine V_goto 4 dX9_longestAlike_61 (by decide) ?_
        exact ih (s + 1) (by omega) (by omega) _
  exact loop (n.toNat + 1) 0 (by omega) (by omega) none
set_option maxRecDepth 100000 in
theorem c_X9_rowOf {row : Int} (hr : row = 0 ∨ row = 1) (hN : Now mi mr f fb g gb n m A B) : CP yX9_rowOf cX9_rowOf 2 (some (.object "DiagonalTexts$Row")) 0 SH mi mr [vr 1, vi row] (vr (if row = 0 then f else g)) := by
  obtain ⟨⟨u1, u2, hG⟩, -⟩ := hN.u
  refine Ct.ofV (ini := false) [some (vr 1), some (vi row)] km_X9_rowOf (by decide) rfl (Nat.le_of_ble_eq_true rfl) ?_
  refine V_iload_n dX9_rowOf_0 rfl ?_
  refine V_if_ne 11 dX9_rowOf_1 (by decide) (by omega) (fun h1 => ?_) (fun h1 => ?_)
  · refine V_aload_n dX9_rowOf_11 rfl ?_
    refine V_getr 1 _ dX9_rowOf_12 fl_RX9_20 (by first | with_reducible assumption | rfl) rfl rfl (by first | with_reducible assumption | exact hG.at rfl) ?_
    refine V_aret dX9_rowOf_15 rfl ⟨Nat.le_of_ble_eq_true rfl, Nat.le_of_ble_eq_true rfl⟩ ?_
    exact ⟨rfl, by split <;> first | rfl | (exfalso; omega), rfl, rfl⟩
  · refine V_aload_n dX9_rowOf_4 rfl ?_
    refine V_getr 0 _ dX9_rowOf_5 fl_RX9_14 (by first | with_reducible assumption | rfl) rfl rfl (by first | with_reducible assumption | exact hG.at rfl) ?_
    refine V_goto 15 dX9_rowOf_8 (by decide) ?_
    refine V_aret dX9_rowOf_15 rfl ⟨Nat.le_of_ble_eq_true rfl, Nat.le_of_ble_eq_true rfl⟩ ?_
    exact ⟨rfl, by split <;> first | rfl | (exfalso; omega), rfl, rfl⟩
end STATE
