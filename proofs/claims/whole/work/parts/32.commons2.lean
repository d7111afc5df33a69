section COMMONS2
variable {mi : MI} {mr : MR} {f fb g gb : Nat} {n m : Int} {A B : Int → Int}
/-- the grid of ends, filled from behind -/
def EF (mi : MI) (A B : Int → Int) (n m : Int) (i j : Nat) : Prop := ∀ i' j' : Nat, (i' : Int) ≤ n → (j' : Int) ≤ m → (i' < i ∨ (i' = i ∧ j' < j)) → mi 56 ((n - i') * 29 + (m - j')) = leN A B n m i' j'
theorem EF_at {i j : Nat} (h : EF mi A B n m i j) (hn : 0 ≤ n ∧ n ≤ 28) (hm : 0 ≤ m ∧ m ≤ 28) {i' j' : Nat} {xi yi : Int} (e1 : xi = n - i') (e2 : yi = m - j') (h1 : (i' : Int) ≤ n) (h2 : (j' : Int) ≤ m) (h3 : i' < i ∨ (i' = i ∧ j' < j)) : gat mi 56 xi yi = leN A B n m i' j' := by
  subst e1 e2
  unfold gat
  rw [if_pos (by omega)]
  exact h i' j' h1 h2 h3
set_option maxRecDepth 100000 in
set_option maxHeartbeats 1000000 in
theorem c_X1_commonOfEnds {i j : Nat} {x y : Int} (hN : Now mi mr f fb g gb n m A B) (hi : (i : Int) ≤ n) (hj : (j : Int) ≤ m) (ex : x = n - i) (ey : y = m - j) (h : EF mi A B n m i j) : CP yX1_commonOfEnds cX1_commonOfEnds 4 (some .long) 3 SH mi mr [vr 52, vr 1, vi x, vi y] (vl (leN A B n m i j)) := by
  have hA := hN.2.2.2.2.2.2.1
  have hB := hN.2.2.2.2.2.2.2
  have hn := hA.1
  have hm := hB.1
  obtain ⟨⟨u1, u2, hG⟩, ⟨u4, u5, u6⟩, ⟨u7, u8, u9⟩, ⟨u10, u11, u12⟩, -⟩ := hN.u
  have hz : (i = 0 ∨ j = 0) → leN A B n m i j = 0 := by
    rintro (rfl | rfl)
    · rfl
    · exact leN_x0 _ _ _ _ _
  refine Ct.ofV (ini := false) [some (vr 52), some (vr 1), some (vi x), some (vi y)] km_X1_commonOfEnds (by decide) rfl (Nat.le_of_ble_eq_true rfl) ?_
  refine V_iload_n dX1_commonOfEnds_0 rfl ?_
  refine V_aload_n dX1_commonOfEnds_1 rfl ?_
  refine V_getr 0 _ dX1_commonOfEnds_2 fl_RX1_28 (by first | with_reducible assumption | rfl) rfl rfl (by first | with_reducible assumption | exact hG.at rfl) ?_
  refine V_geti 1 dX1_commonOfEnds_5 fl_RX1_34 (by first | with_reducible assumption | rfl) rfl rfl ?_
  refine V_icmp_ge 22 dX1_commonOfEnds_8 (by decide) (by omega) (by omega) (fun h8 => ?_) (fun h8 => ?_)
  · refine V_lconst 0 dX1_commonOfEnds_22 rfl ?_
    refine V_lret dX1_commonOfEnds_23 rfl ⟨Nat.le_of_ble_eq_true rfl, Nat.le_of_ble_eq_true rfl⟩ ?_
    exact ⟨rfl, svl (hz (by omega)).symm, rfl, rfl⟩
  · refine V_iload_n dX1_commonOfEnds_11 rfl ?_
    refine V_aload_n dX1_commonOfEnds_12 rfl ?_
    refine V_getr 1 _ dX1_commonOfEnds_13 fl_RX1_40 (by first | with_reducible assumption | rfl) rfl rfl (by first | with_reducible assumption | exact hG.at rfl) ?_
    refine V_geti 1 dX1_commonOfEnds_16 fl_RX1_34 (by first | with_reducible assumption | rfl) rfl rfl ?_
    refine V_icmp_lt 24 dX1_commonOfEnds_19 (by decide) (by omega) (by omega) (fun h19 => ?_) (fun h19 => ?_)
    · obtain ⟨i', rfl⟩ : ∃ i', i = i' + 1 := ⟨i - 1, by omega⟩
      obtain ⟨j', rfl⟩ : ∃ j', j = j' + 1 := ⟨j - 1, by omega⟩
      have g1 := EF_at h hn hm (i' := i') (j' := j') (xi := x + 1) (yi := y + 1) (by omega) (by omega) (by omega) (by omega) (by omega)
      have g2 := EF_at h hn hm (i' := i') (j' := j' + 1) (xi := x + 1) (yi := y) (by omega) (by omega) (by omega) (by omega) (by omega)
      have g3 := EF_at h hn hm (i' := i' + 1) (j' := j') (xi := x) (yi := y + 1) (by omega) (by omega) (by omega) (by omega) (by omega)
      have r1 := leN_r A B n m i' j'
      have r2 := leN_r A B n m i' (j' + 1)
      have r3 := leN_r A B n m (i' + 1) j'
      have es := leN_s A B n m i' j'
      rw [show n - ((i' : Int) + 1) = x by omega, show m - ((j' : Int) + 1) = y by omega] at es
      refine V_aload_n dX1_commonOfEnds_24 rfl ?_
      refine V_iload_n dX1_commonOfEnds_25 rfl ?_
      refine V_iload_n dX1_commonOfEnds_26 rfl ?_
      refine V_callVP dX1_commonOfEnds_27 ml_RX1_71 km_X9_isAlike kv_X9_isAlike (c_X9_isAlike (x := x) (y := y) hN (by omega) (by omega)) (by first | with_reducible assumption | rfl) rfl rfl rfl (Nat.le_of_ble_eq_true rfl) ⟨Nat.le_of_ble_eq_true rfl, Nat.le_of_ble_eq_true rfl⟩ ⟨Nat.le_of_ble_eq_true rfl, Nat.le_of_ble_eq_true rfl⟩ ?_
      refine V_if_eq 51 dX1_commonOfEnds_30 (by decide) (by split <;> omega) (fun h30 => ?_) (fun h30 => ?_)
      · refine V_aload_n dX1_commonOfEnds_51 rfl ?_
        refine V_getr 1 _ dX1_commonOfEnds_52 fl_RX1_18 (by first | with_reducible assumption | rfl) rfl rfl (by first | with_reducible assumption | exact hG.at rfl) ?_
        refine V_iload_n dX1_commonOfEnds_55 rfl ?_
        refine V_iconst dX1_commonOfEnds_56 ?_
        refine V_iadd dX1_commonOfEnds_57 ?_
        refine V_iload_n dX1_commonOfEnds_58 rfl ?_
        refine V_callVP dX1_commonOfEnds_59 ml_RX1_51 km_X2_at kv_X2_at (c_X2_at (a := 55) (b := 56) (x := x + 1) (y := y) rfl (hG.at rfl) rfl (by omega) (by omega)) (by first | with_reducible assumption | rfl) rfl rfl rfl (Nat.le_of_ble_eq_true rfl) ⟨Nat.le_of_ble_eq_true rfl, Nat.le_of_ble_eq_true rfl⟩ ⟨Nat.le_of_ble_eq_true rfl, Nat.le_of_ble_eq_true rfl⟩ ?_
        refine V_aload_n dX1_commonOfEnds_62 rfl ?_
        refine V_getr 1 _ dX1_commonOfEnds_63 fl_RX1_18 (by first | with_reducible assumption | rfl) rfl rfl (by first | with_reducible assumption | exact hG.at rfl) ?_
        refine V_iload_n dX1_commonOfEnds_66 rfl ?_
        refine V_iload_n dX1_commonOfEnds_67 rfl ?_
        refine V_iconst dX1_commonOfEnds_68 ?_
        refine V_iadd dX1_commonOfEnds_69 ?_
        refine V_callVP dX1_commonOfEnds_70 ml_RX1_51 km_X2_at kv_X2_at (c_X2_at (a := 55) (b := 56) (x := x) (y := y + 1) rfl (hG.at rfl) rfl (by omega) (by omega)) (by first | with_reducible assumption | rfl) rfl rfl rfl (Nat.le_of_ble_eq_true rfl) ⟨Nat.le_of_ble_eq_true rfl, Nat.le_of_ble_eq_true rfl⟩ ⟨Nat.le_of_ble_eq_true rfl, Nat.le_of_ble_eq_true rfl⟩ ?_
        refine V_mmaxl dX1_commonOfEnds_73 ml_RX1_75 (by omega) (by omega) ⟨Nat.le_of_ble_eq_true rfl, Nat.le_of_ble_eq_true rfl, Nat.le_of_ble_eq_true rfl, Nat.le_of_ble_eq_true rfl⟩ ?_
        refine V_lret dX1_commonOfEnds_76 rfl ⟨Nat.le_of_ble_eq_true rfl, Nat.le_of_ble_eq_true rfl⟩ ?_
        refine ⟨rfl, svl ?_, rfl, rfl⟩
        rw [es]
        by_cases ha : al A B x y
        · first | (rw [if_pos ha, g1]; done) | (rw [if_pos ha] at h30; omega)
        · first | (rw [if_neg ha, g2, g3]; done) | (rw [if_neg ha] at h30; omega)
      · refine V_aload_n dX1_commonOfEnds_33 rfl ?_
        refine V_getr 1 _ dX1_commonOfEnds_34 fl_RX1_18 (by first | with_reducible assumption | rfl) rfl rfl (by first | with_reducible assumption | exact hG.at rfl) ?_
        refine V_iload_n dX1_commonOfEnds_37 rfl ?_
        refine V_iconst dX1_commonOfEnds_38 ?_
        refine V_iadd dX1_commonOfEnds_39 ?_
        refine V_iload_n dX1_commonOfEnds_40 rfl ?_
        refine V_iconst dX1_commonOfEnds_41 ?_
        refine V_iadd dX1_commonOfEnds_42 ?_
        refine V_callVP dX1_commonOfEnds_43 ml_RX1_51 km_X2_at kv_X2_at (c_X2_at (a := 55) (b := 56) (x := x + 1) (y := y + 1) rfl (hG.at rfl) rfl (by omega) (by omega)) (by first | with_reducible assumption | rfl) rfl rfl rfl (Nat.le_of_ble_eq_true rfl) ⟨Nat.le_of_ble_eq_true rfl, Nat.le_of_ble_eq_true rfl⟩ ⟨Nat.le_of_ble_eq_true rfl, Nat.le_of_ble_eq_true rfl⟩ ?_
        refine V_lconst 1 dX1_commonOfEnds_46 rfl ?_
        refine V_ladd dX1_commonOfEnds_47 ?_
        refine V_goto 76 dX1_commonOfEnds_48 (by decide) ?_
        refine V_lret dX1_commonOfEnds_76 rfl ⟨Nat.le_of_ble_eq_true rfl, Nat.le_of_ble_eq_true rfl⟩ ?_
        refine ⟨rfl, svl ?_, rfl, rfl⟩
        rw [es]
        by_cases ha : al A B x y
        · first | (rw [if_pos ha, g1]; done) | (rw [if_pos ha] at h30; omega)
        · first | (rw [if_neg ha, g2, g3]; done) | (rw [if_neg ha] at h30; omega)
    · refine V_lconst 0 dX1_commonOfEnds_22 rfl ?_
      refine V_lret dX1_commonOfEnds_23 rfl ⟨Nat.le_of_ble_eq_true rfl, Nat.le_of_ble_eq_true rfl⟩ ?_
      exact ⟨rfl, svl (hz (by omega)).symm, rfl, rfl⟩
set_option maxRecDepth 100000 in
set_option maxHeartbeats 1000000 in
theorem l_X1_fillEnds {Q : PQ} (hA : NR n A) (hB : NR m B) (i : Nat) (hi : (i : Int) ≤ n)
    (kk : ∀ (mi' : MI) (o : Option AV), EF mi' A B n m (i + 1) 0 → Now mi' mr f fb g gb n m A B → (∀ z, z ≠ 56 → mi' z = mi z) → V (RX1, cX1_fillEnds, 4, rm 4, false, none, none) Q 0 0 SH mi' mr [some (vr 52), some (vr 1), some (vi (n - i)), o] [] 46) :
    ∀ (u j : Nat) (y : Int) (mi' : MI), (j : Int) ≤ m + 1 → m + 1 - j < u → y = m - j → EF mi' A B n m i j → Now mi' mr f fb g gb n m A B → (∀ z, z ≠ 56 → mi' z = mi z) → V (RX1, cX1_fillEnds, 4, rm 4, false, none, none) Q 0 0 SH mi' mr [some (vr 52), some (vr 1), some (vi (n - i)), some (vi y)] [] 20 := by
  have hn := hA.1
  have hm := hB.1
  intro u
  induction u with
  | zero => intro j y mi' h1 h2; omega
  | succ u ih =>
    intro j y mi' h1 h2 ey h3 h4 h5
    obtain ⟨⟨u1, u2, hG⟩, ⟨u4, u5, u6⟩, ⟨u7, u8, u9⟩, ⟨u10, u11, u12⟩, -⟩ := h4.u
    refine V_iload_n dX1_fillEnds_20 rfl ?_
    refine V_if_lt 46 dX1_fillEnds_21 (by decide) (by omega) (fun h21 => ?_) (fun h21 => ?_)
    · exact kk mi' _ (fun i' j' g1 g2 g3 => h3 i' j' g1 g2 (by omega)) h4 h5
    · refine V_aload_n dX1_fillEnds_24 rfl ?_
      refine V_getr 1 _ dX1_fillEnds_25 fl_RX1_18 (by first | with_reducible assumption | rfl) rfl rfl (by first | with_reducible assumption | exact hG.at rfl) ?_
      refine V_iload_n dX1_fillEnds_28 rfl ?_
      refine V_iload_n dX1_fillEnds_29 rfl ?_
      refine V_aload_n dX1_fillEnds_30 rfl ?_
      refine V_aload_n dX1_fillEnds_31 rfl ?_
      refine V_iload_n dX1_fillEnds_32 rfl ?_
      refine V_iload_n dX1_fillEnds_33 rfl ?_
      refine V_callVP dX1_fillEnds_34 ml_RX1_81 km_X1_commonOfEnds kv_X1_commonOfEnds (c_X1_commonOfEnds (i := i) (j := j) (x := n - i) (y := y) h4 hi (by omega) rfl ey h3) (by first | with_reducible assumption | rfl) rfl rfl rfl (Nat.le_of_ble_eq_true rfl) ⟨Nat.le_of_ble_eq_true rfl, Nat.le_of_ble_eq_true rfl⟩ ⟨Nat.le_of_ble_eq_true rfl, Nat.le_of_ble_eq_true rfl⟩ ?_
      refine V_callV0 dX1_fillEnds_37 ml_RX1_47 km_X2_put kv_X2_put (c_X2_put (a := 55) (b := 56) (x := n - i) (y := y) rfl (hG.at rfl) rfl (by omega) (by omega)) (by first | with_reducible assumption | rfl) rfl rfl rfl (Nat.le_of_ble_eq_true rfl) ⟨Nat.le_of_ble_eq_true rfl, Nat.le_of_ble_eq_true rfl⟩ ⟨Nat.le_of_ble_eq_true rfl, Nat.le_of_ble_eq_true rfl⟩ ?_
      rintro mi2 mr2 ⟨rfl, hq⟩
      rw [if_pos (by omega)] at hq
      refine S_iinc (ls' := [_, _, _, _]) dX1_fillEnds_40 rfl ⟨rfl, rfl⟩ rfl ?_
      refine V_goto 20 dX1_fillEnds_43 (by decide) ?_
      refine ih (j + 1) (y + -1) mi2 (by omega) (by omega) (by omega) (fun i' j' g1 g2 g3 => ?_) (h4.keep (fun z z1 z2 => by rw [hq, up2_n _ _ _ (by omega)])) (fun z hz => by rw [hq, up2_n _ _ _ hz]; exact h5 z hz)
      by_cases he : i' = i ∧ j' = j
      · obtain ⟨rfl, rfl⟩ := he
        rw [hq, ey, up2_ss]
      · rw [hq, up2_sn _ _ _ (by omega)]
        exact h3 i' j' g1 g2 (by omega)
set_option maxRecDepth 100000 in
theorem c_X1_fillEnds (hN : Now mi mr f fb g gb n m A B) : C0 yX1_fillEnds cX1_fillEnds 4 none 4 SH mi mr [vr 52, vr 1] (fun mi' mr' => mr' = mr ∧ EF mi' A B n m (n.toNat + 1) 0 ∧ ∀ z, z ≠ 56 → mi' z = mi z) := by
  have hA := hN.2.2.2.2.2.2.1
  have hB := hN.2.2.2.2.2.2.2
  have hn := hA.1
  have hm := hB.1
  have loop : ∀ (w i : Nat) (x : Int) (mi' : MI) (o : Option AV), (i : Int) ≤ n + 1 → n + 1 - i < w → x = n - i → EF mi' A B n m i 0 → Now mi' mr f fb g gb n m A B → (∀ z, z ≠ 56 → mi' z = mi z) → V (RX1, cX1_fillEnds, 4, rm 4, false, none, none) (fun r sh' mi' mr' => sh' = SH ∧ r = none ∧ mr' = mr ∧ EF mi' A B n m (n.toNat + 1) 0 ∧ ∀ z, z ≠ 56 → mi' z = mi z) 0 0 SH mi' mr [some (vr 52), some (vr 1), some (vi x), o] [] 8 := by
    intro w
    induction w with
    | zero => intro i x mi' o h1 h2; omega
    | succ w ih =>
      intro i x mi' o h1 h2 ex h3 h4 h5
      subst ex
      obtain ⟨⟨u1, u2, hG⟩, ⟨u4, u5, u6⟩, ⟨u7, u8, u9⟩, ⟨u10, u11, u12⟩, -⟩ := h4.u
      refine V_iload_n dX1_fillEnds_8 rfl ?_
      refine V_if_lt 52 dX1_fillEnds_9 (by decide) (by omega) (fun h9 => ?_) (fun h9 => ?_)
      · refine V_vret dX1_fillEnds_52 rfl ⟨Nat.le_of_ble_eq_true rfl, Nat.le_of_ble_eq_true rfl⟩ ?_
        exact ⟨rfl, rfl, rfl, by rw [show n.toNat + 1 = i by omega]; exact h3, h5⟩
      · refine V_aload_n dX1_fillEnds_12 rfl ?_
        refine V_getr 1 _ dX1_fillEnds_13 fl_RX1_40 (by first | with_reducible assumption | rfl) rfl rfl (by first | with_reducible assumption | exact hG.at rfl) ?_
        refine V_geti 1 dX1_fillEnds_16 fl_RX1_34 (by first | with_reducible assumption | rfl) rfl rfl ?_
        refine S_istore_n (ls' := [_, _, _, _]) dX1_fillEnds_19 ⟨Nat.le_of_ble_eq_true rfl, rfl, rfl⟩ rfl ?_
        refine l_X1_fillEnds (mi := mi') hA hB i (by omega) (fun mi2 o g1 g2 g3 => ?_) (m.toNat + 2) 0 _ mi' (by omega) (by omega) (by omega) h3 h4 (fun _ _ => rfl)
        refine S_iinc (ls' := [_, _, _, _]) dX1_fillEnds_46 rfl ⟨rfl, rfl⟩ rfl ?_
        refine V_goto 8 dX1_fillEnds_49 (by decide) ?_
        exact ih (i + 1) _ mi2 _ (by omega) (by omega) (by omega) g1 g2 (fun z hz => by rw [g3 z hz, h5 z hz])
  obtain ⟨⟨u1, u2, hG⟩, ⟨u4, u5, u6⟩, ⟨u7, u8, u9⟩, ⟨u10, u11, u12⟩, -⟩ := hN.u
  refine Ct.ofV (ini := false) [some (vr 52), some (vr 1), none, none] km_X1_fillEnds (by decide) rfl (Nat.le_of_ble_eq_true rfl) ?_
  refine V_aload_n dX1_fillEnds_0 rfl ?_
  refine V_getr 0 _ dX1_fillEnds_1 fl_RX1_28 (by first | with_reducible assumption | rfl) rfl rfl (by first | with_reducible assumption | exact hG.at rfl) ?_
  refine V_geti 1 dX1_fillEnds_4 fl_RX1_34 (by first | with_reducible assumption | rfl) rfl rfl ?_
  refine S_istore_n (ls' := [_, _, _, _]) dX1_fillEnds_7 ⟨Nat.le_of_ble_eq_true rfl, rfl, rfl⟩ rfl ?_
  exact loop (n.toNat + 2) 0 _ mi none (by omega) (by omega) (by omega) (fun i' j' g1 g2 g3 => by omega) hN (fun _ _ => rfl)
theorem lcz (a b : Int) : (if a > b then (1 : Int) else if a = b then 0 else -1) = 0 ↔ a = b := by
  split
  · constructor <;> intro h <;> omega
  · split <;> constructor <;> intro h <;> first | omega | rfl
theorem ifz (c : Prop) [Decidable c] : (if c then (1 : Int) else 0) = 0 ↔ ¬ c := by
  by_cases h : c <;> simp [h]
/-- what comes of a step to a place -/
theorem wy_step {x y : Nat} (hA : NR n A) (hB : NR m B) (hx : (x : Int) ≤ n) (hy : (y : Int) ≤ m) (h : GF mi 54 (lcN A B) n m (n.toNat + 1) 0) (hw : GF mi 58 (wyN A B) n m x y) (h0 : ¬ (x = 0 ∧ y = 0)) :
    (if gat mi 54 ((x : Int) - 1) y = gat mi 54 x y then gat mi 58 ((x : Int) - 1) y else 0) + (if gat mi 54 x ((y : Int) - 1) = gat mi 54 x y then gat mi 58 x ((y : Int) - 1) else 0) + (if al A B ((x : Int) - 1) ((y : Int) - 1) then gat mi 58 ((x : Int) - 1) ((y : Int) - 1) else 0) = wyN A B x y := by
  have hn := hA.1
  have hm := hB.1
  have e0 : gat mi 54 x y = lcN A B x y := GF_at h hn.2 hm.2 rfl rfl hx hy (by omega)
  rw [e0]
  by_cases hx0 : x = 0
  · subst hx0
    have hy0 : y ≠ 0 := by omega
    obtain ⟨y', rfl⟩ : ∃ y', y = y' + 1 := ⟨y - 1, by omega⟩
    have hna : ¬ al A B (((0 : Nat) : Int) - 1) (((y' + 1 : Nat) : Int) - 1) := fun ha => by have := al_in hA hB ha; omega
    rw [gat_out (b := 54) (x := ((0 : Nat) : Int) - 1) (by omega), gat_out (b := 58) (x := ((0 : Nat) : Int) - 1) (by omega), if_neg hna, GF_at h hn.2 hm.2 (x' := 0) (y' := y') (by omega) (by omega) (by omega) (by omega) (by omega), GF_at hw hn.2 hm.2 (x' := 0) (y' := y') (by omega) (by omega) (by omega) (by omega) (by omega), lcN_0y, lcN_0y]
    simp [wyN]
  · obtain ⟨x', rfl⟩ : ∃ x', x = x' + 1 := ⟨x - 1, by omega⟩
    by_cases hy0 : y = 0
    · subst hy0
      have hna : ¬ al A B (((x' + 1 : Nat) : Int) - 1) (((0 : Nat) : Int) - 1) := fun ha => by have := al_in hA hB ha; omega
      rw [gat_out (b := 54) (x := ((x' + 1 : Nat) : Int)) (by omega), gat_out (b := 58) (x := ((x' + 1 : Nat) : Int)) (by omega), if_neg hna, GF_at h hn.2 hm.2 (x' := x') (y' := 0) (by omega) (by omega) (by omega) (by omega) (by omega), GF_at hw hn.2 hm.2 (x' := x') (y' := 0) (by omega) (by omega) (by omega) (by omega) (by omega), lcN_x0, lcN_x0, wyN_x0, wyN_x0]
      simp
    · obtain ⟨y', rfl⟩ : ∃ y', y = y' + 1 := ⟨y - 1, by omega⟩
      rw [GF_at h hn.2 hm.2 (x' := x') (y' := y' + 1) (by omega) (by omega) (by omega) (by omega) (by omega), GF_at hw hn.2 hm.2 (x' := x') (y' := y' + 1) (by omega) (by omega) (by omega) (by omega) (by omega), GF_at h hn.2 hm.2 (x' := x' + 1) (y' := y') (by omega) (by omega) (by omega) (by omega) (by omega), GF_at hw hn.2 hm.2 (x' := x' + 1) (y' := y') (by omega) (by omega) (by omega) (by omega) (by omega), wyN_s, show (((x' + 1 : Nat) : Int) - 1) = x' by omega, show (((y' + 1 : Nat) : Int) - 1) = y' by omega]
      by_cases ha : al A B x' y'
      · rw [if_pos ha, if_pos ha, GF_at hw hn.2 hm.2 (x' := x') (y' := y') (by omega) (by omega) (by omega) (by omega) (by omega)]
      · rw [if_neg ha, if_neg ha]
set_option maxRecDepth 100000 in
set_option maxHeartbeats 1000000 in
theorem c_X1_waysTo {x y : Nat} (hN : Now mi mr f fb g gb n m A B) (hx : (x : Int) ≤ n) (hy : (y : Int) ≤ m) (h : GF mi 54 (lcN A B) n m (n.toNat + 1) 0) (hw : GF mi 58 (wyN A B) n m x y) (h0 : ¬ (x = 0 ∧ y = 0)) : CP yX1_waysTo cX1_waysTo 8 (some .long) 3 SH mi mr [vr 52, vr 1, vi x, vi y] (vl (wyN A B x y)) := by
  have hA := hN.2.2.2.2.2.2.1
  have hB := hN.2.2.2.2.2.2.2
  have hn := hA.1
  have hm := hB.1
  have hs := wy_step hA hB hx hy h hw h0
  have hG := hN.2.2.1
  have r0 : 0 ≤ gat mi 54 x y ∧ gat mi 54 x y ≤ 28 := by
    rw [GF_at h hn.2 hm.2 rfl rfl hx hy (by omega)]
    have := lcN_r A B x y
    omega
  have r1 : 0 ≤ gat mi 54 ((x : Int) - 1) y ∧ gat mi 54 ((x : Int) - 1) y ≤ 28 := by
    by_cases hx0 : x = 0
    · rw [gat_out (by omega)]; omega
    · rw [GF_at h hn.2 hm.2 (x' := x - 1) (y' := y) (by omega) (by omega) (by omega) (by omega) (by omega)]
      have := lcN_r A B (x - 1) y
      omega
  have r2 : 0 ≤ gat mi 54 x ((y : Int) - 1) ∧ gat mi 54 x ((y : Int) - 1) ≤ 28 := by
    by_cases hy0 : y = 0
    · rw [gat_out (by omega)]; omega
    · rw [GF_at h hn.2 hm.2 (x' := x) (y' := y - 1) (by omega) (by omega) (by omega) (by omega) (by omega)]
      have := lcN_r A B x (y - 1)
      omega
  rw [← hs]
  refine Ct.ofV (ini := false) [some (vr 52), some (vr 1), some (vi x), some (vi y), none, none, none, none] km_X1_waysTo (by decide) rfl (Nat.le_of_ble_eq_true rfl) ?_
  refine V_aload_n dX1_waysTo_0 rfl ?_
  refine V_getr 0 _ dX1_waysTo_1 fl_RX1_12 (by first | with_reducible assumption | rfl) rfl rfl (by first | with_reducible assumption | exact hG.at rfl) ?_
  refine V_iload_n dX1_waysTo_4 rfl ?_
  refine V_iload_n dX1_waysTo_5 rfl ?_
  refine V_callVP dX1_waysTo_6 ml_RX1_51 km_X2_at kv_X2_at (c_X2_at (a := 53) (b := 54) (x := x) (y := y) rfl (hG.at rfl) rfl (by omega) (by omega)) (by first | with_reducible assumption | rfl) rfl rfl rfl (Nat.le_of_ble_eq_true rfl) ⟨Nat.le_of_ble_eq_true rfl, Nat.le_of_ble_eq_true rfl⟩ ⟨Nat.le_of_ble_eq_true rfl, Nat.le_of_ble_eq_true rfl⟩ ?_
  refine S_lstore (ls' := [_, _, _, _, _, _, _, _]) dX1_waysTo_9 ⟨Nat.le_of_ble_eq_true rfl, rfl, rfl⟩ rfl ?_
  refine V_lconst 0 dX1_waysTo_11 rfl ?_
  refine S_lstore (ls' := [_, _, _, _, _, _, _, _]) dX1_waysTo_12 ⟨Nat.le_of_ble_eq_true rfl, rfl, rfl⟩ rfl ?_
  refine V_aload_n dX1_waysTo_14 rfl ?_
  refine V_getr 0 _ dX1_waysTo_15 fl_RX1_12 (by first | with_reducible assumption | rfl) rfl rfl (by first | with_reducible assumption | exact hG.at rfl) ?_
  refine V_iload_n dX1_waysTo_18 rfl ?_
  refine V_iconst dX1_waysTo_19 ?_
  refine V_isub dX1_waysTo_20 ?_
  refine V_iload_n dX1_waysTo_21 rfl ?_
  refine V_callVP dX1_waysTo_22 ml_RX1_51 km_X2_at kv_X2_at (c_X2_at (a := 53) (b := 54) (x := (x : Int) - 1) (y := y) rfl (hG.at rfl) rfl (by omega) (by omega)) (by first | with_reducible assumption | rfl) rfl rfl rfl (Nat.le_of_ble_eq_true rfl) ⟨Nat.le_of_ble_eq_true rfl, Nat.le_of_ble_eq_true rfl⟩ ⟨Nat.le_of_ble_eq_true rfl, Nat.le_of_ble_eq_true rfl⟩ ?_
  refine V_lload dX1_waysTo_25 rfl ?_
  refine V_lcmp dX1_waysTo_27 (by omega) (by omega) ?_
  refine V_if_ne 47 dX1_waysTo_28 (by decide) (by split <;> (try split) <;> omega) (fun h28 => ?_) (fun h28 => ?_)
  · refine V_aload_n dX1_waysTo_47 rfl ?_
    refine V_getr 0 _ dX1_waysTo_48 fl_RX1_12 (by first | with_reducible assumption | rfl) rfl rfl (by first | with_reducible assumption | exact hG.at rfl) ?_
    refine V_iload_n dX1_waysTo_51 rfl ?_
    refine V_iload_n dX1_waysTo_52 rfl ?_
    refine V_iconst dX1_waysTo_53 ?_
    refine V_isub dX1_waysTo_54 ?_
    refine V_callVP dX1_waysTo_55 ml_RX1_51 km_X2_at kv_X2_at (c_X2_at (a := 53) (b := 54) (x := x) (y := (y : Int) - 1) rfl (hG.at rfl) rfl (by omega) (by omega)) (by first | with_reducible assumption | rfl) rfl rfl rfl (Nat.le_of_ble_eq_true rfl) ⟨Nat.le_of_ble_eq_true rfl, Nat.le_of_ble_eq_true rfl⟩ ⟨Nat.le_of_ble_eq_true rfl, Nat.le_of_ble_eq_true rfl⟩ ?_
    refine V_lload dX1_waysTo_58 rfl ?_
    refine V_lcmp dX1_waysTo_60 (by omega) (by omega) ?_
    refine V_if_ne 80 dX1_waysTo_61 (by decide) (by split <;> (try split) <;> omega) (fun h61 => ?_) (fun h61 => ?_)
    · refine V_aload_n dX1_waysTo_80 rfl ?_
      refine V_iload_n dX1_waysTo_81 rfl ?_
      refine V_iconst dX1_waysTo_82 ?_
      refine V_isub dX1_waysTo_83 ?_
      refine V_iload_n dX1_waysTo_84 rfl ?_
      refine V_iconst dX1_waysTo_85 ?_
      refine V_isub dX1_waysTo_86 ?_
      refine V_callVP dX1_waysTo_87 ml_RX1_71 km_X9_isAlike kv_X9_isAlike (c_X9_isAlike (x := (x : Int) - 1) (y := (y : Int) - 1) hN (by omega) (by omega)) (by first | with_reducible assumption | rfl) rfl rfl rfl (Nat.le_of_ble_eq_true rfl) ⟨Nat.le_of_ble_eq_true rfl, Nat.le_of_ble_eq_true rfl⟩ ⟨Nat.le_of_ble_eq_true rfl, Nat.le_of_ble_eq_true rfl⟩ ?_
      refine V_if_eq 111 dX1_waysTo_90 (by decide) (by split <;> omega) (fun h90 => ?_) (fun h90 => ?_)
      · refine V_lload dX1_waysTo_111 rfl ?_
        refine V_lret dX1_waysTo_113 rfl ⟨Nat.le_of_ble_eq_true rfl, Nat.le_of_ble_eq_true rfl⟩ ?_
        refine ⟨rfl, svl ?_, rfl, rfl⟩
        simp only [lcz, ifz, Decidable.not_not] at h28 h61 h90
        first | (rw [if_pos h28, if_pos h61, if_pos h90] <;> omega) | (rw [if_pos h28, if_pos h61, if_neg h90] <;> omega) | (rw [if_pos h28, if_neg h61, if_pos h90] <;> omega) | (rw [if_pos h28, if_neg h61, if_neg h90] <;> omega) | (rw [if_neg h28, if_pos h61, if_pos h90] <;> omega) | (rw [if_neg h28, if_pos h61, if_neg h90] <;> omega) | (rw [if_neg h28, if_neg h61, if_pos h90] <;> omega) | (rw [if_neg h28, if_neg h61, if_neg h90] <;> omega)
      · refine V_lload dX1_waysTo_93 rfl ?_
        refine V_aload_n dX1_waysTo_95 rfl ?_
        refine V_getr 2 _ dX1_waysTo_96 fl_RX1_21 (by first | with_reducible assumption | rfl) rfl rfl (by first | with_reducible assumption | exact hG.at rfl) ?_
        refine V_iload_n dX1_waysTo_99 rfl ?_
        refine V_iconst dX1_waysTo_100 ?_
        refine V_isub dX1_waysTo_101 ?_
        refine V_iload_n dX1_waysTo_102 rfl ?_
        refine V_iconst dX1_waysTo_103 ?_
        refine V_isub dX1_waysTo_104 ?_
        refine V_callVP dX1_waysTo_105 ml_RX1_51 km_X2_at kv_X2_at (c_X2_at (a := 57) (b := 58) (x := (x : Int) - 1) (y := (y : Int) - 1) rfl (hG.at rfl) rfl (by omega) (by omega)) (by first | with_reducible assumption | rfl) rfl rfl rfl (Nat.le_of_ble_eq_true rfl) ⟨Nat.le_of_ble_eq_true rfl, Nat.le_of_ble_eq_true rfl⟩ ⟨Nat.le_of_ble_eq_true rfl, Nat.le_of_ble_eq_true rfl⟩ ?_
        refine V_ladd dX1_waysTo_108 ?_
        refine S_lstore (ls' := [_, _, _, _, _, _, _, _]) dX1_waysTo_109 ⟨Nat.le_of_ble_eq_true rfl, rfl, rfl⟩ rfl ?_
        refine V_lload dX1_waysTo_111 rfl ?_
        refine V_lret dX1_waysTo_113 rfl ⟨Nat.le_of_ble_eq_true rfl, Nat.le_of_ble_eq_true rfl⟩ ?_
        refine ⟨rfl, svl ?_, rfl, rfl⟩
        simp only [lcz, ifz, Decidable.not_not] at h28 h61 h90
        first | (rw [if_pos h28, if_pos h61, if_pos h90] <;> omega) | (rw [if_pos h28, if_pos h61, if_neg h90] <;> omega) | (rw [if_pos h28, if_neg h61, if_pos h90] <;> omega) | (rw [if_pos h28, if_neg h61, if_neg h90] <;> omega) | (rw [if_neg h28, if_pos h61, if_pos h90] <;> omega) | (rw [if_neg h28, if_pos h61, if_neg h90] <;> omega) | (rw [if_neg h28, if_neg h61, if_pos h90] <;> omega) | (rw [if_neg h28, if_neg h61, if_neg h90] <;> omega)
    · refine V_lload dX1_waysTo_64 rfl ?_
      refine V_aload_n dX1_waysTo_66 rfl ?_
      refine V_getr 2 _ dX1_waysTo_67 fl_RX1_21 (by first | with_reducible assumption | rfl) rfl rfl (by first | with_reducible assumption | exact hG.at rfl) ?_
      refine V_iload_n dX1_waysTo_70 rfl ?_
      refine V_iload_n dX1_waysTo_71 rfl ?_
      refine V_iconst dX1_waysTo_72 ?_
      refine V_isub dX1_waysTo_73 ?_
      refine V_callVP dX1_waysTo_74 ml_RX1_51 km_X2_at kv_X2_at (c_X2_at (a := 57) (b := 58) (x := x) (y := (y : Int) - 1) rfl (hG.at rfl) rfl (by omega) (by omega)) (by first | with_reducible assumption | rfl) rfl rfl rfl (Nat.le_of_ble_eq_true rfl) ⟨Nat.le_of_ble_eq_true rfl, Nat.le_of_ble_eq_true rfl⟩ ⟨Nat.le_of_ble_eq_true rfl, Nat.le_of_ble_eq_true rfl⟩ ?_
      refine V_ladd dX1_waysTo_77 ?_
      refine S_lstore (ls' := [_, _, _, _, _, _, _, _]) dX1_waysTo_78 ⟨Nat.le_of_ble_eq_true rfl, rfl, rfl⟩ rfl ?_
      refine V_aload_n dX1_waysTo_80 rfl ?_
      refine V_iload_n dX1_waysTo_81 rfl ?_
      refine V_iconst dX1_waysTo_82 ?_
      refine V_isub dX1_waysTo_83 ?_
      refine V_iload_n dX1_waysTo_84 rfl ?_
      refine V_iconst dX1_waysTo_85 ?_
      refine V_isub dX1_waysTo_86 ?_
      refine V_callVP dX1_waysTo_87 ml_RX1_71 km_X9_isAlike kv_X9_isAlike (c_X9_isAlike (x := (x : Int) - 1) (y := (y : Int) - 1) hN (by omega) (by omega)) (by first | with_reducible assumption | rfl) rfl rfl rfl (Nat.le_of_ble_eq_true rfl) ⟨Nat.le_of_ble_eq_true rfl, Nat.le_of_ble_eq_true rfl⟩ ⟨Nat.le_of_ble_eq_true rfl, Nat.le_of_ble_eq_true rfl⟩ ?_
      refine V_if_eq 111 dX1_waysTo_90 (by decide) (by split <;> omega) (fun h90 => ?_) (fun h90 => ?_)
      · refine V_lload dX1_waysTo_111 rfl ?_
        refine V_lret dX1_waysTo_113 rfl ⟨Nat.le_of_ble_eq_true rfl, Nat.le_of_ble_eq_true rfl⟩ ?_
        refine ⟨rfl, svl ?_, rfl, rfl⟩
        simp only [lcz, ifz, Decidable.not_not] at h28 h61 h90
        first | (rw [if_pos h28, if_pos h61, if_pos h90] <;> omega) | (rw [if_pos h28, if_pos h61, if_neg h90] <;> omega) | (rw [if_pos h28, if_neg h61, if_pos h90] <;> omega) | (rw [if_pos h28, if_neg h61, if_neg h90] <;> omega) | (rw [if_neg h28, if_pos h61, if_pos h90] <;> omega) | (rw [if_neg h28, if_pos h61, if_neg h90] <;> omega) | (rw [if_neg h28, if_neg h61, if_pos h90] <;> omega) | (rw [if_neg h28, if_neg h61, if_neg h90] <;> omega)
      · refine V_lload dX1_waysTo_93 rfl ?_
        refine V_aload_n dX1_waysTo_95 rfl ?_
        refine V_getr 2 _ dX1_waysTo_96 fl_RX1_21 (by first | with_reducible assumption | rfl) rfl rfl (by first | with_reducible assumption | exact hG.at rfl) ?_
        refine V_iload_n dX1_waysTo_99 rfl ?_
        refine V_iconst dX1_waysTo_100 ?_
        refine V_isub dX1_waysTo_101 ?_
        refine V_iload_n dX1_waysTo_102 rfl ?_
        refine V_iconst dX1_waysTo_103 ?_
        refine V_isub dX1_waysTo_104 ?_
        refine V_callVP dX1_waysTo_105 ml_RX1_51 km_X2_at kv_X2_at (c_X2_at (a := 57) (b := 58) (x := (x : Int) - 1) (y := (y : Int) - 1) rfl (hG.at rfl) rfl (by omega) (by omega)) (by first | with_reducible assumption | rfl) rfl rfl rfl (Nat.le_of_ble_eq_true rfl) ⟨Nat.le_of_ble_eq_true rfl, Nat.le_of_ble_eq_true rfl⟩ ⟨Nat.le_of_ble_eq_true rfl, Nat.le_of_ble_eq_true rfl⟩ ?_
        refine V_ladd dX1_waysTo_108 ?_
        refine S_lstore (ls' := [_, _, _, _, _, _, _, _]) dX1_waysTo_109 ⟨Nat.le_of_ble_eq_true rfl, rfl, rfl⟩ rfl ?_
        refine V_lload dX1_waysTo_111 rfl ?_
        refine V_lret dX1_waysTo_113 rfl ⟨Nat.le_of_ble_eq_true rfl, Nat.le_of_ble_eq_true rfl⟩ ?_
        refine ⟨rfl, svl ?_, rfl, rfl⟩
        simp only [lcz, ifz, Decidable.not_not] at h28 h61 h90
        first | (rw [if_pos h28, if_pos h61, if_pos h90] <;> omega) | (rw [if_pos h28, if_pos h61, if_neg h90] <;> omega) | (rw [if_pos h28, if_neg h61, if_pos h90] <;> omega) | (rw [if_pos h28, if_neg h61, if_neg h90] <;> omega) | (rw [if_neg h28, if_pos h61, if_pos h90] <;> omega) | (rw [if_neg h28, if_pos h61, if_neg h90] <;> omega) | (rw [if_neg h28, if_neg h61, if_pos h90] <;> omega) | (rw [if_neg h28, if_neg h61, if_neg h90] <;> omega)
  · refine V_lload dX1_waysTo_31 rfl ?_
    refine V_aload_n dX1_waysTo_33 rfl ?_
    refine V_getr 2 _ dX1_waysTo_34 fl_RX1_21 (by first | with_reducible assumption | rfl) rfl rfl (by first | with_reducible assumption | exact hG.at rfl) ?_
    refine V_iload_n dX1_waysTo_37 rfl ?_
    refine V_iconst dX1_waysTo_38 ?_
    refine V_isub dX1_waysTo_39 ?_
    refine V_iload_n dX1_waysTo_40 rfl ?_
    refine V_callVP dX1_waysTo_41 ml_RX1_51 km_X2_at kv_X2_at (c_X2_at (a := 57) (b := 58) (x := (x : Int) - 1) (y := y) rfl (hG.at rfl) rfl (by omega) (by omega)) (by first | with_reducible assumption | rfl) rfl rfl rfl (Nat.le_of_ble_eq_true rfl) ⟨Nat.le_of_ble_eq_true rfl, Nat.le_of_ble_eq_true rfl⟩ ⟨Nat.le_of_ble_eq_true rfl, Nat.le_of_ble_eq_true rfl⟩ ?_
    refine V_ladd dX1_waysTo_44 ?_
    refine S_lstore (ls' := [_, _, _, _, _, _, _, _]) dX1_waysTo_45 ⟨Nat.le_of_ble_eq_true rfl, rfl, rfl⟩ rfl ?_
    refine V_aload_n dX1_waysTo_47 rfl ?_
    refine V_getr 0 _ dX1_waysTo_48 fl_RX1_12 (by first | with_reducible assumption | rfl) rfl rfl (by first | with_reducible assumption | exact hG.at rfl) ?_
    refine V_iload_n dX1_waysTo_51 rfl ?_
    refine V_iload_n dX1_waysTo_52 rfl ?_
    refine V_iconst dX1_waysTo_53 ?_
    refine V_isub dX1_waysTo_54 ?_
    refine V_callVP dX1_waysTo_55 ml_RX1_51 km_X2_at kv_X2_at (c_X2_at (a := 53) (b := 54) (x := x) (y := (y : Int) - 1) rfl (hG.at rfl) rfl (by omega) (by omega)) (by first | with_reducible assumption | rfl) rfl rfl rfl (Nat.le_of_ble_eq_true rfl) ⟨Nat.le_of_ble_eq_true rfl, Nat.le_of_ble_eq_true rfl⟩ ⟨Nat.le_of_ble_eq_true rfl, Nat.le_of_ble_eq_true rfl⟩ ?_
    refine V_lload dX1_waysTo_58 rfl ?_
    refine V_lcmp dX1_waysTo_60 (by omega) (by omega) ?_
    refine V_if_ne 80 dX1_waysTo_61 (by decide) (by split <;> (try split) <;> omega) (fun h61 => ?_) (fun h61 => ?_)
    · refine V_aload_n dX1_waysTo_80 rfl ?_
      refine V_iload_n dX1_waysTo_81 rfl ?_
      refine V_iconst dX1_waysTo_82 ?_
      refine V_isub dX1_waysTo_83 ?_
      refine V_iload_n dX1_waysTo_84 rfl ?_
      refine V_iconst dX1_waysTo_85 ?_
      refine V_isub dX1_waysTo_86 ?_
      refine V_callVP dX1_waysTo_87 ml_RX1_71 km_X9_isAlike kv_X9_isAlike (c_X9_isAlike (x := (x : Int) - 1) (y := (y : Int) - 1) hN (by omega) (by omega)) (by first | with_reducible assumption | rfl) rfl rfl rfl (Nat.le_of_ble_eq_true rfl) ⟨Nat.le_of_ble_eq_true rfl, Nat.le_of_ble_eq_true rfl⟩ ⟨Nat.le_of_ble_eq_true rfl, Nat.le_of_ble_eq_true rfl⟩ ?_
      refine V_if_eq 111 dX1_waysTo_90 (by decide) (by split <;> omega) (fun h90 => ?_) (fun h90 => ?_)
      · refine V_lload dX1_waysTo_111 rfl ?_
        refine V_lret dX1_waysTo_113 rfl ⟨Nat.le_of_ble_eq_true rfl, Nat.le_of_ble_eq_true rfl⟩ ?_
        refine ⟨rfl, svl ?_, rfl, rfl⟩
        simp only [lcz, ifz, Decidable.not_not] at h28 h61 h90
        first | (rw [if_pos h28, if_pos h61, if_pos h90] <;> omega) | (rw [if_pos h28, if_pos h61, if_neg h90] <;> omega) | (rw [if_pos h28, if_neg h61, if_pos h90] <;> omega) | (rw [if_pos h28, if_neg h61, if_neg h90] <;> omega) | (rw [if_neg h28, if_pos h61, if_pos h90] <;> omega) | (rw [if_neg h28, if_pos h61, if_neg h90] <;> omega) | (rw [if_neg h28, if_neg h61, if_pos h90] <;> omega) | (rw [if_neg h28, if_neg h61, if_neg h90] <;> omega)
      · refine V_lload dX1_waysTo_93 rfl ?_
        refine V_aload_n dX1_waysTo_95 rfl ?_
        refine V_getr 2 _ dX1_waysTo_96 fl_RX1_21 (by first | with_reducible assumption | rfl) rfl rfl (by first | with_reducible assumption | exact hG.at rfl) ?_
        refine V_iload_n dX1_waysTo_99 rfl ?_
        refine V_iconst dX1_waysTo_100 ?_
        refine V_isub dX1_waysTo_101 ?_
        refine V_iload_n dX1_waysTo_102 rfl ?_
        refine V_iconst dX1_waysTo_103 ?_
        refine V_isub dX1_waysTo_104 ?_
        refine V_callVP dX1_waysTo_105 ml_RX1_51 km_X2_at kv_X2_at (c_X2_at (a := 57) (b := 58) (x := (x : Int) - 1) (y := (y : Int) - 1) rfl (hG.at rfl) rfl (by omega) (by omega)) (by first | with_reducible assumption | rfl) rfl rfl rfl (Nat.le_of_ble_eq_true rfl) ⟨Nat.le_of_ble_eq_true rfl, Nat.le_of_ble_eq_true rfl⟩ ⟨Nat.le_of_ble_eq_true rfl, Nat.le_of_ble_eq_true rfl⟩ ?_
        refine V_ladd dX1_waysTo_108 ?_
        refine S_lstore (ls' := [_, _, _, _, _, _, _, _]) dX1_waysTo_109 ⟨Nat.le_of_ble_eq_true rfl, rfl, rfl⟩ rfl ?_
        refine V_lload dX1_waysTo_111 rfl ?_
        refine V_lret dX1_waysTo_113 rfl ⟨Nat.le_of_ble_eq_true rfl, Nat.le_of_ble_eq_true rfl⟩ ?_
        refine ⟨rfl, svl ?_, rfl, rfl⟩
        simp only [lcz, ifz, Decidable.not_not] at h28 h61 h90
        first | (rw [if_pos h28, if_pos h61, if_pos h90] <;> omega) | (rw [if_pos h28, if_pos h61, if_neg h90] <;> omega) | (rw [if_pos h28, if_neg h61, if_pos h90] <;> omega) | (rw [if_pos h28, if_neg h61, if_neg h90] <;> omega) | (rw [if_neg h28, if_pos h61, if_pos h90] <;> omega) | (rw [if_neg h28, if_pos h61, if_neg h90] <;> omega) | (rw [if_neg h28, if_neg h61, if_pos h90] <;> omega) | (rw [if_neg h28, if_neg h61, if_neg h90] <;> omega)
    · refine V_lload dX1_waysTo_64 rfl ?_
      refine V_aload_n dX1_waysTo_66 rfl ?_
      refine V_getr 2 _ dX1_waysTo_67 fl_RX1_21 (by first | with_reducible assumption | rfl) rfl rfl (by first | with_reducible assumption | exact hG.at rfl) ?_
      refine V_iload_n dX1_waysTo_70 rfl ?_
      refine V_iload_n dX1_waysTo_71 rfl ?_
      refine V_iconst dX1_waysTo_72 ?_
      refine V_isub dX1_waysTo_73 ?_
      refine V_callVP dX1_waysTo_74 ml_RX1_51 km_X2_at kv_X2_at (c_X2_at (a := 57) (b := 58) (x := x) (y := (y : Int) - 1) rfl (hG.at rfl) rfl (by omega) (by omega)) (by first | with_reducible assumption | rfl) rfl rfl rfl (Nat.le_of_ble_eq_true rfl) ⟨Nat.le_of_ble_eq_true rfl, Nat.le_of_ble_eq_true rfl⟩ ⟨Nat.le_of_ble_eq_true rfl, Nat.le_of_ble_eq_true rfl⟩ ?_
      refine V_ladd dX1_waysTo_77 ?_
      refine S_lstore (ls' := [_, _, _, _, _, _, _, _]) dX1_waysTo_78 ⟨Nat.le_of_ble_eq_true rfl, rfl, rfl⟩ rfl ?_
      refine V_aload_n dX1_waysTo_80 rfl ?_
      refine V_iload_n dX1_waysTo_81 rfl ?_
      refine V_iconst dX1_waysTo_82 ?_
      refine V_isub dX1_waysTo_83 ?_
      refine V_iload_n dX1_waysTo_84 rfl ?_
      refine V_iconst dX1_waysTo_85 ?_
      refine V_isub dX1_waysTo_86 ?_
      refine V_callVP dX1_waysTo_87 ml_RX1_71 km_X9_isAlike kv_X9_isAlike (c_X9_isAlike (x := (x : Int) - 1) (y := (y : Int) - 1) hN (by omega) (by omega)) (by first | with_reducible assumption | rfl) rfl rfl rfl (Nat.le_of_ble_eq_true rfl) ⟨Nat.le_of_ble_eq_true rfl, Nat.le_of_ble_eq_true rfl⟩ ⟨Nat.le_of_ble_eq_true rfl, Nat.le_of_ble_eq_true rfl⟩ ?_
      refine V_if_eq 111 dX1_waysTo_90 (by decide) (by split <;> omega) (fun h90 => ?_) (fun h90 => ?_)
      · refine V_lload dX1_waysTo_111 rfl ?_
        refine V_lret dX1_waysTo_113 rfl ⟨Nat.le_of_ble_eq_true rfl, Nat.le_of_ble_eq_true rfl⟩ ?_
        refine ⟨rfl, svl ?_, rfl, rfl⟩
        simp only [lcz, ifz, Decidable.not_not] at h28 h61 h90
        first | (rw [if_pos h28, if_pos h61, if_pos h90] <;> omega) | (rw [if_pos h28, if_pos h61, if_neg h90] <;> omega) | (rw [if_pos h28, if_neg h61, if_pos h90] <;> omega) | (rw [if_pos h28, if_neg h61, if_neg h90] <;> omega) | (rw [if_neg h28, if_pos h61, if_pos h90] <;> omega) | (rw [if_neg h28, if_pos h61, if_neg h90] <;> omega) | (rw [if_neg h28, if_neg h61, if_pos h90] <;> omega) | (rw [if_neg h28, if_neg h61, if_neg h90] <;> omega)
      · refine V_lload dX1_waysTo_93 rfl ?_
        refine V_aload_n dX1_waysTo_95 rfl ?_
        refine V_getr 2 _ dX1_waysTo_96 fl_RX1_21 (by first | with_reducible assumption | rfl) rfl rfl (by first | with_reducible assumption | exact hG.at rfl) ?_
        refine V_iload_n dX1_waysTo_99 rfl ?_
        refine V_iconst dX1_waysTo_100 ?_
        refine V_isub dX1_waysTo_101 ?_
        refine V_iload_n dX1_waysTo_102 rfl ?_
        refine V_iconst dX1_waysTo_103 ?_
        refine V_isub dX1_waysTo_104 ?_
        refine V_callVP dX1_waysTo_105 ml_RX1_51 km_X2_at kv_X2_at (c_X2_at (a := 57) (b := 58) (x := (x : Int) - 1) (y := (y : Int) - 1) rfl (hG.at rfl) rfl (by omega) (by omega)) (by first | with_reducible assumption | rfl) rfl rfl rfl (Nat.le_of_ble_eq_true rfl) ⟨Nat.le_of_ble_eq_true rfl, Nat.le_of_ble_eq_true rfl⟩ ⟨Nat.le_of_ble_eq_true rfl, Nat.le_of_ble_eq_true rfl⟩ ?_
        refine V_ladd dX1_waysTo_108 ?_
        refine S_lstore (ls' := [_, _, _, _, _, _, _, _]) dX1_waysTo_109 ⟨Nat.le_of_ble_eq_true rfl, rfl, rfl⟩ rfl ?_
        refine V_lload dX1_waysTo_111 rfl ?_
        refine V_lret dX1_waysTo_113 rfl ⟨Nat.le_of_ble_eq_true rfl, Nat.le_of_ble_eq_true rfl⟩ ?_
        refine ⟨rfl, svl ?_, rfl, rfl⟩
        simp only [lcz, ifz, Decidable.not_not] at h28 h61 h90
        first | (rw [if_pos h28, if_pos h61, if_pos h90] <;> omega) | (rw [if_pos h28, if_pos h61, if_neg h90] <;> omega) | (rw [if_pos h28, if_neg h61, if_pos h90] <;> omega) | (rw [if_pos h28, if_neg h61, if_neg h90] <;> omega) | (rw [if_neg h28, if_pos h61, if_pos h90] <;> omega) | (rw [if_neg h28, if_pos h61, if_neg h90] <;> omega) | (rw [if_neg h28, if_neg h61, if_pos h90] <;> omega) | (rw [if_neg h28, if_neg h61, if_neg h90] <;> omega)
end COMMONS2
