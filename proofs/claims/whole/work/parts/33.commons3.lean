section COMMONS3
variable {mi : MI} {mr : MR} {f fb g gb : Nat} {n m : Int} {A B : Int → Int}
theorem GF.keep {mi' : MI} {b : Nat} {G : Nat → Nat → Int} {x y : Nat} (h : GF mi b G n m x y) (hb : mi' b = mi b) : GF mi' b G n m x y := by
  intro x' y' h1 h2 h3
  rw [hb]; exact h x' y' h1 h2 h3
theorem EF.keep {mi' : MI} {i j : Nat} (h : EF mi A B n m i j) (hb : mi' 56 = mi 56) : EF mi' A B n m i j := by
  intro x' y' h1 h2 h3
  rw [hb]; exact h x' y' h1 h2 h3
set_option maxRecDepth 100000 in
set_option maxHeartbeats 1000000 in
theorem l_X1_countWays {Q : PQ} (hA : NR n A) (hB : NR m B) (x : Nat) (hx : (x : Int) ≤ n)
    (kk : ∀ (mi' : MI) (o : Option AV), GF mi' 58 (wyN A B) n m (x + 1) 0 → GF mi' 54 (lcN A B) n m (n.toNat + 1) 0 → Now mi' mr f fb g gb n m A B → (∀ z, z ≠ 58 → mi' z = mi z) → V (RX1, cX1_countWays, 4, rm 4, false, none, (some .long)) Q 0 0 SH mi' mr [some (vr 52), some (vr 1), some (vi x), o] [] 65) :
    ∀ (u y : Nat) (mi' : MI), (y : Int) ≤ m + 1 → m + 1 - y < u → GF mi' 58 (wyN A B) n m x y → GF mi' 54 (lcN A B) n m (n.toNat + 1) 0 → Now mi' mr f fb g gb n m A B → (∀ z, z ≠ 58 → mi' z = mi z) → V (RX1, cX1_countWays, 4, rm 4, false, none, (some .long)) Q 0 0 SH mi' mr [some (vr 52), some (vr 1), some (vi x), some (vi y)] [] 20 := by
  have hn := hA.1
  have hm := hB.1
  intro u
  induction u with
  | zero => intro y mi' h1 h2; omega
  | succ u ih =>
    intro y mi' h1 h2 h3 h3b h4 h5
    obtain ⟨⟨u1, u2, hG⟩, ⟨u4, u5, u6⟩, ⟨u7, u8, u9⟩, ⟨u10, u11, u12⟩, -⟩ := h4.u
    have hfin : (y : Int) ≤ m → ∀ v : Int, v = wyN A B x y → V (RX1, cX1_countWays, 4, rm 4, false, none, (some .long)) Q 0 0 SH mi' mr [some (vr 52), some (vr 1), some (vi x), some (vi y)] [vl v, vi y, vi x, vr 57] 56 := by
      intro hy v hv
      refine V_callV0 dX1_countWays_56 ml_RX1_47 km_X2_put kv_X2_put (c_X2_put (a := 57) (b := 58) (x := x) (y := y) rfl (hG.at rfl) rfl (by omega) (by omega)) (by first | with_reducible assumption | rfl) rfl rfl rfl (Nat.le_of_ble_eq_true rfl) ⟨Nat.le_of_ble_eq_true rfl, Nat.le_of_ble_eq_true rfl⟩ ⟨Nat.le_of_ble_eq_true rfl, Nat.le_of_ble_eq_true rfl⟩ ?_
      rintro mi2 mr2 ⟨rfl, hq⟩
      rw [if_pos (by omega)] at hq
      refine S_iinc (ls' := [_, _, _, _]) dX1_countWays_59 rfl ⟨rfl, rfl⟩ rfl ?_
      refine V_goto 20 dX1_countWays_62 (by decide) ?_
      exact ih (y + 1) mi2 (by omega) (by omega) (by rw [hq]; exact h3.put hm.2 hy hv) (h3b.keep (by rw [hq, up2_n _ _ _ (by decide)])) (h4.keep (fun z z1 z2 => by rw [hq, up2_n _ _ _ (by omega)])) (fun z hz => by rw [hq, up2_n _ _ _ hz]; exact h5 z hz)
    refine V_iload_n dX1_countWays_20 rfl ?_
    refine V_aload_n dX1_countWays_21 rfl ?_
    refine V_getr 1 _ dX1_countWays_22 fl_RX1_40 (by first | with_reducible assumption | rfl) rfl rfl (by first | with_reducible assumption | exact hG.at rfl) ?_
    refine V_geti 1 dX1_countWays_25 fl_RX1_34 (by first | with_reducible assumption | rfl) rfl rfl ?_
    refine V_icmp_gt 65 dX1_countWays_28 (by decide) (by omega) (by omega) (fun h28 => ?_) (fun h28 => ?_)
    · exact kk mi' _ (fun x' y' g1 g2 g3 => h3 x' y' g1 g2 (by omega)) h3b h4 h5
    · refine V_aload_n dX1_countWays_31 rfl ?_
      refine V_getr 2 _ dX1_countWays_32 fl_RX1_21 (by first | with_reducible assumption | rfl) rfl rfl (by first | with_reducible assumption | exact hG.at rfl) ?_
      refine V_iload_n dX1_countWays_35 rfl ?_
      refine V_iload_n dX1_countWays_36 rfl ?_
      refine V_iload_n dX1_countWays_37 rfl ?_
      refine V_if_ne 49 dX1_countWays_38 (by decide) (by omega) (fun h38 => ?_) (fun h38 => ?_)
      · refine V_aload_n dX1_countWays_49 rfl ?_
        refine V_aload_n dX1_countWays_50 rfl ?_
        refine V_iload_n dX1_countWays_51 rfl ?_
        refine V_iload_n dX1_countWays_52 rfl ?_
        refine V_callVP dX1_countWays_53 ml_RX1_43 km_X1_waysTo kv_X1_waysTo (c_X1_waysTo (x := x) (y := y) h4 hx (by omega) h3b h3 (by omega)) (by first | with_reducible assumption | rfl) rfl rfl rfl (Nat.le_of_ble_eq_true rfl) ⟨Nat.le_of_ble_eq_true rfl, Nat.le_of_ble_eq_true rfl⟩ ⟨Nat.le_of_ble_eq_true rfl, Nat.le_of_ble_eq_true rfl⟩ ?_
        first | exact hfin (by omega) _ rfl | exact hfin (by omega) _ (by rw [show x = 0 by omega]; rfl)
      · refine V_iload_n dX1_countWays_41 rfl ?_
        refine V_if_ne 49 dX1_countWays_42 (by decide) (by omega) (fun h42 => ?_) (fun h42 => ?_)
        · refine V_aload_n dX1_countWays_49 rfl ?_
          refine V_aload_n dX1_countWays_50 rfl ?_
          refine V_iload_n dX1_countWays_51 rfl ?_
          refine V_iload_n dX1_countWays_52 rfl ?_
          refine V_callVP dX1_countWays_53 ml_RX1_43 km_X1_waysTo kv_X1_waysTo (c_X1_waysTo (x := x) (y := y) h4 hx (by omega) h3b h3 (by omega)) (by first | with_reducible assumption | rfl) rfl rfl rfl (Nat.le_of_ble_eq_true rfl) ⟨Nat.le_of_ble_eq_true rfl, Nat.le_of_ble_eq_true rfl⟩ ⟨Nat.le_of_ble_eq_true rfl, Nat.le_of_ble_eq_true rfl⟩ ?_
          first | exact hfin (by omega) _ rfl | exact hfin (by omega) _ (by rw [show x = 0 by omega]; rfl)
        · refine V_lconst 1 dX1_countWays_45 rfl ?_
          refine V_goto 56 dX1_countWays_46 (by decide) ?_
          first | exact hfin (by omega) _ rfl | exact hfin (by omega) _ (by rw [show x = 0 by omega]; rfl)
set_option maxRecDepth 100000 in
theorem c_X1_countWays (hN : Now mi mr f fb g gb n m A B) : C1 yX1_countWays cX1_countWays 4 (some .long) 4 SH mi mr [vr 52, vr 1] (fun v mi' mr' => v = vl (wyN A B n.toNat m.toNat) ∧ mr' = mr ∧ ∀ z, z ≠ 54 → z ≠ 58 → mi' z = mi z) := by
  have hA := hN.2.2.2.2.2.2.1
  have hB := hN.2.2.2.2.2.2.2
  have hn := hA.1
  have hm := hB.1
  have loop : ∀ (w x : Nat) (mi' : MI) (o : Option AV), (x : Int) ≤ n + 1 → n + 1 - x < w → GF mi' 58 (wyN A B) n m x 0 → GF mi' 54 (lcN A B) n m (n.toNat + 1) 0 → Now mi' mr f fb g gb n m A B → (∀ z, z ≠ 54 → z ≠ 58 → mi' z = mi z) → V (RX1, cX1_countWays, 4, rm 4, false, none, (some .long)) (fun r sh' mi' mr' => sh' = SH ∧ ∃ v, r = some v ∧ v = vl (wyN A B n.toNat m.toNat) ∧ mr' = mr ∧ ∀ z, z ≠ 54 → z ≠ 58 → mi' z = mi z) 0 0 SH mi' mr [some (vr 52), some (vr 1), some (vi x), o] [] 7 := by
    intro w
    induction w with
    | zero => intro x mi' o h1 h2; omega
    | succ w ih =>
      intro x mi' o h1 h2 h3 h3b h4 h5
      obtain ⟨⟨u1, u2, hG⟩, ⟨u4, u5, u6⟩, ⟨u7, u8, u9⟩, ⟨u10, u11, u12⟩, -⟩ := h4.u
      refine V_iload_n dX1_countWays_7 rfl ?_
      refine V_aload_n dX1_countWays_8 rfl ?_
      refine V_getr 0 _ dX1_countWays_9 fl_RX1_28 (by first | with_reducible assumption | rfl) rfl rfl (by first | with_reducible assumption | exact hG.at rfl) ?_
      refine V_geti 1 dX1_countWays_12 fl_RX1_34 (by first | with_reducible assumption | rfl) rfl rfl ?_
      refine V_icmp_gt 71 dX1_countWays_15 (by decide) (by omega) (by omega) (fun h15 => ?_) (fun h15 => ?_)
      · refine V_aload_n dX1_countWays_71 rfl ?_
        refine V_getr 2 _ dX1_countWays_72 fl_RX1_21 (by first | with_reducible assumption | rfl) rfl rfl (by first | with_reducible assumption | exact hG.at rfl) ?_
        refine V_aload_n dX1_countWays_75 rfl ?_
        refine V_getr 0 _ dX1_countWays_76 fl_RX1_28 (by first | with_reducible assumption | rfl) rfl rfl (by first | with_reducible assumption | exact hG.at rfl) ?_
        refine V_geti 1 dX1_countWays_79 fl_RX1_34 (by first | with_reducible assumption | rfl) rfl rfl ?_
        refine V_aload_n dX1_countWays_82 rfl ?_
        refine V_getr 1 _ dX1_countWays_83 fl_RX1_40 (by first | with_reducible assumption | rfl) rfl rfl (by first | with_reducible assumption | exact hG.at rfl) ?_
        refine V_geti 1 dX1_countWays_86 fl_RX1_34 (by first | with_reducible assumption | rfl) rfl rfl ?_
        refine V_callVP dX1_countWays_89 ml_RX1_51 km_X2_at kv_X2_at (c_X2_at (a := 57) (b := 58) (x := mi' f 1) (y := mi' g 1) rfl (hG.at rfl) rfl (by omega) (by omega)) (by first | with_reducible assumption | rfl) rfl rfl rfl (Nat.le_of_ble_eq_true rfl) ⟨Nat.le_of_ble_eq_true rfl, Nat.le_of_ble_eq_true rfl⟩ ⟨Nat.le_of_ble_eq_true rfl, Nat.le_of_ble_eq_true rfl⟩ ?_
        refine V_lret dX1_countWays_92 rfl ⟨Nat.le_of_ble_eq_true rfl, Nat.le_of_ble_eq_true rfl⟩ ?_
        exact ⟨rfl, _, rfl, vle (GF_at h3 hn.2 hm.2 (by omega) (by omega) (by omega) (by omega) (by omega)), rfl, h5⟩
      · refine V_iconst dX1_countWays_18 ?_
        refine S_istore_n (ls' := [_, _, _, _]) dX1_countWays_19 ⟨Nat.le_of_ble_eq_true rfl, rfl, rfl⟩ rfl ?_
        refine l_X1_countWays (mi := mi') hA hB x (by omega) (fun mi2 o g1 g1b g2 g3 => ?_) (m.toNat + 2) 0 mi' (by omega) (by omega) h3 h3b h4 (fun _ _ => rfl)
        refine S_iinc (ls' := [_, _, _, _]) dX1_countWays_65 rfl ⟨rfl, rfl⟩ rfl ?_
        refine V_goto 7 dX1_countWays_68 (by decide) ?_
        exact ih (x + 1) mi2 _ (by omega) (by omega) g1 g1b g2 (fun z hz hz2 => by rw [g3 z hz2, h5 z hz hz2])
  refine Ct.ofV (ini := false) [some (vr 52), some (vr 1), none, none] km_X1_countWays (by decide) rfl (Nat.le_of_ble_eq_true rfl) ?_
  refine V_aload_n dX1_countWays_0 rfl ?_
  refine V_aload_n dX1_countWays_1 rfl ?_
  refine V_callV0 dX1_countWays_2 ml_RX1_24 km_X1_fillBeginnings kv_X1_fillBeginnings (c_X1_fillBeginnings hN) (by first | with_reducible assumption | rfl) rfl rfl rfl (Nat.le_of_ble_eq_true rfl) ⟨Nat.le_of_ble_eq_true rfl, Nat.le_of_ble_eq_true rfl⟩ ⟨Nat.le_of_ble_eq_true rfl, Nat.le_of_ble_eq_true rfl⟩ ?_
  rintro mi2 mr2 ⟨rfl, g1, g2⟩
  refine V_iconst dX1_countWays_5 ?_
  refine S_istore_n (ls' := [_, _, _, _]) dX1_countWays_6 ⟨Nat.le_of_ble_eq_true rfl, rfl, rfl⟩ rfl ?_
  exact loop (n.toNat + 2) 0 mi2 none (by omega) (by omega) (fun x' y' g1 g2 g3 => by omega) g1 (hN.keep (fun z z1 z2 => g2 z (by omega))) (fun z hz _ => g2 z hz)
theorem leI_r (A B : Int → Int) (n m x y : Int) (h : 0 ≤ x ∧ x ≤ n ∧ n ≤ 28) : 0 ≤ leI A B n m x y ∧ leI A B n m x y ≤ 28 := by
  have := leN_r A B n m (n - x).toNat (m - y).toNat
  unfold leI
  omega
theorem cwN_r (A B : Int → Int) (n m : Int) (p : Nat) (v : Int) (h : (p : Int) < n ∧ n ≤ 28) : ∀ y : Nat, 0 ≤ cwN A B n m p v y ∧ cwN A B n m p v y ≤ 100
  | 0 => by simp [cwN]
  | y + 1 => by
    have h1 := cwN_r A B n m p v h y
    have h2 := lcN_r A B p y
    have h3 := leI_r A B n m (p + 1) (y + 1) (by omega)
    simp only [cwN]
    split <;> omega
set_option maxRecDepth 100000 in
set_option maxHeartbeats 1000000 in
theorem c_X1_commonWith {p : Nat} {v : Int} (hN : Now mi mr f fb g gb n m A B) (hp : (p : Int) < n) (hv : 0 ≤ v ∧ v ≤ 7) (h : GF mi 54 (lcN A B) n m (n.toNat + 1) 0) (he : EF mi A B n m (n.toNat + 1) 0) : CP yX1_commonWith cX1_commonWith 7 (some .int) 3 SH mi mr [vr 52, vr 1, vi p, vi v] (vi (cwN A B n m p v m.toNat)) := by
  have hA := hN.2.2.2.2.2.2.1
  have hB := hN.2.2.2.2.2.2.2
  have hn := hA.1
  have hm := hB.1
  obtain ⟨⟨u1, u2, hG⟩, ⟨u4, u5, u6⟩, ⟨u7, u8, u9⟩, ⟨u10, u11, u12⟩, uA, uB, rA, rB⟩ := hN.u
  have loop : ∀ (w y : Nat), (y : Int) ≤ m → m - y < w → V (RX1, cX1_commonWith, 7, rm 3, false, none, (some .int)) (fun r sh' mi' mr' => sh' = SH ∧ r = some (vi (cwN A B n m p v m.toNat)) ∧ mi' = mi ∧ mr' = mr) 0 0 SH mi mr [some (vr 52), some (vr 1), some (vi p), some (vi v), some (vl (cwN A B n m p v y)), none, some (vi y)] [] 6 := by
    intro w
    induction w with
    | zero => intro y h1 h2; omega
    | succ w ih =>
      intro y h1 h2
      have hcr := cwN_r A B n m p v ⟨hp, hn.2⟩ y
      have rBy := rB y
      have ecw : cwN A B n m p v (y + 1) = if B y = v then max (cwN A B n m p v y) (lcN A B p y + 1 + leI A B n m (p + 1) (y + 1)) else cwN A B n m p v y := rfl
      have r1 := lcN_r A B p y
      have r2 := leI_r A B n m (p + 1) (y + 1) (by omega)
      refine V_iload dX1_commonWith_6 rfl ?_
      refine V_aload_n dX1_commonWith_8 rfl ?_
      refine V_getr 1 _ dX1_commonWith_9 fl_RX1_40 (by first | with_reducible assumption | rfl) rfl rfl (by first | with_reducible assumption | exact hG.at rfl) ?_
      refine V_geti 1 dX1_commonWith_12 fl_RX1_34 (by first | with_reducible assumption | rfl) rfl rfl ?_
      refine V_icmp_ge 71 dX1_commonWith_15 (by decide) (by omega) (by omega) (fun h15 => ?_) (fun h15 => ?_)
      · refine V_lload dX1_commonWith_71 rfl ?_
        refine V_l2i dX1_commonWith_73 ?_
        refine V_iret dX1_commonWith_74 rfl ⟨Nat.le_of_ble_eq_true rfl, Nat.le_of_ble_eq_true rfl⟩ ?_
        exact ⟨rfl, svi (by rw [show m.toNat = y by omega]), rfl, rfl⟩
      · refine V_aload_n dX1_commonWith_18 rfl ?_
        refine V_getr 1 _ dX1_commonWith_19 fl_RX1_40 (by first | with_reducible assumption | rfl) rfl rfl (by first | with_reducible assumption | exact hG.at rfl) ?_
        refine V_iload dX1_commonWith_22 rfl ?_
        refine V_callVP dX1_commonWith_24 ml_RX1_84 km_X7_at kv_X7_at (c_X7_at (i := y) (by omega) u7 u8 u9 (by decide) (by omega)) (by first | with_reducible assumption | rfl) rfl rfl rfl (Nat.le_of_ble_eq_true rfl) ⟨Nat.le_of_ble_eq_true rfl, Nat.le_of_ble_eq_true rfl⟩ ⟨Nat.le_of_ble_eq_true rfl, Nat.le_of_ble_eq_true rfl⟩ ?_
        rw [uB]
        refine V_iload_n dX1_commonWith_27 rfl ?_
        refine V_icmp_ne 65 dX1_commonWith_28 (by decide) (by omega) (by omega) (fun h28 => ?_) (fun h28 => ?_)
        · rw [if_neg h28] at ecw
          have hgo := ih (y + 1) (by omega) (by omega)
          rw [ecw] at hgo
          refine S_iinc (ls' := [_, _, _, _, _, _, _]) dX1_commonWith_65 rfl ⟨rfl, rfl⟩ rfl ?_
          refine V_goto 6 dX1_commonWith_68 (by decide) ?_
          exact hgo
        · rw [if_pos h28] at ecw
          have hgo := ih (y + 1) (by omega) (by omega)
          rw [ecw] at hgo
          have e1 : gat mi 54 p y = lcN A B p y := GF_at h hn.2 hm.2 rfl rfl (by omega) (by omega) (by omega)
          have e2 : gat mi 56 (p + 1) (y + 1) = leI A B n m (p + 1) (y + 1) := EF_at he hn hm (i' := (n - (p + 1)).toNat) (j' := (m - (y + 1)).toNat) (by omega) (by omega) (by omega) (by omega) (by omega)
          refine V_lload dX1_commonWith_31 rfl ?_
          refine V_aload_n dX1_commonWith_33 rfl ?_
          refine V_getr 0 _ dX1_commonWith_34 fl_RX1_12 (by first | with_reducible assumption | rfl) rfl rfl (by first | with_reducible assumption | exact hG.at rfl) ?_
          refine V_iload_n dX1_commonWith_37 rfl ?_
          refine V_iload dX1_commonWith_38 rfl ?_
          refine V_callVP dX1_commonWith_40 ml_RX1_51 km_X2_at kv_X2_at (c_X2_at (a := 53) (b := 54) (x := p) (y := y) rfl (hG.at rfl) rfl (by omega) (by omega)) (by first | with_reducible assumption | rfl) rfl rfl rfl (Nat.le_of_ble_eq_true rfl) ⟨Nat.le_of_ble_eq_true rfl, Nat.le_of_ble_eq_true rfl⟩ ⟨Nat.le_of_ble_eq_true rfl, Nat.le_of_ble_eq_true rfl⟩ ?_
          rw [e1]
          refine V_lconst 1 dX1_commonWith_43 rfl ?_
          refine V_ladd dX1_commonWith_44 ?_
          refine V_aload_n dX1_commonWith_45 rfl ?_
          refine V_getr 1 _ dX1_commonWith_46 fl_RX1_18 (by first | with_reducible assumption | rfl) rfl rfl (by first | with_reducible assumption | exact hG.at rfl) ?_
          refine V_iload_n dX1_commonWith_49 rfl ?_
          refine V_iconst dX1_commonWith_50 ?_
          refine V_iadd dX1_commonWith_51 ?_
          refine V_iload dX1_commonWith_52 rfl ?_
          refine V_iconst dX1_commonWith_54 ?_
          refine V_iadd dX1_commonWith_55 ?_
          refine V_callVP dX1_commonWith_56 ml_RX1_51 km_X2_at kv_X2_at (c_X2_at (a := 55) (b := 56) (x := p + 1) (y := y + 1) rfl (hG.at rfl) rfl (by omega) (by omega)) (by first | with_reducible assumption | rfl) rfl rfl rfl (Nat.le_of_ble_eq_true rfl) ⟨Nat.le_of_ble_eq_true rfl, Nat.le_of_ble_eq_true rfl⟩ ⟨Nat.le_of_ble_eq_true rfl, Nat.le_of_ble_eq_true rfl⟩ ?_
          rw [e2]
          refine V_ladd dX1_commonWith_59 ?_
          refine V_mmaxl dX1_commonWith_60 ml_RX1_75 (by omega) (by omega) ⟨Nat.le_of_ble_eq_true rfl, Nat.le_of_ble_eq_true rfl, Nat.le_of_ble_eq_true rfl, Nat.le_of_ble_eq_true rfl⟩ ?_
          refine S_lstore (ls' := [_, _, _, _, _, _, _]) dX1_commonWith_63 ⟨Nat.le_of_ble_eq_true rfl, rfl, rfl⟩ rfl ?_
          refine S_iinc (ls' := [_, _, _, _, _, _, _]) dX1_commonWith_65 rfl ⟨rfl, rfl⟩ rfl ?_
          refine V_goto 6 dX1_commonWith_68 (by decide) ?_
          exact hgo
  refine Ct.ofV (ini := false) [some (vr 52), some (vr 1), some (vi p), some (vi v), none, none, none] km_X1_commonWith (by decide) rfl (Nat.le_of_ble_eq_true rfl) ?_
  refine V_lconst 0 dX1_commonWith_0 rfl ?_
  refine S_lstore (ls' := [_, _, _, _, _, _, _]) dX1_commonWith_1 ⟨Nat.le_of_ble_eq_true rfl, rfl, rfl⟩ rfl ?_
  refine V_iconst dX1_commonWith_3 ?_
  refine S_istore (ls' := [_, _, _, _, _, _, _]) dX1_commonWith_4 ⟨Nat.le_of_ble_eq_true rfl, rfl, rfl⟩ rfl ?_
  exact loop (m.toNat + 1) 0 (by omega) (by omega)
/-- the counts of changed letters, in one word -/
def cwF (A B : Int → Int) (n m : Int) : Nat → Int → Int := fun p v => cwN A B n m p v m.toNat
theorem bRow_r (c : Nat → Int → Int) (p : Nat) (s : Int × Int × Int) (hs : -1 ≤ s.2.2 ∧ s.2.2 ≤ 100) (hc : ∀ v : Nat, 0 ≤ c p v ∧ c p v ≤ 100) : ∀ v : Nat, -1 ≤ (bRow c p s v).2.2 ∧ (bRow c p s v).2.2 ≤ 100
  | 0 => hs
  | v + 1 => by
    have := bRow_r c p s hs hc v
    have := hc v
    simp only [bRow]
    split
    · simp only; omega
    · omega
def BsM (mi : MI) (s : Int × Int × Int) : Prop := mi 52 3 = s.1 ∧ mi 52 4 = s.2.1 ∧ mi 52 5 = s.2.2
set_option maxRecDepth 100000 in
set_option maxHeartbeats 1000000 in
theorem l_X1_findBest {Q : PQ} (p : Nat) (hp : (p : Int) < n) (hn : 0 ≤ n ∧ n ≤ 28) (s : Int × Int × Int) (hs : -1 ≤ s.2.2 ∧ s.2.2 ≤ 100) (o4 : Option AV) (h : GF mi 54 (lcN A B) n m (n.toNat + 1) 0) (he : EF mi A B n m (n.toNat + 1) 0) (hN : Now mi mr f fb g gb n m A B)
    (kk : ∀ (mi' : MI) (o4 : Option AV), BsM mi' (bRow (cwF A B n m) p s 8) → (∀ z, z ≠ 52 → mi' z = mi z) → V (RX1, cX1_findBest, 5, rm 5, false, none, none) Q 0 0 SH mi' mr [some (vr 52), some (vr 1), some (vi p), some (vi 8), o4] [] 107) :
    ∀ (u v : Nat) (mi' : MI) (o4 : Option AV), v ≤ 8 → 8 - v < u → BsM mi' (bRow (cwF A B n m) p s v) → (∀ z, z ≠ 52 → mi' z = mi z) → V (RX1, cX1_findBest, 5, rm 5, false, none, none) Q 0 0 SH mi' mr [some (vr 52), some (vr 1), some (vi p), some (vi v), o4] [] 61 := by
  intro u
  induction u with
  | zero => intro v mi' o4 h1 h2; omega
  | succ u ih =>
    intro v mi' o4 h1 h2 h3 h5
    have hG := hN.2.2.1
    have hcr : ∀ w : Nat, 0 ≤ cwF A B n m p w ∧ cwF A B n m p w ≤ 100 := fun w => cwN_r A B n m p w ⟨hp, hn.2⟩ _
    have hbr := bRow_r (cwF A B n m) p s hs hcr v
    have hcv := hcr v
    have eb : bRow (cwF A B n m) p s (v + 1) = if (bRow (cwF A B n m) p s v).2.2 < cwF A B n m p v then ((p : Int), (v : Int), cwF A B n m p v) else bRow (cwF A B n m) p s v := rfl
    refine V_iload_n dX1_findBest_61 rfl ?_
    refine V_bipush dX1_findBest_62 (by decide) ?_
    refine V_icmp_ge 107 dX1_findBest_64 (by decide) (by omega) (by omega) (fun h64 => ?_) (fun h64 => ?_)
    · rw [show (v : Int) = 8 by omega]
      exact kk mi' _ (by rw [show (8 : Nat) = v by omega]; exact h3) h5
    · refine V_aload_n dX1_findBest_67 rfl ?_
      refine V_aload_n dX1_findBest_68 rfl ?_
      refine V_iload_n dX1_findBest_69 rfl ?_
      refine V_iload_n dX1_findBest_70 rfl ?_
      refine V_callVP dX1_findBest_71 ml_RX1_67 km_X1_commonWith kv_X1_commonWith (c_X1_commonWith (p := p) (v := v) (hN.keep (fun z z1 z2 => h5 z (by omega))) hp (by omega) (h.keep (h5 54 (by decide))) (he.keep (h5 56 (by decide)))) (by first | with_reducible assumption | rfl) rfl rfl rfl (Nat.le_of_ble_eq_true rfl) ⟨Nat.le_of_ble_eq_true rfl, Nat.le_of_ble_eq_true rfl⟩ ⟨Nat.le_of_ble_eq_true rfl, Nat.le_of_ble_eq_true rfl⟩ ?_
      rw [show cwN A B n m p v m.toNat = cwF A B n m p v from rfl]
      refine S_istore (ls' := [_, _, _, _, _]) dX1_findBest_74 ⟨Nat.le_of_ble_eq_true rfl, rfl, rfl⟩ rfl ?_
      refine V_iload dX1_findBest_76 rfl ?_
      refine V_aload_n dX1_findBest_78 rfl ?_
      refine V_geti 5 dX1_findBest_79 fl_RX1_58 (by first | with_reducible assumption | rfl) rfl rfl ?_
      rw [h3.2.2]
      refine V_icmp_le 101 dX1_findBest_82 (by decide) (by omega) (by omega) (fun h82 => ?_) (fun h82 => ?_)
      · rw [if_neg (by omega)] at eb
        refine S_iinc (ls' := [_, _, _, _, _]) dX1_findBest_101 rfl ⟨rfl, rfl⟩ rfl ?_
        refine V_goto 61 dX1_findBest_104 (by decide) ?_
        exact ih (v + 1) mi' _ (by omega) (by omega) (by rw [eb]; exact h3) h5
      · refine V_aload_n dX1_findBest_85 rfl ?_
        refine V_iload dX1_findBest_86 rfl ?_
        refine V_puti 5 dX1_findBest_88 fl_RX1_58 (by first | with_reducible assumption | rfl) rfl rfl rfl ?_
        refine V_aload_n dX1_findBest_91 rfl ?_
        refine V_iload_n dX1_findBest_92 rfl ?_
        refine V_puti 3 dX1_findBest_93 fl_RX1_61 (by first | with_reducible assumption | rfl) rfl rfl rfl ?_
        refine V_aload_n dX1_findBest_96 rfl ?_
        refine V_iload_n dX1_findBest_97 rfl ?_
        refine V_puti 4 dX1_findBest_98 fl_RX1_64 (by first | with_reducible assumption | rfl) rfl rfl rfl ?_
        refine S_iinc (ls' := [_, _, _, _, _]) dX1_findBest_101 rfl ⟨rfl, rfl⟩ rfl ?_
        refine V_goto 61 dX1_findBest_104 (by decide) ?_
        rw [if_pos (by omega)] at eb
        exact ih (v + 1) _ _ (by omega) (by omega) (by rw [eb]; exact ⟨by simp [up2, up1], by simp [up2, up1], by simp [up2, up1]⟩) (fun z hz => by rw [up2_n _ _ _ hz, up2_n _ _ _ hz, up2_n _ _ _ hz]; exact h5 z hz)
theorem bAll_r (c : Nat → Int → Int) (s : Int × Int × Int) (hs : -1 ≤ s.2.2 ∧ s.2.2 ≤ 100) (k : Nat) (hc : ∀ (p v : Nat), p < k → 0 ≤ c p v ∧ c p v ≤ 100) : ∀ p : Nat, p ≤ k → -1 ≤ (bAll c s p).2.2 ∧ (bAll c s p).2.2 ≤ 100
  | 0, _ => hs
  | p + 1, h => bRow_r c p _ (bAll_r c s hs k hc p (by omega)) (fun v => hc p v (by omega)) 8
set_option maxRecDepth 100000 in
set_option maxHeartbeats 1000000 in
theorem c_X1_findBest (hN : Now mi mr f fb g gb n m A B) : C0 yX1_findBest cX1_findBest 5 none 5 SH mi mr [vr 52, vr 1] (fun mi' mr' => mr' = mr ∧ BsM mi' (bAll (cwF A B n m) (-1, -1, lcN A B n.toNat m.toNat) n.toNat) ∧ ∀ z, z ≠ 52 → z ≠ 54 → z ≠ 56 → mi' z = mi z) := by
  have hA := hN.2.2.2.2.2.2.1
  have hB := hN.2.2.2.2.2.2.2
  have hn := hA.1
  have hm := hB.1
  have hlc := lcN_r A B n.toNat m.toNat
  obtain ⟨⟨u1, u2, hG⟩, ⟨u4, u5, u6⟩, ⟨u7, u8, u9⟩, ⟨u10, u11, u12⟩, -⟩ := hN.u
  have loop : ∀ (mi1 : MI), GF mi1 54 (lcN A B) n m (n.toNat + 1) 0 → EF mi1 A B n m (n.toNat + 1) 0 → Now mi1 mr f fb g gb n m A B → (∀ z, z ≠ 52 → z ≠ 54 → z ≠ 56 → mi1 z = mi z) → ∀ (w p : Nat) (mi' : MI) (o3 o4 : Option AV), (p : Int) ≤ n → n - p < w → BsM mi' (bAll (cwF A B n m) (-1, -1, lcN A B n.toNat m.toNat) p) → (∀ z, z ≠ 52 → mi' z = mi1 z) → V (RX1, cX1_findBest, 5, rm 5, false, none, none) (fun r sh' mi' mr' => sh' = SH ∧ r = none ∧ mr' = mr ∧ BsM mi' (bAll (cwF A B n m) (-1, -1, lcN A B n.toNat m.toNat) n.toNat) ∧ ∀ z, z ≠ 52 → z ≠ 54 → z ≠ 56 → mi' z = mi z) 0 0 SH mi' mr [some (vr 52), some (vr 1), some (vi p), o3, o4] [] 48 := by
    intro mi1 h1 h2 h3 h4 w
    induction w with
    | zero => intro p mi' o3 o4 g1 g2; omega
    | succ w ih =>
      intro p mi' o3 o4 g1 g2 g3 g4
      have hN' : Now mi' mr f fb g gb n m A B := h3.keep (fun z z1 z2 => g4 z (by omega))
      obtain ⟨⟨u1, u2, hG⟩, ⟨u4, u5, u6⟩, ⟨u7, u8, u9⟩, ⟨u10, u11, u12⟩, -⟩ := hN'.u
      have hbr := bAll_r (cwF A B n m) (-1, -1, lcN A B n.toNat m.toNat) (by simp only; omega) n.toNat (fun p v hp => cwN_r A B n m p v ⟨by omega, hn.2⟩ _) p (by omega)
      refine V_iload_n dX1_findBest_48 rfl ?_
      refine V_aload_n dX1_findBest_49 rfl ?_
      refine V_getr 0 _ dX1_findBest_50 fl_RX1_28 (by first | with_reducible assumption | rfl) rfl rfl (by first | with_reducible assumption | exact hG.at rfl) ?_
      refine V_geti 1 dX1_findBest_53 fl_RX1_34 (by first | with_reducible assumption | rfl) rfl rfl ?_
      refine V_icmp_ge 113 dX1_findBest_56 (by decide) (by omega) (by omega) (fun h56 => ?_) (fun h56 => ?_)
      · refine V_vret dX1_findBest_113 rfl ⟨Nat.le_of_ble_eq_true rfl, Nat.le_of_ble_eq_true rfl⟩ ?_
        exact ⟨rfl, rfl, rfl, by rw [show n.toNat = p by omega] at g3 ⊢; exact g3, fun z z1 z2 z3 => by rw [g4 z z1, h4 z z1 z2 z3]⟩
      · refine V_iconst dX1_findBest_59 ?_
        refine S_istore_n (ls' := [_, _, _, _, _]) dX1_findBest_60 ⟨Nat.le_of_ble_eq_true rfl, rfl, rfl⟩ rfl ?_
        refine l_X1_findBest (mi := mi') p (by omega) hn _ hbr o4 (h1.keep (g4 54 (by decide))) (h2.keep (g4 56 (by decide))) hN' (fun mi2 o4 k1 k2 => ?_) 9 0 mi' o4 (by omega) (by omega) g3 (fun _ _ => rfl)
        refine S_iinc (ls' := [_, _, _, _, _]) dX1_findBest_107 rfl ⟨rfl, rfl⟩ rfl ?_
        refine V_goto 48 dX1_findBest_110 (by decide) ?_
        exact ih (p + 1) mi2 _ _ (by omega) (by omega) k1 (fun z hz => by rw [k2 z hz, g4 z hz])
  refine Ct.ofV (ini := false) [some (vr 52), some (vr 1), none, none, none] km_X1_findBest (by decide) rfl (Nat.le_of_ble_eq_true rfl) ?_
  refine V_aload_n dX1_findBest_0 rfl ?_
  refine V_aload_n dX1_findBest_1 rfl ?_
  refine V_callV0 dX1_findBest_2 ml_RX1_24 km_X1_fillBeginnings kv_X1_fillBeginnings (c_X1_fillBeginnings hN) (by first | with_reducible assumption | rfl) rfl rfl rfl (Nat.le_of_ble_eq_true rfl) ⟨Nat.le_of_ble_eq_true rfl, Nat.le_of_ble_eq_true rfl⟩ ⟨Nat.le_of_ble_eq_true rfl, Nat.le_of_ble_eq_true rfl⟩ ?_
  rintro mi2 mr2 ⟨rfl, g1, g2⟩
  have hN2 : Now mi2 mr2 f fb g gb n m A B := hN.keep (fun z z1 z2 => g2 z (by omega))
  refine V_aload_n dX1_findBest_5 rfl ?_
  refine V_aload_n dX1_findBest_6 rfl ?_
  refine V_callV0 dX1_findBest_7 ml_RX1_55 km_X1_fillEnds kv_X1_fillEnds (c_X1_fillEnds hN2) (by first | with_reducible assumption | rfl) rfl rfl rfl (Nat.le_of_ble_eq_true rfl) ⟨Nat.le_of_ble_eq_true rfl, Nat.le_of_ble_eq_true rfl⟩ ⟨Nat.le_of_ble_eq_true rfl, Nat.le_of_ble_eq_true rfl⟩ ?_
  rintro mi3 mr3 ⟨rfl, g3, g4⟩
  have hN3 : Now mi3 mr3 f fb g gb n m A B := hN2.keep (fun z z1 z2 => g4 z (by omega))
  have g1' := g1.keep (mi' := mi3) (g4 54 (by decide))
  obtain ⟨-, -, -, ⟨v10, v11, v12⟩, -⟩ := hN3.u
  refine V_aload_n dX1_findBest_10 rfl ?_
  refine V_aload_n dX1_findBest_11 rfl ?_
  refine V_getr 0 _ dX1_findBest_12 fl_RX1_12 (by first | with_reducible assumption | rfl) rfl rfl (by first | with_reducible assumption | exact hG.at rfl) ?_
  refine V_aload_n dX1_findBest_15 rfl ?_
  refine V_getr 0 _ dX1_findBest_16 fl_RX1_28 (by first | with_reducible assumption | rfl) rfl rfl (by first | with_reducible assumption | exact hG.at rfl) ?_
  refine V_geti 1 dX1_findBest_19 fl_RX1_34 (by first | with_reducible assumption | rfl) rfl rfl ?_
  refine V_aload_n dX1_findBest_22 rfl ?_
  refine V_getr 1 _ dX1_findBest_23 fl_RX1_40 (by first | with_reducible assumption | rfl) rfl rfl (by first | with_reducible assumption | exact hG.at rfl) ?_
  refine V_geti 1 dX1_findBest_26 fl_RX1_34 (by first | with_reducible assumption | rfl) rfl rfl ?_
  refine V_callVP dX1_findBest_29 ml_RX1_51 km_X2_at kv_X2_at (c_X2_at (a := 53) (b := 54) (x := mi3 f 1) (y := mi3 g 1) rfl (hG.at rfl) rfl (by omega) (by omega)) (by first | with_reducible assumption | rfl) rfl rfl rfl (Nat.le_of_ble_eq_true rfl) ⟨Nat.le_of_ble_eq_true rfl, Nat.le_of_ble_eq_true rfl⟩ ⟨Nat.le_of_ble_eq_true rfl, Nat.le_of_ble_eq_true rfl⟩ ?_
  rw [GF_at g1' hn.2 hm.2 (x' := n.toNat) (y' := m.toNat) (by omega) (by omega) (by omega) (by omega) (by omega)]
  refine V_l2i dX1_findBest_32 ?_
  refine V_puti 5 dX1_findBest_33 fl_RX1_58 (by first | with_reducible assumption | rfl) rfl rfl rfl ?_
  refine V_aload_n dX1_findBest_36 rfl ?_
  refine V_iconst dX1_findBest_37 ?_
  refine V_puti 3 dX1_findBest_38 fl_RX1_61 (by first | with_reducible assumption | rfl) rfl rfl rfl ?_
  refine V_aload_n dX1_findBest_41 rfl ?_
  refine V_iconst dX1_findBest_42 ?_
  refine V_puti 4 dX1_findBest_43 fl_RX1_64 (by first | with_reducible assumption | rfl) rfl rfl rfl ?_
  refine V_iconst dX1_findBest_46 ?_
  refine S_istore_n (ls' := [_, _, _, _, _]) dX1_findBest_47 ⟨Nat.le_of_ble_eq_true rfl, rfl, rfl⟩ rfl ?_
  refine loop mi3 g1' g3 hN3 (fun z z1 z2 z3 => by rw [g4 z z3, g2 z z2]) (n.toNat + 1) 0 _ none none (by omega) (by omega) ⟨by simp [up2, up1, bAll], by simp [up2, up1, bAll], by simp [up2, up1, bAll]⟩ (fun z hz => by rw [up2_n _ _ _ hz, up2_n _ _ _ hz, up2_n _ _ _ hz])
end COMMONS3
