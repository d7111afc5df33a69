/-! ===== DiagonalTexts$Script ===== -/
section SCRIPT
variable {mi : MI} {mr : MR} {f fb g gb : Nat} {n m D : Int} {A B : Int → Int}
set_option maxRecDepth 100000 in
theorem c_X8_put {i v l x y : Int} (hG : Gr mr) (hi : rng i) : C0 yX8_put cX8_put 6 none 0 SH mi mr [vr 37, vi i, vi v, vi l, vi x, vi y] (fun mi' mr' => mr' = mr ∧ mi' = if 0 ≤ i ∧ i < 57 then up2 (up2 (up2 (up2 mi 38 i v) 39 i l) 40 i x) 41 i y else mi) := by
  refine Ct.ofV (ini := false) [some (vr 37), some (vi i), some (vi v), some (vi l), some (vi x), some (vi y)] km_X8_put (by decide) rfl (Nat.le_of_ble_eq_true rfl) ?_
  refine V_iload_n dX8_put_0 rfl ?_
  refine V_if_lt 70 dX8_put_1 (by decide) (by omega) (fun h1 => ?_) (fun h1 => ?_)
  · refine V_vret dX8_put_70 rfl ⟨Nat.le_of_ble_eq_true rfl, Nat.le_of_ble_eq_true rfl⟩ ?_
    exact ⟨rfl, rfl, rfl, by split <;> first | rfl | (exfalso; omega)⟩
  · refine V_iload_n dX8_put_4 rfl ?_
    refine V_aload_n dX8_put_5 rfl ?_
    refine V_getr 0 _ dX8_put_6 fl_RX8_9 (by first | with_reducible assumption | rfl) rfl rfl (by first | with_reducible assumption | exact hG.at rfl) ?_
    refine V_alen dX8_put_9 (by first | with_reducible assumption | rfl) ?_
    refine V_icmp_ge 70 dX8_put_10 (by decide) (by omega) (by omega) (fun h10 => ?_) (fun h10 => ?_)
    · refine V_vret dX8_put_70 rfl ⟨Nat.le_of_ble_eq_true rfl, Nat.le_of_ble_eq_true rfl⟩ ?_
      exact ⟨rfl, rfl, rfl, by split <;> first | rfl | (exfalso; omega)⟩
    · refine V_iload_n dX8_put_13 rfl ?_
      refine V_aload_n dX8_put_14 rfl ?_
      refine V_getr 1 _ dX8_put_15 fl_RX8_15 (by first | with_reducible assumption | rfl) rfl rfl (by first | with_reducible assumption | exact hG.at rfl) ?_
      refine V_alen dX8_put_18 (by first | with_reducible assumption | rfl) ?_
      refine V_icmp_ge 70 dX8_put_19 (by decide) (by omega) (by omega) (fun h19 => ?_) (fun h19 => ?_)
      · refine V_vret dX8_put_70 rfl ⟨Nat.le_of_ble_eq_true rfl, Nat.le_of_ble_eq_true rfl⟩ ?_
        exact ⟨rfl, rfl, rfl, by split <;> first | rfl | (exfalso; omega)⟩
      · refine V_iload_n dX8_put_22 rfl ?_
        refine V_aload_n dX8_put_23 rfl ?_
        refine V_getr 2 _ dX8_put_24 fl_RX8_18 (by first | with_reducible assumption | rfl) rfl rfl (by first | with_reducible assumption | exact hG.at rfl) ?_
        refine V_alen dX8_put_27 (by first | with_reducible assumption | rfl) ?_
        refine V_icmp_ge 70 dX8_put_28 (by decide) (by omega) (by omega) (fun h28 => ?_) (fun h28 => ?_)
        · refine V_vret dX8_put_70 rfl ⟨Nat.le_of_ble_eq_true rfl, Nat.le_of_ble_eq_true rfl⟩ ?_
          exact ⟨rfl, rfl, rfl, by split <;> first | rfl | (exfalso; omega)⟩
        · refine V_iload_n dX8_put_31 rfl ?_
          refine V_aload_n dX8_put_32 rfl ?_
          refine V_getr 3 _ dX8_put_33 fl_RX8_21 (by first | with_reducible assumption | rfl) rfl rfl (by first | with_reducible assumption | exact hG.at rfl) ?_
          refine V_alen dX8_put_36 (by first | with_reducible assumption | rfl) ?_
          refine V_icmp_ge 70 dX8_put_37 (by decide) (by omega) (by omega) (fun h37 => ?_) (fun h37 => ?_)
          · refine V_vret dX8_put_70 rfl ⟨Nat.le_of_ble_eq_true rfl, Nat.le_of_ble_eq_true rfl⟩ ?_
            exact ⟨rfl, rfl, rfl, by split <;> first | rfl | (exfalso; omega)⟩
          · refine V_aload_n dX8_put_40 rfl ?_
            refine V_getr 0 _ dX8_put_41 fl_RX8_9 (by first | with_reducible assumption | rfl) rfl rfl (by first | with_reducible assumption | exact hG.at rfl) ?_
            refine V_iload_n dX8_put_44 rfl ?_
            refine V_iload_n dX8_put_45 rfl ?_
            refine V_iast dX8_put_46 (by first | with_reducible assumption | rfl) (by decide) (by omega) ?_
            refine V_aload_n dX8_put_47 rfl ?_
            refine V_getr 1 _ dX8_put_48 fl_RX8_15 (by first | with_reducible assumption | rfl) rfl rfl (by first | with_reducible assumption | exact hG.at rfl) ?_
            refine V_iload_n dX8_put_51 rfl ?_
            refine V_iload_n dX8_put_52 rfl ?_
            refine V_iast dX8_put_53 (by first | with_reducible assumption | rfl) (by decide) (by omega) ?_
            refine V_aload_n dX8_put_54 rfl ?_
            refine V_getr 2 _ dX8_put_55 fl_RX8_18 (by first | with_reducible assumption | rfl) rfl rfl (by first | with_reducible assumption | exact hG.at rfl) ?_
            refine V_iload_n dX8_put_58 rfl ?_
            refine V_iload dX8_put_59 rfl ?_
            refine V_iast dX8_put_61 (by first | with_reducible assumption | rfl) (by decide) (by omega) ?_
            refine V_aload_n dX8_put_62 rfl ?_
            refine V_getr 3 _ dX8_put_63 fl_RX8_21 (by first | with_reducible assumption | rfl) rfl rfl (by first | with_reducible assumption | exact hG.at rfl) ?_
            refine V_iload_n dX8_put_66 rfl ?_
            refine V_iload dX8_put_67 rfl ?_
            refine V_iast dX8_put_69 (by first | with_reducible assumption | rfl) (by decide) (by omega) ?_
            refine V_vret dX8_put_70 rfl ⟨Nat.le_of_ble_eq_true rfl, Nat.le_of_ble_eq_true rfl⟩ ?_
            exact ⟨rfl, rfl, rfl, by split <;> first | rfl | (exfalso; omega)⟩
set_option maxRecDepth 100000 in
theorem c_X8_kindAt {i : Int} (hG : Gr mr) (hi : rng i) (hl : 0 ≤ mi 37 4 ∧ mi 37 4 ≤ 56) : CP yX8_kindAt cX8_kindAt 2 (some .int) 0 SH mi mr [vr 37, vi i] (vi (if 0 ≤ i ∧ i < mi 37 4 then mi 38 i else -1)) := by
  refine Ct.ofV (ini := false) [some (vr 37), some (vi i)] km_X8_kindAt (by decide) rfl (Nat.le_of_ble_eq_true rfl) ?_
  refine V_iload_n dX8_kindAt_0 rfl ?_
  refine V_if_lt 30 dX8_kindAt_1 (by decide) (by omega) (fun h1 => ?_) (fun h1 => ?_)
  · refine V_iconst dX8_kindAt_30 ?_
    refine V_iret dX8_kindAt_31 rfl ⟨Nat.le_of_ble_eq_true rfl, Nat.le_of_ble_eq_true rfl⟩ ?_
    exact ⟨rfl, svi (by split <;> first | rfl | (exfalso; omega)), rfl, rfl⟩
  · refine V_iload_n dX8_kindAt_4 rfl ?_
    refine V_aload_n dX8_kindAt_5 rfl ?_
    refine V_geti 4 dX8_kindAt_6 fl_RX8_44 (by first | with_reducible assumption | rfl) rfl rfl ?_
    refine V_icmp_ge 30 dX8_kindAt_9 (by decide) (by omega) (by omega) (fun h9 => ?_) (fun h9 => ?_)
    · refine V_iconst dX8_kindAt_30 ?_
      refine V_iret dX8_kindAt_31 rfl ⟨Nat.le_of_ble_eq_true rfl, Nat.le_of_ble_eq_true rfl⟩ ?_
      exact ⟨rfl, svi (by split <;> first | rfl | (exfalso; omega)), rfl, rfl⟩
    · refine V_iload_n dX8_kindAt_12 rfl ?_
      refine V_aload_n dX8_kindAt_13 rfl ?_
      refine V_getr 0 _ dX8_kindAt_14 fl_RX8_9 (by first | with_reducible assumption | rfl) rfl rfl (by first | with_reducible assumption | exact hG.at rfl) ?_
      refine V_alen dX8_kindAt_17 (by first | with_reducible assumption | rfl) ?_
      refine V_icmp_ge 30 dX8_kindAt_18 (by decide) (by omega) (by omega) (fun h18 => ?_) (fun h18 => ?_)
      · refine V_iconst dX8_kindAt_30 ?_
        refine V_iret dX8_kindAt_31 rfl ⟨Nat.le_of_ble_eq_true rfl, Nat.le_of_ble_eq_true rfl⟩ ?_
        exact ⟨rfl, svi (by split <;> first | rfl | (exfalso; omega)), rfl, rfl⟩
      · refine V_aload_n dX8_kindAt_21 rfl ?_
        refine V_getr 0 _ dX8_kindAt_22 fl_RX8_9 (by first | with_reducible assumption | rfl) rfl rfl (by first | with_reducible assumption | exact hG.at rfl) ?_
        refine V_iload_n dX8_kindAt_25 rfl ?_
        refine V_iald dX8_kindAt_26 (by first | with_reducible assumption | rfl) (by decide) (by omega) ?_
        refine V_goto 31 dX8_kindAt_27 (by decide) ?_
        refine V_iret dX8_kindAt_31 rfl ⟨Nat.le_of_ble_eq_true rfl, Nat.le_of_ble_eq_true rfl⟩ ?_
        exact ⟨rfl, svi (by split <;> first | rfl | (exfalso; omega)), rfl, rfl⟩
set_option maxRecDepth 100000 in
theorem c_X8_letterOf {i : Int} (hG : Gr mr) (hi : rng i) (hl : 0 ≤ mi 37 4 ∧ mi 37 4 ≤ 56) : CP yX8_letterOf cX8_letterOf 2 (some .int) 0 SH mi mr [vr 37, vi i] (vi (if 0 ≤ i ∧ i < mi 37 4 then mi 39 i else -1)) := by
  refine Ct.ofV (ini := false) [some (vr 37), some (vi i)] km_X8_letterOf (by decide) rfl (Nat.le_of_ble_eq_true rfl) ?_
  refine V_iload_n dX8_letterOf_0 rfl ?_
  refine V_if_lt 30 dX8_letterOf_1 (by decide) (by omega) (fun h1 => ?_) (fun h1 => ?_)
  · refine V_iconst dX8_letterOf_30 ?_
    refine V_iret dX8_letterOf_31 rfl ⟨Nat.le_of_ble_eq_true rfl, Nat.le_of_ble_eq_true rfl⟩ ?_
    exact ⟨rfl, svi (by split <;> first | rfl | (exfalso; omega)), rfl, rfl⟩
  · refine V_iload_n dX8_letterOf_4 rfl ?_
    refine V_aload_n dX8_letterOf_5 rfl ?_
    refine V_geti 4 dX8_letterOf_6 fl_RX8_44 (by first | with_reducible assumption | rfl) rfl rfl ?_
    refine V_icmp_ge 30 dX8_letterOf_9 (by decide) (by omega) (by omega) (fun h9 => ?_) (fun h9 => ?_)
    · refine V_iconst dX8_letterOf_30 ?_
      refine V_iret dX8_letterOf_31 rfl ⟨Nat.le_of_ble_eq_true rfl, Nat.le_of_ble_eq_true rfl⟩ ?_
      exact ⟨rfl, svi (by split <;> first | rfl | (exfalso; omega)), rfl, rfl⟩
    · refine V_iload_n dX8_letterOf_12 rfl ?_
      refine V_aload_n dX8_letterOf_13 rfl ?_
      refine V_getr 1 _ dX8_letterOf_14 fl_RX8_15 (by first | with_reducible assumption | rfl) rfl rfl (by first | with_reducible assumption | exact hG.at rfl) ?_
      refine V_alen dX8_letterOf_17 (by first | with_reducible assumption | rfl) ?_
      refine V_icmp_ge 30 dX8_letterOf_18 (by decide) (by omega) (by omega) (fun h18 => ?_) (fun h18 => ?_)
      · refine V_iconst dX8_letterOf_30 ?_
        refine V_iret dX8_letterOf_31 rfl ⟨Nat.le_of_ble_eq_true rfl, Nat.le_of_ble_eq_true rfl⟩ ?_
        exact ⟨rfl, svi (by split <;> first | rfl | (exfalso; omega)), rfl, rfl⟩
      · refine V_aload_n dX8_letterOf_21 rfl ?_
        refine V_getr 1 _ dX8_letterOf_22 fl_RX8_15 (by first | with_reducible assumption | rfl) rfl rfl (by first | with_reducible assumption | exact hG.at rfl) ?_
        refine V_iload_n dX8_letterOf_25 rfl ?_
        refine V_iald dX8_letterOf_26 (by first | with_reducible assumption | rfl) (by decide) (by omega) ?_
        refine V_goto 31 dX8_letterOf_27 (by decide) ?_
        refine V_iret dX8_letterOf_31 rfl ⟨Nat.le_of_ble_eq_true rfl, Nat.le_of_ble_eq_true rfl⟩ ?_
        exact ⟨rfl, svi (by split <;> first | rfl | (exfalso; omega)), rfl, rfl⟩
set_option maxRecDepth 100000 in
theorem c_X8_firstDoneAt {i : Int} (hG : Gr mr) (hi : rng i) (hl : 0 ≤ mi 37 4 ∧ mi 37 4 ≤ 56) : CP yX8_firstDoneAt cX8_firstDoneAt 2 (some .int) 0 SH mi mr [vr 37, vi i] (vi (if 0 ≤ i ∧ i ≤ mi 37 4 then mi 40 i else -1)) := by
  refine Ct.ofV (ini := false) [some (vr 37), some (vi i)] km_X8_firstDoneAt (by decide) rfl (Nat.le_of_ble_eq_true rfl) ?_
  refine V_iload_n dX8_firstDoneAt_0 rfl ?_
  refine V_if_lt 30 dX8_firstDoneAt_1 (by decide) (by omega) (fun h1 => ?_) (fun h1 => ?_)
  · refine V_iconst dX8_firstDoneAt_30 ?_
    refine V_iret dX8_firstDoneAt_31 rfl ⟨Nat.le_of_ble_eq_true rfl, Nat.le_of_ble_eq_true rfl⟩ ?_
    exact ⟨rfl, svi (by split <;> first | rfl | (exfalso; omega)), rfl, rfl⟩
  · refine V_iload_n dX8_firstDoneAt_4 rfl ?_
    refine V_aload_n dX8_firstDoneAt_5 rfl ?_
    refine V_geti 4 dX8_firstDoneAt_6 fl_RX8_44 (by first | with_reducible assumption | rfl) rfl rfl ?_
    refine V_icmp_gt 30 dX8_firstDoneAt_9 (by decide) (by omega) (by omega) (fun h9 => ?_) (fun h9 => ?_)
    · refine V_iconst dX8_firstDoneAt_30 ?_
      refine V_iret dX8_firstDoneAt_31 rfl ⟨Nat.le_of_ble_eq_true rfl, Nat.le_of_ble_eq_true rfl⟩ ?_
      exact ⟨rfl, svi (by split <;> first | rfl | (exfalso; omega)), rfl, rfl⟩
    · refine V_iload_n dX8_firstDoneAt_12 rfl ?_
      refine V_aload_n dX8_firstDoneAt_13 rfl ?_
      refine V_getr 2 _ dX8_firstDoneAt_14 fl_RX8_18 (by first | with_reducible assumption | rfl) rfl rfl (by first | with_reducible assumption | exact hG.at rfl) ?_
      refine V_alen dX8_firstDoneAt_17 (by first | with_reducible assumption | rfl) ?_
      refine V_icmp_ge 30 dX8_firstDoneAt_18 (by decide) (by omega) (by omega) (fun h18 => ?_) (fun h18 => ?_)
      · refine V_iconst dX8_firstDoneAt_30 ?_
        refine V_iret dX8_firstDoneAt_31 rfl ⟨Nat.le_of_ble_eq_true rfl, Nat.le_of_ble_eq_true rfl⟩ ?_
        exact ⟨rfl, svi (by split <;> first | rfl | (exfalso; omega)), rfl, rfl⟩
      · refine V_aload_n dX8_firstDoneAt_21 rfl ?_
        refine V_getr 2 _ dX8_firstDoneAt_22 fl_RX8_18 (by first | with_reducible assumption | rfl) rfl rfl (by first | with_reducible assumption | exact hG.at rfl) ?_
        refine V_iload_n dX8_firstDoneAt_25 rfl ?_
        refine V_iald dX8_firstDoneAt_26 (by first | with_reducible assumption | rfl) (by decide) (by omega) ?_
        refine V_goto 31 dX8_firstDoneAt_27 (by decide) ?_
        refine V_iret dX8_firstDoneAt_31 rfl ⟨Nat.le_of_ble_eq_true rfl, Nat.le_of_ble_eq_true rfl⟩ ?_
        exact ⟨rfl, svi (by split <;> first | rfl | (exfalso; omega)), rfl, rfl⟩
set_option maxRecDepth 100000 in
theorem c_X8_secondDoneAt {i : Int} (hG : Gr mr) (hi : rng i) (hl : 0 ≤ mi 37 4 ∧ mi 37 4 ≤ 56) : CP yX8_secondDoneAt cX8_secondDoneAt 2 (some .int) 0 SH mi mr [vr 37, vi i] (vi (if 0 ≤ i ∧ i ≤ mi 37 4 then mi 41 i else -1)) := by
  refine Ct.ofV (ini := false) [some (vr 37), some (vi i)] km_X8_secondDoneAt (by decide) rfl (Nat.le_of_ble_eq_true rfl) ?_
  refine V_iload_n dX8_secondDoneAt_0 rfl ?_
  refine V_if_lt 30 dX8_secondDoneAt_1 (by decide) (by omega) (fun h1 => ?_) (fun h1 => ?_)
  · refine V_iconst dX8_secondDoneAt_30 ?_
    refine V_iret dX8_secondDoneAt_31 rfl ⟨Nat.le_of_ble_eq_true rfl, Nat.le_of_ble_eq_true rfl⟩ ?_
    exact ⟨rfl, svi (by split <;> first | rfl | (exfalso; omega)), rfl, rfl⟩
  · refine V_iload_n dX8_secondDoneAt_4 rfl ?_
    refine V_aload_n dX8_secondDoneAt_5 rfl ?_
    refine V_geti 4 dX8_secondDoneAt_6 fl_RX8_44 (by first | with_reducible assumption | rfl) rfl rfl ?_
    refine V_icmp_gt 30 dX8_secondDoneAt_9 (by decide) (by omega) (by omega) (fun h9 => ?_) (fun h9 => ?_)
    · refine V_iconst dX8_secondDoneAt_30 ?_
      refine V_iret dX8_secondDoneAt_31 rfl ⟨Nat.le_of_ble_eq_true rfl, Nat.le_of_ble_eq_true rfl⟩ ?_
      exact ⟨rfl, svi (by split <;> first | rfl | (exfalso; omega)), rfl, rfl⟩
    · refine V_iload_n dX8_secondDoneAt_12 rfl ?_
      refine V_aload_n dX8_secondDoneAt_13 rfl ?_
      refine V_getr 3 _ dX8_secondDoneAt_14 fl_RX8_21 (by first | with_reducible assumption | rfl) rfl rfl (by first | with_reducible assumption | exact hG.at rfl) ?_
      refine V_alen dX8_secondDoneAt_17 (by first | with_reducible assumption | rfl) ?_
      refine V_icmp_ge 30 dX8_secondDoneAt_18 (by decide) (by omega) (by omega) (fun h18 => ?_) (fun h18 => ?_)
      · refine V_iconst dX8_secondDoneAt_30 ?_
        refine V_iret dX8_secondDoneAt_31 rfl ⟨Nat.le_of_ble_eq_true rfl, Nat.le_of_ble_eq_true rfl⟩ ?_
        exact ⟨rfl, svi (by split <;> first | rfl | (exfalso; omega)), rfl, rfl⟩
      · refine V_aload_n dX8_secondDoneAt_21 rfl ?_
        refine V_getr 3 _ dX8_secondDoneAt_22 fl_RX8_21 (by first | with_reducible assumption | rfl) rfl rfl (by first | with_reducible assumption | exact hG.at rfl) ?_
        refine V_iload_n dX8_secondDoneAt_25 rfl ?_
        refine V_iald dX8_secondDoneAt_26 (by first | with_reducible assumption | rfl) (by decide) (by omega) ?_
        refine V_goto 31 dX8_secondDoneAt_27 (by decide) ?_
        refine V_iret dX8_secondDoneAt_31 rfl ⟨Nat.le_of_ble_eq_true rfl, Nat.le_of_ble_eq_true rfl⟩ ?_
        exact ⟨rfl, svi (by split <;> first | rfl | (exfalso; omega)), rfl, rfl⟩
/-- the script as it lies in the class's arrays -/
def ScM (mi : MI) (L : Int) (K Lt X Y : Int → Int) : Prop := (mi 37 4 = L ∧ 0 ≤ L ∧ L ≤ 56) ∧ (∀ i, 0 ≤ i → i < L → mi 38 i = K i ∧ mi 39 i = Lt i) ∧ ∀ i, 0 ≤ i → i ≤ L → mi 40 i = X i ∧ mi 41 i = Y i
/-- what is laid down from behind, up to the step L - j -/
def Fil (mi : MI) (A B : Int → Int) (n m D j : Int) : Prop := (∀ i, sL n m D - j ≤ i → i < sL n m D → mi 38 i = sK A B n m D i ∧ mi 39 i = sLt A B n m D i) ∧ ∀ i, sL n m D - j ≤ i → i ≤ sL n m D → mi 40 i = sX A B n m D i ∧ mi 41 i = sY A B n m D i
theorem Fil.put {i v l x y : Int} (h : Fil mi A B n m D (sL n m D - (i + 1))) (hv : v = sK A B n m D i) (hl : l = sLt A B n m D i) (hx : x = sX A B n m D i) (hy : y = sY A B n m D i) : Fil (up2 (up2 (up2 (up2 mi 38 i v) 39 i l) 40 i x) 41 i y) A B n m D (sL n m D - i) := by
  subst hv hl hx hy
  constructor
  · intro j h1 h2
    by_cases hj : j = i
    · subst hj; simp [up2, up1]
    · have := h.1 j (by omega) h2
      simp [up2, up1, hj, this]
  · intro j h1 h2
    by_cases hj : j = i
    · subst hj; simp [up2, up1]
    · have := h.2 j (by omega) h2
      simp [up2, up1, hj, this]
theorem sc_at {j : Nat} {i : Int} (h : i = sL n m D - 1 - j) : sK A B n m D i = kd A B (tr A B n m D j) ∧ sX A B n m D i = (nx A B (tr A B n m D j)).2.1 ∧ sY A B n m D i = (nx A B (tr A B n m D j)).2.2 := by
  unfold sK sX sY
  rw [show (sL n m D - 1 - i).toNat = j by omega, show (sL n m D - i).toNat = j + 1 by omega]
  exact ⟨rfl, rfl, rfl⟩
set_option maxRecDepth 100000 in
set_option maxHeartbeats 2000000 in
theorem l_X8_rebuild {Q : PQ} (hA : NR n A) (hB : NR m B) (hD : isD n m A B D)
    (hQ : ∀ mi' : MI, Fil mi' A B n m D (sL n m D) → (∀ x, x < 38 ∨ 41 < x → mi' x = mi x) → Q none SH mi' mr) :
    ∀ (t : Nat) (j : Nat) (d x y st : Int) (mi' : MI) (o8 : Option AV), st = sL n m D - j → (j : Int) ≤ sL n m D → sL n m D - j < t → tr A B n m D j = (d, x, y) → Now mi' mr f fb g gb n m A B → Rch mi' A B (D + 1) (-(D + 1)) → d ≤ D → Fil mi' A B n m D j → (∀ x, x < 38 ∨ 41 < x → mi' x = mi x) →
      V (RX8, cX8_rebuild, 9, rm 3, false, none, none) Q 0 0 SH mi' mr [some (vr 37), some (vr 1), some (vr 35), some (vi x), some (vi y), some (vi st), some (vi d), some (vi (bI A B d (x - y))), o8] [] 72 := by
  have hLr := sL_r hA hB hD
  intro t
  induction t with
  | zero => intro j d x y st mi' o8 hst h1 h2; omega
  | succ t ih =>
    intro j d x y st mi' o8 hst h1 h2 h3 h4 h5 h6 h7 h8
    subst hst
    obtain ⟨⟨u1, u2, hG⟩, ⟨u4, u5, u6⟩, ⟨u7, u8, u9⟩, ⟨u10, u11, u12⟩, uA, uB, rA, rB⟩ := h4.u
    obtain ⟨T1, T2⟩ := tr_TI hA hB hD j h1
    rw [h3] at T1 T2
    have T1' := T1
    obtain ⟨hl, hxy, hbx, hfx⟩ := T1
    simp only at hl hxy hbx hfx T2
    have hb := bI_rr hA hB d (x - y) hl.1
    have hn1 := hA.1
    have hm1 := hB.1
    have hi0 : sL n m D - j + -1 = sL n m D - 1 - j := by omega
    obtain ⟨z1, z2, z3⟩ := sc_at (A := A) (B := B) (n := n) (m := m) (D := D) (j := j) hi0
    rw [h3] at z1 z2 z3
    have key : ∀ (v l x' y' : Int), v = sK A B n m D (sL n m D - j + -1) → l = sLt A B n m D (sL n m D - j + -1) → x' = sX A B n m D (sL n m D - j + -1) → y' = sY A B n m D (sL n m D - j + -1) → Fil (up2 (up2 (up2 (up2 mi' 38 (sL n m D - j + -1) v) 39 (sL n m D - j + -1) l) 40 (sL n m D - j + -1) x') 41 (sL n m D - j + -1) y') A B n m D ((j + 1 : Nat) : Int) := by
      intro v l x' y' g1 g2 g3 g4
      have := Fil.put (mi := mi') (i := sL n m D - j + -1) (by rw [show sL n m D - (sL n m D - j + -1 + 1) = j by omega]; exact h7) g1 g2 g3 g4
      rw [show sL n m D - (sL n m D - j + -1) = ((j + 1 : Nat) : Int) by omega] at this
      exact this
    have frm : ∀ (i v l x' y' : Int) (z : Nat), (z < 38 ∨ 41 < z) → up2 (up2 (up2 (up2 mi' 38 i v) 39 i l) 40 i x') 41 i y' z = mi' z := by
      intro i v l x' y' z hz
      rw [up2_n _ _ _ (by omega), up2_n _ _ _ (by omega), up2_n _ _ _ (by omega), up2_n _ _ _ (by omega)]
    have ej : sL n m D - j + -1 = sL n m D - ((j + 1 : Nat) : Int) := by omega
    refine V_iload_n dX8_rebuild_72 rfl ?_
    refine V_iload dX8_rebuild_73 rfl ?_
    refine V_icmp_le 108 dX8_rebuild_75 (by decide) (by omega) (by omega) (fun h75 => ?_) (fun h75 => ?_)
    · have hxb : x = bI A B d (x - y) := by omega
      by_cases hd0 : d ≤ 0
      · have hbz : bI A B d (x - y) = 0 := by unfold bI; rw [if_pos hd0]
        have hj : (j : Int) = sL n m D := by omega
        rw [hj] at h7
        refine V_iload dX8_rebuild_108 rfl ?_
        refine V_if_le 200 dX8_rebuild_110 (by decide) (by omega) (fun _ => ?_) (fun h110 => absurd h110 (by omega))
        refine S_iinc (ls' := [_, _, _, _, _, _, _, _, _]) dX8_rebuild_200 rfl ⟨rfl, rfl⟩ rfl ?_
        refine V_goto 55 dX8_rebuild_203 (by decide) ?_
        refine V_iload dX8_rebuild_55 rfl ?_
        refine V_if_lt 206 dX8_rebuild_57 (by decide) (by omega) (fun _ => ?_) (fun h57 => absurd h57 (by omega))
        refine V_vret dX8_rebuild_206 rfl ⟨Nat.le_of_ble_eq_true rfl, Nat.le_of_ble_eq_true rfl⟩ ?_
        exact hQ mi' h7 h8
      · have hpos : 0 < d + x + y := by omega
        have ec : rch mi' (d - 1) (x - y - 1) < rch mi' (d - 1) (x - y + 1) ↔ putIn A B d (x - y) := rch_put (kk := -d) hA hB (fun d' k' q1 q2 => h5 d' k' q1 (by omega)) hl (by omega)
        have r2 := rch_r hA hB h5 (d - 1) (x - y - 1) (by omega)
        have r3 := rch_r hA hB h5 (d - 1) (x - y + 1) (by omega)
        refine V_iload dX8_rebuild_108 rfl ?_
        refine V_if_le 200 dX8_rebuild_110 (by decide) (by omega) (fun h => absurd h hd0) (fun _ => ?_)
        refine V_aload_n dX8_rebuild_113 rfl ?_
        refine V_iload dX8_rebuild_114 rfl ?_
        refine V_iload_n dX8_rebuild_116 rfl ?_
        refine V_iload dX8_rebuild_117 rfl ?_
        refine V_isub dX8_rebuild_119 ?_
        refine V_callVP dX8_rebuild_120 ml_RX8_57 km_X5_isPutIn kv_X5_isPutIn (c_X5_isPutIn (d := d) (k := x - y) hG (by omega) (by omega) (by omega) (by omega)) rfl rfl rfl rfl (Nat.le_of_ble_eq_true rfl) ⟨Nat.le_of_ble_eq_true rfl, Nat.le_of_ble_eq_true rfl⟩ ⟨Nat.le_of_ble_eq_true rfl, Nat.le_of_ble_eq_true rfl⟩ ?_
        by_cases hp : putIn A B d (x - y)
        · have N1 : nx A B (d, x, y) = (d + -1, x - 0, y - 1) := by simp only [nx]; rw [if_neg (by omega), if_neg (by omega), if_pos hp, show d - 1 = d + -1 by omega, Int.sub_zero]
          have N2 : kd A B (d, x, y) = 2 := by simp only [kd]; rw [if_neg (by omega), if_pos hp]
          have N3 : tr A B n m D (j + 1) = (d + -1, x - 0, y - 1) := by show nx A B (tr A B n m D j) = _; rw [h3, N1]
          rw [N1] at z2 z3
          rw [N2] at z1
          have hl2 : lat (d + -1) (x - 0 - (y - 1)) := by
            have := lat_in hl (by omega) hp
            rw [show d + -1 = d - 1 by omega, show x - 0 - (y - 1) = x - y + 1 by omega]; exact this
          have hb2 := bI_rr hA hB (d + -1) (x - 0 - (y - 1)) hl2.1
          rw [if_pos (ec.mpr hp)]
          refine S_istore (ls' := [_, _, _, _, _, _, _, _, _]) dX8_rebuild_123 ⟨Nat.le_of_ble_eq_true rfl, rfl, rfl⟩ rfl ?_
          refine V_iload_n dX8_rebuild_125 rfl ?_
          refine V_iload dX8_rebuild_126 rfl ?_
          refine V_if_eq 135 dX8_rebuild_128 (by decide) (by omega) (fun h128 => absurd h128 (by decide)) (fun _ => ?_)
          refine V_iconst dX8_rebuild_131 ?_
          refine V_goto 136 dX8_rebuild_132 (by decide) ?_
          refine V_isub dX8_rebuild_136 ?_
          refine S_istore_n (ls' := [_, _, _, _, _, _, _, _, _]) dX8_rebuild_137 ⟨Nat.le_of_ble_eq_true rfl, rfl, rfl⟩ rfl ?_
          refine V_iload dX8_rebuild_138 rfl ?_
          refine V_iload dX8_rebuild_140 rfl ?_
          refine V_if_eq 149 dX8_rebuild_142 (by decide) (by omega) (fun h142 => absurd h142 (by decide)) (fun _ => ?_)
          refine V_iconst dX8_rebuild_145 ?_
          refine V_goto 150 dX8_rebuild_146 (by decide) ?_
          refine V_isub dX8_rebuild_150 ?_
          refine S_istore (ls' := [_, _, _, _, _, _, _, _, _]) dX8_rebuild_151 ⟨Nat.le_of_ble_eq_true rfl, rfl, rfl⟩ rfl ?_
          refine S_iinc (ls' := [_, _, _, _, _, _, _, _, _]) dX8_rebuild_153 rfl ⟨rfl, rfl⟩ rfl ?_
          refine V_aload_n dX8_rebuild_156 rfl ?_
          refine V_iload dX8_rebuild_157 rfl ?_
          refine V_iload dX8_rebuild_159 rfl ?_
          refine V_if_eq 168 dX8_rebuild_161 (by decide) (by omega) (fun h161 => absurd h161 (by decide)) (fun _ => ?_)
          refine V_iconst dX8_rebuild_164 ?_
          refine V_goto 169 dX8_rebuild_165 (by decide) ?_
          refine V_iload dX8_rebuild_169 rfl ?_
          refine V_if_eq 186 dX8_rebuild_171 (by decide) (by omega) (fun h171 => absurd h171 (by decide)) (fun _ => ?_)
          refine V_aload_n dX8_rebuild_174 rfl ?_
          refine V_getr 1 _ dX8_rebuild_175 fl_RX8_36 (by first | with_reducible assumption | rfl) rfl rfl (by first | with_reducible assumption | exact hG.at rfl) ?_
          refine V_iload dX8_rebuild_178 rfl ?_
          refine V_callVP dX8_rebuild_180 ml_RX8_53 km_X7_at kv_X7_at (c_X7_at (i := y - 1) (by omega) u7 u8 u9 (by decide) (by omega)) (by first | with_reducible assumption | rfl) rfl rfl rfl (Nat.le_of_ble_eq_true rfl) ⟨Nat.le_of_ble_eq_true rfl, Nat.le_of_ble_eq_true rfl⟩ ⟨Nat.le_of_ble_eq_true rfl, Nat.le_of_ble_eq_true rfl⟩ ?_
          rw [uB]
          refine V_goto 194 dX8_rebuild_183 (by decide) ?_
          refine V_iload_n dX8_rebuild_194 rfl ?_
          refine V_iload dX8_rebuild_195 rfl ?_
          refine V_callV0 dX8_rebuild_197 ml_RX8_45 km_X8_put kv_X8_put (c_X8_put (i := sL n m D - j + -1) hG (by omega)) (by first | with_reducible assumption | rfl) rfl rfl rfl (Nat.le_of_ble_eq_true rfl) ⟨Nat.le_of_ble_eq_true rfl, Nat.le_of_ble_eq_true rfl⟩ ⟨Nat.le_of_ble_eq_true rfl, Nat.le_of_ble_eq_true rfl⟩ ?_
          rintro mi2 mr2 ⟨rfl, hq⟩
          rw [if_pos (by omega)] at hq
          have F2 : Fil mi2 A B n m D ((j + 1 : Nat) : Int) := by
            rw [hq]
            exact key _ _ _ _ z1.symm (by unfold sLt; rw [if_pos z1, z3]) z2.symm z3.symm
          have fr2 : ∀ z, (z < 38 ∨ 41 < z) → mi2 z = mi' z := fun z hz => by rw [hq]; exact frm _ _ _ _ _ z hz
          clear hq
          have h4' : Now mi2 mr2 f fb g gb n m A B := h4.keep (fun x x1 x2 => fr2 x (by omega))
          have h5' : Rch mi2 A B (D + 1) (-(D + 1)) := fun d' k' q1 q2 => by rw [fr2 36 (by omega)]; exact h5 d' k' q1 q2
          have r4 := rch_r hA hB h5' (d + -1 - 1) (x - 0 - (y - 1) - 1) (by omega)
          have r5 := rch_r hA hB h5' (d + -1 - 1) (x - 0 - (y - 1) + 1) (by omega)
          refine S_iinc (ls' := [_, _, _, _, _, _, _, _, _]) dX8_rebuild_200 rfl ⟨rfl, rfl⟩ rfl ?_
          refine V_goto 55 dX8_rebuild_203 (by decide) ?_
          refine V_iload dX8_rebuild_55 rfl ?_
          refine V_if_lt 206 dX8_rebuild_57 (by decide) (by omega) (fun h57 => absurd h57 (by omega)) (fun _ => ?_)
          refine V_aload_n dX8_rebuild_60 rfl ?_
          refine V_iload dX8_rebuild_61 rfl ?_
          refine V_iload_n dX8_rebuild_63 rfl ?_
          refine V_iload dX8_rebuild_64 rfl ?_
          refine V_isub dX8_rebuild_66 ?_
          refine V_callVP dX8_rebuild_67 ml_RX8_49 km_X5_beginOf kv_X5_beginOf (c_X5_beginOf (d := d + -1) (k := x - 0 - (y - 1)) hG (by omega) (by omega) (by omega) (by omega)) (by first | with_reducible assumption | rfl) rfl rfl rfl (Nat.le_of_ble_eq_true rfl) ⟨Nat.le_of_ble_eq_true rfl, Nat.le_of_ble_eq_true rfl⟩ ⟨Nat.le_of_ble_eq_true rfl, Nat.le_of_ble_eq_true rfl⟩ ?_
          rw [rch_begin (kk := -(d + -1)) hA hB (fun d' k' q1 q2 => h5' d' k' q1 (by omega)) hl2]
          refine S_istore (ls' := [_, _, _, _, _, _, _, _, _]) dX8_rebuild_70 ⟨Nat.le_of_ble_eq_true rfl, rfl, rfl⟩ rfl ?_
          exact ih (j + 1) (d + -1) (x - 0) (y - 1) _ mi2 _ (by omega) (by omega) (by omega) N3 h4' h5' (by omega) F2 (fun z hz => by rw [fr2 z hz]; exact h8 z hz)
        · have N1 : nx A B (d, x, y) = (d + -1, x - 1, y - 0) := by simp only [nx]; rw [if_neg (by omega), if_neg (by omega), if_neg hp, show d - 1 = d + -1 by omega, Int.sub_zero]
          have N2 : kd A B (d, x, y) = 1 := by simp only [kd]; rw [if_neg (by omega), if_neg hp]
          have N3 : tr A B n m D (j + 1) = (d + -1, x - 1, y - 0) := by show nx A B (tr A B n m D j) = _; rw [h3, N1]
          rw [N1] at z2 z3
          rw [N2] at z1
          have hl2 : lat (d + -1) (x - 1 - (y - 0)) := by
            have := lat_out hl (by omega) hp
            rw [show d + -1 = d - 1 by omega, show x - 1 - (y - 0) = x - y - 1 by omega]; exact this
          have hb2 := bI_rr hA hB (d + -1) (x - 1 - (y - 0)) hl2.1
          rw [if_neg (fun h => hp (ec.mp h))]
          refine S_istore (ls' := [_, _, _, _, _, _, _, _, _]) dX8_rebuild_123 ⟨Nat.le_of_ble_eq_true rfl, rfl, rfl⟩ rfl ?_
          refine V_iload_n dX8_rebuild_125 rfl ?_
          refine V_iload dX8_rebuild_126 rfl ?_
          refine V_if_eq 135 dX8_rebuild_128 (by decide) (by omega) (fun _ => ?_) (fun h128 => absurd h128 (by decide))
          refine V_iconst dX8_rebuild_135 ?_
          refine V_isub dX8_rebuild_136 ?_
          refine S_istore_n (ls' := [_, _, _, _, _, _, _, _, _]) dX8_rebuild_137 ⟨Nat.le_of_ble_eq_true rfl, rfl, rfl⟩ rfl ?_
          refine V_iload dX8_rebuild_138 rfl ?_
          refine V_iload dX8_rebuild_140 rfl ?_
          refine V_if_eq 149 dX8_rebuild_142 (by decide) (by omega) (fun _ => ?_) (fun h142 => absurd h142 (by decide))
          refine V_iconst dX8_rebuild_149 ?_
          refine V_isub dX8_rebuild_150 ?_
          refine S_istore (ls' := [_, _, _, _, _, _, _, _, _]) dX8_rebuild_151 ⟨Nat.le_of_ble_eq_true rfl, rfl, rfl⟩ rfl ?_
          refine S_iinc (ls' := [_, _, _, _, _, _, _, _, _]) dX8_rebuild_153 rfl ⟨rfl, rfl⟩ rfl ?_
          refine V_aload_n dX8_rebuild_156 rfl ?_
          refine V_iload dX8_rebuild_157 rfl ?_
          refine V_iload dX8_rebuild_159 rfl ?_
          refine V_if_eq 168 dX8_rebuild_161 (by decide) (by omega) (fun _ => ?_) (fun h161 => absurd h161 (by decide))
          refine V_iconst dX8_rebuild_168 ?_
          refine V_iload dX8_rebuild_169 rfl ?_
          refine V_if_eq 186 dX8_rebuild_171 (by decide) (by omega) (fun _ => ?_) (fun h171 => absurd h171 (by decide))
          refine V_aload_n dX8_rebuild_186 rfl ?_
          refine V_getr 0 _ dX8_rebuild_187 fl_RX8_24 (by first | with_reducible assumption | rfl) rfl rfl (by first | with_reducible assumption | exact hG.at rfl) ?_
          refine V_iload_n dX8_rebuild_190 rfl ?_
          refine V_callVP dX8_rebuild_191 ml_RX8_53 km_X7_at kv_X7_at (c_X7_at (i := x - 1) (by omega) u4 u5 u6 (by decide) (by omega)) (by first | with_reducible assumption | rfl) rfl rfl rfl (Nat.le_of_ble_eq_true rfl) ⟨Nat.le_of_ble_eq_true rfl, Nat.le_of_ble_eq_true rfl⟩ ⟨Nat.le_of_ble_eq_true rfl, Nat.le_of_ble_eq_true rfl⟩ ?_
          rw [uA]
          refine V_iload_n dX8_rebuild_194 rfl ?_
          refine V_iload dX8_rebuild_195 rfl ?_
          refine V_callV0 dX8_rebuild_197 ml_RX8_45 km_X8_put kv_X8_put (c_X8_put (i := sL n m D - j + -1) hG (by omega)) (by first | with_reducible assumption | rfl) rfl rfl rfl (Nat.le_of_ble_eq_true rfl) ⟨Nat.le_of_ble_eq_true rfl, Nat.le_of_ble_eq_true rfl⟩ ⟨Nat.le_of_ble_eq_true rfl, Nat.le_of_ble_eq_true rfl⟩ ?_
          rintro mi2 mr2 ⟨rfl, hq⟩
          rw [if_pos (by omega)] at hq
          have F2 : Fil mi2 A B n m D ((j + 1 : Nat) : Int) := by
            rw [hq]
            exact key _ _ _ _ z1.symm (by unfold sLt; rw [if_neg (by rw [z1]; decide), z2]) z2.symm z3.symm
          have fr2 : ∀ z, (z < 38 ∨ 41 < z) → mi2 z = mi' z := fun z hz => by rw [hq]; exact frm _ _ _ _ _ z hz
          clear hq
          have h4' : Now mi2 mr2 f fb g gb n m A B := h4.keep (fun x x1 x2 => fr2 x (by omega))
          have h5' : Rch mi2 A B (D + 1) (-(D + 1)) := fun d' k' q1 q2 => by rw [fr2 36 (by omega)]; exact h5 d' k' q1 q2
          have r4 := rch_r hA hB h5' (d + -1 - 1) (x - 1 - (y - 0) - 1) (by omega)
          have r5 := rch_r hA hB h5' (d + -1 - 1) (x - 1 - (y - 0) + 1) (by omega)
          refine S_iinc (ls' := [_, _, _, _, _, _, _, _, _]) dX8_rebuild_200 rfl ⟨rfl, rfl⟩ rfl ?_
          refine V_goto 55 dX8_rebuild_203 (by decide) ?_
          refine V_iload dX8_rebuild_55 rfl ?_
          refine V_if_lt 206 dX8_rebuild_57 (by decide) (by omega) (fun h57 => absurd h57 (by omega)) (fun _ => ?_)
          refine V_aload_n dX8_rebuild_60 rfl ?_
          refine V_iload dX8_rebuild_61 rfl ?_
          refine V_iload_n dX8_rebuild_63 rfl ?_
          refine V_iload dX8_rebuild_64 rfl ?_
          refine V_isub dX8_rebuild_66 ?_
          refine V_callVP dX8_rebuild_67 ml_RX8_49 km_X5_beginOf kv_X5_beginOf (c_X5_beginOf (d := d + -1) (k := x - 1 - (y - 0)) hG (by omega) (by omega) (by omega) (by omega)) (by first | with_reducible assumption | rfl) rfl rfl rfl (Nat.le_of_ble_eq_true rfl) ⟨Nat.le_of_ble_eq_true rfl, Nat.le_of_ble_eq_true rfl⟩ ⟨Nat.le_of_ble_eq_true rfl, Nat.le_of_ble_eq_true rfl⟩ ?_
          rw [rch_begin (kk := -(d + -1)) hA hB (fun d' k' q1 q2 => h5' d' k' q1 (by omega)) hl2]
          refine S_istore (ls' := [_, _, _, _, _, _, _, _, _]) dX8_rebuild_70 ⟨Nat.le_of_ble_eq_true rfl, rfl, rfl⟩ rfl ?_
          exact ih (j + 1) (d + -1) (x - 1) (y - 0) _ mi2 _ (by omega) (by omega) (by omega) N3 h4' h5' (by omega) F2 (fun z hz => by rw [fr2 z hz]; exact h8 z hz)
    · have N1 : nx A B (d, x, y) = (d, x + -1, y + -1) := by simp only [nx]; rw [if_pos (by omega), show x - 1 = x + -1 by omega, show y - 1 = y + -1 by omega]
      have N2 : kd A B (d, x, y) = 0 := by simp only [kd]; rw [if_pos (by omega)]
      have N3 : tr A B n m D (j + 1) = (d, x + -1, y + -1) := by show nx A B (tr A B n m D j) = _; rw [h3, N1]
      have hpos : 0 < d + x + y := by omega
      rw [N1] at z2 z3
      rw [N2] at z1
      have e7 : bI A B d (x - y) = bI A B d (x + -1 - (y + -1)) := by rw [show x + -1 - (y + -1) = x - y by omega]
      refine S_iinc (ls' := [_, _, _, _, _, _, _, _, _]) dX8_rebuild_78 rfl ⟨rfl, rfl⟩ rfl ?_
      refine S_iinc (ls' := [_, _, _, _, _, _, _, _, _]) dX8_rebuild_81 rfl ⟨rfl, rfl⟩ rfl ?_
      refine S_iinc (ls' := [_, _, _, _, _, _, _, _, _]) dX8_rebuild_84 rfl ⟨rfl, rfl⟩ rfl ?_
      refine V_aload_n dX8_rebuild_87 rfl ?_
      refine V_iload dX8_rebuild_88 rfl ?_
      refine V_iconst dX8_rebuild_90 ?_
      refine V_aload_n dX8_rebuild_91 rfl ?_
      refine V_getr 0 _ dX8_rebuild_92 fl_RX8_24 (by first | with_reducible assumption | rfl) rfl rfl (by first | with_reducible assumption | exact hG.at rfl) ?_
      refine V_iload_n dX8_rebuild_95 rfl ?_
      refine V_callVP dX8_rebuild_96 ml_RX8_53 km_X7_at kv_X7_at (c_X7_at (i := x + -1) (by omega) u4 u5 u6 (by decide) (by omega)) (by first | with_reducible assumption | rfl) rfl rfl rfl (Nat.le_of_ble_eq_true rfl) ⟨Nat.le_of_ble_eq_true rfl, Nat.le_of_ble_eq_true rfl⟩ ⟨Nat.le_of_ble_eq_true rfl, Nat.le_of_ble_eq_true rfl⟩ ?_
      rw [uA]
      refine V_iload_n dX8_rebuild_99 rfl ?_
      refine V_iload dX8_rebuild_100 rfl ?_
      refine V_callV0 dX8_rebuild_102 ml_RX8_45 km_X8_put kv_X8_put (c_X8_put (i := sL n m D - j + -1) hG (by omega)) (by first | with_reducible assumption | rfl) rfl rfl rfl (Nat.le_of_ble_eq_true rfl) ⟨Nat.le_of_ble_eq_true rfl, Nat.le_of_ble_eq_true rfl⟩ ⟨Nat.le_of_ble_eq_true rfl, Nat.le_of_ble_eq_true rfl⟩ ?_
      rintro mi2 mr2 ⟨rfl, hq⟩
      rw [if_pos (by omega)] at hq
      have F2 : Fil mi2 A B n m D ((j + 1 : Nat) : Int) := by
        rw [hq]
        exact key _ _ _ _ z1.symm (by unfold sLt; rw [if_neg (by rw [z1]; decide), z2]) z2.symm z3.symm
      have fr2 : ∀ z, (z < 38 ∨ 41 < z) → mi2 z = mi' z := fun z hz => by rw [hq]; exact frm _ _ _ _ _ z hz
      clear hq
      have h4' : Now mi2 mr2 f fb g gb n m A B := h4.keep (fun x x1 x2 => fr2 x (by omega))
      have h5' : Rch mi2 A B (D + 1) (-(D + 1)) := fun d' k' q1 q2 => by rw [fr2 36 (by omega)]; exact h5 d' k' q1 q2
      rw [e7]
      refine V_goto 72 dX8_rebuild_105 (by decide) ?_
      exact ih (j + 1) d (x + -1) (y + -1) _ mi2 _ (by omega) (by omega) (by omega) N3 h4' h5' (by omega) F2 (fun z hz => by rw [fr2 z hz]; exact h8 z hz)
set_option maxRecDepth 100000 in
set_option maxHeartbeats 2000000 in
theorem c_X8_rebuild (hN : Now mi mr f fb g gb n m A B) (hD : isD n m A B D) (hR : Rch mi A B (D + 1) (-(D + 1))) (hF : mi 35 1 = D) : C0 yX8_rebuild cX8_rebuild 9 none 3 SH mi mr [vr 37, vr 1, vr 35] (fun mi' mr' => mr' = mr ∧ ScM mi' (sL n m D) (sK A B n m D) (sLt A B n m D) (sX A B n m D) (sY A B n m D) ∧ ∀ x, x < 37 ∨ 41 < x → mi' x = mi x) := by
  have hA := hN.2.2.2.2.2.2.1
  have hB := hN.2.2.2.2.2.2.2
  have hLr := sL_r hA hB hD
  have hnn := isD_nn hD
  have hh := hD.2.1
  unfold hit at hh
  obtain ⟨⟨u1, u2, hG⟩, ⟨u4, u5, u6⟩, ⟨u7, u8, u9⟩, ⟨u10, u11, u12⟩, -⟩ := hN.u
  have hl : lat D (n - m) := ⟨by omega, by omega, by omega, by omega, by omega⟩
  have es : sL n m D = (n + m + D) / 2 := rfl
  refine Ct.ofV (ini := false) [some (vr 37), some (vr 1), some (vr 35), none, none, none, none, none, none] km_X8_rebuild (by decide) rfl (Nat.le_of_ble_eq_true rfl) ?_
  refine V_aload_n dX8_rebuild_0 rfl ?_
  refine V_getr 0 _ dX8_rebuild_1 fl_RX8_24 (by first | with_reducible assumption | rfl) rfl rfl (by first | with_reducible assumption | exact hG.at rfl) ?_
  refine V_geti 1 dX8_rebuild_4 fl_RX8_30 (by first | with_reducible assumption | rfl) rfl rfl ?_
  rw [u10]
  refine S_istore_n (ls' := [_, _, _, _, _, _, _, _, _]) dX8_rebuild_7 ⟨Nat.le_of_ble_eq_true rfl, rfl, rfl⟩ rfl ?_
  refine V_aload_n dX8_rebuild_8 rfl ?_
  refine V_getr 1 _ dX8_rebuild_9 fl_RX8_36 (by first | with_reducible assumption | rfl) rfl rfl (by first | with_reducible assumption | exact hG.at rfl) ?_
  refine V_geti 1 dX8_rebuild_12 fl_RX8_30 (by first | with_reducible assumption | rfl) rfl rfl ?_
  rw [u11]
  refine S_istore (ls' := [_, _, _, _, _, _, _, _, _]) dX8_rebuild_15 ⟨Nat.le_of_ble_eq_true rfl, rfl, rfl⟩ rfl ?_
  refine V_aload_n dX8_rebuild_17 rfl ?_
  refine V_iload_n dX8_rebuild_18 rfl ?_
  refine V_iload dX8_rebuild_19 rfl ?_
  refine V_iadd dX8_rebuild_21 ?_
  refine V_aload_n dX8_rebuild_22 rfl ?_
  refine V_geti 1 dX8_rebuild_23 fl_RX8_39 (by first | with_reducible assumption | rfl) rfl rfl ?_
  rw [hF]
  refine V_iadd dX8_rebuild_26 ?_
  refine V_iconst dX8_rebuild_27 ?_
  refine V_idiv dX8_rebuild_28 (by omega) (by omega) ?_
  refine V_puti 4 dX8_rebuild_29 fl_RX8_44 (by first | with_reducible assumption | rfl) rfl rfl rfl ?_
  rw [← es]
  refine V_aload_n dX8_rebuild_32 rfl ?_
  refine V_geti 4 dX8_rebuild_33 fl_RX8_44 (by first | with_reducible assumption | rfl) rfl rfl ?_
  rw [up2_ss]
  refine S_istore (ls' := [_, _, _, _, _, _, _, _, _]) dX8_rebuild_36 ⟨Nat.le_of_ble_eq_true rfl, rfl, rfl⟩ rfl ?_
  refine V_aload_n dX8_rebuild_38 rfl ?_
  refine V_iload dX8_rebuild_39 rfl ?_
  refine V_iconst dX8_rebuild_41 ?_
  refine V_iconst dX8_rebuild_42 ?_
  refine V_iload_n dX8_rebuild_43 rfl ?_
  refine V_iload dX8_rebuild_44 rfl ?_
  refine V_callV0 dX8_rebuild_46 ml_RX8_45 km_X8_put kv_X8_put (c_X8_put (i := sL n m D) hG (by omega)) (by first | with_reducible assumption | rfl) rfl rfl rfl (Nat.le_of_ble_eq_true rfl) ⟨Nat.le_of_ble_eq_true rfl, Nat.le_of_ble_eq_true rfl⟩ ⟨Nat.le_of_ble_eq_true rfl, Nat.le_of_ble_eq_true rfl⟩ ?_
  rintro mi2 mr2 ⟨rfl, hq⟩
  rw [if_pos (by omega)] at hq
  have q4 : mi2 37 4 = sL n m D := by rw [hq]; simp [up2, up1]
  have q5 : mi2 40 (sL n m D) = n ∧ mi2 41 (sL n m D) = m := by rw [hq]; simp [up2, up1]
  have fr2 : ∀ z, (z < 37 ∨ 41 < z) → mi2 z = mi z := fun z hz => by rw [hq, up2_n _ _ _ (by omega), up2_n _ _ _ (by omega), up2_n _ _ _ (by omega), up2_n _ _ _ (by omega), up2_n _ _ _ (by omega)]
  clear hq
  have h4' : Now mi2 mr2 f fb g gb n m A B := hN.keep (fun x x1 x2 => fr2 x (by omega))
  have h5' : Rch mi2 A B (D + 1) (-(D + 1)) := fun d' k' q1 q2 => by rw [fr2 36 (by omega)]; exact hR d' k' q1 q2
  have r4 := rch_r hA hB h5' (D - 1) (n - m - 1) (by omega)
  have r5 := rch_r hA hB h5' (D - 1) (n - m + 1) (by omega)
  refine V_aload_n dX8_rebuild_49 rfl ?_
  refine V_geti 1 dX8_rebuild_50 fl_RX8_39 (by first | with_reducible assumption | rfl) rfl rfl ?_
  rw [fr2 35 (by omega), hF]
  refine S_istore (ls' := [_, _, _, _, _, _, _, _, _]) dX8_rebuild_53 ⟨Nat.le_of_ble_eq_true rfl, rfl, rfl⟩ rfl ?_
  refine V_iload dX8_rebuild_55 rfl ?_
  refine V_if_lt 206 dX8_rebuild_57 (by decide) (by omega) (fun h57 => absurd h57 (by omega)) (fun _ => ?_)
  refine V_aload_n dX8_rebuild_60 rfl ?_
  refine V_iload dX8_rebuild_61 rfl ?_
  refine V_iload_n dX8_rebuild_63 rfl ?_
  refine V_iload dX8_rebuild_64 rfl ?_
  refine V_isub dX8_rebuild_66 ?_
  refine V_callVP dX8_rebuild_67 ml_RX8_49 km_X5_beginOf kv_X5_beginOf (c_X5_beginOf (d := D) (k := n - m) hG (by omega) (by omega) (by omega) (by omega)) (by first | with_reducible assumption | rfl) rfl rfl rfl (Nat.le_of_ble_eq_true rfl) ⟨Nat.le_of_ble_eq_true rfl, Nat.le_of_ble_eq_true rfl⟩ ⟨Nat.le_of_ble_eq_true rfl, Nat.le_of_ble_eq_true rfl⟩ ?_
  rw [rch_begin (kk := -D) hA hB (fun d' k' q1 q2 => h5' d' k' q1 (by omega)) hl]
  refine S_istore (ls' := [_, _, _, _, _, _, _, _, _]) dX8_rebuild_70 ⟨Nat.le_of_ble_eq_true rfl, rfl, rfl⟩ rfl ?_
  refine l_X8_rebuild (mi := mi2) hA hB hD (fun mi3 g1 g2 => ?_) ((sL n m D).toNat + 1) 0 D n m _ mi2 none (by omega) (by omega) (by omega) rfl h4' h5' (by omega) ?_ (fun _ _ => rfl)
  · refine ⟨rfl, rfl, rfl, ⟨⟨by rw [g2 37 (by omega)]; exact q4, by omega, by omega⟩, fun i i1 i2 => g1.1 i (by omega) i2, fun i i1 i2 => g1.2 i (by omega) i2⟩, fun x hx => by rw [g2 x (by omega), fr2 x hx]⟩
  · refine ⟨fun i i1 i2 => by omega, fun i i1 i2 => ?_⟩
    have he : i = sL n m D := by omega
    rw [he]
    have := (sc_ok hA hB hD).1
    rw [this.2.2.1, this.2.2.2]
    exact q5
end SCRIPT
