/-! ===== DiagonalTexts$Hunks ===== -/
/-- hunks by their first and last edits, and how many edits they have, out of the first s steps -/
def hk (r : Int) (K : Int → Int) : Nat → Int × (Int → Int) × (Int → Int) × (Int → Int)
  | 0 => (0, fun _ => 0, fun _ => -1, fun _ => 0)
  | s + 1 => if K s = 0 then hk r K s else if (hk r K s).1 = 0 ∨ 2 * r < (s : Int) - (hk r K s).2.2.1 ((hk r K s).1 - 1) - 1 then ((hk r K s).1 + 1, up1 (hk r K s).2.1 (hk r K s).1 s, up1 (hk r K s).2.2.1 (hk r K s).1 s, up1 (hk r K s).2.2.2 (hk r K s).1 1) else ((hk r K s).1, (hk r K s).2.1, up1 (hk r K s).2.2.1 ((hk r K s).1 - 1) s, up1 (hk r K s).2.2.2 ((hk r K s).1 - 1) ((hk r K s).2.2.2 ((hk r K s).1 - 1) + 1))
theorem hk_r (r : Int) (K : Int → Int) : ∀ s : Nat, 0 ≤ (hk r K s).1 ∧ (hk r K s).1 ≤ s ∧ -1 ≤ (hk r K s).2.2.1 ((hk r K s).1 - 1) ∧ (hk r K s).2.2.1 ((hk r K s).1 - 1) < s
  | 0 => by simp [hk]
  | s + 1 => by
    have h := hk_r r K s
    simp only [hk]
    split
    · omega
    · split
      · dsimp only; rw [show (hk r K s).1 + 1 - 1 = (hk r K s).1 by omega, up1_s]; omega
      · dsimp only; rw [up1_s]; omega
theorem hk_C (r : Int) (K : Int → Int) : ∀ (s : Nat) (i : Int), 0 ≤ (hk r K s).2.2.2 i ∧ (hk r K s).2.2.2 i ≤ s
  | 0, i => by simp [hk]
  | s + 1, i => by
    have h := fun i => hk_C r K s i
    have h1 := h i
    have h2 := h ((hk r K s).1 - 1)
    simp only [hk]
    split
    · omega
    · split
      · simp only [up1]; split <;> omega
      · simp only [up1]; split <;> omega
def HkM (mi : MI) (r L : Int) (q : Int × (Int → Int) × (Int → Int) × (Int → Int)) : Prop := mi 44 3 = q.1 ∧ ∀ i, 0 ≤ i → i < q.1 → mi 45 i = max (q.2.1 i - r) 0 ∧ mi 46 i = min (q.2.2.1 i + 1 + r) L ∧ mi 47 i = q.2.2.2 i
section HUNKS
variable {mi : MI} {mr : MR} {L : Int} {K Lt X Y : Int → Int} {l : List Int}
set_option maxRecDepth 100000 in
theorem c_X8_isEdit {i : Int} (hG : Gr mr) (hi : 0 ≤ i ∧ i < L) (hS : ScM mi L K Lt X Y) (hR : ScR L K Lt X Y) : CP yX8_isEdit cX8_isEdit 3 (some .boolean) 1 SH mi mr [vr 37, vi i] (vi (if K i = 0 then 0 else 1)) := by
  have hL := hS.1
  have hk := hR.1 i hi.1 hi.2
  have e : kx L K i = K i := by unfold kx; rw [if_pos hi]
  refine Ct.ofV (ini := false) [some (vr 37), some (vi i), none] km_X8_isEdit (by decide) rfl (Nat.le_of_ble_eq_true rfl) ?_
  refine V_aload_n dX8_isEdit_0 rfl ?_
  refine V_iload_n dX8_isEdit_1 rfl ?_
  refine V_callVP dX8_isEdit_2 ml_RX8_61 km_X8_kindAt kv_X8_kindAt (d_kindAt (i := i) hG (by omega) hS) (by first | with_reducible assumption | rfl) rfl rfl rfl (Nat.le_of_ble_eq_true rfl) ⟨Nat.le_of_ble_eq_true rfl, Nat.le_of_ble_eq_true rfl⟩ ⟨Nat.le_of_ble_eq_true rfl, Nat.le_of_ble_eq_true rfl⟩ ?_
  rw [e]
  refine S_istore_n (ls' := [_, _, _]) dX8_isEdit_5 ⟨Nat.le_of_ble_eq_true rfl, rfl, rfl⟩ rfl ?_
  refine V_iload_n dX8_isEdit_6 rfl ?_
  refine V_iconst dX8_isEdit_7 ?_
  refine V_icmp_eq 16 dX8_isEdit_8 (by decide) (by omega) (by omega) (fun h8 => ?_) (fun h8 => ?_)
  · refine V_iconst dX8_isEdit_16 ?_
    refine V_goto 21 dX8_isEdit_17 (by decide) ?_
    refine V_zret dX8_isEdit_21 rfl ⟨Nat.le_of_ble_eq_true rfl, Nat.le_of_ble_eq_true rfl⟩ (by first | exact Or.inl rfl | exact Or.inr rfl | omega) ?_
    exact ⟨rfl, svi (by split <;> first | rfl | (exfalso; omega)), rfl, rfl⟩
  · refine V_iload_n dX8_isEdit_11 rfl ?_
    refine V_iconst dX8_isEdit_12 ?_
    refine V_icmp_ne 20 dX8_isEdit_13 (by decide) (by omega) (by omega) (fun h13 => ?_) (fun h13 => ?_)
    · refine V_iconst dX8_isEdit_20 ?_
      refine V_zret dX8_isEdit_21 rfl ⟨Nat.le_of_ble_eq_true rfl, Nat.le_of_ble_eq_true rfl⟩ (by first | exact Or.inl rfl | exact Or.inr rfl | omega) ?_
      exact ⟨rfl, svi (by split <;> first | rfl | (exfalso; omega)), rfl, rfl⟩
    · refine V_iconst dX8_isEdit_16 ?_
      refine V_goto 21 dX8_isEdit_17 (by decide) ?_
      refine V_zret dX8_isEdit_21 rfl ⟨Nat.le_of_ble_eq_true rfl, Nat.le_of_ble_eq_true rfl⟩ (by first | exact Or.inl rfl | exact Or.inr rfl | omega) ?_
      exact ⟨rfl, svi (by split <;> first | rfl | (exfalso; omega)), rfl, rfl⟩
set_option maxRecDepth 100000 in
theorem c_X4_open {b : Int} (hG : Gr mr) (hm : 0 ≤ mi 44 3 ∧ mi 44 3 < 56) : C0 yX4_open cX4_open 2 none 0 SH mi mr [vr 44, vi b] (fun mi' mr' => mr' = mr ∧ mi' = up2 (up2 (up2 mi 45 (mi 44 3) b) 47 (mi 44 3) 0) 44 3 (mi 44 3 + 1)) := by
  refine Ct.ofV (ini := false) [some (vr 44), some (vi b)] km_X4_open (by decide) rfl (Nat.le_of_ble_eq_true rfl) ?_
  refine V_aload_n dX4_open_0 rfl ?_
  refine V_geti 3 dX4_open_1 fl_RX4_21 (by first | with_reducible assumption | rfl) rfl rfl ?_
  refine V_if_lt 61 dX4_open_4 (by decide) (by omega) (fun h4 => ?_) (fun h4 => ?_)
  · omega
  · refine V_aload_n dX4_open_7 rfl ?_
    refine V_geti 3 dX4_open_8 fl_RX4_21 (by first | with_reducible assumption | rfl) rfl rfl ?_
    refine V_aload_n dX4_open_11 rfl ?_
    refine V_getr 0 _ dX4_open_12 fl_RX4_9 (by first | with_reducible assumption | rfl) rfl rfl (by first | with_reducible assumption | exact hG.at rfl) ?_
    refine V_alen dX4_open_15 (by first | with_reducible assumption | rfl) ?_
    refine V_icmp_ge 61 dX4_open_16 (by decide) (by omega) (by omega) (fun h16 => ?_) (fun h16 => ?_)
    · omega
    · refine V_aload_n dX4_open_19 rfl ?_
      refine V_geti 3 dX4_open_20 fl_RX4_21 (by first | with_reducible assumption | rfl) rfl rfl ?_
      refine V_aload_n dX4_open_23 rfl ?_
      refine V_getr 2 _ dX4_open_24 fl_RX4_18 (by first | with_reducible assumption | rfl) rfl rfl (by first | with_reducible assumption | exact hG.at rfl) ?_
      refine V_alen dX4_open_27 (by first | with_reducible assumption | rfl) ?_
      refine V_icmp_ge 61 dX4_open_28 (by decide) (by omega) (by omega) (fun h28 => ?_) (fun h28 => ?_)
      · omega
      · refine V_aload_n dX4_open_31 rfl ?_
        refine V_getr 0 _ dX4_open_32 fl_RX4_9 (by first | with_reducible assumption | rfl) rfl rfl (by first | with_reducible assumption | exact hG.at rfl) ?_
        refine V_aload_n dX4_open_35 rfl ?_
        refine V_geti 3 dX4_open_36 fl_RX4_21 (by first | with_reducible assumption | rfl) rfl rfl ?_
        refine V_iload_n dX4_open_39 rfl ?_
        refine V_iast dX4_open_40 (by first | with_reducible assumption | rfl) (by decide) (by omega) ?_
        refine V_aload_n dX4_open_41 rfl ?_
        refine V_getr 2 _ dX4_open_42 fl_RX4_18 (by first | with_reducible assumption | rfl) rfl rfl (by first | with_reducible assumption | exact hG.at rfl) ?_
        refine V_aload_n dX4_open_45 rfl ?_
        refine V_geti 3 dX4_open_46 fl_RX4_21 (by first | with_reducible assumption | rfl) rfl rfl ?_
        rw [up2_n mi _ _ (by decide)]
        refine V_iconst dX4_open_49 ?_
        refine V_iast dX4_open_50 (by first | with_reducible assumption | rfl) (by decide) (by omega) ?_
        refine V_aload_n dX4_open_51 rfl ?_
        refine V_dup dX4_open_52 rfl ?_
        refine V_geti 3 dX4_open_53 fl_RX4_21 (by first | with_reducible assumption | rfl) rfl rfl ?_
        rw [up2_n _ _ _ (by decide), up2_n mi _ _ (by decide)]
        refine V_iconst dX4_open_56 ?_
        refine V_iadd dX4_open_57 ?_
        refine V_puti 3 dX4_open_58 fl_RX4_21 (by first | with_reducible assumption | rfl) rfl rfl rfl ?_
        refine V_vret dX4_open_61 rfl ⟨Nat.le_of_ble_eq_true rfl, Nat.le_of_ble_eq_true rfl⟩ ?_
        exact ⟨rfl, rfl, rfl, rfl⟩
set_option maxRecDepth 100000 in
theorem c_X4_growTo {b : Int} (hG : Gr mr) (hm : 1 ≤ mi 44 3 ∧ mi 44 3 ≤ 56) : C0 yX4_growTo cX4_growTo 3 none 0 SH mi mr [vr 44, vi b] (fun mi' mr' => mr' = mr ∧ mi' = up2 (up2 mi 46 (mi 44 3 - 1) b) 47 (mi 44 3 - 1) (mi 47 (mi 44 3 - 1) + 1)) := by
  refine Ct.ofV (ini := false) [some (vr 44), some (vi b), none] km_X4_growTo (by decide) rfl (Nat.le_of_ble_eq_true rfl) ?_
  refine V_aload_n dX4_growTo_0 rfl ?_
  refine V_geti 3 dX4_growTo_1 fl_RX4_21 (by first | with_reducible assumption | rfl) rfl rfl ?_
  refine V_iconst dX4_growTo_4 ?_
  refine V_isub dX4_growTo_5 ?_
  refine S_istore_n (ls' := [_, _, _]) dX4_growTo_6 ⟨Nat.le_of_ble_eq_true rfl, rfl, rfl⟩ rfl ?_
  refine V_iload_n dX4_growTo_7 rfl ?_
  refine V_if_lt 46 dX4_growTo_8 (by decide) (by omega) (fun h8 => ?_) (fun h8 => ?_)
  · omega
  · refine V_iload_n dX4_growTo_11 rfl ?_
    refine V_aload_n dX4_growTo_12 rfl ?_
    refine V_getr 1 _ dX4_growTo_13 fl_RX4_15 (by first | with_reducible assumption | rfl) rfl rfl (by first | with_reducible assumption | exact hG.at rfl) ?_
    refine V_alen dX4_growTo_16 (by first | with_reducible assumption | rfl) ?_
    refine V_icmp_ge 46 dX4_growTo_17 (by decide) (by omega) (by omega) (fun h17 => ?_) (fun h17 => ?_)
    · omega
    · refine V_iload_n dX4_growTo_20 rfl ?_
      refine V_aload_n dX4_growTo_21 rfl ?_
      refine V_getr 2 _ dX4_growTo_22 fl_RX4_18 (by first | with_reducible assumption | rfl) rfl rfl (by first | with_reducible assumption | exact hG.at rfl) ?_
      refine V_alen dX4_growTo_25 (by first | with_reducible assumption | rfl) ?_
      refine V_icmp_ge 46 dX4_growTo_26 (by decide) (by omega) (by omega) (fun h26 => ?_) (fun h26 => ?_)
      · omega
      · refine V_aload_n dX4_growTo_29 rfl ?_
        refine V_getr 1 _ dX4_growTo_30 fl_RX4_15 (by first | with_reducible assumption | rfl) rfl rfl (by first | with_reducible assumption | exact hG.at rfl) ?_
        refine V_iload_n dX4_growTo_33 rfl ?_
        refine V_iload_n dX4_growTo_34 rfl ?_
        refine V_iast dX4_growTo_35 (by first | with_reducible assumption | rfl) (by decide) (by omega) ?_
        refine V_aload_n dX4_growTo_36 rfl ?_
        refine V_getr 2 _ dX4_growTo_37 fl_RX4_18 (by first | with_reducible assumption | rfl) rfl rfl (by first | with_reducible assumption | exact hG.at rfl) ?_
        refine V_iload_n dX4_growTo_40 rfl ?_
        refine V_dup2 dX4_growTo_41 rfl rfl ?_
        refine V_iald dX4_growTo_42 (by first | with_reducible assumption | rfl) (by decide) (by omega) ?_
        rw [up2_n mi _ _ (by decide)]
        refine V_iconst dX4_growTo_43 ?_
        refine V_iadd dX4_growTo_44 ?_
        refine V_iast dX4_growTo_45 (by first | with_reducible assumption | rfl) (by decide) (by omega) ?_
        refine V_vret dX4_growTo_46 rfl ⟨Nat.le_of_ble_eq_true rfl, Nat.le_of_ble_eq_true rfl⟩ ?_
        exact ⟨rfl, rfl, rfl, rfl⟩
set_option maxRecDepth 100000 in
theorem c_X4_beginOf {i : Int} (hG : Gr mr) (hi : 0 ≤ i ∧ i < mi 44 3) (hm : mi 44 3 ≤ 56) : CP yX4_beginOf cX4_beginOf 2 (some .int) 0 SH mi mr [vr 44, vi i] (vi (mi 45 i)) := by
  refine Ct.ofV (ini := false) [some (vr 44), some (vi i)] km_X4_beginOf (by decide) rfl (Nat.le_of_ble_eq_true rfl) ?_
  refine V_iload_n dX4_beginOf_0 rfl ?_
  refine V_if_lt 30 dX4_beginOf_1 (by decide) (by omega) (fun h1 => ?_) (fun h1 => ?_)
  · refine V_iconst dX4_beginOf_30 ?_
    refine V_iret dX4_beginOf_31 rfl ⟨Nat.le_of_ble_eq_true rfl, Nat.le_of_ble_eq_true rfl⟩ ?_
    exact ⟨rfl, svi (by first | rfl | (exfalso; omega)), rfl, rfl⟩
  · refine V_iload_n dX4_beginOf_4 rfl ?_
    refine V_aload_n dX4_beginOf_5 rfl ?_
    refine V_geti 3 dX4_beginOf_6 fl_RX4_21 (by first | with_reducible assumption | rfl) rfl rfl ?_
    refine V_icmp_ge 30 dX4_beginOf_9 (by decide) (by omega) (by omega) (fun h9 => ?_) (fun h9 => ?_)
    · refine V_iconst dX4_beginOf_30 ?_
      refine V_iret dX4_beginOf_31 rfl ⟨Nat.le_of_ble_eq_true rfl, Nat.le_of_ble_eq_true rfl⟩ ?_
      exact ⟨rfl, svi (by first | rfl | (exfalso; omega)), rfl, rfl⟩
    · refine V_iload_n dX4_beginOf_12 rfl ?_
      refine V_aload_n dX4_beginOf_13 rfl ?_
      refine V_getr 0 _ dX4_beginOf_14 fl_RX4_9 (by first | with_reducible assumption | rfl) rfl rfl (by first | with_reducible assumption | exact hG.at rfl) ?_
      refine V_alen dX4_beginOf_17 (by first | with_reducible assumption | rfl) ?_
      refine V_icmp_ge 30 dX4_beginOf_18 (by decide) (by omega) (by omega) (fun h18 => ?_) (fun h18 => ?_)
      · refine V_iconst dX4_beginOf_30 ?_
        refine V_iret dX4_beginOf_31 rfl ⟨Nat.le_of_ble_eq_true rfl, Nat.le_of_ble_eq_true rfl⟩ ?_
        exact ⟨rfl, svi (by first | rfl | (exfalso; omega)), rfl, rfl⟩
      · refine V_aload_n dX4_beginOf_21 rfl ?_
        refine V_getr 0 _ dX4_beginOf_22 fl_RX4_9 (by first | with_reducible assumption | rfl) rfl rfl (by first | with_reducible assumption | exact hG.at rfl) ?_
        refine V_iload_n dX4_beginOf_25 rfl ?_
        refine V_iald dX4_beginOf_26 (by first | with_reducible assumption | rfl) (by decide) (by omega) ?_
        refine V_goto 31 dX4_beginOf_27 (by decide) ?_
        refine V_iret dX4_beginOf_31 rfl ⟨Nat.le_of_ble_eq_true rfl, Nat.le_of_ble_eq_true rfl⟩ ?_
        exact ⟨rfl, svi (by first | rfl | (exfalso; omega)), rfl, rfl⟩
set_option maxRecDepth 100000 in
theorem c_X4_endOf {i : Int} (hG : Gr mr) (hi : 0 ≤ i ∧ i < mi 44 3) (hm : mi 44 3 ≤ 56) : CP yX4_endOf cX4_endOf 2 (some .int) 0 SH mi mr [vr 44, vi i] (vi (mi 46 i)) := by
  refine Ct.ofV (ini := false) [some (vr 44), some (vi i)] km_X4_endOf (by decide) rfl (Nat.le_of_ble_eq_true rfl) ?_
  refine V_iload_n dX4_endOf_0 rfl ?_
  refine V_if_lt 30 dX4_endOf_1 (by decide) (by omega) (fun h1 => ?_) (fun h1 => ?_)
  · refine V_iconst dX4_endOf_30 ?_
    refine V_iret dX4_endOf_31 rfl ⟨Nat.le_of_ble_eq_true rfl, Nat.le_of_ble_eq_true rfl⟩ ?_
    exact ⟨rfl, svi (by first | rfl | (exfalso; omega)), rfl, rfl⟩
  · refine V_iload_n dX4_endOf_4 rfl ?_
    refine V_aload_n dX4_endOf_5 rfl ?_
    refine V_geti 3 dX4_endOf_6 fl_RX4_21 (by first | with_reducible assumption | rfl) rfl rfl ?_
    refine V_icmp_ge 30 dX4_endOf_9 (by decide) (by omega) (by omega) (fun h9 => ?_) (fun h9 => ?_)
    · refine V_iconst dX4_endOf_30 ?_
      refine V_iret dX4_endOf_31 rfl ⟨Nat.le_of_ble_eq_true rfl, Nat.le_of_ble_eq_true rfl⟩ ?_
      exact ⟨rfl, svi (by first | rfl | (exfalso; omega)), rfl, rfl⟩
    · refine V_iload_n dX4_endOf_12 rfl ?_
      refine V_aload_n dX4_endOf_13 rfl ?_
      refine V_getr 1 _ dX4_endOf_14 fl_RX4_15 (by first | with_reducible assumption | rfl) rfl rfl (by first | with_reducible assumption | exact hG.at rfl) ?_
      refine V_alen dX4_endOf_17 (by first | with_reducible assumption | rfl) ?_
      refine V_icmp_ge 30 dX4_endOf_18 (by decide) (by omega) (by omega) (fun h18 => ?_) (fun h18 => ?_)
      · refine V_iconst dX4_endOf_30 ?_
        refine V_iret dX4_endOf_31 rfl ⟨Nat.le_of_ble_eq_true rfl, Nat.le_of_ble_eq_true rfl⟩ ?_
        exact ⟨rfl, svi (by first | rfl | (exfalso; omega)), rfl, rfl⟩
      · refine V_aload_n dX4_endOf_21 rfl ?_
        refine V_getr 1 _ dX4_endOf_22 fl_RX4_15 (by first | with_reducible assumption | rfl) rfl rfl (by first | with_reducible assumption | exact hG.at rfl) ?_
        refine V_iload_n dX4_endOf_25 rfl ?_
        refine V_iald dX4_endOf_26 (by first | with_reducible assumption | rfl) (by decide) (by omega) ?_
        refine V_goto 31 dX4_endOf_27 (by decide) ?_
        refine V_iret dX4_endOf_31 rfl ⟨Nat.le_of_ble_eq_true rfl, Nat.le_of_ble_eq_true rfl⟩ ?_
        exact ⟨rfl, svi (by first | rfl | (exfalso; omega)), rfl, rfl⟩
set_option maxRecDepth 100000 in
theorem c_X4_editsOf {i : Int} (hG : Gr mr) (hi : 0 ≤ i ∧ i < mi 44 3) (hm : mi 44 3 ≤ 56) : CP yX4_editsOf cX4_editsOf 2 (some .int) 0 SH mi mr [vr 44, vi i] (vi (mi 47 i)) := by
  refine Ct.ofV (ini := false) [some (vr 44), some (vi i)] km_X4_editsOf (by decide) rfl (Nat.le_of_ble_eq_true rfl) ?_
  refine V_iload_n dX4_editsOf_0 rfl ?_
  refine V_if_lt 30 dX4_editsOf_1 (by decide) (by omega) (fun h1 => ?_) (fun h1 => ?_)
  · refine V_iconst dX4_editsOf_30 ?_
    refine V_iret dX4_editsOf_31 rfl ⟨Nat.le_of_ble_eq_true rfl, Nat.le_of_ble_eq_true rfl⟩ ?_
    exact ⟨rfl, svi (by first | rfl | (exfalso; omega)), rfl, rfl⟩
  · refine V_iload_n dX4_editsOf_4 rfl ?_
    refine V_aload_n dX4_editsOf_5 rfl ?_
    refine V_geti 3 dX4_editsOf_6 fl_RX4_21 (by first | with_reducible assumption | rfl) rfl rfl ?_
    refine V_icmp_ge 30 dX4_editsOf_9 (by decide) (by omega) (by omega) (fun h9 => ?_) (fun h9 => ?_)
    · refine V_iconst dX4_editsOf_30 ?_
      refine V_iret dX4_editsOf_31 rfl ⟨Nat.le_of_ble_eq_true rfl, Nat.le_of_ble_eq_true rfl⟩ ?_
      exact ⟨rfl, svi (by first | rfl | (exfalso; omega)), rfl, rfl⟩
    · refine V_iload_n dX4_editsOf_12 rfl ?_
      refine V_aload_n dX4_editsOf_13 rfl ?_
      refine V_getr 2 _ dX4_editsOf_14 fl_RX4_18 (by first | with_reducible assumption | rfl) rfl rfl (by first | with_reducible assumption | exact hG.at rfl) ?_
      refine V_alen dX4_editsOf_17 (by first | with_reducible assumption | rfl) ?_
      refine V_icmp_ge 30 dX4_editsOf_18 (by decide) (by omega) (by omega) (fun h18 => ?_) (fun h18 => ?_)
      · refine V_iconst dX4_editsOf_30 ?_
        refine V_iret dX4_editsOf_31 rfl ⟨Nat.le_of_ble_eq_true rfl, Nat.le_of_ble_eq_true rfl⟩ ?_
        exact ⟨rfl, svi (by first | rfl | (exfalso; omega)), rfl, rfl⟩
      · refine V_aload_n dX4_editsOf_21 rfl ?_
        refine V_getr 2 _ dX4_editsOf_22 fl_RX4_18 (by first | with_reducible assumption | rfl) rfl rfl (by first | with_reducible assumption | exact hG.at rfl) ?_
        refine V_iload_n dX4_editsOf_25 rfl ?_
        refine V_iald dX4_editsOf_26 (by first | with_reducible assumption | rfl) (by decide) (by omega) ?_
        refine V_goto 31 dX4_editsOf_27 (by decide) ?_
        refine V_iret dX4_editsOf_31 rfl ⟨Nat.le_of_ble_eq_true rfl, Nat.le_of_ble_eq_true rfl⟩ ?_
        exact ⟨rfl, svi (by first | rfl | (exfalso; omega)), rfl, rfl⟩
set_option maxRecDepth 100000 in
set_option maxHeartbeats 1000000 in
theorem c_X4_find {r : Int} (hr : 0 ≤ r ∧ r ≤ 5) (hG : Gr mr) (hS : ScM mi L K Lt X Y) (hR : ScR L K Lt X Y) : C0 yX4_find cX4_find 5 none 2 SH mi mr [vr 44, vr 37, vi r] (fun mi' mr' => mr' = mr ∧ HkM mi' r L (hk r K L.toNat) ∧ ∀ x, x < 44 ∨ 47 < x → mi' x = mi x) := by
  have hL := hS.1
  have loop : ∀ (t s : Nat) (mi' : MI), (s : Int) ≤ L → L - s < t → HkM mi' r L (hk r K s) → (∀ x, x < 44 ∨ 47 < x → mi' x = mi x) → V (RX4, cX4_find, 5, rm 2, false, none, none) (fun r' sh' mi' mr' => sh' = SH ∧ r' = none ∧ mr' = mr ∧ HkM mi' r L (hk r K L.toNat) ∧ ∀ x, x < 44 ∨ 47 < x → mi' x = mi x) 0 0 SH mi' mr [some (vr 44), some (vr 37), some (vi r), some (vi ((hk r K s).2.2.1 ((hk r K s).1 - 1))), some (vi s)] [] 10 := by
    intro t
    induction t with
    | zero => intro s mi' h1 h2; omega
    | succ t ih =>
      intro s mi' h1 h2 h3 h4
      have hS' : ScM mi' L K Lt X Y := hS.keep (fun x x1 x2 => h4 x (by omega))
      have hL' := hS'.1
      have hr1 := hk_r r K s
      have hC := hk_C r K s
      have hm1 := h3.1
      have ehk : hk r K (s + 1) = if K s = 0 then hk r K s else if (hk r K s).1 = 0 ∨ 2 * r < (s : Int) - (hk r K s).2.2.1 ((hk r K s).1 - 1) - 1 then ((hk r K s).1 + 1, up1 (hk r K s).2.1 (hk r K s).1 s, up1 (hk r K s).2.2.1 (hk r K s).1 s, up1 (hk r K s).2.2.2 (hk r K s).1 1) else ((hk r K s).1, (hk r K s).2.1, up1 (hk r K s).2.2.1 ((hk r K s).1 - 1) s, up1 (hk r K s).2.2.2 ((hk r K s).1 - 1) ((hk r K s).2.2.2 ((hk r K s).1 - 1) + 1)) := rfl
      generalize hq : hk r K s = q at *
      obtain ⟨m, E, Ls, C⟩ := q
      simp only at hr1 hC hm1 ehk ⊢
      refine V_iload dX4_find_10 rfl ?_
      refine V_aload_n dX4_find_12 rfl ?_
      refine V_geti 4 dX4_find_13 fl_RX4_25 rfl rfl rfl ?_
      refine V_icmp_ge 85 dX4_find_16 (by decide) (by omega) (by omega) (fun h16 => ?_) (fun h16 => ?_)
      · refine V_vret dX4_find_85 rfl ⟨Nat.le_of_ble_eq_true rfl, Nat.le_of_ble_eq_true rfl⟩ ?_
        exact ⟨rfl, rfl, rfl, by rw [show L.toNat = s by omega, hq]; exact h3, h4⟩
      · refine V_aload_n dX4_find_19 rfl ?_
        refine V_iload dX4_find_20 rfl ?_
        refine V_callVP dX4_find_22 ml_RX4_30 km_X8_isEdit kv_X8_isEdit (c_X8_isEdit (i := s) hG (by omega) hS' hR) rfl rfl rfl rfl (Nat.le_of_ble_eq_true rfl) ⟨Nat.le_of_ble_eq_true rfl, Nat.le_of_ble_eq_true rfl⟩ ⟨Nat.le_of_ble_eq_true rfl, Nat.le_of_ble_eq_true rfl⟩ ?_
        by_cases hK : K s = 0
        · rw [if_pos hK] at ehk ⊢
          have hgo := ih (s + 1) mi' (by omega) (by omega) (by rw [ehk]; exact h3) h4
          rw [ehk] at hgo
          refine V_if_eq 79 dX4_find_25 (by decide) (by omega) (fun _ => ?_) (fun h25 => absurd h25 (by decide))
          refine S_iinc (ls' := [_, _, _, _, _]) dX4_find_79 rfl ⟨rfl, rfl⟩ rfl ?_
          refine V_goto 10 dX4_find_82 (by decide) ?_
          exact hgo
        · rw [if_neg hK] at ehk ⊢
          by_cases hnew : m = 0 ∨ 2 * r < (s : Int) - Ls (m - 1) - 1
          · rw [if_pos hnew] at ehk
            have hfin : ∀ mi2 : MI, mi2 = up2 (up2 (up2 (up2 (up2 mi' 45 m (max (s - r) 0)) 47 m 0) 44 3 (m + 1)) 46 (m + 1 - 1) (min (s + 1 + r) L)) 47 (m + 1 - 1) (0 + 1) → V (RX4, cX4_find, 5, rm 2, false, none, none) (fun r' sh' mi' mr' => sh' = SH ∧ r' = none ∧ mr' = mr ∧ HkM mi' r L (hk r K L.toNat) ∧ ∀ x, x < 44 ∨ 47 < x → mi' x = mi x) 0 0 SH mi2 mr [some (vr 44), some (vr 37), some (vi r), some (vi s), some (vi (s + 1))] [] 10 := by
              intro mi2 h2
              have hgo := ih (s + 1) mi2 (by omega) (by omega) ?_ (fun x hx => ?_)
              · rw [ehk] at hgo
                simp only at hgo
                rw [show m + 1 - 1 = m by omega, up1_s] at hgo
                exact hgo
              · rw [ehk, h2, show m + 1 - 1 = m by omega]
                refine ⟨by simp [up2, up1], fun i i1 i2 => ?_⟩
                simp only at i2
                by_cases him : i = m
                · subst him
                  simp [up2, up1]
                · have := h3.2 i i1 (by simp only; omega)
                  simp only at this
                  simp [up2, up1, him, this]
              · rw [h2, up2_n _ _ _ (by omega), up2_n _ _ _ (by omega), up2_n _ _ _ (by omega), up2_n _ _ _ (by omega), up2_n _ _ _ (by omega)]
                exact h4 x hx
            have hpre : V (RX4, cX4_find, 5, rm 2, false, none, none) (fun r' sh' mi' mr' => sh' = SH ∧ r' = none ∧ mr' = mr ∧ HkM mi' r L (hk r K L.toNat) ∧ ∀ x, x < 44 ∨ 47 < x → mi' x = mi x) 0 0 SH mi' mr [some (vr 44), some (vr 37), some (vi r), some (vi (Ls (m - 1))), some (vi s)] [] 47 := by
              refine V_aload_n dX4_find_47 rfl ?_
              refine V_iload dX4_find_48 rfl ?_
              refine V_iload_n dX4_find_50 rfl ?_
              refine V_isub dX4_find_51 ?_
              refine V_iconst dX4_find_52 ?_
              refine V_mmax dX4_find_53 ml_RX4_34 (by omega) (by omega) ⟨Nat.le_of_ble_eq_true rfl, Nat.le_of_ble_eq_true rfl, Nat.le_of_ble_eq_true rfl, Nat.le_of_ble_eq_true rfl⟩ ?_
              refine V_callV0 dX4_find_56 ml_RX4_40 km_X4_open kv_X4_open (c_X4_open hG (by omega)) (by first | with_reducible assumption | rfl) rfl rfl rfl (Nat.le_of_ble_eq_true rfl) ⟨Nat.le_of_ble_eq_true rfl, Nat.le_of_ble_eq_true rfl⟩ ⟨Nat.le_of_ble_eq_true rfl, Nat.le_of_ble_eq_true rfl⟩ ?_
              rintro mi2 mr2 ⟨rfl, rfl⟩
              refine V_iload dX4_find_59 rfl ?_
              refine S_istore_n (ls' := [_, _, _, _, _]) dX4_find_61 ⟨Nat.le_of_ble_eq_true rfl, rfl, rfl⟩ rfl ?_
              refine V_aload_n dX4_find_62 rfl ?_
              refine V_iload dX4_find_63 rfl ?_
              refine V_iconst dX4_find_65 ?_
              refine V_iadd dX4_find_66 ?_
              refine V_iload_n dX4_find_67 rfl ?_
              refine V_iadd dX4_find_68 ?_
              refine V_aload_n dX4_find_69 rfl ?_
              refine V_geti 4 dX4_find_70 fl_RX4_25 (by first | with_reducible assumption | rfl) rfl rfl ?_
              rw [up2_n _ _ _ (by decide), up2_n _ _ _ (by decide), up2_n _ _ _ (by decide), hL'.1]
              refine V_mmin dX4_find_73 ml_RX4_44 (by omega) (by omega) ⟨Nat.le_of_ble_eq_true rfl, Nat.le_of_ble_eq_true rfl, Nat.le_of_ble_eq_true rfl, Nat.le_of_ble_eq_true rfl⟩ ?_
              refine V_callV0 dX4_find_76 ml_RX4_47 km_X4_growTo kv_X4_growTo (c_X4_growTo hG (by rw [up2_ss]; omega)) (by first | with_reducible assumption | rfl) rfl rfl rfl (Nat.le_of_ble_eq_true rfl) ⟨Nat.le_of_ble_eq_true rfl, Nat.le_of_ble_eq_true rfl⟩ ⟨Nat.le_of_ble_eq_true rfl, Nat.le_of_ble_eq_true rfl⟩ ?_
              rintro mi3 mr3 ⟨rfl, hq3⟩
              rw [up2_ss, hm1] at hq3
              refine S_iinc (ls' := [_, _, _, _, _]) dX4_find_79 rfl ⟨rfl, rfl⟩ rfl ?_
              refine V_goto 10 dX4_find_82 (by decide) ?_
              refine hfin mi3 ?_
              rw [hq3]
              congr 1
              simp [up2, up1]
            by_cases hm0 : m = 0
            · refine V_if_eq 79 dX4_find_25 (by decide) (by omega) (fun h25 => absurd h25 (by decide)) (fun _ => ?_)
              refine V_aload_n dX4_find_28 rfl ?_
              refine V_geti 3 dX4_find_29 fl_RX4_21 (by first | with_reducible assumption | rfl) rfl rfl ?_
              refine V_if_eq 47 dX4_find_32 (by decide) (by omega) (fun _ => ?_) (fun h32 => absurd h32 (by omega))
              exact hpre
            · refine V_if_eq 79 dX4_find_25 (by decide) (by omega) (fun h25 => absurd h25 (by decide)) (fun _ => ?_)
              refine V_aload_n dX4_find_28 rfl ?_
              refine V_geti 3 dX4_find_29 fl_RX4_21 (by first | with_reducible assumption | rfl) rfl rfl ?_
              refine V_if_eq 47 dX4_find_32 (by decide) (by omega) (fun h32 => absurd h32 (by omega)) (fun _ => ?_)
              refine V_iload dX4_find_35 rfl ?_
              refine V_iload_n dX4_find_37 rfl ?_
              refine V_isub dX4_find_38 ?_
              refine V_iconst dX4_find_39 ?_
              refine V_isub dX4_find_40 ?_
              refine V_iconst dX4_find_41 ?_
              refine V_iload_n dX4_find_42 rfl ?_
              refine V_imul dX4_find_43 ?_
              refine V_icmp_le 59 dX4_find_44 (by decide) (by omega) (by omega) (fun h44 => absurd h44 (by omega)) (fun _ => ?_)
              exact hpre
          · rw [if_neg hnew] at ehk
            have hfin : ∀ mi2 : MI, mi2 = up2 (up2 mi' 46 (m - 1) (min (s + 1 + r) L)) 47 (m - 1) (C (m - 1) + 1) → V (RX4, cX4_find, 5, rm 2, false, none, none) (fun r' sh' mi' mr' => sh' = SH ∧ r' = none ∧ mr' = mr ∧ HkM mi' r L (hk r K L.toNat) ∧ ∀ x, x < 44 ∨ 47 < x → mi' x = mi x) 0 0 SH mi2 mr [some (vr 44), some (vr 37), some (vi r), some (vi s), some (vi (s + 1))] [] 10 := by
              intro mi2 h2
              have hgo := ih (s + 1) mi2 (by omega) (by omega) ?_ (fun x hx => ?_)
              · rw [ehk] at hgo
                simp only at hgo
                rw [up1_s] at hgo
                exact hgo
              · rw [ehk, h2]
                refine ⟨by rw [up2_n _ _ _ (by decide), up2_n _ _ _ (by decide)]; exact hm1, fun i i1 i2 => ?_⟩
                simp only at i2
                have := h3.2 i i1 (by simp only; omega)
                simp only at this
                by_cases him : i = m - 1
                · subst him
                  simp [up2, up1, this]
                · simp [up2, up1, him, this]
              · rw [h2, up2_n _ _ _ (by omega), up2_n _ _ _ (by omega)]
                exact h4 x hx
            have hc47 : mi' 47 (m - 1) = C (m - 1) := (h3.2 (m - 1) (by omega) (by simp only; omega)).2.2
            refine V_if_eq 79 dX4_find_25 (by decide) (by omega) (fun h25 => absurd h25 (by decide)) (fun _ => ?_)
            refine V_aload_n dX4_find_28 rfl ?_
            refine V_geti 3 dX4_find_29 fl_RX4_21 (by first | with_reducible assumption | rfl) rfl rfl ?_
            refine V_if_eq 47 dX4_find_32 (by decide) (by omega) (fun h32 => absurd h32 (by omega)) (fun _ => ?_)
            refine V_iload dX4_find_35 rfl ?_
            refine V_iload_n dX4_find_37 rfl ?_
            refine V_isub dX4_find_38 ?_
            refine V_iconst dX4_find_39 ?_
            refine V_isub dX4_find_40 ?_
            refine V_iconst dX4_find_41 ?_
            refine V_iload_n dX4_find_42 rfl ?_
            refine V_imul dX4_find_43 ?_
            refine V_icmp_le 59 dX4_find_44 (by decide) (by omega) (by omega) (fun _ => ?_) (fun h44 => absurd h44 (by omega))
            refine V_iload dX4_find_59 rfl ?_
            refine S_istore_n (ls' := [_, _, _, _, _]) dX4_find_61 ⟨Nat.le_of_ble_eq_true rfl, rfl, rfl⟩ rfl ?_
            refine V_aload_n dX4_find_62 rfl ?_
            refine V_iload dX4_find_63 rfl ?_
            refine V_iconst dX4_find_65 ?_
            refine V_iadd dX4_find_66 ?_
            refine V_iload_n dX4_find_67 rfl ?_
            refine V_iadd dX4_find_68 ?_
            refine V_aload_n dX4_find_69 rfl ?_
            refine V_geti 4 dX4_find_70 fl_RX4_25 (by first | with_reducible assumption | rfl) rfl rfl ?_
            rw [hL'.1]
            refine V_mmin dX4_find_73 ml_RX4_44 (by omega) (by omega) ⟨Nat.le_of_ble_eq_true rfl, Nat.le_of_ble_eq_true rfl, Nat.le_of_ble_eq_true rfl, Nat.le_of_ble_eq_true rfl⟩ ?_
            refine V_callV0 dX4_find_76 ml_RX4_47 km_X4_growTo kv_X4_growTo (c_X4_growTo hG (by omega)) (by first | with_reducible assumption | rfl) rfl rfl rfl (Nat.le_of_ble_eq_true rfl) ⟨Nat.le_of_ble_eq_true rfl, Nat.le_of_ble_eq_true rfl⟩ ⟨Nat.le_of_ble_eq_true rfl, Nat.le_of_ble_eq_true rfl⟩ ?_
            rintro mi3 mr3 ⟨rfl, hq3⟩
            rw [hm1, hc47] at hq3
            refine S_iinc (ls' := [_, _, _, _, _]) dX4_find_79 rfl ⟨rfl, rfl⟩ rfl ?_
            refine V_goto 10 dX4_find_82 (by decide) ?_
            exact hfin mi3 hq3
  refine Ct.ofV (ini := false) [some (vr 44), some (vr 37), some (vi r), none, none] km_X4_find (by decide) rfl (Nat.le_of_ble_eq_true rfl) ?_
  refine V_aload_n dX4_find_0 rfl ?_
  refine V_iconst dX4_find_1 ?_
  refine V_puti 3 dX4_find_2 fl_RX4_21 (by first | with_reducible assumption | rfl) rfl rfl rfl ?_
  refine V_iconst dX4_find_5 ?_
  refine S_istore_n (ls' := [_, _, _, _, _]) dX4_find_6 ⟨Nat.le_of_ble_eq_true rfl, rfl, rfl⟩ rfl ?_
  refine V_iconst dX4_find_7 ?_
  refine S_istore (ls' := [_, _, _, _, _]) dX4_find_8 ⟨Nat.le_of_ble_eq_true rfl, rfl, rfl⟩ rfl ?_
  exact loop (L.toNat + 1) 0 _ (by omega) (by omega) ⟨by rw [up2_ss]; rfl, fun i i1 i2 => by simp only [hk] at i2; omega⟩ (fun x hx => up2_n _ _ _ (by omega))
end HUNKS
