/-! ===== DiagonalTexts$Blocks ===== -/
abbrev B3 : Type := Int × Int × Int
abbrev mvp (L : Int) (K Lt : Int → Int) (o i : Int) : Prop := kx L K o = 1 ∧ kx L K i = 2 ∧ kx L Lt o = kx L Lt i
def mrun (L : Int) (K Lt : Int → Int) : Nat → Int → Int → Int
  | 0, _, _ => 0
  | t + 1, o, i => if mvp L K Lt o i then 1 + mrun L K Lt t (o + 1) (i + 1) else 0
def sz (L : Int) (K Lt : Int → Int) (o i : Int) : Int := mrun L K Lt 28 o i
def brow (L : Int) (K Lt : Int → Int) (lb o : Int) : Nat → List B3
  | 0 => []
  | t + 1 => brow L K Lt lb o t ++ (if mvp L K Lt o t ∧ ¬ mvp L K Lt (o - 1) (t - 1) ∧ lb ≤ sz L K Lt o t then [(sz L K Lt o t, o, (t : Int))] else [])
def ball (L : Int) (K Lt : Int → Int) (lb : Int) : Nat → List B3
  | 0 => []
  | s + 1 => ball L K Lt lb s ++ brow L K Lt lb s L.toNat
theorem mrun_r (L : Int) (K Lt : Int → Int) : ∀ (t : Nat) (o i : Int), 0 ≤ mrun L K Lt t o i ∧ mrun L K Lt t o i ≤ t
  | 0, _, _ => by simp [mrun]
  | t + 1, o, i => by
    have h := mrun_r L K Lt t (o + 1) (i + 1)
    simp only [mrun]
    split <;> omega
def BlM (mi : MI) (l : List B3) : Prop := mi 48 3 = l.length ∧ ∀ (t : Nat) (q : B3), l[t]? = some q → mi 49 t = q.1 ∧ mi 50 t = q.2.1 ∧ mi 51 t = q.2.2
/-- how many of the first t are so long; how many are longer than 28 - k -/
def cn (l : List B3) (s : Int) : Nat → Int
  | 0 => 0
  | t + 1 => cn l s t + (if (l.getD t (0, 0, 0)).1 = s then 1 else 0)
def ab (l : List B3) : Nat → Int
  | 0 => 0
  | k + 1 => ab l k + cn l (28 - k) l.length
theorem cn_r (l : List B3) (s : Int) : ∀ t : Nat, 0 ≤ cn l s t ∧ cn l s t ≤ t
  | 0 => by simp [cn]
  | t + 1 => by
    have := cn_r l s t
    simp only [cn]
    split <;> omega
theorem ab_r (l : List B3) (h : l.length ≤ 784) : ∀ k : Nat, 0 ≤ ab l k ∧ ab l k ≤ 784 * k
  | 0 => by simp [ab]
  | k + 1 => by
    have := ab_r l h k
    have := cn_r l (28 - k) l.length
    simp only [ab]
    omega
section BLOCKS
variable {mi : MI} {mr : MR} {L : Int} {K Lt X Y : Int → Int}
theorem kx_r (hR : ScR L K Lt X Y) (i : Int) : -1 ≤ kx L K i ∧ kx L K i ≤ 2 ∧ -1 ≤ kx L Lt i ∧ kx L Lt i ≤ 7 := by
  unfold kx
  split
  · rename_i h
    have := hR.1 i h.1 h.2
    omega
  · omega
set_option maxRecDepth 100000 in
theorem c_X8_isMoved {o i : Int} (hG : Gr mr) (ho : rng o) (hi : rng i) (hS : ScM mi L K Lt X Y) (hR : ScR L K Lt X Y) : CP yX8_isMoved cX8_isMoved 3 (some .boolean) 1 SH mi mr [vr 37, vi o, vi i] (vi (if mvp L K Lt o i then 1 else 0)) := by
  have k1 := kx_r hR o
  have k2 := kx_r hR i
  refine Ct.ofV (ini := false) [some (vr 37), some (vi o), some (vi i)] km_X8_isMoved (by decide) rfl (Nat.le_of_ble_eq_true rfl) ?_
  refine V_aload_n dX8_isMoved_0 rfl ?_
  refine V_iload_n dX8_isMoved_1 rfl ?_
  refine V_callVP dX8_isMoved_2 ml_RX8_61 km_X8_kindAt kv_X8_kindAt (d_kindAt (i := o) hG ho hS) (by first | with_reducible assumption | rfl) rfl rfl rfl (Nat.le_of_ble_eq_true rfl) ⟨Nat.le_of_ble_eq_true rfl, Nat.le_of_ble_eq_true rfl⟩ ⟨Nat.le_of_ble_eq_true rfl, Nat.le_of_ble_eq_true rfl⟩ ?_
  refine V_iconst dX8_isMoved_5 ?_
  refine V_icmp_ne 35 dX8_isMoved_6 (by decide) (by omega) (by omega) (fun h6 => ?_) (fun h6 => ?_)
  · refine V_iconst dX8_isMoved_35 ?_
    refine V_zret dX8_isMoved_36 rfl ⟨Nat.le_of_ble_eq_true rfl, Nat.le_of_ble_eq_true rfl⟩ (by first | exact Or.inl rfl | exact Or.inr rfl | omega) ?_
    exact ⟨rfl, svi (by split <;> first | rfl | (exfalso; omega)), rfl, rfl⟩
  · refine V_aload_n dX8_isMoved_9 rfl ?_
    refine V_iload_n dX8_isMoved_10 rfl ?_
    refine V_callVP dX8_isMoved_11 ml_RX8_61 km_X8_kindAt kv_X8_kindAt (d_kindAt (i := i) hG hi hS) (by first | with_reducible assumption | rfl) rfl rfl rfl (Nat.le_of_ble_eq_true rfl) ⟨Nat.le_of_ble_eq_true rfl, Nat.le_of_ble_eq_true rfl⟩ ⟨Nat.le_of_ble_eq_true rfl, Nat.le_of_ble_eq_true rfl⟩ ?_
    refine V_iconst dX8_isMoved_14 ?_
    refine V_icmp_ne 35 dX8_isMoved_15 (by decide) (by omega) (by omega) (fun h15 => ?_) (fun h15 => ?_)
    · refine V_iconst dX8_isMoved_35 ?_
      refine V_zret dX8_isMoved_36 rfl ⟨Nat.le_of_ble_eq_true rfl, Nat.le_of_ble_eq_true rfl⟩ (by first | exact Or.inl rfl | exact Or.inr rfl | omega) ?_
      exact ⟨rfl, svi (by split <;> first | rfl | (exfalso; omega)), rfl, rfl⟩
    · refine V_aload_n dX8_isMoved_18 rfl ?_
      refine V_iload_n dX8_isMoved_19 rfl ?_
      refine V_callVP dX8_isMoved_20 ml_RX8_64 km_X8_letterOf kv_X8_letterOf (d_letterOf (i := o) hG ho hS) (by first | with_reducible assumption | rfl) rfl rfl rfl (Nat.le_of_ble_eq_true rfl) ⟨Nat.le_of_ble_eq_true rfl, Nat.le_of_ble_eq_true rfl⟩ ⟨Nat.le_of_ble_eq_true rfl, Nat.le_of_ble_eq_true rfl⟩ ?_
      refine V_aload_n dX8_isMoved_23 rfl ?_
      refine V_iload_n dX8_isMoved_24 rfl ?_
      refine V_callVP dX8_isMoved_25 ml_RX8_64 km_X8_letterOf kv_X8_letterOf (d_letterOf (i := i) hG hi hS) (by first | with_reducible assumption | rfl) rfl rfl rfl (Nat.le_of_ble_eq_true rfl) ⟨Nat.le_of_ble_eq_true rfl, Nat.le_of_ble_eq_true rfl⟩ ⟨Nat.le_of_ble_eq_true rfl, Nat.le_of_ble_eq_true rfl⟩ ?_
      refine V_icmp_ne 35 dX8_isMoved_28 (by decide) (by omega) (by omega) (fun h28 => ?_) (fun h28 => ?_)
      · refine V_iconst dX8_isMoved_35 ?_
        refine V_zret dX8_isMoved_36 rfl ⟨Nat.le_of_ble_eq_true rfl, Nat.le_of_ble_eq_true rfl⟩ (by first | exact Or.inl rfl | exact Or.inr rfl | omega) ?_
        exact ⟨rfl, svi (by split <;> first | rfl | (exfalso; omega)), rfl, rfl⟩
      · refine V_iconst dX8_isMoved_31 ?_
        refine V_goto 36 dX8_isMoved_32 (by decide) ?_
        refine V_zret dX8_isMoved_36 rfl ⟨Nat.le_of_ble_eq_true rfl, Nat.le_of_ble_eq_true rfl⟩ (by first | exact Or.inl rfl | exact Or.inr rfl | omega) ?_
        exact ⟨rfl, svi (by split <;> first | rfl | (exfalso; omega)), rfl, rfl⟩
set_option maxRecDepth 100000 in
theorem l_X0_sizeFrom {Q : PQ} {o i : Int} (hG : Gr mr) (ho : -1000 ≤ o ∧ o ≤ 1000) (hi : -1000 ≤ i ∧ i ≤ 1000) (hS : ScM mi L K Lt X Y) (hR : ScR L K Lt X Y)
    (kk : ∀ j : Int, j = sz L K Lt o i → V (RX0, cX0_sizeFrom, 4, rm 2, false, none, (some .int)) Q 0 0 SH mi mr [some (vr 37), some (vi o), some (vi i), some (vi j)] [] 27) :
    ∀ (t : Nat) (j : Int), j + t = 28 → 0 ≤ j → sz L K Lt o i = j + mrun L K Lt t (o + j) (i + j) → V (RX0, cX0_sizeFrom, 4, rm 2, false, none, (some .int)) Q 0 0 SH mi mr [some (vr 37), some (vi o), some (vi i), some (vi j)] [] 2 := by
  intro t
  induction t with
  | zero =>
    intro j h1 h2 h3
    simp only [mrun] at h3
    refine V_iload_n dX0_sizeFrom_2 rfl ?_
    refine V_bipush dX0_sizeFrom_3 (by decide) ?_
    refine V_icmp_ge 27 dX0_sizeFrom_5 (by decide) (by omega) (by omega) (fun h5 => ?_) (fun h5 => ?_)
    · exact kk j (by omega)
    · omega
  | succ t ih =>
    intro j h1 h2 h3
    simp only [mrun] at h3
    refine V_iload_n dX0_sizeFrom_2 rfl ?_
    refine V_bipush dX0_sizeFrom_3 (by decide) ?_
    refine V_icmp_ge 27 dX0_sizeFrom_5 (by decide) (by omega) (by omega) (fun h5 => ?_) (fun h5 => ?_)
    · omega
    · refine V_aload_n dX0_sizeFrom_8 rfl ?_
      refine V_iload_n dX0_sizeFrom_9 rfl ?_
      refine V_iload_n dX0_sizeFrom_10 rfl ?_
      refine V_iadd dX0_sizeFrom_11 ?_
      refine V_iload_n dX0_sizeFrom_12 rfl ?_
      refine V_iload_n dX0_sizeFrom_13 rfl ?_
      refine V_iadd dX0_sizeFrom_14 ?_
      refine V_callVP dX0_sizeFrom_15 ml_RX0_30 km_X8_isMoved kv_X8_isMoved (c_X8_isMoved (o := o + j) (i := i + j) hG (by omega) (by omega) hS hR) (by first | with_reducible assumption | rfl) rfl rfl rfl (Nat.le_of_ble_eq_true rfl) ⟨Nat.le_of_ble_eq_true rfl, Nat.le_of_ble_eq_true rfl⟩ ⟨Nat.le_of_ble_eq_true rfl, Nat.le_of_ble_eq_true rfl⟩ ?_
      refine V_if_eq 27 dX0_sizeFrom_18 (by decide) (by split <;> omega) (fun h18 => ?_) (fun h18 => ?_)
      · refine kk j ?_
        have ha : ¬ mvp L K Lt (o + j) (i + j) := fun ha => by rw [if_pos ha] at h18; omega
        rw [if_neg ha] at h3
        omega
      · refine S_iinc (ls' := [_, _, _, _]) dX0_sizeFrom_21 rfl ⟨rfl, rfl⟩ rfl ?_
        refine V_goto 2 dX0_sizeFrom_24 (by decide) ?_
        refine ih (j + 1) (by omega) (by omega) ?_
        have ha : mvp L K Lt (o + j) (i + j) := Decidable.byContradiction fun ha => h18 (by rw [if_neg ha])
        rw [if_pos ha] at h3
        rw [show o + (j + 1) = o + j + 1 by omega, show i + (j + 1) = i + j + 1 by omega]
        omega
set_option maxRecDepth 100000 in
theorem c_X0_sizeFrom {o i : Int} (hG : Gr mr) (ho : -1000 ≤ o ∧ o ≤ 1000) (hi : -1000 ≤ i ∧ i ≤ 1000) (hS : ScM mi L K Lt X Y) (hR : ScR L K Lt X Y) : CP yX0_sizeFrom cX0_sizeFrom 4 (some .int) 2 SH mi mr [vr 37, vi o, vi i] (vi (sz L K Lt o i)) := by
  refine Ct.ofV (ini := false) [some (vr 37), some (vi o), some (vi i), none] km_X0_sizeFrom (by decide) rfl (Nat.le_of_ble_eq_true rfl) ?_
  refine V_iconst dX0_sizeFrom_0 ?_
  refine S_istore_n (ls' := [_, _, _, _]) dX0_sizeFrom_1 ⟨Nat.le_of_ble_eq_true rfl, rfl, rfl⟩ rfl ?_
  refine l_X0_sizeFrom hG ho hi hS hR (fun j hj => ?_) 28 0 (by omega) (by omega) (by simp [sz])
  refine V_iload_n dX0_sizeFrom_27 rfl ?_
  refine V_iret dX0_sizeFrom_28 rfl ⟨Nat.le_of_ble_eq_true rfl, Nat.le_of_ble_eq_true rfl⟩ ?_
  exact ⟨rfl, svi hj, rfl, rfl⟩
set_option maxRecDepth 100000 in
theorem c_X0_addIfLong {s o i lb : Int} (hG : Gr mr) (hs : rng s) (hlb : rng lb) (hm : 0 ≤ mi 48 3 ∧ (lb ≤ s → mi 48 3 < 784)) (hm2 : mi 48 3 ≤ 1000) : C0 yX0_addIfLong cX0_addIfLong 5 none 0 SH mi mr [vr 48, vi s, vi o, vi i, vi lb] (fun mi' mr' => mr' = mr ∧ mi' = if lb ≤ s then up2 (up2 (up2 (up2 mi 49 (mi 48 3) s) 50 (mi 48 3) o) 51 (mi 48 3) i) 48 3 (mi 48 3 + 1) else mi) := by
  refine Ct.ofV (ini := false) [some (vr 48), some (vi s), some (vi o), some (vi i), some (vi lb)] km_X0_addIfLong (by decide) rfl (Nat.le_of_ble_eq_true rfl) ?_
  refine V_iload_n dX0_addIfLong_0 rfl ?_
  refine V_iload dX0_addIfLong_1 rfl ?_
  refine V_icmp_lt 89 dX0_addIfLong_3 (by decide) (by omega) (by omega) (fun h3 => ?_) (fun h3 => ?_)
  · refine V_vret dX0_addIfLong_89 rfl ⟨Nat.le_of_ble_eq_true rfl, Nat.le_of_ble_eq_true rfl⟩ ?_
    exact ⟨rfl, rfl, rfl, by split <;> first | rfl | (exfalso; omega)⟩
  · refine V_aload_n dX0_addIfLong_6 rfl ?_
    refine V_geti 3 dX0_addIfLong_7 fl_RX0_21 (by first | with_reducible assumption | rfl) rfl rfl ?_
    refine V_if_lt 89 dX0_addIfLong_10 (by decide) (by omega) (fun h10 => ?_) (fun h10 => ?_)
    · omega
    · refine V_aload_n dX0_addIfLong_13 rfl ?_
      refine V_geti 3 dX0_addIfLong_14 fl_RX0_21 (by first | with_reducible assumption | rfl) rfl rfl ?_
      refine V_aload_n dX0_addIfLong_17 rfl ?_
      refine V_getr 0 _ dX0_addIfLong_18 fl_RX0_9 (by first | with_reducible assumption | rfl) rfl rfl (by first | with_reducible assumption | exact hG.at rfl) ?_
      refine V_alen dX0_addIfLong_21 (by first | with_reducible assumption | rfl) ?_
      refine V_icmp_ge 89 dX0_addIfLong_22 (by decide) (by omega) (by omega) (fun h22 => ?_) (fun h22 => ?_)
      · omega
      · refine V_aload_n dX0_addIfLong_25 rfl ?_
        refine V_geti 3 dX0_addIfLong_26 fl_RX0_21 (by first | with_reducible assumption | rfl) rfl rfl ?_
        refine V_aload_n dX0_addIfLong_29 rfl ?_
        refine V_getr 1 _ dX0_addIfLong_30 fl_RX0_15 (by first | with_reducible assumption | rfl) rfl rfl (by first | with_reducible assumption | exact hG.at rfl) ?_
        refine V_alen dX0_addIfLong_33 (by first | with_reducible assumption | rfl) ?_
        refine V_icmp_ge 89 dX0_addIfLong_34 (by decide) (by omega) (by omega) (fun h34 => ?_) (fun h34 => ?_)
        · omega
        · refine V_aload_n dX0_addIfLong_37 rfl ?_
          refine V_geti 3 dX0_addIfLong_38 fl_RX0_21 (by first | with_reducible assumption | rfl) rfl rfl ?_
          refine V_aload_n dX0_addIfLong_41 rfl ?_
          refine V_getr 2 _ dX0_addIfLong_42 fl_RX0_18 (by first | with_reducible assumption | rfl) rfl rfl (by first | with_reducible assumption | exact hG.at rfl) ?_
          refine V_alen dX0_addIfLong_45 (by first | with_reducible assumption | rfl) ?_
          refine V_icmp_ge 89 dX0_addIfLong_46 (by decide) (by omega) (by omega) (fun h46 => ?_) (fun h46 => ?_)
          · omega
          · refine V_aload_n dX0_addIfLong_49 rfl ?_
            refine V_getr 0 _ dX0_addIfLong_50 fl_RX0_9 (by first | with_reducible assumption | rfl) rfl rfl (by first | with_reducible assumption | exact hG.at rfl) ?_
            refine V_aload_n dX0_addIfLong_53 rfl ?_
            refine V_geti 3 dX0_addIfLong_54 fl_RX0_21 (by first | with_reducible assumption | rfl) rfl rfl ?_
            refine V_iload_n dX0_addIfLong_57 rfl ?_
            refine V_iast dX0_addIfLong_58 (by first | with_reducible assumption | rfl) (by decide) (by omega) ?_
            refine V_aload_n dX0_addIfLong_59 rfl ?_
            refine V_getr 1 _ dX0_addIfLong_60 fl_RX0_15 (by first | with_reducible assumption | rfl) rfl rfl (by first | with_reducible assumption | exact hG.at rfl) ?_
            refine V_aload_n dX0_addIfLong_63 rfl ?_
            refine V_geti 3 dX0_addIfLong_64 fl_RX0_21 (by first | with_reducible assumption | rfl) rfl rfl ?_
            rw [up2_n _ _ _ (by decide)]
            refine V_iload_n dX0_addIfLong_67 rfl ?_
            refine V_iast dX0_addIfLong_68 (by first | with_reducible assumption | rfl) (by decide) (by omega) ?_
            refine V_aload_n dX0_addIfLong_69 rfl ?_
            refine V_getr 2 _ dX0_addIfLong_70 fl_RX0_18 (by first | with_reducible assumption | rfl) rfl rfl (by first | with_reducible assumption | exact hG.at rfl) ?_
            refine V_aload_n dX0_addIfLong_73 rfl ?_
            refine V_geti 3 dX0_addIfLong_74 fl_RX0_21 (by first | with_reducible assumption | rfl) rfl rfl ?_
            rw [up2_n _ _ _ (by decide), up2_n _ _ _ (by decide)]
            refine V_iload_n dX0_addIfLong_77 rfl ?_
            refine V_iast dX0_addIfLong_78 (by first | with_reducible assumption | rfl) (by decide) (by omega) ?_
            refine V_aload_n dX0_addIfLong_79 rfl ?_
            refine V_dup dX0_addIfLong_80 rfl ?_
            refine V_geti 3 dX0_addIfLong_81 fl_RX0_21 (by first | with_reducible assumption | rfl) rfl rfl ?_
            rw [up2_n _ _ _ (by decide), up2_n _ _ _ (by decide), up2_n _ _ _ (by decide)]
            refine V_iconst dX0_addIfLong_84 ?_
            refine V_iadd dX0_addIfLong_85 ?_
            refine V_puti 3 dX0_addIfLong_86 fl_RX0_21 (by first | with_reducible assumption | rfl) rfl rfl rfl ?_
            refine V_vret dX0_addIfLong_89 rfl ⟨Nat.le_of_ble_eq_true rfl, Nat.le_of_ble_eq_true rfl⟩ ?_
            exact ⟨rfl, rfl, rfl, by split <;> first | rfl | (exfalso; omega)⟩
theorem BlM.add {l : List B3} {s o i : Int} (h : BlM mi l) : BlM (up2 (up2 (up2 (up2 mi 49 (mi 48 3) s) 50 (mi 48 3) o) 51 (mi 48 3) i) 48 3 (mi 48 3 + 1)) (l ++ [(s, o, i)]) := by
  obtain ⟨h1, h2⟩ := h
  refine ⟨by rw [up2_ss, h1]; simp, fun t q hq => ?_⟩
  by_cases ht : t < l.length
  · rw [List.getElem?_append_left ht] at hq
    have hne : ¬ ((t : Int) = mi 48 3) := by omega
    have := h2 t q hq
    simp [up2, up1, hne, this]
  · have hlt := lt_of_get hq
    simp at hlt
    have he : t = l.length := by omega
    subst he
    have : q = (s, o, i) := by simpa using hq.symm
    subst this
    simp [up2, up1, h1]
set_option maxRecDepth 100000 in
set_option maxHeartbeats 1000000 in
theorem l_X0_find {Q : PQ} {lb : Int} (hlb : 1 ≤ lb ∧ lb ≤ 9) (hG : Gr mr) (hS : ScM mi L K Lt X Y) (hR : ScR L K Lt X Y) (hb : ∀ s t : Nat, (s : Int) < L → (t : Int) < L → mvp L K Lt s t → (ball L K Lt lb s ++ brow L K Lt lb s t).length < 784) (hb2 : ∀ s t : Nat, (s : Int) < L → (t : Int) ≤ L → (ball L K Lt lb s ++ brow L K Lt lb s t).length ≤ 784) (s : Nat) (hs : (s : Int) < L)
    (kk : ∀ (mi' : MI) (o4 : Option AV), BlM mi' (ball L K Lt lb (s + 1)) → (∀ x, x < 48 ∨ 51 < x → mi' x = mi x) → V (RX0, cX0_find, 5, rm 3, false, none, none) Q 0 0 SH mi' mr [some (vr 48), some (vr 37), some (vi lb), some (vi s), o4] [] 72) :
    ∀ (u t : Nat) (mi' : MI), (t : Int) ≤ L → L - t < u → BlM mi' (ball L K Lt lb s ++ brow L K Lt lb s t) → (∀ x, x < 48 ∨ 51 < x → mi' x = mi x) → V (RX0, cX0_find, 5, rm 3, false, none, none) Q 0 0 SH mi' mr [some (vr 48), some (vr 37), some (vi lb), some (vi s), some (vi t)] [] 18 := by
  intro u
  induction u with
  | zero => intro t mi' h1 h2; omega
  | succ u ih =>
    intro t mi' h1 h2 h3 h4
    have hS' : ScM mi' L K Lt X Y := hS.keep (fun x x1 x2 => h4 x (by omega))
    have hL := hS'.1
    have hsz := mrun_r L K Lt 28 s t
    have hsz' : 0 ≤ sz L K Lt s t ∧ sz L K Lt s t ≤ 28 := hsz
    have erow : brow L K Lt lb s (t + 1) = brow L K Lt lb s t ++ (if mvp L K Lt s t ∧ ¬ mvp L K Lt (s - 1) (t - 1) ∧ lb ≤ sz L K Lt s t then [(sz L K Lt s t, (s : Int), (t : Int))] else []) := rfl
    refine V_iload dX0_find_18 rfl ?_
    refine V_aload_n dX0_find_20 rfl ?_
    refine V_geti 4 dX0_find_21 fl_RX0_25 rfl rfl rfl ?_
    refine V_icmp_ge 72 dX0_find_24 (by decide) (by omega) (by omega) (fun h24 => ?_) (fun h24 => ?_)
    · refine kk mi' _ ?_ h4
      rw [show t = L.toNat by omega] at h3
      exact h3
    · have hlt : (t : Int) < L := by omega
      have hlen := hb2 s t hs h1
      have hskip : ¬ (mvp L K Lt s t ∧ ¬ mvp L K Lt (s - 1) (t - 1) ∧ lb ≤ sz L K Lt s t) → V (RX0, cX0_find, 5, rm 3, false, none, none) Q 0 0 SH mi' mr [some (vr 48), some (vr 37), some (vi lb), some (vi s), some (vi t)] [] 66 := by
        intro hc
        rw [if_neg hc, List.append_nil] at erow
        refine S_iinc (ls' := [_, _, _, _, _]) dX0_find_66 rfl ⟨rfl, rfl⟩ rfl ?_
        refine V_goto 18 dX0_find_69 (by decide) ?_
        exact ih (t + 1) mi' (by omega) (by omega) (by rw [erow]; exact h3) h4
      refine V_aload_n dX0_find_27 rfl ?_
      refine V_iload_n dX0_find_28 rfl ?_
      refine V_iload dX0_find_29 rfl ?_
      refine V_callVP dX0_find_31 ml_RX0_30 km_X8_isMoved kv_X8_isMoved (c_X8_isMoved (o := s) (i := t) hG (by omega) (by omega) hS' hR) rfl rfl rfl rfl (Nat.le_of_ble_eq_true rfl) ⟨Nat.le_of_ble_eq_true rfl, Nat.le_of_ble_eq_true rfl⟩ ⟨Nat.le_of_ble_eq_true rfl, Nat.le_of_ble_eq_true rfl⟩ ?_
      by_cases hm : mvp L K Lt s t
      · have hlt2 := hb s t hs hlt hm
        rw [if_pos hm]
        refine V_if_eq 66 dX0_find_34 (by decide) (by omega) (fun h => absurd h (by decide)) (fun _ => ?_)
        refine V_aload_n dX0_find_37 rfl ?_
        refine V_iload_n dX0_find_38 rfl ?_
        refine V_iconst dX0_find_39 ?_
        refine V_isub dX0_find_40 ?_
        refine V_iload dX0_find_41 rfl ?_
        refine V_iconst dX0_find_43 ?_
        refine V_isub dX0_find_44 ?_
        refine V_callVP dX0_find_45 ml_RX0_30 km_X8_isMoved kv_X8_isMoved (c_X8_isMoved (o := s - 1) (i := t - 1) hG (by omega) (by omega) hS' hR) rfl rfl rfl rfl (Nat.le_of_ble_eq_true rfl) ⟨Nat.le_of_ble_eq_true rfl, Nat.le_of_ble_eq_true rfl⟩ ⟨Nat.le_of_ble_eq_true rfl, Nat.le_of_ble_eq_true rfl⟩ ?_
        by_cases hm2 : mvp L K Lt (s - 1) (t - 1)
        · rw [if_pos hm2]
          refine V_if_ne 66 dX0_find_48 (by decide) (by omega) (fun _ => ?_) (fun h => absurd h (by decide))
          exact hskip (fun h => h.2.1 hm2)
        · rw [if_neg hm2]
          refine V_if_ne 66 dX0_find_48 (by decide) (by omega) (fun h => absurd rfl h) (fun _ => ?_)
          have hm48 := h3.1
          refine V_aload_n dX0_find_51 rfl ?_
          refine V_aload_n dX0_find_52 rfl ?_
          refine V_iload_n dX0_find_53 rfl ?_
          refine V_iload dX0_find_54 rfl ?_
          refine V_callSP dX0_find_56 ml_RX0_34 km_X0_sizeFrom ks_X0_sizeFrom (c_X0_sizeFrom (o := s) (i := t) hG (by omega) (by omega) hS' hR) rfl rfl (Nat.le_of_ble_eq_true rfl) ⟨Nat.le_of_ble_eq_true rfl, Nat.le_of_ble_eq_true rfl⟩ ⟨Nat.le_of_ble_eq_true rfl, Nat.le_of_ble_eq_true rfl⟩ ?_
          refine V_iload_n dX0_find_59 rfl ?_
          refine V_iload dX0_find_60 rfl ?_
          refine V_iload_n dX0_find_62 rfl ?_
          refine V_callV0 dX0_find_63 ml_RX0_38 km_X0_addIfLong kv_X0_addIfLong (c_X0_addIfLong (s := sz L K Lt s t) hG (by omega) (by omega) (by omega) (by omega)) (by first | with_reducible assumption | rfl) rfl rfl rfl (Nat.le_of_ble_eq_true rfl) ⟨Nat.le_of_ble_eq_true rfl, Nat.le_of_ble_eq_true rfl⟩ ⟨Nat.le_of_ble_eq_true rfl, Nat.le_of_ble_eq_true rfl⟩ ?_
          rintro mi2 mr2 ⟨rfl, hq⟩
          refine S_iinc (ls' := [_, _, _, _, _]) dX0_find_66 rfl ⟨rfl, rfl⟩ rfl ?_
          refine V_goto 18 dX0_find_69 (by decide) ?_
          by_cases hl : lb ≤ sz L K Lt s t
          · rw [if_pos hl] at hq
            rw [if_pos ⟨hm, hm2, hl⟩] at erow
            refine ih (t + 1) mi2 (by omega) (by omega) ?_ (fun x hx => ?_)
            · rw [erow, ← List.append_assoc, hq]
              exact h3.add
            · rw [hq, up2_n _ _ _ (by omega), up2_n _ _ _ (by omega), up2_n _ _ _ (by omega), up2_n _ _ _ (by omega)]
              exact h4 x hx
          · rw [if_neg hl] at hq
            rw [if_neg (fun h => hl h.2.2), List.append_nil] at erow
            subst hq
            exact ih (t + 1) mi2 (by omega) (by omega) (by rw [erow]; exact h3) h4
      · rw [if_neg hm]
        refine V_if_eq 66 dX0_find_34 (by decide) (by omega) (fun _ => ?_) (fun h => absurd rfl h)
        exact hskip (fun h => hm h.1)
set_option maxRecDepth 100000 in
set_option maxHeartbeats 1000000 in
theorem c_X0_find {lb : Int} (hlb : 1 ≤ lb ∧ lb ≤ 9) (hG : Gr mr) (hS : ScM mi L K Lt X Y) (hR : ScR L K Lt X Y) (hb : ∀ s t : Nat, (s : Int) < L → (t : Int) < L → mvp L K Lt s t → (ball L K Lt lb s ++ brow L K Lt lb s t).length < 784) (hb2 : ∀ s t : Nat, (s : Int) < L → (t : Int) ≤ L → (ball L K Lt lb s ++ brow L K Lt lb s t).length ≤ 784) : C0 yX0_find cX0_find 5 none 3 SH mi mr [vr 48, vr 37, vi lb] (fun mi' mr' => mr' = mr ∧ BlM mi' (ball L K Lt lb L.toNat) ∧ ∀ x, x < 48 ∨ 51 < x → mi' x = mi x) := by
  have hL := hS.1
  have loop : ∀ (w s : Nat) (mi' : MI) (o4 : Option AV), (s : Int) ≤ L → L - s < w → BlM mi' (ball L K Lt lb s) → (∀ x, x < 48 ∨ 51 < x → mi' x = mi x) → V (RX0, cX0_find, 5, rm 3, false, none, none) (fun r' sh' mi' mr' => sh' = SH ∧ r' = none ∧ mr' = mr ∧ BlM mi' (ball L K Lt lb L.toNat) ∧ ∀ x, x < 48 ∨ 51 < x → mi' x = mi x) 0 0 SH mi' mr [some (vr 48), some (vr 37), some (vi lb), some (vi s), o4] [] 7 := by
    intro w
    induction w with
    | zero => intro s mi' o4 h1 h2; omega
    | succ w ih =>
      intro s mi' o4 h1 h2 h3 h4
      have hS' : ScM mi' L K Lt X Y := hS.keep (fun x x1 x2 => h4 x (by omega))
      have hL' := hS'.1
      refine V_iload_n dX0_find_7 rfl ?_
      refine V_aload_n dX0_find_8 rfl ?_
      refine V_geti 4 dX0_find_9 fl_RX0_25 (by first | with_reducible assumption | rfl) rfl rfl ?_
      refine V_icmp_ge 78 dX0_find_12 (by decide) (by omega) (by omega) (fun h12 => ?_) (fun h12 => ?_)
      · refine V_vret dX0_find_78 rfl ⟨Nat.le_of_ble_eq_true rfl, Nat.le_of_ble_eq_true rfl⟩ ?_
        exact ⟨rfl, rfl, rfl, by rw [show L.toNat = s by omega]; exact h3, h4⟩
      · refine V_iconst dX0_find_15 ?_
        refine S_istore (ls' := [_, _, _, _, _]) dX0_find_16 ⟨Nat.le_of_ble_eq_true rfl, rfl, rfl⟩ rfl ?_
        refine l_X0_find (mi := mi') hlb hG hS' hR hb hb2 s (by omega) (fun mi2 o4 g1 g2 => ?_) (L.toNat + 1) 0 mi' (by omega) (by omega) (by simpa [brow] using h3) (fun _ _ => rfl)
        refine S_iinc (ls' := [_, _, _, _, _]) dX0_find_72 rfl ⟨rfl, rfl⟩ rfl ?_
        refine V_goto 7 dX0_find_75 (by decide) ?_
        exact ih (s + 1) mi2 _ (by omega) (by omega) g1 (fun x hx => by rw [g2 x hx, h4 x hx])
  refine Ct.ofV (ini := false) [some (vr 48), some (vr 37), some (vi lb), none, none] km_X0_find (by decide) rfl (Nat.le_of_ble_eq_true rfl) ?_
  refine V_aload_n dX0_find_0 rfl ?_
  refine V_iconst dX0_find_1 ?_
  refine V_puti 3 dX0_find_2 fl_RX0_21 (by first | with_reducible assumption | rfl) rfl rfl rfl ?_
  refine V_iconst dX0_find_5 ?_
  refine S_istore_n (ls' := [_, _, _, _, _]) dX0_find_6 ⟨Nat.le_of_ble_eq_true rfl, rfl, rfl⟩ rfl ?_
  exact loop (L.toNat + 1) 0 _ none (by omega) (by omega) ⟨by rw [up2_ss]; rfl, fun t q hq => by simp [ball] at hq⟩ (fun x hx => up2_n _ _ _ (by omega))
set_option maxRecDepth 100000 in
theorem c_X0_sizeOf {i : Int} (hG : Gr mr) (hi : 0 ≤ i ∧ i < mi 48 3) (hm : mi 48 3 ≤ 784) : CP yX0_sizeOf cX0_sizeOf 2 (some .int) 0 SH mi mr [vr 48, vi i] (vi (mi 49 i)) := by
  refine Ct.ofV (ini := false) [some (vr 48), some (vi i)] km_X0_sizeOf (by decide) rfl (Nat.le_of_ble_eq_true rfl) ?_
  refine V_iload_n dX0_sizeOf_0 rfl ?_
  refine V_if_lt 30 dX0_sizeOf_1 (by decide) (by omega) (fun h1 => ?_) (fun h1 => ?_)
  · refine V_iconst dX0_sizeOf_30 ?_
    refine V_iret dX0_sizeOf_31 rfl ⟨Nat.le_of_ble_eq_true rfl, Nat.le_of_ble_eq_true rfl⟩ ?_
    exact ⟨rfl, svi (by first | rfl | (exfalso; omega)), rfl, rfl⟩
  · refine V_iload_n dX0_sizeOf_4 rfl ?_
    refine V_aload_n dX0_sizeOf_5 rfl ?_
    refine V_geti 3 dX0_sizeOf_6 fl_RX0_21 (by first | with_reducible assumption | rfl) rfl rfl ?_
    refine V_icmp_ge 30 dX0_sizeOf_9 (by decide) (by omega) (by omega) (fun h9 => ?_) (fun h9 => ?_)
    · refine V_iconst dX0_sizeOf_30 ?_
      refine V_iret dX0_sizeOf_31 rfl ⟨Nat.le_of_ble_eq_true rfl, Nat.le_of_ble_eq_true rfl⟩ ?_
      exact ⟨rfl, svi (by first | rfl | (exfalso; omega)), rfl, rfl⟩
    · refine V_iload_n dX0_sizeOf_12 rfl ?_
      refine V_aload_n dX0_sizeOf_13 rfl ?_
      refine V_getr 0 _ dX0_sizeOf_14 fl_RX0_9 (by first | with_reducible assumption | rfl) rfl rfl (by first | with_reducible assumption | exact hG.at rfl) ?_
      refine V_alen dX0_sizeOf_17 (by first | with_reducible assumption | rfl) ?_
      refine V_icmp_ge 30 dX0_sizeOf_18 (by decide) (by omega) (by omega) (fun h18 => ?_) (fun h18 => ?_)
      · refine V_iconst dX0_sizeOf_30 ?_
        refine V_iret dX0_sizeOf_31 rfl ⟨Nat.le_of_ble_eq_true rfl, Nat.le_of_ble_eq_true rfl⟩ ?_
        exact ⟨rfl, svi (by first | rfl | (exfalso; omega)), rfl, rfl⟩
      · refine V_aload_n dX0_sizeOf_21 rfl ?_
        refine V_getr 0 _ dX0_sizeOf_22 fl_RX0_9 (by first | with_reducible assumption | rfl) rfl rfl (by first | with_reducible assumption | exact hG.at rfl) ?_
        refine V_iload_n dX0_sizeOf_25 rfl ?_
        refine V_iald dX0_sizeOf_26 (by first | with_reducible assumption | rfl) (by decide) (by omega) ?_
        refine V_goto 31 dX0_sizeOf_27 (by decide) ?_
        refine V_iret dX0_sizeOf_31 rfl ⟨Nat.le_of_ble_eq_true rfl, Nat.le_of_ble_eq_true rfl⟩ ?_
        exact ⟨rfl, svi (by first | rfl | (exfalso; omega)), rfl, rfl⟩
set_option maxRecDepth 100000 in
theorem c_X0_outOf {i : Int} (hG : Gr mr) (hi : 0 ≤ i ∧ i < mi 48 3) (hm : mi 48 3 ≤ 784) : CP yX0_outOf cX0_outOf 2 (some .int) 0 SH mi mr [vr 48, vi i] (vi (mi 50 i)) := by
  refine Ct.ofV (ini := false) [some (vr 48), some (vi i)] km_X0_outOf (by decide) rfl (Nat.le_of_ble_eq_true rfl) ?_
  refine V_iload_n dX0_outOf_0 rfl ?_
  refine V_if_lt 30 dX0_outOf_1 (by decide) (by omega) (fun h1 => ?_) (fun h1 => ?_)
  · refine V_iconst dX0_outOf_30 ?_
    refine V_iret dX0_outOf_31 rfl ⟨Nat.le_of_ble_eq_true rfl, Nat.le_of_ble_eq_true rfl⟩ ?_
    exact ⟨rfl, svi (by first | rfl | (exfalso; omega)), rfl, rfl⟩
  · refine V_iload_n dX0_outOf_4 rfl ?_
    refine V_aload_n dX0_outOf_5 rfl ?_
    refine V_geti 3 dX0_outOf_6 fl_RX0_21 (by first | with_reducible assumption | rfl) rfl rfl ?_
    refine V_icmp_ge 30 dX0_outOf_9 (by decide) (by omega) (by omega) (fun h9 => ?_) (fun h9 => ?_)
    · refine V_iconst dX0_outOf_30 ?_
      refine V_iret dX0_outOf_31 rfl ⟨Nat.le_of_ble_eq_true rfl, Nat.le_of_ble_eq_true rfl⟩ ?_
      exact ⟨rfl, svi (by first | rfl | (exfalso; omega)), rfl, rfl⟩
    · refine V_iload_n dX0_outOf_12 rfl ?_
      refine V_aload_n dX0_outOf_13 rfl ?_
      refine V_getr 1 _ dX0_outOf_14 fl_RX0_15 (by first | with_reducible assumption | rfl) rfl rfl (by first | with_reducible assumption | exact hG.at rfl) ?_
      refine V_alen dX0_outOf_17 (by first | with_reducible assumption | rfl) ?_
      refine V_icmp_ge 30 dX0_outOf_18 (by decide) (by omega) (by omega) (fun h18 => ?_) (fun h18 => ?_)
      · refine V_iconst dX0_outOf_30 ?_
        refine V_iret dX0_outOf_31 rfl ⟨Nat.le_of_ble_eq_true rfl, Nat.le_of_ble_eq_true rfl⟩ ?_
        exact ⟨rfl, svi (by first | rfl | (exfalso; omega)), rfl, rfl⟩
      · refine V_aload_n dX0_outOf_21 rfl ?_
        refine V_getr 1 _ dX0_outOf_22 fl_RX0_15 (by first | with_reducible assumption | rfl) rfl rfl (by first | with_reducible assumption | exact hG.at rfl) ?_
        refine V_iload_n dX0_outOf_25 rfl ?_
        refine V_iald dX0_outOf_26 (by first | with_reducible assumption | rfl) (by decide) (by omega) ?_
        refine V_goto 31 dX0_outOf_27 (by decide) ?_
        refine V_iret dX0_outOf_31 rfl ⟨Nat.le_of_ble_eq_true rfl, Nat.le_of_ble_eq_true rfl⟩ ?_
        exact ⟨rfl, svi (by first | rfl | (exfalso; omega)), rfl, rfl⟩
set_option maxRecDepth 100000 in
theorem c_X0_inOf {i : Int} (hG : Gr mr) (hi : 0 ≤ i ∧ i < mi 48 3) (hm : mi 48 3 ≤ 784) : CP yX0_inOf cX0_inOf 2 (some .int) 0 SH mi mr [vr 48, vi i] (vi (mi 51 i)) := by
  refine Ct.ofV (ini := false) [some (vr 48), some (vi i)] km_X0_inOf (by decide) rfl (Nat.le_of_ble_eq_true rfl) ?_
  refine V_iload_n dX0_inOf_0 rfl ?_
  refine V_if_lt 30 dX0_inOf_1 (by decide) (by omega) (fun h1 => ?_) (fun h1 => ?_)
  · refine V_iconst dX0_inOf_30 ?_
    refine V_iret dX0_inOf_31 rfl ⟨Nat.le_of_ble_eq_true rfl, Nat.le_of_ble_eq_true rfl⟩ ?_
    exact ⟨rfl, svi (by first | rfl | (exfalso; omega)), rfl, rfl⟩
  · refine V_iload_n dX0_inOf_4 rfl ?_
    refine V_aload_n dX0_inOf_5 rfl ?_
    refine V_geti 3 dX0_inOf_6 fl_RX0_21 (by first | with_reducible assumption | rfl) rfl rfl ?_
    refine V_icmp_ge 30 dX0_inOf_9 (by decide) (by omega) (by omega) (fun h9 => ?_) (fun h9 => ?_)
    · refine V_iconst dX0_inOf_30 ?_
      refine V_iret dX0_inOf_31 rfl ⟨Nat.le_of_ble_eq_true rfl, Nat.le_of_ble_eq_true rfl⟩ ?_
      exact ⟨rfl, svi (by first | rfl | (exfalso; omega)), rfl, rfl⟩
    · refine V_iload_n dX0_inOf_12 rfl ?_
      refine V_aload_n dX0_inOf_13 rfl ?_
      refine V_getr 2 _ dX0_inOf_14 fl_RX0_18 (by first | with_reducible assumption | rfl) rfl rfl (by first | with_reducible assumption | exact hG.at rfl) ?_
      refine V_alen dX0_inOf_17 (by first | with_reducible assumption | rfl) ?_
      refine V_icmp_ge 30 dX0_inOf_18 (by decide) (by omega) (by omega) (fun h18 => ?_) (fun h18 => ?_)
      · refine V_iconst dX0_inOf_30 ?_
        refine V_iret dX0_inOf_31 rfl ⟨Nat.le_of_ble_eq_true rfl, Nat.le_of_ble_eq_true rfl⟩ ?_
        exact ⟨rfl, svi (by first | rfl | (exfalso; omega)), rfl, rfl⟩
      · refine V_aload_n dX0_inOf_21 rfl ?_
        refine V_getr 2 _ dX0_inOf_22 fl_RX0_18 (by first | with_reducible assumption | rfl) rfl rfl (by first | with_reducible assumption | exact hG.at rfl) ?_
        refine V_iload_n dX0_inOf_25 rfl ?_
        refine V_iald dX0_inOf_26 (by first | with_reducible assumption | rfl) (by decide) (by omega) ?_
        refine V_goto 31 dX0_inOf_27 (by decide) ?_
        refine V_iret dX0_inOf_31 rfl ⟨Nat.le_of_ble_eq_true rfl, Nat.le_of_ble_eq_true rfl⟩ ?_
        exact ⟨rfl, svi (by first | rfl | (exfalso; omega)), rfl, rfl⟩
/-- the place in order is found, or it is told that there is none -/
def OrdP (l : List B3) (b : Int) (w : Int) : Prop := (∃ (k t : Nat) (q : B3), k < 28 ∧ l[t]? = some q ∧ w = t ∧ q.1 = 28 - k ∧ b = ab l k + cn l (28 - k) t) ∨ (w = -1 ∧ ∀ (k t : Nat) (q : B3), k < 28 → l[t]? = some q → q.1 = 28 - k → b ≠ ab l k + cn l (28 - k) t)
set_option maxRecDepth 100000 in
theorem l_X0_inOrder {Q : PQ} {l : List B3} {b : Int} (hG : Gr mr) (hB : BlM mi l) (hl : l.length ≤ 784) (hlr : ∀ (t : Nat) (q : B3), l[t]? = some q → 0 ≤ q.1 ∧ q.1 ≤ 28) (hb : 0 ≤ b ∧ b < 2147483648) (k : Nat) (hk : k < 28)
    (hQ : ∀ w, OrdP l b w → Q (some (vi w)) SH mi mr)
    (kk : ∀ (o4 : Option AV), (∀ (t : Nat) (q : B3), l[t]? = some q → q.1 = 28 - k → b ≠ ab l k + cn l (28 - k) t) → V (RX0, cX0_inOrder, 5, rm 1, false, none, (some .int)) Q 0 0 SH mi mr [some (vr 48), some (vi b), some (vi (b - ab l (k + 1))), some (vi (28 - k)), o4] [] 47) :
    ∀ (u t : Nat) (a : Int), t ≤ l.length → l.length - t < u → a = b - ab l k - cn l (28 - k) t → (∀ (t' : Nat) (q : B3), t' < t → l[t']? = some q → q.1 = 28 - k → b ≠ ab l k + cn l (28 - k) t') → V (RX0, cX0_inOrder, 5, rm 1, false, none, (some .int)) Q 0 0 SH mi mr [some (vr 48), some (vi b), some (vi a), some (vi (28 - k)), some (vi t)] [] 12 := by
  have hm := hB.1
  have hab := ab_r l hl k
  intro u
  induction u with
  | zero => intro t a h1 h2; omega
  | succ u ih =>
    intro t a h1 h2 h3 h4
    have hcn := cn_r l (28 - k) t
    refine V_iload dX0_inOrder_12 rfl ?_
    refine V_aload_n dX0_inOrder_14 rfl ?_
    refine V_geti 3 dX0_inOrder_15 fl_RX0_21 (by first | with_reducible assumption | rfl) rfl rfl ?_
    refine V_icmp_ge 47 dX0_inOrder_18 (by decide) (by omega) (by omega) (fun h18 => ?_) (fun h18 => ?_)
    · have e : t = l.length := by omega
      subst e
      rw [h3, show b - ab l k - cn l (28 - k) l.length = b - ab l (k + 1) by simp only [ab]; omega]
      exact kk _ (fun t' q g1 g2 => h4 t' q (lt_of_get g1) g1 g2)
    · have hlt : t < l.length := by omega
      obtain ⟨q, hq⟩ : ∃ q, l[t]? = some q := ⟨l[t], List.getElem?_eq_getElem hlt⟩
      have hd : l.getD t (0, 0, 0) = q := by simp [List.getD, hq]
      have ecn : cn l (28 - k) (t + 1) = cn l (28 - k) t + (if q.1 = 28 - k then 1 else 0) := by simp only [cn, hd]
      have hqr := hlr t q hq
      refine V_aload_n dX0_inOrder_21 rfl ?_
      refine V_iload dX0_inOrder_22 rfl ?_
      refine V_callVP dX0_inOrder_24 ml_RX0_42 km_X0_sizeOf kv_X0_sizeOf (c_X0_sizeOf (i := t) hG (by omega) (by omega)) (by first | with_reducible assumption | rfl) rfl rfl rfl (Nat.le_of_ble_eq_true rfl) ⟨Nat.le_of_ble_eq_true rfl, Nat.le_of_ble_eq_true rfl⟩ ⟨Nat.le_of_ble_eq_true rfl, Nat.le_of_ble_eq_true rfl⟩ ?_
      rw [(hB.2 t q hq).1]
      refine V_iload_n dX0_inOrder_27 rfl ?_
      refine V_icmp_ne 41 dX0_inOrder_28 (by decide) (by omega) (by omega) (fun h28 => ?_) (fun h28 => ?_)
      · refine S_iinc (ls' := [_, _, _, _, _]) dX0_inOrder_41 rfl ⟨rfl, rfl⟩ rfl ?_
        refine V_goto 12 dX0_inOrder_44 (by decide) ?_
        rw [if_neg h28] at ecn
        refine ih (t + 1) _ (by omega) (by omega) (by rw [ecn]; omega) (fun t' q' g0 g1 g2 => ?_)
        by_cases he : t' = t
        · subst he
          rw [hq] at g1
          cases g1
          exact absurd g2 h28
        · exact h4 t' q' (by omega) g1 g2
      · refine V_iload_n dX0_inOrder_31 rfl ?_
        refine V_if_ne 38 dX0_inOrder_32 (by decide) (by omega) (fun h32 => ?_) (fun h32 => ?_)
        · refine S_iinc (ls' := [_, _, _, _, _]) dX0_inOrder_38 rfl ⟨rfl, rfl⟩ rfl ?_
          refine S_iinc (ls' := [_, _, _, _, _]) dX0_inOrder_41 rfl ⟨rfl, rfl⟩ rfl ?_
          refine V_goto 12 dX0_inOrder_44 (by decide) ?_
          rw [if_pos h28] at ecn
          refine ih (t + 1) _ (by omega) (by omega) (by rw [ecn]; omega) (fun t' q' g0 g1 g2 => ?_)
          by_cases he : t' = t
          · subst he; omega
          · exact h4 t' q' (by omega) g1 g2
        · refine V_iload dX0_inOrder_35 rfl ?_
          refine V_iret dX0_inOrder_37 rfl ⟨Nat.le_of_ble_eq_true rfl, Nat.le_of_ble_eq_true rfl⟩ ?_
          exact hQ _ (Or.inl ⟨k, t, q, hk, hq, rfl, by omega, by omega⟩)
set_option maxRecDepth 100000 in
theorem c_X0_inOrder {l : List B3} {b : Int} (hG : Gr mr) (hB : BlM mi l) (hl : l.length ≤ 784) (hlr : ∀ (t : Nat) (q : B3), l[t]? = some q → 0 ≤ q.1 ∧ q.1 ≤ 28) (hb : 0 ≤ b ∧ b < 2147483648) : C1 yX0_inOrder cX0_inOrder 5 (some .int) 1 SH mi mr [vr 48, vi b] (fun v mi' mr' => mi' = mi ∧ mr' = mr ∧ ∃ w, v = vi w ∧ OrdP l b w) := by
  have loop : ∀ (u k : Nat) (o4 : Option AV), k ≤ 28 → 28 - k < u → (∀ (k' t' : Nat) (q : B3), k' < k → l[t']? = some q → q.1 = 28 - k' → b ≠ ab l k' + cn l (28 - k') t') → V (RX0, cX0_inOrder, 5, rm 1, false, none, (some .int)) (fun r' sh' mi' mr' => sh' = SH ∧ ∃ v, r' = some v ∧ mi' = mi ∧ mr' = mr ∧ ∃ w, v = vi w ∧ OrdP l b w) 0 0 SH mi mr [some (vr 48), some (vi b), some (vi (b - ab l k)), some (vi (28 - k)), o4] [] 5 := by
    intro u
    induction u with
    | zero => intro k o4 h1 h2; omega
    | succ u ih =>
      intro k o4 h1 h2 h3
      have hab := ab_r l hl k
      refine V_iload_n dX0_inOrder_5 rfl ?_
      refine V_if_le 53 dX0_inOrder_6 (by decide) (by omega) (fun h6 => ?_) (fun h6 => ?_)
      · refine V_iconst dX0_inOrder_53 ?_
        refine V_iret dX0_inOrder_54 rfl ⟨Nat.le_of_ble_eq_true rfl, Nat.le_of_ble_eq_true rfl⟩ ?_
        exact ⟨rfl, _, rfl, rfl, rfl, -1, rfl, Or.inr ⟨rfl, fun k' t' q g0 g1 g2 => h3 k' t' q (by omega) g1 g2⟩⟩
      · refine V_iconst dX0_inOrder_9 ?_
        refine S_istore (ls' := [_, _, _, _, _]) dX0_inOrder_10 ⟨Nat.le_of_ble_eq_true rfl, rfl, rfl⟩ rfl ?_
        refine l_X0_inOrder hG hB hl hlr hb k (by omega) (fun w hw => ⟨rfl, _, rfl, rfl, rfl, w, rfl, hw⟩) (fun o4 g => ?_) (l.length + 1) 0 _ (by omega) (by omega) (by simp [cn]) (fun t' q g0 => by omega)
        refine S_iinc (ls' := [_, _, _, _, _]) dX0_inOrder_47 rfl ⟨rfl, rfl⟩ rfl ?_
        refine V_goto 5 dX0_inOrder_50 (by decide) ?_
        have hgo := ih (k + 1) o4 (by omega) (by omega) (fun k' t' q g0 g1 g2 => ?_)
        · rw [show (28 : Int) - ((k + 1 : Nat) : Int) = 28 - k + -1 by omega] at hgo
          exact hgo
        · by_cases he : k' = k
          · subst he; exact g t' q g1 g2
          · exact h3 k' t' q (by omega) g1 g2
  refine Ct.ofV (ini := false) [some (vr 48), some (vi b), none, none, none] km_X0_inOrder (by decide) rfl (Nat.le_of_ble_eq_true rfl) ?_
  refine V_iload_n dX0_inOrder_0 rfl ?_
  refine S_istore_n (ls' := [_, _, _, _, _]) dX0_inOrder_1 ⟨Nat.le_of_ble_eq_true rfl, rfl, rfl⟩ rfl ?_
  refine V_bipush dX0_inOrder_2 (by decide) ?_
  refine S_istore_n (ls' := [_, _, _, _, _]) dX0_inOrder_4 ⟨Nat.le_of_ble_eq_true rfl, rfl, rfl⟩ rfl ?_
  have hgo := loop 29 0 none (by omega) (by omega) (fun k' t' q g0 => by omega)
  simp only [ab, Int.sub_zero] at hgo
  exact hgo
end BLOCKS
