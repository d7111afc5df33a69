/-! ===== DiagonalTextsModel: the least script ===== -/
section MODEL6
variable {mi mi1 mi2 mi3 mi4 : MI} {mr : MR} {n m n' m' tl D : Int} {A B A' B' Z T F : Int → Int} {hs hs' : List St} {u : Int × (Int → Int)} {σ : St}
set_option maxRecDepth 100000 in
theorem c_X11_puts {k x y s : Int} (hG : Gr mr) (h1 : mi 62 13 = s) (hs : 1 ≤ s ∧ s ≤ 56) : C0 yX11_puts cX11_puts 4 none 0 SH mi mr [vr 62, vi k, vi x, vi y] (fun mi' mr' => mr' = mr ∧ mi' = up2 (up2 (up2 (up2 mi 62 13 (s - 1)) 68 (3 * (s - 1)) k) 68 (3 * (s - 1) + 1) x) 68 (3 * (s - 1) + 2) y) := by
  refine Ct.ofV (ini := false) [some (vr 62), some (vi k), some (vi x), some (vi y)] km_X11_puts (by decide) rfl (Nat.le_of_ble_eq_true rfl) ?_
  refine V_aload_n dX11_puts_0 rfl ?_
  refine V_dup dX11_puts_1 rfl ?_
  refine V_geti 13 dX11_puts_2 fl_RX11_95 (by first | with_reducible assumption | rfl) rfl rfl ?_
  rw [h1]
  refine V_iconst dX11_puts_5 ?_
  refine V_isub dX11_puts_6 ?_
  refine V_puti 13 dX11_puts_7 fl_RX11_95 (by first | with_reducible assumption | rfl) rfl rfl rfl ?_
  refine V_aload_n dX11_puts_10 rfl ?_
  refine V_getr 12 _ dX11_puts_11 fl_RX11_26 (by first | with_reducible assumption | rfl) rfl rfl (by first | with_reducible assumption | exact hG.at rfl) ?_
  refine V_iconst dX11_puts_14 ?_
  refine V_aload_n dX11_puts_15 rfl ?_
  refine V_geti 13 dX11_puts_16 fl_RX11_95 (by first | with_reducible assumption | rfl) rfl rfl ?_
  rw [up2_ss]
  refine V_imul dX11_puts_19 ?_
  refine V_iload_n dX11_puts_20 rfl ?_
  refine V_iast dX11_puts_21 (by first | with_reducible assumption | rfl) (by decide) (by omega) ?_
  refine V_aload_n dX11_puts_22 rfl ?_
  refine V_getr 12 _ dX11_puts_23 fl_RX11_26 (by first | with_reducible assumption | rfl) rfl rfl (by first | with_reducible assumption | exact hG.at rfl) ?_
  refine V_iconst dX11_puts_26 ?_
  refine V_aload_n dX11_puts_27 rfl ?_
  refine V_geti 13 dX11_puts_28 fl_RX11_95 (by first | with_reducible assumption | rfl) rfl rfl ?_
  rw [up2_n _ _ _ (by decide), up2_ss]
  refine V_imul dX11_puts_31 ?_
  refine V_iconst dX11_puts_32 ?_
  refine V_iadd dX11_puts_33 ?_
  refine V_iload_n dX11_puts_34 rfl ?_
  refine V_iast dX11_puts_35 (by first | with_reducible assumption | rfl) (by decide) (by omega) ?_
  refine V_aload_n dX11_puts_36 rfl ?_
  refine V_getr 12 _ dX11_puts_37 fl_RX11_26 (by first | with_reducible assumption | rfl) rfl rfl (by first | with_reducible assumption | exact hG.at rfl) ?_
  refine V_iconst dX11_puts_40 ?_
  refine V_aload_n dX11_puts_41 rfl ?_
  refine V_geti 13 dX11_puts_42 fl_RX11_95 (by first | with_reducible assumption | rfl) rfl rfl ?_
  rw [up2_n _ _ _ (by decide), up2_n _ _ _ (by decide), up2_ss]
  refine V_imul dX11_puts_45 ?_
  refine V_iconst dX11_puts_46 ?_
  refine V_iadd dX11_puts_47 ?_
  refine V_iload_n dX11_puts_48 rfl ?_
  refine V_iast dX11_puts_49 (by first | with_reducible assumption | rfl) (by decide) (by omega) ?_
  refine V_vret dX11_puts_50 rfl ⟨Nat.le_of_ble_eq_true rfl, Nat.le_of_ble_eq_true rfl⟩ ?_
  exact ⟨rfl, rfl, rfl, rfl⟩
theorem tr_le (A B : Int → Int) (n m D : Int) : ∀ j : Nat, (tr A B n m D j).1 ≤ D
  | 0 => Int.le_refl _
  | j + 1 => by
    have ih := tr_le A B n m D j
    show (nx A B (tr A B n m D j)).1 ≤ D
    unfold nx
    split
    · exact ih
    · split
      · exact ih
      · split <;> (simp only; omega)
/-- steps that are laid down from behind -/
def FilS (mi : MI) (A B : Int → Int) (n m D j : Int) : Prop := ∀ i, sL n m D - j ≤ i → i < sL n m D → mi 68 (3 * i) = sK A B n m D i ∧ mi 68 (3 * i + 1) = sX A B n m D i ∧ mi 68 (3 * i + 2) = sY A B n m D i
theorem FilS.put {j : Nat} {k x y : Int} (h : FilS mi A B n m D j) (hj : (j : Int) < sL n m D) (hk : k = kd A B (tr A B n m D j)) (hx : x = (tr A B n m D (j + 1)).2.1) (hy : y = (tr A B n m D (j + 1)).2.2) : FilS (up2 (up2 (up2 (up2 mi 62 13 (sL n m D - j - 1)) 68 (3 * (sL n m D - j - 1)) k) 68 (3 * (sL n m D - j - 1) + 1) x) 68 (3 * (sL n m D - j - 1) + 2) y) A B n m D ((j + 1 : Nat) : Int) := by
  intro i h1 h2
  by_cases hi : i = sL n m D - j - 1
  · subst hi
    refine ⟨?_, ?_, ?_⟩
    · rw [up2_sn _ _ _ (by omega), up2_sn _ _ _ (by omega), up2_ss, hk]
      unfold sK
      rw [show (sL n m D - 1 - (sL n m D - (j : Int) - 1)).toNat = j by omega]
    · rw [up2_sn _ _ _ (by omega), up2_ss, hx]
      unfold sX
      rw [show (sL n m D - (sL n m D - (j : Int) - 1)).toNat = j + 1 by omega]
    · rw [up2_ss, hy]
      unfold sY
      rw [show (sL n m D - (sL n m D - (j : Int) - 1)).toNat = j + 1 by omega]
  · have := h i (by omega) h2
    rw [up2_sn _ _ _ (by omega), up2_sn _ _ _ (by omega), up2_sn _ _ _ (by omega), up2_n _ _ _ (by decide)]
    rw [up2_sn _ _ _ (by omega), up2_sn _ _ _ (by omega), up2_sn _ _ _ (by omega), up2_n _ _ _ (by decide)]
    rw [up2_sn _ _ _ (by omega), up2_sn _ _ _ (by omega), up2_sn _ _ _ (by omega), up2_n _ _ _ (by decide)]
    exact this
set_option maxRecDepth 100000 in
set_option maxHeartbeats 1000000 in
theorem l_X11_traces {Q : PQ} (hG : Gr mr) (hA : NR n A) (hB : NR m B) (hD : isD n m A B D) (d k e b fi : Int) (hfi : fi = bI A B d k)
    (kk : ∀ (mi' : MI) (j : Nat), (j : Int) ≤ sL n m D → tr A B n m D j = (d, fi, fi - k) → mi' 62 13 = sL n m D - j → FilS mi' A B n m D j → (∀ q, q ≠ 13 → mi' 62 q = mi 62 q) → (∀ z, z ≠ 62 → z ≠ 68 → mi' z = mi z) → V (RX11, cX11_traces, 8, rm 5, false, none, (some .boolean)) Q 0 0 SH mi' mr [some (vr 62), some (vi d), some (vi (sL n m D)), some (vi k), some (vi fi), some (vi e), some (vi b), some (vi fi)] [] 156) :
    ∀ (t : Nat) (x : Int) (j : Nat) (mi' : MI), x - fi < t → (j : Int) ≤ sL n m D → tr A B n m D j = (d, x, x - k) → mi' 62 13 = sL n m D - j → FilS mi' A B n m D j → (∀ q, q ≠ 13 → mi' 62 q = mi 62 q) → (∀ z, z ≠ 62 → z ≠ 68 → mi' z = mi z) → V (RX11, cX11_traces, 8, rm 5, false, none, (some .boolean)) Q 0 0 SH mi' mr [some (vr 62), some (vi d), some (vi (sL n m D)), some (vi k), some (vi x), some (vi e), some (vi b), some (vi fi)] [] 132 := by
  have hLr := sL_r hA hB hD
  have hn := hA.1
  have hm := hB.1
  intro t
  induction t with
  | zero =>
    intro x j mi' a1 a2 a3 a4 a5 a6 a7
    obtain ⟨g1, g2⟩ := tr_TI hA hB hD j a2
    rw [a3] at g1
    have := g1.2.2.1
    simp only at this
    rw [show x - (x - k) = k by omega] at this
    omega
  | succ t ih =>
    intro x j mi' a1 a2 a3 a4 a5 a6 a7
    obtain ⟨g1, g2⟩ := tr_TI hA hB hD j a2
    rw [a3] at g1 g2
    obtain ⟨l1, l2, l3, l4⟩ := g1
    simp only at l1 l2 l3 l4 g2
    rw [show x - (x - k) = k by omega] at l1 l3 l4
    have hb := bI_rr hA hB d k (by omega)
    refine V_iload dX11_traces_132 rfl ?_
    refine V_iload dX11_traces_134 rfl ?_
    refine V_icmp_le 156 dX11_traces_136 (by decide) (by omega) (by omega) (fun h136 => ?_) (fun h136 => ?_)
    · have hx : x = fi := by omega
      subst hx
      exact kk mi' j a2 a3 a4 a5 a6 a7
    · have e1 : kd A B (d, x, x - k) = 0 := by simp only [kd]; rw [show x - (x - k) = k by omega, if_pos (by omega)]
      have e2 : nx A B (d, x, x - k) = (d, x - 1, x - k - 1) := by simp only [nx]; rw [show x - (x - k) = k by omega, if_pos (by omega)]
      have e3 : tr A B n m D (j + 1) = (d, x - 1, x - k - 1) := by show nx A B (tr A B n m D j) = _; rw [a3, e2]
      have hj : (j : Int) < sL n m D := by omega
      refine S_iinc (ls' := [_, _, _, _, _, _, _, _]) dX11_traces_139 rfl ⟨rfl, rfl⟩ rfl ?_
      refine V_aload_n dX11_traces_142 rfl ?_
      refine V_iconst dX11_traces_143 ?_
      refine V_iload dX11_traces_144 rfl ?_
      refine V_iload dX11_traces_146 rfl ?_
      refine V_iload_n dX11_traces_148 rfl ?_
      refine V_isub dX11_traces_149 ?_
      refine V_callV0 dX11_traces_150 ml_RX11_98 km_X11_puts kv_X11_puts (c_X11_puts (s := sL n m D - j) hG a4 (by omega)) (by first | with_reducible assumption | rfl) rfl rfl rfl (Nat.le_of_ble_eq_true rfl) ⟨Nat.le_of_ble_eq_true rfl, Nat.le_of_ble_eq_true rfl⟩ ⟨Nat.le_of_ble_eq_true rfl, Nat.le_of_ble_eq_true rfl⟩ ?_
      rintro mi2 mr2 ⟨rfl, rfl⟩
      refine V_goto 132 dX11_traces_153 (by decide) ?_
      refine ih (x + -1) (j + 1) _ (by omega) (by omega) ?_ ?_ (a5.put hj (by rw [a3, e1]) (by rw [e3]; rfl) (by rw [e3]; simp only; omega)) (fun q hq => ?_) (fun z z1 z2 => ?_)
      · rw [e3, show x + -1 = x - 1 by omega, show x - 1 - k = x - k - 1 by omega]
      · rw [up2_n _ _ _ (by decide), up2_n _ _ _ (by decide), up2_n _ _ _ (by decide), up2_ss]; omega
      · rw [up2_n _ _ _ (by decide), up2_n _ _ _ (by decide), up2_n _ _ _ (by decide), up2_sn _ _ _ hq]; exact a6 q hq
      · rw [up2_n _ _ _ z2, up2_n _ _ _ z2, up2_n _ _ _ z2, up2_n _ _ _ z1]; exact a7 z z1 z2
set_option maxRecDepth 100000 in
set_option maxHeartbeats 1000000 in
theorem m_X11_traces {Q : PQ} (hG : Gr mr) (hA : NR n A) (hB : NR m B) (hD : isD n m A B D) (hR : RchM mi A B (D + 1) (-(D + 1)))
    (kk : ∀ (mi' : MI) (d k x : Int) (o5 o6 o7 : Option AV), mi' 62 13 = 0 → FilS mi' A B n m D (sL n m D) → (∀ q, q ≠ 13 → mi' 62 q = mi 62 q) → (∀ z, z ≠ 62 → z ≠ 68 → mi' z = mi z) → V (RX11, cX11_traces, 8, rm 5, false, none, (some .boolean)) Q 0 0 SH mi' mr [some (vr 62), some (vi d), some (vi (sL n m D)), some (vi k), some (vi x), o5, o6, o7] [] 203) :
    ∀ (t : Nat) (d k x : Int) (j : Nat) (mi' : MI) (o5 o6 o7 : Option AV), 0 ≤ d → d < t → (j : Int) ≤ sL n m D → tr A B n m D j = (d, x, x - k) → mi' 62 13 = sL n m D - j → FilS mi' A B n m D j → (∀ q, q ≠ 13 → mi' 62 q = mi 62 q) → (∀ z, z ≠ 62 → z ≠ 68 → mi' z = mi z) → V (RX11, cX11_traces, 8, rm 5, false, none, (some .boolean)) Q 0 0 SH mi' mr [some (vr 62), some (vi d), some (vi (sL n m D)), some (vi k), some (vi x), o5, o6, o7] [] 50 := by
  have hLr := sL_r hA hB hD
  have hDr := isD_nn hD
  have hn := hA.1
  have hm := hB.1
  intro t
  induction t with
  | zero => intro d k x j mi' o5 o6 o7 a1 a2; omega
  | succ t ih =>
    intro d k x j mi' o5 o6 o7 a1 a2 a3 a4 a5 a6 a7 a8
    obtain ⟨g1, g2⟩ := tr_TI hA hB hD j a3
    rw [a4] at g1 g2
    obtain ⟨l1, l2, l3, l4⟩ := g1
    simp only at l1 l2 l3 l4 g2
    rw [show x - (x - k) = k by omega] at l1 l3 l4
    have hb := bI_rr hA hB d k (by omega)
    have hdD : d ≤ D := by have := tr_le A B n m D j; rw [a4] at this; exact this
    have hRd : RchM mi' A B d k := fun d' k' hl h' => by rw [a8 67 (by decide) (by decide)]; exact hR d' k' hl (by omega)
    have hRp : ∀ d' k', lat d' k' → d' < d → mi' 67 (113 * d' + k' + 56) = fI A B d' k' := fun d' k' hl h' => by rw [a8 67 (by decide) (by decide)]; exact hR d' k' hl (by omega)
    by_cases h0 : d = 0
    · subst h0
      have eb : bI A B 0 k = 0 := by unfold bI; rw [if_pos (by omega)]
      have ek : k = 0 := by omega
      subst ek
      refine V_iload_n dX11_traces_50 rfl ?_
      refine V_if_lt 203 dX11_traces_51 (by decide) (by omega) (fun h51 => absurd h51 ((by decide))) (fun _ => ?_)
      refine V_iload_n dX11_traces_54 rfl ?_
      refine V_if_le 71 dX11_traces_55 (by decide) (by omega) (fun _ => ?_) (fun h55 => absurd h55 ((by decide)))
      refine V_iconst dX11_traces_71 ?_
      refine S_istore (ls' := [_, _, _, _, _, _, _, _]) dX11_traces_72 ⟨Nat.le_of_ble_eq_true rfl, rfl, rfl⟩ rfl ?_
      refine V_iload_n dX11_traces_74 rfl ?_
      refine V_if_ne 82 dX11_traces_75 (by decide) (by omega) (fun h75 => absurd h75 ((by decide))) (fun _ => ?_)
      refine V_iconst dX11_traces_78 ?_
      refine V_goto 110 dX11_traces_79 (by decide) ?_
      refine S_istore (ls' := [_, _, _, _, _, _, _, _]) dX11_traces_110 ⟨Nat.le_of_ble_eq_true rfl, rfl, rfl⟩ rfl ?_
      refine V_iload_n dX11_traces_112 rfl ?_
      refine V_if_le 128 dX11_traces_113 (by decide) (by omega) (fun _ => ?_) (fun h113 => absurd h113 ((by decide)))
      refine V_iload dX11_traces_128 rfl ?_
      refine S_istore (ls' := [_, _, _, _, _, _, _, _]) dX11_traces_130 ⟨Nat.le_of_ble_eq_true rfl, rfl, rfl⟩ rfl ?_
      refine l_X11_traces (mi := mi) hG hA hB hD 0 0 0 0 0 eb.symm (fun mi2 j2 b1 b2 b3 b4 b5 b6 => ?_) (x.toNat + 1) x j mi' (by omega) a3 a4 a5 a6 a7 a8
      have hj2 : (j2 : Int) = sL n m D := by have := (tr_TI hA hB hD j2 b1).2; rw [b2] at this; simp only at this; omega
      refine V_iload_n dX11_traces_156 rfl ?_
      refine V_if_le 197 dX11_traces_157 (by decide) (by omega) (fun _ => ?_) (fun h157 => absurd h157 ((by decide)))
      refine S_iinc (ls' := [_, _, _, _, _, _, _, _]) dX11_traces_197 rfl ⟨rfl, rfl⟩ rfl ?_
      refine V_goto 50 dX11_traces_200 (by decide) ?_
      have b4' : FilS mi2 A B n m D (sL n m D) := by rw [← hj2]; exact b4
      refine V_iload_n dX11_traces_50 rfl ?_
      refine V_if_lt 203 dX11_traces_51 (by decide) (by omega) (fun _ => ?_) (fun hc => absurd hc (by decide))
      exact kk mi2 _ _ _ _ _ _ (by omega) b4' b5 b6
    · by_cases hp : putIn A B d k
      · have eb := bI_in (by omega) hp
        have hl2 := lat_in l1 (by omega) hp
        have e1 : (if k = -d ∨ (k ≠ d ∧ fI A B (d - 1) (k - 1) < fI A B (d - 1) (k + 1)) then (1 : Int) else 0) = 1 := if_pos hp
        have hfr := fI_rr hA hB (d - 1) (k + 1) (by omega)
        have hyy := fI_yy (A := A) (B := B) hl2
        refine V_iload_n dX11_traces_50 rfl ?_
        refine V_if_lt 203 dX11_traces_51 (by decide) (by omega) (fun h51 => absurd h51 ((by omega))) (fun _ => ?_)
        refine V_iload_n dX11_traces_54 rfl ?_
        refine V_if_le 71 dX11_traces_55 (by decide) (by omega) (fun h55 => absurd h55 ((by omega))) (fun _ => ?_)
        refine V_aload_n dX11_traces_58 rfl ?_
        refine V_iload_n dX11_traces_59 rfl ?_
        refine V_iload_n dX11_traces_60 rfl ?_
        refine V_callVP dX11_traces_61 ml_RX11_81 km_X11_putsIn kv_X11_putsIn (c_X11_putsIn hG hA hB hRd l1 (by omega)) (by first | with_reducible assumption | rfl) rfl rfl rfl (Nat.le_of_ble_eq_true rfl) ⟨Nat.le_of_ble_eq_true rfl, Nat.le_of_ble_eq_true rfl⟩ ⟨Nat.le_of_ble_eq_true rfl, Nat.le_of_ble_eq_true rfl⟩ ?_
        rw [e1]
        refine V_if_eq 71 dX11_traces_64 (by decide) (by omega) (fun h64 => absurd h64 ((by decide))) (fun _ => ?_)
        refine V_iconst dX11_traces_67 ?_
        refine V_goto 72 dX11_traces_68 (by decide) ?_
        refine S_istore (ls' := [_, _, _, _, _, _, _, _]) dX11_traces_72 ⟨Nat.le_of_ble_eq_true rfl, rfl, rfl⟩ rfl ?_
        refine V_iload_n dX11_traces_74 rfl ?_
        refine V_if_ne 82 dX11_traces_75 (by decide) (by omega) (fun _ => ?_) (fun h75 => absurd h75 (h0))
        refine V_iload dX11_traces_82 rfl ?_
        refine V_if_eq 100 dX11_traces_84 (by decide) (by omega) (fun h84 => absurd h84 ((by decide))) (fun _ => ?_)
        refine V_aload_n dX11_traces_87 rfl ?_
        refine V_iload_n dX11_traces_88 rfl ?_
        refine V_iconst dX11_traces_89 ?_
        refine V_isub dX11_traces_90 ?_
        refine V_iload_n dX11_traces_91 rfl ?_
        refine V_iconst dX11_traces_92 ?_
        refine V_iadd dX11_traces_93 ?_
        refine V_callVP dX11_traces_94 ml_RX11_78 km_X11_reached kv_X11_reached (c_X11_reached (d := d - 1) (k := k + 1) hG (by omega) (by omega)) (by first | with_reducible assumption | rfl) rfl rfl rfl (Nat.le_of_ble_eq_true rfl) ⟨Nat.le_of_ble_eq_true rfl, Nat.le_of_ble_eq_true rfl⟩ ⟨Nat.le_of_ble_eq_true rfl, Nat.le_of_ble_eq_true rfl⟩ ?_
        rw [hRp _ _ hl2 (by omega)]
        refine V_goto 110 dX11_traces_97 (by decide) ?_
        refine S_istore (ls' := [_, _, _, _, _, _, _, _]) dX11_traces_110 ⟨Nat.le_of_ble_eq_true rfl, rfl, rfl⟩ rfl ?_
        refine V_iload_n dX11_traces_112 rfl ?_
        refine V_if_le 128 dX11_traces_113 (by decide) (by omega) (fun h113 => absurd h113 ((by omega))) (fun _ => ?_)
        refine V_iload dX11_traces_116 rfl ?_
        refine V_if_ne 128 dX11_traces_118 (by decide) (by omega) (fun _ => ?_) (fun h118 => absurd h118 ((by decide)))
        refine V_iload dX11_traces_128 rfl ?_
        refine S_istore (ls' := [_, _, _, _, _, _, _, _]) dX11_traces_130 ⟨Nat.le_of_ble_eq_true rfl, rfl, rfl⟩ rfl ?_
        refine l_X11_traces (mi := mi) hG hA hB hD d k 1 (fI A B (d - 1) (k + 1)) (fI A B (d - 1) (k + 1)) eb.symm (fun mi2 j2 b1 b2 b3 b4 b5 b6 => ?_) ((x - fI A B (d - 1) (k + 1)).toNat + 1) x j mi' (by omega) a3 a4 a5 a6 a7 a8
        have hs2 := (tr_TI hA hB hD j2 b1)
        rw [b2] at hs2
        obtain ⟨⟨-, p1, -, -⟩, p2⟩ := hs2
        simp only at p1 p2
        have hj2 : (j2 : Int) < sL n m D := by omega
        have e2 : kd A B (d, fI A B (d - 1) (k + 1), fI A B (d - 1) (k + 1) - k) = 2 := by simp only [kd]; rw [show fI A B (d - 1) (k + 1) - (fI A B (d - 1) (k + 1) - k) = k by omega, if_neg (by omega), if_pos hp]
        have e3 : nx A B (d, fI A B (d - 1) (k + 1), fI A B (d - 1) (k + 1) - k) = (d - 1, fI A B (d - 1) (k + 1), fI A B (d - 1) (k + 1) - k - 1) := by simp only [nx]; rw [show fI A B (d - 1) (k + 1) - (fI A B (d - 1) (k + 1) - k) = k by omega, if_neg (by omega), if_neg (by omega), if_pos hp]
        have e4 : tr A B n m D (j2 + 1) = (d - 1, fI A B (d - 1) (k + 1), fI A B (d - 1) (k + 1) - k - 1) := by show nx A B (tr A B n m D j2) = _; rw [b2, e3]
        refine V_iload_n dX11_traces_156 rfl ?_
        refine V_if_le 197 dX11_traces_157 (by decide) (by omega) (fun h157 => absurd h157 ((by omega))) (fun _ => ?_)
        refine V_iload_n dX11_traces_160 rfl ?_
        refine V_iload dX11_traces_161 rfl ?_
        refine V_if_eq 170 dX11_traces_163 (by decide) (by omega) (fun h163 => absurd h163 ((by decide))) (fun _ => ?_)
        refine V_iconst dX11_traces_166 ?_
        refine V_goto 171 dX11_traces_167 (by decide) ?_
        refine V_iadd dX11_traces_171 ?_
        refine S_istore_n (ls' := [_, _, _, _, _, _, _, _]) dX11_traces_172 ⟨Nat.le_of_ble_eq_true rfl, rfl, rfl⟩ rfl ?_
        refine V_iload dX11_traces_173 rfl ?_
        refine S_istore (ls' := [_, _, _, _, _, _, _, _]) dX11_traces_175 ⟨Nat.le_of_ble_eq_true rfl, rfl, rfl⟩ rfl ?_
        refine V_aload_n dX11_traces_177 rfl ?_
        refine V_iload dX11_traces_178 rfl ?_
        refine V_if_eq 187 dX11_traces_180 (by decide) (by omega) (fun h180 => absurd h180 ((by decide))) (fun _ => ?_)
        refine V_iconst dX11_traces_183 ?_
        refine V_goto 188 dX11_traces_184 (by decide) ?_
        refine V_iload dX11_traces_188 rfl ?_
        refine V_iload dX11_traces_190 rfl ?_
        refine V_iload_n dX11_traces_192 rfl ?_
        refine V_isub dX11_traces_193 ?_
        refine V_callV0 dX11_traces_194 ml_RX11_98 km_X11_puts kv_X11_puts (c_X11_puts (s := sL n m D - j2) hG b3 (by omega)) (by first | with_reducible assumption | rfl) rfl rfl rfl (Nat.le_of_ble_eq_true rfl) ⟨Nat.le_of_ble_eq_true rfl, Nat.le_of_ble_eq_true rfl⟩ ⟨Nat.le_of_ble_eq_true rfl, Nat.le_of_ble_eq_true rfl⟩ ?_
        rintro mi3 mr3 ⟨rfl, rfl⟩
        refine S_iinc (ls' := [_, _, _, _, _, _, _, _]) dX11_traces_197 rfl ⟨rfl, rfl⟩ rfl ?_
        refine V_goto 50 dX11_traces_200 (by decide) ?_
        refine ih (d + -1) (k + 1) (fI A B (d - 1) (k + 1)) (j2 + 1) _ _ _ _ (by omega) (by omega) (by omega) ?_ ?_ (b4.put hj2 (by rw [b2, e2]) (by rw [e4]) (by rw [e4]; simp only; omega)) (fun q hq => ?_) (fun z z1 z2 => ?_)
        · rw [e4, show d + -1 = d - 1 by omega, show fI A B (d - 1) (k + 1) - (k + 1) = fI A B (d - 1) (k + 1) - k - 1 by omega]
        · rw [up2_n _ _ _ (by decide), up2_n _ _ _ (by decide), up2_n _ _ _ (by decide), up2_ss]; omega
        · rw [up2_n _ _ _ (by decide), up2_n _ _ _ (by decide), up2_n _ _ _ (by decide), up2_sn _ _ _ hq]; exact b5 q hq
        · rw [up2_n _ _ _ z2, up2_n _ _ _ z2, up2_n _ _ _ z2, up2_n _ _ _ z1]; exact b6 z z1 z2
      · have eb := bI_out (by omega) hp
        have hl2 := lat_out l1 (by omega) hp
        have e1 : (if k = -d ∨ (k ≠ d ∧ fI A B (d - 1) (k - 1) < fI A B (d - 1) (k + 1)) then (1 : Int) else 0) = 0 := if_neg hp
        have hfr := fI_rr hA hB (d - 1) (k - 1) (by omega)
        have hyy := fI_yy (A := A) (B := B) hl2
        refine V_iload_n dX11_traces_50 rfl ?_
        refine V_if_lt 203 dX11_traces_51 (by decide) (by omega) (fun h51 => absurd h51 ((by omega))) (fun _ => ?_)
        refine V_iload_n dX11_traces_54 rfl ?_
        refine V_if_le 71 dX11_traces_55 (by decide) (by omega) (fun h55 => absurd h55 ((by omega))) (fun _ => ?_)
        refine V_aload_n dX11_traces_58 rfl ?_
        refine V_iload_n dX11_traces_59 rfl ?_
        refine V_iload_n dX11_traces_60 rfl ?_
        refine V_callVP dX11_traces_61 ml_RX11_81 km_X11_putsIn kv_X11_putsIn (c_X11_putsIn hG hA hB hRd l1 (by omega)) (by first | with_reducible assumption | rfl) rfl rfl rfl (Nat.le_of_ble_eq_true rfl) ⟨Nat.le_of_ble_eq_true rfl, Nat.le_of_ble_eq_true rfl⟩ ⟨Nat.le_of_ble_eq_true rfl, Nat.le_of_ble_eq_true rfl⟩ ?_
        rw [e1]
        refine V_if_eq 71 dX11_traces_64 (by decide) (by omega) (fun _ => ?_) (fun h64 => absurd h64 ((by decide)))
        refine V_iconst dX11_traces_71 ?_
        refine S_istore (ls' := [_, _, _, _, _, _, _, _]) dX11_traces_72 ⟨Nat.le_of_ble_eq_true rfl, rfl, rfl⟩ rfl ?_
        refine V_iload_n dX11_traces_74 rfl ?_
        refine V_if_ne 82 dX11_traces_75 (by decide) (by omega) (fun _ => ?_) (fun h75 => absurd h75 (h0))
        refine V_iload dX11_traces_82 rfl ?_
        refine V_if_eq 100 dX11_traces_84 (by decide) (by omega) (fun _ => ?_) (fun h84 => absurd h84 ((by decide)))
        refine V_aload_n dX11_traces_100 rfl ?_
        refine V_iload_n dX11_traces_101 rfl ?_
        refine V_iconst dX11_traces_102 ?_
        refine V_isub dX11_traces_103 ?_
        refine V_iload_n dX11_traces_104 rfl ?_
        refine V_iconst dX11_traces_105 ?_
        refine V_isub dX11_traces_106 ?_
        refine V_callVP dX11_traces_107 ml_RX11_78 km_X11_reached kv_X11_reached (c_X11_reached (d := d - 1) (k := k - 1) hG (by omega) (by omega)) (by first | with_reducible assumption | rfl) rfl rfl rfl (Nat.le_of_ble_eq_true rfl) ⟨Nat.le_of_ble_eq_true rfl, Nat.le_of_ble_eq_true rfl⟩ ⟨Nat.le_of_ble_eq_true rfl, Nat.le_of_ble_eq_true rfl⟩ ?_
        rw [hRp _ _ hl2 (by omega)]
        refine S_istore (ls' := [_, _, _, _, _, _, _, _]) dX11_traces_110 ⟨Nat.le_of_ble_eq_true rfl, rfl, rfl⟩ rfl ?_
        refine V_iload_n dX11_traces_112 rfl ?_
        refine V_if_le 128 dX11_traces_113 (by decide) (by omega) (fun h113 => absurd h113 ((by omega))) (fun _ => ?_)
        refine V_iload dX11_traces_116 rfl ?_
        refine V_if_ne 128 dX11_traces_118 (by decide) (by omega) (fun h118 => absurd h118 ((by decide))) (fun _ => ?_)
        refine V_iload dX11_traces_121 rfl ?_
        refine V_iconst dX11_traces_123 ?_
        refine V_iadd dX11_traces_124 ?_
        refine V_goto 130 dX11_traces_125 (by decide) ?_
        refine S_istore (ls' := [_, _, _, _, _, _, _, _]) dX11_traces_130 ⟨Nat.le_of_ble_eq_true rfl, rfl, rfl⟩ rfl ?_
        refine l_X11_traces (mi := mi) hG hA hB hD d k 0 (fI A B (d - 1) (k - 1)) (fI A B (d - 1) (k - 1) + 1) eb.symm (fun mi2 j2 b1 b2 b3 b4 b5 b6 => ?_) ((x - fI A B (d - 1) (k - 1)).toNat + 1) x j mi' (by omega) a3 a4 a5 a6 a7 a8
        have hs2 := (tr_TI hA hB hD j2 b1)
        rw [b2] at hs2
        obtain ⟨⟨-, p1, -, -⟩, p2⟩ := hs2
        simp only at p1 p2
        have hj2 : (j2 : Int) < sL n m D := by omega
        have e2 : kd A B (d, fI A B (d - 1) (k - 1) + 1, fI A B (d - 1) (k - 1) + 1 - k) = 1 := by simp only [kd]; rw [show fI A B (d - 1) (k - 1) + 1 - (fI A B (d - 1) (k - 1) + 1 - k) = k by omega, if_neg (by omega), if_neg hp]
        have e3 : nx A B (d, fI A B (d - 1) (k - 1) + 1, fI A B (d - 1) (k - 1) + 1 - k) = (d - 1, fI A B (d - 1) (k - 1), fI A B (d - 1) (k - 1) + 1 - k) := by simp only [nx]; rw [show fI A B (d - 1) (k - 1) + 1 - (fI A B (d - 1) (k - 1) + 1 - k) = k by omega, if_neg (by omega), if_neg (by omega), if_neg hp, show fI A B (d - 1) (k - 1) + 1 - 1 = fI A B (d - 1) (k - 1) by omega]
        have e4 : tr A B n m D (j2 + 1) = (d - 1, fI A B (d - 1) (k - 1), fI A B (d - 1) (k - 1) + 1 - k) := by show nx A B (tr A B n m D j2) = _; rw [b2, e3]
        refine V_iload_n dX11_traces_156 rfl ?_
        refine V_if_le 197 dX11_traces_157 (by decide) (by omega) (fun h157 => absurd h157 ((by omega))) (fun _ => ?_)
        refine V_iload_n dX11_traces_160 rfl ?_
        refine V_iload dX11_traces_161 rfl ?_
        refine V_if_eq 170 dX11_traces_163 (by decide) (by omega) (fun _ => ?_) (fun h163 => absurd h163 ((by decide)))
        refine V_iconst dX11_traces_170 ?_
        refine V_iadd dX11_traces_171 ?_
        refine S_istore_n (ls' := [_, _, _, _, _, _, _, _]) dX11_traces_172 ⟨Nat.le_of_ble_eq_true rfl, rfl, rfl⟩ rfl ?_
        refine V_iload dX11_traces_173 rfl ?_
        refine S_istore (ls' := [_, _, _, _, _, _, _, _]) dX11_traces_175 ⟨Nat.le_of_ble_eq_true rfl, rfl, rfl⟩ rfl ?_
        refine V_aload_n dX11_traces_177 rfl ?_
        refine V_iload dX11_traces_178 rfl ?_
        refine V_if_eq 187 dX11_traces_180 (by decide) (by omega) (fun _ => ?_) (fun h180 => absurd h180 ((by decide)))
        refine V_iconst dX11_traces_187 ?_
        refine V_iload dX11_traces_188 rfl ?_
        refine V_iload dX11_traces_190 rfl ?_
        refine V_iload_n dX11_traces_192 rfl ?_
        refine V_isub dX11_traces_193 ?_
        refine V_callV0 dX11_traces_194 ml_RX11_98 km_X11_puts kv_X11_puts (c_X11_puts (s := sL n m D - j2) hG b3 (by omega)) (by first | with_reducible assumption | rfl) rfl rfl rfl (Nat.le_of_ble_eq_true rfl) ⟨Nat.le_of_ble_eq_true rfl, Nat.le_of_ble_eq_true rfl⟩ ⟨Nat.le_of_ble_eq_true rfl, Nat.le_of_ble_eq_true rfl⟩ ?_
        rintro mi3 mr3 ⟨rfl, rfl⟩
        refine S_iinc (ls' := [_, _, _, _, _, _, _, _]) dX11_traces_197 rfl ⟨rfl, rfl⟩ rfl ?_
        refine V_goto 50 dX11_traces_200 (by decide) ?_
        refine ih (d + -1) (k + -1) (fI A B (d - 1) (k - 1)) (j2 + 1) _ _ _ _ (by omega) (by omega) (by omega) ?_ ?_ (b4.put hj2 (by rw [b2, e2]) (by rw [e4]) (by rw [e4]; simp only; omega)) (fun q hq => ?_) (fun z z1 z2 => ?_)
        · rw [e4, show d + -1 = d - 1 by omega, show fI A B (d - 1) (k - 1) - (k + -1) = fI A B (d - 1) (k - 1) + 1 - k by omega]
        · rw [up2_n _ _ _ (by decide), up2_n _ _ _ (by decide), up2_n _ _ _ (by decide), up2_ss]; omega
        · rw [up2_n _ _ _ (by decide), up2_n _ _ _ (by decide), up2_n _ _ _ (by decide), up2_sn _ _ _ hq]; exact b5 q hq
        · rw [up2_n _ _ _ z2, up2_n _ _ _ z2, up2_n _ _ _ z2, up2_n _ _ _ z1]; exact b6 z z1 z2
/-- the steps of the least script, in the Model -/
def StM (mi : MI) (L : Int) (K X Y : Int → Int) : Prop := mi 62 13 = L ∧ ∀ i, 0 ≤ i → i < L → mi 68 (3 * i) = K i ∧ mi 68 (3 * i + 1) = X i ∧ mi 68 (3 * i + 2) = Y i
set_option maxRecDepth 100000 in
set_option maxHeartbeats 1000000 in
theorem c_X11_traces (hG : Gr mr) (hD : isD n m A B D) (h : RepM mi ((n, m, A, B, Z), hs, tl, T)) : C1 yX11_traces cX11_traces 8 (some .boolean) 5 SH mi mr [vr 62] (fun v mi' mr' => v = vi (if Z 0 < D then 0 else 1) ∧ mr' = mr ∧ StM mi' (sL n m D) (sK A B n m D) (sX A B n m D) (sY A B n m D) ∧ mi' 62 11 = D ∧ (∀ q, q ≠ 11 → q ≠ 13 → mi' 62 q = mi 62 q) ∧ ∀ z, z ≠ 62 → z ≠ 67 → z ≠ 68 → mi' z = mi z) := by
  have hR := h.1
  have hS := h.2.1
  have hA : NR n A := hS.1
  have hB : NR m B := hS.2.1
  have hz := hS.2.2.1
  simp only at hR hz
  have hn := hA.1
  have hm := hB.1
  have hDr := isD_nn hD
  have hLr := sL_r hA hB hD
  have hsL : (n + m + D) / 2 = sL n m D := rfl
  refine Ct.ofV (ini := false) [some (vr 62), none, none, none, none, none, none, none] km_X11_traces (by decide) rfl (Nat.le_of_ble_eq_true rfl) ?_
  refine V_aload_n dX11_traces_0 rfl ?_
  refine V_callV1 dX11_traces_1 ml_RX11_91 km_X11_finds kv_X11_finds (c_X11_finds hG hR hA hB hD) (by first | with_reducible assumption | rfl) rfl rfl rfl (Nat.le_of_ble_eq_true rfl) ⟨Nat.le_of_ble_eq_true rfl, Nat.le_of_ble_eq_true rfl⟩ ⟨Nat.le_of_ble_eq_true rfl, Nat.le_of_ble_eq_true rfl⟩ ?_
  rintro v mi2 mr2 ⟨rfl, rfl, k1, k2, k3, k4⟩
  have e63 : mi2 63 = mi 63 := k4 63 (by decide) (by decide)
  have q0 : mi2 63 0 = n := by rw [e63]; exact hR.1.1
  have q1 : mi2 63 1 = m := by rw [e63]; exact hR.1.2
  refine S_istore_n (ls' := [_, _, _, _, _, _, _, _]) dX11_traces_4 ⟨Nat.le_of_ble_eq_true rfl, rfl, rfl⟩ rfl ?_
  refine V_aload_n dX11_traces_5 rfl ?_
  refine V_getr 0 _ dX11_traces_6 fl_RX11_7 (by first | with_reducible assumption | rfl) rfl rfl (by first | with_reducible assumption | exact hG.at rfl) ?_
  refine V_iconst dX11_traces_9 ?_
  refine V_iald dX11_traces_10 (by first | with_reducible assumption | rfl) (by decide) (by omega) ?_
  rw [q0]
  refine V_aload_n dX11_traces_11 rfl ?_
  refine V_getr 0 _ dX11_traces_12 fl_RX11_7 (by first | with_reducible assumption | rfl) rfl rfl (by first | with_reducible assumption | exact hG.at rfl) ?_
  refine V_iconst dX11_traces_15 ?_
  refine V_iald dX11_traces_16 (by first | with_reducible assumption | rfl) (by decide) (by omega) ?_
  rw [q1]
  refine V_iadd dX11_traces_17 ?_
  refine V_iload_n dX11_traces_18 rfl ?_
  refine V_iadd dX11_traces_19 ?_
  refine V_iconst dX11_traces_20 ?_
  refine V_idiv dX11_traces_21 (by omega) (by omega) ?_
  rw [hsL]
  refine S_istore_n (ls' := [_, _, _, _, _, _, _, _]) dX11_traces_22 ⟨Nat.le_of_ble_eq_true rfl, rfl, rfl⟩ rfl ?_
  refine V_aload_n dX11_traces_23 rfl ?_
  refine V_getr 0 _ dX11_traces_24 fl_RX11_7 (by first | with_reducible assumption | rfl) rfl rfl (by first | with_reducible assumption | exact hG.at rfl) ?_
  refine V_iconst dX11_traces_27 ?_
  refine V_iald dX11_traces_28 (by first | with_reducible assumption | rfl) (by decide) (by omega) ?_
  rw [q0]
  refine V_aload_n dX11_traces_29 rfl ?_
  refine V_getr 0 _ dX11_traces_30 fl_RX11_7 (by first | with_reducible assumption | rfl) rfl rfl (by first | with_reducible assumption | exact hG.at rfl) ?_
  refine V_iconst dX11_traces_33 ?_
  refine V_iald dX11_traces_34 (by first | with_reducible assumption | rfl) (by decide) (by omega) ?_
  rw [q1]
  refine V_isub dX11_traces_35 ?_
  refine S_istore_n (ls' := [_, _, _, _, _, _, _, _]) dX11_traces_36 ⟨Nat.le_of_ble_eq_true rfl, rfl, rfl⟩ rfl ?_
  refine V_aload_n dX11_traces_37 rfl ?_
  refine V_getr 0 _ dX11_traces_38 fl_RX11_7 (by first | with_reducible assumption | rfl) rfl rfl (by first | with_reducible assumption | exact hG.at rfl) ?_
  refine V_iconst dX11_traces_41 ?_
  refine V_iald dX11_traces_42 (by first | with_reducible assumption | rfl) (by decide) (by omega) ?_
  rw [q0]
  refine S_istore (ls' := [_, _, _, _, _, _, _, _]) dX11_traces_43 ⟨Nat.le_of_ble_eq_true rfl, rfl, rfl⟩ rfl ?_
  refine V_aload_n dX11_traces_45 rfl ?_
  refine V_iload_n dX11_traces_46 rfl ?_
  refine V_puti 13 dX11_traces_47 fl_RX11_95 (by first | with_reducible assumption | rfl) rfl rfl rfl ?_
  refine m_X11_traces (mi := mi2) hG hA hB hD k2 (fun mi3 d k x o5 o6 o7 b1 b2 b3 b4 => ?_) (D.toNat + 1) D (n - m) n 0 _ _ _ _ hDr.1 (by omega) (by omega) (by rw [show n - (n - m) = m by omega]; rfl) (by rw [up2_ss]; omega) (fun i i1 i2 => by omega) (fun q hq => by rw [up2_sn _ _ _ hq]) (fun z z1 z2 => by rw [up2_n _ _ _ z1])
  have ez : mi3 63 2 = Z 0 := by rw [b4 63 (by decide) (by decide), e63]; exact hR.2.1 0 (by decide) (by decide)
  have e11 : mi3 62 11 = D := by rw [b3 11 (by decide)]; exact k1
  have hfin : StM (up2 mi3 62 13 (sL n m D)) (sL n m D) (sK A B n m D) (sX A B n m D) (sY A B n m D) ∧ up2 mi3 62 13 (sL n m D) 62 11 = D ∧ (∀ q, q ≠ 11 → q ≠ 13 → up2 mi3 62 13 (sL n m D) 62 q = mi 62 q) ∧ ∀ z, z ≠ 62 → z ≠ 67 → z ≠ 68 → up2 mi3 62 13 (sL n m D) z = mi z := ⟨⟨up2_ss _ _ _ _, fun i i1 i2 => by rw [up2_n _ _ _ (by decide)]; exact b2 i (by omega) i2⟩, by rw [up2_sn _ _ _ (by decide)]; exact e11, fun q q1 q2 => by rw [up2_sn _ _ _ q2, b3 q q2]; exact k3 q q1, fun z z1 z2 z3 => by rw [up2_n _ _ _ z1, b4 z z1 z3]; exact k4 z z1 z2⟩
  refine V_aload_n dX11_traces_203 rfl ?_
  refine V_iload_n dX11_traces_204 rfl ?_
  refine V_puti 13 dX11_traces_205 fl_RX11_95 (by first | with_reducible assumption | rfl) rfl rfl rfl ?_
  refine V_aload_n dX11_traces_208 rfl ?_
  refine V_geti 11 dX11_traces_209 fl_RX11_84 (by first | with_reducible assumption | rfl) rfl rfl ?_
  rw [hfin.2.1]
  refine V_aload_n dX11_traces_212 rfl ?_
  refine V_getr 0 _ dX11_traces_213 fl_RX11_7 (by first | with_reducible assumption | rfl) rfl rfl (by first | with_reducible assumption | exact hG.at rfl) ?_
  refine V_iconst dX11_traces_216 ?_
  refine V_iald dX11_traces_217 (by first | with_reducible assumption | rfl) (by decide) (by omega) ?_
  rw [up2_n _ _ _ (by decide), ez]
  refine V_icmp_gt 225 dX11_traces_218 (by decide) (by omega) (by omega) (fun h218 => ?_) (fun h218 => ?_)
  · refine V_iconst dX11_traces_225 ?_
    refine V_zret dX11_traces_226 rfl ⟨Nat.le_of_ble_eq_true rfl, Nat.le_of_ble_eq_true rfl⟩ (by first | exact Or.inl rfl | exact Or.inr rfl | omega) ?_
    exact ⟨rfl, _, rfl, by first | rw [if_pos (by omega)] | rw [if_neg (by omega)], rfl, hfin⟩
  · refine V_iconst dX11_traces_221 ?_
    refine V_goto 226 dX11_traces_222 (by decide) ?_
    refine V_zret dX11_traces_226 rfl ⟨Nat.le_of_ble_eq_true rfl, Nat.le_of_ble_eq_true rfl⟩ (by first | exact Or.inl rfl | exact Or.inr rfl | omega) ?_
    exact ⟨rfl, _, rfl, by first | rw [if_pos (by omega)] | rw [if_neg (by omega)], rfl, hfin⟩
end MODEL6
