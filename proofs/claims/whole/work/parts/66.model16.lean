/-! ===== DiagonalTextsModel: marks of steps, a moved block ===== -/
section MODEL16
variable {mi mi1 mi2 mi3 mi4 : MI} {mr : MR} {n m n' m' tl D L lb : Int} {A B A' B' Z T : Int → Int} {K X Y O I : Int → Int} {hs hs' : List St} {u : Int × (Int → Int)} {σ : St}
def MkM (mi : MI) (O I : Int → Int) : Prop := (∀ x, 0 ≤ x → x < 29 → mi 72 x = O x ∧ mi 73 x = I x) ∧ ∀ x, (-1 ≤ O x ∧ O x ≤ 100) ∧ -1 ≤ I x ∧ I x ≤ 100
theorem MkM.keep (h : MkM mi O I) (h1 : mi1 72 = mi 72) (h2 : mi1 73 = mi 73) : MkM mi1 O I := ⟨fun x x1 x2 => by rw [h1, h2]; exact h.1 x x1 x2, h.2⟩
set_option maxRecDepth 100000 in
set_option maxHeartbeats 1000000 in
theorem c_X11_marks (hG : Gr mr) (hSt : StM mi L K X Y) (hL : 0 ≤ L ∧ L ≤ 56) (hr : ∀ i, 0 ≤ i → i < L → (0 ≤ K i ∧ K i ≤ 2) ∧ (0 ≤ X i ∧ X i ≤ 28) ∧ 0 ≤ Y i ∧ Y i ≤ 28) : C0 yX11_marks cX11_marks 2 none 1 SH mi mr [vr 62] (fun mi' mr' => mr' = mr ∧ MkM mi' (fun x => obN K X 1 x L.toNat) (fun y => obN K Y 2 y L.toNat) ∧ ∀ z, z ≠ 72 → z ≠ 73 → mi' z = mi z) := by
  have q13 := hSt.1
  have hbound : ∀ x, (-1 ≤ obN K X 1 x L.toNat ∧ obN K X 1 x L.toNat ≤ 100) ∧ -1 ≤ obN K Y 2 x L.toNat ∧ obN K Y 2 x L.toNat ≤ 100 := fun x => by
    have h1 := ob_spec K X 1 x L.toNat
    have h2 := ob_spec K Y 2 x L.toNat
    constructor
    · rcases h1 with ⟨h1, -⟩ | ⟨h1, -⟩ <;> omega
    · rcases h2 with ⟨h2, -⟩ | ⟨h2, -⟩ <;> omega
  have loop2 : ∀ (t s : Nat) (mi' : MI), (s : Int) ≤ L → L - s < t → (∀ x, 0 ≤ x → x < 29 → mi' 72 x = obN K X 1 x s ∧ mi' 73 x = obN K Y 2 x s) → (∀ z, z ≠ 72 → z ≠ 73 → mi' z = mi z) → V (RX11, cX11_marks, 2, rm 1, false, none, none) (fun r sh' mi' mr' => sh' = SH ∧ r = none ∧ mr' = mr ∧ MkM mi' (fun x => obN K X 1 x L.toNat) (fun y => obN K Y 2 y L.toNat) ∧ ∀ z, z ≠ 72 → z ≠ 73 → mi' z = mi z) 0 0 SH mi' mr [some (vr 62), some (vi s)] [] 30 := by
    intro t
    induction t with
    | zero => intro s mi' a1 a2; omega
    | succ t ih =>
      intro s mi' a1 a2 a3 a4
      have q13' : mi' 62 13 = L := by rw [a4 62 (by decide) (by decide)]; exact q13
      by_cases hend : L ≤ s
      · have es : L.toNat = s := by omega
        refine V_iload_n dX11_marks_30 rfl ?_
        refine V_aload_n dX11_marks_31 rfl ?_
        refine V_geti 13 dX11_marks_32 fl_RX11_95 (by first | with_reducible assumption | rfl) rfl rfl ?_
        rw [q13']
        refine V_icmp_ge 94 dX11_marks_35 (by decide) (by omega) (by omega) (fun _ => ?_) (fun h35 => absurd h35 ((not_not_intro hend)))
        refine V_vret dX11_marks_94 rfl ⟨Nat.le_of_ble_eq_true rfl, Nat.le_of_ble_eq_true rfl⟩ ?_
        exact ⟨rfl, rfl, rfl, ⟨by rw [es]; exact a3, hbound⟩, a4⟩
      · have h0 := hSt.2 s (by omega) (by omega)
        have hb := hr s (by omega) (by omega)
        have h68 : mi' 68 = mi 68 := a4 68 (by decide) (by decide)
        rw [← h68] at h0
        rcases (show K s = 0 ∨ K s = 1 ∨ K s = 2 by omega) with hk | hk | hk
        · refine V_iload_n dX11_marks_30 rfl ?_
          refine V_aload_n dX11_marks_31 rfl ?_
          refine V_geti 13 dX11_marks_32 fl_RX11_95 (by first | with_reducible assumption | rfl) rfl rfl ?_
          rw [q13']
          refine V_icmp_ge 94 dX11_marks_35 (by decide) (by omega) (by omega) (fun h35 => absurd h35 (hend)) (fun _ => ?_)
          refine V_aload_n dX11_marks_38 rfl ?_
          refine V_iload_n dX11_marks_39 rfl ?_
          refine V_callVP dX11_marks_40 ml_RX11_106 km_X11_kind kv_X11_kind (c_X11_kind hG (by omega)) (by first | with_reducible assumption | rfl) rfl rfl rfl (Nat.le_of_ble_eq_true rfl) ⟨Nat.le_of_ble_eq_true rfl, Nat.le_of_ble_eq_true rfl⟩ ⟨Nat.le_of_ble_eq_true rfl, Nat.le_of_ble_eq_true rfl⟩ ?_
          rw [h0.1, hk]
          refine V_iconst dX11_marks_43 ?_
          refine V_icmp_ne 63 dX11_marks_44 (by decide) (by omega) (by omega) (fun _ => ?_) (fun h44 => absurd h44 ((by decide)))
          refine V_aload_n dX11_marks_63 rfl ?_
          refine V_iload_n dX11_marks_64 rfl ?_
          refine V_callVP dX11_marks_65 ml_RX11_106 km_X11_kind kv_X11_kind (c_X11_kind hG (by omega)) (by first | with_reducible assumption | rfl) rfl rfl rfl (Nat.le_of_ble_eq_true rfl) ⟨Nat.le_of_ble_eq_true rfl, Nat.le_of_ble_eq_true rfl⟩ ⟨Nat.le_of_ble_eq_true rfl, Nat.le_of_ble_eq_true rfl⟩ ?_
          rw [h0.1, hk]
          refine V_iconst dX11_marks_68 ?_
          refine V_icmp_ne 88 dX11_marks_69 (by decide) (by omega) (by omega) (fun _ => ?_) (fun h69 => absurd h69 ((by decide)))
          refine S_iinc (ls' := [_, _]) dX11_marks_88 rfl ⟨rfl, rfl⟩ rfl ?_
          refine V_goto 30 dX11_marks_91 (by decide) ?_
          refine ih (s + 1) mi' (by omega) (by omega) (fun x x1 x2 => ?_) a4
          have := a3 x x1 x2
          simp only [obN]
          rw [if_neg (by omega), if_neg (by omega)]
          exact this
        · have hgo := ih (s + 1) (up2 mi' 72 (X s) s) (by omega) (by omega) (fun x x1 x2 => by
            have := a3 x x1 x2
            simp only [obN]
            rw [if_neg (show ¬ (K s = 2 ∧ Y s = x) by omega), up2_n _ _ _ (show (73 : Nat) ≠ 72 by decide)]
            refine ⟨?_, this.2⟩
            by_cases hx : x = X s
            · rw [hx, up2_ss, if_pos ⟨hk, rfl⟩]
            · rw [up2_sn _ _ _ hx, if_neg (by omega)]
              exact this.1) (fun z z1 z2 => by rw [up2_n _ _ _ z1]; exact a4 z z1 z2)
          refine V_iload_n dX11_marks_30 rfl ?_
          refine V_aload_n dX11_marks_31 rfl ?_
          refine V_geti 13 dX11_marks_32 fl_RX11_95 (by first | with_reducible assumption | rfl) rfl rfl ?_
          rw [q13']
          refine V_icmp_ge 94 dX11_marks_35 (by decide) (by omega) (by omega) (fun h35 => absurd h35 (hend)) (fun _ => ?_)
          refine V_aload_n dX11_marks_38 rfl ?_
          refine V_iload_n dX11_marks_39 rfl ?_
          refine V_callVP dX11_marks_40 ml_RX11_106 km_X11_kind kv_X11_kind (c_X11_kind hG (by omega)) (by first | with_reducible assumption | rfl) rfl rfl rfl (Nat.le_of_ble_eq_true rfl) ⟨Nat.le_of_ble_eq_true rfl, Nat.le_of_ble_eq_true rfl⟩ ⟨Nat.le_of_ble_eq_true rfl, Nat.le_of_ble_eq_true rfl⟩ ?_
          rw [h0.1, hk]
          refine V_iconst dX11_marks_43 ?_
          refine V_icmp_ne 63 dX11_marks_44 (by decide) (by omega) (by omega) (fun h44 => absurd h44 ((by decide))) (fun _ => ?_)
          refine V_aload_n dX11_marks_47 rfl ?_
          refine V_getr 18 _ dX11_marks_48 fl_RX11_39 (by first | with_reducible assumption | rfl) rfl rfl (by first | with_reducible assumption | exact hG.at rfl) ?_
          refine V_aload_n dX11_marks_51 rfl ?_
          refine V_getr 12 _ dX11_marks_52 fl_RX11_26 (by first | with_reducible assumption | rfl) rfl rfl (by first | with_reducible assumption | exact hG.at rfl) ?_
          refine V_iconst dX11_marks_55 ?_
          refine V_iload_n dX11_marks_56 rfl ?_
          refine V_imul dX11_marks_57 ?_
          refine V_iconst dX11_marks_58 ?_
          refine V_iadd dX11_marks_59 ?_
          refine V_iald dX11_marks_60 (by first | with_reducible assumption | rfl) (by decide) (by omega) ?_
          rw [h0.2.1]
          refine V_iload_n dX11_marks_61 rfl ?_
          refine V_iast dX11_marks_62 (by first | with_reducible assumption | rfl) (by decide) (by omega) ?_
          refine V_aload_n dX11_marks_63 rfl ?_
          refine V_iload_n dX11_marks_64 rfl ?_
          refine V_callVP dX11_marks_65 ml_RX11_106 km_X11_kind kv_X11_kind (c_X11_kind hG (by omega)) (by first | with_reducible assumption | rfl) rfl rfl rfl (Nat.le_of_ble_eq_true rfl) ⟨Nat.le_of_ble_eq_true rfl, Nat.le_of_ble_eq_true rfl⟩ ⟨Nat.le_of_ble_eq_true rfl, Nat.le_of_ble_eq_true rfl⟩ ?_
          rw [up2_n _ _ _ (by decide), h0.1, hk]
          refine V_iconst dX11_marks_68 ?_
          refine V_icmp_ne 88 dX11_marks_69 (by decide) (by omega) (by omega) (fun _ => ?_) (fun h69 => absurd h69 ((by decide)))
          refine S_iinc (ls' := [_, _]) dX11_marks_88 rfl ⟨rfl, rfl⟩ rfl ?_
          refine V_goto 30 dX11_marks_91 (by decide) ?_
          exact hgo
        · have hgo := ih (s + 1) (up2 mi' 73 (Y s) s) (by omega) (by omega) (fun x x1 x2 => by
            have := a3 x x1 x2
            simp only [obN]
            rw [if_neg (show ¬ (K s = 1 ∧ X s = x) by omega), up2_n _ _ _ (show (72 : Nat) ≠ 73 by decide)]
            refine ⟨this.1, ?_⟩
            by_cases hx : x = Y s
            · rw [hx, up2_ss, if_pos ⟨hk, rfl⟩]
            · rw [up2_sn _ _ _ hx, if_neg (by omega)]
              exact this.2) (fun z z1 z2 => by rw [up2_n _ _ _ z2]; exact a4 z z1 z2)
          refine V_iload_n dX11_marks_30 rfl ?_
          refine V_aload_n dX11_marks_31 rfl ?_
          refine V_geti 13 dX11_marks_32 fl_RX11_95 (by first | with_reducible assumption | rfl) rfl rfl ?_
          rw [q13']
          refine V_icmp_ge 94 dX11_marks_35 (by decide) (by omega) (by omega) (fun h35 => absurd h35 (hend)) (fun _ => ?_)
          refine V_aload_n dX11_marks_38 rfl ?_
          refine V_iload_n dX11_marks_39 rfl ?_
          refine V_callVP dX11_marks_40 ml_RX11_106 km_X11_kind kv_X11_kind (c_X11_kind hG (by omega)) (by first | with_reducible assumption | rfl) rfl rfl rfl (Nat.le_of_ble_eq_true rfl) ⟨Nat.le_of_ble_eq_true rfl, Nat.le_of_ble_eq_true rfl⟩ ⟨Nat.le_of_ble_eq_true rfl, Nat.le_of_ble_eq_true rfl⟩ ?_
          rw [h0.1, hk]
          refine V_iconst dX11_marks_43 ?_
          refine V_icmp_ne 63 dX11_marks_44 (by decide) (by omega) (by omega) (fun _ => ?_) (fun h44 => absurd h44 ((by decide)))
          refine V_aload_n dX11_marks_63 rfl ?_
          refine V_iload_n dX11_marks_64 rfl ?_
          refine V_callVP dX11_marks_65 ml_RX11_106 km_X11_kind kv_X11_kind (c_X11_kind hG (by omega)) (by first | with_reducible assumption | rfl) rfl rfl rfl (Nat.le_of_ble_eq_true rfl) ⟨Nat.le_of_ble_eq_true rfl, Nat.le_of_ble_eq_true rfl⟩ ⟨Nat.le_of_ble_eq_true rfl, Nat.le_of_ble_eq_true rfl⟩ ?_
          rw [h0.1, hk]
          refine V_iconst dX11_marks_68 ?_
          refine V_icmp_ne 88 dX11_marks_69 (by decide) (by omega) (by omega) (fun h69 => absurd h69 ((by decide))) (fun _ => ?_)
          refine V_aload_n dX11_marks_72 rfl ?_
          refine V_getr 19 _ dX11_marks_73 fl_RX11_42 (by first | with_reducible assumption | rfl) rfl rfl (by first | with_reducible assumption | exact hG.at rfl) ?_
          refine V_aload_n dX11_marks_76 rfl ?_
          refine V_getr 12 _ dX11_marks_77 fl_RX11_26 (by first | with_reducible assumption | rfl) rfl rfl (by first | with_reducible assumption | exact hG.at rfl) ?_
          refine V_iconst dX11_marks_80 ?_
          refine V_iload_n dX11_marks_81 rfl ?_
          refine V_imul dX11_marks_82 ?_
          refine V_iconst dX11_marks_83 ?_
          refine V_iadd dX11_marks_84 ?_
          refine V_iald dX11_marks_85 (by first | with_reducible assumption | rfl) (by decide) (by omega) ?_
          rw [h0.2.2]
          refine V_iload_n dX11_marks_86 rfl ?_
          refine V_iast dX11_marks_87 (by first | with_reducible assumption | rfl) (by decide) (by omega) ?_
          refine S_iinc (ls' := [_, _]) dX11_marks_88 rfl ⟨rfl, rfl⟩ rfl ?_
          refine V_goto 30 dX11_marks_91 (by decide) ?_
          exact hgo
  have loop1 : ∀ (t : Nat) (p : Int) (mi' : MI), 0 ≤ p → p ≤ 29 → 29 - p < t → (∀ x, 0 ≤ x → x < p → mi' 72 x = -1 ∧ mi' 73 x = -1) → (∀ z, z ≠ 72 → z ≠ 73 → mi' z = mi z) → V (RX11, cX11_marks, 2, rm 1, false, none, none) (fun r sh' mi' mr' => sh' = SH ∧ r = none ∧ mr' = mr ∧ MkM mi' (fun x => obN K X 1 x L.toNat) (fun y => obN K Y 2 y L.toNat) ∧ ∀ z, z ≠ 72 → z ≠ 73 → mi' z = mi z) 0 0 SH mi' mr [some (vr 62), some (vi p)] [] 2 := by
    intro t
    induction t with
    | zero => intro p mi' a1 a2 a3; omega
    | succ t ih =>
      intro p mi' a1 a2 a3 a4 a5
      by_cases hend : 29 ≤ p
      · refine V_iload_n dX11_marks_2 rfl ?_
        refine V_bipush dX11_marks_3 (by decide) ?_
        refine V_icmp_ge 28 dX11_marks_5 (by decide) (by omega) (by omega) (fun _ => ?_) (fun h5 => absurd h5 ((by omega)))
        refine V_iconst dX11_marks_28 ?_
        refine S_istore_n (ls' := [_, _]) dX11_marks_29 ⟨Nat.le_of_ble_eq_true rfl, rfl, rfl⟩ rfl ?_
        exact loop2 (L.toNat + 1) 0 mi' (by omega) (by omega) (fun x x1 x2 => a4 x x1 (by omega)) a5
      · refine V_iload_n dX11_marks_2 rfl ?_
        refine V_bipush dX11_marks_3 (by decide) ?_
        refine V_icmp_ge 28 dX11_marks_5 (by decide) (by omega) (by omega) (fun h5 => absurd h5 ((by omega))) (fun _ => ?_)
        refine V_aload_n dX11_marks_8 rfl ?_
        refine V_getr 18 _ dX11_marks_9 fl_RX11_39 (by first | with_reducible assumption | rfl) rfl rfl (by first | with_reducible assumption | exact hG.at rfl) ?_
        refine V_iload_n dX11_marks_12 rfl ?_
        refine V_iconst dX11_marks_13 ?_
        refine V_iast dX11_marks_14 (by first | with_reducible assumption | rfl) (by decide) (by omega) ?_
        refine V_aload_n dX11_marks_15 rfl ?_
        refine V_getr 19 _ dX11_marks_16 fl_RX11_42 (by first | with_reducible assumption | rfl) rfl rfl (by first | with_reducible assumption | exact hG.at rfl) ?_
        refine V_iload_n dX11_marks_19 rfl ?_
        refine V_iconst dX11_marks_20 ?_
        refine V_iast dX11_marks_21 (by first | with_reducible assumption | rfl) (by decide) (by omega) ?_
        refine S_iinc (ls' := [_, _]) dX11_marks_22 rfl ⟨rfl, rfl⟩ rfl ?_
        refine V_goto 2 dX11_marks_25 (by decide) ?_
        refine ih (p + 1) _ (by omega) (by omega) (by omega) (fun x x1 x2 => ?_) (fun z z1 z2 => by rw [up2_n _ _ _ z2, up2_n _ _ _ z1]; exact a5 z z1 z2)
        by_cases hx : x = p
        · subst hx; exact ⟨by rw [up2_n _ _ _ (by decide), up2_ss], by rw [up2_ss]⟩
        · rw [up2_n _ _ _ (show (72 : Nat) ≠ 73 by decide), up2_sn _ _ _ hx, up2_sn _ _ _ hx, up2_n _ _ _ (show (73 : Nat) ≠ 72 by decide)]
          exact a4 x x1 (by omega)
  refine Ct.ofV (ini := false) [some (vr 62), none] km_X11_marks (by decide) rfl (Nat.le_of_ble_eq_true rfl) ?_
  refine V_iconst dX11_marks_0 ?_
  refine S_istore_n (ls' := [_, _]) dX11_marks_1 ⟨Nat.le_of_ble_eq_true rfl, rfl, rfl⟩ rfl ?_
  exact loop1 30 0 mi (by omega) (by omega) (by omega) (fun x x1 x2 => by omega) (fun _ _ _ => rfl)
set_option maxRecDepth 100000 in
set_option maxHeartbeats 1000000 in
theorem c_X11_moves {x y : Int} (hG : Gr mr) (hR : RowM (mi 63) (n, m, A, B, Z)) (hA : NR n A) (hB : NR m B) (hM : MkM mi O I) (hx : rng x) (hy : rng y) : CP yX11_moves cX11_moves 3 (some .boolean) 1 SH mi mr [vr 62, vi x, vi y] (vi (if mvM n m A B O I x y then 1 else 0)) := by
  have q0 := hR.1.1
  have q1 := hR.1.2
  simp only at q0 q1
  have hn := hA.1
  have hm := hB.1
  have rA := hA.r x
  have rB := hB.r y
  have r1 := (hM.2 x).1
  have r2 := (hM.2 y).2
  refine Ct.ofV (ini := false) [some (vr 62), some (vi x), some (vi y)] km_X11_moves (by decide) rfl (Nat.le_of_ble_eq_true rfl) ?_
  refine V_iload_n dX11_moves_0 rfl ?_
  refine V_if_lt 65 dX11_moves_1 (by decide) (by omega) (fun h1 => ?_) (fun h1 => ?_)
  · refine V_iconst dX11_moves_65 ?_
    refine V_zret dX11_moves_66 rfl ⟨Nat.le_of_ble_eq_true rfl, Nat.le_of_ble_eq_true rfl⟩ (by first | exact Or.inl rfl | exact Or.inr rfl | omega) ?_
    exact ⟨rfl, svi (by unfold mvM; split <;> first | rfl | (exfalso; omega)), rfl, rfl⟩
  · refine V_iload_n dX11_moves_4 rfl ?_
    refine V_if_lt 65 dX11_moves_5 (by decide) (by omega) (fun h5 => ?_) (fun h5 => ?_)
    · refine V_iconst dX11_moves_65 ?_
      refine V_zret dX11_moves_66 rfl ⟨Nat.le_of_ble_eq_true rfl, Nat.le_of_ble_eq_true rfl⟩ (by first | exact Or.inl rfl | exact Or.inr rfl | omega) ?_
      exact ⟨rfl, svi (by unfold mvM; split <;> first | rfl | (exfalso; omega)), rfl, rfl⟩
    · refine V_iload_n dX11_moves_8 rfl ?_
      refine V_aload_n dX11_moves_9 rfl ?_
      refine V_getr 0 _ dX11_moves_10 fl_RX11_7 (by first | with_reducible assumption | rfl) rfl rfl (by first | with_reducible assumption | exact hG.at rfl) ?_
      refine V_iconst dX11_moves_13 ?_
      refine V_iald dX11_moves_14 (by first | with_reducible assumption | rfl) (by decide) (by omega) ?_
      rw [q0]
      refine V_icmp_ge 65 dX11_moves_15 (by decide) (by omega) (by omega) (fun h15 => ?_) (fun h15 => ?_)
      · refine V_iconst dX11_moves_65 ?_
        refine V_zret dX11_moves_66 rfl ⟨Nat.le_of_ble_eq_true rfl, Nat.le_of_ble_eq_true rfl⟩ (by first | exact Or.inl rfl | exact Or.inr rfl | omega) ?_
        exact ⟨rfl, svi (by unfold mvM; split <;> first | rfl | (exfalso; omega)), rfl, rfl⟩
      · refine V_iload_n dX11_moves_18 rfl ?_
        refine V_aload_n dX11_moves_19 rfl ?_
        refine V_getr 0 _ dX11_moves_20 fl_RX11_7 (by first | with_reducible assumption | rfl) rfl rfl (by first | with_reducible assumption | exact hG.at rfl) ?_
        refine V_iconst dX11_moves_23 ?_
        refine V_iald dX11_moves_24 (by first | with_reducible assumption | rfl) (by decide) (by omega) ?_
        rw [q1]
        refine V_icmp_ge 65 dX11_moves_25 (by decide) (by omega) (by omega) (fun h25 => ?_) (fun h25 => ?_)
        · refine V_iconst dX11_moves_65 ?_
          refine V_zret dX11_moves_66 rfl ⟨Nat.le_of_ble_eq_true rfl, Nat.le_of_ble_eq_true rfl⟩ (by first | exact Or.inl rfl | exact Or.inr rfl | omega) ?_
          exact ⟨rfl, svi (by unfold mvM; split <;> first | rfl | (exfalso; omega)), rfl, rfl⟩
        · refine V_aload_n dX11_moves_28 rfl ?_
          refine V_getr 18 _ dX11_moves_29 fl_RX11_39 (by first | with_reducible assumption | rfl) rfl rfl (by first | with_reducible assumption | exact hG.at rfl) ?_
          refine V_iload_n dX11_moves_32 rfl ?_
          refine V_iald dX11_moves_33 (by first | with_reducible assumption | rfl) (by decide) (by omega) ?_
          rw [(hM.1 x (by omega) (by omega)).1]
          refine V_if_lt 65 dX11_moves_34 (by decide) (by omega) (fun h34 => ?_) (fun h34 => ?_)
          · refine V_iconst dX11_moves_65 ?_
            refine V_zret dX11_moves_66 rfl ⟨Nat.le_of_ble_eq_true rfl, Nat.le_of_ble_eq_true rfl⟩ (by first | exact Or.inl rfl | exact Or.inr rfl | omega) ?_
            exact ⟨rfl, svi (by unfold mvM; split <;> first | rfl | (exfalso; omega)), rfl, rfl⟩
          · refine V_aload_n dX11_moves_37 rfl ?_
            refine V_getr 19 _ dX11_moves_38 fl_RX11_42 (by first | with_reducible assumption | rfl) rfl rfl (by first | with_reducible assumption | exact hG.at rfl) ?_
            refine V_iload_n dX11_moves_41 rfl ?_
            refine V_iald dX11_moves_42 (by first | with_reducible assumption | rfl) (by decide) (by omega) ?_
            rw [(hM.1 y (by omega) (by omega)).2]
            refine V_if_lt 65 dX11_moves_43 (by decide) (by omega) (fun h43 => ?_) (fun h43 => ?_)
            · refine V_iconst dX11_moves_65 ?_
              refine V_zret dX11_moves_66 rfl ⟨Nat.le_of_ble_eq_true rfl, Nat.le_of_ble_eq_true rfl⟩ (by first | exact Or.inl rfl | exact Or.inr rfl | omega) ?_
              exact ⟨rfl, svi (by unfold mvM; split <;> first | rfl | (exfalso; omega)), rfl, rfl⟩
            · refine V_aload_n dX11_moves_46 rfl ?_
              refine V_iconst dX11_moves_47 ?_
              refine V_iload_n dX11_moves_48 rfl ?_
              refine V_callVP dX11_moves_49 ml_RX11_52 km_X11_letter kv_X11_letter (c_X11_letter (row := 0) (p := x) hG (Or.inl rfl) (by omega)) (by first | with_reducible assumption | rfl) rfl rfl rfl (Nat.le_of_ble_eq_true rfl) ⟨Nat.le_of_ble_eq_true rfl, Nat.le_of_ble_eq_true rfl⟩ ⟨Nat.le_of_ble_eq_true rfl, Nat.le_of_ble_eq_true rfl⟩ ?_
              rw [letA hR (p := x) (by omega)]
              refine V_aload_n dX11_moves_52 rfl ?_
              refine V_iconst dX11_moves_53 ?_
              refine V_iload_n dX11_moves_54 rfl ?_
              refine V_callVP dX11_moves_55 ml_RX11_52 km_X11_letter kv_X11_letter (c_X11_letter (row := 1) (p := y) hG (Or.inr rfl) (by omega)) (by first | with_reducible assumption | rfl) rfl rfl rfl (Nat.le_of_ble_eq_true rfl) ⟨Nat.le_of_ble_eq_true rfl, Nat.le_of_ble_eq_true rfl⟩ ⟨Nat.le_of_ble_eq_true rfl, Nat.le_of_ble_eq_true rfl⟩ ?_
              rw [letB hR (p := y) (by omega)]
              refine V_icmp_ne 65 dX11_moves_58 (by decide) (by omega) (by omega) (fun h58 => ?_) (fun h58 => ?_)
              · refine V_iconst dX11_moves_65 ?_
                refine V_zret dX11_moves_66 rfl ⟨Nat.le_of_ble_eq_true rfl, Nat.le_of_ble_eq_true rfl⟩ (by first | exact Or.inl rfl | exact Or.inr rfl | omega) ?_
                exact ⟨rfl, svi (by unfold mvM; split <;> first | rfl | (exfalso; omega)), rfl, rfl⟩
              · refine V_iconst dX11_moves_61 ?_
                refine V_goto 66 dX11_moves_62 (by decide) ?_
                refine V_zret dX11_moves_66 rfl ⟨Nat.le_of_ble_eq_true rfl, Nat.le_of_ble_eq_true rfl⟩ (by first | exact Or.inl rfl | exact Or.inr rfl | omega) ?_
                exact ⟨rfl, svi (by unfold mvM; split <;> first | rfl | (exfalso; omega)), rfl, rfl⟩
set_option maxRecDepth 100000 in
set_option maxHeartbeats 1000000 in
theorem c_X11_goesOn {x y : Int} (hG : Gr mr) (hR : RowM (mi 63) (n, m, A, B, Z)) (hA : NR n A) (hB : NR m B) (hM : MkM mi O I) (hx : -1000 ≤ x ∧ x ≤ 1000) (hy : -1000 ≤ y ∧ y ≤ 1000) : CP yX11_goesOn cX11_goesOn 3 (some .boolean) 2 SH mi mr [vr 62, vi x, vi y] (vi (if goM n m A B O I x y then 1 else 0)) := by
  have hn := hA.1
  have hm := hB.1
  have r1 := (hM.2 x).1
  have r2 := (hM.2 y).2
  have r3 := (hM.2 (x - 1)).1
  have r4 := (hM.2 (y - 1)).2
  refine Ct.ofV (ini := false) [some (vr 62), some (vi x), some (vi y)] km_X11_goesOn (by decide) rfl (Nat.le_of_ble_eq_true rfl) ?_
  by_cases h1 : mvM n m A B O I x y
  · have e1 : (if mvM n m A B O I x y then (1 : Int) else 0) = 1 := if_pos h1
    by_cases h2 : mvM n m A B O I (x - 1) (y - 1)
    · have e2 : (if mvM n m A B O I (x - 1) (y - 1) then (1 : Int) else 0) = 1 := if_pos h2
      have g1 := h1.1
      have g2 := h2.1
      refine V_aload_n dX11_goesOn_0 rfl ?_
      refine V_iload_n dX11_goesOn_1 rfl ?_
      refine V_iload_n dX11_goesOn_2 rfl ?_
      refine V_callVP dX11_goesOn_3 ml_RX11_137 km_X11_moves kv_X11_moves (c_X11_moves (x := x) (y := y) hG hR hA hB hM (by omega) (by omega)) (by first | with_reducible assumption | rfl) rfl rfl rfl (Nat.le_of_ble_eq_true rfl) ⟨Nat.le_of_ble_eq_true rfl, Nat.le_of_ble_eq_true rfl⟩ ⟨Nat.le_of_ble_eq_true rfl, Nat.le_of_ble_eq_true rfl⟩ ?_
      rw [e1]
      refine V_if_eq 64 dX11_goesOn_6 (by decide) (by omega) (fun h6 => absurd h6 ((by decide))) (fun _ => ?_)
      refine V_aload_n dX11_goesOn_9 rfl ?_
      refine V_iload_n dX11_goesOn_10 rfl ?_
      refine V_iconst dX11_goesOn_11 ?_
      refine V_isub dX11_goesOn_12 ?_
      refine V_iload_n dX11_goesOn_13 rfl ?_
      refine V_iconst dX11_goesOn_14 ?_
      refine V_isub dX11_goesOn_15 ?_
      refine V_callVP dX11_goesOn_16 ml_RX11_137 km_X11_moves kv_X11_moves (c_X11_moves (x := x - 1) (y := y - 1) hG hR hA hB hM (by omega) (by omega)) (by first | with_reducible assumption | rfl) rfl rfl rfl (Nat.le_of_ble_eq_true rfl) ⟨Nat.le_of_ble_eq_true rfl, Nat.le_of_ble_eq_true rfl⟩ ⟨Nat.le_of_ble_eq_true rfl, Nat.le_of_ble_eq_true rfl⟩ ?_
      rw [e2]
      refine V_if_eq 64 dX11_goesOn_19 (by decide) (by omega) (fun h19 => absurd h19 ((by decide))) (fun _ => ?_)
      refine V_aload_n dX11_goesOn_22 rfl ?_
      refine V_getr 18 _ dX11_goesOn_23 fl_RX11_39 (by first | with_reducible assumption | rfl) rfl rfl (by first | with_reducible assumption | exact hG.at rfl) ?_
      refine V_iload_n dX11_goesOn_26 rfl ?_
      refine V_iald dX11_goesOn_27 (by first | with_reducible assumption | rfl) (by decide) (by omega) ?_
      rw [(hM.1 x (by omega) (by omega)).1]
      refine V_aload_n dX11_goesOn_28 rfl ?_
      refine V_getr 18 _ dX11_goesOn_29 fl_RX11_39 (by first | with_reducible assumption | rfl) rfl rfl (by first | with_reducible assumption | exact hG.at rfl) ?_
      refine V_iload_n dX11_goesOn_32 rfl ?_
      refine V_iconst dX11_goesOn_33 ?_
      refine V_isub dX11_goesOn_34 ?_
      refine V_iald dX11_goesOn_35 (by first | with_reducible assumption | rfl) (by decide) (by omega) ?_
      rw [(hM.1 (x - 1) (by omega) (by omega)).1]
      refine V_iconst dX11_goesOn_36 ?_
      refine V_iadd dX11_goesOn_37 ?_
      refine V_icmp_ne 64 dX11_goesOn_38 (by decide) (by omega) (by omega) (fun h38 => ?_) (fun h38 => ?_)
      · refine V_iconst dX11_goesOn_64 ?_
        refine V_zret dX11_goesOn_65 rfl ⟨Nat.le_of_ble_eq_true rfl, Nat.le_of_ble_eq_true rfl⟩ (by first | exact Or.inl rfl | exact Or.inr rfl | omega) ?_
        first | exact ⟨rfl, svi (if_pos ⟨h1, h2, by omega, by omega⟩).symm, rfl, rfl⟩ | exact ⟨rfl, svi (if_neg (fun hc => by have := hc.2.2; omega)).symm, rfl, rfl⟩
      · refine V_aload_n dX11_goesOn_41 rfl ?_
        refine V_getr 19 _ dX11_goesOn_42 fl_RX11_42 (by first | with_reducible assumption | rfl) rfl rfl (by first | with_reducible assumption | exact hG.at rfl) ?_
        refine V_iload_n dX11_goesOn_45 rfl ?_
        refine V_iald dX11_goesOn_46 (by first | with_reducible assumption | rfl) (by decide) (by omega) ?_
        rw [(hM.1 y (by omega) (by omega)).2]
        refine V_aload_n dX11_goesOn_47 rfl ?_
        refine V_getr 19 _ dX11_goesOn_48 fl_RX11_42 (by first | with_reducible assumption | rfl) rfl rfl (by first | with_reducible assumption | exact hG.at rfl) ?_
        refine V_iload_n dX11_goesOn_51 rfl ?_
        refine V_iconst dX11_goesOn_52 ?_
        refine V_isub dX11_goesOn_53 ?_
        refine V_iald dX11_goesOn_54 (by first | with_reducible assumption | rfl) (by decide) (by omega) ?_
        rw [(hM.1 (y - 1) (by omega) (by omega)).2]
        refine V_iconst dX11_goesOn_55 ?_
        refine V_iadd dX11_goesOn_56 ?_
        refine V_icmp_ne 64 dX11_goesOn_57 (by decide) (by omega) (by omega) (fun h57 => ?_) (fun h57 => ?_)
        · refine V_iconst dX11_goesOn_64 ?_
          refine V_zret dX11_goesOn_65 rfl ⟨Nat.le_of_ble_eq_true rfl, Nat.le_of_ble_eq_true rfl⟩ (by first | exact Or.inl rfl | exact Or.inr rfl | omega) ?_
          first | exact ⟨rfl, svi (if_pos ⟨h1, h2, by omega, by omega⟩).symm, rfl, rfl⟩ | exact ⟨rfl, svi (if_neg (fun hc => by have := hc.2.2; omega)).symm, rfl, rfl⟩
        · refine V_iconst dX11_goesOn_60 ?_
          refine V_goto 65 dX11_goesOn_61 (by decide) ?_
          refine V_zret dX11_goesOn_65 rfl ⟨Nat.le_of_ble_eq_true rfl, Nat.le_of_ble_eq_true rfl⟩ (by first | exact Or.inl rfl | exact Or.inr rfl | omega) ?_
          first | exact ⟨rfl, svi (if_pos ⟨h1, h2, by omega, by omega⟩).symm, rfl, rfl⟩ | exact ⟨rfl, svi (if_neg (fun hc => by have := hc.2.2; omega)).symm, rfl, rfl⟩
    · have e2 : (if mvM n m A B O I (x - 1) (y - 1) then (1 : Int) else 0) = 0 := if_neg h2
      refine V_aload_n dX11_goesOn_0 rfl ?_
      refine V_iload_n dX11_goesOn_1 rfl ?_
      refine V_iload_n dX11_goesOn_2 rfl ?_
      refine V_callVP dX11_goesOn_3 ml_RX11_137 km_X11_moves kv_X11_moves (c_X11_moves (x := x) (y := y) hG hR hA hB hM (by omega) (by omega)) (by first | with_reducible assumption | rfl) rfl rfl rfl (Nat.le_of_ble_eq_true rfl) ⟨Nat.le_of_ble_eq_true rfl, Nat.le_of_ble_eq_true rfl⟩ ⟨Nat.le_of_ble_eq_true rfl, Nat.le_of_ble_eq_true rfl⟩ ?_
      rw [e1]
      refine V_if_eq 64 dX11_goesOn_6 (by decide) (by omega) (fun h6 => absurd h6 ((by decide))) (fun _ => ?_)
      refine V_aload_n dX11_goesOn_9 rfl ?_
      refine V_iload_n dX11_goesOn_10 rfl ?_
      refine V_iconst dX11_goesOn_11 ?_
      refine V_isub dX11_goesOn_12 ?_
      refine V_iload_n dX11_goesOn_13 rfl ?_
      refine V_iconst dX11_goesOn_14 ?_
      refine V_isub dX11_goesOn_15 ?_
      refine V_callVP dX11_goesOn_16 ml_RX11_137 km_X11_moves kv_X11_moves (c_X11_moves (x := x - 1) (y := y - 1) hG hR hA hB hM (by omega) (by omega)) (by first | with_reducible assumption | rfl) rfl rfl rfl (Nat.le_of_ble_eq_true rfl) ⟨Nat.le_of_ble_eq_true rfl, Nat.le_of_ble_eq_true rfl⟩ ⟨Nat.le_of_ble_eq_true rfl, Nat.le_of_ble_eq_true rfl⟩ ?_
      rw [e2]
      refine V_if_eq 64 dX11_goesOn_19 (by decide) (by omega) (fun _ => ?_) (fun h19 => absurd h19 ((by decide)))
      refine V_iconst dX11_goesOn_64 ?_
      refine V_zret dX11_goesOn_65 rfl ⟨Nat.le_of_ble_eq_true rfl, Nat.le_of_ble_eq_true rfl⟩ (by first | exact Or.inl rfl | exact Or.inr rfl | omega) ?_
      exact ⟨rfl, svi (if_neg (fun hc => h2 hc.2.1)).symm, rfl, rfl⟩
  · have e1 : (if mvM n m A B O I x y then (1 : Int) else 0) = 0 := if_neg h1
    refine V_aload_n dX11_goesOn_0 rfl ?_
    refine V_iload_n dX11_goesOn_1 rfl ?_
    refine V_iload_n dX11_goesOn_2 rfl ?_
    refine V_callVP dX11_goesOn_3 ml_RX11_137 km_X11_moves kv_X11_moves (c_X11_moves (x := x) (y := y) hG hR hA hB hM (by omega) (by omega)) (by first | with_reducible assumption | rfl) rfl rfl rfl (Nat.le_of_ble_eq_true rfl) ⟨Nat.le_of_ble_eq_true rfl, Nat.le_of_ble_eq_true rfl⟩ ⟨Nat.le_of_ble_eq_true rfl, Nat.le_of_ble_eq_true rfl⟩ ?_
    rw [e1]
    refine V_if_eq 64 dX11_goesOn_6 (by decide) (by omega) (fun _ => ?_) (fun h6 => absurd h6 ((by decide)))
    refine V_iconst dX11_goesOn_64 ?_
    refine V_zret dX11_goesOn_65 rfl ⟨Nat.le_of_ble_eq_true rfl, Nat.le_of_ble_eq_true rfl⟩ (by first | exact Or.inl rfl | exact Or.inr rfl | omega) ?_
    exact ⟨rfl, svi (if_neg (fun hc => h1 hc.1)).symm, rfl, rfl⟩
theorem gr_r (n m : Int) (A B O I : Int → Int) : ∀ (t : Nat) (x y : Int), 0 ≤ grM n m A B O I t x y ∧ grM n m A B O I t x y ≤ t
  | 0, _, _ => by simp [grM]
  | t + 1, x, y => by
    have := gr_r n m A B O I t (x + 1) (y + 1)
    simp only [grM]
    split <;> omega
theorem gr_run (n m : Int) (A B O I : Int → Int) : ∀ (t : Nat) (x y j : Int), 0 ≤ j → j < grM n m A B O I t x y → goM n m A B O I (x + j) (y + j)
  | 0, x, y, j, h0, h => by simp [grM] at h; omega
  | t + 1, x, y, j, h0, h => by
    simp only [grM] at h
    by_cases ha : goM n m A B O I x y
    · rw [if_pos ha] at h
      by_cases hj : j = 0
      · subst hj; rw [Int.add_zero, Int.add_zero]; exact ha
      · have := gr_run n m A B O I t (x + 1) (y + 1) (j - 1) (by omega) (by omega)
        rw [show x + 1 + (j - 1) = x + j by omega, show y + 1 + (j - 1) = y + j by omega] at this
        exact this
    · rw [if_neg ha] at h
      omega
theorem gr_end (n m : Int) (A B O I : Int → Int) : ∀ (t : Nat) (x y : Int), grM n m A B O I t x y < t → ¬ goM n m A B O I (x + grM n m A B O I t x y) (y + grM n m A B O I t x y)
  | 0, x, y, h => by simp [grM] at h
  | t + 1, x, y, h => by
    by_cases ha : goM n m A B O I x y
    · have e : grM n m A B O I (t + 1) x y = 1 + grM n m A B O I t (x + 1) (y + 1) := by simp only [grM]; rw [if_pos ha]
      rw [e] at h ⊢
      have := gr_end n m A B O I t (x + 1) (y + 1) (by omega)
      rw [show x + 1 + grM n m A B O I t (x + 1) (y + 1) = x + (1 + grM n m A B O I t (x + 1) (y + 1)) by omega, show y + 1 + grM n m A B O I t (x + 1) (y + 1) = y + (1 + grM n m A B O I t (x + 1) (y + 1)) by omega] at this
      exact this
    · have e : grM n m A B O I (t + 1) x y = 0 := by simp only [grM]; rw [if_neg ha]
      rw [e, Int.add_zero, Int.add_zero]
      exact ha
set_option maxRecDepth 100000 in
set_option maxHeartbeats 1000000 in
theorem c_X11_block {x y : Int} (hG : Gr mr) (hR : RowM (mi 63) (n, m, A, B, Z)) (hA : NR n A) (hB : NR m B) (hM : MkM mi O I) (hx : 0 ≤ x ∧ x < n) (hy : 0 ≤ y ∧ y < m) (hlb : Z 2 = lb) (hlr : 1 ≤ lb ∧ lb ≤ 9) : CP yX11_block cX11_block 4 (some .int) 3 SH mi mr [vr 62, vi x, vi y] (vi (bkM n m A B O I lb x y)) := by
  have hn := hA.1
  have hm := hB.1
  have q4 : mi 63 4 = lb := by rw [← hlb]; exact hR.2.1 2 (by decide) (by decide)
  have hgr := gr_r n m A B O I 27 (x + 1) (y + 1)
  have hrun := fun j h0 h1 => gr_run n m A B O I 27 (x + 1) (y + 1) j h0 h1
  have hfin : ¬ goM n m A B O I (x + 1 + grM n m A B O I 27 (x + 1) (y + 1)) (y + 1 + grM n m A B O I 27 (x + 1) (y + 1)) := by
    by_cases h27 : grM n m A B O I 27 (x + 1) (y + 1) = 27
    · intro hc
      have := hc.1.1
      omega
    · exact gr_end n m A B O I 27 (x + 1) (y + 1) (by omega)
  by_cases hs : mvM n m A B O I x y ∧ ¬ goM n m A B O I x y
  · have e1 : (if mvM n m A B O I x y then (1 : Int) else 0) = 1 := if_pos hs.1
    have e2 : (if goM n m A B O I x y then (1 : Int) else 0) = 0 := if_neg hs.2
    have eb : bkM n m A B O I lb x y = if 1 + grM n m A B O I 27 (x + 1) (y + 1) < lb then 0 else 1 + grM n m A B O I 27 (x + 1) (y + 1) := if_pos hs
    rw [eb]
    generalize grM n m A B O I 27 (x + 1) (y + 1) = g at hgr hrun hfin
    have loop : ∀ (t : Nat) (j : Int), 1 ≤ j → j ≤ 1 + g → 1 + g - j < t → V (RX11, cX11_block, 4, rm 3, false, none, (some .int)) (fun r sh' mi' mr' => sh' = SH ∧ r = some (vi (if 1 + g < lb then 0 else 1 + g)) ∧ mi' = mi ∧ mr' = mr) 0 0 SH mi mr [some (vr 62), some (vi x), some (vi y), some (vi j)] [] 22 := by
      intro t
      induction t with
      | zero => intro j a1 a2 a3; omega
      | succ t ih =>
        intro j a1 a2 a3
        by_cases hj : j < 1 + g
        · have hgo := hrun (j - 1) (by omega) (by omega)
          rw [show x + 1 + (j - 1) = x + j by omega, show y + 1 + (j - 1) = y + j by omega] at hgo
          have e3 : (if goM n m A B O I (x + j) (y + j) then (1 : Int) else 0) = 1 := if_pos hgo
          refine V_aload_n dX11_block_22 rfl ?_
          refine V_iload_n dX11_block_23 rfl ?_
          refine V_iload_n dX11_block_24 rfl ?_
          refine V_iadd dX11_block_25 ?_
          refine V_iload_n dX11_block_26 rfl ?_
          refine V_iload_n dX11_block_27 rfl ?_
          refine V_iadd dX11_block_28 ?_
          refine V_callVP dX11_block_29 ml_RX11_140 km_X11_goesOn kv_X11_goesOn (c_X11_goesOn (x := x + j) (y := y + j) hG hR hA hB hM (by omega) (by omega)) (by first | with_reducible assumption | rfl) rfl rfl rfl (Nat.le_of_ble_eq_true rfl) ⟨Nat.le_of_ble_eq_true rfl, Nat.le_of_ble_eq_true rfl⟩ ⟨Nat.le_of_ble_eq_true rfl, Nat.le_of_ble_eq_true rfl⟩ ?_
          rw [e3]
          refine V_if_eq 41 dX11_block_32 (by decide) (by omega) (fun h32 => absurd h32 ((by decide))) (fun _ => ?_)
          refine S_iinc (ls' := [_, _, _, _]) dX11_block_35 rfl ⟨rfl, rfl⟩ rfl ?_
          refine V_goto 22 dX11_block_38 (by decide) ?_
          exact ih (j + 1) (by omega) (by omega) (by omega)
        · have hj1 : j = 1 + g := by omega
          rw [show x + 1 + g = x + j by omega, show y + 1 + g = y + j by omega] at hfin
          have e3 : (if goM n m A B O I (x + j) (y + j) then (1 : Int) else 0) = 0 := if_neg hfin
          refine V_aload_n dX11_block_22 rfl ?_
          refine V_iload_n dX11_block_23 rfl ?_
          refine V_iload_n dX11_block_24 rfl ?_
          refine V_iadd dX11_block_25 ?_
          refine V_iload_n dX11_block_26 rfl ?_
          refine V_iload_n dX11_block_27 rfl ?_
          refine V_iadd dX11_block_28 ?_
          refine V_callVP dX11_block_29 ml_RX11_140 km_X11_goesOn kv_X11_goesOn (c_X11_goesOn (x := x + j) (y := y + j) hG hR hA hB hM (by omega) (by omega)) (by first | with_reducible assumption | rfl) rfl rfl rfl (Nat.le_of_ble_eq_true rfl) ⟨Nat.le_of_ble_eq_true rfl, Nat.le_of_ble_eq_true rfl⟩ ⟨Nat.le_of_ble_eq_true rfl, Nat.le_of_ble_eq_true rfl⟩ ?_
          rw [e3]
          refine V_if_eq 41 dX11_block_32 (by decide) (by omega) (fun _ => ?_) (fun h32 => absurd h32 ((by decide)))
          refine V_iload_n dX11_block_41 rfl ?_
          refine V_aload_n dX11_block_42 rfl ?_
          refine V_getr 0 _ dX11_block_43 fl_RX11_7 (by first | with_reducible assumption | rfl) rfl rfl (by first | with_reducible assumption | exact hG.at rfl) ?_
          refine V_iconst dX11_block_46 ?_
          refine V_iald dX11_block_47 (by first | with_reducible assumption | rfl) (by decide) (by omega) ?_
          rw [q4]
          refine V_icmp_ge 55 dX11_block_48 (by decide) (by omega) (by omega) (fun h48 => ?_) (fun h48 => ?_)
          · refine V_iload_n dX11_block_55 rfl ?_
            refine V_iret dX11_block_56 rfl ⟨Nat.le_of_ble_eq_true rfl, Nat.le_of_ble_eq_true rfl⟩ ?_
            exact ⟨rfl, svi (by split <;> first | rfl | omega), rfl, rfl⟩
          · refine V_iconst dX11_block_51 ?_
            refine V_goto 56 dX11_block_52 (by decide) ?_
            refine V_iret dX11_block_56 rfl ⟨Nat.le_of_ble_eq_true rfl, Nat.le_of_ble_eq_true rfl⟩ ?_
            exact ⟨rfl, svi (by split <;> first | rfl | omega), rfl, rfl⟩
    refine Ct.ofV (ini := false) [some (vr 62), some (vi x), some (vi y), none] km_X11_block (by decide) rfl (Nat.le_of_ble_eq_true rfl) ?_
    refine V_aload_n dX11_block_0 rfl ?_
    refine V_iload_n dX11_block_1 rfl ?_
    refine V_iload_n dX11_block_2 rfl ?_
    refine V_callVP dX11_block_3 ml_RX11_137 km_X11_moves kv_X11_moves (c_X11_moves (x := x) (y := y) hG hR hA hB hM (by omega) (by omega)) (by first | with_reducible assumption | rfl) rfl rfl rfl (Nat.le_of_ble_eq_true rfl) ⟨Nat.le_of_ble_eq_true rfl, Nat.le_of_ble_eq_true rfl⟩ ⟨Nat.le_of_ble_eq_true rfl, Nat.le_of_ble_eq_true rfl⟩ ?_
    rw [e1]
    refine V_if_eq 18 dX11_block_6 (by decide) (by omega) (fun h6 => absurd h6 ((by decide))) (fun _ => ?_)
    refine V_aload_n dX11_block_9 rfl ?_
    refine V_iload_n dX11_block_10 rfl ?_
    refine V_iload_n dX11_block_11 rfl ?_
    refine V_callVP dX11_block_12 ml_RX11_140 km_X11_goesOn kv_X11_goesOn (c_X11_goesOn (x := x) (y := y) hG hR hA hB hM (by omega) (by omega)) (by first | with_reducible assumption | rfl) rfl rfl rfl (Nat.le_of_ble_eq_true rfl) ⟨Nat.le_of_ble_eq_true rfl, Nat.le_of_ble_eq_true rfl⟩ ⟨Nat.le_of_ble_eq_true rfl, Nat.le_of_ble_eq_true rfl⟩ ?_
    rw [e2]
    refine V_if_eq 20 dX11_block_15 (by decide) (by omega) (fun _ => ?_) (fun h15 => absurd h15 ((by decide)))
    refine V_iconst dX11_block_20 ?_
    refine S_istore_n (ls' := [_, _, _, _]) dX11_block_21 ⟨Nat.le_of_ble_eq_true rfl, rfl, rfl⟩ rfl ?_
    exact loop 29 1 (by omega) (by omega) (by omega)
  · have eb : bkM n m A B O I lb x y = 0 := if_neg hs
    rw [eb]
    by_cases h1 : mvM n m A B O I x y
    · have h2 : goM n m A B O I x y := Decidable.byContradiction fun hc => hs ⟨h1, hc⟩
      have e1 : (if mvM n m A B O I x y then (1 : Int) else 0) = 1 := if_pos h1
      have e2 : (if goM n m A B O I x y then (1 : Int) else 0) = 1 := if_pos h2
      refine Ct.ofV (ini := false) [some (vr 62), some (vi x), some (vi y), none] km_X11_block (by decide) rfl (Nat.le_of_ble_eq_true rfl) ?_
      refine V_aload_n dX11_block_0 rfl ?_
      refine V_iload_n dX11_block_1 rfl ?_
      refine V_iload_n dX11_block_2 rfl ?_
      refine V_callVP dX11_block_3 ml_RX11_137 km_X11_moves kv_X11_moves (c_X11_moves (x := x) (y := y) hG hR hA hB hM (by omega) (by omega)) (by first | with_reducible assumption | rfl) rfl rfl rfl (Nat.le_of_ble_eq_true rfl) ⟨Nat.le_of_ble_eq_true rfl, Nat.le_of_ble_eq_true rfl⟩ ⟨Nat.le_of_ble_eq_true rfl, Nat.le_of_ble_eq_true rfl⟩ ?_
      rw [e1]
      refine V_if_eq 18 dX11_block_6 (by decide) (by omega) (fun h6 => absurd h6 ((by decide))) (fun _ => ?_)
      refine V_aload_n dX11_block_9 rfl ?_
      refine V_iload_n dX11_block_10 rfl ?_
      refine V_iload_n dX11_block_11 rfl ?_
      refine V_callVP dX11_block_12 ml_RX11_140 km_X11_goesOn kv_X11_goesOn (c_X11_goesOn (x := x) (y := y) hG hR hA hB hM (by omega) (by omega)) (by first | with_reducible assumption | rfl) rfl rfl rfl (Nat.le_of_ble_eq_true rfl) ⟨Nat.le_of_ble_eq_true rfl, Nat.le_of_ble_eq_true rfl⟩ ⟨Nat.le_of_ble_eq_true rfl, Nat.le_of_ble_eq_true rfl⟩ ?_
      rw [e2]
      refine V_if_eq 20 dX11_block_15 (by decide) (by omega) (fun h15 => absurd h15 ((by decide))) (fun _ => ?_)
      refine V_iconst dX11_block_18 ?_
      refine V_iret dX11_block_19 rfl ⟨Nat.le_of_ble_eq_true rfl, Nat.le_of_ble_eq_true rfl⟩ ?_
      exact ⟨rfl, rfl, rfl, rfl⟩
    · have e1 : (if mvM n m A B O I x y then (1 : Int) else 0) = 0 := if_neg h1
      refine Ct.ofV (ini := false) [some (vr 62), some (vi x), some (vi y), none] km_X11_block (by decide) rfl (Nat.le_of_ble_eq_true rfl) ?_
      refine V_aload_n dX11_block_0 rfl ?_
      refine V_iload_n dX11_block_1 rfl ?_
      refine V_iload_n dX11_block_2 rfl ?_
      refine V_callVP dX11_block_3 ml_RX11_137 km_X11_moves kv_X11_moves (c_X11_moves (x := x) (y := y) hG hR hA hB hM (by omega) (by omega)) (by first | with_reducible assumption | rfl) rfl rfl rfl (Nat.le_of_ble_eq_true rfl) ⟨Nat.le_of_ble_eq_true rfl, Nat.le_of_ble_eq_true rfl⟩ ⟨Nat.le_of_ble_eq_true rfl, Nat.le_of_ble_eq_true rfl⟩ ?_
      rw [e1]
      refine V_if_eq 18 dX11_block_6 (by decide) (by omega) (fun _ => ?_) (fun h6 => absurd h6 ((by decide)))
      refine V_iconst dX11_block_18 ?_
      refine V_iret dX11_block_19 rfl ⟨Nat.le_of_ble_eq_true rfl, Nat.le_of_ble_eq_true rfl⟩ ?_
      exact ⟨rfl, rfl, rfl, rfl⟩
end MODEL16
