/-! ===== DiagonalTextsModel: fewest edits by beginnings, ways ===== -/
/-- one letter more keeps at most one more -/
theorem lcN_st (A B : Int → Int) : ∀ s x y : Nat, x + y ≤ s → (lcN A B x y ≤ lcN A B (x + 1) y ∧ lcN A B (x + 1) y ≤ lcN A B x y + 1) ∧ (lcN A B x y ≤ lcN A B x (y + 1) ∧ lcN A B x (y + 1) ≤ lcN A B x y + 1) := by
  intro s
  induction s with
  | zero =>
    intro x y h
    have hx : x = 0 := by omega
    have hy : y = 0 := by omega
    subst hx hy
    rw [lcN_x0, lcN_x0, lcN_0y]
    omega
  | succ s ih =>
    intro x y h
    constructor
    · cases y with
      | zero => rw [lcN_x0, lcN_x0]; omega
      | succ y =>
        have h1 := ih x y (by omega)
        rw [lcN_s]
        by_cases ha : al A B x y
        · rw [if_pos ha]; omega
        · rw [if_neg ha]
          have h2 : lcN A B (x + 1) y ≤ lcN A B x (y + 1) + 1 := by omega
          omega
    · cases x with
      | zero => rw [lcN_0y, lcN_0y]; omega
      | succ x =>
        have h1 := ih x y (by omega)
        rw [lcN_s]
        by_cases ha : al A B x y
        · rw [if_pos ha]; omega
        · rw [if_neg ha]
          omega
section MODEL8
variable {mi mi1 mi2 mi3 mi4 : MI} {mr : MR} {n m n' m' tl D : Int} {A B A' B' Z T F : Int → Int} {hs hs' : List St} {u : Int × (Int → Int)} {σ : St}
def apN (A B : Int → Int) (x y : Nat) : Int := (x : Int) + y - 2 * lcN A B x y
def CtM (mi : MI) (A B : Int → Int) (n m : Int) (x y : Nat) : Prop := ∀ x' y' : Nat, (x' : Int) ≤ n → (y' : Int) ≤ m → (x' < x ∨ (x' = x ∧ y' < y)) → mi 69 (29 * (x' : Int) + y') = apN A B x' y' ∧ mi 70 (29 * (x' : Int) + y') = wyN A B x' y'
theorem CtM.put {x y : Nat} {a w : Int} (h : CtM mi A B n m x y) (hm : m ≤ 28) (hy : (y : Int) ≤ m) (ha : a = apN A B x y) (hw : w = wyN A B x y) : CtM (up2 (up2 mi 69 (29 * (x : Int) + y) a) 70 (29 * (x : Int) + y) w) A B n m x (y + 1) := by
  intro x' y' h1 h2 h3
  by_cases he : x' = x ∧ y' = y
  · obtain ⟨rfl, rfl⟩ := he
    exact ⟨by rw [up2_n _ _ _ (by decide), up2_ss, ha], by rw [up2_ss, hw]⟩
  · rw [up2_n _ _ _ (by decide), up2_sn _ _ _ (by omega), up2_sn _ _ _ (by omega), up2_n _ _ _ (by decide)]
    exact h x' y' h1 h2 (by omega)
set_option maxRecDepth 100000 in
set_option maxHeartbeats 2000000 in
theorem l_X11_counts {Q : PQ} (hG : Gr mr) (hR : RowM (mi 63) (n, m, A, B, Z)) (hA : NR n A) (hB : NR m B) (x : Nat) (hx : (x : Int) ≤ n) (o3 o4 o5 o7 o8 o9 : Option AV)
    (kk : ∀ (mi' : MI) (o2 o3 o4 o5 o6 o7 o8 o9 : Option AV), CtM mi' A B n m (x + 1) 0 → (∀ z, z ≠ 69 → z ≠ 70 → mi' z = mi z) → V (RX11, cX11_counts, 10, rm 2, false, none, (some .int)) Q 0 0 SH mi' mr [some (vr 62), some (vi x), o2, o3, o4, o5, o6, o7, o8, o9] [] 249) :
    ∀ (t y : Nat) (mi' : MI) (o3 o4 o5 o6 o7 o8 o9 : Option AV), (y : Int) ≤ m + 1 → m + 1 - y < t → CtM mi' A B n m x y → (∀ z, z ≠ 69 → z ≠ 70 → mi' z = mi z) → V (RX11, cX11_counts, 10, rm 2, false, none, (some .int)) Q 0 0 SH mi' mr [some (vr 62), some (vi x), some (vi y), o3, o4, o5, o6, o7, o8, o9] [] 14 := by
  have hn := hA.1
  have hm := hB.1
  intro t
  induction t with
  | zero => intro y mi' o3 o4 o5 o6 o7 o8 o9 a1 a2; omega
  | succ t ih =>
    intro y mi' o3 o4 o5 o6 o7 o8 o9 a1 a2 a3 a4
    have hR' : RowM (mi' 63) (n, m, A, B, Z) := by rw [a4 63 (by decide) (by decide)]; exact hR
    have q1 : mi' 63 1 = m := hR'.1.2
    have done : ∀ (a w : Int) (p3 p4 p5 p6 p7 p8 p9 : Option AV), (y : Int) ≤ m → a = apN A B x y → w = wyN A B x y → V (RX11, cX11_counts, 10, rm 2, false, none, (some .int)) Q 0 0 SH (up2 (up2 mi' 69 (29 * (x : Int) + y) a) 70 (29 * (x : Int) + y) w) mr [some (vr 62), some (vi x), some (vi ((y : Int) + 1)), p3, p4, p5, p6, p7, p8, p9] [] 14 := by
      intro a w p3 p4 p5 p6 p7 p8 p9 g1 g2 g3
      exact ih (y + 1) _ p3 p4 p5 p6 p7 p8 p9 (by omega) (by omega) (a3.put hm.2 g1 g2 g3) (fun z z1 z2 => by rw [up2_n _ _ _ z2, up2_n _ _ _ z1]; exact a4 z z1 z2)
    by_cases hend : m < y
    · refine V_iload_n dX11_counts_14 rfl ?_
      refine V_aload_n dX11_counts_15 rfl ?_
      refine V_getr 0 _ dX11_counts_16 fl_RX11_7 (by first | with_reducible assumption | rfl) rfl rfl (by first | with_reducible assumption | exact hG.at rfl) ?_
      refine V_iconst dX11_counts_19 ?_
      refine V_iald dX11_counts_20 (by first | with_reducible assumption | rfl) (by decide) (by omega) ?_
      rw [q1]
      refine V_icmp_gt 249 dX11_counts_21 (by decide) (by omega) (by omega) (fun _ => ?_) (fun h21 => absurd h21 ((not_not_intro hend)))
      refine kk mi' _ _ _ _ _ _ _ _ (fun x' y' h1 h2 h3 => a3 x' y' h1 h2 (by omega)) a4
    · by_cases hb : x = 0 ∨ y = 0
      · have ew : wyN A B x y = 1 := by
          rcases hb with rfl | rfl
          · rfl
          · exact wyN_x0 A B x
        have ea : apN A B x y = x + y := by
          unfold apN
          rcases hb with rfl | rfl
          · rw [lcN_0y]; omega
          · rw [lcN_x0]; omega
        refine V_iload_n dX11_counts_14 rfl ?_
        refine V_aload_n dX11_counts_15 rfl ?_
        refine V_getr 0 _ dX11_counts_16 fl_RX11_7 (by first | with_reducible assumption | rfl) rfl rfl (by first | with_reducible assumption | exact hG.at rfl) ?_
        refine V_iconst dX11_counts_19 ?_
        refine V_iald dX11_counts_20 (by first | with_reducible assumption | rfl) (by decide) (by omega) ?_
        rw [q1]
        refine V_icmp_gt 249 dX11_counts_21 (by decide) (by omega) (by omega) (fun h21 => absurd h21 (hend)) (fun _ => ?_)
        refine V_bipush dX11_counts_24 (by decide) ?_
        refine V_iload_n dX11_counts_26 rfl ?_
        refine V_imul dX11_counts_27 ?_
        refine V_iload_n dX11_counts_28 rfl ?_
        refine V_iadd dX11_counts_29 ?_
        refine S_istore_n (ls' := [_, _, _, _, _, _, _, _, _, _]) dX11_counts_30 ⟨Nat.le_of_ble_eq_true rfl, rfl, rfl⟩ rfl ?_
        refine V_iload_n dX11_counts_31 rfl ?_
        refine V_iload_n dX11_counts_32 rfl ?_
        refine V_iadd dX11_counts_33 ?_
        refine S_istore (ls' := [_, _, _, _, _, _, _, _, _, _]) dX11_counts_34 ⟨Nat.le_of_ble_eq_true rfl, rfl, rfl⟩ rfl ?_
        refine V_iload_n dX11_counts_36 rfl ?_
        refine V_iload_n dX11_counts_37 rfl ?_
        refine V_iadd dX11_counts_38 ?_
        refine V_if_eq 50 dX11_counts_39 (by decide) (by omega) (fun h39 => ?_) (fun h39 => ?_)
        · refine V_lconst 1 dX11_counts_50 rfl ?_
          refine V_goto 55 dX11_counts_51 (by decide) ?_
          refine S_lstore (ls' := [_, _, _, _, _, _, _, _, _, _]) dX11_counts_55 ⟨Nat.le_of_ble_eq_true rfl, rfl, rfl⟩ rfl ?_
          refine V_iload_n dX11_counts_57 rfl ?_
          refine V_if_le 227 dX11_counts_58 (by decide) (by omega) (fun h58 => ?_) (fun h58 => ?_)
          · refine V_aload_n dX11_counts_227 rfl ?_
            refine V_getr 14 _ dX11_counts_228 fl_RX11_29 (by first | with_reducible assumption | rfl) rfl rfl (by first | with_reducible assumption | exact hG.at rfl) ?_
            refine V_iload_n dX11_counts_231 rfl ?_
            refine V_iload dX11_counts_232 rfl ?_
            refine V_iast dX11_counts_234 (by first | with_reducible assumption | rfl) (by decide) (by omega) ?_
            refine V_aload_n dX11_counts_235 rfl ?_
            refine V_getr 15 _ dX11_counts_236 fl_RX11_32 (by first | with_reducible assumption | rfl) rfl rfl (by first | with_reducible assumption | exact hG.at rfl) ?_
            refine V_iload_n dX11_counts_239 rfl ?_
            refine V_lload dX11_counts_240 rfl ?_
            refine V_last dX11_counts_242 (by first | with_reducible assumption | rfl) (by decide) (by omega) ?_
            refine S_iinc (ls' := [_, _, _, _, _, _, _, _, _, _]) dX11_counts_243 rfl ⟨rfl, rfl⟩ rfl ?_
            refine V_goto 14 dX11_counts_246 (by decide) ?_
            first | exact done _ _ _ _ _ _ _ _ _ (by omega) ea.symm ew.symm | (exfalso; omega)
          · refine V_iload_n dX11_counts_61 rfl ?_
            refine V_if_le 227 dX11_counts_62 (by decide) (by omega) (fun h62 => ?_) (fun h62 => ?_)
            · refine V_aload_n dX11_counts_227 rfl ?_
              refine V_getr 14 _ dX11_counts_228 fl_RX11_29 (by first | with_reducible assumption | rfl) rfl rfl (by first | with_reducible assumption | exact hG.at rfl) ?_
              refine V_iload_n dX11_counts_231 rfl ?_
              refine V_iload dX11_counts_232 rfl ?_
              refine V_iast dX11_counts_234 (by first | with_reducible assumption | rfl) (by decide) (by omega) ?_
              refine V_aload_n dX11_counts_235 rfl ?_
              refine V_getr 15 _ dX11_counts_236 fl_RX11_32 (by first | with_reducible assumption | rfl) rfl rfl (by first | with_reducible assumption | exact hG.at rfl) ?_
              refine V_iload_n dX11_counts_239 rfl ?_
              refine V_lload dX11_counts_240 rfl ?_
              refine V_last dX11_counts_242 (by first | with_reducible assumption | rfl) (by decide) (by omega) ?_
              refine S_iinc (ls' := [_, _, _, _, _, _, _, _, _, _]) dX11_counts_243 rfl ⟨rfl, rfl⟩ rfl ?_
              refine V_goto 14 dX11_counts_246 (by decide) ?_
              first | exact done _ _ _ _ _ _ _ _ _ (by omega) ea.symm ew.symm | (exfalso; omega)
            · omega
        · refine V_iload_n dX11_counts_42 rfl ?_
          refine V_if_eq 50 dX11_counts_43 (by decide) (by omega) (fun h43 => ?_) (fun h43 => ?_)
          · refine V_lconst 1 dX11_counts_50 rfl ?_
            refine V_goto 55 dX11_counts_51 (by decide) ?_
            refine S_lstore (ls' := [_, _, _, _, _, _, _, _, _, _]) dX11_counts_55 ⟨Nat.le_of_ble_eq_true rfl, rfl, rfl⟩ rfl ?_
            refine V_iload_n dX11_counts_57 rfl ?_
            refine V_if_le 227 dX11_counts_58 (by decide) (by omega) (fun h58 => ?_) (fun h58 => ?_)
            · refine V_aload_n dX11_counts_227 rfl ?_
              refine V_getr 14 _ dX11_counts_228 fl_RX11_29 (by first | with_reducible assumption | rfl) rfl rfl (by first | with_reducible assumption | exact hG.at rfl) ?_
              refine V_iload_n dX11_counts_231 rfl ?_
              refine V_iload dX11_counts_232 rfl ?_
              refine V_iast dX11_counts_234 (by first | with_reducible assumption | rfl) (by decide) (by omega) ?_
              refine V_aload_n dX11_counts_235 rfl ?_
              refine V_getr 15 _ dX11_counts_236 fl_RX11_32 (by first | with_reducible assumption | rfl) rfl rfl (by first | with_reducible assumption | exact hG.at rfl) ?_
              refine V_iload_n dX11_counts_239 rfl ?_
              refine V_lload dX11_counts_240 rfl ?_
              refine V_last dX11_counts_242 (by first | with_reducible assumption | rfl) (by decide) (by omega) ?_
              refine S_iinc (ls' := [_, _, _, _, _, _, _, _, _, _]) dX11_counts_243 rfl ⟨rfl, rfl⟩ rfl ?_
              refine V_goto 14 dX11_counts_246 (by decide) ?_
              first | exact done _ _ _ _ _ _ _ _ _ (by omega) ea.symm ew.symm | (exfalso; omega)
            · refine V_iload_n dX11_counts_61 rfl ?_
              refine V_if_le 227 dX11_counts_62 (by decide) (by omega) (fun h62 => ?_) (fun h62 => ?_)
              · refine V_aload_n dX11_counts_227 rfl ?_
                refine V_getr 14 _ dX11_counts_228 fl_RX11_29 (by first | with_reducible assumption | rfl) rfl rfl (by first | with_reducible assumption | exact hG.at rfl) ?_
                refine V_iload_n dX11_counts_231 rfl ?_
                refine V_iload dX11_counts_232 rfl ?_
                refine V_iast dX11_counts_234 (by first | with_reducible assumption | rfl) (by decide) (by omega) ?_
                refine V_aload_n dX11_counts_235 rfl ?_
                refine V_getr 15 _ dX11_counts_236 fl_RX11_32 (by first | with_reducible assumption | rfl) rfl rfl (by first | with_reducible assumption | exact hG.at rfl) ?_
                refine V_iload_n dX11_counts_239 rfl ?_
                refine V_lload dX11_counts_240 rfl ?_
                refine V_last dX11_counts_242 (by first | with_reducible assumption | rfl) (by decide) (by omega) ?_
                refine S_iinc (ls' := [_, _, _, _, _, _, _, _, _, _]) dX11_counts_243 rfl ⟨rfl, rfl⟩ rfl ?_
                refine V_goto 14 dX11_counts_246 (by decide) ?_
                first | exact done _ _ _ _ _ _ _ _ _ (by omega) ea.symm ew.symm | (exfalso; omega)
              · omega
          · refine V_iload_n dX11_counts_46 rfl ?_
            refine V_if_ne 54 dX11_counts_47 (by decide) (by omega) (fun h47 => ?_) (fun h47 => ?_)
            · refine V_lconst 0 dX11_counts_54 rfl ?_
              refine S_lstore (ls' := [_, _, _, _, _, _, _, _, _, _]) dX11_counts_55 ⟨Nat.le_of_ble_eq_true rfl, rfl, rfl⟩ rfl ?_
              refine V_iload_n dX11_counts_57 rfl ?_
              refine V_if_le 227 dX11_counts_58 (by decide) (by omega) (fun h58 => ?_) (fun h58 => ?_)
              · refine V_aload_n dX11_counts_227 rfl ?_
                refine V_getr 14 _ dX11_counts_228 fl_RX11_29 (by first | with_reducible assumption | rfl) rfl rfl (by first | with_reducible assumption | exact hG.at rfl) ?_
                refine V_iload_n dX11_counts_231 rfl ?_
                refine V_iload dX11_counts_232 rfl ?_
                refine V_iast dX11_counts_234 (by first | with_reducible assumption | rfl) (by decide) (by omega) ?_
                refine V_aload_n dX11_counts_235 rfl ?_
                refine V_getr 15 _ dX11_counts_236 fl_RX11_32 (by first | with_reducible assumption | rfl) rfl rfl (by first | with_reducible assumption | exact hG.at rfl) ?_
                refine V_iload_n dX11_counts_239 rfl ?_
                refine V_lload dX11_counts_240 rfl ?_
                refine V_last dX11_counts_242 (by first | with_reducible assumption | rfl) (by decide) (by omega) ?_
                refine S_iinc (ls' := [_, _, _, _, _, _, _, _, _, _]) dX11_counts_243 rfl ⟨rfl, rfl⟩ rfl ?_
                refine V_goto 14 dX11_counts_246 (by decide) ?_
                first | exact done _ _ _ _ _ _ _ _ _ (by omega) ea.symm ew.symm | (exfalso; omega)
              · refine V_iload_n dX11_counts_61 rfl ?_
                refine V_if_le 227 dX11_counts_62 (by decide) (by omega) (fun h62 => ?_) (fun h62 => ?_)
                · refine V_aload_n dX11_counts_227 rfl ?_
                  refine V_getr 14 _ dX11_counts_228 fl_RX11_29 (by first | with_reducible assumption | rfl) rfl rfl (by first | with_reducible assumption | exact hG.at rfl) ?_
                  refine V_iload_n dX11_counts_231 rfl ?_
                  refine V_iload dX11_counts_232 rfl ?_
                  refine V_iast dX11_counts_234 (by first | with_reducible assumption | rfl) (by decide) (by omega) ?_
                  refine V_aload_n dX11_counts_235 rfl ?_
                  refine V_getr 15 _ dX11_counts_236 fl_RX11_32 (by first | with_reducible assumption | rfl) rfl rfl (by first | with_reducible assumption | exact hG.at rfl) ?_
                  refine V_iload_n dX11_counts_239 rfl ?_
                  refine V_lload dX11_counts_240 rfl ?_
                  refine V_last dX11_counts_242 (by first | with_reducible assumption | rfl) (by decide) (by omega) ?_
                  refine S_iinc (ls' := [_, _, _, _, _, _, _, _, _, _]) dX11_counts_243 rfl ⟨rfl, rfl⟩ rfl ?_
                  refine V_goto 14 dX11_counts_246 (by decide) ?_
                  first | exact done _ _ _ _ _ _ _ _ _ (by omega) ea.symm ew.symm | (exfalso; omega)
                · omega
            · refine V_lconst 1 dX11_counts_50 rfl ?_
              refine V_goto 55 dX11_counts_51 (by decide) ?_
              refine S_lstore (ls' := [_, _, _, _, _, _, _, _, _, _]) dX11_counts_55 ⟨Nat.le_of_ble_eq_true rfl, rfl, rfl⟩ rfl ?_
              refine V_iload_n dX11_counts_57 rfl ?_
              refine V_if_le 227 dX11_counts_58 (by decide) (by omega) (fun h58 => ?_) (fun h58 => ?_)
              · refine V_aload_n dX11_counts_227 rfl ?_
                refine V_getr 14 _ dX11_counts_228 fl_RX11_29 (by first | with_reducible assumption | rfl) rfl rfl (by first | with_reducible assumption | exact hG.at rfl) ?_
                refine V_iload_n dX11_counts_231 rfl ?_
                refine V_iload dX11_counts_232 rfl ?_
                refine V_iast dX11_counts_234 (by first | with_reducible assumption | rfl) (by decide) (by omega) ?_
                refine V_aload_n dX11_counts_235 rfl ?_
                refine V_getr 15 _ dX11_counts_236 fl_RX11_32 (by first | with_reducible assumption | rfl) rfl rfl (by first | with_reducible assumption | exact hG.at rfl) ?_
                refine V_iload_n dX11_counts_239 rfl ?_
                refine V_lload dX11_counts_240 rfl ?_
                refine V_last dX11_counts_242 (by first | with_reducible assumption | rfl) (by decide) (by omega) ?_
                refine S_iinc (ls' := [_, _, _, _, _, _, _, _, _, _]) dX11_counts_243 rfl ⟨rfl, rfl⟩ rfl ?_
                refine V_goto 14 dX11_counts_246 (by decide) ?_
                first | exact done _ _ _ _ _ _ _ _ _ (by omega) ea.symm ew.symm | (exfalso; omega)
              · refine V_iload_n dX11_counts_61 rfl ?_
                refine V_if_le 227 dX11_counts_62 (by decide) (by omega) (fun h62 => ?_) (fun h62 => ?_)
                · refine V_aload_n dX11_counts_227 rfl ?_
                  refine V_getr 14 _ dX11_counts_228 fl_RX11_29 (by first | with_reducible assumption | rfl) rfl rfl (by first | with_reducible assumption | exact hG.at rfl) ?_
                  refine V_iload_n dX11_counts_231 rfl ?_
                  refine V_iload dX11_counts_232 rfl ?_
                  refine V_iast dX11_counts_234 (by first | with_reducible assumption | rfl) (by decide) (by omega) ?_
                  refine V_aload_n dX11_counts_235 rfl ?_
                  refine V_getr 15 _ dX11_counts_236 fl_RX11_32 (by first | with_reducible assumption | rfl) rfl rfl (by first | with_reducible assumption | exact hG.at rfl) ?_
                  refine V_iload_n dX11_counts_239 rfl ?_
                  refine V_lload dX11_counts_240 rfl ?_
                  refine V_last dX11_counts_242 (by first | with_reducible assumption | rfl) (by decide) (by omega) ?_
                  refine S_iinc (ls' := [_, _, _, _, _, _, _, _, _, _]) dX11_counts_243 rfl ⟨rfl, rfl⟩ rfl ?_
                  refine V_goto 14 dX11_counts_246 (by decide) ?_
                  first | exact done _ _ _ _ _ _ _ _ _ (by omega) ea.symm ew.symm | (exfalso; omega)
                · omega
      · obtain ⟨xx, rfl⟩ : ∃ xx, x = xx + 1 := ⟨x - 1, by omega⟩
        obtain ⟨yy, rfl⟩ : ∃ yy, y = yy + 1 := ⟨y - 1, by omega⟩
        obtain ⟨c1, c2⟩ := a3 xx (yy + 1) (by omega) (by omega) (by omega)
        obtain ⟨c3, c4⟩ := a3 (xx + 1) yy (by omega) (by omega) (by omega)
        obtain ⟨c5, c6⟩ := a3 xx yy (by omega) (by omega) (by omega)
        have i1 : 29 * ((xx + 1 : Nat) : Int) + ((yy + 1 : Nat) : Int) - 29 = 29 * (xx : Int) + ((yy + 1 : Nat) : Int) := by omega
        have i2 : 29 * ((xx + 1 : Nat) : Int) + ((yy + 1 : Nat) : Int) - 1 = 29 * ((xx + 1 : Nat) : Int) + (yy : Int) := by omega
        have i3 : 29 * ((xx + 1 : Nat) : Int) + ((yy + 1 : Nat) : Int) - 30 = 29 * (xx : Int) + (yy : Int) := by omega
        have s1 := lcN_st A B (xx + yy) xx yy (by omega)
        have s2 := lcN_st A B (xx + yy + 1) xx (yy + 1) (by omega)
        have s3 := lcN_st A B (xx + yy + 1) (xx + 1) yy (by omega)
        have z1 := lcN_r A B xx yy
        have z2 := lcN_r A B (xx + 1) yy
        have z3 := lcN_r A B xx (yy + 1)
        have es := lcN_s A B xx yy
        have ews := wyN_s A B xx yy
        have ex1 : ((xx + 1 : Nat) : Int) - 1 = xx := by omega
        have ey1 : ((yy + 1 : Nat) : Int) - 1 = yy := by omega
        have ap1 : apN A B xx (yy + 1) = xx + yy + 1 - 2 * lcN A B xx (yy + 1) := by unfold apN; omega
        have ap2 : apN A B (xx + 1) yy = xx + yy + 1 - 2 * lcN A B (xx + 1) yy := by unfold apN; omega
        have ap3 : apN A B xx yy = xx + yy - 2 * lcN A B xx yy := by unfold apN; omega
        have ap4 : apN A B (xx + 1) (yy + 1) = xx + yy + 2 - 2 * lcN A B (xx + 1) (yy + 1) := by unfold apN; omega
        by_cases ha : al A B xx yy
        · rw [if_pos ha] at es
          rw [if_pos ha] at ews
          have e1 : (if al A B xx yy then (1 : Int) else 0) = 1 := if_pos ha
          refine V_iload_n dX11_counts_14 rfl ?_
          refine V_aload_n dX11_counts_15 rfl ?_
          refine V_getr 0 _ dX11_counts_16 fl_RX11_7 (by first | with_reducible assumption | rfl) rfl rfl (by first | with_reducible assumption | exact hG.at rfl) ?_
          refine V_iconst dX11_counts_19 ?_
          refine V_iald dX11_counts_20 (by first | with_reducible assumption | rfl) (by decide) (by omega) ?_
          rw [q1]
          refine V_icmp_gt 249 dX11_counts_21 (by decide) (by omega) (by omega) (fun h21 => absurd h21 (hend)) (fun _ => ?_)
          refine V_bipush dX11_counts_24 (by decide) ?_
          refine V_iload_n dX11_counts_26 rfl ?_
          refine V_imul dX11_counts_27 ?_
          refine V_iload_n dX11_counts_28 rfl ?_
          refine V_iadd dX11_counts_29 ?_
          refine S_istore_n (ls' := [_, _, _, _, _, _, _, _, _, _]) dX11_counts_30 ⟨Nat.le_of_ble_eq_true rfl, rfl, rfl⟩ rfl ?_
          refine V_iload_n dX11_counts_31 rfl ?_
          refine V_iload_n dX11_counts_32 rfl ?_
          refine V_iadd dX11_counts_33 ?_
          refine S_istore (ls' := [_, _, _, _, _, _, _, _, _, _]) dX11_counts_34 ⟨Nat.le_of_ble_eq_true rfl, rfl, rfl⟩ rfl ?_
          refine V_iload_n dX11_counts_36 rfl ?_
          refine V_iload_n dX11_counts_37 rfl ?_
          refine V_iadd dX11_counts_38 ?_
          refine V_if_eq 50 dX11_counts_39 (by decide) (by omega) (fun h39 => absurd h39 ((by omega))) (fun _ => ?_)
          refine V_iload_n dX11_counts_42 rfl ?_
          refine V_if_eq 50 dX11_counts_43 (by decide) (by omega) (fun h43 => absurd h43 ((by omega))) (fun _ => ?_)
          refine V_iload_n dX11_counts_46 rfl ?_
          refine V_if_ne 54 dX11_counts_47 (by decide) (by omega) (fun _ => ?_) (fun h47 => absurd h47 ((by omega)))
          refine V_lconst 0 dX11_counts_54 rfl ?_
          refine S_lstore (ls' := [_, _, _, _, _, _, _, _, _, _]) dX11_counts_55 ⟨Nat.le_of_ble_eq_true rfl, rfl, rfl⟩ rfl ?_
          refine V_iload_n dX11_counts_57 rfl ?_
          refine V_if_le 227 dX11_counts_58 (by decide) (by omega) (fun h58 => absurd h58 ((by omega))) (fun _ => ?_)
          refine V_iload_n dX11_counts_61 rfl ?_
          refine V_if_le 227 dX11_counts_62 (by decide) (by omega) (fun h62 => absurd h62 ((by omega))) (fun _ => ?_)
          refine V_aload_n dX11_counts_65 rfl ?_
          refine V_getr 14 _ dX11_counts_66 fl_RX11_29 (by first | with_reducible assumption | rfl) rfl rfl (by first | with_reducible assumption | exact hG.at rfl) ?_
          refine V_iload_n dX11_counts_69 rfl ?_
          refine V_bipush dX11_counts_70 (by decide) ?_
          refine V_isub dX11_counts_72 ?_
          refine V_iald dX11_counts_73 (by first | with_reducible assumption | rfl) (by decide) (by omega) ?_
          rw [i1, c1]
          refine V_iconst dX11_counts_74 ?_
          refine V_iadd dX11_counts_75 ?_
          refine S_istore (ls' := [_, _, _, _, _, _, _, _, _, _]) dX11_counts_76 ⟨Nat.le_of_ble_eq_true rfl, rfl, rfl⟩ rfl ?_
          refine V_aload_n dX11_counts_78 rfl ?_
          refine V_getr 14 _ dX11_counts_79 fl_RX11_29 (by first | with_reducible assumption | rfl) rfl rfl (by first | with_reducible assumption | exact hG.at rfl) ?_
          refine V_iload_n dX11_counts_82 rfl ?_
          refine V_iconst dX11_counts_83 ?_
          refine V_isub dX11_counts_84 ?_
          refine V_iald dX11_counts_85 (by first | with_reducible assumption | rfl) (by decide) (by omega) ?_
          rw [i2, c3]
          refine V_iconst dX11_counts_86 ?_
          refine V_iadd dX11_counts_87 ?_
          refine S_istore (ls' := [_, _, _, _, _, _, _, _, _, _]) dX11_counts_88 ⟨Nat.le_of_ble_eq_true rfl, rfl, rfl⟩ rfl ?_
          refine V_aload_n dX11_counts_90 rfl ?_
          refine V_iload_n dX11_counts_91 rfl ?_
          refine V_iconst dX11_counts_92 ?_
          refine V_isub dX11_counts_93 ?_
          refine V_iload_n dX11_counts_94 rfl ?_
          refine V_iconst dX11_counts_95 ?_
          refine V_isub dX11_counts_96 ?_
          refine V_callVP dX11_counts_97 ml_RX11_71 km_X11_alike kv_X11_alike (c_X11_alike (x := ((xx + 1 : Nat) : Int) - 1) (y := ((yy + 1 : Nat) : Int) - 1) hG hR' hA hB (by omega) (by omega)) (by first | with_reducible assumption | rfl) rfl rfl rfl (Nat.le_of_ble_eq_true rfl) ⟨Nat.le_of_ble_eq_true rfl, Nat.le_of_ble_eq_true rfl⟩ ⟨Nat.le_of_ble_eq_true rfl, Nat.le_of_ble_eq_true rfl⟩ ?_
          rw [ex1, ey1, e1]
          refine V_if_eq 115 dX11_counts_100 (by decide) (by omega) (fun h100 => absurd h100 ((by decide))) (fun _ => ?_)
          refine V_aload_n dX11_counts_103 rfl ?_
          refine V_getr 14 _ dX11_counts_104 fl_RX11_29 (by first | with_reducible assumption | rfl) rfl rfl (by first | with_reducible assumption | exact hG.at rfl) ?_
          refine V_iload_n dX11_counts_107 rfl ?_
          refine V_bipush dX11_counts_108 (by decide) ?_
          refine V_isub dX11_counts_110 ?_
          refine V_iald dX11_counts_111 (by first | with_reducible assumption | rfl) (by decide) (by omega) ?_
          rw [i3, c5]
          refine V_goto 117 dX11_counts_112 (by decide) ?_
          refine S_istore (ls' := [_, _, _, _, _, _, _, _, _, _]) dX11_counts_117 ⟨Nat.le_of_ble_eq_true rfl, rfl, rfl⟩ rfl ?_
          refine V_iload dX11_counts_119 rfl ?_
          refine V_iload dX11_counts_121 rfl ?_
          refine V_icmp_ge 131 dX11_counts_123 (by decide) (by omega) (by omega) (fun h123 => ?_) (fun h123 => ?_)
          · refine V_iload dX11_counts_131 rfl ?_
            refine S_istore (ls' := [_, _, _, _, _, _, _, _, _, _]) dX11_counts_133 ⟨Nat.le_of_ble_eq_true rfl, rfl, rfl⟩ rfl ?_
            refine V_iload dX11_counts_135 rfl ?_
            refine V_iload dX11_counts_137 rfl ?_
            refine V_icmp_ge 147 dX11_counts_139 (by decide) (by omega) (by omega) (fun h139 => ?_) (fun h139 => ?_)
            · refine V_iload dX11_counts_147 rfl ?_
              refine S_istore (ls' := [_, _, _, _, _, _, _, _, _, _]) dX11_counts_149 ⟨Nat.le_of_ble_eq_true rfl, rfl, rfl⟩ rfl ?_
              refine V_iload dX11_counts_151 rfl ?_
              refine V_iload dX11_counts_153 rfl ?_
              refine V_icmp_ne 170 dX11_counts_155 (by decide) (by omega) (by omega) (fun h155 => ?_) (fun h155 => ?_)
              · refine V_lconst 0 dX11_counts_170 rfl ?_
                refine V_iload dX11_counts_171 rfl ?_
                refine V_iload dX11_counts_173 rfl ?_
                refine V_icmp_ne 189 dX11_counts_175 (by decide) (by omega) (by omega) (fun h175 => ?_) (fun h175 => ?_)
                · refine V_lconst 0 dX11_counts_189 rfl ?_
                  refine V_ladd dX11_counts_190 ?_
                  refine V_aload_n dX11_counts_191 rfl ?_
                  refine V_iload_n dX11_counts_192 rfl ?_
                  refine V_iconst dX11_counts_193 ?_
                  refine V_isub dX11_counts_194 ?_
                  refine V_iload_n dX11_counts_195 rfl ?_
                  refine V_iconst dX11_counts_196 ?_
                  refine V_isub dX11_counts_197 ?_
                  refine V_callVP dX11_counts_198 ml_RX11_71 km_X11_alike kv_X11_alike (c_X11_alike (x := ((xx + 1 : Nat) : Int) - 1) (y := ((yy + 1 : Nat) : Int) - 1) hG hR' hA hB (by omega) (by omega)) (by first | with_reducible assumption | rfl) rfl rfl rfl (Nat.le_of_ble_eq_true rfl) ⟨Nat.le_of_ble_eq_true rfl, Nat.le_of_ble_eq_true rfl⟩ ⟨Nat.le_of_ble_eq_true rfl, Nat.le_of_ble_eq_true rfl⟩ ?_
                  rw [ex1, ey1, e1]
                  refine V_if_eq 223 dX11_counts_201 (by decide) (by omega) (fun h201 => absurd h201 ((by decide))) (fun _ => ?_)
                  refine V_iload dX11_counts_204 rfl ?_
                  refine V_iload dX11_counts_206 rfl ?_
                  refine V_icmp_ne 223 dX11_counts_208 (by decide) (by omega) (by omega) (fun h208 => ?_) (fun h208 => ?_)
                  · refine V_lconst 0 dX11_counts_223 rfl ?_
                    refine V_ladd dX11_counts_224 ?_
                    refine S_lstore (ls' := [_, _, _, _, _, _, _, _, _, _]) dX11_counts_225 ⟨Nat.le_of_ble_eq_true rfl, rfl, rfl⟩ rfl ?_
                    refine V_aload_n dX11_counts_227 rfl ?_
                    refine V_getr 14 _ dX11_counts_228 fl_RX11_29 (by first | with_reducible assumption | rfl) rfl rfl (by first | with_reducible assumption | exact hG.at rfl) ?_
                    refine V_iload_n dX11_counts_231 rfl ?_
                    refine V_iload dX11_counts_232 rfl ?_
                    refine V_iast dX11_counts_234 (by first | with_reducible assumption | rfl) (by decide) (by omega) ?_
                    refine V_aload_n dX11_counts_235 rfl ?_
                    refine V_getr 15 _ dX11_counts_236 fl_RX11_32 (by first | with_reducible assumption | rfl) rfl rfl (by first | with_reducible assumption | exact hG.at rfl) ?_
                    refine V_iload_n dX11_counts_239 rfl ?_
                    refine V_lload dX11_counts_240 rfl ?_
                    refine V_last dX11_counts_242 (by first | with_reducible assumption | rfl) (by decide) (by omega) ?_
                    refine S_iinc (ls' := [_, _, _, _, _, _, _, _, _, _]) dX11_counts_243 rfl ⟨rfl, rfl⟩ rfl ?_
                    refine V_goto 14 dX11_counts_246 (by decide) ?_
                    first | (exfalso; omega) | exact done _ _ _ _ _ _ _ _ _ (by omega) (by omega) (by rw [ews]; split <;> split <;> omega)
                  · refine V_aload_n dX11_counts_211 rfl ?_
                    refine V_getr 15 _ dX11_counts_212 fl_RX11_32 (by first | with_reducible assumption | rfl) rfl rfl (by first | with_reducible assumption | exact hG.at rfl) ?_
                    refine V_iload_n dX11_counts_215 rfl ?_
                    refine V_bipush dX11_counts_216 (by decide) ?_
                    refine V_isub dX11_counts_218 ?_
                    refine V_lald dX11_counts_219 (by first | with_reducible assumption | rfl) (by decide) (by omega) ?_
                    rw [i3, c6]
                    refine V_goto 224 dX11_counts_220 (by decide) ?_
                    refine V_ladd dX11_counts_224 ?_
                    refine S_lstore (ls' := [_, _, _, _, _, _, _, _, _, _]) dX11_counts_225 ⟨Nat.le_of_ble_eq_true rfl, rfl, rfl⟩ rfl ?_
                    refine V_aload_n dX11_counts_227 rfl ?_
                    refine V_getr 14 _ dX11_counts_228 fl_RX11_29 (by first | with_reducible assumption | rfl) rfl rfl (by first | with_reducible assumption | exact hG.at rfl) ?_
                    refine V_iload_n dX11_counts_231 rfl ?_
                    refine V_iload dX11_counts_232 rfl ?_
                    refine V_iast dX11_counts_234 (by first | with_reducible assumption | rfl) (by decide) (by omega) ?_
                    refine V_aload_n dX11_counts_235 rfl ?_
                    refine V_getr 15 _ dX11_counts_236 fl_RX11_32 (by first | with_reducible assumption | rfl) rfl rfl (by first | with_reducible assumption | exact hG.at rfl) ?_
                    refine V_iload_n dX11_counts_239 rfl ?_
                    refine V_lload dX11_counts_240 rfl ?_
                    refine V_last dX11_counts_242 (by first | with_reducible assumption | rfl) (by decide) (by omega) ?_
                    refine S_iinc (ls' := [_, _, _, _, _, _, _, _, _, _]) dX11_counts_243 rfl ⟨rfl, rfl⟩ rfl ?_
                    refine V_goto 14 dX11_counts_246 (by decide) ?_
                    first | (exfalso; omega) | exact done _ _ _ _ _ _ _ _ _ (by omega) (by omega) (by rw [ews]; split <;> split <;> omega)
                · refine V_aload_n dX11_counts_178 rfl ?_
                  refine V_getr 15 _ dX11_counts_179 fl_RX11_32 (by first | with_reducible assumption | rfl) rfl rfl (by first | with_reducible assumption | exact hG.at rfl) ?_
                  refine V_iload_n dX11_counts_182 rfl ?_
                  refine V_iconst dX11_counts_183 ?_
                  refine V_isub dX11_counts_184 ?_
                  refine V_lald dX11_counts_185 (by first | with_reducible assumption | rfl) (by decide) (by omega) ?_
                  rw [i2, c4]
                  refine V_goto 190 dX11_counts_186 (by decide) ?_
                  refine V_ladd dX11_counts_190 ?_
                  refine V_aload_n dX11_counts_191 rfl ?_
                  refine V_iload_n dX11_counts_192 rfl ?_
                  refine V_iconst dX11_counts_193 ?_
                  refine V_isub dX11_counts_194 ?_
                  refine V_iload_n dX11_counts_195 rfl ?_
                  refine V_iconst dX11_counts_196 ?_
                  refine V_isub dX11_counts_197 ?_
                  refine V_callVP dX11_counts_198 ml_RX11_71 km_X11_alike kv_X11_alike (c_X11_alike (x := ((xx + 1 : Nat) : Int) - 1) (y := ((yy + 1 : Nat) : Int) - 1) hG hR' hA hB (by omega) (by omega)) (by first | with_reducible assumption | rfl) rfl rfl rfl (Nat.le_of_ble_eq_true rfl) ⟨Nat.le_of_ble_eq_true rfl, Nat.le_of_ble_eq_true rfl⟩ ⟨Nat.le_of_ble_eq_true rfl, Nat.le_of_ble_eq_true rfl⟩ ?_
                  rw [ex1, ey1, e1]
                  refine V_if_eq 223 dX11_counts_201 (by decide) (by omega) (fun h201 => absurd h201 ((by decide))) (fun _ => ?_)
                  refine V_iload dX11_counts_204 rfl ?_
                  refine V_iload dX11_counts_206 rfl ?_
                  refine V_icmp_ne 223 dX11_counts_208 (by decide) (by omega) (by omega) (fun h208 => ?_) (fun h208 => ?_)
                  · refine V_lconst 0 dX11_counts_223 rfl ?_
                    refine V_ladd dX11_counts_224 ?_
                    refine S_lstore (ls' := [_, _, _, _, _, _, _, _, _, _]) dX11_counts_225 ⟨Nat.le_of_ble_eq_true rfl, rfl, rfl⟩ rfl ?_
                    refine V_aload_n dX11_counts_227 rfl ?_
                    refine V_getr 14 _ dX11_counts_228 fl_RX11_29 (by first | with_reducible assumption | rfl) rfl rfl (by first | with_reducible assumption | exact hG.at rfl) ?_
                    refine V_iload_n dX11_counts_231 rfl ?_
                    refine V_iload dX11_counts_232 rfl ?_
                    refine V_iast dX11_counts_234 (by first | with_reducible assumption | rfl) (by decide) (by omega) ?_
                    refine V_aload_n dX11_counts_235 rfl ?_
                    refine V_getr 15 _ dX11_counts_236 fl_RX11_32 (by first | with_reducible assumption | rfl) rfl rfl (by first | with_reducible assumption | exact hG.at rfl) ?_
                    refine V_iload_n dX11_counts_239 rfl ?_
                    refine V_lload dX11_counts_240 rfl ?_
                    refine V_last dX11_counts_242 (by first | with_reducible assumption | rfl) (by decide) (by omega) ?_
                    refine S_iinc (ls' := [_, _, _, _, _, _, _, _, _, _]) dX11_counts_243 rfl ⟨rfl, rfl⟩ rfl ?_
                    refine V_goto 14 dX11_counts_246 (by decide) ?_
                    first | (exfalso; omega) | exact done _ _ _ _ _ _ _ _ _ (by omega) (by omega) (by rw [ews]; split <;> split <;> omega)
                  · refine V_aload_n dX11_counts_211 rfl ?_
                    refine V_getr 15 _ dX11_counts_212 fl_RX11_32 (by first | with_reducible assumption | rfl) rfl rfl (by first | with_reducible assumption | exact hG.at rfl) ?_
                    refine V_iload_n dX11_counts_215 rfl ?_
                    refine V_bipush dX11_counts_216 (by decide) ?_
                    refine V_isub dX11_counts_218 ?_
                    refine V_lald dX11_counts_219 (by first | with_reducible assumption | rfl) (by decide) (by omega) ?_
                    rw [i3, c6]
                    refine V_goto 224 dX11_counts_220 (by decide) ?_
                    refine V_ladd dX11_counts_224 ?_
                    refine S_lstore (ls' := [_, _, _, _, _, _, _, _, _, _]) dX11_counts_225 ⟨Nat.le_of_ble_eq_true rfl, rfl, rfl⟩ rfl ?_
                    refine V_aload_n dX11_counts_227 rfl ?_
                    refine V_getr 14 _ dX11_counts_228 fl_RX11_29 (by first | with_reducible assumption | rfl) rfl rfl (by first | with_reducible assumption | exact hG.at rfl) ?_
                    refine V_iload_n dX11_counts_231 rfl ?_
                    refine V_iload dX11_counts_232 rfl ?_
                    refine V_iast dX11_counts_234 (by first | with_reducible assumption | rfl) (by decide) (by omega) ?_
                    refine V_aload_n dX11_counts_235 rfl ?_
                    refine V_getr 15 _ dX11_counts_236 fl_RX11_32 (by first | with_reducible assumption | rfl) rfl rfl (by first | with_reducible assumption | exact hG.at rfl) ?_
                    refine V_iload_n dX11_counts_239 rfl ?_
                    refine V_lload dX11_counts_240 rfl ?_
                    refine V_last dX11_counts_242 (by first | with_reducible assumption | rfl) (by decide) (by omega) ?_
                    refine S_iinc (ls' := [_, _, _, _, _, _, _, _, _, _]) dX11_counts_243 rfl ⟨rfl, rfl⟩ rfl ?_
                    refine V_goto 14 dX11_counts_246 (by decide) ?_
                    first | (exfalso; omega) | exact done _ _ _ _ _ _ _ _ _ (by omega) (by omega) (by rw [ews]; split <;> split <;> omega)
              · refine V_aload_n dX11_counts_158 rfl ?_
                refine V_getr 15 _ dX11_counts_159 fl_RX11_32 (by first | with_reducible assumption | rfl) rfl rfl (by first | with_reducible assumption | exact hG.at rfl) ?_
                refine V_iload_n dX11_counts_162 rfl ?_
                refine V_bipush dX11_counts_163 (by decide) ?_
                refine V_isub dX11_counts_165 ?_
                refine V_lald dX11_counts_166 (by first | with_reducible assumption | rfl) (by decide) (by omega) ?_
                rw [i1, c2]
                refine V_goto 171 dX11_counts_167 (by decide) ?_
                refine V_iload dX11_counts_171 rfl ?_
                refine V_iload dX11_counts_173 rfl ?_
                refine V_icmp_ne 189 dX11_counts_175 (by decide) (by omega) (by omega) (fun h175 => ?_) (fun h175 => ?_)
                · refine V_lconst 0 dX11_counts_189 rfl ?_
                  refine V_ladd dX11_counts_190 ?_
                  refine V_aload_n dX11_counts_191 rfl ?_
                  refine V_iload_n dX11_counts_192 rfl ?_
                  refine V_iconst dX11_counts_193 ?_
                  refine V_isub dX11_counts_194 ?_
                  refine V_iload_n dX11_counts_195 rfl ?_
                  refine V_iconst dX11_counts_196 ?_
                  refine V_isub dX11_counts_197 ?_
                  refine V_callVP dX11_counts_198 ml_RX11_71 km_X11_alike kv_X11_alike (c_X11_alike (x := ((xx + 1 : Nat) : Int) - 1) (y := ((yy + 1 : Nat) : Int) - 1) hG hR' hA hB (by omega) (by omega)) (by first | with_reducible assumption | rfl) rfl rfl rfl (Nat.le_of_ble_eq_true rfl) ⟨Nat.le_of_ble_eq_true rfl, Nat.le_of_ble_eq_true rfl⟩ ⟨Nat.le_of_ble_eq_true rfl, Nat.le_of_ble_eq_true rfl⟩ ?_
                  rw [ex1, ey1, e1]
                  refine V_if_eq 223 dX11_counts_201 (by decide) (by omega) (fun h201 => absurd h201 ((by decide))) (fun _ => ?_)
                  refine V_iload dX11_counts_204 rfl ?_
                  refine V_iload dX11_counts_206 rfl ?_
                  refine V_icmp_ne 223 dX11_counts_208 (by decide) (by omega) (by omega) (fun h208 => ?_) (fun h208 => ?_)
                  · refine V_lconst 0 dX11_counts_223 rfl ?_
                    refine V_ladd dX11_counts_224 ?_
                    refine S_lstore (ls' := [_, _, _, _, _, _, _, _, _, _]) dX11_counts_225 ⟨Nat.le_of_ble_eq_true rfl, rfl, rfl⟩ rfl ?_
                    refine V_aload_n dX11_counts_227 rfl ?_
                    refine V_getr 14 _ dX11_counts_228 fl_RX11_29 (by first | with_reducible assumption | rfl) rfl rfl (by first | with_reducible assumption | exact hG.at rfl) ?_
                    refine V_iload_n dX11_counts_231 rfl ?_
                    refine V_iload dX11_counts_232 rfl ?_
                    refine V_iast dX11_counts_234 (by first | with_reducible assumption | rfl) (by decide) (by omega) ?_
                    refine V_aload_n dX11_counts_235 rfl ?_
                    refine V_getr 15 _ dX11_counts_236 fl_RX11_32 (by first | with_reducible assumption | rfl) rfl rfl (by first | with_reducible assumption | exact hG.at rfl) ?_
                    refine V_iload_n dX11_counts_239 rfl ?_
                    refine V_lload dX11_counts_240 rfl ?_
                    refine V_last dX11_counts_242 (by first | with_reducible assumption | rfl) (by decide) (by omega) ?_
                    refine S_iinc (ls' := [_, _, _, _, _, _, _, _, _, _]) dX11_counts_243 rfl ⟨rfl, rfl⟩ rfl ?_
                    refine V_goto 14 dX11_counts_246 (by decide) ?_
                    first | (exfalso; omega) | exact done _ _ _ _ _ _ _ _ _ (by omega) (by omega) (by rw [ews]; split <;> split <;> omega)
                  · refine V_aload_n dX11_counts_211 rfl ?_
                    refine V_getr 15 _ dX11_counts_212 fl_RX11_32 (by first | with_reducible assumption | rfl) rfl rfl (by first | with_reducible assumption | exact hG.at rfl) ?_
                    refine V_iload_n dX11_counts_215 rfl ?_
                    refine V_bipush dX11_counts_216 (by decide) ?_
                    refine V_isub dX11_counts_218 ?_
                    refine V_lald dX11_counts_219 (by first | with_reducible assumption | rfl) (by decide) (by omega) ?_
                    rw [i3, c6]
                    refine V_goto 224 dX11_counts_220 (by decide) ?_
                    refine V_ladd dX11_counts_224 ?_
                    refine S_lstore (ls' := [_, _, _, _, _, _, _, _, _, _]) dX11_counts_225 ⟨Nat.le_of_ble_eq_true rfl, rfl, rfl⟩ rfl ?_
                    refine V_aload_n dX11_counts_227 rfl ?_
                    refine V_getr 14 _ dX11_counts_228 fl_RX11_29 (by first | with_reducible assumption | rfl) rfl rfl (by first | with_reducible assumption | exact hG.at rfl) ?_
                    refine V_iload_n dX11_counts_231 rfl ?_
                    refine V_iload dX11_counts_232 rfl ?_
                    refine V_iast dX11_counts_234 (by first | with_reducible assumption | rfl) (by decide) (by omega) ?_
                    refine V_aload_n dX11_counts_235 rfl ?_
                    refine V_getr 15 _ dX11_counts_236 fl_RX11_32 (by first | with_reducible assumption | rfl) rfl rfl (by first | with_reducible assumption | exact hG.at rfl) ?_
                    refine V_iload_n dX11_counts_239 rfl ?_
                    refine V_lload dX11_counts_240 rfl ?_
                    refine V_last dX11_counts_242 (by first | with_reducible assumption | rfl) (by decide) (by omega) ?_
                    refine S_iinc (ls' := [_, _, _, _, _, _, _, _, _, _]) dX11_counts_243 rfl ⟨rfl, rfl⟩ rfl ?_
                    refine V_goto 14 dX11_counts_246 (by decide) ?_
                    first | (exfalso; omega) | exact done _ _ _ _ _ _ _ _ _ (by omega) (by omega) (by rw [ews]; split <;> split <;> omega)
                · refine V_aload_n dX11_counts_178 rfl ?_
                  refine V_getr 15 _ dX11_counts_179 fl_RX11_32 (by first | with_reducible assumption | rfl) rfl rfl (by first | with_reducible assumption | exact hG.at rfl) ?_
                  refine V_iload_n dX11_counts_182 rfl ?_
                  refine V_iconst dX11_counts_183 ?_
                  refine V_isub dX11_counts_184 ?_
                  refine V_lald dX11_counts_185 (by first | with_reducible assumption | rfl) (by decide) (by omega) ?_
                  rw [i2, c4]
                  refine V_goto 190 dX11_counts_186 (by decide) ?_
                  refine V_ladd dX11_counts_190 ?_
                  refine V_aload_n dX11_counts_191 rfl ?_
                  refine V_iload_n dX11_counts_192 rfl ?_
                  refine V_iconst dX11_counts_193 ?_
                  refine V_isub dX11_counts_194 ?_
                  refine V_iload_n dX11_counts_195 rfl ?_
                  refine V_iconst dX11_counts_196 ?_
                  refine V_isub dX11_counts_197 ?_
                  refine V_callVP dX11_counts_198 ml_RX11_71 km_X11_alike kv_X11_alike (c_X11_alike (x := ((xx + 1 : Nat) : Int) - 1) (y := ((yy + 1 : Nat) : Int) - 1) hG hR' hA hB (by omega) (by omega)) (by first | with_reducible assumption | rfl) rfl rfl rfl (Nat.le_of_ble_eq_true rfl) ⟨Nat.le_of_ble_eq_true rfl, Nat.le_of_ble_eq_true rfl⟩ ⟨Nat.le_of_ble_eq_true rfl, Nat.le_of_ble_eq_true rfl⟩ ?_
                  rw [ex1, ey1, e1]
                  refine V_if_eq 223 dX11_counts_201 (by decide) (by omega) (fun h201 => absurd h201 ((by decide))) (fun _ => ?_)
                  refine V_iload dX11_counts_204 rfl ?_
                  refine V_iload dX11_counts_206 rfl ?_
                  refine V_icmp_ne 223 dX11_counts_208 (by decide) (by omega) (by omega) (fun h208 => ?_) (fun h208 => ?_)
                  · refine V_lconst 0 dX11_counts_223 rfl ?_
                    refine V_ladd dX11_counts_224 ?_
                    refine S_lstore (ls' := [_, _, _, _, _, _, _, _, _, _]) dX11_counts_225 ⟨Nat.le_of_ble_eq_true rfl, rfl, rfl⟩ rfl ?_
                    refine V_aload_n dX11_counts_227 rfl ?_
                    refine V_getr 14 _ dX11_counts_228 fl_RX11_29 (by first | with_reducible assumption | rfl) rfl rfl (by first | with_reducible assumption | exact hG.at rfl) ?_
                    refine V_iload_n dX11_counts_231 rfl ?_
                    refine V_iload dX11_counts_232 rfl ?_
                    refine V_iast dX11_counts_234 (by first | with_reducible assumption | rfl) (by decide) (by omega) ?_
                    refine V_aload_n dX11_counts_235 rfl ?_
                    refine V_getr 15 _ dX11_counts_236 fl_RX11_32 (by first | with_reducible assumption | rfl) rfl rfl (by first | with_reducible assumption | exact hG.at rfl) ?_
                    refine V_iload_n dX11_counts_239 rfl ?_
                    refine V_lload dX11_counts_240 rfl ?_
                    refine V_last dX11_counts_242 (by first | with_reducible assumption | rfl) (by decide) (by omega) ?_
                    refine S_iinc (ls' := [_, _, _, _, _, _, _, _, _, _]) dX11_counts_243 rfl ⟨rfl, rfl⟩ rfl ?_
                    refine V_goto 14 dX11_counts_246 (by decide) ?_
                    first | (exfalso; omega) | exact done _ _ _ _ _ _ _ _ _ (by omega) (by omega) (by rw [ews]; split <;> split <;> omega)
                  · refine V_aload_n dX11_counts_211 rfl ?_
                    refine V_getr 15 _ dX11_counts_212 fl_RX11_32 (by first | with_reducible assumption | rfl) rfl rfl (by first | with_reducible assumption | exact hG.at rfl) ?_
                    refine V_iload_n dX11_counts_215 rfl ?_
                    refine V_bipush dX11_counts_216 (by decide) ?_
                    refine V_isub dX11_counts_218 ?_
                    refine V_lald dX11_counts_219 (by first | with_reducible assumption | rfl) (by decide) (by omega) ?_
                    rw [i3, c6]
                    refine V_goto 224 dX11_counts_220 (by decide) ?_
                    refine V_ladd dX11_counts_224 ?_
                    refine S_lstore (ls' := [_, _, _, _, _, _, _, _, _, _]) dX11_counts_225 ⟨Nat.le_of_ble_eq_true rfl, rfl, rfl⟩ rfl ?_
                    refine V_aload_n dX11_counts_227 rfl ?_
                    refine V_getr 14 _ dX11_counts_228 fl_RX11_29 (by first | with_reducible assumption | rfl) rfl rfl (by first | with_reducible assumption | exact hG.at rfl) ?_
                    refine V_iload_n dX11_counts_231 rfl ?_
                    refine V_iload dX11_counts_232 rfl ?_
                    refine V_iast dX11_counts_234 (by first | with_reducible assumption | rfl) (by decide) (by omega) ?_
                    refine V_aload_n dX11_counts_235 rfl ?_
                    refine V_getr 15 _ dX11_counts_236 fl_RX11_32 (by first | with_reducible assumption | rfl) rfl rfl (by first | with_reducible assumption | exact hG.at rfl) ?_
                    refine V_iload_n dX11_counts_239 rfl ?_
                    refine V_lload dX11_counts_240 rfl ?_
                    refine V_last dX11_counts_242 (by first | with_reducible assumption | rfl) (by decide) (by omega) ?_
                    refine S_iinc (ls' := [_, _, _, _, _, _, _, _, _, _]) dX11_counts_243 rfl ⟨rfl, rfl⟩ rfl ?_
                    refine V_goto 14 dX11_counts_246 (by decide) ?_
                    first | (exfalso; omega) | exact done _ _ _ _ _ _ _ _ _ (by omega) (by omega) (by rw [ews]; split <;> split <;> omega)
            · refine V_iload dX11_counts_142 rfl ?_
              refine V_goto 149 dX11_counts_144 (by decide) ?_
              refine S_istore (ls' := [_, _, _, _, _, _, _, _, _, _]) dX11_counts_149 ⟨Nat.le_of_ble_eq_true rfl, rfl, rfl⟩ rfl ?_
              refine V_iload dX11_counts_151 rfl ?_
              refine V_iload dX11_counts_153 rfl ?_
              refine V_icmp_ne 170 dX11_counts_155 (by decide) (by omega) (by omega) (fun h155 => ?_) (fun h155 => ?_)
              · refine V_lconst 0 dX11_counts_170 rfl ?_
                refine V_iload dX11_counts_171 rfl ?_
                refine V_iload dX11_counts_173 rfl ?_
                refine V_icmp_ne 189 dX11_counts_175 (by decide) (by omega) (by omega) (fun h175 => ?_) (fun h175 => ?_)
                · refine V_lconst 0 dX11_counts_189 rfl ?_
                  refine V_ladd dX11_counts_190 ?_
                  refine V_aload_n dX11_counts_191 rfl ?_
                  refine V_iload_n dX11_counts_192 rfl ?_
                  refine V_iconst dX11_counts_193 ?_
                  refine V_isub dX11_counts_194 ?_
                  refine V_iload_n dX11_counts_195 rfl ?_
                  refine V_iconst dX11_counts_196 ?_
                  refine V_isub dX11_counts_197 ?_
                  refine V_callVP dX11_counts_198 ml_RX11_71 km_X11_alike kv_X11_alike (c_X11_alike (x := ((xx + 1 : Nat) : Int) - 1) (y := ((yy + 1 : Nat) : Int) - 1) hG hR' hA hB (by omega) (by omega)) (by first | with_reducible assumption | rfl) rfl rfl rfl (Nat.le_of_ble_eq_true rfl) ⟨Nat.le_of_ble_eq_true rfl, Nat.le_of_ble_eq_true rfl⟩ ⟨Nat.le_of_ble_eq_true rfl, Nat.le_of_ble_eq_true rfl⟩ ?_
                  rw [ex1, ey1, e1]
                  refine V_if_eq 223 dX11_counts_201 (by decide) (by omega) (fun h201 => absurd h201 ((by decide))) (fun _ => ?_)
                  refine V_iload dX11_counts_204 rfl ?_
                  refine V_iload dX11_counts_206 rfl ?_
                  refine V_icmp_ne 223 dX11_counts_208 (by decide) (by omega) (by omega) (fun h208 => ?_) (fun h208 => ?_)
                  · refine V_lconst 0 dX11_counts_223 rfl ?_
                    refine V_ladd dX11_counts_224 ?_
                    refine S_lstore (ls' := [_, _, _, _, _, _, _, _, _, _]) dX11_counts_225 ⟨Nat.le_of_ble_eq_true rfl, rfl, rfl⟩ rfl ?_
                    refine V_aload_n dX11_counts_227 rfl ?_
                    refine V_getr 14 _ dX11_counts_228 fl_RX11_29 (by first | with_reducible assumption | rfl) rfl rfl (by first | with_reducible assumption | exact hG.at rfl) ?_
                    refine V_iload_n dX11_counts_231 rfl ?_
                    refine V_iload dX11_counts_232 rfl ?_
                    refine V_iast dX11_counts_234 (by first | with_reducible assumption | rfl) (by decide) (by omega) ?_
                    refine V_aload_n dX11_counts_235 rfl ?_
                    refine V_getr 15 _ dX11_counts_236 fl_RX11_32 (by first | with_reducible assumption | rfl) rfl rfl (by first | with_reducible assumption | exact hG.at rfl) ?_
                    refine V_iload_n dX11_counts_239 rfl ?_
                    refine V_lload dX11_counts_240 rfl ?_
                    refine V_last dX11_counts_242 (by first | with_reducible assumption | rfl) (by decide) (by omega) ?_
                    refine S_iinc (ls' := [_, _, _, _, _, _, _, _, _, _]) dX11_counts_243 rfl ⟨rfl, rfl⟩ rfl ?_
                    refine V_goto 14 dX11_counts_246 (by decide) ?_
                    first | (exfalso; omega) | exact done _ _ _ _ _ _ _ _ _ (by omega) (by omega) (by rw [ews]; split <;> split <;> omega)
                  · refine V_aload_n dX11_counts_211 rfl ?_
                    refine V_getr 15 _ dX11_counts_212 fl_RX11_32 (by first | with_reducible assumption | rfl) rfl rfl (by first | with_reducible assumption | exact hG.at rfl) ?_
                    refine V_iload_n dX11_counts_215 rfl ?_
                    refine V_bipush dX11_counts_216 (by decide) ?_
                    refine V_isub dX11_counts_218 ?_
                    refine V_lald dX11_counts_219 (by first | with_reducible assumption | rfl) (by decide) (by omega) ?_
                    rw [i3, c6]
                    refine V_goto 224 dX11_counts_220 (by decide) ?_
                    refine V_ladd dX11_counts_224 ?_
                    refine S_lstore (ls' := [_, _, _, _, _, _, _, _, _, _]) dX11_counts_225 ⟨Nat.le_of_ble_eq_true rfl, rfl, rfl⟩ rfl ?_
                    refine V_aload_n dX11_counts_227 rfl ?_
                    refine V_getr 14 _ dX11_counts_228 fl_RX11_29 (by first | with_reducible assumption | rfl) rfl rfl (by first | with_reducible assumption | exact hG.at rfl) ?_
                    refine V_iload_n dX11_counts_231 rfl ?_
                    refine V_iload dX11_counts_232 rfl ?_
                    refine V_iast dX11_counts_234 (by first | with_reducible assumption | rfl) (by decide) (by omega) ?_
                    refine V_aload_n dX11_counts_235 rfl ?_
                    refine V_getr 15 _ dX11_counts_236 fl_RX11_32 (by first | with_reducible assumption | rfl) rfl rfl (by first | with_reducible assumption | exact hG.at rfl) ?_
                    refine V_iload_n dX11_counts_239 rfl ?_
                    refine V_lload dX11_counts_240 rfl ?_
                    refine V_last dX11_counts_242 (by first | with_reducible assumption | rfl) (by decide) (by omega) ?_
                    refine S_iinc (ls' := [_, _, _, _, _, _, _, _, _, _]) dX11_counts_243 rfl ⟨rfl, rfl⟩ rfl ?_
                    refine V_goto 14 dX11_counts_246 (by decide) ?_
                    first | (exfalso; omega) | exact done _ _ _ _ _ _ _ _ _ (by omega) (by omega) (by rw [ews]; split <;> split <;> omega)
                · refine V_aload_n dX11_counts_178 rfl ?_
                  refine V_getr 15 _ dX11_counts_179 fl_RX11_32 (by first | with_reducible assumption | rfl) rfl rfl (by first | with_reducible assumption | exact hG.at rfl) ?_
                  refine V_iload_n dX11_counts_182 rfl ?_
                  refine V_iconst dX11_counts_183 ?_
                  refine V_isub dX11_counts_184 ?_
                  refine V_lald dX11_counts_185 (by first | with_reducible assumption | rfl) (by decide) (by omega) ?_
                  rw [i2, c4]
                  refine V_goto 190 dX11_counts_186 (by decide) ?_
                  refine V_ladd dX11_counts_190 ?_
                  refine V_aload_n dX11_counts_191 rfl ?_
                  refine V_iload_n dX11_counts_192 rfl ?_
                  refine V_iconst dX11_counts_193 ?_
                  refine V_isub dX11_counts_194 ?_
                  refine V_iload_n dX11_counts_195 rfl ?_
                  refine V_iconst dX11_counts_196 ?_
                  refine V_isub dX11_counts_197 ?_
                  refine V_callVP dX11_counts_198 ml_RX11_71 km_X11_alike kv_X11_alike (c_X11_alike (x := ((xx + 1 : Nat) : Int) - 1) (y := ((yy + 1 : Nat) : Int) - 1) hG hR' hA hB (by omega) (by omega)) (by first | with_reducible assumption | rfl) rfl rfl rfl (Nat.le_of_ble_eq_true rfl) ⟨Nat.le_of_ble_eq_true rfl, Nat.le_of_ble_eq_true rfl⟩ ⟨Nat.le_of_ble_eq_true rfl, Nat.le_of_ble_eq_true rfl⟩ ?_
                  rw [ex1, ey1, e1]
                  refine V_if_eq 223 dX11_counts_201 (by decide) (by omega) (fun h201 => absurd h201 ((by decide))) (fun _ => ?_)
                  refine V_iload dX11_counts_204 rfl ?_
                  refine V_iload dX11_counts_206 rfl ?_
                  refine V_icmp_ne 223 dX11_counts_208 (by decide) (by omega) (by omega) (fun h208 => ?_) (fun h208 => ?_)
                  · refine V_lconst 0 dX11_counts_223 rfl ?_
                    refine V_ladd dX11_counts_224 ?_
                    refine S_lstore (ls' := [_, _, _, _, _, _, _, _, _, _]) dX11_counts_225 ⟨Nat.le_of_ble_eq_true rfl, rfl, rfl⟩ rfl ?_
                    refine V_aload_n dX11_counts_227 rfl ?_
                    refine V_getr 14 _ dX11_counts_228 fl_RX11_29 (by first | with_reducible assumption | rfl) rfl rfl (by first | with_reducible assumption | exact hG.at rfl) ?_
                    refine V_iload_n dX11_counts_231 rfl ?_
                    refine V_iload dX11_counts_232 rfl ?_
                    refine V_iast dX11_counts_234 (by first | with_reducible assumption | rfl) (by decide) (by omega) ?_
                    refine V_aload_n dX11_counts_235 rfl ?_
                    refine V_getr 15 _ dX11_counts_236 fl_RX11_32 (by first | with_reducible assumption | rfl) rfl rfl (by first | with_reducible assumption | exact hG.at rfl) ?_
                    refine V_iload_n dX11_counts_239 rfl ?_
                    refine V_lload dX11_counts_240 rfl ?_
                    refine V_last dX11_counts_242 (by first | with_reducible assumption | rfl) (by decide) (by omega) ?_
                    refine S_iinc (ls' := [_, _, _, _, _, _, _, _, _, _]) dX11_counts_243 rfl ⟨rfl, rfl⟩ rfl ?_
                    refine V_goto 14 dX11_counts_246 (by decide) ?_
                    first | (exfalso; omega) | exact done _ _ _ _ _ _ _ _ _ (by omega) (by omega) (by rw [ews]; split <;> split <;> omega)
                  · refine V_aload_n dX11_counts_211 rfl ?_
                    refine V_getr 15 _ dX11_counts_212 fl_RX11_32 (by first | with_reducible assumption | rfl) rfl rfl (by first | with_reducible assumption | exact hG.at rfl) ?_
                    refine V_iload_n dX11_counts_215 rfl ?_
                    refine V_bipush dX11_counts_216 (by decide) ?_
                    refine V_isub dX11_counts_218 ?_
                    refine V_lald dX11_counts_219 (by first | with_reducible assumption | rfl) (by decide) (by omega) ?_
                    rw [i3, c6]
                    refine V_goto 224 dX11_counts_220 (by decide) ?_
                    refine V_ladd dX11_counts_224 ?_
                    refine S_lstore (ls' := [_, _, _, _, _, _, _, _, _, _]) dX11_counts_225 ⟨Nat.le_of_ble_eq_true rfl, rfl, rfl⟩ rfl ?_
                    refine V_aload_n dX11_counts_227 rfl ?_
                    refine V_getr 14 _ dX11_counts_228 fl_RX11_29 (by first | with_reducible assumption | rfl) rfl rfl (by first | with_reducible assumption | exact hG.at rfl) ?_
                    refine V_iload_n dX11_counts_231 rfl ?_
                    refine V_iload dX11_counts_232 rfl ?_
                    refine V_iast dX11_counts_234 (by first | with_reducible assumption | rfl) (by decide) (by omega) ?_
                    refine V_aload_n dX11_counts_235 rfl ?_
                    refine V_getr 15 _ dX11_counts_236 fl_RX11_32 (by first | with_reducible assumption | rfl) rfl rfl (by first | with_reducible assumption | exact hG.at rfl) ?_
                    refine V_iload_n dX11_counts_239 rfl ?_
                    refine V_lload dX11_counts_240 rfl ?_
                    refine V_last dX11_counts_242 (by first | with_reducible assumption | rfl) (by decide) (by omega) ?_
                    refine S_iinc (ls' := [_, _, _, _, _, _, _, _, _, _]) dX11_counts_243 rfl ⟨rfl, rfl⟩ rfl ?_
                    refine V_goto 14 dX11_counts_246 (by decide) ?_
                    first | (exfalso; omega) | exact done _ _ _ _ _ _ _ _ _ (by omega) (by omega) (by rw [ews]; split <;> split <;> omega)
              · refine V_aload_n dX11_counts_158 rfl ?_
                refine V_getr 15 _ dX11_counts_159 fl_RX11_32 (by first | with_reducible assumption | rfl) rfl rfl (by first | with_reducible assumption | exact hG.at rfl) ?_
                refine V_iload_n dX11_counts_162 rfl ?_
                refine V_bipush dX11_counts_163 (by decide) ?_
                refine V_isub dX11_counts_165 ?_
                refine V_lald dX11_counts_166 (by first | with_reducible assumption | rfl) (by decide) (by omega) ?_
                rw [i1, c2]
                refine V_goto 171 dX11_counts_167 (by decide) ?_
                refine V_iload dX11_counts_171 rfl ?_
                refine V_iload dX11_counts_173 rfl ?_
                refine V_icmp_ne 189 dX11_counts_175 (by decide) (by omega) (by omega) (fun h175 => ?_) (fun h175 => ?_)
                · refine V_lconst 0 dX11_counts_189 rfl ?_
                  refine V_ladd dX11_counts_190 ?_
                  refine V_aload_n dX11_counts_191 rfl ?_
                  refine V_iload_n dX11_counts_192 rfl ?_
                  refine V_iconst dX11_counts_193 ?_
                  refine V_isub dX11_counts_194 ?_
                  refine V_iload_n dX11_counts_195 rfl ?_
                  refine V_iconst dX11_counts_196 ?_
                  refine V_isub dX11_counts_197 ?_
                  refine V_callVP dX11_counts_198 ml_RX11_71 km_X11_alike kv_X11_alike (c_X11_alike (x := ((xx + 1 : Nat) : Int) - 1) (y := ((yy + 1 : Nat) : Int) - 1) hG hR' hA hB (by omega) (by omega)) (by first | with_reducible assumption | rfl) rfl rfl rfl (Nat.le_of_ble_eq_true rfl) ⟨Nat.le_of_ble_eq_true rfl, Nat.le_of_ble_eq_true rfl⟩ ⟨Nat.le_of_ble_eq_true rfl, Nat.le_of_ble_eq_true rfl⟩ ?_
                  rw [ex1, ey1, e1]
                  refine V_if_eq 223 dX11_counts_201 (by decide) (by omega) (fun h201 => absurd h201 ((by decide))) (fun _ => ?_)
                  refine V_iload dX11_counts_204 rfl ?_
                  refine V_iload dX11_counts_206 rfl ?_
                  refine V_icmp_ne 223 dX11_counts_208 (by decide) (by omega) (by omega) (fun h208 => ?_) (fun h208 => ?_)
                  · refine V_lconst 0 dX11_counts_223 rfl ?_
                    refine V_ladd dX11_counts_224 ?_
                    refine S_lstore (ls' := [_, _, _, _, _, _, _, _, _, _]) dX11_counts_225 ⟨Nat.le_of_ble_eq_true rfl, rfl, rfl⟩ rfl ?_
                    refine V_aload_n dX11_counts_227 rfl ?_
                    refine V_getr 14 _ dX11_counts_228 fl_RX11_29 (by first | with_reducible assumption | rfl) rfl rfl (by first | with_reducible assumption | exact hG.at rfl) ?_
                    refine V_iload_n dX11_counts_231 rfl ?_
                    refine V_iload dX11_counts_232 rfl ?_
                    refine V_iast dX11_counts_234 (by first | with_reducible assumption | rfl) (by decide) (by omega) ?_
                    refine V_aload_n dX11_counts_235 rfl ?_
                    refine V_getr 15 _ dX11_counts_236 fl_RX11_32 (by first | with_reducible assumption | rfl) rfl rfl (by first | with_reducible assumption | exact hG.at rfl) ?_
                    refine V_iload_n dX11_counts_239 rfl ?_
                    refine V_lload dX11_counts_240 rfl ?_
                    refine V_last dX11_counts_242 (by first | with_reducible assumption | rfl) (by decide) (by omega) ?_
                    refine S_iinc (ls' := [_, _, _, _, _, _, _, _, _, _]) dX11_counts_243 rfl ⟨rfl, rfl⟩ rfl ?_
                    refine V_goto 14 dX11_counts_246 (by decide) ?_
                    first | (exfalso; omega) | exact done _ _ _ _ _ _ _ _ _ (by omega) (by omega) (by rw [ews]; split <;> split <;> omega)
                  · refine V_aload_n dX11_counts_211 rfl ?_
                    refine V_getr 15 _ dX11_counts_212 fl_RX11_32 (by first | with_reducible assumption | rfl) rfl rfl (by first | with_reducible assumption | exact hG.at rfl) ?_
                    refine V_iload_n dX11_counts_215 rfl ?_
                    refine V_bipush dX11_counts_216 (by decide) ?_
                    refine V_isub dX11_counts_218 ?_
                    refine V_lald dX11_counts_219 (by first | with_reducible assumption | rfl) (by decide) (by omega) ?_
                    rw [i3, c6]
                    refine V_goto 224 dX11_counts_220 (by decide) ?_
                    refine V_ladd dX11_counts_224 ?_
                    refine S_lstore (ls' := [_, _, _, _, _, _, _, _, _, _]) dX11_counts_225 ⟨Nat.le_of_ble_eq_true rfl, rfl, rfl⟩ rfl ?_
                    refine V_aload_n dX11_counts_227 rfl ?_
                    refine V_getr 14 _ dX11_counts_228 fl_RX11_29 (by first | with_reducible assumption | rfl) rfl rfl (by first | with_reducible assumption | exact hG.at rfl) ?_
                    refine V_iload_n dX11_counts_231 rfl ?_
                    refine V_iload dX11_counts_232 rfl ?_
                    refine V_iast dX11_counts_234 (by first | with_reducible assumption | rfl) (by decide) (by omega) ?_
                    refine V_aload_n dX11_counts_235 rfl ?_
                    refine V_getr 15 _ dX11_counts_236 fl_RX11_32 (by first | with_reducible assumption | rfl) rfl rfl (by first | with_reducible assumption | exact hG.at rfl) ?_
                    refine V_iload_n dX11_counts_239 rfl ?_
                    refine V_lload dX11_counts_240 rfl ?_
                    refine V_last dX11_counts_242 (by first | with_reducible assumption | rfl) (by decide) (by omega) ?_
                    refine S_iinc (ls' := [_, _, _, _, _, _, _, _, _, _]) dX11_counts_243 rfl ⟨rfl, rfl⟩ rfl ?_
                    refine V_goto 14 dX11_counts_246 (by decide) ?_
                    first | (exfalso; omega) | exact done _ _ _ _ _ _ _ _ _ (by omega) (by omega) (by rw [ews]; split <;> split <;> omega)
                · refine V_aload_n dX11_counts_178 rfl ?_
                  refine V_getr 15 _ dX11_counts_179 fl_RX11_32 (by first | with_reducible assumption | rfl) rfl rfl (by first | with_reducible assumption | exact hG.at rfl) ?_
                  refine V_iload_n dX11_counts_182 rfl ?_
                  refine V_iconst dX11_counts_183 ?_
                  refine V_isub dX11_counts_184 ?_
                  refine V_lald dX11_counts_185 (by first | with_reducible assumption | rfl) (by decide) (by omega) ?_
                  rw [i2, c4]
                  refine V_goto 190 dX11_counts_186 (by decide) ?_
                  refine V_ladd dX11_counts_190 ?_
                  refine V_aload_n dX11_counts_191 rfl ?_
                  refine V_iload_n dX11_counts_192 rfl ?_
                  refine V_iconst dX11_counts_193 ?_
                  refine V_isub dX11_counts_194 ?_
                  refine V_iload_n dX11_counts_195 rfl ?_
                  refine V_iconst dX11_counts_196 ?_
                  refine V_isub dX11_counts_197 ?_
                  refine V_callVP dX11_counts_198 ml_RX11_71 km_X11_alike kv_X11_alike (c_X11_alike (x := ((xx + 1 : Nat) : Int) - 1) (y := ((yy + 1 : Nat) : Int) - 1) hG hR' hA hB (by omega) (by omega)) (by first | with_reducible assumption | rfl) rfl rfl rfl (Nat.le_of_ble_eq_true rfl) ⟨Nat.le_of_ble_eq_true rfl, Nat.le_of_ble_eq_true rfl⟩ ⟨Nat.le_of_ble_eq_true rfl, Nat.le_of_ble_eq_true rfl⟩ ?_
                  rw [ex1, ey1, e1]
                  refine V_if_eq 223 dX11_counts_201 (by decide) (by omega) (fun h201 => absurd h201 ((by decide))) (fun _ => ?_)
                  refine V_iload dX11_counts_204 rfl ?_
                  refine V_iload dX11_counts_206 rfl ?_
                  refine V_icmp_ne 223 dX11_counts_208 (by decide) (by omega) (by omega) (fun h208 => ?_) (fun h208 => ?_)
                  · refine V_lconst 0 dX11_counts_223 rfl ?_
                    refine V_ladd dX11_counts_224 ?_
                    refine S_lstore (ls' := [_, _, _, _, _, _, _, _, _, _]) dX11_counts_225 ⟨Nat.le_of_ble_eq_true rfl, rfl, rfl⟩ rfl ?_
                    refine V_aload_n dX11_counts_227 rfl ?_
                    refine V_getr 14 _ dX11_counts_228 fl_RX11_29 (by first | with_reducible assumption | rfl) rfl rfl (by first | with_reducible assumption | exact hG.at rfl) ?_
                    refine V_iload_n dX11_counts_231 rfl ?_
                    refine V_iload dX11_counts_232 rfl ?_
                    refine V_iast dX11_counts_234 (by first | with_reducible assumption | rfl) (by decide) (by omega) ?_
                    refine V_aload_n dX11_counts_235 rfl ?_
                    refine V_getr 15 _ dX11_counts_236 fl_RX11_32 (by first | with_reducible assumption | rfl) rfl rfl (by first | with_reducible assumption | exact hG.at rfl) ?_
                    refine V_iload_n dX11_counts_239 rfl ?_
                    refine V_lload dX11_counts_240 rfl ?_
                    refine V_last dX11_counts_242 (by first | with_reducible assumption | rfl) (by decide) (by omega) ?_
                    refine S_iinc (ls' := [_, _, _, _, _, _, _, _, _, _]) dX11_counts_243 rfl ⟨rfl, rfl⟩ rfl ?_
                    refine V_goto 14 dX11_counts_246 (by decide) ?_
                    first | (exfalso; omega) | exact done _ _ _ _ _ _ _ _ _ (by omega) (by omega) (by rw [ews]; split <;> split <;> omega)
                  · refine V_aload_n dX11_counts_211 rfl ?_
                    refine V_getr 15 _ dX11_counts_212 fl_RX11_32 (by first | with_reducible assumption | rfl) rfl rfl (by first | with_reducible assumption | exact hG.at rfl) ?_
                    refine V_iload_n dX11_counts_215 rfl ?_
                    refine V_bipush dX11_counts_216 (by decide) ?_
                    refine V_isub dX11_counts_218 ?_
                    refine V_lald dX11_counts_219 (by first | with_reducible assumption | rfl) (by decide) (by omega) ?_
                    rw [i3, c6]
                    refine V_goto 224 dX11_counts_220 (by decide) ?_
                    refine V_ladd dX11_counts_224 ?_
                    refine S_lstore (ls' := [_, _, _, _, _, _, _, _, _, _]) dX11_counts_225 ⟨Nat.le_of_ble_eq_true rfl, rfl, rfl⟩ rfl ?_
                    refine V_aload_n dX11_counts_227 rfl ?_
                    refine V_getr 14 _ dX11_counts_228 fl_RX11_29 (by first | with_reducible assumption | rfl) rfl rfl (by first | with_reducible assumption | exact hG.at rfl) ?_
                    refine V_iload_n dX11_counts_231 rfl ?_
                    refine V_iload dX11_counts_232 rfl ?_
                    refine V_iast dX11_counts_234 (by first | with_reducible assumption | rfl) (by decide) (by omega) ?_
                    refine V_aload_n dX11_counts_235 rfl ?_
                    refine V_getr 15 _ dX11_counts_236 fl_RX11_32 (by first | with_reducible assumption | rfl) rfl rfl (by first | with_reducible assumption | exact hG.at rfl) ?_
                    refine V_iload_n dX11_counts_239 rfl ?_
                    refine V_lload dX11_counts_240 rfl ?_
                    refine V_last dX11_counts_242 (by first | with_reducible assumption | rfl) (by decide) (by omega) ?_
                    refine S_iinc (ls' := [_, _, _, _, _, _, _, _, _, _]) dX11_counts_243 rfl ⟨rfl, rfl⟩ rfl ?_
                    refine V_goto 14 dX11_counts_246 (by decide) ?_
                    first | (exfalso; omega) | exact done _ _ _ _ _ _ _ _ _ (by omega) (by omega) (by rw [ews]; split <;> split <;> omega)
          · refine V_iload dX11_counts_126 rfl ?_
            refine V_goto 133 dX11_counts_128 (by decide) ?_
            refine S_istore (ls' := [_, _, _, _, _, _, _, _, _, _]) dX11_counts_133 ⟨Nat.le_of_ble_eq_true rfl, rfl, rfl⟩ rfl ?_
            refine V_iload dX11_counts_135 rfl ?_
            refine V_iload dX11_counts_137 rfl ?_
            refine V_icmp_ge 147 dX11_counts_139 (by decide) (by omega) (by omega) (fun h139 => ?_) (fun h139 => ?_)
            · refine V_iload dX11_counts_147 rfl ?_
              refine S_istore (ls' := [_, _, _, _, _, _, _, _, _, _]) dX11_counts_149 ⟨Nat.le_of_ble_eq_true rfl, rfl, rfl⟩ rfl ?_
              refine V_iload dX11_counts_151 rfl ?_
              refine V_iload dX11_counts_153 rfl ?_
              refine V_icmp_ne 170 dX11_counts_155 (by decide) (by omega) (by omega) (fun h155 => ?_) (fun h155 => ?_)
              · refine V_lconst 0 dX11_counts_170 rfl ?_
                refine V_iload dX11_counts_171 rfl ?_
                refine V_iload dX11_counts_173 rfl ?_
                refine V_icmp_ne 189 dX11_counts_175 (by decide) (by omega) (by omega) (fun h175 => ?_) (fun h175 => ?_)
                · refine V_lconst 0 dX11_counts_189 rfl ?_
                  refine V_ladd dX11_counts_190 ?_
                  refine V_aload_n dX11_counts_191 rfl ?_
                  refine V_iload_n dX11_counts_192 rfl ?_
                  refine V_iconst dX11_counts_193 ?_
                  refine V_isub dX11_counts_194 ?_
                  refine V_iload_n dX11_counts_195 rfl ?_
                  refine V_iconst dX11_counts_196 ?_
                  refine V_isub dX11_counts_197 ?_
                  refine V_callVP dX11_counts_198 ml_RX11_71 km_X11_alike kv_X11_alike (c_X11_alike (x := ((xx + 1 : Nat) : Int) - 1) (y := ((yy + 1 : Nat) : Int) - 1) hG hR' hA hB (by omega) (by omega)) (by first | with_reducible assumption | rfl) rfl rfl rfl (Nat.le_of_ble_eq_true rfl) ⟨Nat.le_of_ble_eq_true rfl, Nat.le_of_ble_eq_true rfl⟩ ⟨Nat.le_of_ble_eq_true rfl, Nat.le_of_ble_eq_true rfl⟩ ?_
                  rw [ex1, ey1, e1]
                  refine V_if_eq 223 dX11_counts_201 (by decide) (by omega) (fun h201 => absurd h201 ((by decide))) (fun _ => ?_)
                  refine V_iload dX11_counts_204 rfl ?_
                  refine V_iload dX11_counts_206 rfl ?_
                  refine V_icmp_ne 223 dX11_counts_208 (by decide) (by omega) (by omega) (fun h208 => ?_) (fun h208 => ?_)
                  · refine V_lconst 0 dX11_counts_223 rfl ?_
                    refine V_ladd dX11_counts_224 ?_
                    refine S_lstore (ls' := [_, _, _, _, _, _, _, _, _, _]) dX11_counts_225 ⟨Nat.le_of_ble_eq_true rfl, rfl, rfl⟩ rfl ?_
                    refine V_aload_n dX11_counts_227 rfl ?_
                    refine V_getr 14 _ dX11_counts_228 fl_RX11_29 (by first | with_reducible assumption | rfl) rfl rfl (by first | with_reducible assumption | exact hG.at rfl) ?_
                    refine V_iload_n dX11_counts_231 rfl ?_
                    refine V_iload dX11_counts_232 rfl ?_
                    refine V_iast dX11_counts_234 (by first | with_reducible assumption | rfl) (by decide) (by omega) ?_
                    refine V_aload_n dX11_counts_235 rfl ?_
                    refine V_getr 15 _ dX11_counts_236 fl_RX11_32 (by first | with_reducible assumption | rfl) rfl rfl (by first | with_reducible assumption | exact hG.at rfl) ?_
                    refine V_iload_n dX11_counts_239 rfl ?_
                    refine V_lload dX11_counts_240 rfl ?_
                    refine V_last dX11_counts_242 (by first | with_reducible assumption | rfl) (by decide) (by omega) ?_
                    refine S_iinc (ls' := [_, _, _, _, _, _, _, _, _, _]) dX11_counts_243 rfl ⟨rfl, rfl⟩ rfl ?_
                    refine V_goto 14 dX11_counts_246 (by decide) ?_
                    first | (exfalso; omega) | exact done _ _ _ _ _ _ _ _ _ (by omega) (by omega) (by rw [ews]; split <;> split <;> omega)
                  · refine V_aload_n dX11_counts_211 rfl ?_
                    refine V_getr 15 _ dX11_counts_212 fl_RX11_32 (by first | with_reducible assumption | rfl) rfl rfl (by first | with_reducible assumption | exact hG.at rfl) ?_
                    refine V_iload_n dX11_counts_215 rfl ?_
                    refine V_bipush dX11_counts_216 (by decide) ?_
                    refine V_isub dX11_counts_218 ?_
                    refine V_lald dX11_counts_219 (by first | with_reducible assumption | rfl) (by decide) (by omega) ?_
                    rw [i3, c6]
                    refine V_goto 224 dX11_counts_220 (by decide) ?_
                    refine V_ladd dX11_counts_224 ?_
                    refine S_lstore (ls' := [_, _, _, _, _, _, _, _, _, _]) dX11_counts_225 ⟨Nat.le_of_ble_eq_true rfl, rfl, rfl⟩ rfl ?_
                    refine V_aload_n dX11_counts_227 rfl ?_
                    refine V_getr 14 _ dX11_counts_228 fl_RX11_29 (by first | with_reducible assumption | rfl) rfl rfl (by first | with_reducible assumption | exact hG.at rfl) ?_
                    refine V_iload_n dX11_counts_231 rfl ?_
                    refine V_iload dX11_counts_232 rfl ?_
                    refine V_iast dX11_counts_234 (by first | with_reducible assumption | rfl) (by decide) (by omega) ?_
                    refine V_aload_n dX11_counts_235 rfl ?_
                    refine V_getr 15 _ dX11_counts_236 fl_RX11_32 (by first | with_reducible assumption | rfl) rfl rfl (by first | with_reducible assumption | exact hG.at rfl) ?_
                    refine V_iload_n dX11_counts_239 rfl ?_
                    refine V_lload dX11_counts_240 rfl ?_
                    refine V_last dX11_counts_242 (by first | with_reducible assumption | rfl) (by decide) (by omega) ?_
                    refine S_iinc (ls' := [_, _, _, _, _, _, _, _, _, _]) dX11_counts_243 rfl ⟨rfl, rfl⟩ rfl ?_
                    refine V_goto 14 dX11_counts_246 (by decide) ?_
                    first | (exfalso; omega) | exact done _ _ _ _ _ _ _ _ _ (by omega) (by omega) (by rw [ews]; split <;> split <;> omega)
                · refine V_aload_n dX11_counts_178 rfl ?_
                  refine V_getr 15 _ dX11_counts_179 fl_RX11_32 (by first | with_reducible assumption | rfl) rfl rfl (by first | with_reducible assumption | exact hG.at rfl) ?_
                  refine V_iload_n dX11_counts_182 rfl ?_
                  refine V_iconst dX11_counts_183 ?_
                  refine V_isub dX11_counts_184 ?_
                  refine V_lald dX11_counts_185 (by first | with_reducible assumption | rfl) (by decide) (by omega) ?_
                  rw [i2, c4]
                  refine V_goto 190 dX11_counts_186 (by decide) ?_
                  refine V_ladd dX11_counts_190 ?_
                  refine V_aload_n dX11_counts_191 rfl ?_
                  refine V_iload_n dX11_counts_192 rfl ?_
                  refine V_iconst dX11_counts_193 ?_
                  refine V_isub dX11_counts_194 ?_
                  refine V_iload_n dX11_counts_195 rfl ?_
                  refine V_iconst dX11_counts_196 ?_
                  refine V_isub dX11_counts_197 ?_
                  refine V_callVP dX11_counts_198 ml_RX11_71 km_X11_alike kv_X11_alike (c_X11_alike (x := ((xx + 1 : Nat) : Int) - 1) (y := ((yy + 1 : Nat) : Int) - 1) hG hR' hA hB (by omega) (by omega)) (by first | with_reducible assumption | rfl) rfl rfl rfl (Nat.le_of_ble_eq_true rfl) ⟨Nat.le_of_ble_eq_true rfl, Nat.le_of_ble_eq_true rfl⟩ ⟨Nat.le_of_ble_eq_true rfl, Nat.le_of_ble_eq_true rfl⟩ ?_
                  rw [ex1, ey1, e1]
                  refine V_if_eq 223 dX11_counts_201 (by decide) (by omega) (fun h201 => absurd h201 ((by decide))) (fun _ => ?_)
                  refine V_iload dX11_counts_204 rfl ?_
                  refine V_iload dX11_counts_206 rfl ?_
                  refine V_icmp_ne 223 dX11_counts_208 (by decide) (by omega) (by omega) (fun h208 => ?_) (fun h208 => ?_)
                  · refine V_lconst 0 dX11_counts_223 rfl ?_
                    refine V_ladd dX11_counts_224 ?_
                    refine S_lstore (ls' := [_, _, _, _, _, _, _, _, _, _]) dX11_counts_225 ⟨Nat.le_of_ble_eq_true rfl, rfl, rfl⟩ rfl ?_
                    refine V_aload_n dX11_counts_227 rfl ?_
                    refine V_getr 14 _ dX11_counts_228 fl_RX11_29 (by first | with_reducible assumption | rfl) rfl rfl (by first | with_reducible assumption | exact hG.at rfl) ?_
                    refine V_iload_n dX11_counts_231 rfl ?_
                    refine V_iload dX11_counts_232 rfl ?_
                    refine V_iast dX11_counts_234 (by first | with_reducible assumption | rfl) (by decide) (by omega) ?_
                    refine V_aload_n dX11_counts_235 rfl ?_
                    refine V_getr 15 _ dX11_counts_236 fl_RX11_32 (by first | with_reducible assumption | rfl) rfl rfl (by first | with_reducible assumption | exact hG.at rfl) ?_
                    refine V_iload_n dX11_counts_239 rfl ?_
                    refine V_lload dX11_counts_240 rfl ?_
                    refine V_last dX11_counts_242 (by first | with_reducible assumption | rfl) (by decide) (by omega) ?_
                    refine S_iinc (ls' := [_, _, _, _, _, _, _, _, _, _]) dX11_counts_243 rfl ⟨rfl, rfl⟩ rfl ?_
                    refine V_goto 14 dX11_counts_246 (by decide) ?_
                    first | (exfalso; omega) | exact done _ _ _ _ _ _ _ _ _ (by omega) (by omega) (by rw [ews]; split <;> split <;> omega)
                  · refine V_aload_n dX11_counts_211 rfl ?_
                    refine V_getr 15 _ dX11_counts_212 fl_RX11_32 (by first | with_reducible assumption | rfl) rfl rfl (by first | with_reducible assumption | exact hG.at rfl) ?_
                    refine V_iload_n dX11_counts_215 rfl ?_
                    refine V_bipush dX11_counts_216 (by decide) ?_
                    refine V_isub dX11_counts_218 ?_
                    refine V_lald dX11_counts_219 (by first | with_reducible assumption | rfl) (by decide) (by omega) ?_
                    rw [i3, c6]
                    refine V_goto 224 dX11_counts_220 (by decide) ?_
                    refine V_ladd dX11_counts_224 ?_
                    refine S_lstore (ls' := [_, _, _, _, _, _, _, _, _, _]) dX11_counts_225 ⟨Nat.le_of_ble_eq_true rfl, rfl, rfl⟩ rfl ?_
                    refine V_aload_n dX11_counts_227 rfl ?_
                    refine V_getr 14 _ dX11_counts_228 fl_RX11_29 (by first | with_reducible assumption | rfl) rfl rfl (by first | with_reducible assumption | exact hG.at rfl) ?_
                    refine V_iload_n dX11_counts_231 rfl ?_
                    refine V_iload dX11_counts_232 rfl ?_
                    refine V_iast dX11_counts_234 (by first | with_reducible assumption | rfl) (by decide) (by omega) ?_
                    refine V_aload_n dX11_counts_235 rfl ?_
                    refine V_getr 15 _ dX11_counts_236 fl_RX11_32 (by first | with_reducible assumption | rfl) rfl rfl (by first | with_reducible assumption | exact hG.at rfl) ?_
                    refine V_iload_n dX11_counts_239 rfl ?_
                    refine V_lload dX11_counts_240 rfl ?_
                    refine V_last dX11_counts_242 (by first | with_reducible assumption | rfl) (by decide) (by omega) ?_
                    refine S_iinc (ls' := [_, _, _, _, _, _, _, _, _, _]) dX11_counts_243 rfl ⟨rfl, rfl⟩ rfl ?_
                    refine V_goto 14 dX11_counts_246 (by decide) ?_
                    first | (exfalso; omega) | exact done _ _ _ _ _ _ _ _ _ (by omega) (by omega) (by rw [ews]; split <;> split <;> omega)
              · refine V_aload_n dX11_counts_158 rfl ?_
                refine V_getr 15 _ dX11_counts_159 fl_RX11_32 (by first | with_reducible assumption | rfl) rfl rfl (by first | with_reducible assumption | exact hG.at rfl) ?_
                refine V_iload_n dX11_counts_162 rfl ?_
                refine V_bipush dX11_counts_163 (by decide) ?_
                refine V_isub dX11_counts_165 ?_
                refine V_lald dX11_counts_166 (by first | with_reducible assumption | rfl) (by decide) (by omega) ?_
                rw [i1, c2]
                refine V_goto 171 dX11_counts_167 (by decide) ?_
                refine V_iload dX11_counts_171 rfl ?_
                refine V_iload dX11_counts_173 rfl ?_
                refine V_icmp_ne 189 dX11_counts_175 (by decide) (by omega) (by omega) (fun h175 => ?_) (fun h175 => ?_)
                · refine V_lconst 0 dX11_counts_189 rfl ?_
                  refine V_ladd dX11_counts_190 ?_
                  refine V_aload_n dX11_counts_191 rfl ?_
                  refine V_iload_n dX11_counts_192 rfl ?_
                  refine V_iconst dX11_counts_193 ?_
                  refine V_isub dX11_counts_194 ?_
                  refine V_iload_n dX11_counts_195 rfl ?_
                  refine V_iconst dX11_counts_196 ?_
                  refine V_isub dX11_counts_197 ?_
                  refine V_callVP dX11_counts_198 ml_RX11_71 km_X11_alike kv_X11_alike (c_X11_alike (x := ((xx + 1 : Nat) : Int) - 1) (y := ((yy + 1 : Nat) : Int) - 1) hG hR' hA hB (by omega) (by omega)) (by first | with_reducible assumption | rfl) rfl rfl rfl (Nat.le_of_ble_eq_true rfl) ⟨Nat.le_of_ble_eq_true rfl, Nat.le_of_ble_eq_true rfl⟩ ⟨Nat.le_of_ble_eq_true rfl, Nat.le_of_ble_eq_true rfl⟩ ?_
                  rw [ex1, ey1, e1]
                  refine V_if_eq 223 dX11_counts_201 (by decide) (by omega) (fun h201 => absurd h201 ((by decide))) (fun _ => ?_)
                  refine V_iload dX11_counts_204 rfl ?_
                  refine V_iload dX11_counts_206 rfl ?_
                  refine V_icmp_ne 223 dX11_counts_208 (by decide) (by omega) (by omega) (fun h208 => ?_) (fun h208 => ?_)
                  · refine V_lconst 0 dX11_counts_223 rfl ?_
                    refine V_ladd dX11_counts_224 ?_
                    refine S_lstore (ls' := [_, _, _, _, _, _, _, _, _, _]) dX11_counts_225 ⟨Nat.le_of_ble_eq_true rfl, rfl, rfl⟩ rfl ?_
                    refine V_aload_n dX11_counts_227 rfl ?_
                    refine V_getr 14 _ dX11_counts_228 fl_RX11_29 (by first | with_reducible assumption | rfl) rfl rfl (by first | with_reducible assumption | exact hG.at rfl) ?_
                    refine V_iload_n dX11_counts_231 rfl ?_
                    refine V_iload dX11_counts_232 rfl ?_
                    refine V_iast dX11_counts_234 (by first | with_reducible assumption | rfl) (by decide) (by omega) ?_
                    refine V_aload_n dX11_counts_235 rfl ?_
                    refine V_getr 15 _ dX11_counts_236 fl_RX11_32 (by first | with_reducible assumption | rfl) rfl rfl (by first | with_reducible assumption | exact hG.at rfl) ?_
                    refine V_iload_n dX11_counts_239 rfl ?_
                    refine V_lload dX11_counts_240 rfl ?_
                    refine V_last dX11_counts_242 (by first | with_reducible assumption | rfl) (by decide) (by omega) ?_
                    refine S_iinc (ls' := [_, _, _, _, _, _, _, _, _, _]) dX11_counts_243 rfl ⟨rfl, rfl⟩ rfl ?_
                    refine V_goto 14 dX11_counts_246 (by decide) ?_
                    first | (exfalso; omega) | exact done _ _ _ _ _ _ _ _ _ (by omega) (by omega) (by rw [ews]; split <;> split <;> omega)
                  · refine V_aload_n dX11_counts_211 rfl ?_
                    refine V_getr 15 _ dX11_counts_212 fl_RX11_32 (by first | with_reducible assumption | rfl) rfl rfl (by first | with_reducible assumption | exact hG.at rfl) ?_
                    refine V_iload_n dX11_counts_215 rfl ?_
                    refine V_bipush dX11_counts_216 (by decide) ?_
                    refine V_isub dX11_counts_218 ?_
                    refine V_lald dX11_counts_219 (by first | with_reducible assumption | rfl) (by decide) (by omega) ?_
                    rw [i3, c6]
                    refine V_goto 224 dX11_counts_220 (by decide) ?_
                    refine V_ladd dX11_counts_224 ?_
                    refine S_lstore (ls' := [_, _, _, _, _, _, _, _, _, _]) dX11_counts_225 ⟨Nat.le_of_ble_eq_true rfl, rfl, rfl⟩ rfl ?_
                    refine V_aload_n dX11_counts_227 rfl ?_
                    refine V_getr 14 _ dX11_counts_228 fl_RX11_29 (by first | with_reducible assumption | rfl) rfl rfl (by first | with_reducible assumption | exact hG.at rfl) ?_
                    refine V_iload_n dX11_counts_231 rfl ?_
                    refine V_iload dX11_counts_232 rfl ?_
                    refine V_iast dX11_counts_234 (by first | with_reducible assumption | rfl) (by decide) (by omega) ?_
                    refine V_aload_n dX11_counts_235 rfl ?_
                    refine V_getr 15 _ dX11_counts_236 fl_RX11_32 (by first | with_reducible assumption | rfl) rfl rfl (by first | with_reducible assumption | exact hG.at rfl) ?_
                    refine V_iload_n dX11_counts_239 rfl ?_
                    refine V_lload dX11_counts_240 rfl ?_
                    refine V_last dX11_counts_242 (by first | with_reducible assumption | rfl) (by decide) (by omega) ?_
                    refine S_iinc (ls' := [_, _, _, _, _, _, _, _, _, _]) dX11_counts_243 rfl ⟨rfl, rfl⟩ rfl ?_
                    refine V_goto 14 dX11_counts_246 (by decide) ?_
                    first | (exfalso; omega) | exact done _ _ _ _ _ _ _ _ _ (by omega) (by omega) (by rw [ews]; split <;> split <;> omega)
                · refine V_aload_n dX11_counts_178 rfl ?_
                  refine V_getr 15 _ dX11_counts_179 fl_RX11_32 (by first | with_reducible assumption | rfl) rfl rfl (by first | with_reducible assumption | exact hG.at rfl) ?_
                  refine V_iload_n dX11_counts_182 rfl ?_
                  refine V_iconst dX11_counts_183 ?_
                  refine V_isub dX11_counts_184 ?_
                  refine V_lald dX11_counts_185 (by first | with_reducible assumption | rfl) (by decide) (by omega) ?_
                  rw [i2, c4]
                  refine V_goto 190 dX11_counts_186 (by decide) ?_
                  refine V_ladd dX11_counts_190 ?_
                  refine V_aload_n dX11_counts_191 rfl ?_
                  refine V_iload_n dX11_counts_192 rfl ?_
                  refine V_iconst dX11_counts_193 ?_
                  refine V_isub dX11_counts_194 ?_
                  refine V_iload_n dX11_counts_195 rfl ?_
                  refine V_iconst dX11_counts_196 ?_
                  refine V_isub dX11_counts_197 ?_
                  refine V_callVP dX11_counts_198 ml_RX11_71 km_X11_alike kv_X11_alike (c_X11_alike (x := ((xx + 1 : Nat) : Int) - 1) (y := ((yy + 1 : Nat) : Int) - 1) hG hR' hA hB (by omega) (by omega)) (by first | with_reducible assumption | rfl) rfl rfl rfl (Nat.le_of_ble_eq_true rfl) ⟨Nat.le_of_ble_eq_true rfl, Nat.le_of_ble_eq_true rfl⟩ ⟨Nat.le_of_ble_eq_true rfl, Nat.le_of_ble_eq_true rfl⟩ ?_
                  rw [ex1, ey1, e1]
                  refine V_if_eq 223 dX11_counts_201 (by decide) (by omega) (fun h201 => absurd h201 ((by decide))) (fun _ => ?_)
                  refine V_iload dX11_counts_204 rfl ?_
                  refine V_iload dX11_counts_206 rfl ?_
                  refine V_icmp_ne 223 dX11_counts_208 (by decide) (by omega) (by omega) (fun h208 => ?_) (fun h208 => ?_)
                  · refine V_lconst 0 dX11_counts_223 rfl ?_
                    refine V_ladd dX11_counts_224 ?_
                    refine S_lstore (ls' := [_, _, _, _, _, _, _, _, _, _]) dX11_counts_225 ⟨Nat.le_of_ble_eq_true rfl, rfl, rfl⟩ rfl ?_
                    refine V_aload_n dX11_counts_227 rfl ?_
                    refine V_getr 14 _ dX11_counts_228 fl_RX11_29 (by first | with_reducible assumption | rfl) rfl rfl (by first | with_reducible assumption | exact hG.at rfl) ?_
                    refine V_iload_n dX11_counts_231 rfl ?_
                    refine V_iload dX11_counts_232 rfl ?_
                    refine V_iast dX11_counts_234 (by first | with_reducible assumption | rfl) (by decide) (by omega) ?_
                    refine V_aload_n dX11_counts_235 rfl ?_
                    refine V_getr 15 _ dX11_counts_236 fl_RX11_32 (by first | with_reducible assumption | rfl) rfl rfl (by first | with_reducible assumption | exact hG.at rfl) ?_
                    refine V_iload_n dX11_counts_239 rfl ?_
                    refine V_lload dX11_counts_240 rfl ?_
                    refine V_last dX11_counts_242 (by first | with_reducible assumption | rfl) (by decide) (by omega) ?_
                    refine S_iinc (ls' := [_, _, _, _, _, _, _, _, _, _]) dX11_counts_243 rfl ⟨rfl, rfl⟩ rfl ?_
                    refine V_goto 14 dX11_counts_246 (by decide) ?_
                    first | (exfalso; omega) | exact done _ _ _ _ _ _ _ _ _ (by omega) (by omega) (by rw [ews]; split <;> split <;> omega)
                  · refine V_aload_n dX11_counts_211 rfl ?_
                    refine V_getr 15 _ dX11_counts_212 fl_RX11_32 (by first | with_reducible assumption | rfl) rfl rfl (by first | with_reducible assumption | exact hG.at rfl) ?_
                    refine V_iload_n dX11_counts_215 rfl ?_
                    refine V_bipush dX11_counts_216 (by decide) ?_
                    refine V_isub dX11_counts_218 ?_
                    refine V_lald dX11_counts_219 (by first | with_reducible assumption | rfl) (by decide) (by omega) ?_
                    rw [i3, c6]
                    refine V_goto 224 dX11_counts_220 (by decide) ?_
                    refine V_ladd dX11_counts_224 ?_
                    refine S_lstore (ls' := [_, _, _, _, _, _, _, _, _, _]) dX11_counts_225 ⟨Nat.le_of_ble_eq_true rfl, rfl, rfl⟩ rfl ?_
                    refine V_aload_n dX11_counts_227 rfl ?_
                    refine V_getr 14 _ dX11_counts_228 fl_RX11_29 (by first | with_reducible assumption | rfl) rfl rfl (by first | with_reducible assumption | exact hG.at rfl) ?_
                    refine V_iload_n dX11_counts_231 rfl ?_
                    refine V_iload dX11_counts_232 rfl ?_
                    refine V_iast dX11_counts_234 (by first | with_reducible assumption | rfl) (by decide) (by omega) ?_
                    refine V_aload_n dX11_counts_235 rfl ?_
                    refine V_getr 15 _ dX11_counts_236 fl_RX11_32 (by first | with_reducible assumption | rfl) rfl rfl (by first | with_reducible assumption | exact hG.at rfl) ?_
                    refine V_iload_n dX11_counts_239 rfl ?_
                    refine V_lload dX11_counts_240 rfl ?_
                    refine V_last dX11_counts_242 (by first | with_reducible assumption | rfl) (by decide) (by omega) ?_
                    refine S_iinc (ls' := [_, _, _, _, _, _, _, _, _, _]) dX11_counts_243 rfl ⟨rfl, rfl⟩ rfl ?_
                    refine V_goto 14 dX11_counts_246 (by decide) ?_
                    first | (exfalso; omega) | exact done _ _ _ _ _ _ _ _ _ (by omega) (by omega) (by rw [ews]; split <;> split <;> omega)
            · refine V_iload dX11_counts_142 rfl ?_
              refine V_goto 149 dX11_counts_144 (by decide) ?_
              refine S_istore (ls' := [_, _, _, _, _, _, _, _, _, _]) dX11_counts_149 ⟨Nat.le_of_ble_eq_true rfl, rfl, rfl⟩ rfl ?_
              refine V_iload dX11_counts_151 rfl ?_
              refine V_iload dX11_counts_153 rfl ?_
              refine V_icmp_ne 170 dX11_counts_155 (by decide) (by omega) (by omega) (fun h155 => ?_) (fun h155 => ?_)
              · refine V_lconst 0 dX11_counts_170 rfl ?_
                refine V_iload dX11_counts_171 rfl ?_
                refine V_iload dX11_counts_173 rfl ?_
                refine V_icmp_ne 189 dX11_counts_175 (by decide) (by omega) (by omega) (fun h175 => ?_) (fun h175 => ?_)
                · refine V_lconst 0 dX11_counts_189 rfl ?_
                  refine V_ladd dX11_counts_190 ?_
                  refine V_aload_n dX11_counts_191 rfl ?_
                  refine V_iload_n dX11_counts_192 rfl ?_
                  refine V_iconst dX11_counts_193 ?_
                  refine V_isub dX11_counts_194 ?_
                  refine V_iload_n dX11_counts_195 rfl ?_
                  refine V_iconst dX11_counts_196 ?_
                  refine V_isub dX11_counts_197 ?_
                  refine V_callVP dX11_counts_198 ml_RX11_71 km_X11_alike kv_X11_alike (c_X11_alike (x := ((xx + 1 : Nat) : Int) - 1) (y := ((yy + 1 : Nat) : Int) - 1) hG hR' hA hB (by omega) (by omega)) (by first | with_reducible assumption | rfl) rfl rfl rfl (Nat.le_of_ble_eq_true rfl) ⟨Nat.le_of_ble_eq_true rfl, Nat.le_of_ble_eq_true rfl⟩ ⟨Nat.le_of_ble_eq_true rfl, Nat.le_of_ble_eq_true rfl⟩ ?_
                  rw [ex1, ey1, e1]
                  refine V_if_eq 223 dX11_counts_201 (by decide) (by omega) (fun h201 => absurd h201 ((by decide))) (fun _ => ?_)
                  refine V_iload dX11_counts_204 rfl ?_
                  refine V_iload dX11_counts_206 rfl ?_
                  refine V_icmp_ne 223 dX11_counts_208 (by decide) (by omega) (by omega) (fun h208 => ?_) (fun h208 => ?_)
                  · refine V_lconst 0 dX11_counts_223 rfl ?_
                    refine V_ladd dX11_counts_224 ?_
                    refine S_lstore (ls' := [_, _, _, _, _, _, _, _, _, _]) dX11_counts_225 ⟨Nat.le_of_ble_eq_true rfl, rfl, rfl⟩ rfl ?_
                    refine V_aload_n dX11_counts_227 rfl ?_
                    refine V_getr 14 _ dX11_counts_228 fl_RX11_29 (by first | with_reducible assumption | rfl) rfl rfl (by first | with_reducible assumption | exact hG.at rfl) ?_
                    refine V_iload_n dX11_counts_231 rfl ?_
                    refine V_iload dX11_counts_232 rfl ?_
                    refine V_iast dX11_counts_234 (by first | with_reducible assumption | rfl) (by decide) (by omega) ?_
                    refine V_aload_n dX11_counts_235 rfl ?_
                    refine V_getr 15 _ dX11_counts_236 fl_RX11_32 (by first | with_reducible assumption | rfl) rfl rfl (by first | with_reducible assumption | exact hG.at rfl) ?_
                    refine V_iload_n dX11_counts_239 rfl ?_
                    refine V_lload dX11_counts_240 rfl ?_
                    refine V_last dX11_counts_242 (by first | with_reducible assumption | rfl) (by decide) (by omega) ?_
                    refine S_iinc (ls' := [_, _, _, _, _, _, _, _, _, _]) dX11_counts_243 rfl ⟨rfl, rfl⟩ rfl ?_
                    refine V_goto 14 dX11_counts_246 (by decide) ?_
                    first | (exfalso; omega) | exact done _ _ _ _ _ _ _ _ _ (by omega) (by omega) (by rw [ews]; split <;> split <;> omega)
                  · refine V_aload_n dX11_counts_211 rfl ?_
                    refine V_getr 15 _ dX11_counts_212 fl_RX11_32 (by first | with_reducible assumption | rfl) rfl rfl (by first | with_reducible assumption | exact hG.at rfl) ?_
                    refine V_iload_n dX11_counts_215 rfl ?_
                    refine V_bipush dX11_counts_216 (by decide) ?_
                    refine V_isub dX11_counts_218 ?_
                    refine V_lald dX11_counts_219 (by first | with_reducible assumption | rfl) (by decide) (by omega) ?_
                    rw [i3, c6]
                    refine V_goto 224 dX11_counts_220 (by decide) ?_
                    refine V_ladd dX11_counts_224 ?_
                    refine S_lstore (ls' := [_, _, _, _, _, _, _, _, _, _]) dX11_counts_225 ⟨Nat.le_of_ble_eq_true rfl, rfl, rfl⟩ rfl ?_
                    refine V_aload_n dX11_counts_227 rfl ?_
                    refine V_getr 14 _ dX11_counts_228 fl_RX11_29 (by first | with_reducible assumption | rfl) rfl rfl (by first | with_reducible assumption | exact hG.at rfl) ?_
                    refine V_iload_n dX11_counts_231 rfl ?_
                    refine V_iload dX11_counts_232 rfl ?_
                    refine V_iast dX11_counts_234 (by first | with_reducible assumption | rfl) (by decide) (by omega) ?_
                    refine V_aload_n dX11_counts_235 rfl ?_
                    refine V_getr 15 _ dX11_counts_236 fl_RX11_32 (by first | with_reducible assumption | rfl) rfl rfl (by first | with_reducible assumption | exact hG.at rfl) ?_
                    refine V_iload_n dX11_counts_239 rfl ?_
                    refine V_lload dX11_counts_240 rfl ?_
                    refine V_last dX11_counts_242 (by first | with_reducible assumption | rfl) (by decide) (by omega) ?_
                    refine S_iinc (ls' := [_, _, _, _, _, _, _, _, _, _]) dX11_counts_243 rfl ⟨rfl, rfl⟩ rfl ?_
                    refine V_goto 14 dX11_counts_246 (by decide) ?_
                    first | (exfalso; omega) | exact done _ _ _ _ _ _ _ _ _ (by omega) (by omega) (by rw [ews]; split <;> split <;> omega)
                · refine V_aload_n dX11_counts_178 rfl ?_
                  refine V_getr 15 _ dX11_counts_179 fl_RX11_32 (by first | with_reducible assumption | rfl) rfl rfl (by first | with_reducible assumption | exact hG.at rfl) ?_
                  refine V_iload_n dX11_counts_182 rfl ?_
                  refine V_iconst dX11_counts_183 ?_
                  refine V_isub dX11_counts_184 ?_
                  refine V_lald dX11_counts_185 (by first | with_reducible assumption | rfl) (by decide) (by omega) ?_
                  rw [i2, c4]
                  refine V_goto 190 dX11_counts_186 (by decide) ?_
                  refine V_ladd dX11_counts_190 ?_
                  refine V_aload_n dX11_counts_191 rfl ?_
                  refine V_iload_n dX11_counts_192 rfl ?_
                  refine V_iconst dX11_counts_193 ?_
                  refine V_isub dX11_counts_194 ?_
                  refine V_iload_n dX11_counts_195 rfl ?_
                  refine V_iconst dX11_counts_196 ?_
                  refine V_isub dX11_counts_197 ?_
                  refine V_callVP dX11_counts_198 ml_RX11_71 km_X11_alike kv_X11_alike (c_X11_alike (x := ((xx + 1 : Nat) : Int) - 1) (y := ((yy + 1 : Nat) : Int) - 1) hG hR' hA hB (by omega) (by omega)) (by first | with_reducible assumption | rfl) rfl rfl rfl (Nat.le_of_ble_eq_true rfl) ⟨Nat.le_of_ble_eq_true rfl, Nat.le_of_ble_eq_true rfl⟩ ⟨Nat.le_of_ble_eq_true rfl, Nat.le_of_ble_eq_true rfl⟩ ?_
                  rw [ex1, ey1, e1]
                  refine V_if_eq 223 dX11_counts_201 (by decide) (by omega) (fun h201 => absurd h201 ((by decide))) (fun _ => ?_)
                  refine V_iload dX11_counts_204 rfl ?_
                  refine V_iload dX11_counts_206 rfl ?_
                  refine V_icmp_ne 223 dX11_counts_208 (by decide) (by omega) (by omega) (fun h208 => ?_) (fun h208 => ?_)
                  · refine V_lconst 0 dX11_counts_223 rfl ?_
                    refine V_ladd dX11_counts_224 ?_
                    refine S_lstore (ls' := [_, _, _, _, _, _, _, _, _, _]) dX11_counts_225 ⟨Nat.le_of_ble_eq_true rfl, rfl, rfl⟩ rfl ?_
                    refine V_aload_n dX11_counts_227 rfl ?_
                    refine V_getr 14 _ dX11_counts_228 fl_RX11_29 (by first | with_reducible assumption | rfl) rfl rfl (by first | with_reducible assumption | exact hG.at rfl) ?_
                    refine V_iload_n dX11_counts_231 rfl ?_
                    refine V_iload dX11_counts_232 rfl ?_
                    refine V_iast dX11_counts_234 (by first | with_reducible assumption | rfl) (by decide) (by omega) ?_
                    refine V_aload_n dX11_counts_235 rfl ?_
                    refine V_getr 15 _ dX11_counts_236 fl_RX11_32 (by first | with_reducible assumption | rfl) rfl rfl (by first | with_reducible assumption | exact hG.at rfl) ?_
                    refine V_iload_n dX11_counts_239 rfl ?_
                    refine V_lload dX11_counts_240 rfl ?_
                    refine V_last dX11_counts_242 (by first | with_reducible assumption | rfl) (by decide) (by omega) ?_
                    refine S_iinc (ls' := [_, _, _, _, _, _, _, _, _, _]) dX11_counts_243 rfl ⟨rfl, rfl⟩ rfl ?_
                    refine V_goto 14 dX11_counts_246 (by decide) ?_
                    first | (exfalso; omega) | exact done _ _ _ _ _ _ _ _ _ (by omega) (by omega) (by rw [ews]; split <;> split <;> omega)
                  · refine V_aload_n dX11_counts_211 rfl ?_
                    refine V_getr 15 _ dX11_counts_212 fl_RX11_32 (by first | with_reducible assumption | rfl) rfl rfl (by first | with_reducible assumption | exact hG.at rfl) ?_
                    refine V_iload_n dX11_counts_215 rfl ?_
                    refine V_bipush dX11_counts_216 (by decide) ?_
                    refine V_isub dX11_counts_218 ?_
                    refine V_lald dX11_counts_219 (by first | with_reducible assumption | rfl) (by decide) (by omega) ?_
                    rw [i3, c6]
                    refine V_goto 224 dX11_counts_220 (by decide) ?_
                    refine V_ladd dX11_counts_224 ?_
                    refine S_lstore (ls' := [_, _, _, _, _, _, _, _, _, _]) dX11_counts_225 ⟨Nat.le_of_ble_eq_true rfl, rfl, rfl⟩ rfl ?_
                    refine V_aload_n dX11_counts_227 rfl ?_
                    refine V_getr 14 _ dX11_counts_228 fl_RX11_29 (by first | with_reducible assumption | rfl) rfl rfl (by first | with_reducible assumption | exact hG.at rfl) ?_
                    refine V_iload_n dX11_counts_231 rfl ?_
                    refine V_iload dX11_counts_232 rfl ?_
                    refine V_iast dX11_counts_234 (by first | with_reducible assumption | rfl) (by decide) (by omega) ?_
                    refine V_aload_n dX11_counts_235 rfl ?_
                    refine V_getr 15 _ dX11_counts_236 fl_RX11_32 (by first | with_reducible assumption | rfl) rfl rfl (by first | with_reducible assumption | exact hG.at rfl) ?_
                    refine V_iload_n dX11_counts_239 rfl ?_
                    refine V_lload dX11_counts_240 rfl ?_
                    refine V_last dX11_counts_242 (by first | with_reducible assumption | rfl) (by decide) (by omega) ?_
                    refine S_iinc (ls' := [_, _, _, _, _, _, _, _, _, _]) dX11_counts_243 rfl ⟨rfl, rfl⟩ rfl ?_
                    refine V_goto 14 dX11_counts_246 (by decide) ?_
                    first | (exfalso; omega) | exact done _ _ _ _ _ _ _ _ _ (by omega) (by omega) (by rw [ews]; split <;> split <;> omega)
              · refine V_aload_n dX11_counts_158 rfl ?_
                refine V_getr 15 _ dX11_counts_159 fl_RX11_32 (by first | with_reducible assumption | rfl) rfl rfl (by first | with_reducible assumption | exact hG.at rfl) ?_
                refine V_iload_n dX11_counts_162 rfl ?_
                refine V_bipush dX11_counts_163 (by decide) ?_
                refine V_isub dX11_counts_165 ?_
                refine V_lald dX11_counts_166 (by first | with_reducible assumption | rfl) (by decide) (by omega) ?_
                rw [i1, c2]
                refine V_goto 171 dX11_counts_167 (by decide) ?_
                refine V_iload dX11_counts_171 rfl ?_
                refine V_iload dX11_counts_173 rfl ?_
                refine V_icmp_ne 189 dX11_counts_175 (by decide) (by omega) (by omega) (fun h175 => ?_) (fun h175 => ?_)
                · refine V_lconst 0 dX11_counts_189 rfl ?_
                  refine V_ladd dX11_counts_190 ?_
                  refine V_aload_n dX11_counts_191 rfl ?_
                  refine V_iload_n dX11_counts_192 rfl ?_
                  refine V_iconst dX11_counts_193 ?_
                  refine V_isub dX11_counts_194 ?_
                  refine V_iload_n dX11_counts_195 rfl ?_
                  refine V_iconst dX11_counts_196 ?_
                  refine V_isub dX11_counts_197 ?_
                  refine V_callVP dX11_counts_198 ml_RX11_71 km_X11_alike kv_X11_alike (c_X11_alike (x := ((xx + 1 : Nat) : Int) - 1) (y := ((yy + 1 : Nat) : Int) - 1) hG hR' hA hB (by omega) (by omega)) (by first | with_reducible assumption | rfl) rfl rfl rfl (Nat.le_of_ble_eq_true rfl) ⟨Nat.le_of_ble_eq_true rfl, Nat.le_of_ble_eq_true rfl⟩ ⟨Nat.le_of_ble_eq_true rfl, Nat.le_of_ble_eq_true rfl⟩ ?_
                  rw [ex1, ey1, e1]
                  refine V_if_eq 223 dX11_counts_201 (by decide) (by omega) (fun h201 => absurd h201 ((by decide))) (fun _ => ?_)
                  refine V_iload dX11_counts_204 rfl ?_
                  refine V_iload dX11_counts_206 rfl ?_
                  refine V_icmp_ne 223 dX11_counts_208 (by decide) (by omega) (by omega) (fun h208 => ?_) (fun h208 => ?_)
                  · refine V_lconst 0 dX11_counts_223 rfl ?_
                    refine V_ladd dX11_counts_224 ?_
                    refine S_lstore (ls' := [_, _, _, _, _, _, _, _, _, _]) dX11_counts_225 ⟨Nat.le_of_ble_eq_true rfl, rfl, rfl⟩ rfl ?_
                    refine V_aload_n dX11_counts_227 rfl ?_
                    refine V_getr 14 _ dX11_counts_228 fl_RX11_29 (by first | with_reducible assumption | rfl) rfl rfl (by first | with_reducible assumption | exact hG.at rfl) ?_
                    refine V_iload_n dX11_counts_231 rfl ?_
                    refine V_iload dX11_counts_232 rfl ?_
                    refine V_iast dX11_counts_234 (by first | with_reducible assumption | rfl) (by decide) (by omega) ?_
                    refine V_aload_n dX11_counts_235 rfl ?_
                    refine V_getr 15 _ dX11_counts_236 fl_RX11_32 (by first | with_reducible assumption | rfl) rfl rfl (by first | with_reducible assumption | exact hG.at rfl) ?_
                    refine V_iload_n dX11_counts_239 rfl ?_
                    refine V_lload dX11_counts_240 rfl ?_
                    refine V_last dX11_counts_242 (by first | with_reducible assumption | rfl) (by decide) (by omega) ?_
                    refine S_iinc (ls' := [_, _, _, _, _, _, _, _, _, _]) dX11_counts_243 rfl ⟨rfl, rfl⟩ rfl ?_
                    refine V_goto 14 dX11_counts_246 (by decide) ?_
                    first | (exfalso; omega) | exact done _ _ _ _ _ _ _ _ _ (by omega) (by omega) (by rw [ews]; split <;> split <;> omega)
                  · refine V_aload_n dX11_counts_211 rfl ?_
                    refine V_getr 15 _ dX11_counts_212 fl_RX11_32 (by first | with_reducible assumption | rfl) rfl rfl (by first | with_reducible assumption | exact hG.at rfl) ?_
                    refine V_iload_n dX11_counts_215 rfl ?_
                    refine V_bipush dX11_counts_216 (by decide) ?_
                    refine V_isub dX11_counts_218 ?_
                    refine V_lald dX11_counts_219 (by first | with_reducible assumption | rfl) (by decide) (by omega) ?_
                    rw [i3, c6]
                    refine V_goto 224 dX11_counts_220 (by decide) ?_
                    refine V_ladd dX11_counts_224 ?_
                    refine S_lstore (ls' := [_, _, _, _, _, _, _, _, _, _]) dX11_counts_225 ⟨Nat.le_of_ble_eq_true rfl, rfl, rfl⟩ rfl ?_
                    refine V_aload_n dX11_counts_227 rfl ?_
                    refine V_getr 14 _ dX11_counts_228 fl_RX11_29 (by first | with_reducible assumption | rfl) rfl rfl (by first | with_reducible assumption | exact hG.at rfl) ?_
                    refine V_iload_n dX11_counts_231 rfl ?_
                    refine V_iload dX11_counts_232 rfl ?_
                    refine V_iast dX11_counts_234 (by first | with_reducible assumption | rfl) (by decide) (by omega) ?_
                    refine V_aload_n dX11_counts_235 rfl ?_
                    refine V_getr 15 _ dX11_counts_236 fl_RX11_32 (by first | with_reducible assumption | rfl) rfl rfl (by first | with_reducible assumption | exact hG.at rfl) ?_
                    refine V_iload_n dX11_counts_239 rfl ?_
                    refine V_lload dX11_counts_240 rfl ?_
                    refine V_last dX11_counts_242 (by first | with_reducible assumption | rfl) (by decide) (by omega) ?_
                    refine S_iinc (ls' := [_, _, _, _, _, _, _, _, _, _]) dX11_counts_243 rfl ⟨rfl, rfl⟩ rfl ?_
                    refine V_goto 14 dX11_counts_246 (by decide) ?_
                    first | (exfalso; omega) | exact done _ _ _ _ _ _ _ _ _ (by omega) (by omega) (by rw [ews]; split <;> split <;> omega)
                · refine V_aload_n dX11_counts_178 rfl ?_
                  refine V_getr 15 _ dX11_counts_179 fl_RX11_32 (by first | with_reducible assumption | rfl) rfl rfl (by first | with_reducible assumption | exact hG.at rfl) ?_
                  refine V_iload_n dX11_counts_182 rfl ?_
                  refine V_iconst dX11_counts_183 ?_
                  refine V_isub dX11_counts_184 ?_
                  refine V_lald dX11_counts_185 (by first | with_reducible assumption | rfl) (by decide) (by omega) ?_
                  rw [i2, c4]
                  refine V_goto 190 dX11_counts_186 (by decide) ?_
                  refine V_ladd dX11_counts_190 ?_
                  refine V_aload_n dX11_counts_191 rfl ?_
                  refine V_iload_n dX11_counts_192 rfl ?_
                  refine V_iconst dX11_counts_193 ?_
                  refine V_isub dX11_counts_194 ?_
                  refine V_iload_n dX11_counts_195 rfl ?_
                  refine V_iconst dX11_counts_196 ?_
                  refine V_isub dX11_counts_197 ?_
                  refine V_callVP dX11_counts_198 ml_RX11_71 km_X11_alike kv_X11_alike (c_X11_alike (x := ((xx + 1 : Nat) : Int) - 1) (y := ((yy + 1 : Nat) : Int) - 1) hG hR' hA hB (by omega) (by omega)) (by first | with_reducible assumption | rfl) rfl rfl rfl (Nat.le_of_ble_eq_true rfl) ⟨Nat.le_of_ble_eq_true rfl, Nat.le_of_ble_eq_true rfl⟩ ⟨Nat.le_of_ble_eq_true rfl, Nat.le_of_ble_eq_true rfl⟩ ?_
                  rw [ex1, ey1, e1]
                  refine V_if_eq 223 dX11_counts_201 (by decide) (by omega) (fun h201 => absurd h201 ((by decide))) (fun _ => ?_)
                  refine V_iload dX11_counts_204 rfl ?_
                  refine V_iload dX11_counts_206 rfl ?_
                  refine V_icmp_ne 223 dX11_counts_208 (by decide) (by omega) (by omega) (fun h208 => ?_) (fun h208 => ?_)
                  · refine V_lconst 0 dX11_counts_223 rfl ?_
                    refine V_ladd dX11_counts_224 ?_
                    refine S_lstore (ls' := [_, _, _, _, _, _, _, _, _, _]) dX11_counts_225 ⟨Nat.le_of_ble_eq_true rfl, rfl, rfl⟩ rfl ?_
                    refine V_aload_n dX11_counts_227 rfl ?_
                    refine V_getr 14 _ dX11_counts_228 fl_RX11_29 (by first | with_reducible assumption | rfl) rfl rfl (by first | with_reducible assumption | exact hG.at rfl) ?_
                    refine V_iload_n dX11_counts_231 rfl ?_
                    refine V_iload dX11_counts_232 rfl ?_
                    refine V_iast dX11_counts_234 (by first | with_reducible assumption | rfl) (by decide) (by omega) ?_
                    refine V_aload_n dX11_counts_235 rfl ?_
                    refine V_getr 15 _ dX11_counts_236 fl_RX11_32 (by first | with_reducible assumption | rfl) rfl rfl (by first | with_reducible assumption | exact hG.at rfl) ?_
                    refine V_iload_n dX11_counts_239 rfl ?_
                    refine V_lload dX11_counts_240 rfl ?_
                    refine V_last dX11_counts_242 (by first | with_reducible assumption | rfl) (by decide) (by omega) ?_
                    refine S_iinc (ls' := [_, _, _, _, _, _, _, _, _, _]) dX11_counts_243 rfl ⟨rfl, rfl⟩ rfl ?_
                    refine V_goto 14 dX11_counts_246 (by decide) ?_
                    first | (exfalso; omega) | exact done _ _ _ _ _ _ _ _ _ (by omega) (by omega) (by rw [ews]; split <;> split <;> omega)
                  · refine V_aload_n dX11_counts_211 rfl ?_
                    refine V_getr 15 _ dX11_counts_212 fl_RX11_32 (by first | with_reducible assumption | rfl) rfl rfl (by first | with_reducible assumption | exact hG.at rfl) ?_
                    refine V_iload_n dX11_counts_215 rfl ?_
                    refine V_bipush dX11_counts_216 (by decide) ?_
                    refine V_isub dX11_counts_218 ?_
                    refine V_lald dX11_counts_219 (by first | with_reducible assumption | rfl) (by decide) (by omega) ?_
                    rw [i3, c6]
                    refine V_goto 224 dX11_counts_220 (by decide) ?_
                    refine V_ladd dX11_counts_224 ?_
                    refine S_lstore (ls' := [_, _, _, _, _, _, _, _, _, _]) dX11_counts_225 ⟨Nat.le_of_ble_eq_true rfl, rfl, rfl⟩ rfl ?_
                    refine V_aload_n dX11_counts_227 rfl ?_
                    refine V_getr 14 _ dX11_counts_228 fl_RX11_29 (by first | with_reducible assumption | rfl) rfl rfl (by first | with_reducible assumption | exact hG.at rfl) ?_
                    refine V_iload_n dX11_counts_231 rfl ?_
                    refine V_iload dX11_counts_232 rfl ?_
                    refine V_iast dX11_counts_234 (by first | with_reducible assumption | rfl) (by decide) (by omega) ?_
                    refine V_aload_n dX11_counts_235 rfl ?_
                    refine V_getr 15 _ dX11_counts_236 fl_RX11_32 (by first | with_reducible assumption | rfl) rfl rfl (by first | with_reducible assumption | exact hG.at rfl) ?_
                    refine V_iload_n dX11_counts_239 rfl ?_
                    refine V_lload dX11_counts_240 rfl ?_
                    refine V_last dX11_counts_242 (by first | with_reducible assumption | rfl) (by decide) (by omega) ?_
                    refine S_iinc (ls' := [_, _, _, _, _, _, _, _, _, _]) dX11_counts_243 rfl ⟨rfl, rfl⟩ rfl ?_
                    refine V_goto 14 dX11_counts_246 (by decide) ?_
                    first | (exfalso; omega) | exact done _ _ _ _ _ _ _ _ _ (by omega) (by omega) (by rw [ews]; split <;> split <;> omega)
        · rw [if_neg ha] at es
          rw [if_neg ha] at ews
          have e1 : (if al A B xx yy then (1 : Int) else 0) = 0 := if_neg ha
          refine V_iload_n dX11_counts_14 rfl ?_
          refine V_aload_n dX11_counts_15 rfl ?_
          refine V_getr 0 _ dX11_counts_16 fl_RX11_7 (by first | with_reducible assumption | rfl) rfl rfl (by first | with_reducible assumption | exact hG.at rfl) ?_
          refine V_iconst dX11_counts_19 ?_
          refine V_iald dX11_counts_20 (by first | with_reducible assumption | rfl) (by decide) (by omega) ?_
          rw [q1]
          refine V_icmp_gt 249 dX11_counts_21 (by decide) (by omega) (by omega) (fun h21 => absurd h21 (hend)) (fun _ => ?_)
          refine V_bipush dX11_counts_24 (by decide) ?_
          refine V_iload_n dX11_counts_26 rfl ?_
          refine V_imul dX11_counts_27 ?_
          refine V_iload_n dX11_counts_28 rfl ?_
          refine V_iadd dX11_counts_29 ?_
          refine S_istore_n (ls' := [_, _, _, _, _, _, _, _, _, _]) dX11_counts_30 ⟨Nat.le_of_ble_eq_true rfl, rfl, rfl⟩ rfl ?_
          refine V_iload_n dX11_counts_31 rfl ?_
          refine V_iload_n dX11_counts_32 rfl ?_
          refine V_iadd dX11_counts_33 ?_
          refine S_istore (ls' := [_, _, _, _, _, _, _, _, _, _]) dX11_counts_34 ⟨Nat.le_of_ble_eq_true rfl, rfl, rfl⟩ rfl ?_
          refine V_iload_n dX11_counts_36 rfl ?_
          refine V_iload_n dX11_counts_37 rfl ?_
          refine V_iadd dX11_counts_38 ?_
          refine V_if_eq 50 dX11_counts_39 (by decide) (by omega) (fun h39 => absurd h39 ((by omega))) (fun _ => ?_)
          refine V_iload_n dX11_counts_42 rfl ?_
          refine V_if_eq 50 dX11_counts_43 (by decide) (by omega) (fun h43 => absurd h43 ((by omega))) (fun _ => ?_)
          refine V_iload_n dX11_counts_46 rfl ?_
          refine V_if_ne 54 dX11_counts_47 (by decide) (by omega) (fun _ => ?_) (fun h47 => absurd h47 ((by omega)))
          refine V_lconst 0 dX11_counts_54 rfl ?_
          refine S_lstore (ls' := [_, _, _, _, _, _, _, _, _, _]) dX11_counts_55 ⟨Nat.le_of_ble_eq_true rfl, rfl, rfl⟩ rfl ?_
          refine V_iload_n dX11_counts_57 rfl ?_
          refine V_if_le 227 dX11_counts_58 (by decide) (by omega) (fun h58 => absurd h58 ((by omega))) (fun _ => ?_)
          refine V_iload_n dX11_counts_61 rfl ?_
          refine V_if_le 227 dX11_counts_62 (by decide) (by omega) (fun h62 => absurd h62 ((by omega))) (fun _ => ?_)
          refine V_aload_n dX11_counts_65 rfl ?_
          refine V_getr 14 _ dX11_counts_66 fl_RX11_29 (by first | with_reducible assumption | rfl) rfl rfl (by first | with_reducible assumption | exact hG.at rfl) ?_
          refine V_iload_n dX11_counts_69 rfl ?_
          refine V_bipush dX11_counts_70 (by decide) ?_
          refine V_isub dX11_counts_72 ?_
          refine V_iald dX11_counts_73 (by first | with_reducible assumption | rfl) (by decide) (by omega) ?_
          rw [i1, c1]
          refine V_iconst dX11_counts_74 ?_
          refine V_iadd dX11_counts_75 ?_
          refine S_istore (ls' := [_, _, _, _, _, _, _, _, _, _]) dX11_counts_76 ⟨Nat.le_of_ble_eq_true rfl, rfl, rfl⟩ rfl ?_
          refine V_aload_n dX11_counts_78 rfl ?_
          refine V_getr 14 _ dX11_counts_79 fl_RX11_29 (by first | with_reducible assumption | rfl) rfl rfl (by first | with_reducible assumption | exact hG.at rfl) ?_
          refine V_iload_n dX11_counts_82 rfl ?_
          refine V_iconst dX11_counts_83 ?_
          refine V_isub dX11_counts_84 ?_
          refine V_iald dX11_counts_85 (by first | with_reducible assumption | rfl) (by decide) (by omega) ?_
          rw [i2, c3]
          refine V_iconst dX11_counts_86 ?_
          refine V_iadd dX11_counts_87 ?_
          refine S_istore (ls' := [_, _, _, _, _, _, _, _, _, _]) dX11_counts_88 ⟨Nat.le_of_ble_eq_true rfl, rfl, rfl⟩ rfl ?_
          refine V_aload_n dX11_counts_90 rfl ?_
          refine V_iload_n dX11_counts_91 rfl ?_
          refine V_iconst dX11_counts_92 ?_
          refine V_isub dX11_counts_93 ?_
          refine V_iload_n dX11_counts_94 rfl ?_
          refine V_iconst dX11_counts_95 ?_
          refine V_isub dX11_counts_96 ?_
          refine V_callVP dX11_counts_97 ml_RX11_71 km_X11_alike kv_X11_alike (c_X11_alike (x := ((xx + 1 : Nat) : Int) - 1) (y := ((yy + 1 : Nat) : Int) - 1) hG hR' hA hB (by omega) (by omega)) (by first | with_reducible assumption | rfl) rfl rfl rfl (Nat.le_of_ble_eq_true rfl) ⟨Nat.le_of_ble_eq_true rfl, Nat.le_of_ble_eq_true rfl⟩ ⟨Nat.le_of_ble_eq_true rfl, Nat.le_of_ble_eq_true rfl⟩ ?_
          rw [ex1, ey1, e1]
          refine V_if_eq 115 dX11_counts_100 (by decide) (by omega) (fun _ => ?_) (fun h100 => absurd h100 ((by decide)))
          refine V_iload dX11_counts_115 rfl ?_
          refine S_istore (ls' := [_, _, _, _, _, _, _, _, _, _]) dX11_counts_117 ⟨Nat.le_of_ble_eq_true rfl, rfl, rfl⟩ rfl ?_
          refine V_iload dX11_counts_119 rfl ?_
          refine V_iload dX11_counts_121 rfl ?_
          refine V_icmp_ge 131 dX11_counts_123 (by decide) (by omega) (by omega) (fun h123 => ?_) (fun h123 => ?_)
          · refine V_iload dX11_counts_131 rfl ?_
            refine S_istore (ls' := [_, _, _, _, _, _, _, _, _, _]) dX11_counts_133 ⟨Nat.le_of_ble_eq_true rfl, rfl, rfl⟩ rfl ?_
            refine V_iload dX11_counts_135 rfl ?_
            refine V_iload dX11_counts_137 rfl ?_
            refine V_icmp_ge 147 dX11_counts_139 (by decide) (by omega) (by omega) (fun h139 => ?_) (fun h139 => ?_)
            · refine V_iload dX11_counts_147 rfl ?_
              refine S_istore (ls' := [_, _, _, _, _, _, _, _, _, _]) dX11_counts_149 ⟨Nat.le_of_ble_eq_true rfl, rfl, rfl⟩ rfl ?_
              refine V_iload dX11_counts_151 rfl ?_
              refine V_iload dX11_counts_153 rfl ?_
              refine V_icmp_ne 170 dX11_counts_155 (by decide) (by omega) (by omega) (fun h155 => ?_) (fun h155 => ?_)
              · refine V_lconst 0 dX11_counts_170 rfl ?_
                refine V_iload dX11_counts_171 rfl ?_
                refine V_iload dX11_counts_173 rfl ?_
                refine V_icmp_ne 189 dX11_counts_175 (by decide) (by omega) (by omega) (fun h175 => ?_) (fun h175 => ?_)
                · refine V_lconst 0 dX11_counts_189 rfl ?_
                  refine V_ladd dX11_counts_190 ?_
                  refine V_aload_n dX11_counts_191 rfl ?_
                  refine V_iload_n dX11_counts_192 rfl ?_
                  refine V_iconst dX11_counts_193 ?_
                  refine V_isub dX11_counts_194 ?_
                  refine V_iload_n dX11_counts_195 rfl ?_
                  refine V_iconst dX11_counts_196 ?_
                  refine V_isub dX11_counts_197 ?_
                  refine V_callVP dX11_counts_198 ml_RX11_71 km_X11_alike kv_X11_alike (c_X11_alike (x := ((xx + 1 : Nat) : Int) - 1) (y := ((yy + 1 : Nat) : Int) - 1) hG hR' hA hB (by omega) (by omega)) (by first | with_reducible assumption | rfl) rfl rfl rfl (Nat.le_of_ble_eq_true rfl) ⟨Nat.le_of_ble_eq_true rfl, Nat.le_of_ble_eq_true rfl⟩ ⟨Nat.le_of_ble_eq_true rfl, Nat.le_of_ble_eq_true rfl⟩ ?_
                  rw [ex1, ey1, e1]
                  refine V_if_eq 223 dX11_counts_201 (by decide) (by omega) (fun _ => ?_) (fun h201 => absurd h201 ((by decide)))
                  refine V_lconst 0 dX11_counts_223 rfl ?_
                  refine V_ladd dX11_counts_224 ?_
                  refine S_lstore (ls' := [_, _, _, _, _, _, _, _, _, _]) dX11_counts_225 ⟨Nat.le_of_ble_eq_true rfl, rfl, rfl⟩ rfl ?_
                  refine V_aload_n dX11_counts_227 rfl ?_
                  refine V_getr 14 _ dX11_counts_228 fl_RX11_29 (by first | with_reducible assumption | rfl) rfl rfl (by first | with_reducible assumption | exact hG.at rfl) ?_
                  refine V_iload_n dX11_counts_231 rfl ?_
                  refine V_iload dX11_counts_232 rfl ?_
                  refine V_iast dX11_counts_234 (by first | with_reducible assumption | rfl) (by decide) (by omega) ?_
                  refine V_aload_n dX11_counts_235 rfl ?_
                  refine V_getr 15 _ dX11_counts_236 fl_RX11_32 (by first | with_reducible assumption | rfl) rfl rfl (by first | with_reducible assumption | exact hG.at rfl) ?_
                  refine V_iload_n dX11_counts_239 rfl ?_
                  refine V_lload dX11_counts_240 rfl ?_
                  refine V_last dX11_counts_242 (by first | with_reducible assumption | rfl) (by decide) (by omega) ?_
                  refine S_iinc (ls' := [_, _, _, _, _, _, _, _, _, _]) dX11_counts_243 rfl ⟨rfl, rfl⟩ rfl ?_
                  refine V_goto 14 dX11_counts_246 (by decide) ?_
                  first | (exfalso; omega) | exact done _ _ _ _ _ _ _ _ _ (by omega) (by omega) (by rw [ews]; split <;> split <;> omega)
                · refine V_aload_n dX11_counts_178 rfl ?_
                  refine V_getr 15 _ dX11_counts_179 fl_RX11_32 (by first | with_reducible assumption | rfl) rfl rfl (by first | with_reducible assumption | exact hG.at rfl) ?_
                  refine V_iload_n dX11_counts_182 rfl ?_
                  refine V_iconst dX11_counts_183 ?_
                  refine V_isub dX11_counts_184 ?_
                  refine V_lald dX11_counts_185 (by first | with_reducible assumption | rfl) (by decide) (by omega) ?_
                  rw [i2, c4]
                  refine V_goto 190 dX11_counts_186 (by decide) ?_
                  refine V_ladd dX11_counts_190 ?_
                  refine V_aload_n dX11_counts_191 rfl ?_
                  refine V_iload_n dX11_counts_192 rfl ?_
                  refine V_iconst dX11_counts_193 ?_
                  refine V_isub dX11_counts_194 ?_
                  refine V_iload_n dX11_counts_195 rfl ?_
                  refine V_iconst dX11_counts_196 ?_
                  refine V_isub dX11_counts_197 ?_
                  refine V_callVP dX11_counts_198 ml_RX11_71 km_X11_alike kv_X11_alike (c_X11_alike (x := ((xx + 1 : Nat) : Int) - 1) (y := ((yy + 1 : Nat) : Int) - 1) hG hR' hA hB (by omega) (by omega)) (by first | with_reducible assumption | rfl) rfl rfl rfl (Nat.le_of_ble_eq_true rfl) ⟨Nat.le_of_ble_eq_true rfl, Nat.le_of_ble_eq_true rfl⟩ ⟨Nat.le_of_ble_eq_true rfl, Nat.le_of_ble_eq_true rfl⟩ ?_
                  rw [ex1, ey1, e1]
                  refine V_if_eq 223 dX11_counts_201 (by decide) (by omega) (fun _ => ?_) (fun h201 => absurd h201 ((by decide)))
                  refine V_lconst 0 dX11_counts_223 rfl ?_
                  refine V_ladd dX11_counts_224 ?_
                  refine S_lstore (ls' := [_, _, _, _, _, _, _, _, _, _]) dX11_counts_225 ⟨Nat.le_of_ble_eq_true rfl, rfl, rfl⟩ rfl ?_
                  refine V_aload_n dX11_counts_227 rfl ?_
                  refine V_getr 14 _ dX11_counts_228 fl_RX11_29 (by first | with_reducible assumption | rfl) rfl rfl (by first | with_reducible assumption | exact hG.at rfl) ?_
                  refine V_iload_n dX11_counts_231 rfl ?_
                  refine V_iload dX11_counts_232 rfl ?_
                  refine V_iast dX11_counts_234 (by first | with_reducible assumption | rfl) (by decide) (by omega) ?_
                  refine V_aload_n dX11_counts_235 rfl ?_
                  refine V_getr 15 _ dX11_counts_236 fl_RX11_32 (by first | with_reducible assumption | rfl) rfl rfl (by first | with_reducible assumption | exact hG.at rfl) ?_
                  refine V_iload_n dX11_counts_239 rfl ?_
                  refine V_lload dX11_counts_240 rfl ?_
                  refine V_last dX11_counts_242 (by first | with_reducible assumption | rfl) (by decide) (by omega) ?_
                  refine S_iinc (ls' := [_, _, _, _, _, _, _, _, _, _]) dX11_counts_243 rfl ⟨rfl, rfl⟩ rfl ?_
                  refine V_goto 14 dX11_counts_246 (by decide) ?_
                  first | (exfalso; omega) | exact done _ _ _ _ _ _ _ _ _ (by omega) (by omega) (by rw [ews]; split <;> split <;> omega)
              · refine V_aload_n dX11_counts_158 rfl ?_
                refine V_getr 15 _ dX11_counts_159 fl_RX11_32 (by first | with_reducible assumption | rfl) rfl rfl (by first | with_reducible assumption | exact hG.at rfl) ?_
                refine V_iload_n dX11_counts_162 rfl ?_
                refine V_bipush dX11_counts_163 (by decide) ?_
                refine V_isub dX11_counts_165 ?_
                refine V_lald dX11_counts_166 (by first | with_reducible assumption | rfl) (by decide) (by omega) ?_
                rw [i1, c2]
                refine V_goto 171 dX11_counts_167 (by decide) ?_
                refine V_iload dX11_counts_171 rfl ?_
                refine V_iload dX11_counts_173 rfl ?_
                refine V_icmp_ne 189 dX11_counts_175 (by decide) (by omega) (by omega) (fun h175 => ?_) (fun h175 => ?_)
                · refine V_lconst 0 dX11_counts_189 rfl ?_
                  refine V_ladd dX11_counts_190 ?_
                  refine V_aload_n dX11_counts_191 rfl ?_
                  refine V_iload_n dX11_counts_192 rfl ?_
                  refine V_iconst dX11_counts_193 ?_
                  refine V_isub dX11_counts_194 ?_
                  refine V_iload_n dX11_counts_195 rfl ?_
                  refine V_iconst dX11_counts_196 ?_
                  refine V_isub dX11_counts_197 ?_
                  refine V_callVP dX11_counts_198 ml_RX11_71 km_X11_alike kv_X11_alike (c_X11_alike (x := ((xx + 1 : Nat) : Int) - 1) (y := ((yy + 1 : Nat) : Int) - 1) hG hR' hA hB (by omega) (by omega)) (by first | with_reducible assumption | rfl) rfl rfl rfl (Nat.le_of_ble_eq_true rfl) ⟨Nat.le_of_ble_eq_true rfl, Nat.le_of_ble_eq_true rfl⟩ ⟨Nat.le_of_ble_eq_true rfl, Nat.le_of_ble_eq_true rfl⟩ ?_
                  rw [ex1, ey1, e1]
                  refine V_if_eq 223 dX11_counts_201 (by decide) (by omega) (fun _ => ?_) (fun h201 => absurd h201 ((by decide)))
                  refine V_lconst 0 dX11_counts_223 rfl ?_
                  refine V_ladd dX11_counts_224 ?_
                  refine S_lstore (ls' := [_, _, _, _, _, _, _, _, _, _]) dX11_counts_225 ⟨Nat.le_of_ble_eq_true rfl, rfl, rfl⟩ rfl ?_
                  refine V_aload_n dX11_counts_227 rfl ?_
                  refine V_getr 14 _ dX11_counts_228 fl_RX11_29 (by first | with_reducible assumption | rfl) rfl rfl (by first | with_reducible assumption | exact hG.at rfl) ?_
                  refine V_iload_n dX11_counts_231 rfl ?_
                  refine V_iload dX11_counts_232 rfl ?_
                  refine V_iast dX11_counts_234 (by first | with_reducible assumption | rfl) (by decide) (by omega) ?_
                  refine V_aload_n dX11_counts_235 rfl ?_
                  refine V_getr 15 _ dX11_counts_236 fl_RX11_32 (by first | with_reducible assumption | rfl) rfl rfl (by first | with_reducible assumption | exact hG.at rfl) ?_
                  refine V_iload_n dX11_counts_239 rfl ?_
                  refine V_lload dX11_counts_240 rfl ?_
                  refine V_last dX11_counts_242 (by first | with_reducible assumption | rfl) (by decide) (by omega) ?_
                  refine S_iinc (ls' := [_, _, _, _, _, _, _, _, _, _]) dX11_counts_243 rfl ⟨rfl, rfl⟩ rfl ?_
                  refine V_goto 14 dX11_counts_246 (by decide) ?_
                  first | (exfalso; omega) | exact done _ _ _ _ _ _ _ _ _ (by omega) (by omega) (by rw [ews]; split <;> split <;> omega)
                · refine V_aload_n dX11_counts_178 rfl ?_
                  refine V_getr 15 _ dX11_counts_179 fl_RX11_32 (by first | with_reducible assumption | rfl) rfl rfl (by first | with_reducible assumption | exact hG.at rfl) ?_
                  refine V_iload_n dX11_counts_182 rfl ?_
                  refine V_iconst dX11_counts_183 ?_
                  refine V_isub dX11_counts_184 ?_
                  refine V_lald dX11_counts_185 (by first | with_reducible assumption | rfl) (by decide) (by omega) ?_
                  rw [i2, c4]
                  refine V_goto 190 dX11_counts_186 (by decide) ?_
                  refine V_ladd dX11_counts_190 ?_
                  refine V_aload_n dX11_counts_191 rfl ?_
                  refine V_iload_n dX11_counts_192 rfl ?_
                  refine V_iconst dX11_counts_193 ?_
                  refine V_isub dX11_counts_194 ?_
                  refine V_iload_n dX11_counts_195 rfl ?_
                  refine V_iconst dX11_counts_196 ?_
                  refine V_isub dX11_counts_197 ?_
                  refine V_callVP dX11_counts_198 ml_RX11_71 km_X11_alike kv_X11_alike (c_X11_alike (x := ((xx + 1 : Nat) : Int) - 1) (y := ((yy + 1 : Nat) : Int) - 1) hG hR' hA hB (by omega) (by omega)) (by first | with_reducible assumption | rfl) rfl rfl rfl (Nat.le_of_ble_eq_true rfl) ⟨Nat.le_of_ble_eq_true rfl, Nat.le_of_ble_eq_true rfl⟩ ⟨Nat.le_of_ble_eq_true rfl, Nat.le_of_ble_eq_true rfl⟩ ?_
                  rw [ex1, ey1, e1]
                  refine V_if_eq 223 dX11_counts_201 (by decide) (by omega) (fun _ => ?_) (fun h201 => absurd h201 ((by decide)))
                  refine V_lconst 0 dX11_counts_223 rfl ?_
                  refine V_ladd dX11_counts_224 ?_
                  refine S_lstore (ls' := [_, _, _, _, _, _, _, _, _, _]) dX11_counts_225 ⟨Nat.le_of_ble_eq_true rfl, rfl, rfl⟩ rfl ?_
                  refine V_aload_n dX11_counts_227 rfl ?_
                  refine V_getr 14 _ dX11_counts_228 fl_RX11_29 (by first | with_reducible assumption | rfl) rfl rfl (by first | with_reducible assumption | exact hG.at rfl) ?_
                  refine V_iload_n dX11_counts_231 rfl ?_
                  refine V_iload dX11_counts_232 rfl ?_
                  refine V_iast dX11_counts_234 (by first | with_reducible assumption | rfl) (by decide) (by omega) ?_
                  refine V_aload_n dX11_counts_235 rfl ?_
                  refine V_getr 15 _ dX11_counts_236 fl_RX11_32 (by first | with_reducible assumption | rfl) rfl rfl (by first | with_reducible assumption | exact hG.at rfl) ?_
                  refine V_iload_n dX11_counts_239 rfl ?_
                  refine V_lload dX11_counts_240 rfl ?_
                  refine V_last dX11_counts_242 (by first | with_reducible assumption | rfl) (by decide) (by omega) ?_
                  refine S_iinc (ls' := [_, _, _, _, _, _, _, _, _, _]) dX11_counts_243 rfl ⟨rfl, rfl⟩ rfl ?_
                  refine V_goto 14 dX11_counts_246 (by decide) ?_
                  first | (exfalso; omega) | exact done _ _ _ _ _ _ _ _ _ (by omega) (by omega) (by rw [ews]; split <;> split <;> omega)
            · refine V_iload dX11_counts_142 rfl ?_
              refine V_goto 149 dX11_counts_144 (by decide) ?_
              refine S_istore (ls' := [_, _, _, _, _, _, _, _, _, _]) dX11_counts_149 ⟨Nat.le_of_ble_eq_true rfl, rfl, rfl⟩ rfl ?_
              refine V_iload dX11_counts_151 rfl ?_
              refine V_iload dX11_counts_153 rfl ?_
              refine V_icmp_ne 170 dX11_counts_155 (by decide) (by omega) (by omega) (fun h155 => ?_) (fun h155 => ?_)
              · refine V_lconst 0 dX11_counts_170 rfl ?_
                refine V_iload dX11_counts_171 rfl ?_
                refine V_iload dX11_counts_173 rfl ?_
                refine V_icmp_ne 189 dX11_counts_175 (by decide) (by omega) (by omega) (fun h175 => ?_) (fun h175 => ?_)
                · refine V_lconst 0 dX11_counts_189 rfl ?_
                  refine V_ladd dX11_counts_190 ?_
                  refine V_aload_n dX11_counts_191 rfl ?_
                  refine V_iload_n dX11_counts_192 rfl ?_
                  refine V_iconst dX11_counts_193 ?_
                  refine V_isub dX11_counts_194 ?_
                  refine V_iload_n dX11_counts_195 rfl ?_
                  refine V_iconst dX11_counts_196 ?_
                  refine V_isub dX11_counts_197 ?_
                  refine V_callVP dX11_counts_198 ml_RX11_71 km_X11_alike kv_X11_alike (c_X11_alike (x := ((xx + 1 : Nat) : Int) - 1) (y := ((yy + 1 : Nat) : Int) - 1) hG hR' hA hB (by omega) (by omega)) (by first | with_reducible assumption | rfl) rfl rfl rfl (Nat.le_of_ble_eq_true rfl) ⟨Nat.le_of_ble_eq_true rfl, Nat.le_of_ble_eq_true rfl⟩ ⟨Nat.le_of_ble_eq_true rfl, Nat.le_of_ble_eq_true rfl⟩ ?_
                  rw [ex1, ey1, e1]
                  refine V_if_eq 223 dX11_counts_201 (by decide) (by omega) (fun _ => ?_) (fun h201 => absurd h201 ((by decide)))
                  refine V_lconst 0 dX11_counts_223 rfl ?_
                  refine V_ladd dX11_counts_224 ?_
                  refine S_lstore (ls' := [_, _, _, _, _, _, _, _, _, _]) dX11_counts_225 ⟨Nat.le_of_ble_eq_true rfl, rfl, rfl⟩ rfl ?_
                  refine V_aload_n dX11_counts_227 rfl ?_
                  refine V_getr 14 _ dX11_counts_228 fl_RX11_29 (by first | with_reducible assumption | rfl) rfl rfl (by first | with_reducible assumption | exact hG.at rfl) ?_
                  refine V_iload_n dX11_counts_231 rfl ?_
                  refine V_iload dX11_counts_232 rfl ?_
                  refine V_iast dX11_counts_234 (by first | with_reducible assumption | rfl) (by decide) (by omega) ?_
                  refine V_aload_n dX11_counts_235 rfl ?_
                  refine V_getr 15 _ dX11_counts_236 fl_RX11_32 (by first | with_reducible assumption | rfl) rfl rfl (by first | with_reducible assumption | exact hG.at rfl) ?_
                  refine V_iload_n dX11_counts_239 rfl ?_
                  refine V_lload dX11_counts_240 rfl ?_
                  refine V_last dX11_counts_242 (by first | with_reducible assumption | rfl) (by decide) (by omega) ?_
                  refine S_iinc (ls' := [_, _, _, _, _, _, _, _, _, _]) dX11_counts_243 rfl ⟨rfl, rfl⟩ rfl ?_
                  refine V_goto 14 dX11_counts_246 (by decide) ?_
                  first | (exfalso; omega) | exact done _ _ _ _ _ _ _ _ _ (by omega) (by omega) (by rw [ews]; split <;> split <;> omega)
                · refine V_aload_n dX11_counts_178 rfl ?_
                  refine V_getr 15 _ dX11_counts_179 fl_RX11_32 (by first | with_reducible assumption | rfl) rfl rfl (by first | with_reducible assumption | exact hG.at rfl) ?_
                  refine V_iload_n dX11_counts_182 rfl ?_
                  refine V_iconst dX11_counts_183 ?_
                  refine V_isub dX11_counts_184 ?_
                  refine V_lald dX11_counts_185 (by first | with_reducible assumption | rfl) (by decide) (by omega) ?_
                  rw [i2, c4]
                  refine V_goto 190 dX11_counts_186 (by decide) ?_
                  refine V_ladd dX11_counts_190 ?_
                  refine V_aload_n dX11_counts_191 rfl ?_
                  refine V_iload_n dX11_counts_192 rfl ?_
                  refine V_iconst dX11_counts_193 ?_
                  refine V_isub dX11_counts_194 ?_
                  refine V_iload_n dX11_counts_195 rfl ?_
                  refine V_iconst dX11_counts_196 ?_
                  refine V_isub dX11_counts_197 ?_
                  refine V_callVP dX11_counts_198 ml_RX11_71 km_X11_alike kv_X11_alike (c_X11_alike (x := ((xx + 1 : Nat) : Int) - 1) (y := ((yy + 1 : Nat) : Int) - 1) hG hR' hA hB (by omega) (by omega)) (by first | with_reducible assumption | rfl) rfl rfl rfl (Nat.le_of_ble_eq_true rfl) ⟨Nat.le_of_ble_eq_true rfl, Nat.le_of_ble_eq_true rfl⟩ ⟨Nat.le_of_ble_eq_true rfl, Nat.le_of_ble_eq_true rfl⟩ ?_
                  rw [ex1, ey1, e1]
                  refine V_if_eq 223 dX11_counts_201 (by decide) (by omega) (fun _ => ?_) (fun h201 => absurd h201 ((by decide)))
                  refine V_lconst 0 dX11_counts_223 rfl ?_
                  refine V_ladd dX11_counts_224 ?_
                  refine S_lstore (ls' := [_, _, _, _, _, _, _, _, _, _]) dX11_counts_225 ⟨Nat.le_of_ble_eq_true rfl, rfl, rfl⟩ rfl ?_
                  refine V_aload_n dX11_counts_227 rfl ?_
                  refine V_getr 14 _ dX11_counts_228 fl_RX11_29 (by first | with_reducible assumption | rfl) rfl rfl (by first | with_reducible assumption | exact hG.at rfl) ?_
                  refine V_iload_n dX11_counts_231 rfl ?_
                  refine V_iload dX11_counts_232 rfl ?_
                  refine V_iast dX11_counts_234 (by first | with_reducible assumption | rfl) (by decide) (by omega) ?_
                  refine V_aload_n dX11_counts_235 rfl ?_
                  refine V_getr 15 _ dX11_counts_236 fl_RX11_32 (by first | with_reducible assumption | rfl) rfl rfl (by first | with_reducible assumption | exact hG.at rfl) ?_
                  refine V_iload_n dX11_counts_239 rfl ?_
                  refine V_lload dX11_counts_240 rfl ?_
                  refine V_last dX11_counts_242 (by first | with_reducible assumption | rfl) (by decide) (by omega) ?_
                  refine S_iinc (ls' := [_, _, _, _, _, _, _, _, _, _]) dX11_counts_243 rfl ⟨rfl, rfl⟩ rfl ?_
                  refine V_goto 14 dX11_counts_246 (by decide) ?_
                  first | (exfalso; omega) | exact done _ _ _ _ _ _ _ _ _ (by omega) (by omega) (by rw [ews]; split <;> split <;> omega)
              · refine V_aload_n dX11_counts_158 rfl ?_
                refine V_getr 15 _ dX11_counts_159 fl_RX11_32 (by first | with_reducible assumption | rfl) rfl rfl (by first | with_reducible assumption | exact hG.at rfl) ?_
                refine V_iload_n dX11_counts_162 rfl ?_
                refine V_bipush dX11_counts_163 (by decide) ?_
                refine V_isub dX11_counts_165 ?_
                refine V_lald dX11_counts_166 (by first | with_reducible assumption | rfl) (by decide) (by omega) ?_
                rw [i1, c2]
                refine V_goto 171 dX11_counts_167 (by decide) ?_
                refine V_iload dX11_counts_171 rfl ?_
                refine V_iload dX11_counts_173 rfl ?_
                refine V_icmp_ne 189 dX11_counts_175 (by decide) (by omega) (by omega) (fun h175 => ?_) (fun h175 => ?_)
                · refine V_lconst 0 dX11_counts_189 rfl ?_
                  refine V_ladd dX11_counts_190 ?_
                  refine V_aload_n dX11_counts_191 rfl ?_
                  refine V_iload_n dX11_counts_192 rfl ?_
                  refine V_iconst dX11_counts_193 ?_
                  refine V_isub dX11_counts_194 ?_
                  refine V_iload_n dX11_counts_195 rfl ?_
                  refine V_iconst dX11_counts_196 ?_
                  refine V_isub dX11_counts_197 ?_
                  refine V_callVP dX11_counts_198 ml_RX11_71 km_X11_alike kv_X11_alike (c_X11_alike (x := ((xx + 1 : Nat) : Int) - 1) (y := ((yy + 1 : Nat) : Int) - 1) hG hR' hA hB (by omega) (by omega)) (by first | with_reducible assumption | rfl) rfl rfl rfl (Nat.le_of_ble_eq_true rfl) ⟨Nat.le_of_ble_eq_true rfl, Nat.le_of_ble_eq_true rfl⟩ ⟨Nat.le_of_ble_eq_true rfl, Nat.le_of_ble_eq_true rfl⟩ ?_
                  rw [ex1, ey1, e1]
                  refine V_if_eq 223 dX11_counts_201 (by decide) (by omega) (fun _ => ?_) (fun h201 => absurd h201 ((by decide)))
                  refine V_lconst 0 dX11_counts_223 rfl ?_
                  refine V_ladd dX11_counts_224 ?_
                  refine S_lstore (ls' := [_, _, _, _, _, _, _, _, _, _]) dX11_counts_225 ⟨Nat.le_of_ble_eq_true rfl, rfl, rfl⟩ rfl ?_
                  refine V_aload_n dX11_counts_227 rfl ?_
                  refine V_getr 14 _ dX11_counts_228 fl_RX11_29 (by first | with_reducible assumption | rfl) rfl rfl (by first | with_reducible assumption | exact hG.at rfl) ?_
                  refine V_iload_n dX11_counts_231 rfl ?_
                  refine V_iload dX11_counts_232 rfl ?_
                  refine V_iast dX11_counts_234 (by first | with_reducible assumption | rfl) (by decide) (by omega) ?_
                  refine V_aload_n dX11_counts_235 rfl ?_
                  refine V_getr 15 _ dX11_counts_236 fl_RX11_32 (by first | with_reducible assumption | rfl) rfl rfl (by first | with_reducible assumption | exact hG.at rfl) ?_
                  refine V_iload_n dX11_counts_239 rfl ?_
                  refine V_lload dX11_counts_240 rfl ?_
                  refine V_last dX11_counts_242 (by first | with_reducible assumption | rfl) (by decide) (by omega) ?_
                  refine S_iinc (ls' := [_, _, _, _, _, _, _, _, _, _]) dX11_counts_243 rfl ⟨rfl, rfl⟩ rfl ?_
                  refine V_goto 14 dX11_counts_246 (by decide) ?_
                  first | (exfalso; omega) | exact done _ _ _ _ _ _ _ _ _ (by omega) (by omega) (by rw [ews]; split <;> split <;> omega)
                · refine V_aload_n dX11_counts_178 rfl ?_
                  refine V_getr 15 _ dX11_counts_179 fl_RX11_32 (by first | with_reducible assumption | rfl) rfl rfl (by first | with_reducible assumption | exact hG.at rfl) ?_
                  refine V_iload_n dX11_counts_182 rfl ?_
                  refine V_iconst dX11_counts_183 ?_
                  refine V_isub dX11_counts_184 ?_
                  refine V_lald dX11_counts_185 (by first | with_reducible assumption | rfl) (by decide) (by omega) ?_
                  rw [i2, c4]
                  refine V_goto 190 dX11_counts_186 (by decide) ?_
                  refine V_ladd dX11_counts_190 ?_
                  refine V_aload_n dX11_counts_191 rfl ?_
                  refine V_iload_n dX11_counts_192 rfl ?_
                  refine V_iconst dX11_counts_193 ?_
                  refine V_isub dX11_counts_194 ?_
                  refine V_iload_n dX11_counts_195 rfl ?_
                  refine V_iconst dX11_counts_196 ?_
                  refine V_isub dX11_counts_197 ?_
                  refine V_callVP dX11_counts_198 ml_RX11_71 km_X11_alike kv_X11_alike (c_X11_alike (x := ((xx + 1 : Nat) : Int) - 1) (y := ((yy + 1 : Nat) : Int) - 1) hG hR' hA hB (by omega) (by omega)) (by first | with_reducible assumption | rfl) rfl rfl rfl (Nat.le_of_ble_eq_true rfl) ⟨Nat.le_of_ble_eq_true rfl, Nat.le_of_ble_eq_true rfl⟩ ⟨Nat.le_of_ble_eq_true rfl, Nat.le_of_ble_eq_true rfl⟩ ?_
                  rw [ex1, ey1, e1]
                  refine V_if_eq 223 dX11_counts_201 (by decide) (by omega) (fun _ => ?_) (fun h201 => absurd h201 ((by decide)))
                  refine V_lconst 0 dX11_counts_223 rfl ?_
                  refine V_ladd dX11_counts_224 ?_
                  refine S_lstore (ls' := [_, _, _, _, _, _, _, _, _, _]) dX11_counts_225 ⟨Nat.le_of_ble_eq_true rfl, rfl, rfl⟩ rfl ?_
                  refine V_aload_n dX11_counts_227 rfl ?_
                  refine V_getr 14 _ dX11_counts_228 fl_RX11_29 (by first | with_reducible assumption | rfl) rfl rfl (by first | with_reducible assumption | exact hG.at rfl) ?_
                  refine V_iload_n dX11_counts_231 rfl ?_
                  refine V_iload dX11_counts_232 rfl ?_
                  refine V_iast dX11_counts_234 (by first | with_reducible assumption | rfl) (by decide) (by omega) ?_
                  refine V_aload_n dX11_counts_235 rfl ?_
                  refine V_getr 15 _ dX11_counts_236 fl_RX11_32 (by first | with_reducible assumption | rfl) rfl rfl (by first | with_reducible assumption | exact hG.at rfl) ?_
                  refine V_iload_n dX11_counts_239 rfl ?_
                  refine V_lload dX11_counts_240 rfl ?_
                  refine V_last dX11_counts_242 (by first | with_reducible assumption | rfl) (by decide) (by omega) ?_
                  refine S_iinc (ls' := [_, _, _, _, _, _, _, _, _, _]) dX11_counts_243 rfl ⟨rfl, rfl⟩ rfl ?_
                  refine V_goto 14 dX11_counts_246 (by decide) ?_
                  first | (exfalso; omega) | exact done _ _ _ _ _ _ _ _ _ (by omega) (by omega) (by rw [ews]; split <;> split <;> omega)
          · refine V_iload dX11_counts_126 rfl ?_
            refine V_goto 133 dX11_counts_128 (by decide) ?_
            refine S_istore (ls' := [_, _, _, _, _, _, _, _, _, _]) dX11_counts_133 ⟨Nat.le_of_ble_eq_true rfl, rfl, rfl⟩ rfl ?_
            refine V_iload dX11_counts_135 rfl ?_
            refine V_iload dX11_counts_137 rfl ?_
            refine V_icmp_ge 147 dX11_counts_139 (by decide) (by omega) (by omega) (fun h139 => ?_) (fun h139 => ?_)
            · refine V_iload dX11_counts_147 rfl ?_
              refine S_istore (ls' := [_, _, _, _, _, _, _, _, _, _]) dX11_counts_149 ⟨Nat.le_of_ble_eq_true rfl, rfl, rfl⟩ rfl ?_
              refine V_iload dX11_counts_151 rfl ?_
              refine V_iload dX11_counts_153 rfl ?_
              refine V_icmp_ne 170 dX11_counts_155 (by decide) (by omega) (by omega) (fun h155 => ?_) (fun h155 => ?_)
              · refine V_lconst 0 dX11_counts_170 rfl ?_
                refine V_iload dX11_counts_171 rfl ?_
                refine V_iload dX11_counts_173 rfl ?_
                refine V_icmp_ne 189 dX11_counts_175 (by decide) (by omega) (by omega) (fun h175 => ?_) (fun h175 => ?_)
                · refine V_lconst 0 dX11_counts_189 rfl ?_
                  refine V_ladd dX11_counts_190 ?_
                  refine V_aload_n dX11_counts_191 rfl ?_
                  refine V_iload_n dX11_counts_192 rfl ?_
                  refine V_iconst dX11_counts_193 ?_
                  refine V_isub dX11_counts_194 ?_
                  refine V_iload_n dX11_counts_195 rfl ?_
                  refine V_iconst dX11_counts_196 ?_
                  refine V_isub dX11_counts_197 ?_
                  refine V_callVP dX11_counts_198 ml_RX11_71 km_X11_alike kv_X11_alike (c_X11_alike (x := ((xx + 1 : Nat) : Int) - 1) (y := ((yy + 1 : Nat) : Int) - 1) hG hR' hA hB (by omega) (by omega)) (by first | with_reducible assumption | rfl) rfl rfl rfl (Nat.le_of_ble_eq_true rfl) ⟨Nat.le_of_ble_eq_true rfl, Nat.le_of_ble_eq_true rfl⟩ ⟨Nat.le_of_ble_eq_true rfl, Nat.le_of_ble_eq_true rfl⟩ ?_
                  rw [ex1, ey1, e1]
                  refine V_if_eq 223 dX11_counts_201 (by decide) (by omega) (fun _ => ?_) (fun h201 => absurd h201 ((by decide)))
                  refine V_lconst 0 dX11_counts_223 rfl ?_
                  refine V_ladd dX11_counts_224 ?_
                  refine S_lstore (ls' := [_, _, _, _, _, _, _, _, _, _]) dX11_counts_225 ⟨Nat.le_of_ble_eq_true rfl, rfl, rfl⟩ rfl ?_
                  refine V_aload_n dX11_counts_227 rfl ?_
                  refine V_getr 14 _ dX11_counts_228 fl_RX11_29 (by first | with_reducible assumption | rfl) rfl rfl (by first | with_reducible assumption | exact hG.at rfl) ?_
                  refine V_iload_n dX11_counts_231 rfl ?_
                  refine V_iload dX11_counts_232 rfl ?_
                  refine V_iast dX11_counts_234 (by first | with_reducible assumption | rfl) (by decide) (by omega) ?_
                  refine V_aload_n dX11_counts_235 rfl ?_
                  refine V_getr 15 _ dX11_counts_236 fl_RX11_32 (by first | with_reducible assumption | rfl) rfl rfl (by first | with_reducible assumption | exact hG.at rfl) ?_
                  refine V_iload_n dX11_counts_239 rfl ?_
                  refine V_lload dX11_counts_240 rfl ?_
                  refine V_last dX11_counts_242 (by first | with_reducible assumption | rfl) (by decide) (by omega) ?_
                  refine S_iinc (ls' := [_, _, _, _, _, _, _, _, _, _]) dX11_counts_243 rfl ⟨rfl, rfl⟩ rfl ?_
                  refine V_goto 14 dX11_counts_246 (by decide) ?_
                  first | (exfalso; omega) | exact done _ _ _ _ _ _ _ _ _ (by omega) (by omega) (by rw [ews]; split <;> split <;> omega)
                · refine V_aload_n dX11_counts_178 rfl ?_
                  refine V_getr 15 _ dX11_counts_179 fl_RX11_32 (by first | with_reducible assumption | rfl) rfl rfl (by first | with_reducible assumption | exact hG.at rfl) ?_
                  refine V_iload_n dX11_counts_182 rfl ?_
                  refine V_iconst dX11_counts_183 ?_
                  refine V_isub dX11_counts_184 ?_
                  refine V_lald dX11_counts_185 (by first | with_reducible assumption | rfl) (by decide) (by omega) ?_
                  rw [i2, c4]
                  refine V_goto 190 dX11_counts_186 (by decide) ?_
                  refine V_ladd dX11_counts_190 ?_
                  refine V_aload_n dX11_counts_191 rfl ?_
                  refine V_iload_n dX11_counts_192 rfl ?_
                  refine V_iconst dX11_counts_193 ?_
                  refine V_isub dX11_counts_194 ?_
                  refine V_iload_n dX11_counts_195 rfl ?_
                  refine V_iconst dX11_counts_196 ?_
                  refine V_isub dX11_counts_197 ?_
                  refine V_callVP dX11_counts_198 ml_RX11_71 km_X11_alike kv_X11_alike (c_X11_alike (x := ((xx + 1 : Nat) : Int) - 1) (y := ((yy + 1 : Nat) : Int) - 1) hG hR' hA hB (by omega) (by omega)) (by first | with_reducible assumption | rfl) rfl rfl rfl (Nat.le_of_ble_eq_true rfl) ⟨Nat.le_of_ble_eq_true rfl, Nat.le_of_ble_eq_true rfl⟩ ⟨Nat.le_of_ble_eq_true rfl, Nat.le_of_ble_eq_true rfl⟩ ?_
                  rw [ex1, ey1, e1]
                  refine V_if_eq 223 dX11_counts_201 (by decide) (by omega) (fun _ => ?_) (fun h201 => absurd h201 ((by decide)))
                  refine V_lconst 0 dX11_counts_223 rfl ?_
                  refine V_ladd dX11_counts_224 ?_
                  refine S_lstore (ls' := [_, _, _, _, _, _, _, _, _, _]) dX11_counts_225 ⟨Nat.le_of_ble_eq_true rfl, rfl, rfl⟩ rfl ?_
                  refine V_aload_n dX11_counts_227 rfl ?_
                  refine V_getr 14 _ dX11_counts_228 fl_RX11_29 (by first | with_reducible assumption | rfl) rfl rfl (by first | with_reducible assumption | exact hG.at rfl) ?_
                  refine V_iload_n dX11_counts_231 rfl ?_
                  refine V_iload dX11_counts_232 rfl ?_
                  refine V_iast dX11_counts_234 (by first | with_reducible assumption | rfl) (by decide) (by omega) ?_
                  refine V_aload_n dX11_counts_235 rfl ?_
                  refine V_getr 15 _ dX11_counts_236 fl_RX11_32 (by first | with_reducible assumption | rfl) rfl rfl (by first | with_reducible assumption | exact hG.at rfl) ?_
                  refine V_iload_n dX11_counts_239 rfl ?_
                  refine V_lload dX11_counts_240 rfl ?_
                  refine V_last dX11_counts_242 (by first | with_reducible assumption | rfl) (by decide) (by omega) ?_
                  refine S_iinc (ls' := [_, _, _, _, _, _, _, _, _, _]) dX11_counts_243 rfl ⟨rfl, rfl⟩ rfl ?_
                  refine V_goto 14 dX11_counts_246 (by decide) ?_
                  first | (exfalso; omega) | exact done _ _ _ _ _ _ _ _ _ (by omega) (by omega) (by rw [ews]; split <;> split <;> omega)
              · refine V_aload_n dX11_counts_158 rfl ?_
                refine V_getr 15 _ dX11_counts_159 fl_RX11_32 (by first | with_reducible assumption | rfl) rfl rfl (by first | with_reducible assumption | exact hG.at rfl) ?_
                refine V_iload_n dX11_counts_162 rfl ?_
                refine V_bipush dX11_counts_163 (by decide) ?_
                refine V_isub dX11_counts_165 ?_
                refine V_lald dX11_counts_166 (by first | with_reducible assumption | rfl) (by decide) (by omega) ?_
                rw [i1, c2]
                refine V_goto 171 dX11_counts_167 (by decide) ?_
                refine V_iload dX11_counts_171 rfl ?_
                refine V_iload dX11_counts_173 rfl ?_
                refine V_icmp_ne 189 dX11_counts_175 (by decide) (by omega) (by omega) (fun h175 => ?_) (fun h175 => ?_)
                · refine V_lconst 0 dX11_counts_189 rfl ?_
                  refine V_ladd dX11_counts_190 ?_
                  refine V_aload_n dX11_counts_191 rfl ?_
                  refine V_iload_n dX11_counts_192 rfl ?_
                  refine V_iconst dX11_counts_193 ?_
                  refine V_isub dX11_counts_194 ?_
                  refine V_iload_n dX11_counts_195 rfl ?_
                  refine V_iconst dX11_counts_196 ?_
                  refine V_isub dX11_counts_197 ?_
                  refine V_callVP dX11_counts_198 ml_RX11_71 km_X11_alike kv_X11_alike (c_X11_alike (x := ((xx + 1 : Nat) : Int) - 1) (y := ((yy + 1 : Nat) : Int) - 1) hG hR' hA hB (by omega) (by omega)) (by first | with_reducible assumption | rfl) rfl rfl rfl (Nat.le_of_ble_eq_true rfl) ⟨Nat.le_of_ble_eq_true rfl, Nat.le_of_ble_eq_true rfl⟩ ⟨Nat.le_of_ble_eq_true rfl, Nat.le_of_ble_eq_true rfl⟩ ?_
                  rw [ex1, ey1, e1]
                  refine V_if_eq 223 dX11_counts_201 (by decide) (by omega) (fun _ => ?_) (fun h201 => absurd h201 ((by decide)))
                  refine V_lconst 0 dX11_counts_223 rfl ?_
                  refine V_ladd dX11_counts_224 ?_
                  refine S_lstore (ls' := [_, _, _, _, _, _, _, _, _, _]) dX11_counts_225 ⟨Nat.le_of_ble_eq_true rfl, rfl, rfl⟩ rfl ?_
                  refine V_aload_n dX11_counts_227 rfl ?_
                  refine V_getr 14 _ dX11_counts_228 fl_RX11_29 (by first | with_reducible assumption | rfl) rfl rfl (by first | with_reducible assumption | exact hG.at rfl) ?_
                  refine V_iload_n dX11_counts_231 rfl ?_
                  refine V_iload dX11_counts_232 rfl ?_
                  refine V_iast dX11_counts_234 (by first | with_reducible assumption | rfl) (by decide) (by omega) ?_
                  refine V_aload_n dX11_counts_235 rfl ?_
                  refine V_getr 15 _ dX11_counts_236 fl_RX11_32 (by first | with_reducible assumption | rfl) rfl rfl (by first | with_reducible assumption | exact hG.at rfl) ?_
                  refine V_iload_n dX11_counts_239 rfl ?_
                  refine V_lload dX11_counts_240 rfl ?_
                  refine V_last dX11_counts_242 (by first | with_reducible assumption | rfl) (by decide) (by omega) ?_
                  refine S_iinc (ls' := [_, _, _, _, _, _, _, _, _, _]) dX11_counts_243 rfl ⟨rfl, rfl⟩ rfl ?_
                  refine V_goto 14 dX11_counts_246 (by decide) ?_
                  first | (exfalso; omega) | exact done _ _ _ _ _ _ _ _ _ (by omega) (by omega) (by rw [ews]; split <;> split <;> omega)
                · refine V_aload_n dX11_counts_178 rfl ?_
                  refine V_getr 15 _ dX11_counts_179 fl_RX11_32 (by first | with_reducible assumption | rfl) rfl rfl (by first | with_reducible assumption | exact hG.at rfl) ?_
                  refine V_iload_n dX11_counts_182 rfl ?_
                  refine V_iconst dX11_counts_183 ?_
                  refine V_isub dX11_counts_184 ?_
                  refine V_lald dX11_counts_185 (by first | with_reducible assumption | rfl) (by decide) (by omega) ?_
                  rw [i2, c4]
                  refine V_goto 190 dX11_counts_186 (by decide) ?_
                  refine V_ladd dX11_counts_190 ?_
                  refine V_aload_n dX11_counts_191 rfl ?_
                  refine V_iload_n dX11_counts_192 rfl ?_
                  refine V_iconst dX11_counts_193 ?_
                  refine V_isub dX11_counts_194 ?_
                  refine V_iload_n dX11_counts_195 rfl ?_
                  refine V_iconst dX11_counts_196 ?_
                  refine V_isub dX11_counts_197 ?_
                  refine V_callVP dX11_counts_198 ml_RX11_71 km_X11_alike kv_X11_alike (c_X11_alike (x := ((xx + 1 : Nat) : Int) - 1) (y := ((yy + 1 : Nat) : Int) - 1) hG hR' hA hB (by omega) (by omega)) (by first | with_reducible assumption | rfl) rfl rfl rfl (Nat.le_of_ble_eq_true rfl) ⟨Nat.le_of_ble_eq_true rfl, Nat.le_of_ble_eq_true rfl⟩ ⟨Nat.le_of_ble_eq_true rfl, Nat.le_of_ble_eq_true rfl⟩ ?_
                  rw [ex1, ey1, e1]
                  refine V_if_eq 223 dX11_counts_201 (by decide) (by omega) (fun _ => ?_) (fun h201 => absurd h201 ((by decide)))
                  refine V_lconst 0 dX11_counts_223 rfl ?_
                  refine V_ladd dX11_counts_224 ?_
                  refine S_lstore (ls' := [_, _, _, _, _, _, _, _, _, _]) dX11_counts_225 ⟨Nat.le_of_ble_eq_true rfl, rfl, rfl⟩ rfl ?_
                  refine V_aload_n dX11_counts_227 rfl ?_
                  refine V_getr 14 _ dX11_counts_228 fl_RX11_29 (by first | with_reducible assumption | rfl) rfl rfl (by first | with_reducible assumption | exact hG.at rfl) ?_
                  refine V_iload_n dX11_counts_231 rfl ?_
                  refine V_iload dX11_counts_232 rfl ?_
                  refine V_iast dX11_counts_234 (by first | with_reducible assumption | rfl) (by decide) (by omega) ?_
                  refine V_aload_n dX11_counts_235 rfl ?_
                  refine V_getr 15 _ dX11_counts_236 fl_RX11_32 (by first | with_reducible assumption | rfl) rfl rfl (by first | with_reducible assumption | exact hG.at rfl) ?_
                  refine V_iload_n dX11_counts_239 rfl ?_
                  refine V_lload dX11_counts_240 rfl ?_
                  refine V_last dX11_counts_242 (by first | with_reducible assumption | rfl) (by decide) (by omega) ?_
                  refine S_iinc (ls' := [_, _, _, _, _, _, _, _, _, _]) dX11_counts_243 rfl ⟨rfl, rfl⟩ rfl ?_
                  refine V_goto 14 dX11_counts_246 (by decide) ?_
                  first | (exfalso; omega) | exact done _ _ _ _ _ _ _ _ _ (by omega) (by omega) (by rw [ews]; split <;> split <;> omega)
            · refine V_iload dX11_counts_142 rfl ?_
              refine V_goto 149 dX11_counts_144 (by decide) ?_
              refine S_istore (ls' := [_, _, _, _, _, _, _, _, _, _]) dX11_counts_149 ⟨Nat.le_of_ble_eq_true rfl, rfl, rfl⟩ rfl ?_
              refine V_iload dX11_counts_151 rfl ?_
              refine V_iload dX11_counts_153 rfl ?_
              refine V_icmp_ne 170 dX11_counts_155 (by decide) (by omega) (by omega) (fun h155 => ?_) (fun h155 => ?_)
              · refine V_lconst 0 dX11_counts_170 rfl ?_
                refine V_iload dX11_counts_171 rfl ?_
                refine V_iload dX11_counts_173 rfl ?_
                refine V_icmp_ne 189 dX11_counts_175 (by decide) (by omega) (by omega) (fun h175 => ?_) (fun h175 => ?_)
                · refine V_lconst 0 dX11_counts_189 rfl ?_
                  refine V_ladd dX11_counts_190 ?_
                  refine V_aload_n dX11_counts_191 rfl ?_
                  refine V_iload_n dX11_counts_192 rfl ?_
                  refine V_iconst dX11_counts_193 ?_
                  refine V_isub dX11_counts_194 ?_
                  refine V_iload_n dX11_counts_195 rfl ?_
                  refine V_iconst dX11_counts_196 ?_
                  refine V_isub dX11_counts_197 ?_
                  refine V_callVP dX11_counts_198 ml_RX11_71 km_X11_alike kv_X11_alike (c_X11_alike (x := ((xx + 1 : Nat) : Int) - 1) (y := ((yy + 1 : Nat) : Int) - 1) hG hR' hA hB (by omega) (by omega)) (by first | with_reducible assumption | rfl) rfl rfl rfl (Nat.le_of_ble_eq_true rfl) ⟨Nat.le_of_ble_eq_true rfl, Nat.le_of_ble_eq_true rfl⟩ ⟨Nat.le_of_ble_eq_true rfl, Nat.le_of_ble_eq_true rfl⟩ ?_
                  rw [ex1, ey1, e1]
                  refine V_if_eq 223 dX11_counts_201 (by decide) (by omega) (fun _ => ?_) (fun h201 => absurd h201 ((by decide)))
                  refine V_lconst 0 dX11_counts_223 rfl ?_
                  refine V_ladd dX11_counts_224 ?_
                  refine S_lstore (ls' := [_, _, _, _, _, _, _, _, _, _]) dX11_counts_225 ⟨Nat.le_of_ble_eq_true rfl, rfl, rfl⟩ rfl ?_
                  refine V_aload_n dX11_counts_227 rfl ?_
                  refine V_getr 14 _ dX11_counts_228 fl_RX11_29 (by first | with_reducible assumption | rfl) rfl rfl (by first | with_reducible assumption | exact hG.at rfl) ?_
                  refine V_iload_n dX11_counts_231 rfl ?_
                  refine V_iload dX11_counts_232 rfl ?_
                  refine V_iast dX11_counts_234 (by first | with_reducible assumption | rfl) (by decide) (by omega) ?_
                  refine V_aload_n dX11_counts_235 rfl ?_
                  refine V_getr 15 _ dX11_counts_236 fl_RX11_32 (by first | with_reducible assumption | rfl) rfl rfl (by first | with_reducible assumption | exact hG.at rfl) ?_
                  refine V_iload_n dX11_counts_239 rfl ?_
                  refine V_lload dX11_counts_240 rfl ?_
                  refine V_last dX11_counts_242 (by first | with_reducible assumption | rfl) (by decide) (by omega) ?_
                  refine S_iinc (ls' := [_, _, _, _, _, _, _, _, _, _]) dX11_counts_243 rfl ⟨rfl, rfl⟩ rfl ?_
                  refine V_goto 14 dX11_counts_246 (by decide) ?_
                  first | (exfalso; omega) | exact done _ _ _ _ _ _ _ _ _ (by omega) (by omega) (by rw [ews]; split <;> split <;> omega)
                · refine V_aload_n dX11_counts_178 rfl ?_
                  refine V_getr 15 _ dX11_counts_179 fl_RX11_32 (by first | with_reducible assumption | rfl) rfl rfl (by first | with_reducible assumption | exact hG.at rfl) ?_
                  refine V_iload_n dX11_counts_182 rfl ?_
                  refine V_iconst dX11_counts_183 ?_
                  refine V_isub dX11_counts_184 ?_
                  refine V_lald dX11_counts_185 (by first | with_reducible assumption | rfl) (by decide) (by omega) ?_
                  rw [i2, c4]
                  refine V_goto 190 dX11_counts_186 (by decide) ?_
                  refine V_ladd dX11_counts_190 ?_
                  refine V_aload_n dX11_counts_191 rfl ?_
                  refine V_iload_n dX11_counts_192 rfl ?_
                  refine V_iconst dX11_counts_193 ?_
                  refine V_isub dX11_counts_194 ?_
                  refine V_iload_n dX11_counts_195 rfl ?_
                  refine V_iconst dX11_counts_196 ?_
                  refine V_isub dX11_counts_197 ?_
                  refine V_callVP dX11_counts_198 ml_RX11_71 km_X11_alike kv_X11_alike (c_X11_alike (x := ((xx + 1 : Nat) : Int) - 1) (y := ((yy + 1 : Nat) : Int) - 1) hG hR' hA hB (by omega) (by omega)) (by first | with_reducible assumption | rfl) rfl rfl rfl (Nat.le_of_ble_eq_true rfl) ⟨Nat.le_of_ble_eq_true rfl, Nat.le_of_ble_eq_true rfl⟩ ⟨Nat.le_of_ble_eq_true rfl, Nat.le_of_ble_eq_true rfl⟩ ?_
                  rw [ex1, ey1, e1]
                  refine V_if_eq 223 dX11_counts_201 (by decide) (by omega) (fun _ => ?_) (fun h201 => absurd h201 ((by decide)))
                  refine V_lconst 0 dX11_counts_223 rfl ?_
                  refine V_ladd dX11_counts_224 ?_
                  refine S_lstore (ls' := [_, _, _, _, _, _, _, _, _, _]) dX11_counts_225 ⟨Nat.le_of_ble_eq_true rfl, rfl, rfl⟩ rfl ?_
                  refine V_aload_n dX11_counts_227 rfl ?_
                  refine V_getr 14 _ dX11_counts_228 fl_RX11_29 (by first | with_reducible assumption | rfl) rfl rfl (by first | with_reducible assumption | exact hG.at rfl) ?_
                  refine V_iload_n dX11_counts_231 rfl ?_
                  refine V_iload dX11_counts_232 rfl ?_
                  refine V_iast dX11_counts_234 (by first | with_reducible assumption | rfl) (by decide) (by omega) ?_
                  refine V_aload_n dX11_counts_235 rfl ?_
                  refine V_getr 15 _ dX11_counts_236 fl_RX11_32 (by first | with_reducible assumption | rfl) rfl rfl (by first | with_reducible assumption | exact hG.at rfl) ?_
                  refine V_iload_n dX11_counts_239 rfl ?_
                  refine V_lload dX11_counts_240 rfl ?_
                  refine V_last dX11_counts_242 (by first | with_reducible assumption | rfl) (by decide) (by omega) ?_
                  refine S_iinc (ls' := [_, _, _, _, _, _, _, _, _, _]) dX11_counts_243 rfl ⟨rfl, rfl⟩ rfl ?_
                  refine V_goto 14 dX11_counts_246 (by decide) ?_
                  first | (exfalso; omega) | exact done _ _ _ _ _ _ _ _ _ (by omega) (by omega) (by rw [ews]; split <;> split <;> omega)
              · refine V_aload_n dX11_counts_158 rfl ?_
                refine V_getr 15 _ dX11_counts_159 fl_RX11_32 (by first | with_reducible assumption | rfl) rfl rfl (by first | with_reducible assumption | exact hG.at rfl) ?_
                refine V_iload_n dX11_counts_162 rfl ?_
                refine V_bipush dX11_counts_163 (by decide) ?_
                refine V_isub dX11_counts_165 ?_
                refine V_lald dX11_counts_166 (by first | with_reducible assumption | rfl) (by decide) (by omega) ?_
                rw [i1, c2]
                refine V_goto 171 dX11_counts_167 (by decide) ?_
                refine V_iload dX11_counts_171 rfl ?_
                refine V_iload dX11_counts_173 rfl ?_
                refine V_icmp_ne 189 dX11_counts_175 (by decide) (by omega) (by omega) (fun h175 => ?_) (fun h175 => ?_)
                · refine V_lconst 0 dX11_counts_189 rfl ?_
                  refine V_ladd dX11_counts_190 ?_
                  refine V_aload_n dX11_counts_191 rfl ?_
                  refine V_iload_n dX11_counts_192 rfl ?_
                  refine V_iconst dX11_counts_193 ?_
                  refine V_isub dX11_counts_194 ?_
                  refine V_iload_n dX11_counts_195 rfl ?_
                  refine V_iconst dX11_counts_196 ?_
                  refine V_isub dX11_counts_197 ?_
                  refine V_callVP dX11_counts_198 ml_RX11_71 km_X11_alike kv_X11_alike (c_X11_alike (x := ((xx + 1 : Nat) : Int) - 1) (y := ((yy + 1 : Nat) : Int) - 1) hG hR' hA hB (by omega) (by omega)) (by first | with_reducible assumption | rfl) rfl rfl rfl (Nat.le_of_ble_eq_true rfl) ⟨Nat.le_of_ble_eq_true rfl, Nat.le_of_ble_eq_true rfl⟩ ⟨Nat.le_of_ble_eq_true rfl, Nat.le_of_ble_eq_true rfl⟩ ?_
                  rw [ex1, ey1, e1]
                  refine V_if_eq 223 dX11_counts_201 (by decide) (by omega) (fun _ => ?_) (fun h201 => absurd h201 ((by decide)))
                  refine V_lconst 0 dX11_counts_223 rfl ?_
                  refine V_ladd dX11_counts_224 ?_
                  refine S_lstore (ls' := [_, _, _, _, _, _, _, _, _, _]) dX11_counts_225 ⟨Nat.le_of_ble_eq_true rfl, rfl, rfl⟩ rfl ?_
                  refine V_aload_n dX11_counts_227 rfl ?_
                  refine V_getr 14 _ dX11_counts_228 fl_RX11_29 (by first | with_reducible assumption | rfl) rfl rfl (by first | with_reducible assumption | exact hG.at rfl) ?_
                  refine V_iload_n dX11_counts_231 rfl ?_
                  refine V_iload dX11_counts_232 rfl ?_
                  refine V_iast dX11_counts_234 (by first | with_reducible assumption | rfl) (by decide) (by omega) ?_
                  refine V_aload_n dX11_counts_235 rfl ?_
                  refine V_getr 15 _ dX11_counts_236 fl_RX11_32 (by first | with_reducible assumption | rfl) rfl rfl (by first | with_reducible assumption | exact hG.at rfl) ?_
                  refine V_iload_n dX11_counts_239 rfl ?_
                  refine V_lload dX11_counts_240 rfl ?_
                  refine V_last dX11_counts_242 (by first | with_reducible assumption | rfl) (by decide) (by omega) ?_
                  refine S_iinc (ls' := [_, _, _, _, _, _, _, _, _, _]) dX11_counts_243 rfl ⟨rfl, rfl⟩ rfl ?_
                  refine V_goto 14 dX11_counts_246 (by decide) ?_
                  first | (exfalso; omega) | exact done _ _ _ _ _ _ _ _ _ (by omega) (by omega) (by rw [ews]; split <;> split <;> omega)
                · refine V_aload_n dX11_counts_178 rfl ?_
                  refine V_getr 15 _ dX11_counts_179 fl_RX11_32 (by first | with_reducible assumption | rfl) rfl rfl (by first | with_reducible assumption | exact hG.at rfl) ?_
                  refine V_iload_n dX11_counts_182 rfl ?_
                  refine V_iconst dX11_counts_183 ?_
                  refine V_isub dX11_counts_184 ?_
                  refine V_lald dX11_counts_185 (by first | with_reducible assumption | rfl) (by decide) (by omega) ?_
                  rw [i2, c4]
                  refine V_goto 190 dX11_counts_186 (by decide) ?_
                  refine V_ladd dX11_counts_190 ?_
                  refine V_aload_n dX11_counts_191 rfl ?_
                  refine V_iload_n dX11_counts_192 rfl ?_
                  refine V_iconst dX11_counts_193 ?_
                  refine V_isub dX11_counts_194 ?_
                  refine V_iload_n dX11_counts_195 rfl ?_
                  refine V_iconst dX11_counts_196 ?_
                  refine V_isub dX11_counts_197 ?_
                  refine V_callVP dX11_counts_198 ml_RX11_71 km_X11_alike kv_X11_alike (c_X11_alike (x := ((xx + 1 : Nat) : Int) - 1) (y := ((yy + 1 : Nat) : Int) - 1) hG hR' hA hB (by omega) (by omega)) (by first | with_reducible assumption | rfl) rfl rfl rfl (Nat.le_of_ble_eq_true rfl) ⟨Nat.le_of_ble_eq_true rfl, Nat.le_of_ble_eq_true rfl⟩ ⟨Nat.le_of_ble_eq_true rfl, Nat.le_of_ble_eq_true rfl⟩ ?_
                  rw [ex1, ey1, e1]
                  refine V_if_eq 223 dX11_counts_201 (by decide) (by omega) (fun _ => ?_) (fun h201 => absurd h201 ((by decide)))
                  refine V_lconst 0 dX11_counts_223 rfl ?_
                  refine V_ladd dX11_counts_224 ?_
                  refine S_lstore (ls' := [_, _, _, _, _, _, _, _, _, _]) dX11_counts_225 ⟨Nat.le_of_ble_eq_true rfl, rfl, rfl⟩ rfl ?_
                  refine V_aload_n dX11_counts_227 rfl ?_
                  refine V_getr 14 _ dX11_counts_228 fl_RX11_29 (by first | with_reducible assumption | rfl) rfl rfl (by first | with_reducible assumption | exact hG.at rfl) ?_
                  refine V_iload_n dX11_counts_231 rfl ?_
                  refine V_iload dX11_counts_232 rfl ?_
                  refine V_iast dX11_counts_234 (by first | with_reducible assumption | rfl) (by decide) (by omega) ?_
                  refine V_aload_n dX11_counts_235 rfl ?_
                  refine V_getr 15 _ dX11_counts_236 fl_RX11_32 (by first | with_reducible assumption | rfl) rfl rfl (by first | with_reducible assumption | exact hG.at rfl) ?_
                  refine V_iload_n dX11_counts_239 rfl ?_
                  refine V_lload dX11_counts_240 rfl ?_
                  refine V_last dX11_counts_242 (by first | with_reducible assumption | rfl) (by decide) (by omega) ?_
                  refine S_iinc (ls' := [_, _, _, _, _, _, _, _, _, _]) dX11_counts_243 rfl ⟨rfl, rfl⟩ rfl ?_
                  refine V_goto 14 dX11_counts_246 (by decide) ?_
                  first | (exfalso; omega) | exact done _ _ _ _ _ _ _ _ _ (by omega) (by omega) (by rw [ews]; split <;> split <;> omega)
set_option maxRecDepth 100000 in
set_option maxHeartbeats 1000000 in
theorem c_X11_counts (hG : Gr mr) (hR : RowM (mi 63) (n, m, A, B, Z)) (hA : NR n A) (hB : NR m B) : C1 yX11_counts cX11_counts 10 (some .int) 2 SH mi mr [vr 62] (fun v mi' mr' => v = vi (n + m - 2 * lcN A B n.toNat m.toNat) ∧ mr' = mr ∧ mi' 70 (29 * n + m) = wyN A B n.toNat m.toNat ∧ ∀ z, z ≠ 69 → z ≠ 70 → mi' z = mi z) := by
  have hn := hA.1
  have hm := hB.1
  have loop : ∀ (t x : Nat) (mi' : MI) (o2 o3 o4 o5 o6 o7 o8 o9 : Option AV), (x : Int) ≤ n + 1 → n + 1 - x < t → CtM mi' A B n m x 0 → (∀ z, z ≠ 69 → z ≠ 70 → mi' z = mi z) → V (RX11, cX11_counts, 10, rm 2, false, none, (some .int)) (fun r sh' mi' mr' => sh' = SH ∧ ∃ v, r = some v ∧ v = vi (n + m - 2 * lcN A B n.toNat m.toNat) ∧ mr' = mr ∧ mi' 70 (29 * n + m) = wyN A B n.toNat m.toNat ∧ ∀ z, z ≠ 69 → z ≠ 70 → mi' z = mi z) 0 0 SH mi' mr [some (vr 62), some (vi x), o2, o3, o4, o5, o6, o7, o8, o9] [] 2 := by
    intro t
    induction t with
    | zero => intro x mi' o2 o3 o4 o5 o6 o7 o8 o9 a1 a2; omega
    | succ t ih =>
      intro x mi' o2 o3 o4 o5 o6 o7 o8 o9 a1 a2 a3 a4
      have hR' : RowM (mi' 63) (n, m, A, B, Z) := by rw [a4 63 (by decide) (by decide)]; exact hR
      have q0 : mi' 63 0 = n := hR'.1.1
      have q1 : mi' 63 1 = m := hR'.1.2
      by_cases hend : n < x
      · have hf := a3 n.toNat m.toNat (by omega) (by omega) (by omega)
        rw [show ((n.toNat : Nat) : Int) = n by omega, show ((m.toNat : Nat) : Int) = m by omega] at hf
        have ea : apN A B n.toNat m.toNat = n + m - 2 * lcN A B n.toNat m.toNat := by unfold apN; omega
        refine V_iload_n dX11_counts_2 rfl ?_
        refine V_aload_n dX11_counts_3 rfl ?_
        refine V_getr 0 _ dX11_counts_4 fl_RX11_7 (by first | with_reducible assumption | rfl) rfl rfl (by first | with_reducible assumption | exact hG.at rfl) ?_
        refine V_iconst dX11_counts_7 ?_
        refine V_iald dX11_counts_8 (by first | with_reducible assumption | rfl) (by decide) (by omega) ?_
        rw [q0]
        refine V_icmp_gt 255 dX11_counts_9 (by decide) (by omega) (by omega) (fun _ => ?_) (fun h9 => absurd h9 ((not_not_intro hend)))
        refine V_aload_n dX11_counts_255 rfl ?_
        refine V_getr 14 _ dX11_counts_256 fl_RX11_29 (by first | with_reducible assumption | rfl) rfl rfl (by first | with_reducible assumption | exact hG.at rfl) ?_
        refine V_bipush dX11_counts_259 (by decide) ?_
        refine V_aload_n dX11_counts_261 rfl ?_
        refine V_getr 0 _ dX11_counts_262 fl_RX11_7 (by first | with_reducible assumption | rfl) rfl rfl (by first | with_reducible assumption | exact hG.at rfl) ?_
        refine V_iconst dX11_counts_265 ?_
        refine V_iald dX11_counts_266 (by first | with_reducible assumption | rfl) (by decide) (by omega) ?_
        rw [q0]
        refine V_imul dX11_counts_267 ?_
        refine V_aload_n dX11_counts_268 rfl ?_
        refine V_getr 0 _ dX11_counts_269 fl_RX11_7 (by first | with_reducible assumption | rfl) rfl rfl (by first | with_reducible assumption | exact hG.at rfl) ?_
        refine V_iconst dX11_counts_272 ?_
        refine V_iald dX11_counts_273 (by first | with_reducible assumption | rfl) (by decide) (by omega) ?_
        rw [q1]
        refine V_iadd dX11_counts_274 ?_
        refine V_iald dX11_counts_275 (by first | with_reducible assumption | rfl) (by decide) (by omega) ?_
        rw [hf.1, ea]
        refine V_iret dX11_counts_276 rfl ⟨Nat.le_of_ble_eq_true rfl, Nat.le_of_ble_eq_true rfl⟩ ?_
        exact ⟨rfl, _, rfl, rfl, rfl, hf.2, a4⟩
      · refine V_iload_n dX11_counts_2 rfl ?_
        refine V_aload_n dX11_counts_3 rfl ?_
        refine V_getr 0 _ dX11_counts_4 fl_RX11_7 (by first | with_reducible assumption | rfl) rfl rfl (by first | with_reducible assumption | exact hG.at rfl) ?_
        refine V_iconst dX11_counts_7 ?_
        refine V_iald dX11_counts_8 (by first | with_reducible assumption | rfl) (by decide) (by omega) ?_
        rw [q0]
        refine V_icmp_gt 255 dX11_counts_9 (by decide) (by omega) (by omega) (fun h9 => absurd h9 (hend)) (fun _ => ?_)
        refine V_iconst dX11_counts_12 ?_
        refine S_istore_n (ls' := [_, _, _, _, _, _, _, _, _, _]) dX11_counts_13 ⟨Nat.le_of_ble_eq_true rfl, rfl, rfl⟩ rfl ?_
        refine l_X11_counts (mi := mi) hG hR hA hB x (by omega) none none none none none none (fun mi2 o2 o3 o4 o5 o6 o7 o8 o9 g1 g2 => ?_) (m.toNat + 2) 0 mi' o3 o4 o5 o6 o7 o8 o9 (by omega) (by omega) a3 a4
        refine S_iinc (ls' := [_, _, _, _, _, _, _, _, _, _]) dX11_counts_249 rfl ⟨rfl, rfl⟩ rfl ?_
        refine V_goto 2 dX11_counts_252 (by decide) ?_
        exact ih (x + 1) mi2 _ _ _ _ _ _ _ _ (by omega) (by omega) g1 g2
  refine Ct.ofV (ini := false) [some (vr 62), none, none, none, none, none, none, none, none, none] km_X11_counts (by decide) rfl (Nat.le_of_ble_eq_true rfl) ?_
  refine V_iconst dX11_counts_0 ?_
  refine S_istore_n (ls' := [_, _, _, _, _, _, _, _, _, _]) dX11_counts_1 ⟨Nat.le_of_ble_eq_true rfl, rfl, rfl⟩ rfl ?_
  exact loop (n.toNat + 2) 0 mi _ _ _ _ _ _ _ _ (by omega) (by omega) (fun x' y' h1 h2 h3 => by omega) (fun _ _ _ => rfl)
set_option maxRecDepth 100000 in
set_option maxHeartbeats 1000000 in
theorem c_X11_scripts (hG : Gr mr) (h : RepM mi ((n, m, A, B, Z), hs, tl, T)) : C1 yX11_scripts cX11_scripts 1 (some .long) 3 SH mi mr [vr 62] (fun v mi' mr' => v = vl (wyN A B n.toNat m.toNat) ∧ mr' = mr ∧ RepM mi' ((n, m, A, B, Z), hs, tl, T) ∧ ∀ x, x < 62 → mi' x = mi x) := by
  have hS := h.2.1
  have hA : NR n A := hS.1
  have hB : NR m B := hS.2.1
  have hn := hA.1
  have hm := hB.1
  refine Ct.ofV (ini := false) [some (vr 62)] km_X11_scripts (by decide) rfl (Nat.le_of_ble_eq_true rfl) ?_
  refine V_aload_n dX11_scripts_0 rfl ?_
  refine V_callV1 dX11_scripts_1 ml_RX11_122 km_X11_counts kv_X11_counts (c_X11_counts hG h.1 hA hB) (by first | with_reducible assumption | rfl) rfl rfl rfl (Nat.le_of_ble_eq_true rfl) ⟨Nat.le_of_ble_eq_true rfl, Nat.le_of_ble_eq_true rfl⟩ ⟨Nat.le_of_ble_eq_true rfl, Nat.le_of_ble_eq_true rfl⟩ ?_
  rintro v mi2 mr2 ⟨rfl, rfl, k1, k2⟩
  have hfin : RepM mi2 ((n, m, A, B, Z), hs, tl, T) ∧ ∀ x, x < 62 → mi2 x = mi x := ⟨h.keep (by rw [k2 62 (by decide) (by decide)]) (by rw [k2 62 (by decide) (by decide)]) (fun x hx => k2 x (by omega) (by omega)), fun x hx => k2 x (by omega) (by omega)⟩
  have q0 : mi2 63 0 = n := hfin.1.1.1.1
  have q1 : mi2 63 1 = m := hfin.1.1.1.2
  refine V_pop dX11_scripts_4 rfl ?_
  refine V_aload_n dX11_scripts_5 rfl ?_
  refine V_getr 15 _ dX11_scripts_6 fl_RX11_32 (by first | with_reducible assumption | rfl) rfl rfl (by first | with_reducible assumption | exact hG.at rfl) ?_
  refine V_bipush dX11_scripts_9 (by decide) ?_
  refine V_aload_n dX11_scripts_11 rfl ?_
  refine V_getr 0 _ dX11_scripts_12 fl_RX11_7 (by first | with_reducible assumption | rfl) rfl rfl (by first | with_reducible assumption | exact hG.at rfl) ?_
  refine V_iconst dX11_scripts_15 ?_
  refine V_iald dX11_scripts_16 (by first | with_reducible assumption | rfl) (by decide) (by omega) ?_
  rw [q0]
  refine V_imul dX11_scripts_17 ?_
  refine V_aload_n dX11_scripts_18 rfl ?_
  refine V_getr 0 _ dX11_scripts_19 fl_RX11_7 (by first | with_reducible assumption | rfl) rfl rfl (by first | with_reducible assumption | exact hG.at rfl) ?_
  refine V_iconst dX11_scripts_22 ?_
  refine V_iald dX11_scripts_23 (by first | with_reducible assumption | rfl) (by decide) (by omega) ?_
  rw [q1]
  refine V_iadd dX11_scripts_24 ?_
  refine V_lald dX11_scripts_25 (by first | with_reducible assumption | rfl) (by decide) (by omega) ?_
  rw [k1]
  refine V_lret dX11_scripts_26 rfl ⟨Nat.le_of_ble_eq_true rfl, Nat.le_of_ble_eq_true rfl⟩ ?_
  exact ⟨rfl, _, rfl, rfl, rfl, hfin⟩
end MODEL8
