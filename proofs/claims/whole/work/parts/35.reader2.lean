/-! ===== DiagonalTexts$Reader: the whole text ===== -/
def sgm (F : Int → Int) (a : Int) : Nat → List Int
  | 0 => []
  | t + 1 => sgm F a t ++ [F (a + t)]
theorem sgm_len (F : Int → Int) (a : Int) : ∀ t, (sgm F a t).length = t
  | 0 => rfl
  | t + 1 => by simp [sgm, sgm_len F a t]
abbrev tlet (T : Int → Int) : Int → Int := fun i => T i - 97
/-- what a part adds to the built row -/
def padd (A T : Int → Int) (i d : Int) : List Int := if T i = 43 then sgm (tlet T) (i + 1) (pm T i).toNat else if T i = 61 then sgm A d (pm T i).toNat else []
/-- one part: reason, cause, letters done, the row that is built -/
def pstep (A T : Int → Int) (n i d : Int) (bt : List Int) : Int × Int × Int × List Int :=
  if brk T i ≠ -1 then (1, brk T i, d, bt)
  else if T i ≠ 43 ∧ n - d < pm T i then (2, -1, d, bt)
  else if T i ≠ 45 ∧ 28 < bt.length + pm T i then (3, -1, d, bt)
  else (0, -1, if T i = 43 then d else d + pm T i, bt ++ padd A T i d)
/-- a typed text read as a script from a place on: reason, position, cause, the row that is built -/
def prs (A T : Int → Int) (n tl : Int) : Nat → Int → Int → List Int → Int × Int × Int × List Int
  | 0, _, _, bt => (0, 0, -1, bt)
  | t + 1, i, d, bt =>
    if tl ≤ i then (if d < n then (4, tl, n - d, bt) else (0, 0, -1, bt))
    else if (pstep A T n i d bt).1 ≠ 0 then ((pstep A T n i d bt).1, i, (pstep A T n i d bt).2.1, bt)
    else prs A T n tl t (i + pn T i) (pstep A T n i d bt).2.2.1 (pstep A T n i d bt).2.2.2
theorem padd_len {A T : Int → Int} {i d : Int} (h : 0 ≤ pm T i) : (T i = 45 → padd A T i d = []) ∧ ((padd A T i d).length : Int) ≤ pm T i := by
  unfold padd
  refine ⟨fun h => by rw [if_neg (by omega), if_neg (by omega)], ?_⟩
  split
  · rw [sgm_len]; omega
  · split
    · rw [sgm_len]; omega
    · simpa using h
theorem pstep_0 {A T : Int → Int} {n i d : Int} {bt : List Int} (h : (pstep A T n i d bt).1 = 0) : brk T i = -1 ∧ (T i = 43 ∨ pm T i ≤ n - d) ∧ (T i = 45 ∨ bt.length + pm T i ≤ 28) ∧ (pstep A T n i d bt).2.2 = (if T i = 43 then d else d + pm T i, bt ++ padd A T i d) := by
  revert h
  unfold pstep
  split
  · intro h; cases h
  · split
    · intro h; cases h
    · split
      · intro h; cases h
      · intro _; exact ⟨by omega, by omega, by omega, rfl⟩
theorem pstep_n {A T : Int → Int} {n i d : Int} {bt : List Int} (h : (pstep A T n i d bt).1 ≠ 0) : (pstep A T n i d bt).2.2 = (d, bt) := by
  revert h
  unfold pstep
  split
  · intro; rfl
  · split
    · intro; rfl
    · split
      · intro; rfl
      · intro h; exact absurd rfl h
section READER2
variable {mi : MI} {mr : MR} {tl : Int} {T : Int → Int} {f fb g gb : Nat} {n m : Int} {A B : Int → Int} {bt : List Int}
set_option maxRecDepth 100000 in
theorem c_X6_tell {a b c : Int} (ha : rng a) (hb : rng b) (hc : rng c) : C0 yX6_tell cX6_tell 4 none 0 SH mi mr [vr 59, vi a, vi b, vi c] (fun mi' mr' => mr' = mr ∧ mi' = up2 (up2 (up2 mi 59 2 a) 59 3 b) 59 4 c) := by
  refine Ct.ofV (ini := false) [some (vr 59), some (vi a), some (vi b), some (vi c)] km_X6_tell (by decide) rfl (Nat.le_of_ble_eq_true rfl) ?_
  refine V_aload_n dX6_tell_0 rfl ?_
  refine V_iload_n dX6_tell_1 rfl ?_
  refine V_puti 2 dX6_tell_2 fl_RX6_63 (by first | with_reducible assumption | rfl) rfl rfl rfl ?_
  refine V_aload_n dX6_tell_5 rfl ?_
  refine V_iload_n dX6_tell_6 rfl ?_
  refine V_puti 3 dX6_tell_7 fl_RX6_27 (by first | with_reducible assumption | rfl) rfl rfl rfl ?_
  refine V_aload_n dX6_tell_10 rfl ?_
  refine V_iload_n dX6_tell_11 rfl ?_
  refine V_puti 4 dX6_tell_12 fl_RX6_66 (by first | with_reducible assumption | rfl) rfl rfl rfl ?_
  refine V_vret dX6_tell_15 rfl ⟨Nat.le_of_ble_eq_true rfl, Nat.le_of_ble_eq_true rfl⟩ ?_
  exact ⟨rfl, rfl, rfl, rfl⟩
set_option maxRecDepth 100000 in
theorem c_X6_putIn {i k : Int} (hG : Gr mr) (hT : Typ mi tl T) (hB : TxtM mi 60 61 bt) (hi : 0 ≤ i ∧ i ≤ 100) (hk : 0 ≤ k ∧ k ≤ 100) (hr : ∀ j, i ≤ j → j < i + k → 97 ≤ T j ∧ T j ≤ 104) (hl : bt.length + k ≤ 28) : C0 yX6_putIn cX6_putIn 5 none 1 SH mi mr [vr 59, vr 33, vi i, vi k] (fun mi' mr' => mr' = mr ∧ TxtM mi' 60 61 (bt ++ sgm (tlet T) i k.toNat) ∧ ∀ x, x ≠ 60 → x ≠ 61 → mi' x = mi x) := by
  have loop : ∀ (u v : Nat) (mi' : MI), (v : Int) ≤ k → k - v < u → TxtM mi' 60 61 (bt ++ sgm (tlet T) i v) → (∀ x, x ≠ 60 → x ≠ 61 → mi' x = mi x) → V (RX6, cX6_putIn, 5, rm 1, false, none, none) (fun r sh' mi' mr' => sh' = SH ∧ r = none ∧ mr' = mr ∧ TxtM mi' 60 61 (bt ++ sgm (tlet T) i k.toNat) ∧ ∀ x, x ≠ 60 → x ≠ 61 → mi' x = mi x) 0 0 SH mi' mr [some (vr 59), some (vr 33), some (vi i), some (vi k), some (vi (i + v))] [] 3 := by
    intro u
    induction u with
    | zero => intro v mi' h1 h2; omega
    | succ u ih =>
      intro v mi' h1 h2 h3 h4
      have hT' : Typ mi' tl T := hT.keep (h4 33 (by decide) (by decide)) (h4 34 (by decide) (by decide))
      have hlen : mi' 60 1 = bt.length + v := by rw [h3.1]; simp [sgm_len]
      have rT := hT.2.2.r (i + v)
      refine V_iload dX6_putIn_3 rfl ?_
      refine V_iload_n dX6_putIn_5 rfl ?_
      refine V_iload_n dX6_putIn_6 rfl ?_
      refine V_iadd dX6_putIn_7 ?_
      refine V_icmp_ge 33 dX6_putIn_8 (by decide) (by omega) (by omega) (fun h8 => ?_) (fun h8 => ?_)
      · refine V_vret dX6_putIn_33 rfl ⟨Nat.le_of_ble_eq_true rfl, Nat.le_of_ble_eq_true rfl⟩ ?_
        exact ⟨rfl, rfl, rfl, by rw [show k.toNat = v by omega]; exact h3, h4⟩
      · refine V_aload_n dX6_putIn_11 rfl ?_
        refine V_getr 0 _ dX6_putIn_12 fl_RX6_14 (by first | with_reducible assumption | rfl) rfl rfl (by first | with_reducible assumption | exact hG.at rfl) ?_
        refine V_aload_n dX6_putIn_15 rfl ?_
        refine V_iload dX6_putIn_16 rfl ?_
        refine V_callVP dX6_putIn_18 ml_RX6_48 km_X7_at kv_X7_at (e_at (i := i + v) hG hT' (by omega)) (by first | with_reducible assumption | rfl) rfl rfl rfl (Nat.le_of_ble_eq_true rfl) ⟨Nat.le_of_ble_eq_true rfl, Nat.le_of_ble_eq_true rfl⟩ ⟨Nat.le_of_ble_eq_true rfl, Nat.le_of_ble_eq_true rfl⟩ ?_
        refine V_bipush dX6_putIn_21 (by decide) ?_
        refine V_isub dX6_putIn_23 ?_
        refine V_callV0 dX6_putIn_24 ml_RX6_69 km_X7_add kv_X7_add (c_X7_add (a := 60) (b := 61) (N := 28) (v := T (i + v) - 97) rfl (hG.at rfl) rfl (by decide) (by omega) (by decide)) (by first | with_reducible assumption | rfl) rfl rfl rfl (Nat.le_of_ble_eq_true rfl) ⟨Nat.le_of_ble_eq_true rfl, Nat.le_of_ble_eq_true rfl⟩ ⟨Nat.le_of_ble_eq_true rfl, Nat.le_of_ble_eq_true rfl⟩ ?_
        rintro mi2 mr2 ⟨rfl, rfl⟩
        rw [if_pos (show mi' 60 1 < (28 : Nat) by omega)]
        refine S_iinc (ls' := [_, _, _, _, _]) dX6_putIn_27 rfl ⟨rfl, rfl⟩ rfl ?_
        refine V_goto 3 dX6_putIn_30 (by decide) ?_
        rw [show i + (v : Int) + 1 = i + ((v + 1 : Nat) : Int) by omega]
        exact ih (v + 1) _ (by omega) (by omega) (by have := h3.add (v := T (i + v) - 97) (by decide); rw [List.append_assoc] at this; exact this) (fun x x1 x2 => by rw [up2_n _ _ _ x1, up2_n _ _ _ x2]; exact h4 x x1 x2)
  refine Ct.ofV (ini := false) [some (vr 59), some (vr 33), some (vi i), some (vi k), none] km_X6_putIn (by decide) rfl (Nat.le_of_ble_eq_true rfl) ?_
  refine V_iload_n dX6_putIn_0 rfl ?_
  refine S_istore (ls' := [_, _, _, _, _]) dX6_putIn_1 ⟨Nat.le_of_ble_eq_true rfl, rfl, rfl⟩ rfl ?_
  have h0 := loop (k.toNat + 1) 0 mi (by omega) (by omega) (by simpa [sgm] using hB) (fun _ _ _ => rfl)
  rw [show i + ((0 : Nat) : Int) = i by omega] at h0
  exact h0
set_option maxRecDepth 100000 in
theorem c_X6_takeOrKeep {k d z : Int} (hN : Now mi mr f fb g gb n m A B) (hB : TxtM mi 60 61 bt) (hd : mi 59 1 = d) (hd0 : 0 ≤ d) (hk : 0 ≤ k ∧ d + k ≤ n) (hz : 0 ≤ z ∧ z ≤ 1) (hl : z = 1 → bt.length + k ≤ 28) : C0 yX6_takeOrKeep cX6_takeOrKeep 5 none 1 SH mi mr [vr 59, vr f, vi k, vi z] (fun mi' mr' => mr' = mr ∧ mi' 59 = up1 (mi 59) 1 (d + k) ∧ TxtM mi' 60 61 (bt ++ if z = 1 then sgm A d k.toNat else []) ∧ ∀ x, x ≠ 59 → x ≠ 60 → x ≠ 61 → mi' x = mi x) := by
  have hn := hN.2.2.2.2.2.2.1.1
  have hG := hN.2.2.1
  have loop : ∀ (u v : Nat) (mi' : MI), (v : Int) ≤ k → k - v < u → mi' 59 = up1 (mi 59) 1 (d + v) → TxtM mi' 60 61 (bt ++ if z = 1 then sgm A d v else []) → (∀ x, x ≠ 59 → x ≠ 60 → x ≠ 61 → mi' x = mi x) → V (RX6, cX6_takeOrKeep, 5, rm 1, false, none, none) (fun r sh' mi' mr' => sh' = SH ∧ r = none ∧ mr' = mr ∧ mi' 59 = up1 (mi 59) 1 (d + k) ∧ TxtM mi' 60 61 (bt ++ if z = 1 then sgm A d k.toNat else []) ∧ ∀ x, x ≠ 59 → x ≠ 60 → x ≠ 61 → mi' x = mi x) 0 0 SH mi' mr [some (vr 59), some (vr f), some (vi k), some (vi z), some (vi v)] [] 3 := by
    intro u
    induction u with
    | zero => intro v mi' h1 h2; omega
    | succ u ih =>
      intro v mi' h1 h2 h0 h3 h4
      have hN' : Now mi' mr f fb g gb n m A B := hN.keep (fun x x1 x2 => h4 x (by omega) (by omega) (by omega))
      obtain ⟨⟨u1, u2, hG⟩, ⟨u4, u5, u6⟩, ⟨u7, u8, u9⟩, ⟨u10, u11, u12⟩, uA, uB, rA, rB⟩ := hN'.u
      have hlen : z = 1 → mi' 60 1 = bt.length + v := fun hz => by rw [h3.1, if_pos hz]; simp [sgm_len]
      have hdv : mi' 59 1 = d + v := by rw [h0]; simp [up1]
      have rT := rA (d + v)
      have eup : ∀ w : Int, up1 (up1 (mi 59) 1 (d + v)) 1 (d + v + 1) = up1 (mi 59) 1 (d + ((v + 1 : Nat) : Int)) := by
        intro w
        funext q
        unfold up1
        rw [show d + ((v + 1 : Nat) : Int) = d + v + 1 by omega]
        split <;> rfl
      rcases (show z = 0 ∨ z = 1 by omega) with rfl | rfl
      · rw [if_neg (by decide)] at h3
        refine V_iload dX6_takeOrKeep_3 rfl ?_
        refine V_iload_n dX6_takeOrKeep_5 rfl ?_
        refine V_icmp_ge 44 dX6_takeOrKeep_6 (by decide) (by omega) (by omega) (fun h6 => ?_) (fun h6 => ?_)
        · refine V_vret dX6_takeOrKeep_44 rfl ⟨Nat.le_of_ble_eq_true rfl, Nat.le_of_ble_eq_true rfl⟩ ?_
          exact ⟨rfl, rfl, rfl, by rw [show k = v by omega]; exact h0, by rw [if_neg (by decide)]; exact h3, h4⟩
        · refine V_iload_n dX6_takeOrKeep_9 rfl ?_
          refine V_if_eq 28 dX6_takeOrKeep_10 (by decide) (by omega) (fun _ => ?_) (fun h10 => absurd h10 ((by decide)))
          refine V_aload_n dX6_takeOrKeep_28 rfl ?_
          refine V_dup dX6_takeOrKeep_29 rfl ?_
          refine V_geti 1 dX6_takeOrKeep_30 fl_RX6_23 (by first | with_reducible assumption | rfl) rfl rfl ?_
          rw [hdv]
          refine V_iconst dX6_takeOrKeep_33 ?_
          refine V_iadd dX6_takeOrKeep_34 ?_
          refine V_puti 1 dX6_takeOrKeep_35 fl_RX6_23 (by first | with_reducible assumption | rfl) rfl rfl rfl ?_
          refine S_iinc (ls' := [_, _, _, _, _]) dX6_takeOrKeep_38 rfl ⟨rfl, rfl⟩ rfl ?_
          refine V_goto 3 dX6_takeOrKeep_41 (by decide) ?_
          refine ih (v + 1) _ (by omega) (by omega) (by rw [up2_s, h0]; exact eup 0) ?_ (fun x x1 x2 x3 => by rw [up2_n _ _ _ x1]; exact h4 x x1 x2 x3)
          rw [if_neg (by decide)]
          exact h3.keep (by rw [up2_n _ _ _ (by decide)]) (by rw [up2_n _ _ _ (by decide)])
      · rw [if_pos rfl] at h3
        have hlen := hlen rfl
        have hl := hl rfl
        refine V_iload dX6_takeOrKeep_3 rfl ?_
        refine V_iload_n dX6_takeOrKeep_5 rfl ?_
        refine V_icmp_ge 44 dX6_takeOrKeep_6 (by decide) (by omega) (by omega) (fun h6 => ?_) (fun h6 => ?_)
        · refine V_vret dX6_takeOrKeep_44 rfl ⟨Nat.le_of_ble_eq_true rfl, Nat.le_of_ble_eq_true rfl⟩ ?_
          exact ⟨rfl, rfl, rfl, by rw [show k = v by omega]; exact h0, by rw [if_pos rfl, show k.toNat = v by omega]; exact h3, h4⟩
        · refine V_iload_n dX6_takeOrKeep_9 rfl ?_
          refine V_if_eq 28 dX6_takeOrKeep_10 (by decide) (by omega) (fun h10 => absurd h10 ((by decide))) (fun _ => ?_)
          refine V_aload_n dX6_takeOrKeep_13 rfl ?_
          refine V_getr 0 _ dX6_takeOrKeep_14 fl_RX6_14 (by first | with_reducible assumption | rfl) rfl rfl (by first | with_reducible assumption | exact hG.at rfl) ?_
          refine V_aload_n dX6_takeOrKeep_17 rfl ?_
          refine V_aload_n dX6_takeOrKeep_18 rfl ?_
          refine V_geti 1 dX6_takeOrKeep_19 fl_RX6_23 (by first | with_reducible assumption | rfl) rfl rfl ?_
          rw [hdv]
          refine V_callVP dX6_takeOrKeep_22 ml_RX6_48 km_X7_at kv_X7_at (c_X7_at (a := f) (b := fb) (i := d + v) (by omega) u4 u5 u6 (by decide) (by omega)) (by first | with_reducible assumption | rfl) rfl rfl rfl (Nat.le_of_ble_eq_true rfl) ⟨Nat.le_of_ble_eq_true rfl, Nat.le_of_ble_eq_true rfl⟩ ⟨Nat.le_of_ble_eq_true rfl, Nat.le_of_ble_eq_true rfl⟩ ?_
          rw [uA (d + v)]
          refine V_callV0 dX6_takeOrKeep_25 ml_RX6_69 km_X7_add kv_X7_add (c_X7_add (a := 60) (b := 61) (N := 28) (v := A (d + v)) rfl (hG.at rfl) rfl (by decide) (by omega) (by decide)) (by first | with_reducible assumption | rfl) rfl rfl rfl (Nat.le_of_ble_eq_true rfl) ⟨Nat.le_of_ble_eq_true rfl, Nat.le_of_ble_eq_true rfl⟩ ⟨Nat.le_of_ble_eq_true rfl, Nat.le_of_ble_eq_true rfl⟩ ?_
          rintro mi2 mr2 ⟨rfl, rfl⟩
          rw [if_pos (show mi' 60 1 < (28 : Nat) by omega)]
          refine V_aload_n dX6_takeOrKeep_28 rfl ?_
          refine V_dup dX6_takeOrKeep_29 rfl ?_
          refine V_geti 1 dX6_takeOrKeep_30 fl_RX6_23 (by first | with_reducible assumption | rfl) rfl rfl ?_
          rw [up2_n _ _ _ (by decide), up2_n _ _ _ (by decide), hdv]
          refine V_iconst dX6_takeOrKeep_33 ?_
          refine V_iadd dX6_takeOrKeep_34 ?_
          refine V_puti 1 dX6_takeOrKeep_35 fl_RX6_23 (by first | with_reducible assumption | rfl) rfl rfl rfl ?_
          refine S_iinc (ls' := [_, _, _, _, _]) dX6_takeOrKeep_38 rfl ⟨rfl, rfl⟩ rfl ?_
          refine V_goto 3 dX6_takeOrKeep_41 (by decide) ?_
          refine ih (v + 1) _ (by omega) (by omega) (by rw [up2_s, up2_n _ _ _ (by decide), up2_n _ _ _ (by decide), h0]; exact eup 0) ?_ (fun x x1 x2 x3 => by rw [up2_n _ _ _ x1, up2_n _ _ _ x2, up2_n _ _ _ x3]; exact h4 x x1 x2 x3)
          rw [if_pos rfl]
          have := h3.add (v := A (d + v)) (by decide)
          rw [List.append_assoc] at this
          exact this.keep (by rw [up2_n _ _ _ (by decide)]) (by rw [up2_n _ _ _ (by decide)])
  refine Ct.ofV (ini := false) [some (vr 59), some (vr f), some (vi k), some (vi z), none] km_X6_takeOrKeep (by decide) rfl (Nat.le_of_ble_eq_true rfl) ?_
  refine V_iconst dX6_takeOrKeep_0 ?_
  refine S_istore (ls' := [_, _, _, _, _]) dX6_takeOrKeep_1 ⟨Nat.le_of_ble_eq_true rfl, rfl, rfl⟩ rfl ?_
  exact loop (k.toNat + 1) 0 mi (by omega) (by omega) (by rw [← hd]; funext q; unfold up1; split <;> simp_all) (by split <;> simpa [sgm] using hB) (fun _ _ _ _ => rfl)
/-- the reader's words -/
def RdM (mi : MI) (d r : Int) (bt : List Int) : Prop := mi 59 1 = d ∧ mi 59 3 = r ∧ TxtM mi 60 61 bt
theorem rd_tell {i d why c : Int} (h1 : mi 59 1 = d) (h3 : TxtM mi 60 61 bt) (he : pstep A T n i d bt = (why, c, d, bt)) : RdM (up2 (up2 (up2 mi 59 2 i) 59 3 why) 59 4 c) (pstep A T n i d bt).2.2.1 (pstep A T n i d bt).1 (pstep A T n i d bt).2.2.2 ∧ ((pstep A T n i d bt).1 ≠ 0 → up2 (up2 (up2 mi 59 2 i) 59 3 why) 59 4 c 59 2 = i ∧ up2 (up2 (up2 mi 59 2 i) 59 3 why) 59 4 c 59 4 = (pstep A T n i d bt).2.1) ∧ ∀ x, x ≠ 59 → x ≠ 60 → x ≠ 61 → up2 (up2 (up2 mi 59 2 i) 59 3 why) 59 4 c x = mi x := by
  rw [he]
  exact ⟨⟨by simp [up2, up1]; exact h1, by simp [up2, up1], h3.keep (by rw [up2_n _ _ _ (by decide), up2_n _ _ _ (by decide), up2_n _ _ _ (by decide)]) (by rw [up2_n _ _ _ (by decide), up2_n _ _ _ (by decide), up2_n _ _ _ (by decide)])⟩, fun _ => ⟨by simp [up2, up1], by simp [up2, up1]⟩, fun x x1 x2 x3 => by rw [up2_n _ _ _ x1, up2_n _ _ _ x1, up2_n _ _ _ x1]⟩
set_option maxRecDepth 100000 in
theorem c_X6_readPart {i d : Int} (hN : Now mi mr f fb g gb n m A B) (hT : Typ mi tl T) (hR : RdM mi d 0 bt) (hi : 0 ≤ i ∧ i < tl) (hd : 0 ≤ d ∧ d ≤ n) (hl : bt.length ≤ 28) : C0 yX6_readPart cX6_readPart 7 none 3 SH mi mr [vr 59, vr 33, vr f, vi i] (fun mi' mr' => mr' = mr ∧ RdM mi' (pstep A T n i d bt).2.2.1 (pstep A T n i d bt).1 (pstep A T n i d bt).2.2.2 ∧ ((pstep A T n i d bt).1 ≠ 0 → mi' 59 2 = i ∧ mi' 59 4 = (pstep A T n i d bt).2.1) ∧ ∀ x, x ≠ 59 → x ≠ 60 → x ≠ 61 → mi' x = mi x) := by
  obtain ⟨⟨u1, u2, hG⟩, ⟨u4, u5, u6⟩, ⟨u7, u8, u9⟩, ⟨u10, u11, u12⟩, uA, uB, rA, rB⟩ := hN.u
  have rT := hT.2.2.r i
  have htl := hT.2.2.1
  obtain ⟨hR1, hR2, hR3⟩ := hR
  have hbr := brk_r hT.2.2 (i := i) hi.1
  have hlen : mi 60 1 = bt.length := hR3.1
  refine Ct.ofV (ini := false) [some (vr 59), some (vr 33), some (vr f), some (vi i), none, none, none] km_X6_readPart (by decide) rfl (Nat.le_of_ble_eq_true rfl) ?_
  by_cases hb : brk T i = -1
  · have hok := brk_ok hT.2.2 hi.1 hb
    have hpl := padd_len (A := A) (d := d) (show 0 ≤ pm T i by omega)
    have e0 : pstep A T n i d bt = if T i ≠ 43 ∧ n - d < pm T i then (2, -1, d, bt) else if T i ≠ 45 ∧ 28 < bt.length + pm T i then (3, -1, d, bt) else (0, -1, if T i = 43 then d else d + pm T i, bt ++ padd A T i d) := by
      unfold pstep; rw [if_neg (by omega)]
    have cont : V (RX6, cX6_readPart, 7, rm 3, false, none, none) (fun r sh' mi' mr' => sh' = SH ∧ r = none ∧ mr' = mr ∧ RdM mi' (pstep A T n i d bt).2.2.1 (pstep A T n i d bt).1 (pstep A T n i d bt).2.2.2 ∧ ((pstep A T n i d bt).1 ≠ 0 → mi' 59 2 = i ∧ mi' 59 4 = (pstep A T n i d bt).2.1) ∧ ∀ x, x ≠ 59 → x ≠ 60 → x ≠ 61 → mi' x = mi x) 0 0 SH mi mr [some (vr 59), some (vr 33), some (vr f), some (vi i), some (vi (brk T i)), some (vi (T i)), some (vi (pm T i))] [] 57 := by
      rcases hok.1 with h43 | h61 | h45
      · have e1 : padd A T i d = sgm (tlet T) (i + 1) (pm T i).toNat := by unfold padd; rw [if_pos h43]
        have hrun : ∀ j, i + 1 ≤ j → j < i + 1 + pm T i → 97 ≤ T j ∧ T j ≤ 104 := fun j j1 j2 => by
          have h2 := (hok.2.2.2.2.2.2 h43).1
          unfold lr at h2
          have := lrun_run T 60 (i + 1) (j - (i + 1)) (by omega) (by omega)
          rw [show i + 1 + (j - (i + 1)) = j by omega] at this
          exact this
        refine V_iload dX6_readPart_57 rfl ?_
        refine V_bipush dX6_readPart_59 (by decide) ?_
        refine V_icmp_eq 88 dX6_readPart_61 (by decide) (by omega) (by omega) (fun _ => ?_) (fun h61 => absurd h61 ((not_not_intro h43)))
        refine V_iload dX6_readPart_88 rfl ?_
        refine V_bipush dX6_readPart_90 (by decide) ?_
        refine V_icmp_eq 120 dX6_readPart_92 (by decide) (by omega) (by omega) (fun h92 => absurd h92 ((by omega))) (fun _ => ?_)
        refine V_aload_n dX6_readPart_95 rfl ?_
        refine V_getr 0 _ dX6_readPart_96 fl_RX6_14 (by first | with_reducible assumption | rfl) rfl rfl (by first | with_reducible assumption | exact hG.at rfl) ?_
        refine V_geti 1 dX6_readPart_99 fl_RX6_30 (by first | with_reducible assumption | rfl) rfl rfl ?_
        rw [hlen]
        refine V_iload dX6_readPart_102 rfl ?_
        refine V_iadd dX6_readPart_104 ?_
        refine V_bipush dX6_readPart_105 (by decide) ?_
        refine V_icmp_le 120 dX6_readPart_107 (by decide) (by omega) (by omega) (fun h107 => ?_) (fun h107 => ?_)
        · refine V_iload dX6_readPart_120 rfl ?_
          refine V_bipush dX6_readPart_122 (by decide) ?_
          refine V_icmp_ne 140 dX6_readPart_124 (by decide) (by omega) (by omega) (fun h124 => absurd h124 ((not_not_intro h43))) (fun _ => ?_)
          refine V_aload_n dX6_readPart_127 rfl ?_
          refine V_aload_n dX6_readPart_128 rfl ?_
          refine V_iload_n dX6_readPart_129 rfl ?_
          refine V_iconst dX6_readPart_130 ?_
          refine V_iadd dX6_readPart_131 ?_
          refine V_iload dX6_readPart_132 rfl ?_
          refine V_callV0 dX6_readPart_134 ml_RX6_55 km_X6_putIn kv_X6_putIn (c_X6_putIn (i := i + 1) (k := pm T i) hG hT hR3 (by omega) (by omega) hrun (by omega)) (by first | with_reducible assumption | rfl) rfl rfl rfl (Nat.le_of_ble_eq_true rfl) ⟨Nat.le_of_ble_eq_true rfl, Nat.le_of_ble_eq_true rfl⟩ ⟨Nat.le_of_ble_eq_true rfl, Nat.le_of_ble_eq_true rfl⟩ ?_
          rintro mi2 mr2 ⟨rfl, g1, g2⟩
          have ep : pstep A T n i d bt = (0, -1, d, bt ++ padd A T i d) := by rw [e0, if_neg (by omega), if_neg (by omega), if_pos h43]
          have hfin : RdM mi2 (pstep A T n i d bt).2.2.1 (pstep A T n i d bt).1 (pstep A T n i d bt).2.2.2 ∧ ((pstep A T n i d bt).1 ≠ 0 → mi2 59 2 = i ∧ mi2 59 4 = (pstep A T n i d bt).2.1) ∧ ∀ x, x ≠ 59 → x ≠ 60 → x ≠ 61 → mi2 x = mi x := by rw [ep, e1]; exact ⟨⟨by rw [g2 59 (by decide) (by decide)]; exact hR1, by rw [g2 59 (by decide) (by decide)]; exact hR2, g1⟩, fun h => absurd rfl h, fun x x1 x2 x3 => g2 x x2 x3⟩
          refine V_goto 159 dX6_readPart_137 (by decide) ?_
          refine V_vret dX6_readPart_159 rfl ⟨Nat.le_of_ble_eq_true rfl, Nat.le_of_ble_eq_true rfl⟩ ?_
          exact ⟨rfl, rfl, rfl, hfin⟩
        · refine V_aload_n dX6_readPart_110 rfl ?_
          refine V_iload_n dX6_readPart_111 rfl ?_
          refine V_iconst dX6_readPart_112 ?_
          refine V_iconst dX6_readPart_113 ?_
          refine V_callV0 dX6_readPart_114 ml_RX6_41 km_X6_tell kv_X6_tell (c_X6_tell (a := i) (b := 3) (c := -1) (by omega) (by decide) (by decide)) (by first | with_reducible assumption | rfl) rfl rfl rfl (Nat.le_of_ble_eq_true rfl) ⟨Nat.le_of_ble_eq_true rfl, Nat.le_of_ble_eq_true rfl⟩ ⟨Nat.le_of_ble_eq_true rfl, Nat.le_of_ble_eq_true rfl⟩ ?_
          rintro mi2 mr2 ⟨rfl, rfl⟩
          have hfin := rd_tell (A := A) (T := T) (n := n) hR1 hR3 (show pstep A T n i d bt = (3, -1, d, bt) by rw [e0, if_neg (by omega), if_pos (by omega)])
          refine V_goto 159 dX6_readPart_117 (by decide) ?_
          refine V_vret dX6_readPart_159 rfl ⟨Nat.le_of_ble_eq_true rfl, Nat.le_of_ble_eq_true rfl⟩ ?_
          exact ⟨rfl, rfl, rfl, hfin⟩
      · have e1 : padd A T i d = sgm A d (pm T i).toNat := by unfold padd; rw [if_neg (by omega), if_pos h61]
        refine V_iload dX6_readPart_57 rfl ?_
        refine V_bipush dX6_readPart_59 (by decide) ?_
        refine V_icmp_eq 88 dX6_readPart_61 (by decide) (by omega) (by omega) (fun h61 => absurd h61 ((by omega))) (fun _ => ?_)
        refine V_iload dX6_readPart_64 rfl ?_
        refine V_aload_n dX6_readPart_66 rfl ?_
        refine V_geti 1 dX6_readPart_67 fl_RX6_30 (by first | with_reducible assumption | rfl) rfl rfl ?_
        refine V_aload_n dX6_readPart_70 rfl ?_
        refine V_geti 1 dX6_readPart_71 fl_RX6_23 (by first | with_reducible assumption | rfl) rfl rfl ?_
        rw [hR1]
        refine V_isub dX6_readPart_74 ?_
        refine V_icmp_le 88 dX6_readPart_75 (by decide) (by omega) (by omega) (fun h75 => ?_) (fun h75 => ?_)
        · refine V_iload dX6_readPart_88 rfl ?_
          refine V_bipush dX6_readPart_90 (by decide) ?_
          refine V_icmp_eq 120 dX6_readPart_92 (by decide) (by omega) (by omega) (fun h92 => absurd h92 ((by omega))) (fun _ => ?_)
          refine V_aload_n dX6_readPart_95 rfl ?_
          refine V_getr 0 _ dX6_readPart_96 fl_RX6_14 (by first | with_reducible assumption | rfl) rfl rfl (by first | with_reducible assumption | exact hG.at rfl) ?_
          refine V_geti 1 dX6_readPart_99 fl_RX6_30 (by first | with_reducible assumption | rfl) rfl rfl ?_
          rw [hlen]
          refine V_iload dX6_readPart_102 rfl ?_
          refine V_iadd dX6_readPart_104 ?_
          refine V_bipush dX6_readPart_105 (by decide) ?_
          refine V_icmp_le 120 dX6_readPart_107 (by decide) (by omega) (by omega) (fun h107 => ?_) (fun h107 => ?_)
          · refine V_iload dX6_readPart_120 rfl ?_
            refine V_bipush dX6_readPart_122 (by decide) ?_
            refine V_icmp_ne 140 dX6_readPart_124 (by decide) (by omega) (by omega) (fun _ => ?_) (fun h124 => absurd h124 ((by omega)))
            refine V_aload_n dX6_readPart_140 rfl ?_
            refine V_aload_n dX6_readPart_141 rfl ?_
            refine V_iload dX6_readPart_142 rfl ?_
            refine V_iload dX6_readPart_144 rfl ?_
            refine V_bipush dX6_readPart_146 (by decide) ?_
            refine V_icmp_ne 155 dX6_readPart_148 (by decide) (by omega) (by omega) (fun h148 => absurd h148 ((not_not_intro h61))) (fun _ => ?_)
            refine V_iconst dX6_readPart_151 ?_
            refine V_goto 156 dX6_readPart_152 (by decide) ?_
            refine V_callV0 dX6_readPart_156 ml_RX6_59 km_X6_takeOrKeep kv_X6_takeOrKeep (c_X6_takeOrKeep (k := pm T i) (z := 1) hN hR3 hR1 hd.1 (by omega) (by decide) (fun _ => by omega)) (by first | with_reducible assumption | rfl) rfl rfl rfl (Nat.le_of_ble_eq_true rfl) ⟨Nat.le_of_ble_eq_true rfl, Nat.le_of_ble_eq_true rfl⟩ ⟨Nat.le_of_ble_eq_true rfl, Nat.le_of_ble_eq_true rfl⟩ ?_
            rintro mi2 mr2 ⟨rfl, g0, g1, g2⟩
            rw [if_pos rfl] at g1
            have ep : pstep A T n i d bt = (0, -1, d + pm T i, bt ++ padd A T i d) := by rw [e0, if_neg (by omega), if_neg (by omega), if_neg (by omega)]
            have hfin : RdM mi2 (pstep A T n i d bt).2.2.1 (pstep A T n i d bt).1 (pstep A T n i d bt).2.2.2 ∧ ((pstep A T n i d bt).1 ≠ 0 → mi2 59 2 = i ∧ mi2 59 4 = (pstep A T n i d bt).2.1) ∧ ∀ x, x ≠ 59 → x ≠ 60 → x ≠ 61 → mi2 x = mi x := by rw [ep, e1]; exact ⟨⟨by rw [g0]; simp [up1], by rw [g0]; simpa [up1] using hR2, g1⟩, fun h => absurd rfl h, fun x x1 x2 x3 => g2 x x1 x2 x3⟩
            refine V_vret dX6_readPart_159 rfl ⟨Nat.le_of_ble_eq_true rfl, Nat.le_of_ble_eq_true rfl⟩ ?_
            exact ⟨rfl, rfl, rfl, hfin⟩
          · refine V_aload_n dX6_readPart_110 rfl ?_
            refine V_iload_n dX6_readPart_111 rfl ?_
            refine V_iconst dX6_readPart_112 ?_
            refine V_iconst dX6_readPart_113 ?_
            refine V_callV0 dX6_readPart_114 ml_RX6_41 km_X6_tell kv_X6_tell (c_X6_tell (a := i) (b := 3) (c := -1) (by omega) (by decide) (by decide)) (by first | with_reducible assumption | rfl) rfl rfl rfl (Nat.le_of_ble_eq_true rfl) ⟨Nat.le_of_ble_eq_true rfl, Nat.le_of_ble_eq_true rfl⟩ ⟨Nat.le_of_ble_eq_true rfl, Nat.le_of_ble_eq_true rfl⟩ ?_
            rintro mi2 mr2 ⟨rfl, rfl⟩
            have hfin := rd_tell (A := A) (T := T) (n := n) hR1 hR3 (show pstep A T n i d bt = (3, -1, d, bt) by rw [e0, if_neg (by omega), if_pos (by omega)])
            refine V_goto 159 dX6_readPart_117 (by decide) ?_
            refine V_vret dX6_readPart_159 rfl ⟨Nat.le_of_ble_eq_true rfl, Nat.le_of_ble_eq_true rfl⟩ ?_
            exact ⟨rfl, rfl, rfl, hfin⟩
        · refine V_aload_n dX6_readPart_78 rfl ?_
          refine V_iload_n dX6_readPart_79 rfl ?_
          refine V_iconst dX6_readPart_80 ?_
          refine V_iconst dX6_readPart_81 ?_
          refine V_callV0 dX6_readPart_82 ml_RX6_41 km_X6_tell kv_X6_tell (c_X6_tell (a := i) (b := 2) (c := -1) (by omega) (by decide) (by decide)) (by first | with_reducible assumption | rfl) rfl rfl rfl (Nat.le_of_ble_eq_true rfl) ⟨Nat.le_of_ble_eq_true rfl, Nat.le_of_ble_eq_true rfl⟩ ⟨Nat.le_of_ble_eq_true rfl, Nat.le_of_ble_eq_true rfl⟩ ?_
          rintro mi2 mr2 ⟨rfl, rfl⟩
          have hfin := rd_tell (A := A) (T := T) (n := n) hR1 hR3 (show pstep A T n i d bt = (2, -1, d, bt) by rw [e0, if_pos (by omega)])
          refine V_goto 159 dX6_readPart_85 (by decide) ?_
          refine V_vret dX6_readPart_159 rfl ⟨Nat.le_of_ble_eq_true rfl, Nat.le_of_ble_eq_true rfl⟩ ?_
          exact ⟨rfl, rfl, rfl, hfin⟩
      · have e1 : padd A T i d = [] := by unfold padd; rw [if_neg (by omega), if_neg (by omega)]
        refine V_iload dX6_readPart_57 rfl ?_
        refine V_bipush dX6_readPart_59 (by decide) ?_
        refine V_icmp_eq 88 dX6_readPart_61 (by decide) (by omega) (by omega) (fun h61 => absurd h61 ((by omega))) (fun _ => ?_)
        refine V_iload dX6_readPart_64 rfl ?_
        refine V_aload_n dX6_readPart_66 rfl ?_
        refine V_geti 1 dX6_readPart_67 fl_RX6_30 (by first | with_reducible assumption | rfl) rfl rfl ?_
        refine V_aload_n dX6_readPart_70 rfl ?_
        refine V_geti 1 dX6_readPart_71 fl_RX6_23 (by first | with_reducible assumption | rfl) rfl rfl ?_
        rw [hR1]
        refine V_isub dX6_readPart_74 ?_
        refine V_icmp_le 88 dX6_readPart_75 (by decide) (by omega) (by omega) (fun h75 => ?_) (fun h75 => ?_)
        · refine V_iload dX6_readPart_88 rfl ?_
          refine V_bipush dX6_readPart_90 (by decide) ?_
          refine V_icmp_eq 120 dX6_readPart_92 (by decide) (by omega) (by omega) (fun _ => ?_) (fun h92 => absurd h92 ((not_not_intro h45)))
          refine V_iload dX6_readPart_120 rfl ?_
          refine V_bipush dX6_readPart_122 (by decide) ?_
          refine V_icmp_ne 140 dX6_readPart_124 (by decide) (by omega) (by omega) (fun _ => ?_) (fun h124 => absurd h124 ((by omega)))
          refine V_aload_n dX6_readPart_140 rfl ?_
          refine V_aload_n dX6_readPart_141 rfl ?_
          refine V_iload dX6_readPart_142 rfl ?_
          refine V_iload dX6_readPart_144 rfl ?_
          refine V_bipush dX6_readPart_146 (by decide) ?_
          refine V_icmp_ne 155 dX6_readPart_148 (by decide) (by omega) (by omega) (fun _ => ?_) (fun h148 => absurd h148 ((by omega)))
          refine V_iconst dX6_readPart_155 ?_
          refine V_callV0 dX6_readPart_156 ml_RX6_59 km_X6_takeOrKeep kv_X6_takeOrKeep (c_X6_takeOrKeep (k := pm T i) (z := 0) hN hR3 hR1 hd.1 (by omega) (by decide) (fun h => absurd h (by decide))) (by first | with_reducible assumption | rfl) rfl rfl rfl (Nat.le_of_ble_eq_true rfl) ⟨Nat.le_of_ble_eq_true rfl, Nat.le_of_ble_eq_true rfl⟩ ⟨Nat.le_of_ble_eq_true rfl, Nat.le_of_ble_eq_true rfl⟩ ?_
          rintro mi2 mr2 ⟨rfl, g0, g1, g2⟩
          rw [if_neg (by decide)] at g1
          have ep : pstep A T n i d bt = (0, -1, d + pm T i, bt ++ padd A T i d) := by rw [e0, if_neg (by omega), if_neg (by omega), if_neg (by omega)]
          have hfin : RdM mi2 (pstep A T n i d bt).2.2.1 (pstep A T n i d bt).1 (pstep A T n i d bt).2.2.2 ∧ ((pstep A T n i d bt).1 ≠ 0 → mi2 59 2 = i ∧ mi2 59 4 = (pstep A T n i d bt).2.1) ∧ ∀ x, x ≠ 59 → x ≠ 60 → x ≠ 61 → mi2 x = mi x := by rw [ep, e1]; exact ⟨⟨by rw [g0]; simp [up1], by rw [g0]; simpa [up1] using hR2, g1⟩, fun h => absurd rfl h, fun x x1 x2 x3 => g2 x x1 x2 x3⟩
          refine V_vret dX6_readPart_159 rfl ⟨Nat.le_of_ble_eq_true rfl, Nat.le_of_ble_eq_true rfl⟩ ?_
          exact ⟨rfl, rfl, rfl, hfin⟩
        · refine V_aload_n dX6_readPart_78 rfl ?_
          refine V_iload_n dX6_readPart_79 rfl ?_
          refine V_iconst dX6_readPart_80 ?_
          refine V_iconst dX6_readPart_81 ?_
          refine V_callV0 dX6_readPart_82 ml_RX6_41 km_X6_tell kv_X6_tell (c_X6_tell (a := i) (b := 2) (c := -1) (by omega) (by decide) (by decide)) (by first | with_reducible assumption | rfl) rfl rfl rfl (Nat.le_of_ble_eq_true rfl) ⟨Nat.le_of_ble_eq_true rfl, Nat.le_of_ble_eq_true rfl⟩ ⟨Nat.le_of_ble_eq_true rfl, Nat.le_of_ble_eq_true rfl⟩ ?_
          rintro mi2 mr2 ⟨rfl, rfl⟩
          have hfin := rd_tell (A := A) (T := T) (n := n) hR1 hR3 (show pstep A T n i d bt = (2, -1, d, bt) by rw [e0, if_pos (by omega)])
          refine V_goto 159 dX6_readPart_85 (by decide) ?_
          refine V_vret dX6_readPart_159 rfl ⟨Nat.le_of_ble_eq_true rfl, Nat.le_of_ble_eq_true rfl⟩ ?_
          exact ⟨rfl, rfl, rfl, hfin⟩
    refine V_aload_n dX6_readPart_0 rfl ?_
    refine V_iload_n dX6_readPart_1 rfl ?_
    refine V_callSP dX6_readPart_2 ml_RX6_45 km_X6_breakOf ks_X6_breakOf (c_X6_breakOf hG hT (by omega)) rfl rfl (Nat.le_of_ble_eq_true rfl) ⟨Nat.le_of_ble_eq_true rfl, Nat.le_of_ble_eq_true rfl⟩ ⟨Nat.le_of_ble_eq_true rfl, Nat.le_of_ble_eq_true rfl⟩ ?_
    refine S_istore (ls' := [_, _, _, _, _, _, _]) dX6_readPart_5 ⟨Nat.le_of_ble_eq_true rfl, rfl, rfl⟩ rfl ?_
    refine V_iload dX6_readPart_7 rfl ?_
    refine V_iconst dX6_readPart_9 ?_
    refine V_icmp_eq 22 dX6_readPart_10 (by decide) (by omega) (by omega) (fun _ => ?_) (fun h10 => absurd h10 ((not_not_intro hb)))
    refine V_aload_n dX6_readPart_22 rfl ?_
    refine V_iload_n dX6_readPart_23 rfl ?_
    refine V_callVP dX6_readPart_24 ml_RX6_48 km_X7_at kv_X7_at (e_at (i := i) hG hT (by omega)) (by first | with_reducible assumption | rfl) rfl rfl rfl (Nat.le_of_ble_eq_true rfl) ⟨Nat.le_of_ble_eq_true rfl, Nat.le_of_ble_eq_true rfl⟩ ⟨Nat.le_of_ble_eq_true rfl, Nat.le_of_ble_eq_true rfl⟩ ?_
    refine S_istore (ls' := [_, _, _, _, _, _, _]) dX6_readPart_27 ⟨Nat.le_of_ble_eq_true rfl, rfl, rfl⟩ rfl ?_
    refine V_iload dX6_readPart_29 rfl ?_
    refine V_bipush dX6_readPart_31 (by decide) ?_
    refine V_icmp_ne 48 dX6_readPart_33 (by decide) (by omega) (by omega) (fun h33 => ?_) (fun h33 => ?_)
    · refine V_aload_n dX6_readPart_48 rfl ?_
      refine V_iload_n dX6_readPart_49 rfl ?_
      refine V_iconst dX6_readPart_50 ?_
      refine V_iadd dX6_readPart_51 ?_
      refine V_callSP dX6_readPart_52 ml_RX6_52 km_X6_numberAt ks_X6_numberAt (c_X6_numberAt hG hT (j := i + 1) (by omega)) rfl rfl (Nat.le_of_ble_eq_true rfl) ⟨Nat.le_of_ble_eq_true rfl, Nat.le_of_ble_eq_true rfl⟩ ⟨Nat.le_of_ble_eq_true rfl, Nat.le_of_ble_eq_true rfl⟩ ?_
      first | rw [show numv T (i + 1) = pm T i by unfold pm; rw [if_neg (by omega)]]
      refine S_istore (ls' := [_, _, _, _, _, _, _]) dX6_readPart_55 ⟨Nat.le_of_ble_eq_true rfl, rfl, rfl⟩ rfl ?_
      first | exact cont | (rw [show eo T tl i - i - 2 = pm T i by have := hok.2.2.2.2.2.2 (by omega); omega]; exact cont)
    · refine V_aload_n dX6_readPart_36 rfl ?_
      refine V_iload_n dX6_readPart_37 rfl ?_
      refine V_callSP dX6_readPart_38 ml_RX6_37 km_X6_endOf ks_X6_endOf (c_X6_endOf hG hT (i := i) (by omega)) rfl rfl (Nat.le_of_ble_eq_true rfl) ⟨Nat.le_of_ble_eq_true rfl, Nat.le_of_ble_eq_true rfl⟩ ⟨Nat.le_of_ble_eq_true rfl, Nat.le_of_ble_eq_true rfl⟩ ?_
      refine V_iload_n dX6_readPart_41 rfl ?_
      refine V_isub dX6_readPart_42 ?_
      refine V_iconst dX6_readPart_43 ?_
      refine V_isub dX6_readPart_44 ?_
      refine V_goto 55 dX6_readPart_45 (by decide) ?_
      refine S_istore (ls' := [_, _, _, _, _, _, _]) dX6_readPart_55 ⟨Nat.le_of_ble_eq_true rfl, rfl, rfl⟩ rfl ?_
      first | exact cont | (rw [show eo T tl i - i - 2 = pm T i by have := hok.2.2.2.2.2.2 (by omega); omega]; exact cont)
  · have e0 : pstep A T n i d bt = (1, brk T i, d, bt) := by unfold pstep; rw [if_pos hb]
    refine V_aload_n dX6_readPart_0 rfl ?_
    refine V_iload_n dX6_readPart_1 rfl ?_
    refine V_callSP dX6_readPart_2 ml_RX6_45 km_X6_breakOf ks_X6_breakOf (c_X6_breakOf hG hT (by omega)) rfl rfl (Nat.le_of_ble_eq_true rfl) ⟨Nat.le_of_ble_eq_true rfl, Nat.le_of_ble_eq_true rfl⟩ ⟨Nat.le_of_ble_eq_true rfl, Nat.le_of_ble_eq_true rfl⟩ ?_
    refine S_istore (ls' := [_, _, _, _, _, _, _]) dX6_readPart_5 ⟨Nat.le_of_ble_eq_true rfl, rfl, rfl⟩ rfl ?_
    refine V_iload dX6_readPart_7 rfl ?_
    refine V_iconst dX6_readPart_9 ?_
    refine V_icmp_eq 22 dX6_readPart_10 (by decide) (by omega) (by omega) (fun h10 => absurd h10 (hb)) (fun _ => ?_)
    refine V_aload_n dX6_readPart_13 rfl ?_
    refine V_iload_n dX6_readPart_14 rfl ?_
    refine V_iconst dX6_readPart_15 ?_
    refine V_iload dX6_readPart_16 rfl ?_
    refine V_callV0 dX6_readPart_18 ml_RX6_41 km_X6_tell kv_X6_tell (c_X6_tell (a := i) (b := 1) (c := brk T i) (by omega) (by decide) (by omega)) (by first | with_reducible assumption | rfl) rfl rfl rfl (Nat.le_of_ble_eq_true rfl) ⟨Nat.le_of_ble_eq_true rfl, Nat.le_of_ble_eq_true rfl⟩ ⟨Nat.le_of_ble_eq_true rfl, Nat.le_of_ble_eq_true rfl⟩ ?_
    rintro mi2 mr2 ⟨rfl, rfl⟩
    refine V_vret dX6_readPart_21 rfl ⟨Nat.le_of_ble_eq_true rfl, Nat.le_of_ble_eq_true rfl⟩ ?_
    rw [e0]
    exact ⟨rfl, rfl, rfl, ⟨by simp [up2, up1]; exact hR1, by simp [up2, up1], hR3.keep (by rw [up2_n _ _ _ (by decide), up2_n _ _ _ (by decide), up2_n _ _ _ (by decide)]) (by rw [up2_n _ _ _ (by decide), up2_n _ _ _ (by decide), up2_n _ _ _ (by decide)])⟩, fun _ => ⟨by simp [up2, up1], by simp [up2, up1]⟩, fun x x1 x2 x3 => by rw [up2_n _ _ _ x1, up2_n _ _ _ x1, up2_n _ _ _ x1]⟩
set_option maxRecDepth 100000 in
theorem c_X6_read (hN : Now mi mr f fb g gb n m A B) (hT : Typ mi tl T) (R : Int × Int × Int × List Int) (hRR : R = prs A T n tl 61 0 0 []) : C0 yX6_read cX6_read 5 none 4 SH mi mr [vr 59, vr 33, vr f] (fun mi' mr' => mr' = mr ∧ mi' 59 3 = R.1 ∧ (R.1 ≠ 0 → mi' 59 2 = R.2.1 ∧ mi' 59 4 = R.2.2.1) ∧ (R.1 = 0 → TxtM mi' 60 61 R.2.2.2) ∧ ∀ x, x ≠ 59 → x ≠ 60 → x ≠ 61 → mi' x = mi x) := by
  obtain ⟨⟨u1, u2, hG⟩, ⟨u4, u5, u6⟩, ⟨u7, u8, u9⟩, ⟨u10, u11, u12⟩, uA, uB, rA, rB⟩ := hN.u
  have htl := hT.2.2.1
  have hn : 0 ≤ n ∧ n ≤ 28 := ⟨u12.1, u12.2.1⟩
  have fin : ∀ (mi' : MI) (a i r : Int) (o5 : Option AV), 0 ≤ a → a ≤ 100 → (mi' 59 3 = r ∧ r ≠ 0 ∧ R.1 = r ∧ mi' 59 2 = R.2.1 ∧ mi' 59 4 = R.2.2.1) → (∀ x, x ≠ 59 → x ≠ 60 → x ≠ 61 → mi' x = mi x) → 1 ≤ r ∧ r ≤ 3 → V (RX6, cX6_read, 5, rm 4, false, none, none) (fun r sh' mi' mr' => sh' = SH ∧ r = none ∧ mr' = mr ∧ mi' 59 3 = R.1 ∧ (R.1 ≠ 0 → mi' 59 2 = R.2.1 ∧ mi' 59 4 = R.2.2.1) ∧ (R.1 = 0 → TxtM mi' 60 61 R.2.2.2) ∧ ∀ x, x ≠ 59 → x ≠ 60 → x ≠ 61 → mi' x = mi x) 0 0 SH mi' mr [some (vr 59), some (vr 33), some (vr f), some (vi i), some (vi a)] [] 22 := by
    rintro mi' a i r o5 h0 h1 ⟨g1, g2, g3, g4, g5⟩ h4 h5
    have hT' : Typ mi' tl T := hT.keep (h4 33 (by decide) (by decide) (by decide)) (h4 34 (by decide) (by decide) (by decide))
    have hl := hT'.1
    refine V_iload dX6_read_22 rfl ?_
    refine V_aload_n dX6_read_24 rfl ?_
    refine V_geti 1 dX6_read_25 fl_RX6_30 (by first | with_reducible assumption | rfl) rfl rfl ?_
    rw [hl]
    refine V_icmp_ge 63 dX6_read_28 (by decide) (by omega) (by omega) (fun h28 => ?_) (fun h28 => ?_)
    · refine V_aload_n dX6_read_63 rfl ?_
      refine V_geti 3 dX6_read_64 fl_RX6_27 (by first | with_reducible assumption | rfl) rfl rfl ?_
      rw [g1]
      refine V_if_ne 99 dX6_read_67 (by decide) (by omega) (fun _ => ?_) (fun h67 => absurd h67 (g2))
      refine V_vret dX6_read_99 rfl ⟨Nat.le_of_ble_eq_true rfl, Nat.le_of_ble_eq_true rfl⟩ ?_
      exact ⟨rfl, rfl, rfl, by rw [g1, g3], fun _ => ⟨g4, g5⟩, fun h => absurd h (by omega), h4⟩
    · refine V_aload_n dX6_read_31 rfl ?_
      refine V_geti 3 dX6_read_32 fl_RX6_27 (by first | with_reducible assumption | rfl) rfl rfl ?_
      rw [g1]
      refine V_if_ne 63 dX6_read_35 (by decide) (by omega) (fun _ => ?_) (fun h35 => absurd h35 (g2))
      refine V_aload_n dX6_read_63 rfl ?_
      refine V_geti 3 dX6_read_64 fl_RX6_27 (by first | with_reducible assumption | rfl) rfl rfl ?_
      rw [g1]
      refine V_if_ne 99 dX6_read_67 (by decide) (by omega) (fun _ => ?_) (fun h67 => absurd h67 (g2))
      refine V_vret dX6_read_99 rfl ⟨Nat.le_of_ble_eq_true rfl, Nat.le_of_ble_eq_true rfl⟩ ?_
      exact ⟨rfl, rfl, rfl, by rw [g1, g3], fun _ => ⟨g4, g5⟩, fun h => absurd h (by omega), h4⟩
  have loop : ∀ (u t : Nat) (a i d : Int) (bt : List Int) (mi' : MI), 0 ≤ a → a ≤ i → i ≤ tl → tl - a < u → tl - i < t → 0 ≤ d → d ≤ n → bt.length ≤ 28 → R = prs A T n tl t i d bt → RdM mi' d 0 bt → (∀ x, x ≠ 59 → x ≠ 60 → x ≠ 61 → mi' x = mi x) → V (RX6, cX6_read, 5, rm 4, false, none, none) (fun r sh' mi' mr' => sh' = SH ∧ r = none ∧ mr' = mr ∧ mi' 59 3 = R.1 ∧ (R.1 ≠ 0 → mi' 59 2 = R.2.1 ∧ mi' 59 4 = R.2.2.1) ∧ (R.1 = 0 → TxtM mi' 60 61 R.2.2.2) ∧ ∀ x, x ≠ 59 → x ≠ 60 → x ≠ 61 → mi' x = mi x) 0 0 SH mi' mr [some (vr 59), some (vr 33), some (vr f), some (vi i), some (vi a)] [] 22 := by
    intro u
    induction u with
    | zero => intro t a i d bt mi' h0 h1 h2 h3; omega
    | succ u ih =>
      intro t a i d bt mi' h0 h1 h2 h3 h4 h5 h6 h7 h8 h9 h10
      obtain ⟨t, rfl⟩ : ∃ t', t = t' + 1 := ⟨t - 1, by omega⟩
      have hT' : Typ mi' tl T := hT.keep (h10 33 (by decide) (by decide) (by decide)) (h10 34 (by decide) (by decide) (by decide))
      have hN' : Now mi' mr f fb g gb n m A B := hN.keep (fun x x1 x2 => h10 x (by omega) (by omega) (by omega))
      have hl := hT'.1
      have u10' : mi' f 1 = n := hN'.u.2.2.2.1.1
      obtain ⟨g1, g2, g3⟩ := h9
      have e0 : prs A T n tl (t + 1) i d bt = if tl ≤ i then (if d < n then (4, tl, n - d, bt) else (0, 0, -1, bt)) else if (pstep A T n i d bt).1 ≠ 0 then ((pstep A T n i d bt).1, i, (pstep A T n i d bt).2.1, bt) else prs A T n tl t (i + pn T i) (pstep A T n i d bt).2.2.1 (pstep A T n i d bt).2.2.2 := rfl
      rw [e0] at h8
      by_cases hend : tl ≤ a
      · rw [if_pos (by omega)] at h8
        refine V_iload dX6_read_22 rfl ?_
        refine V_aload_n dX6_read_24 rfl ?_
        refine V_geti 1 dX6_read_25 fl_RX6_30 (by first | with_reducible assumption | rfl) rfl rfl ?_
        rw [hl]
        refine V_icmp_ge 63 dX6_read_28 (by decide) (by omega) (by omega) (fun _ => ?_) (fun h28 => absurd h28 ((not_not_intro hend)))
        refine V_aload_n dX6_read_63 rfl ?_
        refine V_geti 3 dX6_read_64 fl_RX6_27 (by first | with_reducible assumption | rfl) rfl rfl ?_
        rw [g2]
        refine V_if_ne 99 dX6_read_67 (by decide) (by omega) (fun h67 => absurd h67 ((not_not_intro rfl))) (fun _ => ?_)
        refine V_aload_n dX6_read_70 rfl ?_
        refine V_geti 1 dX6_read_71 fl_RX6_23 (by first | with_reducible assumption | rfl) rfl rfl ?_
        rw [g1]
        refine V_aload_n dX6_read_74 rfl ?_
        refine V_geti 1 dX6_read_75 fl_RX6_30 (by first | with_reducible assumption | rfl) rfl rfl ?_
        rw [u10']
        refine V_icmp_ge 99 dX6_read_78 (by decide) (by omega) (by omega) (fun h78 => ?_) (fun h78 => ?_)
        · refine V_vret dX6_read_99 rfl ⟨Nat.le_of_ble_eq_true rfl, Nat.le_of_ble_eq_true rfl⟩ ?_
          first | exact ⟨rfl, rfl, rfl, by rw [h8]; simp [up2, up1], fun _ => by rw [h8]; simp [up2, up1], fun h => absurd h (by rw [h8]; simp), hfin⟩ | (rw [if_neg (by omega)] at h8; exact ⟨rfl, rfl, rfl, by rw [h8]; exact g2, fun h => absurd (by rw [h8]) h, fun _ => by rw [h8]; exact g3, h10⟩)
        · refine V_aload_n dX6_read_81 rfl ?_
          refine V_aload_n dX6_read_82 rfl ?_
          refine V_geti 1 dX6_read_83 fl_RX6_30 (by first | with_reducible assumption | rfl) rfl rfl ?_
          rw [hl]
          refine V_iconst dX6_read_86 ?_
          refine V_aload_n dX6_read_87 rfl ?_
          refine V_geti 1 dX6_read_88 fl_RX6_30 (by first | with_reducible assumption | rfl) rfl rfl ?_
          rw [u10']
          refine V_aload_n dX6_read_91 rfl ?_
          refine V_geti 1 dX6_read_92 fl_RX6_23 (by first | with_reducible assumption | rfl) rfl rfl ?_
          rw [g1]
          refine V_isub dX6_read_95 ?_
          refine V_callV0 dX6_read_96 ml_RX6_41 km_X6_tell kv_X6_tell (c_X6_tell (a := tl) (b := 4) (c := n - d) (by omega) (by decide) (by omega)) (by first | with_reducible assumption | rfl) rfl rfl rfl (Nat.le_of_ble_eq_true rfl) ⟨Nat.le_of_ble_eq_true rfl, Nat.le_of_ble_eq_true rfl⟩ ⟨Nat.le_of_ble_eq_true rfl, Nat.le_of_ble_eq_true rfl⟩ ?_
          rintro mi2 mr2 ⟨rfl, rfl⟩
          rw [if_pos (by omega)] at h8
          have hfin : (∀ x, x ≠ 59 → x ≠ 60 → x ≠ 61 → up2 (up2 (up2 mi' 59 2 tl) 59 3 4) 59 4 (n - d) x = mi x) := fun x x1 x2 x3 => by rw [up2_n _ _ _ x1, up2_n _ _ _ x1, up2_n _ _ _ x1]; exact h10 x x1 x2 x3
          refine V_vret dX6_read_99 rfl ⟨Nat.le_of_ble_eq_true rfl, Nat.le_of_ble_eq_true rfl⟩ ?_
          first | exact ⟨rfl, rfl, rfl, by rw [h8]; simp [up2, up1], fun _ => by rw [h8]; simp [up2, up1], fun h => absurd h (by rw [h8]; simp), hfin⟩ | (rw [if_neg (by omega)] at h8; exact ⟨rfl, rfl, rfl, by rw [h8]; exact g2, fun h => absurd (by rw [h8]) h, fun _ => by rw [h8]; exact g3, h10⟩)
      · by_cases hai : a = i
        · subst hai
          rw [if_neg (by omega)] at h8
          refine V_iload dX6_read_22 rfl ?_
          refine V_aload_n dX6_read_24 rfl ?_
          refine V_geti 1 dX6_read_25 fl_RX6_30 (by first | with_reducible assumption | rfl) rfl rfl ?_
          rw [hl]
          refine V_icmp_ge 63 dX6_read_28 (by decide) (by omega) (by omega) (fun h28 => absurd h28 (hend)) (fun _ => ?_)
          refine V_aload_n dX6_read_31 rfl ?_
          refine V_geti 3 dX6_read_32 fl_RX6_27 (by first | with_reducible assumption | rfl) rfl rfl ?_
          rw [g2]
          refine V_if_ne 63 dX6_read_35 (by decide) (by omega) (fun h35 => absurd h35 ((not_not_intro rfl))) (fun _ => ?_)
          refine V_iload dX6_read_38 rfl ?_
          refine V_iload_n dX6_read_40 rfl ?_
          refine V_icmp_ne 57 dX6_read_41 (by decide) (by omega) (by omega) (fun h41 => absurd h41 ((not_not_intro rfl))) (fun _ => ?_)
          refine V_aload_n dX6_read_44 rfl ?_
          refine V_aload_n dX6_read_45 rfl ?_
          refine V_aload_n dX6_read_46 rfl ?_
          refine V_iload_n dX6_read_47 rfl ?_
          refine V_callV0 dX6_read_48 ml_RX6_33 km_X6_readPart kv_X6_readPart (c_X6_readPart (i := a) (d := d) hN' hT' ⟨g1, g2, g3⟩ (by omega) (by omega) h7) (by first | with_reducible assumption | rfl) rfl rfl rfl (Nat.le_of_ble_eq_true rfl) ⟨Nat.le_of_ble_eq_true rfl, Nat.le_of_ble_eq_true rfl⟩ ⟨Nat.le_of_ble_eq_true rfl, Nat.le_of_ble_eq_true rfl⟩ ?_
          rintro mi2 mr2 ⟨rfl, k1, k2, k3⟩
          have hT2 : Typ mi2 tl T := hT'.keep (k3 33 (by decide) (by decide) (by decide)) (k3 34 (by decide) (by decide) (by decide))
          have heo := eoN_r T tl 61 a (by omega) h0
          refine V_aload_n dX6_read_51 rfl ?_
          refine V_iload_n dX6_read_52 rfl ?_
          refine V_callSP dX6_read_53 ml_RX6_37 km_X6_endOf ks_X6_endOf (c_X6_endOf (i := a) hG hT2 (by omega)) rfl rfl (Nat.le_of_ble_eq_true rfl) ⟨Nat.le_of_ble_eq_true rfl, Nat.le_of_ble_eq_true rfl⟩ ⟨Nat.le_of_ble_eq_true rfl, Nat.le_of_ble_eq_true rfl⟩ ?_
          refine S_istore_n (ls' := [_, _, _, _, _]) dX6_read_56 ⟨Nat.le_of_ble_eq_true rfl, rfl, rfl⟩ rfl ?_
          refine S_iinc (ls' := [_, _, _, _, _]) dX6_read_57 rfl ⟨rfl, rfl⟩ rfl ?_
          refine V_goto 22 dX6_read_60 (by decide) ?_
          have h10' : ∀ x, x ≠ 59 → x ≠ 60 → x ≠ 61 → mi2 x = mi x := fun x x1 x2 x3 => by rw [k3 x x1 x2 x3]; exact h10 x x1 x2 x3
          by_cases hp : (pstep A T n a d bt).1 = 0
          · have hp0 := pstep_0 hp
            have hok := brk_ok hT.2.2 h0 hp0.1
            have hpl := padd_len (A := A) (i := a) (d := d) (show 0 ≤ pm T a by omega)
            rw [if_neg (not_not_intro hp)] at h8
            rw [hok.2.1]
            have k1' := k1
            rw [hp] at k1'
            refine ih t (a + 1) (a + pn T a) _ _ mi2 (by omega) (by omega) (by omega) (by omega) (by omega) ?_ ?_ ?_ h8 k1' h10'
            · rw [hp0.2.2.2]; simp only; split <;> omega
            · rw [hp0.2.2.2]; simp only; split <;> omega
            · rw [hp0.2.2.2]; simp only [List.length_append]
              rcases hp0.2.2.1 with h45 | h45
              · rw [hpl.1 h45]; simpa using h7
              · omega
          · have hpr : 1 ≤ (pstep A T n a d bt).1 ∧ (pstep A T n a d bt).1 ≤ 3 := by
              revert hp
              unfold pstep
              split
              · intro; simp only; omega
              · split
                · intro; simp only; omega
                · split
                  · intro; simp only; omega
                  · intro h; exact absurd rfl h
            rw [if_pos hp] at h8
            exact fin mi2 (a + 1) _ _ none (by omega) (by omega) ⟨k1.2.1, hp, by rw [h8], by rw [h8]; exact (k2 hp).1, by rw [h8]; exact (k2 hp).2⟩ h10' hpr
        · rw [← e0] at h8
          refine V_iload dX6_read_22 rfl ?_
          refine V_aload_n dX6_read_24 rfl ?_
          refine V_geti 1 dX6_read_25 fl_RX6_30 (by first | with_reducible assumption | rfl) rfl rfl ?_
          rw [hl]
          refine V_icmp_ge 63 dX6_read_28 (by decide) (by omega) (by omega) (fun h28 => absurd h28 (hend)) (fun _ => ?_)
          refine V_aload_n dX6_read_31 rfl ?_
          refine V_geti 3 dX6_read_32 fl_RX6_27 (by first | with_reducible assumption | rfl) rfl rfl ?_
          rw [g2]
          refine V_if_ne 63 dX6_read_35 (by decide) (by omega) (fun h35 => absurd h35 ((not_not_intro rfl))) (fun _ => ?_)
          refine V_iload dX6_read_38 rfl ?_
          refine V_iload_n dX6_read_40 rfl ?_
          refine V_icmp_ne 57 dX6_read_41 (by decide) (by omega) (by omega) (fun _ => ?_) (fun h41 => absurd h41 (hai))
          refine S_iinc (ls' := [_, _, _, _, _]) dX6_read_57 rfl ⟨rfl, rfl⟩ rfl ?_
          refine V_goto 22 dX6_read_60 (by decide) ?_
          exact ih (t + 1) (a + 1) i d bt mi' (by omega) (by omega) h2 (by omega) h4 h5 h6 h7 h8 ⟨g1, g2, g3⟩ h10
  refine Ct.ofV (ini := false) [some (vr 59), some (vr 33), some (vr f), none, none] km_X6_read (by decide) rfl (Nat.le_of_ble_eq_true rfl) ?_
  refine V_aload_n dX6_read_0 rfl ?_
  refine V_getr 0 _ dX6_read_1 fl_RX6_14 (by first | with_reducible assumption | rfl) rfl rfl (by first | with_reducible assumption | exact hG.at rfl) ?_
  refine V_callV0 dX6_read_4 ml_RX6_20 km_X7_empty kv_X7_empty (c_X7_empty (a := 60) rfl) (by first | with_reducible assumption | rfl) rfl rfl rfl (Nat.le_of_ble_eq_true rfl) ⟨Nat.le_of_ble_eq_true rfl, Nat.le_of_ble_eq_true rfl⟩ ⟨Nat.le_of_ble_eq_true rfl, Nat.le_of_ble_eq_true rfl⟩ ?_
  rintro mi2 mr2 ⟨rfl, rfl⟩
  refine V_aload_n dX6_read_7 rfl ?_
  refine V_iconst dX6_read_8 ?_
  refine V_puti 1 dX6_read_9 fl_RX6_23 (by first | with_reducible assumption | rfl) rfl rfl rfl ?_
  refine V_aload_n dX6_read_12 rfl ?_
  refine V_iconst dX6_read_13 ?_
  refine V_puti 3 dX6_read_14 fl_RX6_27 (by first | with_reducible assumption | rfl) rfl rfl rfl ?_
  refine V_iconst dX6_read_17 ?_
  refine S_istore_n (ls' := [_, _, _, _, _]) dX6_read_18 ⟨Nat.le_of_ble_eq_true rfl, rfl, rfl⟩ rfl ?_
  refine V_iconst dX6_read_19 ?_
  refine S_istore (ls' := [_, _, _, _, _]) dX6_read_20 ⟨Nat.le_of_ble_eq_true rfl, rfl, rfl⟩ rfl ?_
  refine loop 61 61 0 0 0 [] _ (by omega) (by omega) (by omega) (by omega) (by omega) (by omega) (by omega) (by decide) hRR ⟨by simp [up2, up1], by simp [up2, up1], ⟨by simp [up2, up1], fun i hi => absurd hi (by simp)⟩⟩ (fun x x1 x2 x3 => by rw [up2_n _ _ _ x1, up2_n _ _ _ x1, up2_n _ _ _ x2])
end READER2
