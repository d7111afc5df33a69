/-! ===== DiagonalTexts$Grid, DiagonalTexts$Commons ===== -/
/-- the most letters that can be kept of beginnings, row by row -/
def lcRow (A B : Int → Int) (p : Nat → Int) (x : Nat) : Nat → Int
  | 0 => 0
  | y + 1 => if al A B x y then p y + 1 else max (p (y + 1)) (lcRow A B p x y)
def lcN (A B : Int → Int) : Nat → Nat → Int
  | 0 => fun _ => 0
  | x + 1 => lcRow A B (lcN A B x) x
theorem lcN_s (A B : Int → Int) (x y : Nat) : lcN A B (x + 1) (y + 1) = if al A B x y then lcN A B x y + 1 else max (lcN A B x (y + 1)) (lcN A B (x + 1) y) := rfl
theorem lcN_x0 (A B : Int → Int) (x : Nat) : lcN A B x 0 = 0 := by cases x <;> rfl
theorem lcN_0y (A B : Int → Int) (y : Nat) : lcN A B 0 y = 0 := rfl
theorem lcN_r (A B : Int → Int) : ∀ x y : Nat, 0 ≤ lcN A B x y ∧ lcN A B x y ≤ x
  | 0, y => by simp [lcN]
  | x + 1, y => by
    induction y with
    | zero => rw [lcN_x0]; omega
    | succ y ih =>
      have h1 := lcN_r A B x y
      have h2 := lcN_r A B x (y + 1)
      rw [lcN_s]
      split <;> omega
/-- of ends: so many letters from both ends -/
def leRow (A B : Int → Int) (n m : Int) (p : Nat → Int) (i : Nat) : Nat → Int
  | 0 => 0
  | j + 1 => if al A B (n - (i + 1)) (m - (j + 1)) then p j + 1 else max (p (j + 1)) (leRow A B n m p i j)
def leN (A B : Int → Int) (n m : Int) : Nat → Nat → Int
  | 0 => fun _ => 0
  | i + 1 => leRow A B n m (leN A B n m i) i
theorem leN_s (A B : Int → Int) (n m : Int) (i j : Nat) : leN A B n m (i + 1) (j + 1) = if al A B (n - (i + 1)) (m - (j + 1)) then leN A B n m i j + 1 else max (leN A B n m i (j + 1)) (leN A B n m (i + 1) j) := rfl
theorem leN_x0 (A B : Int → Int) (n m : Int) (i : Nat) : leN A B n m i 0 = 0 := by cases i <;> rfl
theorem leN_r (A B : Int → Int) (n m : Int) : ∀ i j : Nat, 0 ≤ leN A B n m i j ∧ leN A B n m i j ≤ i
  | 0, j => by simp [leN]
  | i + 1, j => by
    induction j with
    | zero => rw [leN_x0]; omega
    | succ j ih =>
      have h1 := leN_r A B n m i j
      have h2 := leN_r A B n m i (j + 1)
      rw [leN_s]
      split <;> omega
def leI (A B : Int → Int) (n m x y : Int) : Int := leN A B n m (n - x).toNat (m - y).toNat
/-- in how many ways -/
def wyRow (A B : Int → Int) (p : Nat → Int) (x : Nat) : Nat → Int
  | 0 => 1
  | y + 1 => (if lcN A B x (y + 1) = lcN A B (x + 1) (y + 1) then p (y + 1) else 0) + (if lcN A B (x + 1) y = lcN A B (x + 1) (y + 1) then wyRow A B p x y else 0) + (if al A B x y then p y else 0)
def wyN (A B : Int → Int) : Nat → Nat → Int
  | 0 => fun _ => 1
  | x + 1 => wyRow A B (wyN A B x) x
theorem wyN_s (A B : Int → Int) (x y : Nat) : wyN A B (x + 1) (y + 1) = (if lcN A B x (y + 1) = lcN A B (x + 1) (y + 1) then wyN A B x (y + 1) else 0) + (if lcN A B (x + 1) y = lcN A B (x + 1) (y + 1) then wyN A B (x + 1) y else 0) + (if al A B x y then wyN A B x y else 0) := rfl
theorem wyN_x0 (A B : Int → Int) (x : Nat) : wyN A B x 0 = 1 := by cases x <;> rfl
/-- how many could be kept, this letter at this place one of them -/
def cwN (A B : Int → Int) (n m : Int) (p : Nat) (v : Int) : Nat → Int
  | 0 => 0
  | y + 1 => if B y = v then max (cwN A B n m p v y) (lcN A B p y + 1 + leI A B n m (p + 1) (y + 1)) else cwN A B n m p v y
def bRow (c : Nat → Int → Int) (p : Nat) (s : Int × Int × Int) : Nat → Int × Int × Int
  | 0 => s
  | v + 1 => if (bRow c p s v).2.2 < c p v then ((p : Int), (v : Int), c p v) else bRow c p s v
def bAll (c : Nat → Int → Int) (s : Int × Int × Int) : Nat → Int × Int × Int
  | 0 => s
  | p + 1 => bRow c p (bAll c s p) 8
def gat (mi : MI) (b : Nat) (x y : Int) : Int := if 0 ≤ x ∧ x ≤ 28 ∧ 0 ≤ y ∧ y ≤ 28 then mi b (x * 29 + y) else 0
section COMMONS
variable {mi : MI} {mr : MR} {f fb g gb : Nat} {n m : Int} {A B : Int → Int}
set_option maxRecDepth 100000 in
theorem c_X10_isIn {sh : ShT} {v a b : Int} (hv : rng v) (ha : rng a) (hb : rng b) : CP yX10_isIn cX10_isIn 3 (some .boolean) 0 sh mi mr [vi v, vi a, vi b] (vi (if a ≤ v ∧ v ≤ b then 1 else 0)) := by
  refine Ct.ofV (ini := false) [some (vi v), some (vi a), some (vi b)] km_X10_isIn (by decide) rfl (Nat.le_of_ble_eq_true rfl) ?_
  refine V_iload_n dX10_isIn_0 rfl ?_
  refine V_iload_n dX10_isIn_1 rfl ?_
  refine V_icmp_lt 14 dX10_isIn_2 (by decide) (by omega) (by omega) (fun h2 => ?_) (fun h2 => ?_)
  · refine V_iconst dX10_isIn_14 ?_
    refine V_zret dX10_isIn_15 rfl ⟨Nat.le_of_ble_eq_true rfl, Nat.le_of_ble_eq_true rfl⟩ (by first | exact Or.inl rfl | exact Or.inr rfl | omega) ?_
    exact ⟨rfl, svi (by split <;> first | rfl | (exfalso; omega)), rfl, rfl⟩
  · refine V_iload_n dX10_isIn_5 rfl ?_
    refine V_iload_n dX10_isIn_6 rfl ?_
    refine V_icmp_gt 14 dX10_isIn_7 (by decide) (by omega) (by omega) (fun h7 => ?_) (fun h7 => ?_)
    · refine V_iconst dX10_isIn_14 ?_
      refine V_zret dX10_isIn_15 rfl ⟨Nat.le_of_ble_eq_true rfl, Nat.le_of_ble_eq_true rfl⟩ (by first | exact Or.inl rfl | exact Or.inr rfl | omega) ?_
      exact ⟨rfl, svi (by split <;> first | rfl | (exfalso; omega)), rfl, rfl⟩
    · refine V_iconst dX10_isIn_10 ?_
      refine V_goto 15 dX10_isIn_11 (by decide) ?_
      refine V_zret dX10_isIn_15 rfl ⟨Nat.le_of_ble_eq_true rfl, Nat.le_of_ble_eq_true rfl⟩ (by first | exact Or.inl rfl | exact Or.inr rfl | omega) ?_
      exact ⟨rfl, svi (by split <;> first | rfl | (exfalso; omega)), rfl, rfl⟩
set_option maxRecDepth 100000 in
theorem c_X2_isInside {sh : ShT} {x y : Int} (hx : rng x) (hy : rng y) : CP yX2_isInside cX2_isInside 2 (some .boolean) 1 sh mi mr [vi x, vi y] (vi (if 0 ≤ x ∧ x ≤ 28 ∧ 0 ≤ y ∧ y ≤ 28 then 1 else 0)) := by
  refine Ct.ofV (ini := false) [some (vi x), some (vi y)] km_X2_isInside (by decide) rfl (Nat.le_of_ble_eq_true rfl) ?_
  refine V_iload_n dX2_isInside_0 rfl ?_
  refine V_iconst dX2_isInside_1 ?_
  refine V_bipush dX2_isInside_2 (by decide) ?_
  refine V_callSP dX2_isInside_4 ml_RX2_19 km_X10_isIn ks_X10_isIn (c_X10_isIn (v := x) (a := 0) (b := 28) hx (by omega) (by omega)) rfl rfl (Nat.le_of_ble_eq_true rfl) ⟨Nat.le_of_ble_eq_true rfl, Nat.le_of_ble_eq_true rfl⟩ ⟨Nat.le_of_ble_eq_true rfl, Nat.le_of_ble_eq_true rfl⟩ ?_
  refine V_if_eq 24 dX2_isInside_7 (by decide) (by split <;> omega) (fun h7 => ?_) (fun h7 => ?_)
  · refine V_iconst dX2_isInside_24 ?_
    refine V_zret dX2_isInside_25 rfl ⟨Nat.le_of_ble_eq_true rfl, Nat.le_of_ble_eq_true rfl⟩ (by first | exact Or.inl rfl | exact Or.inr rfl | omega) ?_
    refine ⟨rfl, svi ?_, rfl, rfl⟩
    split <;> first | rfl | (exfalso; split at h7 <;> first | omega | (split at h17 <;> omega))
  · refine V_iload_n dX2_isInside_10 rfl ?_
    refine V_iconst dX2_isInside_11 ?_
    refine V_bipush dX2_isInside_12 (by decide) ?_
    refine V_callSP dX2_isInside_14 ml_RX2_19 km_X10_isIn ks_X10_isIn (c_X10_isIn (v := y) (a := 0) (b := 28) hy (by omega) (by omega)) rfl rfl (Nat.le_of_ble_eq_true rfl) ⟨Nat.le_of_ble_eq_true rfl, Nat.le_of_ble_eq_true rfl⟩ ⟨Nat.le_of_ble_eq_true rfl, Nat.le_of_ble_eq_true rfl⟩ ?_
    refine V_if_eq 24 dX2_isInside_17 (by decide) (by split <;> omega) (fun h17 => ?_) (fun h17 => ?_)
    · refine V_iconst dX2_isInside_24 ?_
      refine V_zret dX2_isInside_25 rfl ⟨Nat.le_of_ble_eq_true rfl, Nat.le_of_ble_eq_true rfl⟩ (by first | exact Or.inl rfl | exact Or.inr rfl | omega) ?_
      refine ⟨rfl, svi ?_, rfl, rfl⟩
      split <;> first | rfl | (exfalso; split at h7 <;> first | omega | (split at h17 <;> omega))
    · refine V_iconst dX2_isInside_20 ?_
      refine V_goto 25 dX2_isInside_21 (by decide) ?_
      refine V_zret dX2_isInside_25 rfl ⟨Nat.le_of_ble_eq_true rfl, Nat.le_of_ble_eq_true rfl⟩ (by first | exact Or.inl rfl | exact Or.inr rfl | omega) ?_
      refine ⟨rfl, svi ?_, rfl, rfl⟩
      split <;> first | rfl | (exfalso; split at h7 <;> first | omega | (split at h17 <;> omega))
set_option maxRecDepth 100000 in
theorem c_X2_at {a b : Nat} {x y : Int} (ha : SH[a]? = some (.inl 2)) (hr : mr a 0 = some b) (hb : SH[b]? = some (.inr (1, 841))) (hx : rng x) (hy : rng y) : CP yX2_at cX2_at 3 (some .long) 2 SH mi mr [vr a, vi x, vi y] (vl (gat mi b x y)) := by
  refine Ct.ofV (ini := false) [some (vr a), some (vi x), some (vi y)] km_X2_at (by decide) rfl (Nat.le_of_ble_eq_true rfl) ?_
  refine V_iload_n dX2_at_0 rfl ?_
  refine V_iload_n dX2_at_1 rfl ?_
  refine V_callSP dX2_at_2 ml_RX2_15 km_X2_isInside ks_X2_isInside (c_X2_isInside hx hy) rfl rfl (Nat.le_of_ble_eq_true rfl) ⟨Nat.le_of_ble_eq_true rfl, Nat.le_of_ble_eq_true rfl⟩ ⟨Nat.le_of_ble_eq_true rfl, Nat.le_of_ble_eq_true rfl⟩ ?_
  by_cases hin : 0 ≤ x ∧ x ≤ 28 ∧ 0 ≤ y ∧ y ≤ 28
  · rw [if_pos hin]
    refine V_if_eq 22 dX2_at_5 (by decide) (by omega) (fun h5 => absurd h5 (by decide)) (fun _ => ?_)
    refine V_aload_n dX2_at_8 rfl ?_
    refine V_getr 0 _ dX2_at_9 fl_RX2_9 (by first | with_reducible assumption | rfl) rfl rfl (by first | with_reducible assumption | exact hG.at rfl) ?_
    refine V_iload_n dX2_at_12 rfl ?_
    refine V_bipush dX2_at_13 (by decide) ?_
    refine V_imul dX2_at_15 ?_
    refine V_iload_n dX2_at_16 rfl ?_
    refine V_iadd dX2_at_17 ?_
    refine V_lald dX2_at_18 (by first | with_reducible assumption | rfl) (by decide) (by omega) ?_
    refine V_goto 23 dX2_at_19 (by decide) ?_
    refine V_lret dX2_at_23 rfl ⟨Nat.le_of_ble_eq_true rfl, Nat.le_of_ble_eq_true rfl⟩ ?_
    exact ⟨rfl, svl (by unfold gat; rw [if_pos hin]), rfl, rfl⟩
  · rw [if_neg hin]
    refine V_if_eq 22 dX2_at_5 (by decide) (by omega) (fun _ => ?_) (fun h5 => absurd h5 (by decide))
    refine V_lconst 0 dX2_at_22 rfl ?_
    refine V_lret dX2_at_23 rfl ⟨Nat.le_of_ble_eq_true rfl, Nat.le_of_ble_eq_true rfl⟩ ?_
    exact ⟨rfl, svl (by unfold gat; rw [if_neg hin]), rfl, rfl⟩
set_option maxRecDepth 100000 in
theorem c_X2_put {a b : Nat} {x y v : Int} (ha : SH[a]? = some (.inl 2)) (hr : mr a 0 = some b) (hb : SH[b]? = some (.inr (1, 841))) (hx : rng x) (hy : rng y) : C0 yX2_put cX2_put 5 none 2 SH mi mr [vr a, vi x, vi y, vl v] (fun mi' mr' => mr' = mr ∧ mi' = if 0 ≤ x ∧ x ≤ 28 ∧ 0 ≤ y ∧ y ≤ 28 then up2 mi b (x * 29 + y) v else mi) := by
  refine Ct.ofV (ini := false) [some (vr a), some (vi x), some (vi y), some (vl v), none] km_X2_put (by decide) rfl (Nat.le_of_ble_eq_true rfl) ?_
  refine V_iload_n dX2_put_0 rfl ?_
  refine V_iload_n dX2_put_1 rfl ?_
  refine V_callSP dX2_put_2 ml_RX2_15 km_X2_isInside ks_X2_isInside (c_X2_isInside hx hy) rfl rfl (Nat.le_of_ble_eq_true rfl) ⟨Nat.le_of_ble_eq_true rfl, Nat.le_of_ble_eq_true rfl⟩ ⟨Nat.le_of_ble_eq_true rfl, Nat.le_of_ble_eq_true rfl⟩ ?_
  by_cases hin : 0 ≤ x ∧ x ≤ 28 ∧ 0 ≤ y ∧ y ≤ 28
  · rw [show (if 0 ≤ x ∧ x ≤ 28 ∧ 0 ≤ y ∧ y ≤ 28 then (1 : Int) else 0) = 1 from if_pos hin]
    refine V_if_eq 20 dX2_put_5 (by decide) (by omega) (fun h5 => absurd h5 (by decide)) (fun _ => ?_)
    refine V_aload_n dX2_put_8 rfl ?_
    refine V_getr 0 _ dX2_put_9 fl_RX2_9 (by first | with_reducible assumption | rfl) rfl rfl (by first | with_reducible assumption | exact hG.at rfl) ?_
    refine V_iload_n dX2_put_12 rfl ?_
    refine V_bipush dX2_put_13 (by decide) ?_
    refine V_imul dX2_put_15 ?_
    refine V_iload_n dX2_put_16 rfl ?_
    refine V_iadd dX2_put_17 ?_
    refine V_lload_n dX2_put_18 rfl ?_
    refine V_last dX2_put_19 (by first | with_reducible assumption | rfl) (by decide) (by omega) ?_
    refine V_vret dX2_put_20 rfl ⟨Nat.le_of_ble_eq_true rfl, Nat.le_of_ble_eq_true rfl⟩ ?_
    exact ⟨rfl, rfl, rfl, by rw [if_pos hin]⟩
  · rw [show (if 0 ≤ x ∧ x ≤ 28 ∧ 0 ≤ y ∧ y ≤ 28 then (1 : Int) else 0) = 0 from if_neg hin]
    refine V_if_eq 20 dX2_put_5 (by decide) (by omega) (fun _ => ?_) (fun h5 => absurd h5 (by decide))
    refine V_vret dX2_put_20 rfl ⟨Nat.le_of_ble_eq_true rfl, Nat.le_of_ble_eq_true rfl⟩ ?_
    exact ⟨rfl, rfl, rfl, by rw [if_neg hin]⟩
/-- a grid filled by rows, up to a place -/
def GF (mi : MI) (b : Nat) (G : Nat → Nat → Int) (n m : Int) (x y : Nat) : Prop := ∀ x' y' : Nat, (x' : Int) ≤ n → (y' : Int) ≤ m → (x' < x ∨ (x' = x ∧ y' < y)) → mi b ((x' : Int) * 29 + y') = G x' y'
theorem GF_at {b : Nat} {G : Nat → Nat → Int} {x y : Nat} (h : GF mi b G n m x y) (hn : n ≤ 28) (hm : m ≤ 28) {x' y' : Nat} {xi yi : Int} (e1 : xi = x') (e2 : yi = y') (h1 : (x' : Int) ≤ n) (h2 : (y' : Int) ≤ m) (h3 : x' < x ∨ (x' = x ∧ y' < y)) : gat mi b xi yi = G x' y' := by
  subst e1 e2
  unfold gat
  rw [if_pos (by omega)]
  exact h x' y' h1 h2 h3
theorem gat_out {b : Nat} {x y : Int} (h : x < 0 ∨ y < 0) : gat mi b x y = 0 := by
  unfold gat
  rw [if_neg (by omega)]
theorem GF.put {b : Nat} {G : Nat → Nat → Int} {x y : Nat} {v : Int} (h : GF mi b G n m x y) (hm : m ≤ 28) (hy : (y : Int) ≤ m) (hv : v = G x y) : GF (up2 mi b ((x : Int) * 29 + y) v) b G n m x (y + 1) := by
  intro x' y' h1 h2 h3
  by_cases he : x' = x ∧ y' = y
  · obtain ⟨rfl, rfl⟩ := he
    rw [up2_ss, hv]
  · rw [up2_sn _ _ _ (by omega)]
    exact h x' y' h1 h2 (by omega)
theorem lc_step {x y : Nat} (hA : NR n A) (hB : NR m B) (hx : (x : Int) ≤ n) (hy : (y : Int) ≤ m) (h : GF mi 54 (lcN A B) n m x y) : (al A B ((x : Int) - 1) ((y : Int) - 1) → gat mi 54 ((x : Int) - 1) ((y : Int) - 1) + 1 = lcN A B x y) ∧ (¬ al A B ((x : Int) - 1) ((y : Int) - 1) → max (gat mi 54 ((x : Int) - 1) y) (gat mi 54 x ((y : Int) - 1)) = lcN A B x y) := by
  have hn := hA.1
  have hm := hB.1
  constructor
  · intro ha
    have hin := al_in hA hB ha
    obtain ⟨x', rfl⟩ : ∃ x', x = x' + 1 := ⟨x - 1, by omega⟩
    obtain ⟨y', rfl⟩ : ∃ y', y = y' + 1 := ⟨y - 1, by omega⟩
    rw [GF_at h hn.2 hm.2 (x' := x') (y' := y') (by omega) (by omega) (by omega) (by omega) (by omega), lcN_s, if_pos (by rw [show ((x' : Int)) = ((x' + 1 : Nat) : Int) - 1 by omega, show ((y' : Int)) = ((y' + 1 : Nat) : Int) - 1 by omega]; exact ha)]
  · intro ha
    by_cases hx0 : x = 0
    · subst hx0
      rw [gat_out (by omega), lcN_0y]
      by_cases hy0 : y = 0
      · subst hy0; rw [gat_out (by omega)]; rfl
      · rw [GF_at h hn.2 hm.2 (x' := 0) (y' := y - 1) (by omega) (by omega) (by omega) (by omega) (by omega), lcN_0y]; rfl
    · obtain ⟨x', rfl⟩ : ∃ x', x = x' + 1 := ⟨x - 1, by omega⟩
      by_cases hy0 : y = 0
      · subst hy0
        rw [gat_out (x := ((x' + 1 : Nat) : Int)) (by omega), GF_at h hn.2 hm.2 (x' := x') (y' := 0) (by omega) (by omega) (by omega) (by omega) (by omega), lcN_x0, lcN_x0]; rfl
      · obtain ⟨y', rfl⟩ : ∃ y', y = y' + 1 := ⟨y - 1, by omega⟩
        rw [GF_at h hn.2 hm.2 (x' := x') (y' := y' + 1) (by omega) (by omega) (by omega) (by omega) (by omega), GF_at h hn.2 hm.2 (x' := x' + 1) (y' := y') (by omega) (by omega) (by omega) (by omega) (by omega), lcN_s, if_neg (by rw [show ((x' : Int)) = ((x' + 1 : Nat) : Int) - 1 by omega, show ((y' : Int)) = ((y' + 1 : Nat) : Int) - 1 by omega]; exact ha)]
theorem lc_rng {x y : Nat} (hA : NR n A) (hB : NR m B) (hx : (x : Int) ≤ n) (hy : (y : Int) ≤ m) (h : GF mi 54 (lcN A B) n m x y) : (0 ≤ gat mi 54 ((x : Int) - 1) y ∧ gat mi 54 ((x : Int) - 1) y ≤ 28) ∧ (0 ≤ gat mi 54 x ((y : Int) - 1) ∧ gat mi 54 x ((y : Int) - 1) ≤ 28) := by
  have hn := hA.1
  have hm := hB.1
  constructor
  · by_cases hx0 : x = 0
    · rw [gat_out (by omega)]; omega
    · rw [GF_at h hn.2 hm.2 (x' := x - 1) (y' := y) (by omega) (by omega) (by omega) (by omega) (by omega)]
      have := lcN_r A B (x - 1) y
      omega
  · by_cases hy0 : y = 0
    · rw [gat_out (by omega)]; omega
    · rw [GF_at h hn.2 hm.2 (x' := x) (y' := y - 1) (by omega) (by omega) (by omega) (by omega) (by omega)]
      have := lcN_r A B x (y - 1)
      omega
set_option maxRecDepth 100000 in
set_option maxHeartbeats 1000000 in
theorem l_X1_fillBeginnings {Q : PQ} (hA : NR n A) (hB : NR m B) (x : Nat) (hx : (x : Int) ≤ n)
    (kk : ∀ (mi' : MI) (o : Option AV), GF mi' 54 (lcN A B) n m (x + 1) 0 → Now mi' mr f fb g gb n m A B → (∀ z, z ≠ 54 → mi' z = mi z) → V (RX1, cX1_fillBeginnings, 4, rm 3, false, none, none) Q 0 0 SH mi' mr [some (vr 52), some (vr 1), some (vi x), o] [] 97) :
    ∀ (u y : Nat) (mi' : MI), (y : Int) ≤ m + 1 → m + 1 - y < u → GF mi' 54 (lcN A B) n m x y → Now mi' mr f fb g gb n m A B → (∀ z, z ≠ 54 → mi' z = mi z) → V (RX1, cX1_fillBeginnings, 4, rm 3, false, none, none) Q 0 0 SH mi' mr [some (vr 52), some (vr 1), some (vi x), some (vi y)] [] 15 := by
  have hn := hA.1
  have hm := hB.1
  intro u
  induction u with
  | zero => intro y mi' h1 h2; omega
  | succ u ih =>
    intro y mi' h1 h2 h3 h4 h5
    obtain ⟨⟨u1, u2, hG⟩, ⟨u4, u5, u6⟩, ⟨u7, u8, u9⟩, ⟨u10, u11, u12⟩, -⟩ := h4.u
    refine V_iload_n dX1_fillBeginnings_15 rfl ?_
    refine V_aload_n dX1_fillBeginnings_16 rfl ?_
    refine V_getr 1 _ dX1_fillBeginnings_17 fl_RX1_40 rfl rfl rfl u2 ?_
    refine V_geti 1 dX1_fillBeginnings_20 fl_RX1_34 u7 rfl rfl ?_
    refine V_icmp_gt 97 dX1_fillBeginnings_23 (by decide) (by omega) (by omega) (fun h23 => ?_) (fun h23 => ?_)
    · exact kk mi' _ (fun x' y' g1 g2 g3 => h3 x' y' g1 g2 (by omega)) h4 h5
    · have hy : (y : Int) ≤ m := by omega
      have hs := lc_step hA hB hx hy h3
      have hr := lc_rng hA hB hx hy h3
      have hfin : ∀ v : Int, v = lcN A B x y → V (RX1, cX1_fillBeginnings, 4, rm 3, false, none, none) Q 0 0 SH mi' mr [some (vr 52), some (vr 1), some (vi x), some (vi y)] [vl v, vi y, vi x, vr 53] 88 := by
        intro v hv
        refine V_callV0 dX1_fillBeginnings_88 ml_RX1_47 km_X2_put kv_X2_put (c_X2_put (a := 53) (b := 54) (x := x) (y := y) rfl (hG.at rfl) rfl (by omega) (by omega)) (by first | with_reducible assumption | rfl) rfl rfl rfl (Nat.le_of_ble_eq_true rfl) ⟨Nat.le_of_ble_eq_true rfl, Nat.le_of_ble_eq_true rfl⟩ ⟨Nat.le_of_ble_eq_true rfl, Nat.le_of_ble_eq_true rfl⟩ ?_
        rintro mi2 mr2 ⟨rfl, hq⟩
        rw [if_pos (by omega)] at hq
        refine S_iinc (ls' := [_, _, _, _]) dX1_fillBeginnings_91 rfl ⟨rfl, rfl⟩ rfl ?_
        refine V_goto 15 dX1_fillBeginnings_94 (by decide) ?_
        exact ih (y + 1) mi2 (by omega) (by omega) (by rw [hq]; exact h3.put hm.2 hy hv) (h4.keep (fun z z1 z2 => by rw [hq, up2_n _ _ _ (by omega)])) (fun z hz => by rw [hq, up2_n _ _ _ hz]; exact h5 z hz)
      refine V_aload_n dX1_fillBeginnings_26 rfl ?_
      refine V_getr 0 _ dX1_fillBeginnings_27 fl_RX1_12 rfl rfl rfl (hG.at rfl) ?_
      refine V_iload_n dX1_fillBeginnings_30 rfl ?_
      refine V_iload_n dX1_fillBeginnings_31 rfl ?_
      refine V_aload_n dX1_fillBeginnings_32 rfl ?_
      refine V_iload_n dX1_fillBeginnings_33 rfl ?_
      refine V_iconst dX1_fillBeginnings_34 ?_
      refine V_isub dX1_fillBeginnings_35 ?_
      refine V_iload_n dX1_fillBeginnings_36 rfl ?_
      refine V_iconst dX1_fillBeginnings_37 ?_
      refine V_isub dX1_fillBeginnings_38 ?_
      refine V_callVP dX1_fillBeginnings_39 ml_RX1_71 km_X9_isAlike kv_X9_isAlike (c_X9_isAlike (x := (x : Int) - 1) (y := (y : Int) - 1) h4 (by omega) (by omega)) rfl rfl rfl rfl (Nat.le_of_ble_eq_true rfl) ⟨Nat.le_of_ble_eq_true rfl, Nat.le_of_ble_eq_true rfl⟩ ⟨Nat.le_of_ble_eq_true rfl, Nat.le_of_ble_eq_true rfl⟩ ?_
      by_cases ha : al A B ((x : Int) - 1) ((y : Int) - 1)
      · rw [if_pos ha]
        refine V_if_eq 63 dX1_fillBeginnings_42 (by decide) (by omega) (fun h42 => absurd h42 (by decide)) (fun _ => ?_)
        refine V_aload_n dX1_fillBeginnings_45 rfl ?_
        refine V_getr 0 _ dX1_fillBeginnings_46 fl_RX1_12 (by first | with_reducible assumption | rfl) rfl rfl (by first | with_reducible assumption | exact hG.at rfl) ?_
        refine V_iload_n dX1_fillBeginnings_49 rfl ?_
        refine V_iconst dX1_fillBeginnings_50 ?_
        refine V_isub dX1_fillBeginnings_51 ?_
        refine V_iload_n dX1_fillBeginnings_52 rfl ?_
        refine V_iconst dX1_fillBeginnings_53 ?_
        refine V_isub dX1_fillBeginnings_54 ?_
        refine V_callVP dX1_fillBeginnings_55 ml_RX1_51 km_X2_at kv_X2_at (c_X2_at (a := 53) (b := 54) (x := (x : Int) - 1) (y := (y : Int) - 1) rfl (hG.at rfl) rfl (by omega) (by omega)) (by first | with_reducible assumption | rfl) rfl rfl rfl (Nat.le_of_ble_eq_true rfl) ⟨Nat.le_of_ble_eq_true rfl, Nat.le_of_ble_eq_true rfl⟩ ⟨Nat.le_of_ble_eq_true rfl, Nat.le_of_ble_eq_true rfl⟩ ?_
        refine V_lconst 1 dX1_fillBeginnings_58 rfl ?_
        refine V_ladd dX1_fillBeginnings_59 ?_
        refine V_goto 88 dX1_fillBeginnings_60 (by decide) ?_
        exact hfin _ (hs.1 ha)
      · rw [if_neg ha]
        refine V_if_eq 63 dX1_fillBeginnings_42 (by decide) (by omega) (fun _ => ?_) (fun h42 => absurd h42 (by decide))
        refine V_aload_n dX1_fillBeginnings_63 rfl ?_
        refine V_getr 0 _ dX1_fillBeginnings_64 fl_RX1_12 (by first | with_reducible assumption | rfl) rfl rfl (by first | with_reducible assumption | exact hG.at rfl) ?_
        refine V_iload_n dX1_fillBeginnings_67 rfl ?_
        refine V_iconst dX1_fillBeginnings_68 ?_
        refine V_isub dX1_fillBeginnings_69 ?_
        refine V_iload_n dX1_fillBeginnings_70 rfl ?_
        refine V_callVP dX1_fillBeginnings_71 ml_RX1_51 km_X2_at kv_X2_at (c_X2_at (a := 53) (b := 54) (x := (x : Int) - 1) (y := (y : Int)) rfl (hG.at rfl) rfl (by omega) (by omega)) (by first | with_reducible assumption | rfl) rfl rfl rfl (Nat.le_of_ble_eq_true rfl) ⟨Nat.le_of_ble_eq_true rfl, Nat.le_of_ble_eq_true rfl⟩ ⟨Nat.le_of_ble_eq_true rfl, Nat.le_of_ble_eq_true rfl⟩ ?_
        refine V_aload_n dX1_fillBeginnings_74 rfl ?_
        refine V_getr 0 _ dX1_fillBeginnings_75 fl_RX1_12 (by first | with_reducible assumption | rfl) rfl rfl (by first | with_reducible assumption | exact hG.at rfl) ?_
        refine V_iload_n dX1_fillBeginnings_78 rfl ?_
        refine V_iload_n dX1_fillBeginnings_79 rfl ?_
        refine V_iconst dX1_fillBeginnings_80 ?_
        refine V_isub dX1_fillBeginnings_81 ?_
        refine V_callVP dX1_fillBeginnings_82 ml_RX1_51 km_X2_at kv_X2_at (c_X2_at (a := 53) (b := 54) (x := (x : Int)) (y := (y : Int) - 1) rfl (hG.at rfl) rfl (by omega) (by omega)) (by first | with_reducible assumption | rfl) rfl rfl rfl (Nat.le_of_ble_eq_true rfl) ⟨Nat.le_of_ble_eq_true rfl, Nat.le_of_ble_eq_true rfl⟩ ⟨Nat.le_of_ble_eq_true rfl, Nat.le_of_ble_eq_true rfl⟩ ?_
        refine V_mmaxl dX1_fillBeginnings_85 ml_RX1_75 (by omega) (by omega) ⟨Nat.le_of_ble_eq_true rfl, Nat.le_of_ble_eq_true rfl, Nat.le_of_ble_eq_true rfl, Nat.le_of_ble_eq_true rfl⟩ ?_
        exact hfin _ (hs.2 ha)
set_option maxRecDepth 100000 in
theorem c_X1_fillBeginnings (hN : Now mi mr f fb g gb n m A B) : C0 yX1_fillBeginnings cX1_fillBeginnings 4 none 3 SH mi mr [vr 52, vr 1] (fun mi' mr' => mr' = mr ∧ GF mi' 54 (lcN A B) n m (n.toNat + 1) 0 ∧ ∀ z, z ≠ 54 → mi' z = mi z) := by
  have hA := hN.2.2.2.2.2.2.1
  have hB := hN.2.2.2.2.2.2.2
  have hn := hA.1
  have hm := hB.1
  have loop : ∀ (w x : Nat) (mi' : MI) (o : Option AV), (x : Int) ≤ n + 1 → n + 1 - x < w → GF mi' 54 (lcN A B) n m x 0 → Now mi' mr f fb g gb n m A B → (∀ z, z ≠ 54 → mi' z = mi z) → V (RX1, cX1_fillBeginnings, 4, rm 3, false, none, none) (fun r sh' mi' mr' => sh' = SH ∧ r = none ∧ mr' = mr ∧ GF mi' 54 (lcN A B) n m (n.toNat + 1) 0 ∧ ∀ z, z ≠ 54 → mi' z = mi z) 0 0 SH mi' mr [some (vr 52), some (vr 1), some (vi x), o] [] 2 := by
    intro w
    induction w with
    | zero => intro x mi' o h1 h2; omega
    | succ w ih =>
      intro x mi' o h1 h2 h3 h4 h5
      obtain ⟨⟨u1, u2, hG⟩, ⟨u4, u5, u6⟩, ⟨u7, u8, u9⟩, ⟨u10, u11, u12⟩, -⟩ := h4.u
      refine V_iload_n dX1_fillBeginnings_2 rfl ?_
      refine V_aload_n dX1_fillBeginnings_3 rfl ?_
      refine V_getr 0 _ dX1_fillBeginnings_4 fl_RX1_28 (by first | with_reducible assumption | rfl) rfl rfl (by first | with_reducible assumption | exact hG.at rfl) ?_
      refine V_geti 1 dX1_fillBeginnings_7 fl_RX1_34 (by first | with_reducible assumption | rfl) rfl rfl ?_
      refine V_icmp_gt 103 dX1_fillBeginnings_10 (by decide) (by omega) (by omega) (fun h10 => ?_) (fun h10 => ?_)
      · refine V_vret dX1_fillBeginnings_103 rfl ⟨Nat.le_of_ble_eq_true rfl, Nat.le_of_ble_eq_true rfl⟩ ?_
        exact ⟨rfl, rfl, rfl, by rw [show n.toNat + 1 = x by omega]; exact h3, h5⟩
      · refine V_iconst dX1_fillBeginnings_13 ?_
        refine S_istore_n (ls' := [_, _, _, _]) dX1_fillBeginnings_14 ⟨Nat.le_of_ble_eq_true rfl, rfl, rfl⟩ rfl ?_
        refine l_X1_fillBeginnings (mi := mi') hA hB x (by omega) (fun mi2 o g1 g2 g3 => ?_) (m.toNat + 2) 0 mi' (by omega) (by omega) h3 h4 (fun _ _ => rfl)
        refine S_iinc (ls' := [_, _, _, _]) dX1_fillBeginnings_97 rfl ⟨rfl, rfl⟩ rfl ?_
        refine V_goto 2 dX1_fillBeginnings_100 (by decide) ?_
        exact ih (x + 1) mi2 _ (by omega) (by omega) g1 g2 (fun z hz => by rw [g3 z hz, h5 z hz])
  refine Ct.ofV (ini := false) [some (vr 52), some (vr 1), none, none] km_X1_fillBeginnings (by decide) rfl (Nat.le_of_ble_eq_true rfl) ?_
  refine V_iconst dX1_fillBeginnings_0 ?_
  refine S_istore_n (ls' := [_, _, _, _]) dX1_fillBeginnings_1 ⟨Nat.le_of_ble_eq_true rfl, rfl, rfl⟩ rfl ?_
  exact loop (n.toNat + 2) 0 mi none (by omega) (by omega) (fun x' y' g1 g2 g3 => by omega) hN (fun _ _ => rfl)
end COMMONS
