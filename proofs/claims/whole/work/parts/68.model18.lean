/-! ===== DiagonalTextsModel: the best change ===== -/
theorem lcN_ys (A B : Int → Int) (x : Nat) (y : Nat) : ∀ j : Nat, lcN A B x y ≤ lcN A B x (y + j)
  | 0 => Int.le_refl _
  | j + 1 => by
    have h1 := lcN_ys A B x y j
    have h2 := (lcN_st A B (x + (y + j)) x (y + j) (by omega)).2.1
    rw [← Nat.add_assoc]
    omega
theorem lcN_ym (A B : Int → Int) (x : Nat) {y y' : Nat} (h : y ≤ y') : lcN A B x y ≤ lcN A B x y' := by
  have := lcN_ys A B x y (y' - y)
  rw [show y + (y' - y) = y' by omega] at this
  exact this
theorem lcN_xs (A B : Int → Int) (x : Nat) (y : Nat) : ∀ j : Nat, lcN A B x y ≤ lcN A B (x + j) y
  | 0 => Int.le_refl _
  | j + 1 => by
    have h1 := lcN_xs A B x y j
    have h2 := (lcN_st A B (x + j + y) (x + j) y (by omega)).1.1
    rw [← Nat.add_assoc]
    omega
theorem lcN_xm (A B : Int → Int) {x x' : Nat} (y : Nat) (h : x ≤ x') : lcN A B x y ≤ lcN A B x' y := by
  have := lcN_xs A B x y (x' - x)
  rw [show x + (x' - x) = x' by omega] at this
  exact this
abbrev rvF (A : Int → Int) (n : Int) : Int → Int := fun i => A (n - (i + 1))
theorem leN_eq (A B : Int → Int) (n m : Int) : ∀ i j : Nat, leN A B n m i j = lcN (rvF A n) (rvF B m) i j
  | 0, _ => rfl
  | i + 1, 0 => by rw [leN_x0, lcN_x0]
  | i + 1, j + 1 => by
    rw [leN_s, lcN_s, leN_eq A B n m i j, leN_eq A B n m i (j + 1), leN_eq A B n m (i + 1) j]
/-- kept letters of a beginning: without the last letter, or with it -/
theorem lcN_last (A B : Int → Int) (x : Nat) : ∀ y : Nat, lcN A B (x + 1) y = lcN A B x y ∨ ∃ y1 : Nat, y1 < y ∧ al A B x y1 ∧ lcN A B (x + 1) y = lcN A B x y1 + 1
  | 0 => Or.inl (by rw [lcN_x0, lcN_x0])
  | y + 1 => by
    rw [lcN_s]
    by_cases ha : al A B x y
    · rw [if_pos ha]
      exact Or.inr ⟨y, by omega, ha, rfl⟩
    · rw [if_neg ha]
      have hm := lcN_ym A B x (show y ≤ y + 1 by omega)
      by_cases hc : lcN A B (x + 1) y ≤ lcN A B x (y + 1)
      · exact Or.inl (by omega)
      · rcases lcN_last A B x y with h | ⟨y1, h1, h2, h3⟩
        · exact Or.inl (by omega)
        · exact Or.inr ⟨y1, by omega, h2, by omega⟩
theorem lcN_cong {A A' : Int → Int} (B : Int → Int) : ∀ x y : Nat, (∀ i : Nat, i < x → A' i = A i) → lcN A' B x y = lcN A B x y
  | 0, _, _ => rfl
  | x + 1, 0, _ => by rw [lcN_x0, lcN_x0]
  | x + 1, y + 1, h => by
    rw [lcN_s, lcN_s, lcN_cong B x y (fun i hi => h i (by omega)), lcN_cong B x (y + 1) (fun i hi => h i (by omega)), lcN_cong B (x + 1) y h]
    unfold al
    rw [h x (by omega)]
section LCS
variable {A B : Int → Int} {n m : Int}
/-- kept letters of a beginning and of the end behind it -/
theorem lc_cat : ∀ (i j : Nat) (x y : Nat), (x : Int) + i = n → (y : Int) + j = m → lcN A B x y + leN A B n m i j ≤ lcN A B n.toNat m.toNat
  | 0, j, x, y, hx, hy => by
    have h1 := lcN_ym A B x (show y ≤ m.toNat by omega)
    rw [show n.toNat = x by omega]
    show lcN A B x y + 0 ≤ _
    omega
  | i + 1, 0, x, y, hx, hy => by
    have h1 := lcN_xm A B y (show x ≤ n.toNat by omega)
    rw [leN_x0, show m.toNat = y by omega]
    omega
  | i + 1, j + 1, x, y, hx, hy => by
    have i1 := lc_cat i j (x + 1) (y + 1) (by omega) (by omega)
    have i2 := lc_cat i (j + 1) (x + 1) y (by omega) (by omega)
    have i3 := lc_cat (i + 1) j x (y + 1) (by omega) (by omega)
    have m1 := lcN_xm A B y (show x ≤ x + 1 by omega)
    have m2 := lcN_ym A B x (show y ≤ y + 1 by omega)
    have ls := lcN_s A B x y
    rw [leN_s]
    rw [show n - ((i : Int) + 1) = x by omega, show m - ((j : Int) + 1) = y by omega]
    by_cases ha : al A B x y
    · rw [if_pos ha] at ls ⊢
      omega
    · rw [if_neg ha] at ls ⊢
      omega
/-- a best script is split at each place -/
theorem lc_split : ∀ (i x : Nat), (x : Int) + i = n → 0 ≤ m → ∃ y j : Nat, (y : Int) + j = m ∧ lcN A B n.toNat m.toNat ≤ lcN A B x y + leN A B n m i j
  | 0, x, hx, hm => ⟨m.toNat, 0, by omega, by rw [show n.toNat = x by omega, leN_x0]; omega⟩
  | i + 1, x, hx, hm => by
    obtain ⟨y, j, h1, h2⟩ := lc_split i (x + 1) (by omega) hm
    rcases lcN_last A B x y with h | ⟨y1, g1, g2, g3⟩
    · refine ⟨y, j, h1, ?_⟩
      have : leN A B n m i j ≤ leN A B n m (i + 1) j := by rw [leN_eq, leN_eq]; exact lcN_xm _ _ j (by omega)
      omega
    · obtain ⟨j1, hj1⟩ : ∃ j1 : Nat, (y1 : Int) + ((j1 + 1 : Nat) : Int) = m := ⟨(m - y1 - 1).toNat, by omega⟩
      refine ⟨y1, j1 + 1, hj1, ?_⟩
      have e : leN A B n m (i + 1) (j1 + 1) = leN A B n m i j1 + 1 := by
        rw [leN_s, show n - ((i : Int) + 1) = x by omega, show m - ((j1 : Int) + 1) = y1 by omega, if_pos g2]
      have : leN A B n m i j ≤ leN A B n m i j1 := by rw [leN_eq, leN_eq]; exact lcN_ym _ _ i (by omega)
      omega
theorem leI_nat {x y : Int} {i j : Nat} (hx : x + i = n) (hy : y + j = m) : leI A B n m x y = leN A B n m i j := by
  unfold leI
  rw [show (n - x).toNat = i by omega, show (m - y).toNat = j by omega]
theorem cw_ge (p : Nat) (v : Int) {y1 : Nat} (hv : B y1 = v) : ∀ y : Nat, y1 < y → lcN A B p y1 + 1 + leI A B n m (p + 1) (y1 + 1) ≤ cwN A B n m p v y
  | 0, h => by omega
  | y + 1, h => by
    simp only [cwN]
    by_cases he : y1 = y
    · subst he
      rw [if_pos hv]
      omega
    · have ih := cw_ge p v hv y (by omega)
      split <;> omega
theorem cw_ex (p : Nat) (v : Int) : ∀ y : Nat, cwN A B n m p v y = 0 ∨ ∃ y1 : Nat, y1 < y ∧ B y1 = v ∧ cwN A B n m p v y = lcN A B p y1 + 1 + leI A B n m (p + 1) (y1 + 1)
  | 0 => Or.inl rfl
  | y + 1 => by
    have ih := cw_ex p v y
    simp only [cwN]
    by_cases hv : B y = v
    · rw [if_pos hv]
      by_cases hc : cwN A B n m p v y ≤ lcN A B p y + 1 + leI A B n m (p + 1) (y + 1)
      · exact Or.inr ⟨y, by omega, hv, by omega⟩
      · rcases ih with h | ⟨y1, h1, h2, h3⟩
        · exact Or.inl (by omega)
        · exact Or.inr ⟨y1, by omega, h2, by omega⟩
    · rw [if_neg hv]
      rcases ih with h | ⟨y1, h1, h2, h3⟩
      · exact Or.inl h
      · exact Or.inr ⟨y1, by omega, h2, h3⟩
/-- the rows with one letter changed -/
theorem lc_fset {p : Nat} {v : Int} (hp : (p : Int) < n) (hm : 0 ≤ m) (hv : 0 ≤ v) : cwN A B n m p v m.toNat ≤ lcN (fset A p v) B n.toNat m.toNat ∧ (lcN (fset A p v) B n.toNat m.toNat ≤ lcN A B n.toNat m.toNat ∨ lcN (fset A p v) B n.toNat m.toNat ≤ cwN A B n m p v m.toNat) := by
  have efp : fset A p v p = v := by unfold fset; rw [if_pos rfl]
  have ef : ∀ i : Int, i ≠ p → fset A p v i = A i := fun i hi => by unfold fset; rw [if_neg hi]
  have e1 : ∀ y : Nat, lcN (fset A p v) B p y = lcN A B p y := fun y => lcN_cong B p y (fun i hi => ef i (by omega))
  have e2 : ∀ (i j : Nat), (p : Int) + 1 + i ≤ n → leN (fset A p v) B n m i j = leN A B n m i j := fun i j hi => by
    rw [leN_eq, leN_eq]
    exact lcN_cong _ i j (fun k hk => ef _ (by omega))
  have hal : ∀ y : Nat, al (fset A p v) B p y ↔ B y = v := fun y => by
    unfold al
    rw [efp]
    constructor
    · intro h; omega
    · intro h; omega
  obtain ⟨i, hi⟩ : ∃ i : Nat, (p : Int) + 1 + i = n := ⟨(n - p - 1).toNat, by omega⟩
  constructor
  · rcases cw_ex (A := A) (B := B) (n := n) (m := m) p v m.toNat with h | ⟨y1, h1, h2, h3⟩
    · rw [h]; exact (lcN_r (fset A p v) B n.toNat m.toNat).1
    · obtain ⟨j, hj⟩ : ∃ j : Nat, (y1 : Int) + 1 + j = m := ⟨(m - y1 - 1).toNat, by omega⟩
      have hc := lc_cat (A := fset A p v) (B := B) (n := n) (m := m) i j (p + 1) (y1 + 1) (by omega) (by omega)
      rw [lcN_s, if_pos ((hal y1).mpr h2), e1, e2 i j (by omega)] at hc
      rw [h3, leI_nat hi hj]
      exact hc
  · obtain ⟨y, j, hy, hs⟩ := lc_split (A := fset A p v) (B := B) (n := n) (m := m) i (p + 1) (by omega) hm
    rw [e2 i j (by omega)] at hs
    rcases lcN_last (fset A p v) B p y with h | ⟨y1, h1, h2, h3⟩
    · left
      have hc := lc_cat (A := A) (B := B) (n := n) (m := m) i j (p + 1) y (by omega) hy
      have := lcN_xm A B y (show p ≤ p + 1 by omega)
      rw [h, e1] at hs
      omega
    · right
      have hg := cw_ge (A := A) (n := n) (m := m) p v ((hal y1).mp h2) m.toNat (by omega)
      obtain ⟨j1, hj1⟩ : ∃ j1 : Nat, (y1 : Int) + 1 + j1 = m := ⟨(m - y1 - 1).toNat, by omega⟩
      rw [leI_nat hi hj1] at hg
      have : leN A B n m i j ≤ leN A B n m i j1 := by rw [leN_eq, leN_eq]; exact lcN_ym _ _ i (by omega)
      rw [h3, e1] at hs
      omega
/-- what is kept with one letter changed -/
def lcF (A B : Int → Int) (n m : Int) : Nat → Int → Int := fun p v => lcN (fset A p v) B n.toNat m.toNat
theorem bRow_eq {p : Nat} (hp : (p : Int) < n) (hm : 0 ≤ m) (s : Int × Int × Int) (hs : lcN A B n.toNat m.toNat ≤ s.2.2) : ∀ v : Nat, bRow (lcF A B n m) p s v = bRow (cwF A B n m) p s v ∧ lcN A B n.toNat m.toNat ≤ (bRow (cwF A B n m) p s v).2.2
  | 0 => ⟨rfl, hs⟩
  | v + 1 => by
    obtain ⟨h1, h2⟩ := bRow_eq hp hm s hs v
    obtain ⟨g1, g2⟩ := lc_fset (A := A) (B := B) (v := (v : Int)) hp hm (by omega)
    have e1 : lcF A B n m p v = lcN (fset A p v) B n.toNat m.toNat := rfl
    have e2 : cwF A B n m p v = cwN A B n m p v m.toNat := rfl
    simp only [bRow]
    rw [h1]
    by_cases hc : (bRow (cwF A B n m) p s v).2.2 < cwF A B n m p v
    · have e : lcF A B n m p v = cwF A B n m p v := by omega
      rw [if_pos hc, if_pos (by omega), e]
      exact ⟨rfl, by simp only; omega⟩
    · rw [if_neg hc, if_neg (by omega)]
      exact ⟨rfl, h2⟩
theorem bAll_eq (hm : 0 ≤ m) (s : Int × Int × Int) (hs : lcN A B n.toNat m.toNat ≤ s.2.2) : ∀ k : Nat, (k : Int) ≤ n → bAll (lcF A B n m) s k = bAll (cwF A B n m) s k ∧ lcN A B n.toNat m.toNat ≤ (bAll (cwF A B n m) s k).2.2
  | 0, _ => ⟨rfl, hs⟩
  | k + 1, hk => by
    obtain ⟨h1, h2⟩ := bAll_eq hm s hs k (by omega)
    simp only [bAll]
    rw [h1]
    exact bRow_eq (by omega) hm _ h2 8
theorem bRow_n (c : Nat → Int → Int) (p : Nat) (s : Int × Int × Int) (hs : (s.1 = -1 ∧ s.2.1 = -1) ∨ (0 ≤ s.1 ∧ 0 ≤ s.2.1)) : ∀ v : Nat, ((bRow c p s v).1 = -1 ∧ (bRow c p s v).2.1 = -1) ∨ (0 ≤ (bRow c p s v).1 ∧ 0 ≤ (bRow c p s v).2.1)
  | 0 => hs
  | v + 1 => by
    have := bRow_n c p s hs v
    simp only [bRow]
    split
    · right; simp only; omega
    · exact this
theorem bAll_n (c : Nat → Int → Int) (s : Int × Int × Int) (hs : (s.1 = -1 ∧ s.2.1 = -1) ∨ (0 ≤ s.1 ∧ 0 ≤ s.2.1)) : ∀ k : Nat, ((bAll c s k).1 = -1 ∧ (bAll c s k).2.1 = -1) ∨ (0 ≤ (bAll c s k).1 ∧ 0 ≤ (bAll c s k).2.1)
  | 0 => hs
  | k + 1 => bRow_n c k _ (bAll_n c s hs k) 8
end LCS
/-- what bestChange keeps of the best: its number -/
def fnd (t : Int × Int × Int) : Int := if t.1 = -1 then -1000004 else 8 * t.1 + t.2.1
section MODEL18
variable {mi mi1 mi2 mi3 mi4 : MI} {mr : MR} {n m n' m' tl D : Int} {A B A' B' Z T : Int → Int} {hs hs' : List St} {u : Int × (Int → Int)} {σ : St}
set_option maxRecDepth 100000 in
set_option maxHeartbeats 1000000 in
theorem l_X11_bestChange {Q : PQ} {w had : Int} {p : Nat} (hG : Gr mr) (hR : RowM (mi 63) (n, m, A, B, Z)) (hA : NR n A) (hB : NR m B) (hp : (p : Int) < n) (s : Int × Int × Int) (hs : -1 ≤ s.2.2 ∧ s.2.2 ≤ 100) (hf : -1000004 ≤ fnd s ∧ fnd s ≤ 1000)
    (kk : ∀ (mi' : MI) (o7 : Option AV), (∀ i, i ≠ 5 + (p : Int) → mi' 63 i = mi 63 i) → (∀ z, z ≠ 63 → z ≠ 69 → z ≠ 70 → mi' z = mi z) → V (RX11, cX11_bestChange, 8, rm 3, false, none, (some .int)) Q 0 0 SH mi' mr [some (vr 62), some (vi w), some (vi (n + m - 2 * (bRow (lcF A B n m) p s 8).2.2)), some (vi (fnd (bRow (lcF A B n m) p s 8))), some (vi p), some (vi had), some (vi 8), o7] [] 108) :
    ∀ (t v : Nat) (mi' : MI) (o7 : Option AV), v ≤ 8 → 8 - v < t → (∀ i, i ≠ 5 + (p : Int) → mi' 63 i = mi 63 i) → (∀ z, z ≠ 63 → z ≠ 69 → z ≠ 70 → mi' z = mi z) → V (RX11, cX11_bestChange, 8, rm 3, false, none, (some .int)) Q 0 0 SH mi' mr [some (vr 62), some (vi w), some (vi (n + m - 2 * (bRow (lcF A B n m) p s v).2.2)), some (vi (fnd (bRow (lcF A B n m) p s v))), some (vi p), some (vi had), some (vi v), o7] [] 46 := by
  have hn := hA.1
  have hm := hB.1
  have hcr : ∀ v : Nat, 0 ≤ lcF A B n m p v ∧ lcF A B n m p v ≤ 100 := fun v => by
    have := lcN_r (fset A p v) B n.toNat m.toNat
    unfold lcF
    omega
  have hfr : ∀ v : Nat, v ≤ 8 → -1000004 ≤ fnd (bRow (lcF A B n m) p s v) ∧ fnd (bRow (lcF A B n m) p s v) ≤ 1000 := by
    intro v
    induction v with
    | zero => intro _; exact hf
    | succ v ih =>
      intro hv
      have := ih (by omega)
      simp only [bRow]
      split
      · unfold fnd
        simp only
        split <;> omega
      · exact this
  intro t
  induction t with
  | zero => intro v mi' o7 a1 a2; omega
  | succ t ih =>
    intro v mi' o7 a1 a2 a3 a4
    have hb := bRow_r (lcF A B n m) p s hs hcr v
    have hf0 := hfr v a1
    by_cases hend : 8 ≤ v
    · have e8 : v = 8 := by omega
      subst e8
      refine V_iload dX11_bestChange_46 rfl ?_
      refine V_bipush dX11_bestChange_48 (by decide) ?_
      refine V_icmp_ge 108 dX11_bestChange_50 (by decide) (by omega) (by omega) (fun _ => ?_) (fun h50 => absurd h50 ((by omega)))
      exact kk mi' o7 a3 a4
    · have hrow : RowM (up2 mi' 63 (5 + (p : Int)) v 63) (n, m, fset A p v, B, Z) := by
        refine (hR.chg0 (p := p) (l := v) hn.2 ⟨by omega, hp⟩).eq ⟨hn.2, hm.2⟩ (fun k k1 k2 => ?_)
        rw [up2_s]
        unfold up1
        by_cases hk : k = 5 + (p : Int)
        · rw [if_pos hk, if_pos hk]
        · rw [if_neg hk, if_neg hk, a3 k hk]
      have hgo := fun (mi2 : MI) (h1 : ∀ z, z ≠ 69 → z ≠ 70 → mi2 z = up2 mi' 63 (5 + (p : Int)) v z) (o7 : Option AV) => ih (v + 1) mi2 o7 (by omega) (by omega) (fun i hi => by rw [h1 63 (by decide) (by decide), up2_sn _ _ _ hi]; exact a3 i hi) (fun z z1 z2 z3 => by rw [h1 z z2 z3, up2_n _ _ _ z1]; exact a4 z z1 z2 z3)
      have e1 : lcF A B n m p v = lcN (fset A p v) B n.toNat m.toNat := rfl
      have hc := hcr v
      simp only [bRow] at hgo
      rw [show ((v + 1 : Nat) : Int) = (v : Int) + 1 by omega] at hgo
      generalize bRow (lcF A B n m) p s v = q at *
      by_cases hlt : q.2.2 < lcF A B n m p v
      · rw [if_pos hlt] at hgo
        rw [show fnd ((p : Int), (v : Int), lcF A B n m p v) = 8 * (p : Int) + v by unfold fnd; rw [if_neg (by simp only; omega)]] at hgo
        simp only at hgo
        refine V_iload dX11_bestChange_46 rfl ?_
        refine V_bipush dX11_bestChange_48 (by decide) ?_
        refine V_icmp_ge 108 dX11_bestChange_50 (by decide) (by omega) (by omega) (fun h50 => absurd h50 ((by omega))) (fun _ => ?_)
        refine V_aload_n dX11_bestChange_53 rfl ?_
        refine V_getr 0 _ dX11_bestChange_54 fl_RX11_7 (by first | with_reducible assumption | rfl) rfl rfl (by first | with_reducible assumption | exact hG.at rfl) ?_
        refine V_iconst dX11_bestChange_57 ?_
        refine V_iload dX11_bestChange_58 rfl ?_
        refine V_iadd dX11_bestChange_60 ?_
        refine V_iload dX11_bestChange_61 rfl ?_
        refine V_iast dX11_bestChange_63 (by first | with_reducible assumption | rfl) (by decide) (by omega) ?_
        refine V_aload_n dX11_bestChange_64 rfl ?_
        refine V_callV1 dX11_bestChange_65 ml_RX11_122 km_X11_counts kv_X11_counts (c_X11_counts hG hrow (NR.chg (n := n) (A := A) hA ⟨by omega, hp⟩ ⟨by omega, by omega⟩) hB) (by first | with_reducible assumption | rfl) rfl rfl rfl (Nat.le_of_ble_eq_true rfl) ⟨Nat.le_of_ble_eq_true rfl, Nat.le_of_ble_eq_true rfl⟩ ⟨Nat.le_of_ble_eq_true rfl, Nat.le_of_ble_eq_true rfl⟩ ?_
        rintro d mi2 mr2 ⟨rfl, rfl, k1, k2⟩
        rw [← e1]
        refine S_istore (ls' := [_, _, _, _, _, _, _, _]) dX11_bestChange_68 ⟨Nat.le_of_ble_eq_true rfl, rfl, rfl⟩ rfl ?_
        refine V_iload dX11_bestChange_70 rfl ?_
        refine V_iload_n dX11_bestChange_72 rfl ?_
        refine V_icmp_ge 87 dX11_bestChange_73 (by decide) (by omega) (by omega) (fun h73 => absurd h73 ((by omega))) (fun _ => ?_)
        refine V_bipush dX11_bestChange_76 (by decide) ?_
        refine V_iload dX11_bestChange_78 rfl ?_
        refine V_imul dX11_bestChange_80 ?_
        refine V_iload dX11_bestChange_81 rfl ?_
        refine V_iadd dX11_bestChange_83 ?_
        refine V_goto 88 dX11_bestChange_84 (by decide) ?_
        refine S_istore_n (ls' := [_, _, _, _, _, _, _, _]) dX11_bestChange_88 ⟨Nat.le_of_ble_eq_true rfl, rfl, rfl⟩ rfl ?_
        refine V_iload dX11_bestChange_89 rfl ?_
        refine V_iload_n dX11_bestChange_91 rfl ?_
        refine V_icmp_ge 100 dX11_bestChange_92 (by decide) (by omega) (by omega) (fun h92 => absurd h92 ((by omega))) (fun _ => ?_)
        refine V_iload dX11_bestChange_95 rfl ?_
        refine V_goto 101 dX11_bestChange_97 (by decide) ?_
        refine S_istore_n (ls' := [_, _, _, _, _, _, _, _]) dX11_bestChange_101 ⟨Nat.le_of_ble_eq_true rfl, rfl, rfl⟩ rfl ?_
        refine S_iinc (ls' := [_, _, _, _, _, _, _, _]) dX11_bestChange_102 rfl ⟨rfl, rfl⟩ rfl ?_
        refine V_goto 46 dX11_bestChange_105 (by decide) ?_
        exact hgo mi2 k2 _
      · rw [if_neg hlt] at hgo
        refine V_iload dX11_bestChange_46 rfl ?_
        refine V_bipush dX11_bestChange_48 (by decide) ?_
        refine V_icmp_ge 108 dX11_bestChange_50 (by decide) (by omega) (by omega) (fun h50 => absurd h50 ((by omega))) (fun _ => ?_)
        refine V_aload_n dX11_bestChange_53 rfl ?_
        refine V_getr 0 _ dX11_bestChange_54 fl_RX11_7 (by first | with_reducible assumption | rfl) rfl rfl (by first | with_reducible assumption | exact hG.at rfl) ?_
        refine V_iconst dX11_bestChange_57 ?_
        refine V_iload dX11_bestChange_58 rfl ?_
        refine V_iadd dX11_bestChange_60 ?_
        refine V_iload dX11_bestChange_61 rfl ?_
        refine V_iast dX11_bestChange_63 (by first | with_reducible assumption | rfl) (by decide) (by omega) ?_
        refine V_aload_n dX11_bestChange_64 rfl ?_
        refine V_callV1 dX11_bestChange_65 ml_RX11_122 km_X11_counts kv_X11_counts (c_X11_counts hG hrow (NR.chg (n := n) (A := A) hA ⟨by omega, hp⟩ ⟨by omega, by omega⟩) hB) (by first | with_reducible assumption | rfl) rfl rfl rfl (Nat.le_of_ble_eq_true rfl) ⟨Nat.le_of_ble_eq_true rfl, Nat.le_of_ble_eq_true rfl⟩ ⟨Nat.le_of_ble_eq_true rfl, Nat.le_of_ble_eq_true rfl⟩ ?_
        rintro d mi2 mr2 ⟨rfl, rfl, k1, k2⟩
        rw [← e1]
        refine S_istore (ls' := [_, _, _, _, _, _, _, _]) dX11_bestChange_68 ⟨Nat.le_of_ble_eq_true rfl, rfl, rfl⟩ rfl ?_
        refine V_iload dX11_bestChange_70 rfl ?_
        refine V_iload_n dX11_bestChange_72 rfl ?_
        refine V_icmp_ge 87 dX11_bestChange_73 (by decide) (by omega) (by omega) (fun _ => ?_) (fun h73 => absurd h73 ((by omega)))
        refine V_iload_n dX11_bestChange_87 rfl ?_
        refine S_istore_n (ls' := [_, _, _, _, _, _, _, _]) dX11_bestChange_88 ⟨Nat.le_of_ble_eq_true rfl, rfl, rfl⟩ rfl ?_
        refine V_iload dX11_bestChange_89 rfl ?_
        refine V_iload_n dX11_bestChange_91 rfl ?_
        refine V_icmp_ge 100 dX11_bestChange_92 (by decide) (by omega) (by omega) (fun _ => ?_) (fun h92 => absurd h92 ((by omega)))
        refine V_iload_n dX11_bestChange_100 rfl ?_
        refine S_istore_n (ls' := [_, _, _, _, _, _, _, _]) dX11_bestChange_101 ⟨Nat.le_of_ble_eq_true rfl, rfl, rfl⟩ rfl ?_
        refine S_iinc (ls' := [_, _, _, _, _, _, _, _]) dX11_bestChange_102 rfl ⟨rfl, rfl⟩ rfl ?_
        refine V_goto 46 dX11_bestChange_105 (by decide) ?_
        exact hgo mi2 k2 _
set_option maxRecDepth 100000 in
set_option maxHeartbeats 1000000 in
theorem c_X11_bestChange {w : Int} (hG : Gr mr) (hw : rng w) (h : RepM mi ((n, m, A, B, Z), hs, tl, T)) : C1 yX11_bestChange cX11_bestChange 8 (some .int) 3 SH mi mr [vr 62, vi w] (PoM (opBest n m A B Z (hs, tl, T) w) mi mr) := by
  have hR := h.1
  have hS := h.2.1
  have hA : NR n A := hS.1
  have hB : NR m B := hS.2.1
  have hn := hA.1
  have hm := hB.1
  simp only at hR
  have hl0 := lcN_r A B n.toNat m.toNat
  have ebst : bst A B n m = bAll (lcF A B n m) (-1, -1, lcN A B n.toNat m.toNat) n.toNat := (bAll_eq hm.1 _ (Int.le_refl _) n.toNat (by omega)).1.symm
  have hcr : ∀ (p v : Nat), 0 ≤ lcF A B n m p v ∧ lcF A B n m p v ≤ 100 := fun p v => by
    have := lcN_r (fset A p v) B n.toNat m.toNat
    unfold lcF
    omega
  have hbr : ∀ k : Nat, -1 ≤ (bAll (lcF A B n m) (-1, -1, lcN A B n.toNat m.toNat) k).2.2 ∧ (bAll (lcF A B n m) (-1, -1, lcN A B n.toNat m.toNat) k).2.2 ≤ 100 := fun k => bAll_r _ _ (by simp only; omega) k (fun p v _ => hcr p v) k (Nat.le_refl _)
  have hbn := bAll_n (lcF A B n m) (-1, -1, lcN A B n.toNat m.toNat) (Or.inl ⟨rfl, rfl⟩)
  have hbb := bAll_b (lcF A B n m) (-1, -1, lcN A B n.toNat m.toNat) ⟨rfl, rfl⟩
  have hfr : ∀ k : Nat, (k : Int) ≤ n → -1000004 ≤ fnd (bAll (lcF A B n m) (-1, -1, lcN A B n.toNat m.toNat) k) ∧ fnd (bAll (lcF A B n m) (-1, -1, lcN A B n.toNat m.toNat) k) ≤ 1000 := fun k hk => by
    have h1 := hbn k
    have h2 := hbb k
    unfold fnd
    split <;> omega
  refine Ct.ofV (ini := false) [some (vr 62), some (vi w), none, none, none, none, none, none] km_X11_bestChange (by decide) rfl (Nat.le_of_ble_eq_true rfl) ?_
  by_cases hin : 0 ≤ w ∧ w ≤ 2
  · have eo : opBest n m A B Z (hs, tl, T) w = (if (bst A B n m).1 = -1 then -1000004 else if w = 0 then (bst A B n m).1 else if w = 1 then (bst A B n m).2.1 else n + m - 2 * (bst A B n m).2.2, (n, m, A, B, Z), hs, tl, T) := by unfold opBest; rw [if_neg (not_not_intro hin)]
    rw [eo, ebst]
    have e1 : (if 0 ≤ w ∧ w ≤ 2 then (1 : Int) else 0) = 1 := if_pos hin
    have loop : ∀ (t p : Nat) (mi' : MI) (o5 o6 o7 : Option AV), (p : Int) ≤ n → n - p < t → (∀ i, 0 ≤ i → i < 61 → mi' 63 i = mi 63 i) → (∀ z, z ≠ 63 → z ≠ 69 → z ≠ 70 → mi' z = mi z) → V (RX11, cX11_bestChange, 8, rm 3, false, none, (some .int)) (fun r sh' mi' mr' => sh' = SH ∧ ∃ v, r = some v ∧ PoM (if (bAll (lcF A B n m) (-1, -1, lcN A B n.toNat m.toNat) n.toNat).1 = -1 then -1000004 else if w = 0 then (bAll (lcF A B n m) (-1, -1, lcN A B n.toNat m.toNat) n.toNat).1 else if w = 1 then (bAll (lcF A B n m) (-1, -1, lcN A B n.toNat m.toNat) n.toNat).2.1 else n + m - 2 * (bAll (lcF A B n m) (-1, -1, lcN A B n.toNat m.toNat) n.toNat).2.2, (n, m, A, B, Z), hs, tl, T) mi mr v mi' mr') 0 0 SH mi' mr [some (vr 62), some (vi w), some (vi (n + m - 2 * (bAll (lcF A B n m) (-1, -1, lcN A B n.toNat m.toNat) p).2.2)), some (vi (fnd (bAll (lcF A B n m) (-1, -1, lcN A B n.toNat m.toNat) p))), some (vi p), o5, o6, o7] [] 23 := by
      intro t
      induction t with
      | zero => intro p mi' o5 o6 o7 a1 a2; omega
      | succ t ih =>
        intro p mi' o5 o6 o7 a1 a2 a3 a4
        have hR' : RowM (mi' 63) (n, m, A, B, Z) := hR.eq ⟨hn.2, hm.2⟩ a3
        have q0 : mi' 63 0 = n := hR'.1.1
        have h1 := hbn p
        have h2 := hbb p
        have h3 := hfr p a1
        have h4 := hbr p
        by_cases hend : n ≤ p
        · have ep : p = n.toNat := by omega
          have hfin : RepM mi' ((n, m, A, B, Z), hs, tl, T) ∧ ∀ x, x < 62 → mi' x = mi x := ⟨⟨hR', h.2.1, h.2.2.1.keep (by rw [a4 62 (by decide) (by decide) (by decide)]) (by rw [a4 64 (by decide) (by decide) (by decide)]), h.2.2.2.keep (by rw [a4 62 (by decide) (by decide) (by decide)]) (by rw [a4 66 (by decide) (by decide) (by decide)])⟩, fun x hx => a4 x (by omega) (by omega) (by omega)⟩
          subst ep
          generalize bAll (lcF A B n m) (-1, -1, lcN A B n.toNat m.toNat) n.toNat = q at *
          by_cases hq : q.1 = -1
          · have ef : fnd q = -1000004 := if_pos hq
            rw [ef]
            refine V_iload dX11_bestChange_23 rfl ?_
            refine V_aload_n dX11_bestChange_25 rfl ?_
            refine V_getr 0 _ dX11_bestChange_26 fl_RX11_7 (by first | with_reducible assumption | rfl) rfl rfl (by first | with_reducible assumption | exact hG.at rfl) ?_
            refine V_iconst dX11_bestChange_29 ?_
            refine V_iald dX11_bestChange_30 (by first | with_reducible assumption | rfl) (by decide) (by omega) ?_
            rw [q0]
            refine V_icmp_ge 125 dX11_bestChange_31 (by decide) (by omega) (by omega) (fun _ => ?_) (fun h31 => absurd h31 ((by omega)))
            refine V_iload_n dX11_bestChange_125 rfl ?_
            refine V_if_ge 134 dX11_bestChange_126 (by decide) (by omega) (fun h126 => absurd h126 ((by decide))) (fun _ => ?_)
            refine V_ldc (-1000004) dX11_bestChange_129 kc_RX11_70 rfl ?_
            refine V_goto 158 dX11_bestChange_131 (by decide) ?_
            refine V_iret dX11_bestChange_158 rfl ⟨Nat.le_of_ble_eq_true rfl, Nat.le_of_ble_eq_true rfl⟩ ?_
            exact ⟨rfl, _, rfl, by rw [if_pos hq], rfl, hfin⟩
          · have ef : fnd q = 8 * q.1 + q.2.1 := if_neg hq
            rw [ef]
            refine V_iload dX11_bestChange_23 rfl ?_
            refine V_aload_n dX11_bestChange_25 rfl ?_
            refine V_getr 0 _ dX11_bestChange_26 fl_RX11_7 (by first | with_reducible assumption | rfl) rfl rfl (by first | with_reducible assumption | exact hG.at rfl) ?_
            refine V_iconst dX11_bestChange_29 ?_
            refine V_iald dX11_bestChange_30 (by first | with_reducible assumption | rfl) (by decide) (by omega) ?_
            rw [q0]
            refine V_icmp_ge 125 dX11_bestChange_31 (by decide) (by omega) (by omega) (fun _ => ?_) (fun h31 => absurd h31 ((by omega)))
            refine V_iload_n dX11_bestChange_125 rfl ?_
            refine V_if_ge 134 dX11_bestChange_126 (by decide) (by omega) (fun _ => ?_) (fun h126 => absurd h126 ((by omega)))
            refine V_iload_n dX11_bestChange_134 rfl ?_
            refine V_if_ne 145 dX11_bestChange_135 (by decide) (by omega) (fun h135 => ?_) (fun h135 => ?_)
            · refine V_iload_n dX11_bestChange_145 rfl ?_
              refine V_iconst dX11_bestChange_146 ?_
              refine V_icmp_ne 157 dX11_bestChange_147 (by decide) (by omega) (by omega) (fun h147 => ?_) (fun h147 => ?_)
              · refine V_iload_n dX11_bestChange_157 rfl ?_
                refine V_iret dX11_bestChange_158 rfl ⟨Nat.le_of_ble_eq_true rfl, Nat.le_of_ble_eq_true rfl⟩ ?_
                refine ⟨rfl, _, rfl, ?_, rfl, hfin⟩
                rw [if_neg hq]
                first | (rw [if_pos (show w = 0 by omega)]; exact vie (by omega)) | (rw [if_neg (show ¬ w = 0 by omega), if_pos (show w = 1 by omega)]; exact vie (by omega)) | (rw [if_neg (show ¬ w = 0 by omega), if_neg (show ¬ w = 1 by omega)])
              · refine V_iload_n dX11_bestChange_150 rfl ?_
                refine V_bipush dX11_bestChange_151 (by decide) ?_
                refine V_irem dX11_bestChange_153 (by omega) (by omega) ?_
                refine V_goto 158 dX11_bestChange_154 (by decide) ?_
                refine V_iret dX11_bestChange_158 rfl ⟨Nat.le_of_ble_eq_true rfl, Nat.le_of_ble_eq_true rfl⟩ ?_
                refine ⟨rfl, _, rfl, ?_, rfl, hfin⟩
                rw [if_neg hq]
                first | (rw [if_pos (show w = 0 by omega)]; exact vie (by omega)) | (rw [if_neg (show ¬ w = 0 by omega), if_pos (show w = 1 by omega)]; exact vie (by omega)) | (rw [if_neg (show ¬ w = 0 by omega), if_neg (show ¬ w = 1 by omega)])
            · refine V_iload_n dX11_bestChange_138 rfl ?_
              refine V_bipush dX11_bestChange_139 (by decide) ?_
              refine V_idiv dX11_bestChange_141 (by omega) (by omega) ?_
              refine V_goto 158 dX11_bestChange_142 (by decide) ?_
              refine V_iret dX11_bestChange_158 rfl ⟨Nat.le_of_ble_eq_true rfl, Nat.le_of_ble_eq_true rfl⟩ ?_
              refine ⟨rfl, _, rfl, ?_, rfl, hfin⟩
              rw [if_neg hq]
              first | (rw [if_pos (show w = 0 by omega)]; exact vie (by omega)) | (rw [if_neg (show ¬ w = 0 by omega), if_pos (show w = 1 by omega)]; exact vie (by omega)) | (rw [if_neg (show ¬ w = 0 by omega), if_neg (show ¬ w = 1 by omega)])
        · have hAp := hA.2.1 p (by omega) (by omega)
          refine V_iload dX11_bestChange_23 rfl ?_
          refine V_aload_n dX11_bestChange_25 rfl ?_
          refine V_getr 0 _ dX11_bestChange_26 fl_RX11_7 (by first | with_reducible assumption | rfl) rfl rfl (by first | with_reducible assumption | exact hG.at rfl) ?_
          refine V_iconst dX11_bestChange_29 ?_
          refine V_iald dX11_bestChange_30 (by first | with_reducible assumption | rfl) (by decide) (by omega) ?_
          rw [q0]
          refine V_icmp_ge 125 dX11_bestChange_31 (by decide) (by omega) (by omega) (fun h31 => absurd h31 (hend)) (fun _ => ?_)
          refine V_aload_n dX11_bestChange_34 rfl ?_
          refine V_iconst dX11_bestChange_35 ?_
          refine V_iload dX11_bestChange_36 rfl ?_
          refine V_callVP dX11_bestChange_38 ml_RX11_52 km_X11_letter kv_X11_letter (c_X11_letter (row := 0) (p := p) hG (Or.inl rfl) (by omega)) (by first | with_reducible assumption | rfl) rfl rfl rfl (Nat.le_of_ble_eq_true rfl) ⟨Nat.le_of_ble_eq_true rfl, Nat.le_of_ble_eq_true rfl⟩ ⟨Nat.le_of_ble_eq_true rfl, Nat.le_of_ble_eq_true rfl⟩ ?_
          rw [letA hR' (p := p) (by omega)]
          refine S_istore (ls' := [_, _, _, _, _, _, _, _]) dX11_bestChange_41 ⟨Nat.le_of_ble_eq_true rfl, rfl, rfl⟩ rfl ?_
          refine V_iconst dX11_bestChange_43 ?_
          refine S_istore (ls' := [_, _, _, _, _, _, _, _]) dX11_bestChange_44 ⟨Nat.le_of_ble_eq_true rfl, rfl, rfl⟩ rfl ?_
          refine l_X11_bestChange (p := p) hG hR' hA hB (by omega) (bAll (lcF A B n m) (-1, -1, lcN A B n.toNat m.toNat) p) h4 h3 (fun mi3 o7 b1 b2 => ?_) 9 0 mi' o7 (by omega) (by omega) (fun _ _ => rfl) (fun _ _ _ _ => rfl)
          refine V_aload_n dX11_bestChange_108 rfl ?_
          refine V_getr 0 _ dX11_bestChange_109 fl_RX11_7 (by first | with_reducible assumption | rfl) rfl rfl (by first | with_reducible assumption | exact hG.at rfl) ?_
          refine V_iconst dX11_bestChange_112 ?_
          refine V_iload dX11_bestChange_113 rfl ?_
          refine V_iadd dX11_bestChange_115 ?_
          refine V_iload dX11_bestChange_116 rfl ?_
          refine V_iast dX11_bestChange_118 (by first | with_reducible assumption | rfl) (by decide) (by omega) ?_
          refine S_iinc (ls' := [_, _, _, _, _, _, _, _]) dX11_bestChange_119 rfl ⟨rfl, rfl⟩ rfl ?_
          refine V_goto 23 dX11_bestChange_122 (by decide) ?_
          have hgo := ih (p + 1) (up2 mi3 63 (5 + (p : Int)) (A p)) (some (vi (A p))) (some (vi 8)) o7 (by omega) (by omega) (fun i i1 i2 => ?_) (fun z z1 z2 z3 => by rw [up2_n _ _ _ z1, b2 z z1 z2 z3]; exact a4 z z1 z2 z3)
          · exact hgo
          · by_cases hi : i = 5 + (p : Int)
            · rw [hi, up2_ss]
              rw [← a3 _ (by omega) (by omega)]
              exact (hR'.2.2.1 p (by omega) (by simp only; omega)).symm
            · rw [up2_sn _ _ _ hi, b1 i hi]
              exact a3 i i1 i2
    refine V_iload_n dX11_bestChange_0 rfl ?_
    refine V_iconst dX11_bestChange_1 ?_
    refine V_iconst dX11_bestChange_2 ?_
    refine V_callSP dX11_bestChange_3 ml_RX11_48 km_X11_in ks_X11_in (c_X11_in (v := w) (a := 0) (b := 2) (by omega) (by omega) (by omega)) rfl rfl (Nat.le_of_ble_eq_true rfl) ⟨Nat.le_of_ble_eq_true rfl, Nat.le_of_ble_eq_true rfl⟩ ⟨Nat.le_of_ble_eq_true rfl, Nat.le_of_ble_eq_true rfl⟩ ?_
    rw [e1]
    refine V_if_ne 12 dX11_bestChange_6 (by decide) (by omega) (fun _ => ?_) (fun h6 => absurd h6 ((by decide)))
    refine V_aload_n dX11_bestChange_12 rfl ?_
    refine V_callV1 dX11_bestChange_13 ml_RX11_122 km_X11_counts kv_X11_counts (c_X11_counts hG hR hA hB) (by first | with_reducible assumption | rfl) rfl rfl rfl (Nat.le_of_ble_eq_true rfl) ⟨Nat.le_of_ble_eq_true rfl, Nat.le_of_ble_eq_true rfl⟩ ⟨Nat.le_of_ble_eq_true rfl, Nat.le_of_ble_eq_true rfl⟩ ?_
    rintro d mi2 mr2 ⟨rfl, rfl, k1, k2⟩
    refine S_istore_n (ls' := [_, _, _, _, _, _, _, _]) dX11_bestChange_16 ⟨Nat.le_of_ble_eq_true rfl, rfl, rfl⟩ rfl ?_
    refine V_ldc (-1000004) dX11_bestChange_17 kc_RX11_70 rfl ?_
    refine S_istore_n (ls' := [_, _, _, _, _, _, _, _]) dX11_bestChange_19 ⟨Nat.le_of_ble_eq_true rfl, rfl, rfl⟩ rfl ?_
    refine V_iconst dX11_bestChange_20 ?_
    refine S_istore (ls' := [_, _, _, _, _, _, _, _]) dX11_bestChange_21 ⟨Nat.le_of_ble_eq_true rfl, rfl, rfl⟩ rfl ?_
    exact loop (n.toNat + 1) 0 mi2 _ _ _ (by omega) (by omega) (fun i _ _ => by rw [k2 63 (by decide) (by decide)]) (fun z _ z2 z3 => k2 z z2 z3)
  · have eo : opBest n m A B Z (hs, tl, T) w = (-1000001, (n, m, A, B, Z), hs, tl, T) := by unfold opBest; rw [if_pos hin]
    rw [eo]
    have e1 : (if 0 ≤ w ∧ w ≤ 2 then (1 : Int) else 0) = 0 := if_neg hin
    refine V_iload_n dX11_bestChange_0 rfl ?_
    refine V_iconst dX11_bestChange_1 ?_
    refine V_iconst dX11_bestChange_2 ?_
    refine V_callSP dX11_bestChange_3 ml_RX11_48 km_X11_in ks_X11_in (c_X11_in (v := w) (a := 0) (b := 2) (by omega) (by omega) (by omega)) rfl rfl (Nat.le_of_ble_eq_true rfl) ⟨Nat.le_of_ble_eq_true rfl, Nat.le_of_ble_eq_true rfl⟩ ⟨Nat.le_of_ble_eq_true rfl, Nat.le_of_ble_eq_true rfl⟩ ?_
    rw [e1]
    refine V_if_ne 12 dX11_bestChange_6 (by decide) (by omega) (fun h6 => absurd h6 ((by decide))) (fun _ => ?_)
    refine V_ldc (-1000001) dX11_bestChange_9 kc_RX11_56 rfl ?_
    refine V_iret dX11_bestChange_11 rfl ⟨Nat.le_of_ble_eq_true rfl, Nat.le_of_ble_eq_true rfl⟩ ?_
    exact ⟨rfl, _, rfl, rfl, rfl, h, fun _ _ => rfl⟩
end MODEL18
