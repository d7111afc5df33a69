/-! ===== DiagonalTextsModel: fewest edits by beginnings, ways ===== -/
/-- one letter more keeps at most one more -/
theorem lcN_st (A B : Int → Int) : ∀ s x y : Nat, x + y ≤ s → (lcN A B x y ≤ lcN A B (x + 1) y ∧ lcN A B (x + 1) y ≤ lcN A B x y + 1) ∧ (lcN A B x y ≤ lcN A B x (y + 1) ∧ lcN A B x (y + 1) ≤ lcN A B x y + 1) := by
  intro s
  induction s with
  | zero =>
    intro x y h
    have hx : x = 0 := by omega
    have hy : y = 0 := by omega
    subst hx hy
    rw [lcN_x0, lcN_x0, lcN_0y]
    omega
  | succ s ih =>
    intro x y h
    constructor
    · cases y with
      | zero => rw [lcN_x0, lcN_x0]; omega
      | succ y =>
        have h1 := ih x y (by omega)
        rw [lcN_s]
        by_cases ha : al A B x y
        · rw [if_pos ha]; omega
        · rw [if_neg ha]
          have h2 : lcN A B (x + 1) y ≤ lcN A B x (y + 1) + 1 := by omega
          omega
    · cases x with
      | zero => rw [lcN_0y, lcN_0y]; omega
      | succ x =>
        have h1 := ih x y (by omega)
        rw [lcN_s]
        by_cases ha : al A B x y
        · rw [if_pos ha]; omega
        · rw [if_neg ha]
          omega
section MODEL8
variable {mi mi1 mi2 mi3 mi4 : MI} {mr : MR} {n m n' m' tl D : Int} {A B A' B' Z T F : Int → Int} {hs hs' : List St} {u : Int × (Int → Int)} {σ : St}
def apN (A B : Int → Int) (x y : Nat) : Int := (x : Int) + y - 2 * lcN A B x y
def CtM (mi : MI) (A B : Int → Int) (n m : Int) (x y : Nat) : Prop := ∀ x' y' : Nat, (x' : Int) ≤ n → (y' : Int) ≤ m → (x' < x ∨ (x' = x ∧ y' < y)) → mi 69 (29 * (x' : Int) + y') = apN A B x' y' ∧ mi 70 (29 * (x' : Int) + y') = wyN A B x' y'
theorem CtM.put {x y : Nat} {a w : Int} (h : CtM mi A B n m x y) (hm : m ≤ 28) (hy : (y : Int) ≤ m) (ha : a = apN A B x y) (hw : w = wyN A B x y) : CtM (up2 (up2 mi 69 (29 * (x : Int) + y) a) 70 (29 * (x : Int) + y) w) A B n m x (y + 1) := by
  intro x' y' h1 h2 h3
  by_cases he : x' = x ∧ y' = y
  · obtain ⟨rfl, rfl⟩ := he
    exact ⟨by rw [up2_n _ _ _ (by decide), up2_ss, ha], by rw [up2_ss, hw]⟩
  · rw [up2_n _ _ _ (by decide), up2_sn _ _ _ (by omega), up2_sn _ _ _ (by omega), up2_n _ _ _ (by decide)]
    exact h x' y' h1 h2 (by omega)
set_option maxRecDepth 100000 in
set_option maxHeartbeats 2000000 in
theorem l_X11_counts {Q : PQ} (hG : Gr mr) (hR : RowM (mi 63) (n, m, A, B, Z)) (hA : NR n A) (hB : NR m B) (x : Nat) (hx : (x : Int) ≤ n) (o3 o4 o5 o7 o8 o9 : Option AV)
    (kk : ∀ (mi' : MI) (o2 o3 o4 o5 o6 o7 o8 o9 : Option AV), CtM mi' A B n m (x + 1) 0 → (∀ z, z ≠ 69 → z ≠ 70 → mi' z = mi z) → V (RX11, cX11_counts, 10, rm 2, false, none, (some .int)) Q 0 0 SH mi' mr [some (vr 62), some (vi x), o2, o3, o4, o5, o6, o7, o8, o9] [] 249) :
    ∀ (t y : Nat) (mi' : MI) (o3 o4 o5 o6 o7 o8 o9 : Option AV), (y : Int) ≤ m + 1 → m + 1 - y < t → CtM mi' A B n m x y → (∀ z, z ≠ 69 → z ≠ 70 → mi' z = mi z) → V (RX11, cX11_counts, 10, rm 2, false, none, (some .int)) Q 0 0 SH mi' mr [some (vr 62), some (vi x), some (vi y), o3, o4, o5, o6, o7, o8, o9] [] 14 := by
  have hn := hA.1
  have hm := hB.1
  intro t
  induction t with
  | zero => intro y mi' o3 o4 o5 o6 o7 o8 o9 a1 a2; omega
  | succ t ih =>
    intro y mi' o3 o4 o5 o6 o7 o8 o9 a1 a2 a3 a4
    have hR' : RowM (mi' 63) (n, m, A, B, Z) := by rw [a4 63 (by decide) (by decide)]; exact hR
    have q1 : mi' 63 1 = m := hR'.1.2
    sorry
end MODEL8
