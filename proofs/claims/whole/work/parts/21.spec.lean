/-! ===== what is told: rows of letters, letters that are the same, reaches ===== -/
/-- a row of n letters told at every place: -1 beyond it -/
def NR (n : Int) (A : Int → Int) : Prop := (0 ≤ n ∧ n ≤ 28) ∧ (∀ i, 0 ≤ i → i < n → 0 ≤ A i ∧ A i ≤ 7) ∧ ∀ i, (i < 0 ∨ n ≤ i) → A i = -1
theorem NR.r {n : Int} {A : Int → Int} (h : NR n A) (i : Int) : -1 ≤ A i ∧ A i ≤ 7 := by
  by_cases hi : 0 ≤ i ∧ i < n
  · have := h.2.1 i hi.1 hi.2
    omega
  · rw [h.2.2 i (by omega)]
    omega
theorem NR.lt {n : Int} {A : Int → Int} (h : NR n A) {i : Int} (hi : A i ≠ -1) : 0 ≤ i ∧ i < n := by
  by_cases hi' : 0 ≤ i ∧ i < n
  · exact hi'
  · exact absurd (h.2.2 i (by omega)) hi
abbrev al (A B : Int → Int) (x y : Int) : Prop := A x ≠ -1 ∧ A x = B y
theorem al_in {n m : Int} {A B : Int → Int} (hA : NR n A) (hB : NR m B) {x y : Int} (h : al A B x y) : 0 ≤ x ∧ x < n ∧ 0 ≤ y ∧ y < m := by
  have h1 := hA.lt h.1
  have h2 := hB.lt (i := y) (by rw [← h.2]; exact h.1)
  omega
def snk (A B : Int → Int) : Nat → Int → Int → Int
  | 0, _, _ => 0
  | t + 1, x, y => if al A B x y then 1 + snk A B t (x + 1) (y + 1) else 0
def sn (A B : Int → Int) (x y : Int) : Int := snk A B 28 x y
theorem snk_s (A B : Int → Int) (t : Nat) (x y : Int) : snk A B (t + 1) x y = if al A B x y then 1 + snk A B t (x + 1) (y + 1) else 0 := rfl
theorem snk_r (A B : Int → Int) : ∀ (t : Nat) (x y : Int), 0 ≤ snk A B t x y ∧ snk A B t x y ≤ t
  | 0, _, _ => by simp [snk]
  | t + 1, x, y => by
    have h := snk_r A B t (x + 1) (y + 1)
    simp only [snk]
    split <;> omega
theorem sn_r (A B : Int → Int) (x y : Int) : 0 ≤ sn A B x y ∧ sn A B x y ≤ 28 := snk_r A B 28 x y
/-- along a run the letters are the same; behind it they are not -/
theorem snk_run (A B : Int → Int) : ∀ (t : Nat) (x y j : Int), 0 ≤ j → j < snk A B t x y → al A B (x + j) (y + j)
  | 0, x, y, j, h0, h => by simp [snk] at h; omega
  | t + 1, x, y, j, h0, h => by
    simp only [snk] at h
    split at h
    · rename_i ha
      by_cases hj : j = 0
      · subst hj; simpa using ha
      · have := snk_run A B t (x + 1) (y + 1) (j - 1) (by omega) (by omega)
        rw [show x + 1 + (j - 1) = x + j by omega, show y + 1 + (j - 1) = y + j by omega] at this
        exact this
    · omega
theorem sn_run {A B : Int → Int} {x y j : Int} (h0 : 0 ≤ j) (h : j < sn A B x y) : al A B (x + j) (y + j) := snk_run A B 28 x y j h0 h
theorem snk_end (A B : Int → Int) : ∀ (t : Nat) (x y : Int), snk A B t x y < t → ¬ al A B (x + snk A B t x y) (y + snk A B t x y)
  | 0, x, y, h => by simp [snk] at h
  | t + 1, x, y, h => by
    by_cases ha : al A B x y
    · have e : snk A B (t + 1) x y = 1 + snk A B t (x + 1) (y + 1) := by simp only [snk]; rw [if_pos ha]
      rw [e] at h ⊢
      have := snk_end A B t (x + 1) (y + 1) (by omega)
      rw [show x + 1 + snk A B t (x + 1) (y + 1) = x + (1 + snk A B t (x + 1) (y + 1)) by omega, show y + 1 + snk A B t (x + 1) (y + 1) = y + (1 + snk A B t (x + 1) (y + 1)) by omega] at this
      exact this
    · have e : snk A B (t + 1) x y = 0 := by simp only [snk]; rw [if_neg ha]
      rw [e]
      simpa using ha
theorem sn_le {n m : Int} {A B : Int → Int} (hA : NR n A) (hB : NR m B) {x y : Int} (h : 0 < sn A B x y) : 0 ≤ x ∧ 0 ≤ y ∧ x + sn A B x y ≤ n ∧ y + sn A B x y ≤ m := by
  have h1 := al_in hA hB (sn_run (j := 0) (by omega) h)
  have h2 := al_in hA hB (sn_run (A := A) (B := B) (x := x) (y := y) (j := sn A B x y - 1) (by omega) (by omega))
  omega
/-- a run of j letters with an end is the run -/
theorem snk_is (A B : Int → Int) : ∀ (t : Nat) (x y j : Int), 0 ≤ j → j ≤ t → (∀ i, 0 ≤ i → i < j → al A B (x + i) (y + i)) → (j < t → ¬ al A B (x + j) (y + j)) → snk A B t x y = j
  | 0, x, y, j, h0, h1, _, _ => by simp [snk]; omega
  | t + 1, x, y, j, h0, h1, h2, h3 => by
    by_cases hj : j = 0
    · subst hj
      have := h3 (by omega)
      rw [show x + 0 = x by omega, show y + 0 = y by omega] at this
      simp only [snk]
      rw [if_neg this]
    · have ha := h2 0 (by omega) (by omega)
      rw [show x + 0 = x by omega, show y + 0 = y by omega] at ha
      have := snk_is A B t (x + 1) (y + 1) (j - 1) (by omega) (by omega) (fun i g1 g2 => by
        have := h2 (i + 1) (by omega) (by omega)
        rw [show x + (i + 1) = x + 1 + i by omega, show y + (i + 1) = y + 1 + i by omega] at this
        exact this) (fun g => by
        have := h3 (by omega)
        rw [show x + 1 + (j - 1) = x + j by omega, show y + 1 + (j - 1) = y + j by omega]
        exact this)
      simp only [snk]
      rw [if_pos ha, this]
      omega
/-! reaches -/
def bx (G : Int → Int) (d k : Int) : Int := if k = -d ∨ (k ≠ d ∧ G (k - 1) < G (k + 1)) then G (k + 1) else G (k - 1) + 1
def fr (A B : Int → Int) : Nat → Int → Int
  | 0, k => sn A B 0 (0 - k)
  | d + 1, k => bx (fr A B d) (d + 1) k + sn A B (bx (fr A B d) (d + 1) k) (bx (fr A B d) (d + 1) k - k)
/-- the reach of d edits on a diagonal; where one stands behind the last edit -/
def fI (A B : Int → Int) (d k : Int) : Int := fr A B d.toNat k
def bI (A B : Int → Int) (d k : Int) : Int := if d ≤ 0 then 0 else bx (fun j => fI A B (d - 1) j) d k
theorem fI_eq (A B : Int → Int) (d k : Int) : fI A B d k = bI A B d k + sn A B (bI A B d k) (bI A B d k - k) := by
  unfold fI bI
  by_cases h : d ≤ 0
  · rw [if_pos h, show d.toNat = 0 by omega]
    simp [fr]
  · rw [if_neg h]
    obtain ⟨e, he⟩ : ∃ e : Nat, d.toNat = e + 1 := ⟨d.toNat - 1, by omega⟩
    rw [he]
    have e1 : d = (e : Int) + 1 := by omega
    have e2 : (fun j => fI A B (d - 1) j) = fr A B e := by
      funext j
      unfold fI
      rw [show (d - 1).toNat = e by omega]
    rw [e2]
    simp only [fr]
    rw [← e1]
theorem bI_pos {A B : Int → Int} {d k : Int} (h : 0 < d) : bI A B d k = if k = -d ∨ (k ≠ d ∧ fI A B (d - 1) (k - 1) < fI A B (d - 1) (k + 1)) then fI A B (d - 1) (k + 1) else fI A B (d - 1) (k - 1) + 1 := by
  unfold bI bx
  rw [if_neg (by omega)]
/-- on which diagonals there are reaches -/
abbrev lat (d k : Int) : Prop := 0 ≤ d ∧ d ≤ 56 ∧ -d ≤ k ∧ k ≤ d ∧ (d + k) % 2 = 0
/-- reaches are small, and not below 0 -/
theorem fI_r {n m : Int} {A B : Int → Int} (hA : NR n A) (hB : NR m B) : ∀ (e : Nat) (k : Int), 0 ≤ fI A B e k ∧ fI A B e k ≤ 28 + e := by
  intro e
  have step : ∀ (d k : Int), 0 ≤ d → 0 ≤ bI A B d k → bI A B d k ≤ 28 + d → 0 ≤ fI A B d k ∧ fI A B d k ≤ 28 + d := by
    intro d k h0 h1 h2
    rw [fI_eq]
    have h3 := sn_r A B (bI A B d k) (bI A B d k - k)
    by_cases h4 : 0 < sn A B (bI A B d k) (bI A B d k - k)
    · have h5 := sn_le hA hB h4
      have := hA.1
      omega
    · omega
  induction e with
  | zero =>
    intro k
    exact step 0 k (by omega) (by simp [bI]) (by simp [bI])
  | succ e ih =>
    intro k
    refine step ((e + 1 : Nat) : Int) k (by omega) ?_ ?_
    · rw [bI_pos (by omega)]
      have h1 := ih (k + 1)
      have h2 := ih (k - 1)
      rw [show (((e + 1 : Nat) : Int) - 1) = (e : Int) by omega]
      split <;> omega
    · rw [bI_pos (by omega)]
      have h1 := ih (k + 1)
      have h2 := ih (k - 1)
      rw [show (((e + 1 : Nat) : Int) - 1) = (e : Int) by omega]
      split <;> omega
theorem fI_rr {n m : Int} {A B : Int → Int} (hA : NR n A) (hB : NR m B) (d k : Int) (h : 0 ≤ d) : 0 ≤ fI A B d k ∧ fI A B d k ≤ 28 + d := by
  have := fI_r hA hB d.toNat k
  rw [show ((d.toNat : Nat) : Int) = d by omega] at this
  exact this
theorem bI_rr {n m : Int} {A B : Int → Int} (hA : NR n A) (hB : NR m B) (d k : Int) (h : 0 ≤ d) : 0 ≤ bI A B d k ∧ bI A B d k ≤ 28 + d := by
  by_cases h0 : d = 0
  · subst h0; simp [bI]
  · rw [bI_pos (by omega)]
    have h1 := fI_rr hA hB (d - 1) (k + 1) (by omega)
    have h2 := fI_rr hA hB (d - 1) (k - 1) (by omega)
    split <;> omega
/-- the distance: the least number of edits with which one comes to the end -/
def hit (n m : Int) (A B : Int → Int) (d : Int) : Prop := 0 ≤ d ∧ -d ≤ n - m ∧ n - m ≤ d ∧ (d + (n - m)) % 2 = 0 ∧ n ≤ fI A B d (n - m)
def isD (n m : Int) (A B : Int → Int) (D : Int) : Prop := D ≤ 56 ∧ hit n m A B D ∧ ∀ d, d < D → ¬ hit n m A B d
/-- with one edit more one comes at least as far -/
theorem fI_up {A B : Int → Int} {d k : Int} (hd : 0 ≤ d) (hl : -d ≤ k ∧ k ≤ d) : fI A B d k + 1 ≤ fI A B (d + 1) (k + 1) := by
  rw [fI_eq A B (d + 1)]
  have h1 := (sn_r A B (bI A B (d + 1) (k + 1)) (bI A B (d + 1) (k + 1) - (k + 1))).1
  have h2 : fI A B d k + 1 ≤ bI A B (d + 1) (k + 1) := by
    rw [bI_pos (by omega), show d + 1 - 1 = d by omega, show k + 1 - 1 = k by omega]
    split <;> omega
  omega
theorem fI_dn {A B : Int → Int} {d k : Int} (hd : 0 ≤ d) (hl : -d ≤ k ∧ k ≤ d) : fI A B d k ≤ fI A B (d + 1) (k - 1) := by
  rw [fI_eq A B (d + 1)]
  have h1 := (sn_r A B (bI A B (d + 1) (k - 1)) (bI A B (d + 1) (k - 1) - (k - 1))).1
  have h2 : fI A B d k ≤ bI A B (d + 1) (k - 1) := by
    rw [bI_pos (by omega), show d + 1 - 1 = d by omega, show k - 1 + 1 = k by omega]
    split <;> omega
  omega
theorem fI_ups {A B : Int → Int} : ∀ (j : Nat) (d k : Int), 0 ≤ d → -d ≤ k ∧ k ≤ d → fI A B d k + j ≤ fI A B (d + j) (k + j)
  | 0, d, k, _, _ => by simp
  | j + 1, d, k, h0, hl => by
    have h1 := fI_up (A := A) (B := B) h0 hl
    have h2 := fI_ups (A := A) (B := B) j (d + 1) (k + 1) (by omega) (by omega)
    rw [show d + ((j + 1 : Nat) : Int) = d + 1 + j by omega, show k + ((j + 1 : Nat) : Int) = k + 1 + j by omega]
    omega
theorem fI_dns {A B : Int → Int} : ∀ (j : Nat) (d k : Int), 0 ≤ d → -d ≤ k ∧ k ≤ d → fI A B d k ≤ fI A B (d + j) (k - j)
  | 0, d, k, _, _ => by simp
  | j + 1, d, k, h0, hl => by
    have h1 := fI_dn (A := A) (B := B) h0 hl
    have h2 := fI_dns (A := A) (B := B) j (d + 1) (k - 1) (by omega) (by omega)
    rw [show d + ((j + 1 : Nat) : Int) = d + 1 + j by omega, show k - ((j + 1 : Nat) : Int) = k - 1 - j by omega]
    omega
/-- as many edits as there are letters are enough -/
theorem hit_all {n m : Int} {A B : Int → Int} (hA : NR n A) (hB : NR m B) : hit n m A B (n + m) := by
  have h1 := hA.1
  have h2 := hB.1
  have h3 := fI_ups (A := A) (B := B) n.toNat 0 0 (by omega) (by omega)
  have h4 := fI_dns (A := A) (B := B) m.toNat n n (by omega) (by omega)
  have h5 := (fI_rr hA hB 0 0 (by omega)).1
  rw [show ((n.toNat : Nat) : Int) = n by omega, show (0 : Int) + n = n by omega] at h3
  rw [show ((m.toNat : Nat) : Int) = m by omega] at h4
  refine ⟨by omega, by omega, by omega, by omega, by omega⟩
theorem least_of {P : Nat → Prop} : ∀ (n : Nat), P n → ∃ k, P k ∧ k ≤ n ∧ ∀ j, j < k → ¬ P j := by
  intro n hn
  obtain ⟨k, h1, h2⟩ := pk_least P ⟨n, hn⟩
  refine ⟨k, h1, ?_, h2⟩
  rcases Nat.lt_or_ge n k with h | h
  · exact absurd hn (h2 n h)
  · exact h
theorem isD_ex {n m : Int} {A B : Int → Int} (hA : NR n A) (hB : NR m B) : ∃ D, isD n m A B D := by
  have h1 := hA.1
  have h2 := hB.1
  have h := hit_all hA hB
  obtain ⟨k, g1, g2, g3⟩ := least_of (P := fun j : Nat => hit n m A B j) (n + m).toNat (by
    show hit n m A B (((n + m).toNat : Nat) : Int)
    rw [show (((n + m).toNat : Nat) : Int) = n + m by omega]; exact h)
  refine ⟨k, by omega, g1, fun d hd hh => ?_⟩
  have h0 := hh.1
  refine g3 d.toNat (by omega) ?_
  show hit n m A B ((d.toNat : Nat) : Int)
  rw [show ((d.toNat : Nat) : Int) = d by omega]
  exact hh
theorem isD_nn {n m : Int} {A B : Int → Int} {D : Int} (h : isD n m A B D) : 0 ≤ D ∧ D ≤ 56 := ⟨h.2.1.1, h.1⟩
theorem isD_u {n m : Int} {A B : Int → Int} {D D' : Int} (h : isD n m A B D) (h' : isD n m A B D') : D = D' := by
  rcases Int.lt_trichotomy D D' with h1 | h1 | h1
  · exact absurd h.2.1 (h'.2.2 D h1)
  · exact h1
  · exact absurd h'.2.1 (h.2.2 D' h1)
/-! where the rows are -/
def Now (mi : MI) (mr : MR) (f fb g gb : Nat) (n m : Int) (A B : Int → Int) : Prop := (mr 1 0 = some f ∧ mr 1 1 = some g) ∧ ((f = 2 ∧ fb = 3 ∧ g = 4 ∧ gb = 5) ∨ (f = 4 ∧ fb = 5 ∧ g = 2 ∧ gb = 3)) ∧ Gr mr ∧ (mi f 1 = n ∧ mi g 1 = m) ∧ (∀ i, 0 ≤ i → i < n → mi fb i = A i) ∧ (∀ i, 0 ≤ i → i < m → mi gb i = B i) ∧ NR n A ∧ NR m B
theorem Now.keep {mi mi' : MI} {mr : MR} {f fb g gb : Nat} {n m : Int} {A B : Int → Int} (h : Now mi mr f fb g gb n m A B) (hk : ∀ x, 2 ≤ x → x ≤ 5 → mi' x = mi x) : Now mi' mr f fb g gb n m A B := by
  obtain ⟨h1, h2, h3, h4, h5, h6, h7⟩ := h
  have e : mi' f = mi f ∧ mi' fb = mi fb ∧ mi' g = mi g ∧ mi' gb = mi gb := ⟨hk f (by omega) (by omega), hk fb (by omega) (by omega), hk g (by omega) (by omega), hk gb (by omega) (by omega)⟩
  exact ⟨h1, h2, h3, by rw [e.1, e.2.2.1]; exact h4, by rw [e.2.1]; exact h5, by rw [e.2.2.2]; exact h6, h7⟩
theorem Now.u {mi : MI} {mr : MR} {f fb g gb : Nat} {n m : Int} {A B : Int → Int} (h : Now mi mr f fb g gb n m A B) : (mr 1 0 = some f ∧ mr 1 1 = some g ∧ Gr mr) ∧ (SH[f]? = some (.inl 7) ∧ mr f 0 = some fb ∧ SH[fb]? = some (.inr (0, 28))) ∧ (SH[g]? = some (.inl 7) ∧ mr g 0 = some gb ∧ SH[gb]? = some (.inr (0, 28))) ∧ (mi f 1 = n ∧ mi g 1 = m ∧ 0 ≤ n ∧ n ≤ 28 ∧ 0 ≤ m ∧ m ≤ 28) ∧ (∀ i, rat mi f fb i = A i) ∧ (∀ i, rat mi g gb i = B i) ∧ (∀ i, -1 ≤ A i ∧ A i ≤ 7) ∧ (∀ i, -1 ≤ B i ∧ B i ≤ 7) := by
  obtain ⟨h1, h2, h3, h4, h5, h6, h7, h8⟩ := h
  refine ⟨⟨h1.1, h1.2, h3⟩, ?_, ?_, ⟨h4.1, h4.2, h7.1.1, h7.1.2, h8.1.1, h8.1.2⟩, fun i => ?_, fun i => ?_, h7.r, h8.r⟩
  · rcases h2 with ⟨rfl, rfl, -⟩ | ⟨rfl, rfl, -⟩
    · exact ⟨rfl, h3.at rfl, rfl⟩
    · exact ⟨rfl, h3.at rfl, rfl⟩
  · rcases h2 with ⟨-, -, rfl, rfl⟩ | ⟨-, -, rfl, rfl⟩
    · exact ⟨rfl, h3.at rfl, rfl⟩
    · exact ⟨rfl, h3.at rfl, rfl⟩
  · by_cases hi : 0 ≤ i ∧ i < n
    · rw [rat_in (by rw [h4.1]; exact hi)]
      exact h5 i hi.1 hi.2
    · rw [rat_out (by rw [h4.1]; exact hi), h7.2.2 i (by omega)]
  · by_cases hi : 0 ≤ i ∧ i < m
    · rw [rat_in (by rw [h4.2]; exact hi)]
      exact h6 i hi.1 hi.2
    · rw [rat_out (by rw [h4.2]; exact hi), h8.2.2 i (by omega)]
