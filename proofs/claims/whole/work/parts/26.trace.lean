/-! ===== the least script ===== -/
abbrev putIn (A B : Int → Int) (d k : Int) : Prop := k = -d ∨ (k ≠ d ∧ fI A B (d - 1) (k - 1) < fI A B (d - 1) (k + 1))
theorem bI_in {A B : Int → Int} {d k : Int} (h : 0 < d) (hp : putIn A B d k) : bI A B d k = fI A B (d - 1) (k + 1) := by rw [bI_pos h, if_pos hp]
theorem bI_out {A B : Int → Int} {d k : Int} (h : 0 < d) (hp : ¬ putIn A B d k) : bI A B d k = fI A B (d - 1) (k - 1) + 1 := by rw [bI_pos h, if_neg hp]
theorem lat_in {A B : Int → Int} {d k : Int} (h : lat d k) (h0 : 0 < d) (hp : putIn A B d k) : lat (d - 1) (k + 1) := by
  have : k ≠ d := by rcases hp with e | e <;> omega
  exact ⟨by omega, by omega, by omega, by omega, by omega⟩
theorem lat_out {A B : Int → Int} {d k : Int} (h : lat d k) (h0 : 0 < d) (hp : ¬ putIn A B d k) : lat (d - 1) (k - 1) := by
  have : k ≠ -d := fun e => hp (Or.inl e)
  exact ⟨by omega, by omega, by omega, by omega, by omega⟩
theorem fI_bI {A B : Int → Int} (d k : Int) : bI A B d k ≤ fI A B d k := by
  rw [fI_eq]
  have := (sn_r A B (bI A B d k) (bI A B d k - k)).1
  omega
/-- no reach lies ahead of the second row -/
theorem fI_y {A B : Int → Int} : ∀ (e : Nat) (d k : Int), d = e → lat d k → k ≤ bI A B d k := by
  intro e
  induction e with
  | zero =>
    intro d k hd hl
    have : bI A B d k = 0 := by unfold bI; rw [if_pos (by omega)]
    omega
  | succ e ih =>
    intro d k hd hl
    by_cases hp : putIn A B d k
    · have h1 := ih (d - 1) (k + 1) (by omega) (lat_in hl (by omega) hp)
      have h2 := fI_bI (A := A) (B := B) (d - 1) (k + 1)
      rw [bI_in (by omega) hp]
      omega
    · have h1 := ih (d - 1) (k - 1) (by omega) (lat_out hl (by omega) hp)
      have h2 := fI_bI (A := A) (B := B) (d - 1) (k - 1)
      rw [bI_out (by omega) hp]
      omega
theorem fI_yy {A B : Int → Int} {d k : Int} (hl : lat d k) : k ≤ fI A B d k := by
  have h1 := fI_y (A := A) (B := B) d.toNat d k (by omega) hl
  have h2 := fI_bI (A := A) (B := B) d k
  omega
/-- what lies beyond the second row was no gain -/
theorem far_y {n m : Int} {A B : Int → Int} (hA : NR n A) (hB : NR m B) : ∀ (e : Nat) (d k t : Int), d = e → lat d k → 0 ≤ t → fI A B d k - k = m + t → lat (d - t) (k + t) ∧ fI A B d k ≤ fI A B (d - t) (k + t) := by
  intro e
  induction e with
  | zero =>
    intro d k t hd hl ht hy
    have hb : bI A B d k = 0 := by unfold bI; rw [if_pos (by omega)]
    have he := fI_eq A B d k
    rw [hb] at he
    by_cases h1 : 0 < sn A B 0 (0 - k)
    · have h2 := sn_le hA hB h1
      have : t = 0 := by omega
      subst this
      simp only [Int.sub_zero, Int.add_zero]
      exact ⟨hl, Int.le_refl _⟩
    · have h3 := sn_r A B 0 (0 - k)
      have := hB.1
      have : t = 0 := by omega
      subst this
      simp only [Int.sub_zero, Int.add_zero]
      exact ⟨hl, Int.le_refl _⟩
  | succ e ih =>
    intro d k t hd hl ht hy
    by_cases h0 : t = 0
    · subst h0
      simp only [Int.sub_zero, Int.add_zero]
      exact ⟨hl, Int.le_refl _⟩
    have he := fI_eq A B d k
    have hs : sn A B (bI A B d k) (bI A B d k - k) = 0 := by
      have h1 := sn_r A B (bI A B d k) (bI A B d k - k)
      by_cases h2 : 0 < sn A B (bI A B d k) (bI A B d k - k)
      · have h3 := sn_le hA hB h2
        omega
      · omega
    rw [hs] at he
    by_cases hp : putIn A B d k
    · rw [bI_in (by omega) hp] at he
      have h1 := ih (d - 1) (k + 1) (t - 1) (by omega) (lat_in hl (by omega) hp) (by omega) (by omega)
      rw [show d - 1 - (t - 1) = d - t by omega, show k + 1 + (t - 1) = k + t by omega] at h1
      exact ⟨h1.1, by omega⟩
    · rw [bI_out (by omega) hp] at he
      have h1 := ih (d - 1) (k - 1) t (by omega) (lat_out hl (by omega) hp) (by omega) (by omega)
      have hl1 := h1.1
      have h2 := fI_up (A := A) (B := B) (d := d - 1 - t) (k := k - 1 + t) hl1.1 ⟨hl1.2.2.1, hl1.2.2.2.1⟩
      rw [show d - 1 - t + 1 = d - t by omega, show k - 1 + t + 1 = k + t by omega] at h2
      exact ⟨⟨by omega, by omega, by omega, by omega, by omega⟩, by omega⟩
theorem far_x {n m : Int} {A B : Int → Int} (hA : NR n A) (hB : NR m B) : ∀ (e : Nat) (d k t : Int), d = e → lat d k → 0 ≤ t → fI A B d k = n + t → lat (d - t) (k - t) ∧ n ≤ fI A B (d - t) (k - t) := by
  intro e
  induction e with
  | zero =>
    intro d k t hd hl ht hy
    have hb : bI A B d k = 0 := by unfold bI; rw [if_pos (by omega)]
    have he := fI_eq A B d k
    rw [hb] at he
    have ht0 : t = 0 := by
      by_cases h1 : 0 < sn A B 0 (0 - k)
      · have h2 := sn_le hA hB h1
        omega
      · have h3 := sn_r A B 0 (0 - k)
        have := hA.1
        omega
    subst ht0
    simp only [Int.sub_zero]
    exact ⟨hl, by omega⟩
  | succ e ih =>
    intro d k t hd hl ht hy
    by_cases h0 : t = 0
    · subst h0
      simp only [Int.sub_zero]
      exact ⟨hl, by omega⟩
    have he := fI_eq A B d k
    have hs : sn A B (bI A B d k) (bI A B d k - k) = 0 := by
      have h1 := sn_r A B (bI A B d k) (bI A B d k - k)
      by_cases h2 : 0 < sn A B (bI A B d k) (bI A B d k - k)
      · have h3 := sn_le hA hB h2
        omega
      · omega
    rw [hs] at he
    by_cases hp : putIn A B d k
    · rw [bI_in (by omega) hp] at he
      have h1 := ih (d - 1) (k + 1) t (by omega) (lat_in hl (by omega) hp) (by omega) (by omega)
      have hl1 := h1.1
      have h2 := fI_dn (A := A) (B := B) (d := d - 1 - t) (k := k + 1 - t) hl1.1 ⟨hl1.2.2.1, hl1.2.2.2.1⟩
      rw [show d - 1 - t + 1 = d - t by omega, show k + 1 - t - 1 = k - t by omega] at h2
      exact ⟨⟨by omega, by omega, by omega, by omega, by omega⟩, by omega⟩
    · rw [bI_out (by omega) hp] at he
      have h1 := ih (d - 1) (k - 1) (t - 1) (by omega) (lat_out hl (by omega) hp) (by omega) (by omega)
      rw [show d - 1 - (t - 1) = d - t by omega, show k - 1 - (t - 1) = k - t by omega] at h1
      exact h1
/-- beyond both rows: the end was reached before -/
theorem far_xy {n m : Int} {A B : Int → Int} (hA : NR n A) (hB : NR m B) {d k : Int} (hl : lat d k) (hx : n ≤ fI A B d k) (hy : m ≤ fI A B d k - k) : ∃ d', d' ≤ d ∧ hit n m A B d' := by
  obtain ⟨l1, f1⟩ := far_y hA hB d.toNat d k (fI A B d k - k - m) (by omega) hl (by omega) (by omega)
  generalize hd2 : d - (fI A B d k - k - m) = d2 at l1 f1
  generalize hk2 : k + (fI A B d k - k - m) = k2 at l1 f1
  obtain ⟨l2, f2⟩ := far_x hA hB d2.toNat d2 k2 (fI A B d2 k2 - n) (by omega) l1 (by omega) (by omega)
  generalize hd3 : d2 - (fI A B d2 k2 - n) = d3 at l2 f2
  generalize hk3 : k2 - (fI A B d2 k2 - n) = k3 at l2 f2
  have f3 := fI_ups (A := A) (B := B) (fI A B d2 k2 - fI A B d k).toNat d3 k3 (by omega) ⟨l2.2.2.1, l2.2.2.2.1⟩
  rw [show (((fI A B d2 k2 - fI A B d k).toNat : Nat) : Int) = fI A B d2 k2 - fI A B d k by omega] at f3
  refine ⟨d3 + (fI A B d2 k2 - fI A B d k), by omega, by omega, by omega, by omega, by omega, ?_⟩
  rw [show n - m = k3 + (fI A B d2 k2 - fI A B d k) by omega]
  omega
theorem bI_end {n m : Int} {A B : Int → Int} (hA : NR n A) (hB : NR m B) {D : Int} (hD : isD n m A B D) : bI A B D (n - m) ≤ n := by
  have hh := hD.2.1
  have hA1 := hA.1
  unfold hit at hh
  have h56 := hD.1
  have hl : lat D (n - m) := ⟨by omega, by omega, by omega, by omega, by omega⟩
  by_cases h0 : D = 0
  · unfold bI; rw [if_pos (by omega)]; omega
  · by_cases hc : bI A B D (n - m) ≤ n
    · exact hc
    · exfalso
      by_cases hp : putIn A B D (n - m)
      · have hb := bI_in (by omega) hp
        obtain ⟨d', g1, g2⟩ := far_xy hA hB (lat_in hl (by omega) hp) (by omega) (by omega)
        exact hD.2.2 d' (by omega) g2
      · have hb := bI_out (by omega) hp
        obtain ⟨d', g1, g2⟩ := far_xy hA hB (lat_out hl (by omega) hp) (by omega) (by omega)
        exact hD.2.2 d' (by omega) g2
/-- back along the script: edits left, letters done -/
abbrev TS : Type := Int × Int × Int
def nx (A B : Int → Int) (s : TS) : TS := if bI A B s.1 (s.2.1 - s.2.2) < s.2.1 then (s.1, s.2.1 - 1, s.2.2 - 1) else if s.1 ≤ 0 then s else if putIn A B s.1 (s.2.1 - s.2.2) then (s.1 - 1, s.2.1, s.2.2 - 1) else (s.1 - 1, s.2.1 - 1, s.2.2)
def kd (A B : Int → Int) (s : TS) : Int := if bI A B s.1 (s.2.1 - s.2.2) < s.2.1 then 0 else if putIn A B s.1 (s.2.1 - s.2.2) then 2 else 1
def tr (A B : Int → Int) (n m D : Int) : Nat → TS
  | 0 => (D, n, m)
  | j + 1 => nx A B (tr A B n m D j)
def TI (n m : Int) (A B : Int → Int) (s : TS) : Prop := lat s.1 (s.2.1 - s.2.2) ∧ (0 ≤ s.2.1 ∧ s.2.1 ≤ n ∧ 0 ≤ s.2.2 ∧ s.2.2 ≤ m) ∧ bI A B s.1 (s.2.1 - s.2.2) ≤ s.2.1 ∧ s.2.1 ≤ fI A B s.1 (s.2.1 - s.2.2)
theorem TI_nx {n m : Int} {A B : Int → Int} (hA : NR n A) (hB : NR m B) {s : TS} (h : TI n m A B s) (hpos : 0 < s.1 + s.2.1 + s.2.2) : TI n m A B (nx A B s) ∧ (nx A B s).1 + (nx A B s).2.1 + (nx A B s).2.2 = s.1 + s.2.1 + s.2.2 - 2 ∧ ((kd A B s = 0 ∧ nx A B s = (s.1, s.2.1 - 1, s.2.2 - 1) ∧ al A B (s.2.1 - 1) (s.2.2 - 1)) ∨ (kd A B s = 1 ∧ nx A B s = (s.1 - 1, s.2.1 - 1, s.2.2)) ∨ (kd A B s = 2 ∧ nx A B s = (s.1 - 1, s.2.1, s.2.2 - 1))) := by
  obtain ⟨d, x, y⟩ := s
  obtain ⟨hl, hxy, hb, hf⟩ := h
  simp only at hl hxy hb hf hpos ⊢
  by_cases hk : bI A B d (x - y) < x
  · have e1 : nx A B (d, x, y) = (d, x - 1, y - 1) := by simp only [nx]; rw [if_pos hk]
    have e2 : kd A B (d, x, y) = 0 := by simp only [kd]; rw [if_pos hk]
    have he := fI_eq A B d (x - y)
    have ha := sn_run (A := A) (B := B) (x := bI A B d (x - y)) (y := bI A B d (x - y) - (x - y)) (j := x - 1 - bI A B d (x - y)) (by omega) (by omega)
    rw [show bI A B d (x - y) + (x - 1 - bI A B d (x - y)) = x - 1 by omega, show bI A B d (x - y) - (x - y) + (x - 1 - bI A B d (x - y)) = y - 1 by omega] at ha
    have hin := al_in hA hB ha
    rw [e1, e2]
    refine ⟨⟨?_, ?_, ?_, ?_⟩, ?_, Or.inl ⟨rfl, rfl, ha⟩⟩
    · show lat d (x - 1 - (y - 1))
      rw [show x - 1 - (y - 1) = x - y by omega]; exact hl
    · simp only; omega
    · show bI A B d (x - 1 - (y - 1)) ≤ x - 1
      rw [show x - 1 - (y - 1) = x - y by omega]; omega
    · show x - 1 ≤ fI A B d (x - 1 - (y - 1))
      rw [show x - 1 - (y - 1) = x - y by omega]; omega
    · simp only; omega
  · have hxb : x = bI A B d (x - y) := by omega
    by_cases h0 : d ≤ 0
    · exfalso
      have : bI A B d (x - y) = 0 := by unfold bI; rw [if_pos h0]
      have := hl
      omega
    · by_cases hp : putIn A B d (x - y)
      · have e1 : nx A B (d, x, y) = (d - 1, x, y - 1) := by simp only [nx]; rw [if_neg hk, if_neg h0, if_pos hp]
        have e2 : kd A B (d, x, y) = 2 := by simp only [kd]; rw [if_neg hk, if_pos hp]
        have hb2 := bI_in (by omega) hp
        have hl2 := lat_in hl (by omega) hp
        have h3 := fI_yy (A := A) (B := B) hl2
        have h4 := fI_bI (A := A) (B := B) (d - 1) (x - y + 1)
        rw [e1, e2]
        refine ⟨⟨?_, ?_, ?_, ?_⟩, ?_, Or.inr (Or.inr ⟨rfl, rfl⟩)⟩
        · show lat (d - 1) (x - (y - 1))
          rw [show x - (y - 1) = x - y + 1 by omega]; exact hl2
        · simp only; omega
        · show bI A B (d - 1) (x - (y - 1)) ≤ x
          rw [show x - (y - 1) = x - y + 1 by omega]; omega
        · show x ≤ fI A B (d - 1) (x - (y - 1))
          rw [show x - (y - 1) = x - y + 1 by omega]; omega
        · simp only; omega
      · have e1 : nx A B (d, x, y) = (d - 1, x - 1, y) := by simp only [nx]; rw [if_neg hk, if_neg h0, if_neg hp]
        have e2 : kd A B (d, x, y) = 1 := by simp only [kd]; rw [if_neg hk, if_neg hp]
        have hb2 := bI_out (by omega) hp
        have hl2 := lat_out hl (by omega) hp
        have h3 := fI_rr hA hB (d - 1) (x - y - 1) (by omega)
        have h4 := fI_bI (A := A) (B := B) (d - 1) (x - y - 1)
        rw [e1, e2]
        refine ⟨⟨?_, ?_, ?_, ?_⟩, ?_, Or.inr (Or.inl ⟨rfl, rfl⟩)⟩
        · show lat (d - 1) (x - 1 - y)
          rw [show x - 1 - y = x - y - 1 by omega]; exact hl2
        · simp only; omega
        · show bI A B (d - 1) (x - 1 - y) ≤ x - 1
          rw [show x - 1 - y = x - y - 1 by omega]; omega
        · show x - 1 ≤ fI A B (d - 1) (x - 1 - y)
          rw [show x - 1 - y = x - y - 1 by omega]; omega
        · simp only; omega
theorem TI_start {n m : Int} {A B : Int → Int} (hA : NR n A) (hB : NR m B) {D : Int} (hD : isD n m A B D) : TI n m A B (D, n, m) := by
  have hh := hD.2.1
  have hA1 := hA.1
  have hB1 := hB.1
  have h56 := hD.1
  unfold hit at hh
  have hl : lat D (n - m) := ⟨by omega, by omega, by omega, by omega, by omega⟩
  exact ⟨hl, ⟨by simp only; omega, by simp only; omega, by simp only; omega, by simp only; omega⟩, bI_end hA hB hD, hh.2.2.2.2⟩
/-- how many steps there are -/
def sL (n m D : Int) : Int := (n + m + D) / 2
theorem sL_2 {n m : Int} {A B : Int → Int} {D : Int} (hD : isD n m A B D) : 2 * sL n m D = n + m + D := by
  have hh := hD.2.1
  unfold hit at hh
  unfold sL
  omega
theorem sL_r {n m : Int} {A B : Int → Int} (hA : NR n A) (hB : NR m B) {D : Int} (hD : isD n m A B D) : 0 ≤ sL n m D ∧ sL n m D ≤ 56 ∧ D ≤ sL n m D ∧ D ≤ n + m := by
  have h1 := sL_2 hD
  have hh := hD.2.1
  have hA1 := hA.1
  have hB1 := hB.1
  unfold hit at hh
  have h2 : D ≤ n + m := by
    by_cases h : D ≤ n + m
    · exact h
    · exact absurd (hit_all hA hB) (hD.2.2 _ (by omega))
  omega
theorem tr_TI {n m : Int} {A B : Int → Int} (hA : NR n A) (hB : NR m B) {D : Int} (hD : isD n m A B D) : ∀ (j : Nat), (j : Int) ≤ sL n m D → TI n m A B (tr A B n m D j) ∧ (tr A B n m D j).1 + (tr A B n m D j).2.1 + (tr A B n m D j).2.2 = 2 * (sL n m D - j) := by
  have h2 := sL_2 hD
  intro j
  induction j with
  | zero =>
    intro _
    refine ⟨TI_start hA hB hD, ?_⟩
    simp only [tr]
    omega
  | succ j ih =>
    intro hj
    obtain ⟨g1, g2⟩ := ih (by omega)
    have g3 := TI_nx hA hB g1 (by omega)
    refine ⟨g3.1, ?_⟩
    show (nx A B (tr A B n m D j)).1 + (nx A B (tr A B n m D j)).2.1 + (nx A B (tr A B n m D j)).2.2 = _
    rw [g3.2.1]
    omega
theorem tr_end {n m : Int} {A B : Int → Int} (hA : NR n A) (hB : NR m B) {D : Int} (hD : isD n m A B D) : tr A B n m D (sL n m D).toNat = (0, 0, 0) := by
  have h1 := sL_r hA hB hD
  obtain ⟨g1, g2⟩ := tr_TI hA hB hD (sL n m D).toNat (by omega)
  generalize tr A B n m D (sL n m D).toNat = s at g1 g2
  obtain ⟨d, x, y⟩ := s
  obtain ⟨h3, h4, -⟩ := g1
  simp only at h3 h4 g2
  have : d = 0 ∧ x = 0 ∧ y = 0 := by omega
  rw [this.1, this.2.1, this.2.2]
/-- the steps, from the first one on: kind, letters done ahead in both rows -/
def sK (A B : Int → Int) (n m D i : Int) : Int := kd A B (tr A B n m D (sL n m D - 1 - i).toNat)
def sX (A B : Int → Int) (n m D i : Int) : Int := (tr A B n m D (sL n m D - i).toNat).2.1
def sY (A B : Int → Int) (n m D i : Int) : Int := (tr A B n m D (sL n m D - i).toNat).2.2
def sLt (A B : Int → Int) (n m D i : Int) : Int := if sK A B n m D i = 2 then B (sY A B n m D i) else A (sX A B n m D i)
/-- a script by its steps -/
def Sc (n m : Int) (A B : Int → Int) (L : Int) (K X Y : Int → Int) : Prop := (X 0 = 0 ∧ Y 0 = 0 ∧ X L = n ∧ Y L = m) ∧ (∀ i, 0 ≤ i → i ≤ L → 0 ≤ X i ∧ X i ≤ n ∧ 0 ≤ Y i ∧ Y i ≤ m) ∧ ∀ i, 0 ≤ i → i < L → (K i = 0 ∧ X (i + 1) = X i + 1 ∧ Y (i + 1) = Y i + 1 ∧ al A B (X i) (Y i)) ∨ (K i = 1 ∧ X (i + 1) = X i + 1 ∧ Y (i + 1) = Y i) ∨ (K i = 2 ∧ X (i + 1) = X i ∧ Y (i + 1) = Y i + 1)
theorem sc_step {n m : Int} {A B : Int → Int} (hA : NR n A) (hB : NR m B) {D : Int} (hD : isD n m A B D) {i : Int} (h0 : 0 ≤ i) (h1 : i < sL n m D) : (sK A B n m D i = 0 ∧ sX A B n m D (i + 1) = sX A B n m D i + 1 ∧ sY A B n m D (i + 1) = sY A B n m D i + 1 ∧ al A B (sX A B n m D i) (sY A B n m D i)) ∨ (sK A B n m D i = 1 ∧ sX A B n m D (i + 1) = sX A B n m D i + 1 ∧ sY A B n m D (i + 1) = sY A B n m D i) ∨ (sK A B n m D i = 2 ∧ sX A B n m D (i + 1) = sX A B n m D i ∧ sY A B n m D (i + 1) = sY A B n m D i + 1) := by
  obtain ⟨j, hj⟩ : ∃ j : Nat, sL n m D - 1 - i = j := ⟨(sL n m D - 1 - i).toNat, by omega⟩
  have e1 : (sL n m D - 1 - i).toNat = j := by omega
  have e2 : (sL n m D - i).toNat = j + 1 := by omega
  have e3 : (sL n m D - (i + 1)).toNat = j := by omega
  obtain ⟨g1, g2⟩ := tr_TI hA hB hD j (by omega)
  have g3 := (TI_nx hA hB g1 (by omega)).2.2
  unfold sK sX sY
  rw [e1, e2, e3]
  show _ ∨ _ ∨ _
  rw [show tr A B n m D (j + 1) = nx A B (tr A B n m D j) from rfl]
  rcases g3 with ⟨k1, k2, k3⟩ | ⟨k1, k2⟩ | ⟨k1, k2⟩
  · left
    rw [k2]
    exact ⟨k1, by simp only; omega, by simp only; omega, k3⟩
  · right; left
    rw [k2]
    exact ⟨k1, by simp only; omega, rfl⟩
  · right; right
    rw [k2]
    exact ⟨k1, rfl, by simp only; omega⟩
theorem sc_ok {n m : Int} {A B : Int → Int} (hA : NR n A) (hB : NR m B) {D : Int} (hD : isD n m A B D) : Sc n m A B (sL n m D) (sK A B n m D) (sX A B n m D) (sY A B n m D) := by
  have h1 := sL_r hA hB hD
  have he := tr_end hA hB hD
  refine ⟨⟨?_, ?_, ?_, ?_⟩, fun i g0 g1 => ?_, fun i g0 g1 => sc_step hA hB hD g0 g1⟩
  · unfold sX; rw [show sL n m D - 0 = sL n m D by omega, he]
  · unfold sY; rw [show sL n m D - 0 = sL n m D by omega, he]
  · unfold sX; rw [show (sL n m D - sL n m D).toNat = 0 by omega]; rfl
  · unfold sY; rw [show (sL n m D - sL n m D).toNat = 0 by omega]; rfl
  · obtain ⟨g2, g3⟩ := tr_TI hA hB hD (sL n m D - i).toNat (by omega)
    unfold sX sY
    exact g2.2.1
