/-! ===== moved blocks by places of letters: the same blocks in the same order ===== -/
/-- the last of the first s steps of a kind at a place; -1: none -/
def obN (K X : Int → Int) (v x : Int) : Nat → Int
  | 0 => -1
  | s + 1 => if K s = v ∧ X s = x then s else obN K X v x s
theorem ob_spec (K X : Int → Int) (v x : Int) : ∀ S : Nat, (obN K X v x S = -1 ∧ ∀ j : Int, 0 ≤ j → j < S → ¬ (K j = v ∧ X j = x)) ∨ ((0 ≤ obN K X v x S ∧ obN K X v x S < S) ∧ K (obN K X v x S) = v ∧ X (obN K X v x S) = x)
  | 0 => Or.inl ⟨rfl, fun j j1 j2 => by omega⟩
  | S + 1 => by
    simp only [obN]
    by_cases hc : K S = v ∧ X S = x
    · rw [if_pos hc]
      exact Or.inr ⟨by omega, hc⟩
    · rw [if_neg hc]
      rcases ob_spec K X v x S with ⟨h1, h2⟩ | ⟨h1, h2⟩
      · refine Or.inl ⟨h1, fun j j1 j2 => ?_⟩
        by_cases hj : j = S
        · rw [hj]; exact hc
        · exact h2 j j1 (by omega)
      · exact Or.inr ⟨by omega, h2⟩
theorem ob_hit {K X : Int → Int} {v L : Int} (hL : 0 ≤ L) (hm : ∀ a b, 0 ≤ a → a ≤ b → b ≤ L → X a ≤ X b) (hs : ∀ s, 0 ≤ s → s < L → (K s = v ∨ K s = 0) → X (s + 1) = X s + 1) {s : Int} (h0 : 0 ≤ s) (h1 : s < L) (hk : K s = v ∨ K s = 0) (k : Int) (g0 : 0 ≤ k) (g1 : k < L) (g2 : K k = v) (g3 : X k = X s) : k = s := by
  have e1 := hs s h0 h1 hk
  have e2 := hs k g0 g1 (Or.inl g2)
  rcases Int.lt_trichotomy k s with h | h | h
  · have := hm (k + 1) s (by omega) (by omega) (by omega)
    omega
  · exact h
  · have := hm (s + 1) k (by omega) (by omega) (by omega)
    omega
/-- what the marks of steps are -/
def Mk (L : Int) (K X : Int → Int) (v : Int) (O : Int → Int) : Prop := (∀ s, 0 ≤ s → s < L → K s = v → O (X s) = s) ∧ (∀ s, 0 ≤ s → s < L → K s = 0 → O (X s) = -1) ∧ ∀ x, O x = -1 ∨ ((0 ≤ O x ∧ O x < L) ∧ K (O x) = v ∧ X (O x) = x)
theorem mk_ob {K X : Int → Int} {v L : Int} (hv : v ≠ 0) (hL : 0 ≤ L) (hm : ∀ a b, 0 ≤ a → a ≤ b → b ≤ L → X a ≤ X b) (hs : ∀ s, 0 ≤ s → s < L → (K s = v ∨ K s = 0) → X (s + 1) = X s + 1) : Mk L K X v (fun x => obN K X v x L.toNat) := by
  have eL : ((L.toNat : Nat) : Int) = L := by omega
  refine ⟨fun s h0 h1 h2 => ?_, fun s h0 h1 h2 => ?_, fun x => ?_⟩
  · have := ob_spec K X v (X s) L.toNat
    rw [eL] at this
    rcases this with ⟨-, g⟩ | ⟨g1, g2, g3⟩
    · exact absurd ⟨h2, rfl⟩ (g s h0 h1)
    · exact ob_hit hL hm hs h0 h1 (Or.inl h2) _ g1.1 g1.2 g2 g3
  · have := ob_spec K X v (X s) L.toNat
    rw [eL] at this
    rcases this with ⟨g, -⟩ | ⟨g1, g2, g3⟩
    · exact g
    · exfalso
      have e := ob_hit hL hm hs h0 h1 (Or.inr h2) _ g1.1 g1.2 g2 g3
      rw [e] at g2
      omega
  · have := ob_spec K X v x L.toNat
    rw [eL] at this
    rcases this with ⟨g, -⟩ | g
    · exact Or.inl g
    · exact Or.inr g
section BLOCKS2
variable {n m L lb : Int} {A B K X Y O I : Int → Int}
theorem sc_mono (h : Sc n m A B L K X Y) : (∀ a b, 0 ≤ a → a ≤ b → b ≤ L → X a ≤ X b) ∧ ∀ a b, 0 ≤ a → a ≤ b → b ≤ L → Y a ≤ Y b := by
  refine ⟨fun a b h1 h2 h3 => ?_, fun a b h1 h2 h3 => ?_⟩
  · have e := (wI_XY h h1 h2 h3).1
    have := wI_r (K := K) (v := 2) h2
    omega
  · have e := (wI_XY h h1 h2 h3).2
    have := wI_r (K := K) (v := 1) h2
    omega
theorem mk_X (hL : 0 ≤ L) (h : Sc n m A B L K X Y) : Mk L K X 1 (fun x => obN K X 1 x L.toNat) := mk_ob (by decide) hL (sc_mono h).1 (fun s h0 h1 h2 => by have := h.2.2 s h0 h1; omega)
theorem mk_Y (hL : 0 ≤ L) (h : Sc n m A B L K X Y) : Mk L K Y 2 (fun y => obN K Y 2 y L.toNat) := mk_ob (by decide) hL (sc_mono h).2 (fun s h0 h1 h2 => by have := h.2.2 s h0 h1; omega)
abbrev mvM (n m : Int) (A B O I : Int → Int) (x y : Int) : Prop := (0 ≤ x ∧ 0 ≤ y ∧ x < n ∧ y < m) ∧ 0 ≤ O x ∧ 0 ≤ I y ∧ A x = B y
abbrev goM (n m : Int) (A B O I : Int → Int) (x y : Int) : Prop := mvM n m A B O I x y ∧ mvM n m A B O I (x - 1) (y - 1) ∧ O x = O (x - 1) + 1 ∧ I y = I (y - 1) + 1
def grM (n m : Int) (A B O I : Int → Int) : Nat → Int → Int → Int
  | 0, _, _ => 0
  | t + 1, x, y => if goM n m A B O I x y then 1 + grM n m A B O I t (x + 1) (y + 1) else 0
def bkM (n m : Int) (A B O I : Int → Int) (lb x y : Int) : Int := if mvM n m A B O I x y ∧ ¬ goM n m A B O I x y then (if 1 + grM n m A B O I 27 (x + 1) (y + 1) < lb then 0 else 1 + grM n m A B O I 27 (x + 1) (y + 1)) else 0
abbrev ltF (A B K X Y : Int → Int) : Int → Int := fun i => if K i = 2 then B (Y i) else A (X i)
theorem kx_in {i : Int} {F : Int → Int} (h : 0 ≤ i ∧ i < L) : kx L F i = F i := if_pos h
/-- steps and places tell the same of moved letters -/
theorem mv_iff (h : Sc n m A B L K X Y) (hO : Mk L K X 1 O) (hI : Mk L K Y 2 I) {o i : Int} (ho : 0 ≤ o ∧ o < L) (hi : 0 ≤ i ∧ i < L) (k1 : K o = 1) (k2 : K i = 2) : mvM n m A B O I (X o) (Y i) ↔ mvp L K (ltF A B K X Y) o i := by
  have s1 := h.2.2 o ho.1 ho.2
  have s2 := h.2.2 i hi.1 hi.2
  have r1 := h.2.1 (o + 1) (by omega) (by omega)
  have r2 := h.2.1 (i + 1) (by omega) (by omega)
  have r3 := h.2.1 o ho.1 (by omega)
  have r4 := h.2.1 i hi.1 (by omega)
  have e1 := hO.1 o ho.1 ho.2 k1
  have e2 := hI.1 i hi.1 hi.2 k2
  unfold mvM mvp
  have l1 : ltF A B K X Y o = A (X o) := if_neg (by omega)
  have l2 : ltF A B K X Y i = B (Y i) := if_pos k2
  rw [e1, e2, kx_in ho, kx_in hi, kx_in ho, kx_in hi, l1, l2]
  constructor
  · intro hc; exact ⟨k1, k2, hc.2.2.2⟩
  · intro hc; exact ⟨by omega, by omega, by omega, hc.2.2⟩
theorem mv_kk {Lt : Int → Int} {o i : Int} (h : mvp L K Lt o i) : (0 ≤ o ∧ o < L) ∧ (0 ≤ i ∧ i < L) ∧ K o = 1 ∧ K i = 2 := by
  obtain ⟨h1, h2, -⟩ := h
  unfold kx at h1 h2
  by_cases ho : 0 ≤ o ∧ o < L
  · rw [if_pos ho] at h1
    by_cases hi : 0 ≤ i ∧ i < L
    · rw [if_pos hi] at h2
      exact ⟨ho, hi, h1, h2⟩
    · rw [if_neg hi] at h2; omega
  · rw [if_neg ho] at h1; omega
theorem go_iff (h : Sc n m A B L K X Y) (hO : Mk L K X 1 O) (hI : Mk L K Y 2 I) {o i : Int} (hp : mvp L K (ltF A B K X Y) o i) : goM n m A B O I (X o) (Y i) ↔ mvp L K (ltF A B K X Y) (o - 1) (i - 1) := by
  obtain ⟨ho, hi, k1, k2⟩ := mv_kk hp
  have hmv := (mv_iff h hO hI ho hi k1 k2).mpr hp
  have e1 := hO.1 o ho.1 ho.2 k1
  have e2 := hI.1 i hi.1 hi.2 k2
  constructor
  · rintro ⟨-, g1, g2, g3⟩
    have p1 := hO.2.2 (X o - 1)
    have p2 := hI.2.2 (Y i - 1)
    rw [show O (X o - 1) = o - 1 by omega] at p1
    rw [show I (Y i - 1) = i - 1 by omega] at p2
    have q1 : (0 ≤ o - 1 ∧ o - 1 < L) ∧ K (o - 1) = 1 ∧ X (o - 1) = X o - 1 := by
      rcases p1 with p1 | p1
      · have := g1.2.1; omega
      · exact p1
    have q2 : (0 ≤ i - 1 ∧ i - 1 < L) ∧ K (i - 1) = 2 ∧ Y (i - 1) = Y i - 1 := by
      rcases p2 with p2 | p2
      · have := g1.2.2.1; omega
      · exact p2
    have := (mv_iff h hO hI q1.1 q2.1 q1.2.1 q2.2.1).mp
    rw [q1.2.2, q2.2.2] at this
    exact this g1
  · intro hp2
    obtain ⟨ho2, hi2, k3, k4⟩ := mv_kk hp2
    have s1 := h.2.2 (o - 1) ho2.1 ho2.2
    have s2 := h.2.2 (i - 1) hi2.1 hi2.2
    rw [show o - 1 + 1 = o by omega] at s1
    rw [show i - 1 + 1 = i by omega] at s2
    have x1 : X (o - 1) = X o - 1 := by omega
    have y1 : Y (i - 1) = Y i - 1 := by omega
    have f1 := hO.1 (o - 1) ho2.1 ho2.2 k3
    have f2 := hI.1 (i - 1) hi2.1 hi2.2 k4
    have hm2 := (mv_iff h hO hI ho2 hi2 k3 k4).mpr hp2
    rw [x1] at f1 hm2
    rw [y1] at f2 hm2
    exact ⟨hmv, hm2, by omega, by omega⟩
theorem gr_is (h : Sc n m A B L K X Y) (hO : Mk L K X 1 O) (hI : Mk L K Y 2 I) : ∀ (t : Nat) (o i : Int), mvp L K (ltF A B K X Y) o i → grM n m A B O I t (X o + 1) (Y i + 1) = mrun L K (ltF A B K X Y) t (o + 1) (i + 1)
  | 0, _, _, _ => rfl
  | t + 1, o, i, hp => by
    obtain ⟨ho, hi, k1, k2⟩ := mv_kk hp
    have s1 := h.2.2 o ho.1 ho.2
    have s2 := h.2.2 i hi.1 hi.2
    have x1 : X (o + 1) = X o + 1 := by omega
    have y1 : Y (i + 1) = Y i + 1 := by omega
    simp only [grM, mrun]
    by_cases hn : mvp L K (ltF A B K X Y) (o + 1) (i + 1)
    · have hg := (go_iff h hO hI hn).mpr (by rw [show o + 1 - 1 = o by omega, show i + 1 - 1 = i by omega]; exact hp)
      rw [x1, y1] at hg
      rw [if_pos hg, if_pos hn]
      have ih := gr_is h hO hI t (o + 1) (i + 1) hn
      rw [x1, y1] at ih
      rw [ih]
    · rw [if_neg hn]
      rw [if_neg (fun hg => hn ?_)]
      have e1 := hO.1 o ho.1 ho.2 k1
      have e2 := hI.1 i hi.1 hi.2 k2
      obtain ⟨g0, -, g2, g3⟩ := hg
      rw [show X o + 1 - 1 = X o by omega] at g2
      rw [show Y i + 1 - 1 = Y i by omega] at g3
      have p1 := hO.2.2 (X o + 1)
      have p2 := hI.2.2 (Y i + 1)
      rw [show O (X o + 1) = o + 1 by omega] at p1
      rw [show I (Y i + 1) = i + 1 by omega] at p2
      have q1 : (0 ≤ o + 1 ∧ o + 1 < L) ∧ K (o + 1) = 1 ∧ X (o + 1) = X o + 1 := by
        rcases p1 with p1 | p1
        · omega
        · exact p1
      have q2 : (0 ≤ i + 1 ∧ i + 1 < L) ∧ K (i + 1) = 2 ∧ Y (i + 1) = Y i + 1 := by
        rcases p2 with p2 | p2
        · omega
        · exact p2
      have := (mv_iff h hO hI q1.1 q2.1 q1.2.1 q2.2.1).mp
      rw [q1.2.2, q2.2.2] at this
      exact this g0
/-- a block by its steps -/
theorem bk_is (h : Sc n m A B L K X Y) (hO : Mk L K X 1 O) (hI : Mk L K Y 2 I) {o i : Int} (ho : 0 ≤ o ∧ o < L) (hi : 0 ≤ i ∧ i < L) (k1 : K o = 1) (k2 : K i = 2) : bkM n m A B O I lb (X o) (Y i) = if mvp L K (ltF A B K X Y) o i ∧ ¬ mvp L K (ltF A B K X Y) (o - 1) (i - 1) ∧ lb ≤ sz L K (ltF A B K X Y) o i then sz L K (ltF A B K X Y) o i else 0 := by
  unfold bkM
  by_cases hp : mvp L K (ltF A B K X Y) o i
  · have hmv := (mv_iff h hO hI ho hi k1 k2).mpr hp
    have hgo := go_iff h hO hI hp
    have hgr := gr_is h hO hI 27 o i hp
    have esz : sz L K (ltF A B K X Y) o i = 1 + mrun L K (ltF A B K X Y) 27 (o + 1) (i + 1) := by
      unfold sz
      simp only [mrun]
      rw [if_pos hp]
    rw [hgr, ← esz]
    by_cases hq : mvp L K (ltF A B K X Y) (o - 1) (i - 1)
    · rw [if_neg (fun hc => hc.2 (hgo.mpr hq)), if_neg (fun hc => hc.2.1 hq)]
    · rw [if_pos ⟨hmv, fun hc => hq (hgo.mp hc)⟩]
      by_cases hl : lb ≤ sz L K (ltF A B K X Y) o i
      · rw [if_neg (by omega), if_pos ⟨hp, hq, hl⟩]
      · rw [if_pos (by omega), if_neg (fun hc => hl hc.2.2)]
  · rw [if_neg (fun hc => hp ((mv_iff h hO hI ho hi k1 k2).mp hc.1)), if_neg (fun hc => hp hc.1)]
theorem bk_r (x y : Int) : 0 ≤ bkM n m A B O I lb x y ∧ bkM n m A B O I lb x y ≤ 28 := by
  have hg : ∀ (t : Nat) (x y : Int), 0 ≤ grM n m A B O I t x y ∧ grM n m A B O I t x y ≤ t := by
    intro t
    induction t with
    | zero => intro x y; simp [grM]
    | succ t ih =>
      intro x y
      have := ih (x + 1) (y + 1)
      simp only [grM]
      split <;> omega
  have := hg 27 (x + 1) (y + 1)
  unfold bkM
  split
  · split <;> omega
  · omega
theorem bk_0 {x y : Int} (h : ¬ mvM n m A B O I x y) : bkM n m A B O I lb x y = 0 := if_neg (fun hc => h hc.1)
/-- blocks of a length in the order of places -/
def ryM (n m : Int) (A B O I : Int → Int) (lb l : Int) (x : Int) : Nat → List B3
  | 0 => []
  | t + 1 => ryM n m A B O I lb l x t ++ (if bkM n m A B O I lb x t = l then [(l, x, (t : Int))] else [])
def rxM (n m : Int) (A B O I : Int → Int) (lb l : Int) : Nat → List B3
  | 0 => []
  | s + 1 => rxM n m A B O I lb l s ++ ryM n m A B O I lb l s m.toNat
def mlM (n m : Int) (A B O I : Int → Int) (lb : Int) : Nat → List B3
  | 0 => []
  | k + 1 => mlM n m A B O I lb k ++ rxM n m A B O I lb (28 - k) n.toNat
theorem ry_0 {l x : Int} (hl : 1 ≤ l) (h : ∀ y, ¬ mvM n m A B O I x y) : ∀ t : Nat, ryM n m A B O I lb l x t = []
  | 0 => rfl
  | t + 1 => by
    simp only [ryM]
    rw [ry_0 hl h t, bk_0 (h t), if_neg (by omega)]
    rfl
/-- from steps to places -/
abbrev gB (X Y : Int → Int) : B3 → B3 := fun q => (q.1, X q.2.1, Y q.2.2)
theorem fsz_app (a b : List B3) (s : Int) : fsz (a ++ b) s = fsz a s ++ fsz b s := by unfold fsz; rw [List.filter_append]
theorem brow_is (h : Sc n m A B L K X Y) (hO : Mk L K X 1 O) (hI : Mk L K Y 2 I) {l s : Int} (hl : 1 ≤ l) (hs : 0 ≤ s ∧ s < L) (hk : K s = 1) : ∀ t : Nat, (t : Int) ≤ L → (fsz (brow L K (ltF A B K X Y) lb s t) l).map (gB X Y) = ryM n m A B O I lb l (X s) (Y t).toNat
  | 0, _ => by
    rw [show (Y ((0 : Nat) : Int)).toNat = 0 by have := h.1.2.1; simp [this]]
    rfl
  | t + 1, ht => by
    have ih := brow_is h hO hI hl hs hk t (by omega)
    have st := h.2.2 t (by omega) (by omega)
    have r := h.2.1 t (by omega) (by omega)
    rw [show ((t + 1 : Nat) : Int) = (t : Int) + 1 by omega]
    simp only [brow]
    rw [fsz_app, List.map_append, ih]
    rcases st with ⟨k0, -, y1, -⟩ | ⟨k1, -, y1⟩ | ⟨k2, -, y1⟩
    · have hno : ¬ mvp L K (ltF A B K X Y) s t := fun hc => by have := (mv_kk hc).2.2.2; omega
      rw [if_neg (fun hc => hno hc.1), y1, show (Y t + 1).toNat = (Y t).toNat + 1 by omega]
      simp only [ryM]
      rw [show ((Y t).toNat : Int) = Y t by omega, bk_0 (fun hc => by have := hI.2.1 t (by omega) (by omega) k0; have := hc.2.2.1; omega), if_neg (by omega)]
      rfl
    · have hno : ¬ mvp L K (ltF A B K X Y) s t := fun hc => by have := (mv_kk hc).2.2.2; omega
      rw [if_neg (fun hc => hno hc.1), y1]
      simp [fsz]
    · rw [y1, show (Y t + 1).toNat = (Y t).toNat + 1 by omega]
      simp only [ryM]
      rw [show ((Y t).toNat : Int) = Y t by omega, bk_is h hO hI hs ⟨by omega, by omega⟩ hk k2]
      congr 1
      by_cases hc : mvp L K (ltF A B K X Y) s t ∧ ¬ mvp L K (ltF A B K X Y) (s - 1) (t - 1) ∧ lb ≤ sz L K (ltF A B K X Y) s t
      · rw [if_pos hc, if_pos hc]
        by_cases he : sz L K (ltF A B K X Y) s t = l
        · rw [if_pos he]
          simp [fsz, List.filter_cons, he]
        · rw [if_neg he]
          simp [fsz, List.filter_cons, he]
      · rw [if_neg hc, if_neg hc, if_neg (by omega)]
        simp [fsz]
theorem ball_is (h : Sc n m A B L K X Y) (hO : Mk L K X 1 O) (hI : Mk L K Y 2 I) {l : Int} (hl : 1 ≤ l) : ∀ s : Nat, (s : Int) ≤ L → (fsz (ball L K (ltF A B K X Y) lb s) l).map (gB X Y) = rxM n m A B O I lb l (X s).toNat
  | 0, _ => by
    rw [show (X ((0 : Nat) : Int)).toNat = 0 by have := h.1.1; simp [this]]
    rfl
  | s + 1, hs => by
    have ih := ball_is h hO hI hl s (by omega)
    have st := h.2.2 s (by omega) (by omega)
    have r := h.2.1 s (by omega) (by omega)
    rw [show ((s + 1 : Nat) : Int) = (s : Int) + 1 by omega]
    simp only [ball]
    rw [fsz_app, List.map_append, ih]
    rcases st with ⟨k0, x1, -, -⟩ | ⟨k1, x1, -⟩ | ⟨k2, x1, -⟩
    · rw [brow_0 (by rw [kx_in ⟨by omega, by omega⟩]; omega), x1, show (X s + 1).toNat = (X s).toNat + 1 by omega]
      simp only [rxM]
      rw [show ((X s).toNat : Int) = X s by omega, ry_0 hl (fun y hc => by have := hO.2.1 s (by omega) (by omega) k0; have := hc.2.1; omega)]
      simp [fsz]
    · have hb := brow_is (lb := lb) h hO hI hl ⟨by omega, by omega⟩ k1 L.toNat (by omega)
      rw [show ((L.toNat : Nat) : Int) = L by omega, h.1.2.2.2] at hb
      rw [hb, x1, show (X s + 1).toNat = (X s).toNat + 1 by omega]
      simp only [rxM]
      rw [show ((X s).toNat : Int) = X s by omega]
    · rw [brow_0 (by rw [kx_in ⟨by omega, by omega⟩]; omega), x1]
      simp [fsz]
theorem bs_is (hL : 0 ≤ L) (h : Sc n m A B L K X Y) (hO : Mk L K X 1 O) (hI : Mk L K Y 2 I) : ∀ k : Nat, k ≤ 28 → (bsN (ball L K (ltF A B K X Y) lb L.toNat) k).map (gB X Y) = mlM n m A B O I lb k
  | 0, _ => rfl
  | k + 1, hk => by
    have ih := bs_is hL h hO hI k (by omega)
    have hb := ball_is (lb := lb) h hO hI (l := 28 - (k : Int)) (by omega) L.toNat (by omega)
    rw [show ((L.toNat : Nat) : Int) = L by omega, h.1.2.2.1] at hb
    simp only [bsN, mlM]
    rw [List.map_append, ih, hb]
theorem bsN_cons (q : B3) (hq : q.1 ≤ 28) (l : List B3) : ∀ k : Nat, (bsN (q :: l) k).length = (bsN l k).length + (if 28 - (k : Int) < q.1 then 1 else 0)
  | 0 => by
    rw [if_neg (by omega)]
    rfl
  | k + 1 => by
    have ih := bsN_cons q hq l k
    simp only [bsN, List.length_append]
    rw [ih]
    have e : (fsz (q :: l) (28 - (k : Int))).length = (fsz l (28 - (k : Int))).length + (if q.1 = 28 - (k : Int) then 1 else 0) := by
      unfold fsz
      by_cases hc : q.1 = 28 - (k : Int)
      · rw [if_pos hc]
        simp [List.filter_cons, hc]
      · rw [if_neg hc]
        simp [List.filter_cons, hc]
    rw [e]
    by_cases h1 : 28 - (k : Int) < q.1
    · rw [if_pos h1, if_neg (show ¬ q.1 = 28 - (k : Int) by omega), if_pos (show 28 - ((k + 1 : Nat) : Int) < q.1 by omega)]
      omega
    · by_cases h2 : q.1 = 28 - (k : Int)
      · rw [if_neg h1, if_pos h2, if_pos (show 28 - ((k + 1 : Nat) : Int) < q.1 by omega)]
        omega
      · rw [if_neg h1, if_neg h2, if_neg (show ¬ 28 - ((k + 1 : Nat) : Int) < q.1 by omega)]
        omega
theorem bs_len : ∀ l : List B3, (∀ q ∈ l, 1 ≤ q.1 ∧ q.1 ≤ 28) → (bs l).length = l.length
  | [], _ => by
    have : ∀ k : Nat, bsN [] k = [] := by
      intro k
      induction k with
      | zero => rfl
      | succ k ih => simp [bsN, ih, fsz]
    unfold bs
    rw [this]
  | q :: l, h => by
    have ih := bs_len l (fun q' hq' => h q' (List.mem_cons_of_mem _ hq'))
    have hq := h q List.mem_cons_self
    unfold bs at *
    rw [bsN_cons q hq.2, ih, if_pos (by omega)]
    rfl
end BLOCKS2
