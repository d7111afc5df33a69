/-! ===== DiagonalTextsModel: hunks ===== -/
/-- how many steps are not of a kind -/
def wo (K : Int → Int) (v a : Int) : Nat → Int
  | 0 => 0
  | t + 1 => wo K v a t + (if K (a + t) = v then 0 else 1)
theorem wo_add (K : Int → Int) (v a : Int) (s : Nat) : ∀ t : Nat, wo K v a (s + t) = wo K v a s + wo K v (a + s) t
  | 0 => by simp [wo]
  | t + 1 => by
    have ih := wo_add K v a s t
    rw [← Nat.add_assoc]
    simp only [wo]
    rw [ih, show a + ((s + t : Nat) : Int) = a + s + t by omega]
    omega
theorem wo_0 (K : Int → Int) (v a : Int) : ∀ t : Nat, (∀ j, a ≤ j → j < a + t → K j = v) → wo K v a t = 0
  | 0, _ => rfl
  | t + 1, h => by
    simp only [wo]
    rw [wo_0 K v a t (fun j j1 j2 => h j j1 (by omega)), if_pos (h _ (by omega) (by omega))]
    rfl
theorem wo_r (K : Int → Int) (v a : Int) : ∀ t : Nat, 0 ≤ wo K v a t ∧ wo K v a t ≤ t
  | 0 => by simp [wo]
  | t + 1 => by
    have ih := wo_r K v a t
    simp only [wo]
    split <;> omega
def wI (K : Int → Int) (v a b : Int) : Int := wo K v a (b - a).toNat
section WI
variable {K X Y A B : Int → Int} {v a b c n m L : Int}
theorem wI_split (h1 : a ≤ b) (h2 : b ≤ c) : wI K v a c = wI K v a b + wI K v b c := by
  unfold wI
  rw [show (c - a).toNat = (b - a).toNat + (c - b).toNat by omega, wo_add, show a + ((b - a).toNat : Int) = b by omega]
theorem wI_0 (h : ∀ j, a ≤ j → j < b → K j = v) : wI K v a b = 0 := wo_0 _ _ _ _ (fun j j1 j2 => h j j1 (by omega))
theorem wI_e : wI K v a a = 0 := wI_0 (fun j j1 j2 => by omega)
theorem wI_s (h : a ≤ b) : wI K v a (b + 1) = wI K v a b + (if K b = v then 0 else 1) := by
  unfold wI
  rw [show (b + 1 - a).toNat = (b - a).toNat + 1 by omega]
  simp only [wo]
  rw [show a + ((b - a).toNat : Int) = b by omega]
theorem wI_r (h : a ≤ b) : 0 ≤ wI K v a b ∧ wI K v a b ≤ b - a := by
  have := wo_r K v a (b - a).toNat
  unfold wI
  omega
theorem wI_X (h : Sc n m A B L K X Y) (ha : 0 ≤ a) : ∀ t : Nat, a + t ≤ L → wI K 2 a (a + t) = X (a + t) - X a ∧ wI K 1 a (a + t) = Y (a + t) - Y a
  | 0, _ => by
    rw [show a + ((0 : Nat) : Int) = a by omega, wI_e, wI_e]
    omega
  | t + 1, ht => by
    have ih := wI_X h ha t (by omega)
    have hs := h.2.2 (a + t) (by omega) (by omega)
    rw [show a + ((t + 1 : Nat) : Int) = a + t + 1 by omega, wI_s (by omega), wI_s (by omega)]
    rcases hs with hs | hs | hs
    · rw [if_neg (by omega), if_neg (by omega)]; omega
    · rw [if_neg (by omega), if_pos (by omega)]; omega
    · rw [if_pos (by omega), if_neg (by omega)]; omega
theorem wI_XY (h : Sc n m A B L K X Y) (ha : 0 ≤ a) (hb : a ≤ b) (hL : b ≤ L) : wI K 2 a b = X b - X a ∧ wI K 1 a b = Y b - Y a := by
  have := wI_X h ha (b - a).toNat (by omega)
  rw [show a + ((b - a).toNat : Int) = b by omega] at this
  exact this
end WI
/-- what hunks are: first edits, last edits, counts -/
def HOK (r : Int) (K : Int → Int) (s c : Int) (F E C : Int → Int) : Prop :=
  (0 ≤ c ∧ E (-1) = -1) ∧ (∀ i, 0 ≤ i → i < c → (0 ≤ F i ∧ E (i - 1) < F i ∧ F i ≤ E i ∧ E i < s) ∧ (K (F i) ≠ 0 ∧ K (E i) ≠ 0) ∧ C i = wI K 0 (F i) (E i + 1) ∧ (∀ j, F i ≤ j → j < E i → ∃ j', j < j' ∧ j' ≤ j + 2 * r + 1 ∧ j' ≤ E i ∧ K j' ≠ 0) ∧ (∀ j, E (i - 1) < j → j < F i → K j = 0) ∧ (0 < i → E (i - 1) + 2 * r + 1 < F i)) ∧ (∀ j, E (c - 1) < j → j < s → K j = 0) ∧ E (c - 1) < s ∧ -1 ≤ E (c - 1)
theorem hk_ok (r : Int) (hr : 0 ≤ r) (K : Int → Int) : ∀ s : Nat, HOK r K s (hk r K s).1 (hk r K s).2.1 (hk r K s).2.2.1 (hk r K s).2.2.2
  | 0 => by
    refine ⟨⟨by simp [hk], by simp [hk]⟩, fun i i1 i2 => ?_, fun j j1 j2 => ?_, by simp [hk], by simp [hk]⟩
    · simp [hk] at i2; omega
    · simp [hk] at j1; omega
  | s + 1 => by
    have ih := hk_ok r hr K s
    generalize hq : hk r K s = q at ih
    obtain ⟨c, F, E, C⟩ := q
    obtain ⟨⟨h1, h2⟩, h3, h4, h5, h6⟩ := ih
    simp only at h1 h2 h3 h4 h5 h6
    by_cases hK : K s = 0
    · have e : hk r K (s + 1) = (c, F, E, C) := by simp only [hk]; rw [if_pos hK, hq]
      rw [e]
      refine ⟨⟨h1, h2⟩, fun i i1 i2 => ?_, fun j j1 j2 => ?_, by simp only; omega, h6⟩
      · obtain ⟨g1, g2⟩ := h3 i i1 i2
        exact ⟨by simp only; omega, g2⟩
      · by_cases hj : j = s
        · rw [hj]; exact hK
        · exact h4 j j1 (by omega)
    · by_cases hc : c = 0 ∨ 2 * r < (s : Int) - E (c - 1) - 1
      · have e : hk r K (s + 1) = (c + 1, up1 F c s, up1 E c s, up1 C c 1) := by simp only [hk]; rw [if_neg hK, hq, if_pos hc]
        rw [e]
        refine ⟨⟨by simp only; omega, by simp only; rw [up1_n _ _ (by omega)]; exact h2⟩, fun i i1 i2 => ?_, fun j j1 j2 => ?_, ?_, ?_⟩
        · simp only at i2 ⊢
          by_cases hi : i = c
          · subst hi
            rw [up1_s, up1_s, up1_s, up1_n _ _ (show i - 1 ≠ i by omega)]
            refine ⟨by omega, ⟨hK, hK⟩, ?_, fun j j1 j2 => by omega, h4, fun _ => by omega⟩
            rw [wI_s (by omega), wI_e, if_neg hK]
            rfl
          · rw [up1_n _ _ hi, up1_n _ _ hi, up1_n _ _ hi, up1_n _ _ (show i - 1 ≠ c by omega)]
            obtain ⟨g1, g2⟩ := h3 i i1 (by omega)
            exact ⟨by omega, g2⟩
        · simp only at j1
          rw [show c + 1 - 1 = c by omega, up1_s] at j1
          omega
        · simp only
          rw [show c + 1 - 1 = c by omega, up1_s]
          omega
        · simp only
          rw [show c + 1 - 1 = c by omega, up1_s]
          omega
      · have e : hk r K (s + 1) = (c, F, up1 E (c - 1) s, up1 C (c - 1) (C (c - 1) + 1)) := by simp only [hk]; rw [if_neg hK, hq, if_neg hc]
        rw [e]
        refine ⟨⟨h1, by simp only; rw [up1_n _ _ (by omega)]; exact h2⟩, fun i i1 i2 => ?_, fun j j1 j2 => ?_, ?_, ?_⟩
        · simp only at i2 ⊢
          by_cases hi : i = c - 1
          · subst hi
            obtain ⟨g1, g2, g3, g4, g5, g6⟩ := h3 (c - 1) i1 i2
            rw [up1_s, up1_s, up1_n _ _ (show c - 1 - 1 ≠ c - 1 by omega)]
            refine ⟨by omega, ⟨g2.1, hK⟩, ?_, fun j j1 j2 => ?_, g5, g6⟩
            · rw [g3, wI_s (a := F (c - 1)) (b := (s : Int)) (by omega), if_neg hK, wI_split (a := F (c - 1)) (b := E (c - 1) + 1) (c := s) (by omega) (by omega), wI_0 (a := E (c - 1) + 1) (fun j j1 j2 => h4 j (by omega) j2)]
              omega
            · by_cases hj : j < E (c - 1)
              · obtain ⟨j', k1, k2, k3, k4⟩ := g4 j j1 hj
                exact ⟨j', k1, k2, by omega, k4⟩
              · exact ⟨s, j2, by omega, Int.le_refl _, hK⟩
          · rw [up1_n _ _ hi, up1_n _ _ hi, up1_n _ _ (show i - 1 ≠ c - 1 by omega)]
            obtain ⟨g1, g2⟩ := h3 i i1 i2
            exact ⟨by omega, g2⟩
        · simp only at j1
          rw [up1_s] at j1
          omega
        · simp only
          rw [up1_s]
          omega
        · simp only
          rw [up1_s]
          omega
/-- no edit between hunks; the next one's distance -/
theorem HOK.gap {r s c i : Int} {K F E C : Int → Int} (h : HOK r K s c F E C) (hr : 0 ≤ r) (hi : 0 ≤ i) (hc : i < c) : ∀ j, E i < j → j < s → j ≤ E i + 2 * r + 1 → K j = 0 := fun j j1 j2 j3 => by
  by_cases hl : i = c - 1
  · exact h.2.2.1 j (by rw [← hl]; exact j1) j2
  · obtain ⟨-, -, -, -, g5, g6⟩ := h.2.1 (i + 1) (by omega) (by omega)
    rw [show i + 1 - 1 = i by omega] at g5 g6
    have := g6 (by omega)
    exact g5 j j1 (by omega)
theorem HOK.low {r s c : Int} {K F E C : Int → Int} (h : HOK r K s c F E C) {i : Int} (hi : 0 ≤ i) (hc : i < c) : -1 ≤ E (i - 1) := by
  by_cases h0 : i = 0
  · subst h0
    rw [show (0 : Int) - 1 = -1 by omega, h.1.2]
    decide
  · have := (h.2.1 (i - 1) (by omega) (by omega)).1
    omega
theorem HOK.cnt {r s c i : Int} {K F E C : Int → Int} (h : HOK r K s c F E C) (hr : 0 ≤ r) (hi : 0 ≤ i) (hc : i < c) : wI K 0 (max (F i - r) 0) (min (E i + 1 + r) s) = C i := by
  obtain ⟨g1, g2, g3, g4, g5, g6⟩ := h.2.1 i hi hc
  have hg := h.gap hr hi hc
  have hl := h.low hi hc
  have z1 : wI K 0 (max (F i - r) 0) (F i) = 0 := wI_0 (fun j j1 j2 => g5 j (by
    by_cases h0 : i = 0
    · subst h0
      have := h.1.2
      rw [show (0 : Int) - 1 = -1 by omega, this]
      omega
    · have := g6 (by omega)
      omega) j2)
  have z2 : wI K 0 (E i + 1) (min (E i + 1 + r) s) = 0 := wI_0 (fun j j1 j2 => hg j (by omega) (by omega) (by omega))
  rw [wI_split (b := F i) (by omega) (by omega), wI_split (a := F i) (b := E i + 1) (by omega) (by omega), z1, z2, g3]
  omega
section MODEL14
variable {mi mi1 mi2 mi3 mi4 : MI} {mr : MR} {n m n' m' tl D L r : Int} {A B A' B' Z T : Int → Int} {K X Y F E C : Int → Int} {hs hs' : List St} {u : Int × (Int → Int)} {σ : St}
/-- the steps' kinds, in the Model -/
def KiM (mi : MI) (L : Int) (K : Int → Int) : Prop := mi 62 13 = L ∧ (0 ≤ L ∧ L ≤ 56) ∧ ∀ j, 0 ≤ j → j < L → mi 68 (3 * j) = K j ∧ 0 ≤ K j ∧ K j ≤ 2
theorem KiM.keep (h : KiM mi L K) (h1 : mi1 62 13 = mi 62 13) (h2 : mi1 68 = mi 68) : KiM mi1 L K := ⟨by rw [h1]; exact h.1, h.2.1, fun j j1 j2 => by rw [h2]; exact h.2.2 j j1 j2⟩
set_option maxRecDepth 100000 in
set_option maxHeartbeats 1000000 in
theorem l1_X11_hunkFrom {Q : PQ} {b e : Int} {o3 o4 : Option AV} (hG : Gr mr) (hK : KiM mi L K) (hb : 0 ≤ b) (he : e ≤ L) (hz : ∀ j, b ≤ j → j < e → K j = 0) (hn : e < L → K e ≠ 0)
    (kk : V (RX11, cX11_hunkFrom, 5, rm 1, false, none, (some .boolean)) Q 0 0 SH mi mr [some (vr 62), some (vi b), some (vi e), o3, o4] [] 24) :
    ∀ (t : Nat) (k : Int), b ≤ k → k ≤ e → e - k < t → V (RX11, cX11_hunkFrom, 5, rm 1, false, none, (some .boolean)) Q 0 0 SH mi mr [some (vr 62), some (vi b), some (vi k), o3, o4] [] 2 := by
  obtain ⟨q13, hL, hK⟩ := hK
  intro t
  induction t with
  | zero => intro k a1 a2 a3; omega
  | succ t ih =>
    intro k a1 a2 a3
    by_cases hk : k = e
    · subst hk
      by_cases hl : L ≤ k
      · refine V_iload_n dX11_hunkFrom_2 rfl ?_
        refine V_aload_n dX11_hunkFrom_3 rfl ?_
        refine V_geti 13 dX11_hunkFrom_4 fl_RX11_95 (by first | with_reducible assumption | rfl) rfl rfl ?_
        rw [q13]
        refine V_icmp_ge 24 dX11_hunkFrom_7 (by decide) (by omega) (by omega) (fun _ => ?_) (fun h7 => absurd h7 ((not_not_intro hl)))
        exact kk
      · have h0 := hK k (by omega) (by omega)
        refine V_iload_n dX11_hunkFrom_2 rfl ?_
        refine V_aload_n dX11_hunkFrom_3 rfl ?_
        refine V_geti 13 dX11_hunkFrom_4 fl_RX11_95 (by first | with_reducible assumption | rfl) rfl rfl ?_
        rw [q13]
        refine V_icmp_ge 24 dX11_hunkFrom_7 (by decide) (by omega) (by omega) (fun h7 => absurd h7 (hl)) (fun _ => ?_)
        refine V_aload_n dX11_hunkFrom_10 rfl ?_
        refine V_iload_n dX11_hunkFrom_11 rfl ?_
        refine V_callVP dX11_hunkFrom_12 ml_RX11_106 km_X11_kind kv_X11_kind (c_X11_kind hG (by omega)) (by first | with_reducible assumption | rfl) rfl rfl rfl (Nat.le_of_ble_eq_true rfl) ⟨Nat.le_of_ble_eq_true rfl, Nat.le_of_ble_eq_true rfl⟩ ⟨Nat.le_of_ble_eq_true rfl, Nat.le_of_ble_eq_true rfl⟩ ?_
        rw [h0.1]
        refine V_if_ne 24 dX11_hunkFrom_15 (by decide) (by omega) (fun _ => ?_) (fun h15 => absurd h15 ((hn (by omega))))
        exact kk
    · have h0 := hK k (by omega) (by omega)
      have hz0 := hz k a1 (by omega)
      refine V_iload_n dX11_hunkFrom_2 rfl ?_
      refine V_aload_n dX11_hunkFrom_3 rfl ?_
      refine V_geti 13 dX11_hunkFrom_4 fl_RX11_95 (by first | with_reducible assumption | rfl) rfl rfl ?_
      rw [q13]
      refine V_icmp_ge 24 dX11_hunkFrom_7 (by decide) (by omega) (by omega) (fun h7 => absurd h7 ((by omega))) (fun _ => ?_)
      refine V_aload_n dX11_hunkFrom_10 rfl ?_
      refine V_iload_n dX11_hunkFrom_11 rfl ?_
      refine V_callVP dX11_hunkFrom_12 ml_RX11_106 km_X11_kind kv_X11_kind (c_X11_kind hG (by omega)) (by first | with_reducible assumption | rfl) rfl rfl rfl (Nat.le_of_ble_eq_true rfl) ⟨Nat.le_of_ble_eq_true rfl, Nat.le_of_ble_eq_true rfl⟩ ⟨Nat.le_of_ble_eq_true rfl, Nat.le_of_ble_eq_true rfl⟩ ?_
      rw [h0.1, hz0]
      refine V_if_ne 24 dX11_hunkFrom_15 (by decide) (by omega) (fun h15 => absurd h15 ((by decide))) (fun _ => ?_)
      refine S_iinc (ls' := [_, _, _, _, _]) dX11_hunkFrom_18 rfl ⟨rfl, rfl⟩ rfl ?_
      refine V_goto 2 dX11_hunkFrom_21 (by decide) ?_
      exact ih (k + 1) (by omega) (by omega) (by omega)
set_option maxRecDepth 100000 in
set_option maxHeartbeats 1000000 in
theorem l2_X11_hunkFrom {Q : PQ} {b f e : Int} {o4 : Option AV} (hG : Gr mr) (hK : KiM mi L K) (hr : 0 ≤ r ∧ r ≤ 5) (q3 : mi 63 3 = r) (hf : 0 ≤ f ∧ e < L) (hin : ∀ j, f ≤ j → j < e → ∃ j', j < j' ∧ j' ≤ j + 2 * r + 1 ∧ j' ≤ e ∧ K j' ≠ 0) (hgap : ∀ j, e < j → j < L → j ≤ e + 2 * r + 1 → K j = 0)
    (kk : ∀ k, V (RX11, cX11_hunkFrom, 5, rm 1, false, none, (some .boolean)) Q 0 0 SH mi mr [some (vr 62), some (vi b), some (vi k), some (vi e), o4] [] 108) :
    ∀ (t : Nat) (k l : Int), f ≤ l → l ≤ e → l ≤ k → k ≤ L → L - k < t → (∀ j, l < j → j < k → K j = 0) → V (RX11, cX11_hunkFrom, 5, rm 1, false, none, (some .boolean)) Q 0 0 SH mi mr [some (vr 62), some (vi b), some (vi k), some (vi l), o4] [] 64 := by
  obtain ⟨q13, hL, hK⟩ := hK
  intro t
  induction t with
  | zero => intro k l a1 a2 a3 a4 a5; omega
  | succ t ih =>
    intro k l a1 a2 a3 a4 a5 a6
    have hend : (L ≤ k ∨ l + 2 * r + 1 < k) → l = e := fun hc => by
      by_cases hle : l < e
      · obtain ⟨j', k1, k2, k3, k4⟩ := hin l a1 hle
        exact absurd (a6 j' k1 (by omega)) k4
      · omega
    by_cases hl : L ≤ k
    · have := hend (Or.inl hl)
      subst this
      refine V_iload_n dX11_hunkFrom_64 rfl ?_
      refine V_aload_n dX11_hunkFrom_65 rfl ?_
      refine V_geti 13 dX11_hunkFrom_66 fl_RX11_95 (by first | with_reducible assumption | rfl) rfl rfl ?_
      rw [q13]
      refine V_icmp_ge 108 dX11_hunkFrom_69 (by decide) (by omega) (by omega) (fun _ => ?_) (fun h69 => absurd h69 ((not_not_intro hl)))
      exact kk k
    · have h0 := hK k (by omega) (by omega)
      by_cases hg : l + 2 * r + 1 < k
      · have := hend (Or.inr hg)
        subst this
        refine V_iload_n dX11_hunkFrom_64 rfl ?_
        refine V_aload_n dX11_hunkFrom_65 rfl ?_
        refine V_geti 13 dX11_hunkFrom_66 fl_RX11_95 (by first | with_reducible assumption | rfl) rfl rfl ?_
        rw [q13]
        refine V_icmp_ge 108 dX11_hunkFrom_69 (by decide) (by omega) (by omega) (fun h69 => absurd h69 (hl)) (fun _ => ?_)
        refine V_iload_n dX11_hunkFrom_72 rfl ?_
        refine V_iload_n dX11_hunkFrom_73 rfl ?_
        refine V_isub dX11_hunkFrom_74 ?_
        refine V_iconst dX11_hunkFrom_75 ?_
        refine V_aload_n dX11_hunkFrom_76 rfl ?_
        refine V_getr 0 _ dX11_hunkFrom_77 fl_RX11_7 (by first | with_reducible assumption | rfl) rfl rfl (by first | with_reducible assumption | exact hG.at rfl) ?_
        refine V_iconst dX11_hunkFrom_80 ?_
        refine V_iald dX11_hunkFrom_81 (by first | with_reducible assumption | rfl) (by decide) (by omega) ?_
        rw [q3]
        refine V_imul dX11_hunkFrom_82 ?_
        refine V_iconst dX11_hunkFrom_83 ?_
        refine V_iadd dX11_hunkFrom_84 ?_
        refine V_icmp_gt 108 dX11_hunkFrom_85 (by decide) (by omega) (by omega) (fun _ => ?_) (fun h85 => absurd h85 ((by omega)))
        exact kk k
      · by_cases hk : K k = 0
        · refine V_iload_n dX11_hunkFrom_64 rfl ?_
          refine V_aload_n dX11_hunkFrom_65 rfl ?_
          refine V_geti 13 dX11_hunkFrom_66 fl_RX11_95 (by first | with_reducible assumption | rfl) rfl rfl ?_
          rw [q13]
          refine V_icmp_ge 108 dX11_hunkFrom_69 (by decide) (by omega) (by omega) (fun h69 => absurd h69 (hl)) (fun _ => ?_)
          refine V_iload_n dX11_hunkFrom_72 rfl ?_
          refine V_iload_n dX11_hunkFrom_73 rfl ?_
          refine V_isub dX11_hunkFrom_74 ?_
          refine V_iconst dX11_hunkFrom_75 ?_
          refine V_aload_n dX11_hunkFrom_76 rfl ?_
          refine V_getr 0 _ dX11_hunkFrom_77 fl_RX11_7 (by first | with_reducible assumption | rfl) rfl rfl (by first | with_reducible assumption | exact hG.at rfl) ?_
          refine V_iconst dX11_hunkFrom_80 ?_
          refine V_iald dX11_hunkFrom_81 (by first | with_reducible assumption | rfl) (by decide) (by omega) ?_
          rw [q3]
          refine V_imul dX11_hunkFrom_82 ?_
          refine V_iconst dX11_hunkFrom_83 ?_
          refine V_iadd dX11_hunkFrom_84 ?_
          refine V_icmp_gt 108 dX11_hunkFrom_85 (by decide) (by omega) (by omega) (fun h85 => absurd h85 ((by omega))) (fun _ => ?_)
          refine V_aload_n dX11_hunkFrom_88 rfl ?_
          refine V_iload_n dX11_hunkFrom_89 rfl ?_
          refine V_callVP dX11_hunkFrom_90 ml_RX11_106 km_X11_kind kv_X11_kind (c_X11_kind hG (by omega)) (by first | with_reducible assumption | rfl) rfl rfl rfl (Nat.le_of_ble_eq_true rfl) ⟨Nat.le_of_ble_eq_true rfl, Nat.le_of_ble_eq_true rfl⟩ ⟨Nat.le_of_ble_eq_true rfl, Nat.le_of_ble_eq_true rfl⟩ ?_
          rw [h0.1]
          refine V_if_ne 100 dX11_hunkFrom_93 (by decide) (by omega) (fun h93 => absurd h93 ((not_not_intro hk))) (fun _ => ?_)
          refine V_iload_n dX11_hunkFrom_96 rfl ?_
          refine V_goto 101 dX11_hunkFrom_97 (by decide) ?_
          refine S_istore_n (ls' := [_, _, _, _, _]) dX11_hunkFrom_101 ⟨Nat.le_of_ble_eq_true rfl, rfl, rfl⟩ rfl ?_
          refine S_iinc (ls' := [_, _, _, _, _]) dX11_hunkFrom_102 rfl ⟨rfl, rfl⟩ rfl ?_
          refine V_goto 64 dX11_hunkFrom_105 (by decide) ?_
          exact ih (k + 1) l a1 a2 (by omega) (by omega) (by omega) (fun j j1 j2 => by by_cases hj : j = k; (rw [hj]; exact hk); exact a6 j j1 (by omega))
        · have hke : k ≤ e := by
            by_cases hle : k ≤ e
            · exact hle
            · exfalso
              by_cases hl2 : l < e
              · obtain ⟨j', k1, k2, k3, k4⟩ := hin l a1 hl2
                exact absurd (a6 j' k1 (by omega)) k4
              · exact hk (hgap k (by omega) (by omega) (by omega))
          refine V_iload_n dX11_hunkFrom_64 rfl ?_
          refine V_aload_n dX11_hunkFrom_65 rfl ?_
          refine V_geti 13 dX11_hunkFrom_66 fl_RX11_95 (by first | with_reducible assumption | rfl) rfl rfl ?_
          rw [q13]
          refine V_icmp_ge 108 dX11_hunkFrom_69 (by decide) (by omega) (by omega) (fun h69 => absurd h69 (hl)) (fun _ => ?_)
          refine V_iload_n dX11_hunkFrom_72 rfl ?_
          refine V_iload_n dX11_hunkFrom_73 rfl ?_
          refine V_isub dX11_hunkFrom_74 ?_
          refine V_iconst dX11_hunkFrom_75 ?_
          refine V_aload_n dX11_hunkFrom_76 rfl ?_
          refine V_getr 0 _ dX11_hunkFrom_77 fl_RX11_7 (by first | with_reducible assumption | rfl) rfl rfl (by first | with_reducible assumption | exact hG.at rfl) ?_
          refine V_iconst dX11_hunkFrom_80 ?_
          refine V_iald dX11_hunkFrom_81 (by first | with_reducible assumption | rfl) (by decide) (by omega) ?_
          rw [q3]
          refine V_imul dX11_hunkFrom_82 ?_
          refine V_iconst dX11_hunkFrom_83 ?_
          refine V_iadd dX11_hunkFrom_84 ?_
          refine V_icmp_gt 108 dX11_hunkFrom_85 (by decide) (by omega) (by omega) (fun h85 => absurd h85 ((by omega))) (fun _ => ?_)
          refine V_aload_n dX11_hunkFrom_88 rfl ?_
          refine V_iload_n dX11_hunkFrom_89 rfl ?_
          refine V_callVP dX11_hunkFrom_90 ml_RX11_106 km_X11_kind kv_X11_kind (c_X11_kind hG (by omega)) (by first | with_reducible assumption | rfl) rfl rfl rfl (Nat.le_of_ble_eq_true rfl) ⟨Nat.le_of_ble_eq_true rfl, Nat.le_of_ble_eq_true rfl⟩ ⟨Nat.le_of_ble_eq_true rfl, Nat.le_of_ble_eq_true rfl⟩ ?_
          rw [h0.1]
          refine V_if_ne 100 dX11_hunkFrom_93 (by decide) (by omega) (fun _ => ?_) (fun h93 => absurd h93 (hk))
          refine V_iload_n dX11_hunkFrom_100 rfl ?_
          refine S_istore_n (ls' := [_, _, _, _, _]) dX11_hunkFrom_101 ⟨Nat.le_of_ble_eq_true rfl, rfl, rfl⟩ rfl ?_
          refine S_iinc (ls' := [_, _, _, _, _]) dX11_hunkFrom_102 rfl ⟨rfl, rfl⟩ rfl ?_
          refine V_goto 64 dX11_hunkFrom_105 (by decide) ?_
          exact ih (k + 1) k (by omega) hke (by omega) (by omega) (by omega) (fun j j1 j2 => by omega)
/-- what hunkFrom leaves behind -/
abbrev PoH (i c a b : Int) (mi : MI) (mr : MR) : AV → MI → MR → Prop := fun v mi' mr' => v = vi (if i < c then 1 else 0) ∧ mr' = mr ∧ (i < c → mi' 62 20 = a ∧ mi' 62 21 = b) ∧ (∀ j, j ≠ 20 → j ≠ 21 → mi' 62 j = mi 62 j) ∧ ∀ z, z ≠ 62 → mi' z = mi z
/-- where the search for a hunk begins -/
def hb (E : Int → Int) (r L i : Int) : Int := if i = 0 then 0 else min (E (i - 1) + 1 + r) L
set_option maxRecDepth 100000 in
set_option maxHeartbeats 1000000 in
theorem c_X11_hunkFrom {i c : Int} (hG : Gr mr) (hK : KiM mi L K) (hr : 0 ≤ r ∧ r ≤ 5) (q3 : mi 63 3 = r) (hO : HOK r K L c F E C) (hi : 0 ≤ i ∧ i ≤ c) : C1 yX11_hunkFrom cX11_hunkFrom 5 (some .boolean) 1 SH mi mr [vr 62, vi (hb E r L i)] (PoH i c (max (F i - r) 0) (min (E i + 1 + r) L) mi mr) := by
  have q13 := hK.1
  have hL := hK.2.1
  by_cases hc : i < c
  · obtain ⟨g1, g2, g3, g4, g5, g6⟩ := hO.2.1 i hi.1 hc
    have hg := hO.gap hr.1 hi.1 hc
    have hl := hO.low hi.1 hc
    have hbb : (0 ≤ hb E r L i ∧ hb E r L i ≤ F i) ∧ E (i - 1) < hb E r L i ∧ max (F i - r) (hb E r L i) = max (F i - r) 0 := by
      unfold hb
      by_cases h0 : i = 0
      · subst h0
        have := hO.1.2
        rw [show (0 : Int) - 1 = -1 by omega, this, if_pos rfl]
        omega
      · have := g6 (by omega)
        rw [if_neg h0]
        omega
    generalize hb E r L i = b at hbb
    have tail : ∀ k', V (RX11, cX11_hunkFrom, 5, rm 1, false, none, (some .boolean)) (fun r' sh' mi' mr' => sh' = SH ∧ ∃ v, r' = some v ∧ PoH i c (max (F i - r) 0) (min (E i + 1 + r) L) mi mr v mi' mr') 0 0 SH (up2 mi 62 20 (max (F i - r) 0)) mr [some (vr 62), some (vi b), some (vi k'), some (vi (E i)), none] [] 108 := by
      intro k'
      have q13' : up2 mi 62 20 (max (F i - r) 0) 62 13 = L := by rw [up2_sn _ _ _ (by decide)]; exact q13
      have q3' : up2 mi 62 20 (max (F i - r) 0) 63 3 = r := by rw [up2_n _ _ _ (by decide)]; exact q3
      refine V_iload_n dX11_hunkFrom_108 rfl ?_
      refine V_iconst dX11_hunkFrom_109 ?_
      refine V_iadd dX11_hunkFrom_110 ?_
      refine V_aload_n dX11_hunkFrom_111 rfl ?_
      refine V_getr 0 _ dX11_hunkFrom_112 fl_RX11_7 (by first | with_reducible assumption | rfl) rfl rfl (by first | with_reducible assumption | exact hG.at rfl) ?_
      refine V_iconst dX11_hunkFrom_115 ?_
      refine V_iald dX11_hunkFrom_116 (by first | with_reducible assumption | rfl) (by decide) (by omega) ?_
      rw [q3']
      refine V_iadd dX11_hunkFrom_117 ?_
      refine S_istore (ls' := [_, _, _, _, _]) dX11_hunkFrom_118 ⟨Nat.le_of_ble_eq_true rfl, rfl, rfl⟩ rfl ?_
      refine V_aload_n dX11_hunkFrom_120 rfl ?_
      refine V_iload dX11_hunkFrom_121 rfl ?_
      refine V_aload_n dX11_hunkFrom_123 rfl ?_
      refine V_geti 13 dX11_hunkFrom_124 fl_RX11_95 (by first | with_reducible assumption | rfl) rfl rfl ?_
      rw [q13']
      refine V_icmp_ge 135 dX11_hunkFrom_127 (by decide) (by omega) (by omega) (fun h127 => ?_) (fun h127 => ?_)
      · refine V_aload_n dX11_hunkFrom_135 rfl ?_
        refine V_geti 13 dX11_hunkFrom_136 fl_RX11_95 (by first | with_reducible assumption | rfl) rfl rfl ?_
        rw [q13']
        refine V_puti 21 dX11_hunkFrom_139 fl_RX11_128 (by first | with_reducible assumption | rfl) rfl rfl rfl ?_
        refine V_iconst dX11_hunkFrom_142 ?_
        refine V_zret dX11_hunkFrom_143 rfl ⟨Nat.le_of_ble_eq_true rfl, Nat.le_of_ble_eq_true rfl⟩ (by first | exact Or.inl rfl | exact Or.inr rfl | omega) ?_
        exact ⟨rfl, _, rfl, by rw [if_pos hc], rfl, fun _ => ⟨by rw [up2_sn _ _ _ (by decide), up2_ss], by rw [up2_ss]; omega⟩, fun j j1 j2 => by rw [up2_sn _ _ _ j2, up2_sn _ _ _ j1], fun z z1 => by rw [up2_n _ _ _ z1, up2_n _ _ _ z1]⟩
      · refine V_iload dX11_hunkFrom_130 rfl ?_
        refine V_goto 139 dX11_hunkFrom_132 (by decide) ?_
        refine V_puti 21 dX11_hunkFrom_139 fl_RX11_128 (by first | with_reducible assumption | rfl) rfl rfl rfl ?_
        refine V_iconst dX11_hunkFrom_142 ?_
        refine V_zret dX11_hunkFrom_143 rfl ⟨Nat.le_of_ble_eq_true rfl, Nat.le_of_ble_eq_true rfl⟩ (by first | exact Or.inl rfl | exact Or.inr rfl | omega) ?_
        exact ⟨rfl, _, rfl, by rw [if_pos hc], rfl, fun _ => ⟨by rw [up2_sn _ _ _ (by decide), up2_ss], by rw [up2_ss]; omega⟩, fun j j1 j2 => by rw [up2_sn _ _ _ j2, up2_sn _ _ _ j1], fun z z1 => by rw [up2_n _ _ _ z1, up2_n _ _ _ z1]⟩
    have mid : ∀ v0, v0 = max (F i - r) 0 → V (RX11, cX11_hunkFrom, 5, rm 1, false, none, (some .boolean)) (fun r' sh' mi' mr' => sh' = SH ∧ ∃ v, r' = some v ∧ PoH i c (max (F i - r) 0) (min (E i + 1 + r) L) mi mr v mi' mr') 0 0 SH mi mr [some (vr 62), some (vi b), some (vi (F i)), none, none] [vi v0, vr 62] 59 := by
      rintro v0 rfl
      refine V_puti 20 dX11_hunkFrom_59 fl_RX11_125 (by first | with_reducible assumption | rfl) rfl rfl rfl ?_
      refine V_iload_n dX11_hunkFrom_62 rfl ?_
      refine S_istore_n (ls' := [_, _, _, _, _]) dX11_hunkFrom_63 ⟨Nat.le_of_ble_eq_true rfl, rfl, rfl⟩ rfl ?_
      exact l2_X11_hunkFrom (f := F i) (e := E i) hG (hK.keep (up2_sn _ _ _ (by decide)) (up2_n _ _ _ (by decide))) hr (by rw [up2_n _ _ _ (by decide)]; exact q3) ⟨g1.1, g1.2.2.2⟩ g4 hg tail 60 (F i) (F i) (Int.le_refl _) g1.2.2.1 (Int.le_refl _) (by omega) (by omega) (fun j j1 j2 => by omega)
    have first : V (RX11, cX11_hunkFrom, 5, rm 1, false, none, (some .boolean)) (fun r' sh' mi' mr' => sh' = SH ∧ ∃ v, r' = some v ∧ PoH i c (max (F i - r) 0) (min (E i + 1 + r) L) mi mr v mi' mr') 0 0 SH mi mr [some (vr 62), some (vi b), some (vi (F i)), none, none] [] 24 := by
      refine V_iload_n dX11_hunkFrom_24 rfl ?_
      refine V_aload_n dX11_hunkFrom_25 rfl ?_
      refine V_geti 13 dX11_hunkFrom_26 fl_RX11_95 (by first | with_reducible assumption | rfl) rfl rfl ?_
      rw [q13]
      refine V_icmp_lt 34 dX11_hunkFrom_29 (by decide) (by omega) (by omega) (fun _ => ?_) (fun h29 => absurd h29 ((by omega)))
      refine V_aload_n dX11_hunkFrom_34 rfl ?_
      refine V_iload_n dX11_hunkFrom_35 rfl ?_
      refine V_iload_n dX11_hunkFrom_36 rfl ?_
      refine V_isub dX11_hunkFrom_37 ?_
      refine V_aload_n dX11_hunkFrom_38 rfl ?_
      refine V_getr 0 _ dX11_hunkFrom_39 fl_RX11_7 (by first | with_reducible assumption | rfl) rfl rfl (by first | with_reducible assumption | exact hG.at rfl) ?_
      refine V_iconst dX11_hunkFrom_42 ?_
      refine V_iald dX11_hunkFrom_43 (by first | with_reducible assumption | rfl) (by decide) (by omega) ?_
      rw [q3]
      refine V_icmp_ge 51 dX11_hunkFrom_44 (by decide) (by omega) (by omega) (fun h44 => ?_) (fun h44 => ?_)
      · refine V_iload_n dX11_hunkFrom_51 rfl ?_
        refine V_aload_n dX11_hunkFrom_52 rfl ?_
        refine V_getr 0 _ dX11_hunkFrom_53 fl_RX11_7 (by first | with_reducible assumption | rfl) rfl rfl (by first | with_reducible assumption | exact hG.at rfl) ?_
        refine V_iconst dX11_hunkFrom_56 ?_
        refine V_iald dX11_hunkFrom_57 (by first | with_reducible assumption | rfl) (by decide) (by omega) ?_
        rw [q3]
        refine V_isub dX11_hunkFrom_58 ?_
        first | exact mid b (by omega) | exact mid (F i - r) (by omega)
      · refine V_iload_n dX11_hunkFrom_47 rfl ?_
        refine V_goto 59 dX11_hunkFrom_48 (by decide) ?_
        first | exact mid b (by omega) | exact mid (F i - r) (by omega)
    refine Ct.ofV (ini := false) [some (vr 62), some (vi b), none, none, none] km_X11_hunkFrom (by decide) rfl (Nat.le_of_ble_eq_true rfl) ?_
    refine V_iload_n dX11_hunkFrom_0 rfl ?_
    refine S_istore_n (ls' := [_, _, _, _, _]) dX11_hunkFrom_1 ⟨Nat.le_of_ble_eq_true rfl, rfl, rfl⟩ rfl ?_
    exact l1_X11_hunkFrom hG hK hbb.1.1 (by omega) (fun j j1 j2 => g5 j (by omega) j2) (fun _ => g2.1) first 60 b (Int.le_refl _) hbb.1.2 (by omega)
  · have hic : i = c := by omega
    subst hic
    have hbb : 0 ≤ hb E r L i ∧ hb E r L i ≤ L ∧ ∀ j, hb E r L i ≤ j → j < L → K j = 0 := by
      have h5 := hO.2.2.2.1
      have h6 := hO.2.2.2.2
      unfold hb
      by_cases h0 : i = 0
      · subst h0
        have := hO.1.2
        rw [if_pos rfl]
        exact ⟨by omega, by omega, fun j j1 j2 => hO.2.2.1 j (by rw [show (0 : Int) - 1 = -1 by omega, this]; omega) j2⟩
      · rw [if_neg h0]
        exact ⟨by omega, by omega, fun j j1 j2 => hO.2.2.1 j (by omega) j2⟩
    generalize hb E r L i = b at hbb
    have last : V (RX11, cX11_hunkFrom, 5, rm 1, false, none, (some .boolean)) (fun r' sh' mi' mr' => sh' = SH ∧ ∃ v, r' = some v ∧ PoH i i (max (F i - r) 0) (min (E i + 1 + r) L) mi mr v mi' mr') 0 0 SH mi mr [some (vr 62), some (vi b), some (vi L), none, none] [] 24 := by
      refine V_iload_n dX11_hunkFrom_24 rfl ?_
      refine V_aload_n dX11_hunkFrom_25 rfl ?_
      refine V_geti 13 dX11_hunkFrom_26 fl_RX11_95 (by first | with_reducible assumption | rfl) rfl rfl ?_
      rw [q13]
      refine V_icmp_lt 34 dX11_hunkFrom_29 (by decide) (by omega) (by omega) (fun h29 => absurd h29 ((by omega))) (fun _ => ?_)
      refine V_iconst dX11_hunkFrom_32 ?_
      refine V_zret dX11_hunkFrom_33 rfl ⟨Nat.le_of_ble_eq_true rfl, Nat.le_of_ble_eq_true rfl⟩ (by first | exact Or.inl rfl | exact Or.inr rfl | omega) ?_
      exact ⟨rfl, _, rfl, by rw [if_neg hc], rfl, fun h => absurd h hc, fun _ _ _ => rfl, fun _ _ => rfl⟩
    refine Ct.ofV (ini := false) [some (vr 62), some (vi b), none, none, none] km_X11_hunkFrom (by decide) rfl (Nat.le_of_ble_eq_true rfl) ?_
    refine V_iload_n dX11_hunkFrom_0 rfl ?_
    refine S_istore_n (ls' := [_, _, _, _, _]) dX11_hunkFrom_1 ⟨Nat.le_of_ble_eq_true rfl, rfl, rfl⟩ rfl ?_
    exact l1_X11_hunkFrom hG hK hbb.1 (Int.le_refl _) hbb.2.2 (fun h => by omega) last 60 b (Int.le_refl _) hbb.2.1 (by omega)
set_option maxRecDepth 100000 in
set_option maxHeartbeats 1000000 in
theorem c_X11_hunks {c : Int} (hG : Gr mr) (hK : KiM mi L K) (hr : 0 ≤ r ∧ r ≤ 5) (q3 : mi 63 3 = r) (hO : HOK r K L c F E C) (hc : c ≤ 56) : C1 yX11_hunks cX11_hunks 3 (some .int) 2 SH mi mr [vr 62] (fun v mi' mr' => v = vi c ∧ mr' = mr ∧ (∀ j, j ≠ 20 → j ≠ 21 → mi' 62 j = mi 62 j) ∧ ∀ z, z ≠ 62 → mi' z = mi z) := by
  have hc0 := hO.1.1
  have loop : ∀ (t : Nat) (i : Int) (mi' : MI), 0 ≤ i → i ≤ c → c - i < t → (∀ j, j ≠ 20 → j ≠ 21 → mi' 62 j = mi 62 j) → (∀ z, z ≠ 62 → mi' z = mi z) → V (RX11, cX11_hunks, 3, rm 2, false, none, (some .int)) (fun r' sh' mi' mr' => sh' = SH ∧ ∃ v, r' = some v ∧ v = vi c ∧ mr' = mr ∧ (∀ j, j ≠ 20 → j ≠ 21 → mi' 62 j = mi 62 j) ∧ ∀ z, z ≠ 62 → mi' z = mi z) 0 0 SH mi' mr [some (vr 62), some (vi i), some (vi (hb E r L i))] [] 4 := by
    intro t
    induction t with
    | zero => intro i mi' a1 a2 a3; omega
    | succ t ih =>
      intro i mi' a1 a2 a3 a4 a5
      by_cases hi : i < c
      · have e1 : (if i < c then (1 : Int) else 0) = 1 := if_pos hi
        refine V_aload_n dX11_hunks_4 rfl ?_
        refine V_iload_n dX11_hunks_5 rfl ?_
        refine V_callV1 dX11_hunks_6 ml_RX11_131 km_X11_hunkFrom kv_X11_hunkFrom (c_X11_hunkFrom (i := i) hG (hK.keep (a4 13 (by decide) (by decide)) (a5 68 (by decide))) hr (by rw [a5 63 (by decide)]; exact q3) hO ⟨a1, a2⟩) (by first | with_reducible assumption | rfl) rfl rfl rfl (Nat.le_of_ble_eq_true rfl) ⟨Nat.le_of_ble_eq_true rfl, Nat.le_of_ble_eq_true rfl⟩ ⟨Nat.le_of_ble_eq_true rfl, Nat.le_of_ble_eq_true rfl⟩ ?_
        rintro v mi2 mr2 ⟨rfl, rfl, k1, k2, k3⟩
        rw [e1]
        refine V_if_eq 23 dX11_hunks_9 (by decide) (by omega) (fun h9 => absurd h9 ((by decide))) (fun _ => ?_)
        refine V_aload_n dX11_hunks_12 rfl ?_
        refine V_geti 21 dX11_hunks_13 fl_RX11_128 (by first | with_reducible assumption | rfl) rfl rfl ?_
        rw [(k1 hi).2]
        refine S_istore_n (ls' := [_, _, _]) dX11_hunks_16 ⟨Nat.le_of_ble_eq_true rfl, rfl, rfl⟩ rfl ?_
        refine S_iinc (ls' := [_, _, _]) dX11_hunks_17 rfl ⟨rfl, rfl⟩ rfl ?_
        refine V_goto 4 dX11_hunks_20 (by decide) ?_
        have hgo := ih (i + 1) mi2 (by omega) (by omega) (by omega) (fun j j1 j2 => by rw [k2 j j1 j2]; exact a4 j j1 j2) (fun z z1 => by rw [k3 z z1]; exact a5 z z1)
        rw [show hb E r L (i + 1) = min (E i + 1 + r) L by unfold hb; rw [if_neg (by omega), show i + 1 - 1 = i by omega]] at hgo
        exact hgo
      · have e1 : (if i < c then (1 : Int) else 0) = 0 := if_neg hi
        have hic : i = c := by omega
        refine V_aload_n dX11_hunks_4 rfl ?_
        refine V_iload_n dX11_hunks_5 rfl ?_
        refine V_callV1 dX11_hunks_6 ml_RX11_131 km_X11_hunkFrom kv_X11_hunkFrom (c_X11_hunkFrom (i := i) hG (hK.keep (a4 13 (by decide) (by decide)) (a5 68 (by decide))) hr (by rw [a5 63 (by decide)]; exact q3) hO ⟨a1, a2⟩) (by first | with_reducible assumption | rfl) rfl rfl rfl (Nat.le_of_ble_eq_true rfl) ⟨Nat.le_of_ble_eq_true rfl, Nat.le_of_ble_eq_true rfl⟩ ⟨Nat.le_of_ble_eq_true rfl, Nat.le_of_ble_eq_true rfl⟩ ?_
        rintro v mi2 mr2 ⟨rfl, rfl, k1, k2, k3⟩
        rw [e1]
        refine V_if_eq 23 dX11_hunks_9 (by decide) (by omega) (fun _ => ?_) (fun h9 => absurd h9 ((by decide)))
        refine V_iload_n dX11_hunks_23 rfl ?_
        refine V_iret dX11_hunks_24 rfl ⟨Nat.le_of_ble_eq_true rfl, Nat.le_of_ble_eq_true rfl⟩ ?_
        exact ⟨rfl, _, rfl, by rw [hic], rfl, fun j j1 j2 => by rw [k2 j j1 j2]; exact a4 j j1 j2, fun z z1 => by rw [k3 z z1]; exact a5 z z1⟩
  refine Ct.ofV (ini := false) [some (vr 62), none, none] km_X11_hunks (by decide) rfl (Nat.le_of_ble_eq_true rfl) ?_
  refine V_iconst dX11_hunks_0 ?_
  refine S_istore_n (ls' := [_, _, _]) dX11_hunks_1 ⟨Nat.le_of_ble_eq_true rfl, rfl, rfl⟩ rfl ?_
  refine V_iconst dX11_hunks_2 ?_
  refine S_istore_n (ls' := [_, _, _]) dX11_hunks_3 ⟨Nat.le_of_ble_eq_true rfl, rfl, rfl⟩ rfl ?_
  exact loop 57 0 mi (by omega) (by omega) (by omega) (fun _ _ _ => rfl) (fun _ _ => rfl)
set_option maxRecDepth 100000 in
set_option maxHeartbeats 1000000 in
theorem c_X11_without {v a b : Int} (hG : Gr mr) (hK : KiM mi L K) (q20 : mi 62 20 = a) (q21 : mi 62 21 = b) (ha : 0 ≤ a ∧ a ≤ b ∧ b ≤ L) (hv : 0 ≤ v ∧ v ≤ 2) : CP yX11_without cX11_without 4 (some .int) 1 SH mi mr [vr 62, vi v] (vi (wI K v a b)) := by
  have q13 := hK.1
  have hL := hK.2.1
  have loop : ∀ (t : Nat) (k : Int), a ≤ k → k ≤ b → b - k < t → V (RX11, cX11_without, 4, rm 1, false, none, (some .int)) (fun r' sh' mi' mr' => sh' = SH ∧ r' = some (vi (wI K v a b)) ∧ mi' = mi ∧ mr' = mr) 0 0 SH mi mr [some (vr 62), some (vi v), some (vi (wI K v a k)), some (vi k)] [] 7 := by
    intro t
    induction t with
    | zero => intro k a1 a2 a3; omega
    | succ t ih =>
      intro k a1 a2 a3
      have hwr := wI_r (K := K) (v := v) a1
      by_cases hk : b ≤ k
      · have hkb : k = b := by omega
        refine V_iload_n dX11_without_7 rfl ?_
        refine V_aload_n dX11_without_8 rfl ?_
        refine V_geti 21 dX11_without_9 fl_RX11_128 (by first | with_reducible assumption | rfl) rfl rfl ?_
        rw [q21]
        refine V_icmp_ge 38 dX11_without_12 (by decide) (by omega) (by omega) (fun _ => ?_) (fun h12 => absurd h12 ((not_not_intro hk)))
        refine V_iload_n dX11_without_38 rfl ?_
        refine V_iret dX11_without_39 rfl ⟨Nat.le_of_ble_eq_true rfl, Nat.le_of_ble_eq_true rfl⟩ ?_
        exact ⟨rfl, by rw [hkb], rfl, rfl⟩
      · have h0 := hK.2.2 k (by omega) (by omega)
        have hgo := ih (k + 1) (by omega) (by omega) (by omega)
        rw [wI_s a1] at hgo
        refine V_iload_n dX11_without_7 rfl ?_
        refine V_aload_n dX11_without_8 rfl ?_
        refine V_geti 21 dX11_without_9 fl_RX11_128 (by first | with_reducible assumption | rfl) rfl rfl ?_
        rw [q21]
        refine V_icmp_ge 38 dX11_without_12 (by decide) (by omega) (by omega) (fun h12 => absurd h12 (hk)) (fun _ => ?_)
        refine V_iload_n dX11_without_15 rfl ?_
        refine V_aload_n dX11_without_16 rfl ?_
        refine V_iload_n dX11_without_17 rfl ?_
        refine V_callVP dX11_without_18 ml_RX11_106 km_X11_kind kv_X11_kind (c_X11_kind hG (by omega)) (by first | with_reducible assumption | rfl) rfl rfl rfl (Nat.le_of_ble_eq_true rfl) ⟨Nat.le_of_ble_eq_true rfl, Nat.le_of_ble_eq_true rfl⟩ ⟨Nat.le_of_ble_eq_true rfl, Nat.le_of_ble_eq_true rfl⟩ ?_
        rw [h0.1]
        refine V_iload_n dX11_without_21 rfl ?_
        refine V_icmp_eq 29 dX11_without_22 (by decide) (by omega) (by omega) (fun h22 => ?_) (fun h22 => ?_)
        · refine V_iconst dX11_without_29 ?_
          refine V_iadd dX11_without_30 ?_
          refine S_istore_n (ls' := [_, _, _, _]) dX11_without_31 ⟨Nat.le_of_ble_eq_true rfl, rfl, rfl⟩ rfl ?_
          refine S_iinc (ls' := [_, _, _, _]) dX11_without_32 rfl ⟨rfl, rfl⟩ rfl ?_
          refine V_goto 7 dX11_without_35 (by decide) ?_
          first | (rw [if_pos (by omega)] at hgo; exact hgo) | (rw [if_neg (by omega)] at hgo; exact hgo)
        · refine V_iconst dX11_without_25 ?_
          refine V_goto 30 dX11_without_26 (by decide) ?_
          refine V_iadd dX11_without_30 ?_
          refine S_istore_n (ls' := [_, _, _, _]) dX11_without_31 ⟨Nat.le_of_ble_eq_true rfl, rfl, rfl⟩ rfl ?_
          refine S_iinc (ls' := [_, _, _, _]) dX11_without_32 rfl ⟨rfl, rfl⟩ rfl ?_
          refine V_goto 7 dX11_without_35 (by decide) ?_
          first | (rw [if_pos (by omega)] at hgo; exact hgo) | (rw [if_neg (by omega)] at hgo; exact hgo)
  refine Ct.ofV (ini := false) [some (vr 62), some (vi v), none, none] km_X11_without (by decide) rfl (Nat.le_of_ble_eq_true rfl) ?_
  refine V_iconst dX11_without_0 ?_
  refine S_istore_n (ls' := [_, _, _, _]) dX11_without_1 ⟨Nat.le_of_ble_eq_true rfl, rfl, rfl⟩ rfl ?_
  refine V_aload_n dX11_without_2 rfl ?_
  refine V_geti 20 dX11_without_3 fl_RX11_125 (by first | with_reducible assumption | rfl) rfl rfl ?_
  rw [q20]
  refine S_istore_n (ls' := [_, _, _, _]) dX11_without_6 ⟨Nat.le_of_ble_eq_true rfl, rfl, rfl⟩ rfl ?_
  have hgo := loop (b - a).toNat.succ a (Int.le_refl _) ha.2.1 (by omega)
  rw [wI_e] at hgo
  exact hgo
end MODEL14
