/-! ===== the text of the least script ===== -/
/-- a row's or a field of signs holds a text -/
def TxtM (mi : MI) (a b : Nat) (l : List Int) : Prop := mi a 1 = l.length ∧ ∀ i : Nat, i < l.length → mi b i = l.getD i 0
theorem TxtM.add {mi : MI} {a b : Nat} {l : List Int} {v : Int} (h : TxtM mi a b l) (hab : a ≠ b) : TxtM (up2 (up2 mi b (mi a 1) v) a 1 (mi a 1 + 1)) a b (l ++ [v]) := by
  obtain ⟨h1, h2⟩ := h
  refine ⟨by rw [up2_ss, h1]; simp, fun i hi => ?_⟩
  rw [up2_n _ _ _ (Ne.symm hab)]
  simp at hi
  by_cases he : i = l.length
  · subst he
    rw [h1, up2_ss]
    simp
  · rw [up2_sn _ _ _ (by omega), h2 i (by omega)]
    simp [List.getD, List.getElem?_append_left (show i < l.length by omega)]
theorem TxtM.keep {mi mi' : MI} {a b : Nat} {l : List Int} (h : TxtM mi a b l) (ha : mi' a = mi a) (hb : mi' b = mi b) : TxtM mi' a b l := ⟨by rw [ha]; exact h.1, by rw [hb]; exact h.2⟩
def num (c : Int) : List Int := if c < 10 then [48 + c % 10] else [48 + c / 10, 48 + c % 10]
def lts (Lt : Int → Int) (a : Int) : Nat → List Int
  | 0 => []
  | t + 1 => lts Lt a t ++ [97 + Lt (a + t)]
def ptx (K Lt : Int → Int) (a e : Int) : List Int := if K a = 2 then 43 :: lts Lt a (e - a).toNat ++ [59] else (if K a = 0 then 61 else 45) :: num (e - a) ++ [59]
def kx (L : Int) (K : Int → Int) (i : Int) : Int := if 0 ≤ i ∧ i < L then K i else -1
def tx (L : Int) (K Lt : Int → Int) : Nat → Int × List Int
  | 0 => (0, [])
  | s + 1 => if kx L K (s + 1) = kx L K s then tx L K Lt s else (s + 1, (tx L K Lt s).2 ++ ptx K Lt (tx L K Lt s).1 (s + 1))
theorem lts_len (Lt : Int → Int) (a : Int) : ∀ t, (lts Lt a t).length = t
  | 0 => rfl
  | t + 1 => by simp [lts, lts_len Lt a t]
theorem num_len (c : Int) : (num c).length ≤ 2 ∧ (c < 10 → (num c).length = 1) := by
  unfold num
  split <;> simp
  omega
theorem ptx_len {K Lt : Int → Int} {a e : Int} (h : a < e) : ((ptx K Lt a e).length : Int) ≤ 3 * (e - a) := by
  have h1 := num_len (e - a)
  unfold ptx
  split
  · simp [lts_len]; omega
  · by_cases hc : e - a < 10
    · have := h1.2 hc
      simp [this]; omega
    · simp; omega
theorem tx_r (L : Int) (K Lt : Int → Int) : ∀ s : Nat, 0 ≤ (tx L K Lt s).1 ∧ (tx L K Lt s).1 ≤ s ∧ ((tx L K Lt s).2.length : Int) ≤ 3 * (tx L K Lt s).1
  | 0 => by simp [tx]
  | s + 1 => by
    have h := tx_r L K Lt s
    simp only [tx]
    split
    · omega
    · have hp := ptx_len (K := K) (Lt := Lt) (a := (tx L K Lt s).1) (e := (s : Int) + 1) (by omega)
      simp only [List.length_append]
      omega
/-- what kinds, letters and places can be -/
def ScR (L : Int) (K Lt X Y : Int → Int) : Prop := (∀ i, 0 ≤ i → i < L → 0 ≤ K i ∧ K i ≤ 2 ∧ 0 ≤ Lt i ∧ Lt i ≤ 7) ∧ ∀ i, 0 ≤ i → i ≤ L → 0 ≤ X i ∧ X i ≤ 28 ∧ 0 ≤ Y i ∧ Y i ≤ 28
theorem ScM.keep {mi mi' : MI} {L : Int} {K Lt X Y : Int → Int} (h : ScM mi L K Lt X Y) (hk : ∀ x, 37 ≤ x → x ≤ 41 → mi' x = mi x) : ScM mi' L K Lt X Y := by
  unfold ScM
  rw [hk 37 (by omega) (by omega), hk 38 (by omega) (by omega), hk 39 (by omega) (by omega), hk 40 (by omega) (by omega), hk 41 (by omega) (by omega)]
  exact h
theorem sc_R {n m : Int} {A B : Int → Int} (hA : NR n A) (hB : NR m B) {D : Int} (hD : isD n m A B D) : ScR (sL n m D) (sK A B n m D) (sLt A B n m D) (sX A B n m D) (sY A B n m D) := by
  have h := sc_ok hA hB hD
  have hn := hA.1
  have hm := hB.1
  refine ⟨fun i h0 h1 => ?_, fun i h0 h1 => by have := h.2.1 i h0 h1; omega⟩
  have b1 := h.2.1 i h0 (by omega)
  have b2 := h.2.1 (i + 1) (by omega) (by omega)
  unfold sLt
  rcases h.2.2 i h0 h1 with ⟨k, e1, e2, -⟩ | ⟨k, e1, e2⟩ | ⟨k, e1, e2⟩
  · rw [k, if_neg (by decide)]
    have := hA.2.1 (sX A B n m D i) (by omega) (by omega)
    omega
  · rw [k, if_neg (by decide)]
    have := hA.2.1 (sX A B n m D i) (by omega) (by omega)
    omega
  · rw [k, if_pos rfl]
    have := hB.2.1 (sY A B n m D i) (by omega) (by omega)
    omega
section TEXT
variable {mi : MI} {mr : MR} {L : Int} {K Lt X Y : Int → Int} {l : List Int}
theorem d_kindAt {i : Int} (hG : Gr mr) (hi : rng i) (h : ScM mi L K Lt X Y) : CP yX8_kindAt cX8_kindAt 2 (some .int) 0 SH mi mr [vr 37, vi i] (vi (kx L K i)) := by
  have h1 := c_X8_kindAt (mi := mi) (mr := mr) (i := i) hG hi (by have := h.1; omega)
  have e : (if 0 ≤ i ∧ i < mi 37 4 then mi 38 i else -1) = kx L K i := by
    unfold kx
    rw [h.1.1]
    split
    · rename_i hh; exact (h.2.1 i hh.1 hh.2).1
    · rfl
  rw [e] at h1
  exact h1
theorem d_letterOf {i : Int} (hG : Gr mr) (hi : rng i) (h : ScM mi L K Lt X Y) : CP yX8_letterOf cX8_letterOf 2 (some .int) 0 SH mi mr [vr 37, vi i] (vi (kx L Lt i)) := by
  have h1 := c_X8_letterOf (mi := mi) (mr := mr) (i := i) hG hi (by have := h.1; omega)
  have e : (if 0 ≤ i ∧ i < mi 37 4 then mi 39 i else -1) = kx L Lt i := by
    unfold kx
    rw [h.1.1]
    split
    · rename_i hh; exact (h.2.1 i hh.1 hh.2).2
    · rfl
  rw [e] at h1
  exact h1
theorem d_firstDoneAt {i : Int} (hG : Gr mr) (hi : 0 ≤ i ∧ i ≤ L) (h : ScM mi L K Lt X Y) : CP yX8_firstDoneAt cX8_firstDoneAt 2 (some .int) 0 SH mi mr [vr 37, vi i] (vi (X i)) := by
  have h1 := c_X8_firstDoneAt (mi := mi) (mr := mr) (i := i) hG (by have := h.1; omega) (by have := h.1; omega)
  rw [if_pos (by rw [h.1.1]; exact hi), (h.2.2 i hi.1 hi.2).1] at h1
  exact h1
theorem d_secondDoneAt {i : Int} (hG : Gr mr) (hi : 0 ≤ i ∧ i ≤ L) (h : ScM mi L K Lt X Y) : CP yX8_secondDoneAt cX8_secondDoneAt 2 (some .int) 0 SH mi mr [vr 37, vi i] (vi (Y i)) := by
  have h1 := c_X8_secondDoneAt (mi := mi) (mr := mr) (i := i) hG (by have := h.1; omega) (by have := h.1; omega)
  rw [if_pos (by rw [h.1.1]; exact hi), (h.2.2 i hi.1 hi.2).2] at h1
  exact h1
/-- a sign is added to the text -/
theorem d_add {v : Int} (hG : Gr mr) (h : TxtM mi 42 43 l) (hl : l.length < 168) : C0 yX7_add cX7_add 2 none 0 SH mi mr [vr 42, vi v] (fun mi' mr' => mr' = mr ∧ TxtM mi' 42 43 (l ++ [v]) ∧ ∀ x, x ≠ 42 → x ≠ 43 → mi' x = mi x) := by
  have h1 := c_X7_add (sh := SH) (mi := mi) (mr := mr) (a := 42) (b := 43) (N := 168) (v := v) rfl (hG.at rfl) rfl (by decide) (by have := h.1; omega) (by decide)
  rw [if_pos (by have := h.1; omega)] at h1
  refine C0.mono h1 (fun mi' mr' hq => ?_)
  obtain ⟨rfl, rfl⟩ := hq
  exact ⟨rfl, h.add (by decide), fun x h42 h43 => by rw [up2_n _ _ _ h42, up2_n _ _ _ h43]⟩
set_option maxRecDepth 100000 in
theorem c_X8_writeNumber {c : Int} (hG : Gr mr) (hc : 1 ≤ c ∧ c ≤ 56) (h : TxtM mi 42 43 l) (hl : l.length + 2 ≤ 168) : C0 yX8_writeNumber cX8_writeNumber 2 none 1 SH mi mr [vr 42, vi c] (fun mi' mr' => mr' = mr ∧ TxtM mi' 42 43 (l ++ num c) ∧ ∀ x, x ≠ 42 → x ≠ 43 → mi' x = mi x) := by
  refine Ct.ofV (ini := false) [some (vr 42), some (vi c)] km_X8_writeNumber (by decide) rfl (Nat.le_of_ble_eq_true rfl) ?_
  refine V_iload_n dX8_writeNumber_0 rfl ?_
  refine V_bipush dX8_writeNumber_1 (by decide) ?_
  refine V_icmp_lt 17 dX8_writeNumber_3 (by decide) (by omega) (by omega) (fun h3 => ?_) (fun h3 => ?_)
  · refine V_aload_n dX8_writeNumber_17 rfl ?_
    refine V_bipush dX8_writeNumber_18 (by decide) ?_
    refine V_iload_n dX8_writeNumber_20 rfl ?_
    refine V_bipush dX8_writeNumber_21 (by decide) ?_
    refine V_irem dX8_writeNumber_23 (by omega) (by omega) ?_
    refine V_iadd dX8_writeNumber_24 ?_
    refine V_callV0 dX8_writeNumber_25 ml_RX8_74 km_X7_add kv_X7_add (d_add hG h (by omega)) (by first | with_reducible assumption | rfl) rfl rfl rfl (Nat.le_of_ble_eq_true rfl) ⟨Nat.le_of_ble_eq_true rfl, Nat.le_of_ble_eq_true rfl⟩ ⟨Nat.le_of_ble_eq_true rfl, Nat.le_of_ble_eq_true rfl⟩ ?_
    rintro mi2 mr2 ⟨rfl, t2, f2⟩
    refine V_vret dX8_writeNumber_28 rfl ⟨Nat.le_of_ble_eq_true rfl, Nat.le_of_ble_eq_true rfl⟩ ?_
    exact ⟨rfl, rfl, rfl, by unfold num; rw [if_pos h3]; exact t2, f2⟩
  · refine V_aload_n dX8_writeNumber_6 rfl ?_
    refine V_bipush dX8_writeNumber_7 (by decide) ?_
    refine V_iload_n dX8_writeNumber_9 rfl ?_
    refine V_bipush dX8_writeNumber_10 (by decide) ?_
    refine V_idiv dX8_writeNumber_12 (by omega) (by omega) ?_
    refine V_iadd dX8_writeNumber_13 ?_
    refine V_callV0 dX8_writeNumber_14 ml_RX8_74 km_X7_add kv_X7_add (d_add hG h (by omega)) (by first | with_reducible assumption | rfl) rfl rfl rfl (Nat.le_of_ble_eq_true rfl) ⟨Nat.le_of_ble_eq_true rfl, Nat.le_of_ble_eq_true rfl⟩ ⟨Nat.le_of_ble_eq_true rfl, Nat.le_of_ble_eq_true rfl⟩ ?_
    rintro mi2 mr2 ⟨rfl, t2, f2⟩
    refine V_aload_n dX8_writeNumber_17 rfl ?_
    refine V_bipush dX8_writeNumber_18 (by decide) ?_
    refine V_iload_n dX8_writeNumber_20 rfl ?_
    refine V_bipush dX8_writeNumber_21 (by decide) ?_
    refine V_irem dX8_writeNumber_23 (by omega) (by omega) ?_
    refine V_iadd dX8_writeNumber_24 ?_
    refine V_callV0 dX8_writeNumber_25 ml_RX8_74 km_X7_add kv_X7_add (d_add hG t2 (by simp; omega)) (by first | with_reducible assumption | rfl) rfl rfl rfl (Nat.le_of_ble_eq_true rfl) ⟨Nat.le_of_ble_eq_true rfl, Nat.le_of_ble_eq_true rfl⟩ ⟨Nat.le_of_ble_eq_true rfl, Nat.le_of_ble_eq_true rfl⟩ ?_
    rintro mi3 mr3 ⟨rfl, t3, f3⟩
    refine V_vret dX8_writeNumber_28 rfl ⟨Nat.le_of_ble_eq_true rfl, Nat.le_of_ble_eq_true rfl⟩ ?_
    exact ⟨rfl, rfl, rfl, by unfold num; rw [if_neg h3]; simpa using t3, fun x h1 h2 => by rw [f3 x h1 h2, f2 x h1 h2]⟩
set_option maxRecDepth 100000 in
theorem l_X8_writePart {Q : PQ} {a e : Int} (hG : Gr mr) (hS : ScM mi L K Lt X Y) (hR : ScR L K Lt X Y) (hae : 0 ≤ a ∧ a < e ∧ e ≤ L) (κ : Int)
    (kk : ∀ (mi' : MI) (o5 : Option AV), TxtM mi' 42 43 (l ++ lts Lt a (e - a).toNat) → (∀ x, x ≠ 42 → x ≠ 43 → mi' x = mi x) → V (RX8, cX8_writePart, 6, rm 2, false, none, none) Q 0 0 SH mi' mr [some (vr 37), some (vr 42), some (vi a), some (vi e), some (vi κ), o5] [] 47) (hl : l.length + (e - a).toNat ≤ 168) :
    ∀ (t s : Nat) (i : Int) (mi' : MI), i = a + s → i ≤ e → e - i < t → TxtM mi' 42 43 (l ++ lts Lt a s) → (∀ x, x ≠ 42 → x ≠ 43 → mi' x = mi x) → V (RX8, cX8_writePart, 6, rm 2, false, none, none) Q 0 0 SH mi' mr [some (vr 37), some (vr 42), some (vi a), some (vi e), some (vi κ), some (vi i)] [] 22 := by
  have hL := hS.1
  intro t
  induction t with
  | zero => intro s i mi' hi h1 h2; omega
  | succ t ih =>
    intro s i mi' hi h1 h2 h3 h4
    have hS' : ScM mi' L K Lt X Y := hS.keep (fun x x1 x2 => h4 x (by omega) (by omega))
    refine V_iload dX8_writePart_22 rfl ?_
    refine V_iload_n dX8_writePart_24 rfl ?_
    refine V_icmp_ge 47 dX8_writePart_25 (by decide) (by omega) (by omega) (fun h25 => ?_) (fun h25 => ?_)
    · have e1 : s = (e - a).toNat := by omega
      rw [e1] at h3
      exact kk mi' _ h3 h4
    · refine V_aload_n dX8_writePart_28 rfl ?_
      refine V_bipush dX8_writePart_29 (by decide) ?_
      refine V_aload_n dX8_writePart_31 rfl ?_
      refine V_iload dX8_writePart_32 rfl ?_
      refine V_callVP dX8_writePart_34 ml_RX8_64 km_X8_letterOf kv_X8_letterOf (d_letterOf (i := i) hG (by omega) hS') (by first | with_reducible assumption | rfl) rfl rfl rfl (Nat.le_of_ble_eq_true rfl) ⟨Nat.le_of_ble_eq_true rfl, Nat.le_of_ble_eq_true rfl⟩ ⟨Nat.le_of_ble_eq_true rfl, Nat.le_of_ble_eq_true rfl⟩ ?_
      have hk : kx L Lt i = Lt i := by unfold kx; rw [if_pos ⟨by omega, by omega⟩]
      rw [hk]
      refine V_iadd dX8_writePart_37 ?_
      refine V_callV0 dX8_writePart_38 ml_RX8_74 km_X7_add kv_X7_add (d_add hG h3 (by simp [lts_len]; omega)) (by first | with_reducible assumption | rfl) rfl rfl rfl (Nat.le_of_ble_eq_true rfl) ⟨Nat.le_of_ble_eq_true rfl, Nat.le_of_ble_eq_true rfl⟩ ⟨Nat.le_of_ble_eq_true rfl, Nat.le_of_ble_eq_true rfl⟩ ?_
      rintro mi2 mr2 ⟨rfl, t2, f2⟩
      refine S_iinc (ls' := [_, _, _, _, _, _]) dX8_writePart_41 rfl ⟨rfl, rfl⟩ rfl ?_
      refine V_goto 22 dX8_writePart_44 (by decide) ?_
      exact ih (s + 1) (i + 1) mi2 (by omega) (by omega) (by omega) (by rw [List.append_assoc] at t2; rw [hi] at t2; exact t2) (fun x x1 x2 => by rw [f2 x x1 x2, h4 x x1 x2])
set_option maxRecDepth 100000 in
theorem c_X8_writePart {a e : Int} (hG : Gr mr) (hS : ScM mi L K Lt X Y) (hR : ScR L K Lt X Y) (hae : 0 ≤ a ∧ a < e ∧ e ≤ L) (h : TxtM mi 42 43 l) (hl : (l.length : Int) + 3 * (e - a) ≤ 168) : C0 yX8_writePart cX8_writePart 6 none 2 SH mi mr [vr 37, vr 42, vi a, vi e] (fun mi' mr' => mr' = mr ∧ TxtM mi' 42 43 (l ++ ptx K Lt a e) ∧ ∀ x, x ≠ 42 → x ≠ 43 → mi' x = mi x) := by
  have hL := hS.1
  have hka := hR.1 a hae.1 (by omega)
  have hk : kx L K a = K a := by unfold kx; rw [if_pos ⟨by omega, by omega⟩]
  have hnl := num_len (e - a)
  refine Ct.ofV (ini := false) [some (vr 37), some (vr 42), some (vi a), some (vi e), none, none] km_X8_writePart (by decide) rfl (Nat.le_of_ble_eq_true rfl) ?_
  refine V_aload_n dX8_writePart_0 rfl ?_
  refine V_iload_n dX8_writePart_1 rfl ?_
  refine V_callVP dX8_writePart_2 ml_RX8_61 km_X8_kindAt kv_X8_kindAt (d_kindAt (i := a) hG (by omega) hS) rfl rfl rfl rfl (Nat.le_of_ble_eq_true rfl) ⟨Nat.le_of_ble_eq_true rfl, Nat.le_of_ble_eq_true rfl⟩ ⟨Nat.le_of_ble_eq_true rfl, Nat.le_of_ble_eq_true rfl⟩ ?_
  rw [hk]
  by_cases h2 : K a = 2
  · refine S_istore (ls' := [_, _, _, _, _, _]) dX8_writePart_5 ⟨Nat.le_of_ble_eq_true rfl, rfl, rfl⟩ rfl ?_
    refine V_iload dX8_writePart_7 rfl ?_
    refine V_iconst dX8_writePart_9 ?_
    refine V_icmp_ne 50 dX8_writePart_10 (by decide) (by omega) (by omega) (fun h10 => absurd h10 (by omega)) (fun _ => ?_)
    refine V_aload_n dX8_writePart_13 rfl ?_
    refine V_bipush dX8_writePart_14 (by decide) ?_
    refine V_callV0 dX8_writePart_16 ml_RX8_74 km_X7_add kv_X7_add (d_add hG h (by omega)) (by first | with_reducible assumption | rfl) rfl rfl rfl (Nat.le_of_ble_eq_true rfl) ⟨Nat.le_of_ble_eq_true rfl, Nat.le_of_ble_eq_true rfl⟩ ⟨Nat.le_of_ble_eq_true rfl, Nat.le_of_ble_eq_true rfl⟩ ?_
    rintro mi2 mr2 ⟨rfl, t2, f2⟩
    have hS2 : ScM mi2 L K Lt X Y := hS.keep (fun x x1 x2 => f2 x (by omega) (by omega))
    refine V_iload_n dX8_writePart_19 rfl ?_
    refine S_istore (ls' := [_, _, _, _, _, _]) dX8_writePart_20 ⟨Nat.le_of_ble_eq_true rfl, rfl, rfl⟩ rfl ?_
    refine l_X8_writePart (l := l ++ [43]) (mi := mi2) hG hS2 hR hae _ (fun mi3 o5 t3 f3 => ?_) (by simp; omega) ((e - a).toNat + 1) 0 a mi2 (by omega) (by omega) (by omega) (by simpa [lts] using t2) (fun _ _ _ => rfl)
    refine V_goto 73 dX8_writePart_47 (by decide) ?_
    refine V_aload_n dX8_writePart_73 rfl ?_
    refine V_bipush dX8_writePart_74 (by decide) ?_
    refine V_callV0 dX8_writePart_76 ml_RX8_74 km_X7_add kv_X7_add (d_add hG t3 (by simp [lts_len]; omega)) (by first | with_reducible assumption | rfl) rfl rfl rfl (Nat.le_of_ble_eq_true rfl) ⟨Nat.le_of_ble_eq_true rfl, Nat.le_of_ble_eq_true rfl⟩ ⟨Nat.le_of_ble_eq_true rfl, Nat.le_of_ble_eq_true rfl⟩ ?_
    rintro mi4 mr4 ⟨rfl, t4, f4⟩
    refine V_vret dX8_writePart_79 rfl ⟨Nat.le_of_ble_eq_true rfl, Nat.le_of_ble_eq_true rfl⟩ ?_
    refine ⟨rfl, rfl, rfl, ?_, fun x x1 x2 => by rw [f4 x x1 x2, f3 x x1 x2, f2 x x1 x2]⟩
    unfold ptx
    rw [if_pos h2]
    simpa using t4
  · have hcat : ∀ (v : Int) (mi2 : MI), v = (if K a = 0 then 61 else 45) → TxtM mi2 42 43 (l ++ [v] ++ num (e - a) ++ [59]) → TxtM mi2 42 43 (l ++ ptx K Lt a e) := by
      intro v mi2 hv ht
      unfold ptx
      rw [if_neg h2, ← hv]
      simpa using ht
    refine S_istore (ls' := [_, _, _, _, _, _]) dX8_writePart_5 ⟨Nat.le_of_ble_eq_true rfl, rfl, rfl⟩ rfl ?_
    refine V_iload dX8_writePart_7 rfl ?_
    refine V_iconst dX8_writePart_9 ?_
    refine V_icmp_ne 50 dX8_writePart_10 (by decide) (by omega) (by omega) (fun _ => ?_) (fun h10 => absurd h10 (by omega))
    refine V_aload_n dX8_writePart_50 rfl ?_
    refine V_iload dX8_writePart_51 rfl ?_
    refine V_if_ne 61 dX8_writePart_53 (by decide) (by omega) (fun h53 => ?_) (fun h53 => ?_)
    · refine V_bipush dX8_writePart_61 (by decide) ?_
      refine V_callV0 dX8_writePart_63 ml_RX8_74 km_X7_add kv_X7_add (d_add hG h (by omega)) (by first | with_reducible assumption | rfl) rfl rfl rfl (Nat.le_of_ble_eq_true rfl) ⟨Nat.le_of_ble_eq_true rfl, Nat.le_of_ble_eq_true rfl⟩ ⟨Nat.le_of_ble_eq_true rfl, Nat.le_of_ble_eq_true rfl⟩ ?_
      rintro mi2 mr2 ⟨rfl, t2, f2⟩
      refine V_aload_n dX8_writePart_66 rfl ?_
      refine V_iload_n dX8_writePart_67 rfl ?_
      refine V_iload_n dX8_writePart_68 rfl ?_
      refine V_isub dX8_writePart_69 ?_
      refine V_callS0 dX8_writePart_70 ml_RX8_78 km_X8_writeNumber ks_X8_writeNumber (c_X8_writeNumber (c := e - a) hG (by omega) t2 (by simp; omega)) rfl rfl (Nat.le_of_ble_eq_true rfl) ⟨Nat.le_of_ble_eq_true rfl, Nat.le_of_ble_eq_true rfl⟩ ⟨Nat.le_of_ble_eq_true rfl, Nat.le_of_ble_eq_true rfl⟩ ?_
      rintro mi3 mr3 ⟨rfl, t3, f3⟩
      refine V_aload_n dX8_writePart_73 rfl ?_
      refine V_bipush dX8_writePart_74 (by decide) ?_
      refine V_callV0 dX8_writePart_76 ml_RX8_74 km_X7_add kv_X7_add (d_add hG t3 (by simp; omega)) (by first | with_reducible assumption | rfl) rfl rfl rfl (Nat.le_of_ble_eq_true rfl) ⟨Nat.le_of_ble_eq_true rfl, Nat.le_of_ble_eq_true rfl⟩ ⟨Nat.le_of_ble_eq_true rfl, Nat.le_of_ble_eq_true rfl⟩ ?_
      rintro mi4 mr4 ⟨rfl, t4, f4⟩
      refine V_vret dX8_writePart_79 rfl ⟨Nat.le_of_ble_eq_true rfl, Nat.le_of_ble_eq_true rfl⟩ ?_
      refine ⟨rfl, rfl, rfl, hcat _ _ ?_ t4, fun x x1 x2 => by rw [f4 x x1 x2, f3 x x1 x2, f2 x x1 x2]⟩
      first | (rw [if_pos (by omega)]; done) | (rw [if_neg (by omega)]; done)
    · refine V_bipush dX8_writePart_56 (by decide) ?_
      refine V_goto 63 dX8_writePart_58 (by decide) ?_
      refine V_callV0 dX8_writePart_63 ml_RX8_74 km_X7_add kv_X7_add (d_add hG h (by omega)) (by first | with_reducible assumption | rfl) rfl rfl rfl (Nat.le_of_ble_eq_true rfl) ⟨Nat.le_of_ble_eq_true rfl, Nat.le_of_ble_eq_true rfl⟩ ⟨Nat.le_of_ble_eq_true rfl, Nat.le_of_ble_eq_true rfl⟩ ?_
      rintro mi2 mr2 ⟨rfl, t2, f2⟩
      refine V_aload_n dX8_writePart_66 rfl ?_
      refine V_iload_n dX8_writePart_67 rfl ?_
      refine V_iload_n dX8_writePart_68 rfl ?_
      refine V_isub dX8_writePart_69 ?_
      refine V_callS0 dX8_writePart_70 ml_RX8_78 km_X8_writeNumber ks_X8_writeNumber (c_X8_writeNumber (c := e - a) hG (by omega) t2 (by simp; omega)) rfl rfl (Nat.le_of_ble_eq_true rfl) ⟨Nat.le_of_ble_eq_true rfl, Nat.le_of_ble_eq_true rfl⟩ ⟨Nat.le_of_ble_eq_true rfl, Nat.le_of_ble_eq_true rfl⟩ ?_
      rintro mi3 mr3 ⟨rfl, t3, f3⟩
      refine V_aload_n dX8_writePart_73 rfl ?_
      refine V_bipush dX8_writePart_74 (by decide) ?_
      refine V_callV0 dX8_writePart_76 ml_RX8_74 km_X7_add kv_X7_add (d_add hG t3 (by simp; omega)) (by first | with_reducible assumption | rfl) rfl rfl rfl (Nat.le_of_ble_eq_true rfl) ⟨Nat.le_of_ble_eq_true rfl, Nat.le_of_ble_eq_true rfl⟩ ⟨Nat.le_of_ble_eq_true rfl, Nat.le_of_ble_eq_true rfl⟩ ?_
      rintro mi4 mr4 ⟨rfl, t4, f4⟩
      refine V_vret dX8_writePart_79 rfl ⟨Nat.le_of_ble_eq_true rfl, Nat.le_of_ble_eq_true rfl⟩ ?_
      refine ⟨rfl, rfl, rfl, hcat _ _ ?_ t4, fun x x1 x2 => by rw [f4 x x1 x2, f3 x x1 x2, f2 x x1 x2]⟩
      first | (rw [if_pos (by omega)]; done) | (rw [if_neg (by omega)]; done)
set_option maxRecDepth 100000 in
theorem c_X8_writeTo (hG : Gr mr) (hS : ScM mi L K Lt X Y) (hR : ScR L K Lt X Y) : C0 yX8_writeTo cX8_writeTo 4 none 3 SH mi mr [vr 37, vr 42] (fun mi' mr' => mr' = mr ∧ TxtM mi' 42 43 (tx L K Lt L.toNat).2 ∧ ∀ x, x ≠ 42 → x ≠ 43 → mi' x = mi x) := by
  have hL := hS.1
  have kr : ∀ i, -1 ≤ kx L K i ∧ kx L K i ≤ 2 := by
    intro i
    unfold kx
    split
    · rename_i hh
      have := hR.1 i hh.1 hh.2
      omega
    · omega
  have loop : ∀ (t s : Nat) (mi' : MI), (s : Int) ≤ L → L - s < t → TxtM mi' 42 43 (tx L K Lt s).2 → (∀ x, x ≠ 42 → x ≠ 43 → mi' x = mi x) → V (RX8, cX8_writeTo, 4, rm 3, false, none, none) (fun r sh' mi' mr' => sh' = SH ∧ r = none ∧ mr' = mr ∧ TxtM mi' 42 43 (tx L K Lt L.toNat).2 ∧ ∀ x, x ≠ 42 → x ≠ 43 → mi' x = mi x) 0 0 SH mi' mr [some (vr 37), some (vr 42), some (vi (tx L K Lt s).1), some (vi s)] [] 8 := by
    intro t
    induction t with
    | zero => intro s mi' h1 h2; omega
    | succ t ih =>
      intro s mi' h1 h2 h3 h4
      have hS' : ScM mi' L K Lt X Y := hS.keep (fun x x1 x2 => h4 x (by omega) (by omega))
      have hL' := hS'.1
      have htr := tx_r L K Lt s
      have k1 := kr s
      have k2 := kr (s + 1)
      have etx : tx L K Lt (s + 1) = if kx L K (s + 1) = kx L K s then tx L K Lt s else (s + 1, (tx L K Lt s).2 ++ ptx K Lt (tx L K Lt s).1 (s + 1)) := rfl
      refine V_iload_n dX8_writeTo_8 rfl ?_
      refine V_aload_n dX8_writeTo_9 rfl ?_
      refine V_geti 4 dX8_writeTo_10 fl_RX8_44 (by first | with_reducible assumption | rfl) rfl rfl ?_
      refine V_icmp_ge 50 dX8_writeTo_13 (by decide) (by omega) (by omega) (fun h13 => ?_) (fun h13 => ?_)
      · refine V_vret dX8_writeTo_50 rfl ⟨Nat.le_of_ble_eq_true rfl, Nat.le_of_ble_eq_true rfl⟩ ?_
        exact ⟨rfl, rfl, rfl, by rw [show L.toNat = s by omega]; exact h3, h4⟩
      · refine V_aload_n dX8_writeTo_16 rfl ?_
        refine V_iload_n dX8_writeTo_17 rfl ?_
        refine V_iconst dX8_writeTo_18 ?_
        refine V_iadd dX8_writeTo_19 ?_
        refine V_callVP dX8_writeTo_20 ml_RX8_61 km_X8_kindAt kv_X8_kindAt (d_kindAt (i := s + 1) hG (by omega) hS') (by first | with_reducible assumption | rfl) rfl rfl rfl (Nat.le_of_ble_eq_true rfl) ⟨Nat.le_of_ble_eq_true rfl, Nat.le_of_ble_eq_true rfl⟩ ⟨Nat.le_of_ble_eq_true rfl, Nat.le_of_ble_eq_true rfl⟩ ?_
        refine V_aload_n dX8_writeTo_23 rfl ?_
        refine V_iload_n dX8_writeTo_24 rfl ?_
        refine V_callVP dX8_writeTo_25 ml_RX8_61 km_X8_kindAt kv_X8_kindAt (d_kindAt (i := s) hG (by omega) hS') (by first | with_reducible assumption | rfl) rfl rfl rfl (Nat.le_of_ble_eq_true rfl) ⟨Nat.le_of_ble_eq_true rfl, Nat.le_of_ble_eq_true rfl⟩ ⟨Nat.le_of_ble_eq_true rfl, Nat.le_of_ble_eq_true rfl⟩ ?_
        refine V_icmp_eq 44 dX8_writeTo_28 (by decide) (by omega) (by omega) (fun h28 => ?_) (fun h28 => ?_)
        · rw [if_pos h28] at etx
          refine S_iinc (ls' := [_, _, _, _]) dX8_writeTo_44 rfl ⟨rfl, rfl⟩ rfl ?_
          refine V_goto 8 dX8_writeTo_47 (by decide) ?_
          have hgo := ih (s + 1) mi' (by omega) (by omega) (by rw [etx]; exact h3) h4
          rw [etx] at hgo
          exact hgo
        · rw [if_neg h28] at etx
          refine V_aload_n dX8_writeTo_31 rfl ?_
          refine V_aload_n dX8_writeTo_32 rfl ?_
          refine V_iload_n dX8_writeTo_33 rfl ?_
          refine V_iload_n dX8_writeTo_34 rfl ?_
          refine V_iconst dX8_writeTo_35 ?_
          refine V_iadd dX8_writeTo_36 ?_
          refine V_callV0 dX8_writeTo_37 ml_RX8_70 km_X8_writePart kv_X8_writePart (c_X8_writePart (a := (tx L K Lt s).1) (e := s + 1) hG hS' hR (by omega) h3 (by omega)) (by first | with_reducible assumption | rfl) rfl rfl rfl (Nat.le_of_ble_eq_true rfl) ⟨Nat.le_of_ble_eq_true rfl, Nat.le_of_ble_eq_true rfl⟩ ⟨Nat.le_of_ble_eq_true rfl, Nat.le_of_ble_eq_true rfl⟩ ?_
          rintro mi2 mr2 ⟨rfl, t2, f2⟩
          refine V_iload_n dX8_writeTo_40 rfl ?_
          refine V_iconst dX8_writeTo_41 ?_
          refine V_iadd dX8_writeTo_42 ?_
          refine S_istore_n (ls' := [_, _, _, _]) dX8_writeTo_43 ⟨Nat.le_of_ble_eq_true rfl, rfl, rfl⟩ rfl ?_
          refine S_iinc (ls' := [_, _, _, _]) dX8_writeTo_44 rfl ⟨rfl, rfl⟩ rfl ?_
          refine V_goto 8 dX8_writeTo_47 (by decide) ?_
          have hgo := ih (s + 1) mi2 (by omega) (by omega) (by rw [etx]; exact t2) (fun x x1 x2 => by rw [f2 x x1 x2, h4 x x1 x2])
          rw [etx] at hgo
          exact hgo
  refine Ct.ofV (ini := false) [some (vr 37), some (vr 42), none, none] km_X8_writeTo (by decide) rfl (Nat.le_of_ble_eq_true rfl) ?_
  refine V_aload_n dX8_writeTo_0 rfl ?_
  refine V_callV0 dX8_writeTo_1 ml_RX8_67 km_X7_empty kv_X7_empty (c_X7_empty rfl) (by first | with_reducible assumption | rfl) rfl rfl rfl (Nat.le_of_ble_eq_true rfl) ⟨Nat.le_of_ble_eq_true rfl, Nat.le_of_ble_eq_true rfl⟩ ⟨Nat.le_of_ble_eq_true rfl, Nat.le_of_ble_eq_true rfl⟩ ?_
  rintro mi2 mr2 ⟨rfl, hq⟩
  have f2 : ∀ x, x ≠ 42 → x ≠ 43 → mi2 x = mi x := fun x x1 x2 => by rw [hq, up2_n _ _ _ x1]
  have t2 : TxtM mi2 42 43 [] := ⟨by rw [hq, up2_ss]; rfl, fun i hi => by simp at hi⟩
  refine V_iconst dX8_writeTo_4 ?_
  refine S_istore_n (ls' := [_, _, _, _]) dX8_writeTo_5 ⟨Nat.le_of_ble_eq_true rfl, rfl, rfl⟩ rfl ?_
  refine V_iconst dX8_writeTo_6 ?_
  refine S_istore_n (ls' := [_, _, _, _]) dX8_writeTo_7 ⟨Nat.le_of_ble_eq_true rfl, rfl, rfl⟩ rfl ?_
  exact loop (L.toNat + 1) 0 mi2 (by omega) (by omega) t2 f2
end TEXT
