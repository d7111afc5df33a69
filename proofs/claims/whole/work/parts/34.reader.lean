/-! ===== DiagonalTexts$Reader ===== -/
/-- a typed text told at every place: -1 beyond it -/
def TxOk (tl : Int) (T : Int → Int) : Prop := (0 ≤ tl ∧ tl ≤ 60) ∧ (∀ i, 0 ≤ i → i < tl → 32 ≤ T i ∧ T i ≤ 126) ∧ ∀ i, (i < 0 ∨ tl ≤ i) → T i = -1
theorem TxOk.r {tl : Int} {T : Int → Int} (h : TxOk tl T) (i : Int) : -1 ≤ T i ∧ T i ≤ 126 := by
  by_cases hi : 0 ≤ i ∧ i < tl
  · have := h.2.1 i hi.1 hi.2; omega
  · rw [h.2.2 i (by omega)]; omega
theorem TxOk.lt {tl : Int} {T : Int → Int} (h : TxOk tl T) {i : Int} (hi : T i ≠ -1) : 0 ≤ i ∧ i < tl := by
  by_cases hi' : 0 ≤ i ∧ i < tl
  · exact hi'
  · exact absurd (h.2.2 i (by omega)) hi
abbrev isLet (T : Int → Int) (i : Int) : Prop := 97 ≤ T i ∧ T i ≤ 104
def lrun (T : Int → Int) : Nat → Int → Int
  | 0, _ => 0
  | t + 1, i => if isLet T i then 1 + lrun T t (i + 1) else 0
def lr (T : Int → Int) (i : Int) : Int := lrun T 60 i
theorem lrun_r (T : Int → Int) : ∀ (t : Nat) (i : Int), 0 ≤ lrun T t i ∧ lrun T t i ≤ t
  | 0, _ => by simp [lrun]
  | t + 1, i => by
    have := lrun_r T t (i + 1)
    simp only [lrun]
    split <;> omega
theorem lrun_run (T : Int → Int) : ∀ (t : Nat) (i j : Int), 0 ≤ j → j < lrun T t i → isLet T (i + j)
  | 0, i, j, h0, h => by simp [lrun] at h; omega
  | t + 1, i, j, h0, h => by
    simp only [lrun] at h
    split at h
    · rename_i ha
      by_cases hj : j = 0
      · subst hj; simpa using ha
      · have := lrun_run T t (i + 1) (j - 1) (by omega) (by omega)
        rw [show i + 1 + (j - 1) = i + j by omega] at this
        exact this
    · omega
theorem lrun_end (T : Int → Int) : ∀ (t : Nat) (i : Int), lrun T t i < t → ¬ isLet T (i + lrun T t i)
  | 0, i, h => by simp [lrun] at h
  | t + 1, i, h => by
    by_cases ha : isLet T i
    · have e : lrun T (t + 1) i = 1 + lrun T t (i + 1) := by simp only [lrun]; rw [if_pos ha]
      rw [e] at h ⊢
      have := lrun_end T t (i + 1) (by omega)
      rw [show i + 1 + lrun T t (i + 1) = i + (1 + lrun T t (i + 1)) by omega] at this
      exact this
    · have e : lrun T (t + 1) i = 0 := by simp only [lrun]; rw [if_neg ha]
      rw [e]
      simpa using ha
theorem lr_lt {tl : Int} {T : Int → Int} (h : TxOk tl T) {i : Int} (hi : 0 ≤ i) : 0 ≤ lr T i ∧ lr T i ≤ 60 ∧ (0 < lr T i → i + lr T i ≤ tl) ∧ (1 ≤ i → lr T i < 60) := by
  have h1 := lrun_r T 60 i
  have h2 : 0 < lr T i → i + lr T i ≤ tl := by
    intro h3
    have := lrun_run T 60 i (lr T i - 1) (by omega) (by unfold lr; omega)
    have := h.lt (i := i + (lr T i - 1)) (by unfold isLet at this; omega)
    omega
  have h3 := h.1
  unfold lr at *
  refine ⟨by omega, by omega, h2, fun h4 => ?_⟩
  by_cases h5 : 0 < lrun T 60 i
  · have := h2 h5; omega
  · omega
def brkL (T : Int → Int) (i : Int) : Int := if 0 < lr T (i + 1) ∧ T (i + 1 + lr T (i + 1)) = 59 then -1 else lr T (i + 1) + 1
abbrev isDig (T : Int → Int) (i : Int) : Prop := 48 ≤ T i ∧ T i ≤ 57
def dgs (T : Int → Int) (i : Int) : Int := if isDig T (i + 2) then 2 else 1
def brkN (T : Int → Int) (i : Int) : Int := if 49 ≤ T (i + 1) ∧ T (i + 1) ≤ 57 then (if T (i + 1 + dgs T i) = 59 then -1 else dgs T i + 1) else 1
/-- where a part breaks off: -1, nowhere -/
def brk (T : Int → Int) (i : Int) : Int := if T i = 43 then brkL T i else if T i = 61 ∨ T i = 45 then brkN T i else 0
def numv (T : Int → Int) (j : Int) : Int := if T (j + 1) = 59 then T j - 48 else (T j - 48) * 10 + T (j + 1) - 48
/-- how many letters a part speaks of; how many signs it has -/
def pm (T : Int → Int) (i : Int) : Int := if T i = 43 then lr T (i + 1) else numv T (i + 1)
def pn (T : Int → Int) (i : Int) : Int := if T i = 43 then lr T (i + 1) + 2 else dgs T i + 2
def eoN (T : Int → Int) (tl : Int) : Nat → Int → Int
  | 0, _ => tl
  | t + 1, j => if tl ≤ j then tl else if T j = 59 then j + 1 else eoN T tl t (j + 1)
def eo (T : Int → Int) (tl i : Int) : Int := eoN T tl 61 i
theorem eoN_is (T : Int → Int) (tl : Int) : ∀ (t : Nat) (j e : Int), j ≤ e → e - j < t → e < tl → T e = 59 → (∀ k, j ≤ k → k < e → T k ≠ 59) → eoN T tl t j = e + 1
  | 0, j, e, h1, h2, _, _, _ => by omega
  | t + 1, j, e, h1, h2, h3, h4, h5 => by
    simp only [eoN]
    rw [if_neg (by omega)]
    by_cases hj : j = e
    · subst hj; rw [if_pos h4]
    · rw [if_neg (h5 j (by omega) (by omega))]
      exact eoN_is T tl t (j + 1) e (by omega) (by omega) h3 h4 (fun k g1 g2 => h5 k (by omega) g2)
theorem eoN_r (T : Int → Int) (tl : Int) : ∀ (t : Nat) (j : Int), 0 ≤ tl → 0 ≤ j → 0 ≤ eoN T tl t j ∧ eoN T tl t j ≤ tl
  | 0, j, h, _ => by simp [eoN]; exact h
  | t + 1, j, h, h2 => by
    have := eoN_r T tl t (j + 1) h (by omega)
    simp only [eoN]
    split
    · omega
    · split <;> omega
/-- a part that holds: its facts -/
theorem brk_ok {tl : Int} {T : Int → Int} (h : TxOk tl T) {i : Int} (hi : 0 ≤ i) (hb : brk T i = -1) : (T i = 43 ∨ T i = 61 ∨ T i = 45) ∧ eo T tl i = i + pn T i ∧ 3 ≤ pn T i ∧ i + pn T i ≤ tl ∧ 1 ≤ pm T i ∧ pm T i ≤ 99 ∧ (T i = 43 → pm T i = lr T (i + 1) ∧ pn T i = pm T i + 2) := by
  have hlr := lr_lt h (i := i + 1) (by omega)
  have htl := h.1
  unfold brk at hb
  by_cases h43 : T i = 43
  · rw [if_pos h43] at hb
    unfold brkL at hb
    have hc : 0 < lr T (i + 1) ∧ T (i + 1 + lr T (i + 1)) = 59 := by
      by_cases hc : 0 < lr T (i + 1) ∧ T (i + 1 + lr T (i + 1)) = 59
      · exact hc
      · rw [if_neg hc] at hb; omega
    have hlt := h.lt (i := i + 1 + lr T (i + 1)) (by omega)
    have epn : pn T i = lr T (i + 1) + 2 := by unfold pn; rw [if_pos h43]
    have epm : pm T i = lr T (i + 1) := by unfold pm; rw [if_pos h43]
    have he : eo T tl i = i + 1 + lr T (i + 1) + 1 := eoN_is T tl 61 i (i + 1 + lr T (i + 1)) (by omega) (by omega) hlt.2 hc.2 (fun k g1 g2 => by
      by_cases hk : k = i
      · subst hk; omega
      · have := lrun_run T 60 (i + 1) (k - (i + 1)) (by omega) (by unfold lr at g2; omega)
        rw [show i + 1 + (k - (i + 1)) = k by omega] at this
        unfold isLet at this
        omega)
    refine ⟨Or.inl h43, by omega, by omega, by omega, by omega, by omega, fun _ => ⟨epm, by omega⟩⟩
  · rw [if_neg h43] at hb
    by_cases hs : T i = 61 ∨ T i = 45
    · rw [if_pos hs] at hb
      unfold brkN at hb
      have hd : 49 ≤ T (i + 1) ∧ T (i + 1) ≤ 57 := by
        by_cases hd : 49 ≤ T (i + 1) ∧ T (i + 1) ≤ 57
        · exact hd
        · rw [if_neg hd] at hb; omega
      rw [if_pos hd] at hb
      have hdg : dgs T i = 1 ∧ ¬ isDig T (i + 2) ∨ dgs T i = 2 ∧ isDig T (i + 2) := by
        unfold dgs
        by_cases hx : isDig T (i + 2)
        · right; exact ⟨if_pos hx, hx⟩
        · left; exact ⟨if_neg hx, hx⟩
      have he59 : T (i + 1 + dgs T i) = 59 := by
        by_cases hx : T (i + 1 + dgs T i) = 59
        · exact hx
        · rw [if_neg hx] at hb; omega
      have hlt := h.lt (i := i + 1 + dgs T i) (by omega)
      have epn : pn T i = dgs T i + 2 := by unfold pn; rw [if_neg h43]
      have epm : pm T i = numv T (i + 1) := by unfold pm; rw [if_neg h43]
      have hnum : 1 ≤ numv T (i + 1) ∧ numv T (i + 1) ≤ 99 := by
        unfold numv
        rw [show i + 1 + 1 = i + 2 by omega]
        unfold isDig at hdg
        rcases hdg with ⟨e, hx⟩ | ⟨e, hx⟩
        · rw [e, show i + 1 + 1 = i + 2 by omega] at he59
          rw [if_pos he59]; omega
        · rw [if_neg (by omega)]; omega
      have he : eo T tl i = i + 1 + dgs T i + 1 := eoN_is T tl 61 i (i + 1 + dgs T i) (by omega) (by omega) hlt.2 he59 (fun k g1 g2 => by
        unfold isDig at hdg
        rcases hdg with ⟨e, hx⟩ | ⟨e, hx⟩
        · have : k = i ∨ k = i + 1 := by omega
          rcases this with rfl | rfl <;> omega
        · have : k = i ∨ k = i + 1 ∨ k = i + 2 := by omega
          rcases this with rfl | rfl | rfl <;> omega)
      have hdr : 1 ≤ dgs T i ∧ dgs T i ≤ 2 := by rcases hdg with h | h <;> omega
      refine ⟨Or.inr hs, by omega, by omega, by omega, by omega, by omega, fun h => absurd h h43⟩
    · rw [if_neg hs] at hb; omega
/-- where a part breaks off, in numbers -/
theorem brk_r {tl : Int} {T : Int → Int} (h : TxOk tl T) {i : Int} (hi : 0 ≤ i) : -1 ≤ brk T i ∧ brk T i ≤ 61 := by
  have hlr := lr_lt h (i := i + 1) (by omega)
  unfold brk brkL brkN dgs
  split
  · split <;> omega
  · split
    · split
      · split <;> split <;> omega
      · omega
    · omega
/-- the typed text in memory -/
def Typ (mi : MI) (tl : Int) (T : Int → Int) : Prop := mi 33 1 = tl ∧ (∀ i, 0 ≤ i → i < tl → mi 34 i = T i) ∧ TxOk tl T
theorem Typ.at {mi : MI} {tl : Int} {T : Int → Int} (h : Typ mi tl T) (i : Int) : rat mi 33 34 i = T i := by
  by_cases hi : 0 ≤ i ∧ i < tl
  · rw [rat_in (by rw [h.1]; exact hi)]
    exact h.2.1 i hi.1 hi.2
  · rw [rat_out (by rw [h.1]; exact hi), h.2.2.2.2 i (by omega)]
theorem Typ.keep {mi mi' : MI} {tl : Int} {T : Int → Int} (h : Typ mi tl T) (h1 : mi' 33 = mi 33) (h2 : mi' 34 = mi 34) : Typ mi' tl T := ⟨by rw [h1]; exact h.1, by rw [h2]; exact h.2.1, h.2.2⟩
section READER
variable {mi : MI} {mr : MR} {tl : Int} {T : Int → Int}
theorem e_at {i : Int} (hG : Gr mr) (hT : Typ mi tl T) (hi : rng i) : CP yX7_at cX7_at 2 (some .int) 0 SH mi mr [vr 33, vi i] (vi (T i)) := by
  have h1 := c_X7_at (sh := SH) (mi := mi) (mr := mr) (a := 33) (b := 34) (N := 60) (i := i) hi rfl (hG.at rfl) rfl (by decide) (by have := hT.1; have := hT.2.2.1; omega)
  rw [hT.at i] at h1
  exact h1
set_option maxRecDepth 100000 in
theorem c_X6_endOf {i : Int} (hG : Gr mr) (hT : Typ mi tl T) (hi : 0 ≤ i ∧ i ≤ 1000) : CP yX6_endOf cX6_endOf 3 (some .int) 1 SH mi mr [vr 33, vi i] (vi (eo T tl i)) := by
  have htl := hT.2.2.1
  have hl := hT.1
  have loop : ∀ (t : Nat) (j : Int), 0 ≤ j → j ≤ 2000 - t → tl - j < t → eo T tl i = eoN T tl t j → V (RX6, cX6_endOf, 3, rm 1, false, none, (some .int)) (fun r sh' mi' mr' => sh' = SH ∧ r = some (vi (eo T tl i)) ∧ mi' = mi ∧ mr' = mr) 0 0 SH mi mr [some (vr 33), some (vi i), some (vi j)] [] 2 := by
    intro t
    induction t with
    | zero =>
      intro j h0 h0' h1 h2
      simp only [eoN] at h2
      refine V_iload_n dX6_endOf_2 rfl ?_
      refine V_aload_n dX6_endOf_3 rfl ?_
      refine V_geti 1 dX6_endOf_4 fl_RX6_30 (by first | with_reducible assumption | rfl) rfl rfl ?_
      refine V_icmp_ge 30 dX6_endOf_7 (by decide) (by omega) (by omega) (fun h7 => ?_) (fun h7 => ?_)
      · refine V_aload_n dX6_endOf_30 rfl ?_
        refine V_geti 1 dX6_endOf_31 fl_RX6_30 (by first | with_reducible assumption | rfl) rfl rfl ?_
        refine V_iret dX6_endOf_34 rfl ⟨Nat.le_of_ble_eq_true rfl, Nat.le_of_ble_eq_true rfl⟩ ?_
        exact ⟨rfl, svi (by omega), rfl, rfl⟩
      · omega
    | succ t ih =>
      intro j h0 h0' h1 h2
      simp only [eoN] at h2
      have rT := hT.2.2.r j
      refine V_iload_n dX6_endOf_2 rfl ?_
      refine V_aload_n dX6_endOf_3 rfl ?_
      refine V_geti 1 dX6_endOf_4 fl_RX6_30 (by first | with_reducible assumption | rfl) rfl rfl ?_
      refine V_icmp_ge 30 dX6_endOf_7 (by decide) (by omega) (by omega) (fun h7 => ?_) (fun h7 => ?_)
      · refine V_aload_n dX6_endOf_30 rfl ?_
        refine V_geti 1 dX6_endOf_31 fl_RX6_30 (by first | with_reducible assumption | rfl) rfl rfl ?_
        refine V_iret dX6_endOf_34 rfl ⟨Nat.le_of_ble_eq_true rfl, Nat.le_of_ble_eq_true rfl⟩ ?_
        exact ⟨rfl, svi (by rw [h2, if_pos (by omega), hl]), rfl, rfl⟩
      · refine V_aload_n dX6_endOf_10 rfl ?_
        refine V_iload_n dX6_endOf_11 rfl ?_
        refine V_callVP dX6_endOf_12 ml_RX6_48 km_X7_at kv_X7_at (e_at (i := j) hG hT (by omega)) (by first | with_reducible assumption | rfl) rfl rfl rfl (Nat.le_of_ble_eq_true rfl) ⟨Nat.le_of_ble_eq_true rfl, Nat.le_of_ble_eq_true rfl⟩ ⟨Nat.le_of_ble_eq_true rfl, Nat.le_of_ble_eq_true rfl⟩ ?_
        refine V_bipush dX6_endOf_15 (by decide) ?_
        refine V_icmp_ne 24 dX6_endOf_17 (by decide) (by omega) (by omega) (fun h17 => ?_) (fun h17 => ?_)
        · refine S_iinc (ls' := [_, _, _]) dX6_endOf_24 rfl ⟨rfl, rfl⟩ rfl ?_
          refine V_goto 2 dX6_endOf_27 (by decide) ?_
          exact ih (j + 1) (by omega) (by omega) (by omega) (by rw [h2, if_neg (by omega), if_neg h17])
        · refine V_iload_n dX6_endOf_20 rfl ?_
          refine V_iconst dX6_endOf_21 ?_
          refine V_iadd dX6_endOf_22 ?_
          refine V_iret dX6_endOf_23 rfl ⟨Nat.le_of_ble_eq_true rfl, Nat.le_of_ble_eq_true rfl⟩ ?_
          exact ⟨rfl, svi (by rw [h2, if_neg (by omega), if_pos h17]), rfl, rfl⟩
  refine Ct.ofV (ini := false) [some (vr 33), some (vi i), none] km_X6_endOf (by decide) rfl (Nat.le_of_ble_eq_true rfl) ?_
  refine V_iload_n dX6_endOf_0 rfl ?_
  refine S_istore_n (ls' := [_, _, _]) dX6_endOf_1 ⟨Nat.le_of_ble_eq_true rfl, rfl, rfl⟩ rfl ?_
  exact loop 61 i (by omega) (by omega) (by omega) rfl
set_option maxRecDepth 100000 in
theorem c_X6_breakOfLetters {i : Int} (hG : Gr mr) (hT : Typ mi tl T) (hi : 0 ≤ i ∧ i ≤ 1000) : CP yX6_breakOfLetters cX6_breakOfLetters 3 (some .int) 1 SH mi mr [vr 33, vi i] (vi (brkL T i)) := by
  have hlr := lr_lt hT.2.2 (i := i + 1) (by omega)
  have loop : ∀ (t : Nat) (j : Int), j + t = 60 → 0 ≤ j → lr T (i + 1) = j + lrun T t (i + 1 + j) → V (RX6, cX6_breakOfLetters, 3, rm 1, false, none, (some .int)) (fun r sh' mi' mr' => sh' = SH ∧ r = some (vi (brkL T i)) ∧ mi' = mi ∧ mr' = mr) 0 0 SH mi mr [some (vr 33), some (vi i), some (vi j)] [] 2 := by
    have tail : ∀ j : Int, j = lr T (i + 1) → V (RX6, cX6_breakOfLetters, 3, rm 1, false, none, (some .int)) (fun r sh' mi' mr' => sh' = SH ∧ r = some (vi (brkL T i)) ∧ mi' = mi ∧ mr' = mr) 0 0 SH mi mr [some (vr 33), some (vi i), some (vi j)] [] 33 := by
      intro j hj
      have rT := hT.2.2.r (i + 1 + j)
      refine V_iload_n dX6_breakOfLetters_33 rfl ?_
      refine V_if_le 55 dX6_breakOfLetters_34 (by decide) (by omega) (fun h34 => ?_) (fun h34 => ?_)
      · refine V_iload_n dX6_breakOfLetters_55 rfl ?_
        refine V_iconst dX6_breakOfLetters_56 ?_
        refine V_iadd dX6_breakOfLetters_57 ?_
        refine V_iret dX6_breakOfLetters_58 rfl ⟨Nat.le_of_ble_eq_true rfl, Nat.le_of_ble_eq_true rfl⟩ ?_
        refine ⟨rfl, svi ?_, rfl, rfl⟩
        unfold brkL
        rw [← hj]
        split <;> first | rfl | (exfalso; omega)
      · refine V_aload_n dX6_breakOfLetters_37 rfl ?_
        refine V_iload_n dX6_breakOfLetters_38 rfl ?_
        refine V_iconst dX6_breakOfLetters_39 ?_
        refine V_iadd dX6_breakOfLetters_40 ?_
        refine V_iload_n dX6_breakOfLetters_41 rfl ?_
        refine V_iadd dX6_breakOfLetters_42 ?_
        refine V_callVP dX6_breakOfLetters_43 ml_RX6_48 km_X7_at kv_X7_at (e_at (i := i + 1 + j) hG hT (by omega)) (by first | with_reducible assumption | rfl) rfl rfl rfl (Nat.le_of_ble_eq_true rfl) ⟨Nat.le_of_ble_eq_true rfl, Nat.le_of_ble_eq_true rfl⟩ ⟨Nat.le_of_ble_eq_true rfl, Nat.le_of_ble_eq_true rfl⟩ ?_
        refine V_bipush dX6_breakOfLetters_46 (by decide) ?_
        refine V_icmp_ne 55 dX6_breakOfLetters_48 (by decide) (by omega) (by omega) (fun h48 => ?_) (fun h48 => ?_)
        · refine V_iload_n dX6_breakOfLetters_55 rfl ?_
          refine V_iconst dX6_breakOfLetters_56 ?_
          refine V_iadd dX6_breakOfLetters_57 ?_
          refine V_iret dX6_breakOfLetters_58 rfl ⟨Nat.le_of_ble_eq_true rfl, Nat.le_of_ble_eq_true rfl⟩ ?_
          refine ⟨rfl, svi ?_, rfl, rfl⟩
          unfold brkL
          rw [← hj]
          split <;> first | rfl | (exfalso; omega)
        · refine V_iconst dX6_breakOfLetters_51 ?_
          refine V_goto 58 dX6_breakOfLetters_52 (by decide) ?_
          refine V_iret dX6_breakOfLetters_58 rfl ⟨Nat.le_of_ble_eq_true rfl, Nat.le_of_ble_eq_true rfl⟩ ?_
          refine ⟨rfl, svi ?_, rfl, rfl⟩
          unfold brkL
          rw [← hj]
          split <;> first | rfl | (exfalso; omega)
    intro t
    induction t with
    | zero =>
      intro j h0 h1 h2
      simp only [lrun] at h2
      refine V_iload_n dX6_breakOfLetters_2 rfl ?_
      refine V_bipush dX6_breakOfLetters_3 (by decide) ?_
      refine V_icmp_ge 33 dX6_breakOfLetters_5 (by decide) (by omega) (by omega) (fun h5 => ?_) (fun h5 => ?_)
      · exact tail j (by omega)
      · omega
    | succ t ih =>
      intro j h0 h1 h2
      simp only [lrun] at h2
      have rT := hT.2.2.r (i + 1 + j)
      refine V_iload_n dX6_breakOfLetters_2 rfl ?_
      refine V_bipush dX6_breakOfLetters_3 (by decide) ?_
      refine V_icmp_ge 33 dX6_breakOfLetters_5 (by decide) (by omega) (by omega) (fun h5 => ?_) (fun h5 => ?_)
      · omega
      · refine V_aload_n dX6_breakOfLetters_8 rfl ?_
        refine V_iload_n dX6_breakOfLetters_9 rfl ?_
        refine V_iconst dX6_breakOfLetters_10 ?_
        refine V_iadd dX6_breakOfLetters_11 ?_
        refine V_iload_n dX6_breakOfLetters_12 rfl ?_
        refine V_iadd dX6_breakOfLetters_13 ?_
        refine V_callVP dX6_breakOfLetters_14 ml_RX6_48 km_X7_at kv_X7_at (e_at (i := i + 1 + j) hG hT (by omega)) (by first | with_reducible assumption | rfl) rfl rfl rfl (Nat.le_of_ble_eq_true rfl) ⟨Nat.le_of_ble_eq_true rfl, Nat.le_of_ble_eq_true rfl⟩ ⟨Nat.le_of_ble_eq_true rfl, Nat.le_of_ble_eq_true rfl⟩ ?_
        refine V_bipush dX6_breakOfLetters_17 (by decide) ?_
        refine V_bipush dX6_breakOfLetters_19 (by decide) ?_
        refine V_callSP dX6_breakOfLetters_21 ml_RX6_78 km_X10_isIn ks_X10_isIn (c_X10_isIn (v := T (i + 1 + j)) (a := 97) (b := 104) (by omega) (by omega) (by omega)) rfl rfl (Nat.le_of_ble_eq_true rfl) ⟨Nat.le_of_ble_eq_true rfl, Nat.le_of_ble_eq_true rfl⟩ ⟨Nat.le_of_ble_eq_true rfl, Nat.le_of_ble_eq_true rfl⟩ ?_
        refine V_if_eq 33 dX6_breakOfLetters_24 (by decide) (by split <;> omega) (fun h24 => ?_) (fun h24 => ?_)
        · rw [ifz] at h24
          rw [if_neg h24] at h2
          exact tail j (by omega)
        · refine S_iinc (ls' := [_, _, _]) dX6_breakOfLetters_27 rfl ⟨rfl, rfl⟩ rfl ?_
          refine V_goto 2 dX6_breakOfLetters_30 (by decide) ?_
          rw [ifz, Decidable.not_not] at h24
          rw [if_pos h24] at h2
          exact ih (j + 1) (by omega) (by omega) (by rw [show i + 1 + (j + 1) = i + 1 + j + 1 by omega]; omega)
  refine Ct.ofV (ini := false) [some (vr 33), some (vi i), none] km_X6_breakOfLetters (by decide) rfl (Nat.le_of_ble_eq_true rfl) ?_
  refine V_iconst dX6_breakOfLetters_0 ?_
  refine S_istore_n (ls' := [_, _, _]) dX6_breakOfLetters_1 ⟨Nat.le_of_ble_eq_true rfl, rfl, rfl⟩ rfl ?_
  exact loop 60 0 (by omega) (by omega) (by simp [lr])
set_option maxRecDepth 100000 in
theorem c_X6_breakOfNumber {i : Int} (hG : Gr mr) (hT : Typ mi tl T) (hi : 0 ≤ i ∧ i ≤ 1000) : CP yX6_breakOfNumber cX6_breakOfNumber 3 (some .int) 1 SH mi mr [vr 33, vi i] (vi (brkN T i)) := by
  have r1 := hT.2.2.r (i + 1)
  have r2 := hT.2.2.r (i + 2)
  have r3 := hT.2.2.r (i + 1 + 1)
  have r4 := hT.2.2.r (i + 1 + 2)
  refine Ct.ofV (ini := false) [some (vr 33), some (vi i), none] km_X6_breakOfNumber (by decide) rfl (Nat.le_of_ble_eq_true rfl) ?_
  refine V_aload_n dX6_breakOfNumber_0 rfl ?_
  refine V_iload_n dX6_breakOfNumber_1 rfl ?_
  refine V_iconst dX6_breakOfNumber_2 ?_
  refine V_iadd dX6_breakOfNumber_3 ?_
  refine V_callVP dX6_breakOfNumber_4 ml_RX6_48 km_X7_at kv_X7_at (e_at (i := i + 1) hG hT (by omega)) (by first | with_reducible assumption | rfl) rfl rfl rfl (Nat.le_of_ble_eq_true rfl) ⟨Nat.le_of_ble_eq_true rfl, Nat.le_of_ble_eq_true rfl⟩ ⟨Nat.le_of_ble_eq_true rfl, Nat.le_of_ble_eq_true rfl⟩ ?_
  refine V_bipush dX6_breakOfNumber_7 (by decide) ?_
  refine V_bipush dX6_breakOfNumber_9 (by decide) ?_
  refine V_callSP dX6_breakOfNumber_11 ml_RX6_78 km_X10_isIn ks_X10_isIn (c_X10_isIn (v := T (i + 1)) (a := 49) (b := 57) (by omega) (by omega) (by omega)) rfl rfl (Nat.le_of_ble_eq_true rfl) ⟨Nat.le_of_ble_eq_true rfl, Nat.le_of_ble_eq_true rfl⟩ ⟨Nat.le_of_ble_eq_true rfl, Nat.le_of_ble_eq_true rfl⟩ ?_
  refine V_if_ne 19 dX6_breakOfNumber_14 (by decide) (by split <;> omega) (fun h14 => ?_) (fun h14 => ?_)
  · refine V_aload_n dX6_breakOfNumber_19 rfl ?_
    refine V_iload_n dX6_breakOfNumber_20 rfl ?_
    refine V_iconst dX6_breakOfNumber_21 ?_
    refine V_iadd dX6_breakOfNumber_22 ?_
    refine V_callVP dX6_breakOfNumber_23 ml_RX6_48 km_X7_at kv_X7_at (e_at (i := i + 2) hG hT (by omega)) (by first | with_reducible assumption | rfl) rfl rfl rfl (Nat.le_of_ble_eq_true rfl) ⟨Nat.le_of_ble_eq_true rfl, Nat.le_of_ble_eq_true rfl⟩ ⟨Nat.le_of_ble_eq_true rfl, Nat.le_of_ble_eq_true rfl⟩ ?_
    refine V_bipush dX6_breakOfNumber_26 (by decide) ?_
    refine V_bipush dX6_breakOfNumber_28 (by decide) ?_
    refine V_callSP dX6_breakOfNumber_30 ml_RX6_78 km_X10_isIn ks_X10_isIn (c_X10_isIn (v := T (i + 2)) (a := 48) (b := 57) (by omega) (by omega) (by omega)) rfl rfl (Nat.le_of_ble_eq_true rfl) ⟨Nat.le_of_ble_eq_true rfl, Nat.le_of_ble_eq_true rfl⟩ ⟨Nat.le_of_ble_eq_true rfl, Nat.le_of_ble_eq_true rfl⟩ ?_
    refine V_if_eq 40 dX6_breakOfNumber_33 (by decide) (by split <;> omega) (fun h33 => ?_) (fun h33 => ?_)
    · refine V_iconst dX6_breakOfNumber_40 ?_
      refine S_istore_n (ls' := [_, _, _]) dX6_breakOfNumber_41 ⟨Nat.le_of_ble_eq_true rfl, rfl, rfl⟩ rfl ?_
      refine V_aload_n dX6_breakOfNumber_42 rfl ?_
      refine V_iload_n dX6_breakOfNumber_43 rfl ?_
      refine V_iconst dX6_breakOfNumber_44 ?_
      refine V_iadd dX6_breakOfNumber_45 ?_
      refine V_iload_n dX6_breakOfNumber_46 rfl ?_
      refine V_iadd dX6_breakOfNumber_47 ?_
      refine V_callVP dX6_breakOfNumber_48 ml_RX6_48 km_X7_at kv_X7_at (e_at hG hT (by omega)) (by first | with_reducible assumption | rfl) rfl rfl rfl (Nat.le_of_ble_eq_true rfl) ⟨Nat.le_of_ble_eq_true rfl, Nat.le_of_ble_eq_true rfl⟩ ⟨Nat.le_of_ble_eq_true rfl, Nat.le_of_ble_eq_true rfl⟩ ?_
      refine V_bipush dX6_breakOfNumber_51 (by decide) ?_
      refine V_icmp_ne 60 dX6_breakOfNumber_53 (by decide) (by omega) (by omega) (fun h53 => ?_) (fun h53 => ?_)
      · refine V_iload_n dX6_breakOfNumber_60 rfl ?_
        refine V_iconst dX6_breakOfNumber_61 ?_
        refine V_iadd dX6_breakOfNumber_62 ?_
        refine V_iret dX6_breakOfNumber_63 rfl ⟨Nat.le_of_ble_eq_true rfl, Nat.le_of_ble_eq_true rfl⟩ ?_
        rw [ifz, Decidable.not_not] at h14
        rw [ifz] at h33
        refine ⟨rfl, svi ?_, rfl, rfl⟩
        unfold brkN
        rw [if_pos h14]
        have hd : dgs T i = 1 ∨ dgs T i = 2 := by unfold dgs; split <;> omega
        first | (have e : dgs T i = 1 := (by unfold dgs; rw [if_neg h33]); rw [e]; split <;> first | rfl | (exfalso; omega)) | (rw [Decidable.not_not] at h33; have e : dgs T i = 2 := (by unfold dgs; rw [if_pos h33]); rw [e]; split <;> first | rfl | (exfalso; omega))
      · refine V_iconst dX6_breakOfNumber_56 ?_
        refine V_goto 63 dX6_breakOfNumber_57 (by decide) ?_
        refine V_iret dX6_breakOfNumber_63 rfl ⟨Nat.le_of_ble_eq_true rfl, Nat.le_of_ble_eq_true rfl⟩ ?_
        rw [ifz, Decidable.not_not] at h14
        rw [ifz] at h33
        refine ⟨rfl, svi ?_, rfl, rfl⟩
        unfold brkN
        rw [if_pos h14]
        have hd : dgs T i = 1 ∨ dgs T i = 2 := by unfold dgs; split <;> omega
        first | (have e : dgs T i = 1 := (by unfold dgs; rw [if_neg h33]); rw [e]; split <;> first | rfl | (exfalso; omega)) | (rw [Decidable.not_not] at h33; have e : dgs T i = 2 := (by unfold dgs; rw [if_pos h33]); rw [e]; split <;> first | rfl | (exfalso; omega))
    · refine V_iconst dX6_breakOfNumber_36 ?_
      refine V_goto 41 dX6_breakOfNumber_37 (by decide) ?_
      refine S_istore_n (ls' := [_, _, _]) dX6_breakOfNumber_41 ⟨Nat.le_of_ble_eq_true rfl, rfl, rfl⟩ rfl ?_
      refine V_aload_n dX6_breakOfNumber_42 rfl ?_
      refine V_iload_n dX6_breakOfNumber_43 rfl ?_
      refine V_iconst dX6_breakOfNumber_44 ?_
      refine V_iadd dX6_breakOfNumber_45 ?_
      refine V_iload_n dX6_breakOfNumber_46 rfl ?_
      refine V_iadd dX6_breakOfNumber_47 ?_
      refine V_callVP dX6_breakOfNumber_48 ml_RX6_48 km_X7_at kv_X7_at (e_at hG hT (by omega)) (by first | with_reducible assumption | rfl) rfl rfl rfl (Nat.le_of_ble_eq_true rfl) ⟨Nat.le_of_ble_eq_true rfl, Nat.le_of_ble_eq_true rfl⟩ ⟨Nat.le_of_ble_eq_true rfl, Nat.le_of_ble_eq_true rfl⟩ ?_
      refine V_bipush dX6_breakOfNumber_51 (by decide) ?_
      refine V_icmp_ne 60 dX6_breakOfNumber_53 (by decide) (by omega) (by omega) (fun h53 => ?_) (fun h53 => ?_)
      · refine V_iload_n dX6_breakOfNumber_60 rfl ?_
        refine V_iconst dX6_breakOfNumber_61 ?_
        refine V_iadd dX6_breakOfNumber_62 ?_
        refine V_iret dX6_breakOfNumber_63 rfl ⟨Nat.le_of_ble_eq_true rfl, Nat.le_of_ble_eq_true rfl⟩ ?_
        rw [ifz, Decidable.not_not] at h14
        rw [ifz] at h33
        refine ⟨rfl, svi ?_, rfl, rfl⟩
        unfold brkN
        rw [if_pos h14]
        have hd : dgs T i = 1 ∨ dgs T i = 2 := by unfold dgs; split <;> omega
        first | (have e : dgs T i = 1 := (by unfold dgs; rw [if_neg h33]); rw [e]; split <;> first | rfl | (exfalso; omega)) | (rw [Decidable.not_not] at h33; have e : dgs T i = 2 := (by unfold dgs; rw [if_pos h33]); rw [e]; split <;> first | rfl | (exfalso; omega))
      · refine V_iconst dX6_breakOfNumber_56 ?_
        refine V_goto 63 dX6_breakOfNumber_57 (by decide) ?_
        refine V_iret dX6_breakOfNumber_63 rfl ⟨Nat.le_of_ble_eq_true rfl, Nat.le_of_ble_eq_true rfl⟩ ?_
        rw [ifz, Decidable.not_not] at h14
        rw [ifz] at h33
        refine ⟨rfl, svi ?_, rfl, rfl⟩
        unfold brkN
        rw [if_pos h14]
        have hd : dgs T i = 1 ∨ dgs T i = 2 := by unfold dgs; split <;> omega
        first | (have e : dgs T i = 1 := (by unfold dgs; rw [if_neg h33]); rw [e]; split <;> first | rfl | (exfalso; omega)) | (rw [Decidable.not_not] at h33; have e : dgs T i = 2 := (by unfold dgs; rw [if_pos h33]); rw [e]; split <;> first | rfl | (exfalso; omega))
  · refine V_iconst dX6_breakOfNumber_17 ?_
    refine V_iret dX6_breakOfNumber_18 rfl ⟨Nat.le_of_ble_eq_true rfl, Nat.le_of_ble_eq_true rfl⟩ ?_
    rw [ifz] at h14
    exact ⟨rfl, svi (by unfold brkN; rw [if_neg h14]), rfl, rfl⟩
set_option maxRecDepth 100000 in
theorem c_X6_breakOf {i : Int} (hG : Gr mr) (hT : Typ mi tl T) (hi : 0 ≤ i ∧ i ≤ 1000) : CP yX6_breakOf cX6_breakOf 3 (some .int) 2 SH mi mr [vr 33, vi i] (vi (brk T i)) := by
  have r1 := hT.2.2.r i
  refine Ct.ofV (ini := false) [some (vr 33), some (vi i), none] km_X6_breakOf (by decide) rfl (Nat.le_of_ble_eq_true rfl) ?_
  refine V_aload_n dX6_breakOf_0 rfl ?_
  refine V_iload_n dX6_breakOf_1 rfl ?_
  refine V_callVP dX6_breakOf_2 ml_RX6_48 km_X7_at kv_X7_at (e_at (i := i) hG hT (by omega)) (by first | with_reducible assumption | rfl) rfl rfl rfl (Nat.le_of_ble_eq_true rfl) ⟨Nat.le_of_ble_eq_true rfl, Nat.le_of_ble_eq_true rfl⟩ ⟨Nat.le_of_ble_eq_true rfl, Nat.le_of_ble_eq_true rfl⟩ ?_
  refine S_istore_n (ls' := [_, _, _]) dX6_breakOf_5 ⟨Nat.le_of_ble_eq_true rfl, rfl, rfl⟩ rfl ?_
  refine V_iload_n dX6_breakOf_6 rfl ?_
  refine V_bipush dX6_breakOf_7 (by decide) ?_
  refine V_icmp_ne 18 dX6_breakOf_9 (by decide) (by omega) (by omega) (fun h9 => ?_) (fun h9 => ?_)
  · refine V_iload_n dX6_breakOf_18 rfl ?_
    refine V_bipush dX6_breakOf_19 (by decide) ?_
    refine V_icmp_eq 30 dX6_breakOf_21 (by decide) (by omega) (by omega) (fun h21 => ?_) (fun h21 => ?_)
    · refine V_aload_n dX6_breakOf_30 rfl ?_
      refine V_iload_n dX6_breakOf_31 rfl ?_
      refine V_callSP dX6_breakOf_32 ml_RX6_75 km_X6_breakOfNumber ks_X6_breakOfNumber (c_X6_breakOfNumber hG hT hi) rfl rfl (Nat.le_of_ble_eq_true rfl) ⟨Nat.le_of_ble_eq_true rfl, Nat.le_of_ble_eq_true rfl⟩ ⟨Nat.le_of_ble_eq_true rfl, Nat.le_of_ble_eq_true rfl⟩ ?_
      refine V_goto 39 dX6_breakOf_35 (by decide) ?_
      refine V_iret dX6_breakOf_39 rfl ⟨Nat.le_of_ble_eq_true rfl, Nat.le_of_ble_eq_true rfl⟩ ?_
      refine ⟨rfl, svi ?_, rfl, rfl⟩
      unfold brk
      first | (rw [if_pos (by omega)]; done) | (rw [if_neg (by omega), if_pos (by omega)]; done) | (rw [if_neg (by omega), if_neg (by omega)]; done)
    · refine V_iload_n dX6_breakOf_24 rfl ?_
      refine V_bipush dX6_breakOf_25 (by decide) ?_
      refine V_icmp_ne 38 dX6_breakOf_27 (by decide) (by omega) (by omega) (fun h27 => ?_) (fun h27 => ?_)
      · refine V_iconst dX6_breakOf_38 ?_
        refine V_iret dX6_breakOf_39 rfl ⟨Nat.le_of_ble_eq_true rfl, Nat.le_of_ble_eq_true rfl⟩ ?_
        refine ⟨rfl, svi ?_, rfl, rfl⟩
        unfold brk
        first | (rw [if_pos (by omega)]; done) | (rw [if_neg (by omega), if_pos (by omega)]; done) | (rw [if_neg (by omega), if_neg (by omega)]; done)
      · refine V_aload_n dX6_breakOf_30 rfl ?_
        refine V_iload_n dX6_breakOf_31 rfl ?_
        refine V_callSP dX6_breakOf_32 ml_RX6_75 km_X6_breakOfNumber ks_X6_breakOfNumber (c_X6_breakOfNumber hG hT hi) rfl rfl (Nat.le_of_ble_eq_true rfl) ⟨Nat.le_of_ble_eq_true rfl, Nat.le_of_ble_eq_true rfl⟩ ⟨Nat.le_of_ble_eq_true rfl, Nat.le_of_ble_eq_true rfl⟩ ?_
        refine V_goto 39 dX6_breakOf_35 (by decide) ?_
        refine V_iret dX6_breakOf_39 rfl ⟨Nat.le_of_ble_eq_true rfl, Nat.le_of_ble_eq_true rfl⟩ ?_
        refine ⟨rfl, svi ?_, rfl, rfl⟩
        unfold brk
        first | (rw [if_pos (by omega)]; done) | (rw [if_neg (by omega), if_pos (by omega)]; done) | (rw [if_neg (by omega), if_neg (by omega)]; done)
  · refine V_aload_n dX6_breakOf_12 rfl ?_
    refine V_iload_n dX6_breakOf_13 rfl ?_
    refine V_callSP dX6_breakOf_14 ml_RX6_72 km_X6_breakOfLetters ks_X6_breakOfLetters (c_X6_breakOfLetters hG hT hi) rfl rfl (Nat.le_of_ble_eq_true rfl) ⟨Nat.le_of_ble_eq_true rfl, Nat.le_of_ble_eq_true rfl⟩ ⟨Nat.le_of_ble_eq_true rfl, Nat.le_of_ble_eq_true rfl⟩ ?_
    refine V_iret dX6_breakOf_17 rfl ⟨Nat.le_of_ble_eq_true rfl, Nat.le_of_ble_eq_true rfl⟩ ?_
    refine ⟨rfl, svi ?_, rfl, rfl⟩
    unfold brk
    first | (rw [if_pos (by omega)]; done) | (rw [if_neg (by omega), if_pos (by omega)]; done) | (rw [if_neg (by omega), if_neg (by omega)]; done)
set_option maxRecDepth 100000 in
theorem c_X6_numberAt {j : Int} (hG : Gr mr) (hT : Typ mi tl T) (hi : 0 ≤ j ∧ j ≤ 1000) : CP yX6_numberAt cX6_numberAt 4 (some .int) 1 SH mi mr [vr 33, vi j] (vi (numv T j)) := by
  have r1 := hT.2.2.r j
  have r2 := hT.2.2.r (j + 1)
  refine Ct.ofV (ini := false) [some (vr 33), some (vi j), none, none] km_X6_numberAt (by decide) rfl (Nat.le_of_ble_eq_true rfl) ?_
  refine V_aload_n dX6_numberAt_0 rfl ?_
  refine V_iload_n dX6_numberAt_1 rfl ?_
  refine V_callVP dX6_numberAt_2 ml_RX6_48 km_X7_at kv_X7_at (e_at (i := j) hG hT (by omega)) (by first | with_reducible assumption | rfl) rfl rfl rfl (Nat.le_of_ble_eq_true rfl) ⟨Nat.le_of_ble_eq_true rfl, Nat.le_of_ble_eq_true rfl⟩ ⟨Nat.le_of_ble_eq_true rfl, Nat.le_of_ble_eq_true rfl⟩ ?_
  refine V_bipush dX6_numberAt_5 (by decide) ?_
  refine V_isub dX6_numberAt_7 ?_
  refine S_istore_n (ls' := [_, _, _, _]) dX6_numberAt_8 ⟨Nat.le_of_ble_eq_true rfl, rfl, rfl⟩ rfl ?_
  refine V_aload_n dX6_numberAt_9 rfl ?_
  refine V_iload_n dX6_numberAt_10 rfl ?_
  refine V_iconst dX6_numberAt_11 ?_
  refine V_iadd dX6_numberAt_12 ?_
  refine V_callVP dX6_numberAt_13 ml_RX6_48 km_X7_at kv_X7_at (e_at (i := j + 1) hG hT (by omega)) (by first | with_reducible assumption | rfl) rfl rfl rfl (Nat.le_of_ble_eq_true rfl) ⟨Nat.le_of_ble_eq_true rfl, Nat.le_of_ble_eq_true rfl⟩ ⟨Nat.le_of_ble_eq_true rfl, Nat.le_of_ble_eq_true rfl⟩ ?_
  refine S_istore_n (ls' := [_, _, _, _]) dX6_numberAt_16 ⟨Nat.le_of_ble_eq_true rfl, rfl, rfl⟩ rfl ?_
  refine V_iload_n dX6_numberAt_17 rfl ?_
  refine V_bipush dX6_numberAt_18 (by decide) ?_
  refine V_icmp_ne 27 dX6_numberAt_20 (by decide) (by omega) (by omega) (fun h20 => ?_) (fun h20 => ?_)
  · refine V_iload_n dX6_numberAt_27 rfl ?_
    refine V_bipush dX6_numberAt_28 (by decide) ?_
    refine V_imul dX6_numberAt_30 ?_
    refine V_iload_n dX6_numberAt_31 rfl ?_
    refine V_iadd dX6_numberAt_32 ?_
    refine V_bipush dX6_numberAt_33 (by decide) ?_
    refine V_isub dX6_numberAt_35 ?_
    refine V_iret dX6_numberAt_36 rfl ⟨Nat.le_of_ble_eq_true rfl, Nat.le_of_ble_eq_true rfl⟩ ?_
    refine ⟨rfl, svi ?_, rfl, rfl⟩
    unfold numv
    split <;> first | rfl | omega
  · refine V_iload_n dX6_numberAt_23 rfl ?_
    refine V_goto 36 dX6_numberAt_24 (by decide) ?_
    refine V_iret dX6_numberAt_36 rfl ⟨Nat.le_of_ble_eq_true rfl, Nat.le_of_ble_eq_true rfl⟩ ?_
    refine ⟨rfl, svi ?_, rfl, rfl⟩
    unfold numv
    split <;> first | rfl | omega
end READER
