/-! ===== DiagonalTextsModel: a part of a typed text ===== -/
section MODEL10
variable {mi mi1 mi2 mi3 mi4 : MI} {mr : MR} {n m n' m' tl D : Int} {A B A' B' Z T F : Int → Int} {hs hs' : List St} {u : Int × (Int → Int)} {σ : St} {bt : List Int}
/-- what is made, in the Model -/
def MB (mi : MI) (l : List Int) : Prop := mi 62 23 = l.length ∧ ∀ i : Nat, i < l.length → mi 74 i = l.getD i 0
/-- what the reading of parts leaves alone -/
def PKeep (mi' mi : MI) : Prop := (∀ q, q ≠ 6 → q ≠ 7 → q ≠ 8 → q ≠ 9 → q ≠ 23 → q ≠ 24 → mi' 62 q = mi 62 q) ∧ ∀ z, z ≠ 62 → z ≠ 74 → mi' z = mi z
theorem MB.add {l : List Int} {v : Int} (h : MB mi l) : MB (up2 (up2 mi 74 (mi 62 23) v) 62 23 (mi 62 23 + 1)) (l ++ [v]) := by
  obtain ⟨h1, h2⟩ := h
  refine ⟨by rw [up2_ss, h1]; simp, fun i hi => ?_⟩
  rw [up2_n _ _ _ (by decide)]
  simp at hi
  by_cases he : i = l.length
  · subst he
    rw [h1, up2_ss]
    simp
  · rw [up2_sn _ _ _ (by omega), h2 i (by omega)]
    simp [List.getD, List.getElem?_append_left (show i < l.length by omega)]
/-- a part that holds, as the Model reads it -/
theorem brk_num {i : Int} (hT : TxOk tl T) (hi : 0 ≤ i) (hs : T i = 61 ∨ T i = 45) : (0 < dgn T (i + 1) ∧ T (i + 1 + dgn T (i + 1)) = 59 → brk T i = -1 ∧ dgv T (i + 1) = pm T i ∧ i + 1 + dgn T (i + 1) + 1 = i + pn T i) ∧ (¬ (0 < dgn T (i + 1) ∧ T (i + 1 + dgn T (i + 1)) = 59) → brk T i = dgn T (i + 1) + 1) := by
  have h43 : ¬ T i = 43 := by omega
  have e0 : brk T i = brkN T i := by unfold brk; rw [if_neg h43, if_pos hs]
  have e1 : pm T i = numv T (i + 1) := by unfold pm; rw [if_neg h43]
  have e2 : pn T i = dgs T i + 2 := by unfold pn; rw [if_neg h43]
  rw [e0, e1, e2]
  unfold brkN numv dgn dgv
  rw [show i + 1 + 1 = i + 2 by omega]
  by_cases h1 : 49 ≤ T (i + 1) ∧ T (i + 1) ≤ 57
  · rw [if_pos h1, if_pos h1, if_pos h1]
    by_cases h2 : 48 ≤ T (i + 2) ∧ T (i + 2) ≤ 57
    · have ed : dgs T i = 2 := by unfold dgs; rw [if_pos h2]
      rw [if_pos h2, if_pos h2, ed]
      refine ⟨fun hc => ⟨by rw [if_pos hc.2], by rw [if_neg (by omega)]; omega, by omega⟩, fun hc => by rw [if_neg (fun h => hc ⟨by omega, h⟩)]⟩
    · have ed : dgs T i = 1 := by unfold dgs; rw [if_neg h2]
      rw [if_neg h2, if_neg h2, ed]
      rw [show i + 1 + 1 = i + 2 by omega]
      refine ⟨fun hc => ⟨by rw [if_pos hc.2], by rw [if_pos hc.2], by omega⟩, fun hc => by rw [if_neg (fun h => hc ⟨by omega, h⟩)]⟩
  · rw [if_neg h1, if_neg h1, if_neg h1]
    exact ⟨fun hc => by omega, fun _ => by omega⟩
theorem brk_let {i : Int} (h43 : T i = 43) : (0 < lr T (i + 1) ∧ T (i + 1 + lr T (i + 1)) = 59 → brk T i = -1 ∧ lr T (i + 1) = pm T i ∧ i + 1 + lr T (i + 1) + 1 = i + pn T i) ∧ (¬ (0 < lr T (i + 1) ∧ T (i + 1 + lr T (i + 1)) = 59) → brk T i = lr T (i + 1) + 1) := by
  have e0 : brk T i = brkL T i := by unfold brk; rw [if_pos h43]
  have e1 : pm T i = lr T (i + 1) := by unfold pm; rw [if_pos h43]
  have e2 : pn T i = lr T (i + 1) + 2 := by unfold pn; rw [if_pos h43]
  rw [e0, e1, e2]
  unfold brkL
  exact ⟨fun hc => ⟨by rw [if_pos hc], rfl, by omega⟩, fun hc => by rw [if_neg hc]⟩
end MODEL10
