/-! ===== DiagonalTextsModel: a part of a typed text ===== -/
section MODEL10
variable {mi mi1 mi2 mi3 mi4 : MI} {mr : MR} {n m n' m' tl D : Int} {A B A' B' Z T F : Int → Int} {hs hs' : List St} {u : Int × (Int → Int)} {σ : St} {bt : List Int}
/-- what is made, in the Model -/
def MB (mi : MI) (l : List Int) : Prop := mi 62 23 = l.length ∧ ∀ i : Nat, i < l.length → mi 74 i = l.getD i 0
/-- what the reading of parts leaves alone -/
def PKeep (mi' mi : MI) : Prop := (∀ q, q ≠ 6 → q ≠ 7 → q ≠ 8 → q ≠ 9 → q ≠ 23 → q ≠ 24 → mi' 62 q = mi 62 q) ∧ ∀ z, z ≠ 62 → z ≠ 74 → mi' z = mi z
theorem MB.add {l : List Int} {v : Int} (h : MB mi l) : MB (up2 (up2 mi 74 (mi 62 23) v) 62 23 (mi 62 23 + 1)) (l ++ [v]) := by
  obtain ⟨h1, h2⟩ := h
  refine ⟨by rw [up2_ss, h1]; simp, fun i hi => ?_⟩
  rw [up2_n _ _ _ (by decide)]
  simp at hi
  by_cases he : i = l.length
  · subst he
    rw [h1, up2_ss]
    simp
  · rw [up2_sn _ _ _ (by omega), h2 i (by omega)]
    simp [List.getD, List.getElem?_append_left (show i < l.length by omega)]
/-- a part that holds, as the Model reads it -/
theorem brk_num {i : Int} (hT : TxOk tl T) (hi : 0 ≤ i) (hs : T i = 61 ∨ T i = 45) : (0 < dgn T (i + 1) ∧ T (i + 1 + dgn T (i + 1)) = 59 → brk T i = -1 ∧ dgv T (i + 1) = pm T i ∧ i + 1 + dgn T (i + 1) + 1 = i + pn T i) ∧ (¬ (0 < dgn T (i + 1) ∧ T (i + 1 + dgn T (i + 1)) = 59) → brk T i = dgn T (i + 1) + 1) := by
  have h43 : ¬ T i = 43 := by omega
  have e0 : brk T i = brkN T i := by unfold brk; rw [if_neg h43, if_pos hs]
  have e1 : pm T i = numv T (i + 1) := by unfold pm; rw [if_neg h43]
  have e2 : pn T i = dgs T i + 2 := by unfold pn; rw [if_neg h43]
  rw [e0, e1, e2]
  unfold brkN numv dgn dgv
  rw [show i + 1 + 1 = i + 2 by omega]
  by_cases h1 : 49 ≤ T (i + 1) ∧ T (i + 1) ≤ 57
  · rw [if_pos h1, if_pos h1, if_pos h1]
    by_cases h2 : 48 ≤ T (i + 2) ∧ T (i + 2) ≤ 57
    · have ed : dgs T i = 2 := by unfold dgs; rw [if_pos h2]
      rw [if_pos h2, if_pos h2, ed]
      refine ⟨fun hc => ⟨by rw [if_pos hc.2], by rw [if_neg (by omega)]; omega, by omega⟩, fun hc => by rw [if_neg (fun h => hc ⟨by omega, h⟩)]⟩
    · have ed : dgs T i = 1 := by unfold dgs; rw [if_neg h2]
      rw [if_neg h2, if_neg h2, ed]
      rw [show i + 1 + 1 = i + 2 by omega]
      refine ⟨fun hc => ⟨by rw [if_pos hc.2], by rw [if_pos hc.2], by omega⟩, fun hc => by rw [if_neg (fun h => hc ⟨by omega, h⟩)]⟩
  · rw [if_neg h1, if_neg h1, if_neg h1]
    exact ⟨fun hc => by omega, fun _ => by omega⟩
theorem brk_let {i : Int} (h43 : T i = 43) : (0 < lr T (i + 1) ∧ T (i + 1 + lr T (i + 1)) = 59 → brk T i = -1 ∧ lr T (i + 1) = pm T i ∧ i + 1 + lr T (i + 1) + 1 = i + pn T i) ∧ (¬ (0 < lr T (i + 1) ∧ T (i + 1 + lr T (i + 1)) = 59) → brk T i = lr T (i + 1) + 1) := by
  have e0 : brk T i = brkL T i := by unfold brk; rw [if_pos h43]
  have e1 : pm T i = lr T (i + 1) := by unfold pm; rw [if_pos h43]
  have e2 : pn T i = lr T (i + 1) + 2 := by unfold pn; rw [if_pos h43]
  rw [e0, e1, e2]
  unfold brkL
  exact ⟨fun hc => ⟨by rw [if_pos hc], rfl, by omega⟩, fun hc => by rw [if_neg hc]⟩
set_option maxRecDepth 100000 in
set_option maxHeartbeats 1000000 in
theorem l_X11_doesNext {Q : PQ} {i d N : Int} {o3 : Option AV} (hG : Gr mr) (hT : MTyp mi (tl, T)) (hR : RowM (mi 63) (n, m, A, B, Z)) (hA : NR n A) (h43 : T i = 43 ∨ T i = 61) (hi : 0 ≤ i ∧ i ≤ 100) (hN : mi 62 9 = N) (hN2 : 0 ≤ N ∧ N ≤ 99) (hd : mi 62 24 = d) (hb : bt.length + N ≤ 28) (hd0 : 0 ≤ d) (hl1 : T i = 43 → i + 1 + N ≤ tl ∧ ∀ j, i + 1 ≤ j → j < i + 1 + N → 97 ≤ T j ∧ T j ≤ 104) (hl2 : T i = 61 → d + N ≤ n)
    (kk : ∀ (mi' : MI), MB mi' (bt ++ (if T i = 43 then sgm (tlet T) (i + 1) N.toNat else sgm A d N.toNat)) → (∀ q, q ≠ 23 → mi' 62 q = mi 62 q) → (∀ z, z ≠ 62 → z ≠ 74 → mi' z = mi z) → V (RX11, cX11_doesNext, 6, rm 2, false, none, (some .int)) Q 0 0 SH mi' mr [some (vr 62), some (vi i), some (vi (T i)), o3, some (vi (i + 1)), some (vi N)] [] 257) :
    ∀ (t k : Nat) (mi' : MI), (k : Int) ≤ N → N - k < t → MB mi' (bt ++ (if T i = 43 then sgm (tlet T) (i + 1) k else sgm A d k)) → (∀ q, q ≠ 23 → mi' 62 q = mi 62 q) → (∀ z, z ≠ 62 → z ≠ 74 → mi' z = mi z) → V (RX11, cX11_doesNext, 6, rm 2, false, none, (some .int)) Q 0 0 SH mi' mr [some (vr 62), some (vi i), some (vi (T i)), o3, some (vi (i + 1)), some (vi k)] [] 183 := by
  have hn := hA.1
  have htl := hT.2.2.1
  simp only at htl
  intro t
  induction t with
  | zero => intro k mi' a1 a2; omega
  | succ t ih =>
    intro k mi' a1 a2 a3 a4 a5
    have e9 : mi' 62 9 = N := by rw [a4 9 (by decide)]; exact hN
    have e24 : mi' 62 24 = d := by rw [a4 24 (by decide)]; exact hd
    have hR' : RowM (mi' 63) (n, m, A, B, Z) := by rw [a5 63 (by decide) (by decide)]; exact hR
    have hlen : mi' 62 23 = bt.length + k := by
      rw [a3.1]
      split <;> simp [sgm_len]
    have hadd := fun v => a3.add (v := v)
    by_cases hend : N ≤ k
    · refine V_iload dX11_doesNext_183 rfl ?_
      refine V_aload_n dX11_doesNext_185 rfl ?_
      refine V_geti 9 dX11_doesNext_186 fl_RX11_164 (by first | with_reducible assumption | rfl) rfl rfl ?_
      rw [e9]
      refine V_icmp_ge 257 dX11_doesNext_189 (by decide) (by omega) (by omega) (fun _ => ?_) (fun h189 => absurd h189 ((not_not_intro hend)))
      rw [show (k : Int) = N by omega]
      exact kk mi' (by rw [show N.toNat = k by omega]; exact a3) a4 a5
    · by_cases h : T i = 43
      · rw [if_pos h] at hadd a3
        have hlt := hl1 h
        have hT3 := hlt.2 (i + 1 + k) (by omega) (by omega)
        have e66 : mi' 66 (i + 1 + k) = T (i + 1 + k) := by rw [a5 66 (by decide) (by decide)]; exact hT.2.1 _ (by omega) (by simp only; omega)
        refine V_iload dX11_doesNext_183 rfl ?_
        refine V_aload_n dX11_doesNext_185 rfl ?_
        refine V_geti 9 dX11_doesNext_186 fl_RX11_164 (by first | with_reducible assumption | rfl) rfl rfl ?_
        rw [e9]
        refine V_icmp_ge 257 dX11_doesNext_189 (by decide) (by omega) (by omega) (fun h189 => absurd h189 (hend)) (fun _ => ?_)
        refine V_iload_n dX11_doesNext_192 rfl ?_
        refine V_bipush dX11_doesNext_193 (by decide) ?_
        refine V_icmp_eq 257 dX11_doesNext_195 (by decide) (by omega) (by omega) (fun h195 => absurd h195 ((by omega))) (fun _ => ?_)
        refine V_aload_n dX11_doesNext_198 rfl ?_
        refine V_getr 22 _ dX11_doesNext_199 fl_RX11_45 (by first | with_reducible assumption | rfl) rfl rfl (by exact (hG.at rfl : mr 62 22 = some 74)) ?_
        refine V_aload_n dX11_doesNext_202 rfl ?_
        refine V_geti 23 dX11_doesNext_203 fl_RX11_181 (by first | with_reducible assumption | rfl) rfl rfl ?_
        rw [hlen]
        refine V_iload_n dX11_doesNext_206 rfl ?_
        refine V_bipush dX11_doesNext_207 (by decide) ?_
        refine V_icmp_ne 228 dX11_doesNext_209 (by decide) (by omega) (by omega) (fun h209 => absurd h209 ((not_not_intro h))) (fun _ => ?_)
        refine V_aload_n dX11_doesNext_212 rfl ?_
        refine V_getr 4 _ dX11_doesNext_213 fl_RX11_19 (by first | with_reducible assumption | rfl) rfl rfl (by exact (hG.at rfl : mr 62 4 = some 66)) ?_
        refine V_iload dX11_doesNext_216 rfl ?_
        refine V_iload dX11_doesNext_218 rfl ?_
        refine V_iadd dX11_doesNext_220 ?_
        refine V_cald dX11_doesNext_221 (by first | with_reducible assumption | rfl) (by decide) (by omega) ?_
        rw [e66]
        refine V_bipush dX11_doesNext_222 (by decide) ?_
        refine V_isub dX11_doesNext_224 ?_
        refine V_goto 240 dX11_doesNext_225 (by decide) ?_
        refine V_iast dX11_doesNext_240 (by first | with_reducible assumption | rfl) (by decide) (by omega) ?_
        refine V_aload_n dX11_doesNext_241 rfl ?_
        refine V_dup dX11_doesNext_242 rfl ?_
        refine V_geti 23 dX11_doesNext_243 fl_RX11_181 (by first | with_reducible assumption | rfl) rfl rfl ?_
        rw [up2_n _ _ _ (by decide), hlen]
        refine V_iconst dX11_doesNext_246 ?_
        refine V_iadd dX11_doesNext_247 ?_
        refine V_puti 23 dX11_doesNext_248 fl_RX11_181 (by first | with_reducible assumption | rfl) rfl rfl rfl ?_
        refine S_iinc (ls' := [_, _, _, _, _, _]) dX11_doesNext_251 rfl ⟨rfl, rfl⟩ rfl ?_
        refine V_goto 183 dX11_doesNext_254 (by decide) ?_
        have hh := hadd (T (i + 1 + k) - 97)
        rw [hlen, List.append_assoc] at hh
        refine ih (k + 1) _ (by omega) (by omega) (by rw [if_pos h]; exact hh) (fun q hq => by rw [up2_sn _ _ _ hq, up2_n _ _ _ (by decide)]; exact a4 q hq) (fun z z1 z2 => by rw [up2_n _ _ _ z1, up2_n _ _ _ z2]; exact a5 z z1 z2)
      · rw [if_neg h] at hadd a3
        have hlt := hl2 (by omega)
        refine V_iload dX11_doesNext_183 rfl ?_
        refine V_aload_n dX11_doesNext_185 rfl ?_
        refine V_geti 9 dX11_doesNext_186 fl_RX11_164 (by first | with_reducible assumption | rfl) rfl rfl ?_
        rw [e9]
        refine V_icmp_ge 257 dX11_doesNext_189 (by decide) (by omega) (by omega) (fun h189 => absurd h189 (hend)) (fun _ => ?_)
        refine V_iload_n dX11_doesNext_192 rfl ?_
        refine V_bipush dX11_doesNext_193 (by decide) ?_
        refine V_icmp_eq 257 dX11_doesNext_195 (by decide) (by omega) (by omega) (fun h195 => absurd h195 ((by omega))) (fun _ => ?_)
        refine V_aload_n dX11_doesNext_198 rfl ?_
        refine V_getr 22 _ dX11_doesNext_199 fl_RX11_45 (by first | with_reducible assumption | rfl) rfl rfl (by exact (hG.at rfl : mr 62 22 = some 74)) ?_
        refine V_aload_n dX11_doesNext_202 rfl ?_
        refine V_geti 23 dX11_doesNext_203 fl_RX11_181 (by first | with_reducible assumption | rfl) rfl rfl ?_
        rw [hlen]
        refine V_iload_n dX11_doesNext_206 rfl ?_
        refine V_bipush dX11_doesNext_207 (by decide) ?_
        refine V_icmp_ne 228 dX11_doesNext_209 (by decide) (by omega) (by omega) (fun _ => ?_) (fun h209 => absurd h209 (h))
        refine V_aload_n dX11_doesNext_228 rfl ?_
        refine V_iconst dX11_doesNext_229 ?_
        refine V_aload_n dX11_doesNext_230 rfl ?_
        refine V_geti 24 dX11_doesNext_231 fl_RX11_178 (by first | with_reducible assumption | rfl) rfl rfl ?_
        rw [e24]
        refine V_iload dX11_doesNext_234 rfl ?_
        refine V_iadd dX11_doesNext_236 ?_
        refine V_callVP dX11_doesNext_237 ml_RX11_52 km_X11_letter kv_X11_letter (c_X11_letter (row := 0) (p := d + k) hG (Or.inl rfl) (by omega)) (by first | with_reducible assumption | rfl) rfl rfl rfl (Nat.le_of_ble_eq_true rfl) ⟨Nat.le_of_ble_eq_true rfl, Nat.le_of_ble_eq_true rfl⟩ ⟨Nat.le_of_ble_eq_true rfl, Nat.le_of_ble_eq_true rfl⟩ ?_
        rw [letA hR' (p := d + k) (by omega)]
        refine V_iast dX11_doesNext_240 (by first | with_reducible assumption | rfl) (by decide) (by omega) ?_
        refine V_aload_n dX11_doesNext_241 rfl ?_
        refine V_dup dX11_doesNext_242 rfl ?_
        refine V_geti 23 dX11_doesNext_243 fl_RX11_181 (by first | with_reducible assumption | rfl) rfl rfl ?_
        rw [up2_n _ _ _ (by decide), hlen]
        refine V_iconst dX11_doesNext_246 ?_
        refine V_iadd dX11_doesNext_247 ?_
        refine V_puti 23 dX11_doesNext_248 fl_RX11_181 (by first | with_reducible assumption | rfl) rfl rfl rfl ?_
        refine S_iinc (ls' := [_, _, _, _, _, _]) dX11_doesNext_251 rfl ⟨rfl, rfl⟩ rfl ?_
        refine V_goto 183 dX11_doesNext_254 (by decide) ?_
        have hh := hadd (A (d + k))
        rw [hlen, List.append_assoc] at hh
        refine ih (k + 1) _ (by omega) (by omega) (by rw [if_neg h]; exact hh) (fun q hq => by rw [up2_sn _ _ _ hq, up2_n _ _ _ (by decide)]; exact a4 q hq) (fun z z1 z2 => by rw [up2_n _ _ _ z1, up2_n _ _ _ z2]; exact a5 z z1 z2)
end MODEL10
