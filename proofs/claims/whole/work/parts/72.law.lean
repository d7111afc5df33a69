/-! ===== the law: its cases ===== -/
section VL
variable {μ : Mt} {Q : PQ} {k n : Nat} {sh : ShT} {mi : MI} {mr : MR} {ls : List (Option AV)} {st : List AV} {pc : Nat}
theorem and31 (x : Int32) : ∃ c : Int, 0 ≤ c ∧ c ≤ 31 ∧ x &&& Int32.ofInt 31 = Int32.ofInt c := by
  refine ⟨(x &&& Int32.ofInt 31).toInt, ?_, ?_, (Int32.ofInt_toInt _).symm⟩ <;>
  · have h : (x &&& Int32.ofInt 31).toBitVec = x.toBitVec &&& 31#32 := rfl
    have hn : (x.toBitVec &&& 31#32).toNat ≤ 31 := by
      rw [BitVec.toNat_and]
      exact Nat.and_le_right
    have hi : (x &&& Int32.ofInt 31).toInt = ((x.toBitVec &&& 31#32).toNat : Int) := by
      show (x &&& Int32.ofInt 31).toBitVec.toInt = _
      rw [h]
      exact BitVec.toInt_eq_toNat_of_lt (by omega)
    omega
theorem V_iand31 {a : Int} (hd : decode μ.2.1 pc = .ok (.iand, 1)) (kk : ∀ c : Int, 0 ≤ c → c ≤ 31 → V μ Q k n sh mi mr ls (vi c :: st) (pc + 1)) : V μ Q k n sh mi mr ls (vi 31 :: vi a :: st) pc := by
  intro p l e s m args below meth c D A ρ dA H locs la Qm hC hR hS hL hH
  refine lv_iand hC.1 hC.2.1 hd ?_
  obtain ⟨c', h1, h2, h3⟩ := and31 (Int32.ofInt a)
  rw [h3]
  exact kk c' h1 h2 p l e s m args below meth c D A ρ dA H locs la Qm hC hR hS hL hH
end VL
abbrev muL (L : Nat) (xs : Nat → Int) : Mt := (RL, cL_law, 4, room_1, false, some (L, xs), some .boolean)
abbrev QL : PQ := fun r _ _ _ => r = some (vi 1)
theorem RepC.gr {mi : MI} {mr : MR} {s : Sg} (h : RepC mi mr s) : Gr mr := by
  obtain ⟨f, fb, g, gb, P, hN, -⟩ := h
  exact hN.2.2.1
theorem RepC.low {mi mi1 : MI} {mr : MR} {s : Sg} (h : RepC mi mr s) (hk : ∀ x, x < 62 → mi1 x = mi x) : RepC mi1 mr s := h.keep (fun x _ x2 => hk x (by omega))
theorem RepM.up {mi mi1 : MI} {s : Sg} (h : RepM mi s) (hk : ∀ x, 62 ≤ x → mi1 x = mi x) : RepM mi1 s := h.keep (by rw [hk 62 (by decide)]) (by rw [hk 62 (by decide)]) (fun x hx => hk x (by omega))
section LAWC
variable {L : Nat} {xs : Nat → Int} {mi : MI} {mr : MR} {n m tl : Int} {A B Z T : Int → Int} {hs : List St} {i : Int}
abbrev Hd0 (i : Int) : List (Option AV) := [some (vr 1003), some (vr 0), some (vr 62), some (vi i)]
abbrev lwK (L : Nat) (xs : Nat → Int) (i : Int) : Prop := ∀ (mi' : MI) (mr' : MR) (s' : Sg), RepC mi' mr' s' → RepM mi' s' → V (muL L xs) QL 75 16789 SH mi' mr' (Hd0 i) [] 676
set_option maxRecDepth 100000 in
set_option maxHeartbeats 1000000 in
theorem lw_c0 (hxr : ∀ j, rng (xs j)) (hL : L ≤ 2147483648) (hi : 0 ≤ i ∧ i + 4 ≤ L) (hC : RepC mi mr ((n, m, A, B, Z), hs, tl, T)) (hM : RepM mi ((n, m, A, B, Z), hs, tl, T)) (kk : lwK L xs i) : V (muL L xs) QL 75 16789 SH mi mr (Hd0 i) [] 132 := by
  refine V_aload_n dL_law_132 rfl ?_
  refine V_aload_n dL_law_133 rfl ?_
  refine V_iload_n dL_law_134 rfl ?_
  refine V_iconst dL_law_135 ?_
  refine V_iadd dL_law_136 ?_
  refine V_sld rfl hL dL_law_137 (by omega) ?_
  refine V_aload_n dL_law_138 rfl ?_
  refine V_iload_n dL_law_139 rfl ?_
  refine V_iconst dL_law_140 ?_
  refine V_iadd dL_law_141 ?_
  refine V_sld rfl hL dL_law_142 (by omega) ?_
  refine V_callV1 dL_law_143 ml_RL_13 km_X10_append kv_X10_append (c_X10_append (hxr _) (hxr _) hC) (by first | with_reducible assumption | rfl) rfl rfl rfl (Nat.le_of_ble_eq_true rfl) ⟨Nat.le_of_ble_eq_true rfl, Nat.le_of_ble_eq_true rfl⟩ ⟨Nat.le_of_ble_eq_true rfl, Nat.le_of_ble_eq_true rfl⟩ ?_
  rintro v mi1 mr1 ⟨rfl, hC1, hk1⟩
  refine V_aload_n dL_law_146 rfl ?_
  refine V_aload_n dL_law_147 rfl ?_
  refine V_iload_n dL_law_148 rfl ?_
  refine V_iconst dL_law_149 ?_
  refine V_iadd dL_law_150 ?_
  refine V_sld rfl hL dL_law_151 (by omega) ?_
  refine V_aload_n dL_law_152 rfl ?_
  refine V_iload_n dL_law_153 rfl ?_
  refine V_iconst dL_law_154 ?_
  refine V_iadd dL_law_155 ?_
  refine V_sld rfl hL dL_law_156 (by omega) ?_
  refine V_callV1 dL_law_157 ml_RL_17 km_X11_append kv_X11_append (c_X11_append hC1.gr (hxr _) (hxr _) (hM.up hk1)) (by first | with_reducible assumption | rfl) rfl rfl rfl (Nat.le_of_ble_eq_true rfl) ⟨Nat.le_of_ble_eq_true rfl, Nat.le_of_ble_eq_true rfl⟩ ⟨Nat.le_of_ble_eq_true rfl, Nat.le_of_ble_eq_true rfl⟩ ?_
  rintro v mi2 mr2 ⟨rfl, rfl, hM2, hk2⟩
  refine V_icmp_same 676 dL_law_160 (by decide) ?_
  exact kk _ _ _ (hC1.low hk2) hM2
set_option maxRecDepth 100000 in
set_option maxHeartbeats 1000000 in
theorem lw_c1 (hxr : ∀ j, rng (xs j)) (hL : L ≤ 2147483648) (hi : 0 ≤ i ∧ i + 4 ≤ L) (hC : RepC mi mr ((n, m, A, B, Z), hs, tl, T)) (hM : RepM mi ((n, m, A, B, Z), hs, tl, T)) (kk : lwK L xs i) : V (muL L xs) QL 75 16789 SH mi mr (Hd0 i) [] 165 := by
  refine V_aload_n dL_law_165 rfl ?_
  refine V_aload_n dL_law_166 rfl ?_
  refine V_iload_n dL_law_167 rfl ?_
  refine V_iconst dL_law_168 ?_
  refine V_iadd dL_law_169 ?_
  refine V_sld rfl hL dL_law_170 (by omega) ?_
  refine V_aload_n dL_law_171 rfl ?_
  refine V_iload_n dL_law_172 rfl ?_
  refine V_iconst dL_law_173 ?_
  refine V_iadd dL_law_174 ?_
  refine V_sld rfl hL dL_law_175 (by omega) ?_
  refine V_aload_n dL_law_176 rfl ?_
  refine V_iload_n dL_law_177 rfl ?_
  refine V_iconst dL_law_178 ?_
  refine V_iadd dL_law_179 ?_
  refine V_sld rfl hL dL_law_180 (by omega) ?_
  refine V_callV1 dL_law_181 ml_RL_18 km_X10_cut kv_X10_cut (c_X10_cut (hxr _) (hxr _) (hxr _) hC) (by first | with_reducible assumption | rfl) rfl rfl rfl (Nat.le_of_ble_eq_true rfl) ⟨Nat.le_of_ble_eq_true rfl, Nat.le_of_ble_eq_true rfl⟩ ⟨Nat.le_of_ble_eq_true rfl, Nat.le_of_ble_eq_true rfl⟩ ?_
  rintro v mi1 mr1 ⟨rfl, hC1, hk1⟩
  refine V_aload_n dL_law_184 rfl ?_
  refine V_aload_n dL_law_185 rfl ?_
  refine V_iload_n dL_law_186 rfl ?_
  refine V_iconst dL_law_187 ?_
  refine V_iadd dL_law_188 ?_
  refine V_sld rfl hL dL_law_189 (by omega) ?_
  refine V_aload_n dL_law_190 rfl ?_
  refine V_iload_n dL_law_191 rfl ?_
  refine V_iconst dL_law_192 ?_
  refine V_iadd dL_law_193 ?_
  refine V_sld rfl hL dL_law_194 (by omega) ?_
  refine V_aload_n dL_law_195 rfl ?_
  refine V_iload_n dL_law_196 rfl ?_
  refine V_iconst dL_law_197 ?_
  refine V_iadd dL_law_198 ?_
  refine V_sld rfl hL dL_law_199 (by omega) ?_
  refine V_callV1 dL_law_200 ml_RL_22 km_X11_cut kv_X11_cut (c_X11_cut hC1.gr (hxr _) (hxr _) (hxr _) (hM.up hk1)) (by first | with_reducible assumption | rfl) rfl rfl rfl (Nat.le_of_ble_eq_true rfl) ⟨Nat.le_of_ble_eq_true rfl, Nat.le_of_ble_eq_true rfl⟩ ⟨Nat.le_of_ble_eq_true rfl, Nat.le_of_ble_eq_true rfl⟩ ?_
  rintro v mi2 mr2 ⟨rfl, rfl, hM2, hk2⟩
  refine V_icmp_same 676 dL_law_203 (by decide) ?_
  exact kk _ _ _ (hC1.low hk2) hM2
set_option maxRecDepth 100000 in
set_option maxHeartbeats 1000000 in
theorem lw_c2 (hxr : ∀ j, rng (xs j)) (hL : L ≤ 2147483648) (hi : 0 ≤ i ∧ i + 4 ≤ L) (hC : RepC mi mr ((n, m, A, B, Z), hs, tl, T)) (hM : RepM mi ((n, m, A, B, Z), hs, tl, T)) (kk : lwK L xs i) : V (muL L xs) QL 75 16789 SH mi mr (Hd0 i) [] 208 := by
  refine V_aload_n dL_law_208 rfl ?_
  refine V_aload_n dL_law_209 rfl ?_
  refine V_iload_n dL_law_210 rfl ?_
  refine V_iconst dL_law_211 ?_
  refine V_iadd dL_law_212 ?_
  refine V_sld rfl hL dL_law_213 (by omega) ?_
  refine V_aload_n dL_law_214 rfl ?_
  refine V_iload_n dL_law_215 rfl ?_
  refine V_iconst dL_law_216 ?_
  refine V_iadd dL_law_217 ?_
  refine V_sld rfl hL dL_law_218 (by omega) ?_
  refine V_aload_n dL_law_219 rfl ?_
  refine V_iload_n dL_law_220 rfl ?_
  refine V_iconst dL_law_221 ?_
  refine V_iadd dL_law_222 ?_
  refine V_sld rfl hL dL_law_223 (by omega) ?_
  refine V_callV1 dL_law_224 ml_RL_23 km_X10_change kv_X10_change (c_X10_change (hxr _) (hxr _) (hxr _) hC) (by first | with_reducible assumption | rfl) rfl rfl rfl (Nat.le_of_ble_eq_true rfl) ⟨Nat.le_of_ble_eq_true rfl, Nat.le_of_ble_eq_true rfl⟩ ⟨Nat.le_of_ble_eq_true rfl, Nat.le_of_ble_eq_true rfl⟩ ?_
  rintro v mi1 mr1 ⟨rfl, hC1, hk1⟩
  refine V_aload_n dL_law_227 rfl ?_
  refine V_aload_n dL_law_228 rfl ?_
  refine V_iload_n dL_law_229 rfl ?_
  refine V_iconst dL_law_230 ?_
  refine V_iadd dL_law_231 ?_
  refine V_sld rfl hL dL_law_232 (by omega) ?_
  refine V_aload_n dL_law_233 rfl ?_
  refine V_iload_n dL_law_234 rfl ?_
  refine V_iconst dL_law_235 ?_
  refine V_iadd dL_law_236 ?_
  refine V_sld rfl hL dL_law_237 (by omega) ?_
  refine V_aload_n dL_law_238 rfl ?_
  refine V_iload_n dL_law_239 rfl ?_
  refine V_iconst dL_law_240 ?_
  refine V_iadd dL_law_241 ?_
  refine V_sld rfl hL dL_law_242 (by omega) ?_
  refine V_callV1 dL_law_243 ml_RL_26 km_X11_change kv_X11_change (c_X11_change hC1.gr (hxr _) (hxr _) (hxr _) (hM.up hk1)) (by first | with_reducible assumption | rfl) rfl rfl rfl (Nat.le_of_ble_eq_true rfl) ⟨Nat.le_of_ble_eq_true rfl, Nat.le_of_ble_eq_true rfl⟩ ⟨Nat.le_of_ble_eq_true rfl, Nat.le_of_ble_eq_true rfl⟩ ?_
  rintro v mi2 mr2 ⟨rfl, rfl, hM2, hk2⟩
  refine V_icmp_same 676 dL_law_246 (by decide) ?_
  exact kk _ _ _ (hC1.low hk2) hM2
set_option maxRecDepth 100000 in
set_option maxHeartbeats 1000000 in
theorem lw_c3 (hxr : ∀ j, rng (xs j)) (hL : L ≤ 2147483648) (hi : 0 ≤ i ∧ i + 4 ≤ L) (hC : RepC mi mr ((n, m, A, B, Z), hs, tl, T)) (hM : RepM mi ((n, m, A, B, Z), hs, tl, T)) (kk : lwK L xs i) : V (muL L xs) QL 75 16789 SH mi mr (Hd0 i) [] 251 := by
  refine V_aload_n dL_law_251 rfl ?_
  refine V_callV1 dL_law_252 ml_RL_27 km_X10_exchange kv_X10_exchange (c_X10_exchange  hC) (by first | with_reducible assumption | rfl) rfl rfl rfl (Nat.le_of_ble_eq_true rfl) ⟨Nat.le_of_ble_eq_true rfl, Nat.le_of_ble_eq_true rfl⟩ ⟨Nat.le_of_ble_eq_true rfl, Nat.le_of_ble_eq_true rfl⟩ ?_
  rintro v mi1 mr1 ⟨rfl, hC1, hk1⟩
  refine V_aload_n dL_law_255 rfl ?_
  refine V_callV1 dL_law_256 ml_RL_31 km_X11_exchange kv_X11_exchange (c_X11_exchange hC1.gr  (hM.up hk1)) (by first | with_reducible assumption | rfl) rfl rfl rfl (Nat.le_of_ble_eq_true rfl) ⟨Nat.le_of_ble_eq_true rfl, Nat.le_of_ble_eq_true rfl⟩ ⟨Nat.le_of_ble_eq_true rfl, Nat.le_of_ble_eq_true rfl⟩ ?_
  rintro v mi2 mr2 ⟨rfl, rfl, hM2, hk2⟩
  refine V_icmp_same 676 dL_law_259 (by decide) ?_
  exact kk _ _ _ (hC1.low hk2) hM2
set_option maxRecDepth 100000 in
set_option maxHeartbeats 1000000 in
theorem lw_c4 (hxr : ∀ j, rng (xs j)) (hL : L ≤ 2147483648) (hi : 0 ≤ i ∧ i + 4 ≤ L) (hC : RepC mi mr ((n, m, A, B, Z), hs, tl, T)) (hM : RepM mi ((n, m, A, B, Z), hs, tl, T)) (kk : lwK L xs i) : V (muL L xs) QL 75 16789 SH mi mr (Hd0 i) [] 264 := by
  refine V_aload_n dL_law_264 rfl ?_
  refine V_aload_n dL_law_265 rfl ?_
  refine V_iload_n dL_law_266 rfl ?_
  refine V_iconst dL_law_267 ?_
  refine V_iadd dL_law_268 ?_
  refine V_sld rfl hL dL_law_269 (by omega) ?_
  refine V_aload_n dL_law_270 rfl ?_
  refine V_iload_n dL_law_271 rfl ?_
  refine V_iconst dL_law_272 ?_
  refine V_iadd dL_law_273 ?_
  refine V_sld rfl hL dL_law_274 (by omega) ?_
  refine V_callV1 dL_law_275 ml_RL_32 km_X10_set kv_X10_set (c_X10_set (hxr _) (hxr _) hC) (by first | with_reducible assumption | rfl) rfl rfl rfl (Nat.le_of_ble_eq_true rfl) ⟨Nat.le_of_ble_eq_true rfl, Nat.le_of_ble_eq_true rfl⟩ ⟨Nat.le_of_ble_eq_true rfl, Nat.le_of_ble_eq_true rfl⟩ ?_
  rintro v mi1 mr1 ⟨rfl, hC1, hk1⟩
  refine V_aload_n dL_law_278 rfl ?_
  refine V_aload_n dL_law_279 rfl ?_
  refine V_iload_n dL_law_280 rfl ?_
  refine V_iconst dL_law_281 ?_
  refine V_iadd dL_law_282 ?_
  refine V_sld rfl hL dL_law_283 (by omega) ?_
  refine V_aload_n dL_law_284 rfl ?_
  refine V_iload_n dL_law_285 rfl ?_
  refine V_iconst dL_law_286 ?_
  refine V_iadd dL_law_287 ?_
  refine V_sld rfl hL dL_law_288 (by omega) ?_
  refine V_callV1 dL_law_289 ml_RL_35 km_X11_set kv_X11_set (c_X11_set hC1.gr (hxr _) (hxr _) (hM.up hk1)) (by first | with_reducible assumption | rfl) rfl rfl rfl (Nat.le_of_ble_eq_true rfl) ⟨Nat.le_of_ble_eq_true rfl, Nat.le_of_ble_eq_true rfl⟩ ⟨Nat.le_of_ble_eq_true rfl, Nat.le_of_ble_eq_true rfl⟩ ?_
  rintro v mi2 mr2 ⟨rfl, rfl, hM2, hk2⟩
  refine V_icmp_same 676 dL_law_292 (by decide) ?_
  exact kk _ _ _ (hC1.low hk2) hM2
set_option maxRecDepth 100000 in
set_option maxHeartbeats 1000000 in
theorem lw_c5 (hxr : ∀ j, rng (xs j)) (hL : L ≤ 2147483648) (hi : 0 ≤ i ∧ i + 4 ≤ L) (hC : RepC mi mr ((n, m, A, B, Z), hs, tl, T)) (hM : RepM mi ((n, m, A, B, Z), hs, tl, T)) (kk : lwK L xs i) : V (muL L xs) QL 75 16789 SH mi mr (Hd0 i) [] 297 := by
  refine V_aload_n dL_law_297 rfl ?_
  refine V_aload_n dL_law_298 rfl ?_
  refine V_iload_n dL_law_299 rfl ?_
  refine V_iconst dL_law_300 ?_
  refine V_iadd dL_law_301 ?_
  refine V_sld rfl hL dL_law_302 (by omega) ?_
  refine V_aload_n dL_law_303 rfl ?_
  refine V_iload_n dL_law_304 rfl ?_
  refine V_iconst dL_law_305 ?_
  refine V_iadd dL_law_306 ?_
  refine V_sld rfl hL dL_law_307 (by omega) ?_
  refine V_callV1 dL_law_308 ml_RL_36 km_X10_letterAt kv_X10_letterAt (c_X10_letterAt (hxr _) (hxr _) hC) (by first | with_reducible assumption | rfl) rfl rfl rfl (Nat.le_of_ble_eq_true rfl) ⟨Nat.le_of_ble_eq_true rfl, Nat.le_of_ble_eq_true rfl⟩ ⟨Nat.le_of_ble_eq_true rfl, Nat.le_of_ble_eq_true rfl⟩ ?_
  rintro v mi1 mr1 ⟨rfl, hC1, hk1⟩
  refine V_aload_n dL_law_311 rfl ?_
  refine V_aload_n dL_law_312 rfl ?_
  refine V_iload_n dL_law_313 rfl ?_
  refine V_iconst dL_law_314 ?_
  refine V_iadd dL_law_315 ?_
  refine V_sld rfl hL dL_law_316 (by omega) ?_
  refine V_aload_n dL_law_317 rfl ?_
  refine V_iload_n dL_law_318 rfl ?_
  refine V_iconst dL_law_319 ?_
  refine V_iadd dL_law_320 ?_
  refine V_sld rfl hL dL_law_321 (by omega) ?_
  refine V_callV1 dL_law_322 ml_RL_39 km_X11_letterAt kv_X11_letterAt (c_X11_letterAt hC1.gr (hxr _) (hxr _) (hM.up hk1)) (by first | with_reducible assumption | rfl) rfl rfl rfl (Nat.le_of_ble_eq_true rfl) ⟨Nat.le_of_ble_eq_true rfl, Nat.le_of_ble_eq_true rfl⟩ ⟨Nat.le_of_ble_eq_true rfl, Nat.le_of_ble_eq_true rfl⟩ ?_
  rintro v mi2 mr2 ⟨rfl, rfl, hM2, hk2⟩
  refine V_icmp_same 676 dL_law_325 (by decide) ?_
  exact kk _ _ _ (hC1.low hk2) hM2
set_option maxRecDepth 100000 in
set_option maxHeartbeats 1000000 in
theorem lw_c6 (hxr : ∀ j, rng (xs j)) (hL : L ≤ 2147483648) (hi : 0 ≤ i ∧ i + 4 ≤ L) (hC : RepC mi mr ((n, m, A, B, Z), hs, tl, T)) (hM : RepM mi ((n, m, A, B, Z), hs, tl, T)) (kk : lwK L xs i) : V (muL L xs) QL 75 16789 SH mi mr (Hd0 i) [] 330 := by
  refine V_aload_n dL_law_330 rfl ?_
  refine V_aload_n dL_law_331 rfl ?_
  refine V_iload_n dL_law_332 rfl ?_
  refine V_iconst dL_law_333 ?_
  refine V_iadd dL_law_334 ?_
  refine V_sld rfl hL dL_law_335 (by omega) ?_
  refine V_aload_n dL_law_336 rfl ?_
  refine V_iload_n dL_law_337 rfl ?_
  refine V_iconst dL_law_338 ?_
  refine V_iadd dL_law_339 ?_
  refine V_sld rfl hL dL_law_340 (by omega) ?_
  refine V_callV1 dL_law_341 ml_RL_40 km_X10_same kv_X10_same (c_X10_same (hxr _) (hxr _) hC) (by first | with_reducible assumption | rfl) rfl rfl rfl (Nat.le_of_ble_eq_true rfl) ⟨Nat.le_of_ble_eq_true rfl, Nat.le_of_ble_eq_true rfl⟩ ⟨Nat.le_of_ble_eq_true rfl, Nat.le_of_ble_eq_true rfl⟩ ?_
  rintro v mi1 mr1 ⟨rfl, hC1, hk1⟩
  refine V_aload_n dL_law_344 rfl ?_
  refine V_aload_n dL_law_345 rfl ?_
  refine V_iload_n dL_law_346 rfl ?_
  refine V_iconst dL_law_347 ?_
  refine V_iadd dL_law_348 ?_
  refine V_sld rfl hL dL_law_349 (by omega) ?_
  refine V_aload_n dL_law_350 rfl ?_
  refine V_iload_n dL_law_351 rfl ?_
  refine V_iconst dL_law_352 ?_
  refine V_iadd dL_law_353 ?_
  refine V_sld rfl hL dL_law_354 (by omega) ?_
  refine V_callV1 dL_law_355 ml_RL_43 km_X11_same kv_X11_same (c_X11_same hC1.gr (hxr _) (hxr _) (hM.up hk1)) (by first | with_reducible assumption | rfl) rfl rfl rfl (Nat.le_of_ble_eq_true rfl) ⟨Nat.le_of_ble_eq_true rfl, Nat.le_of_ble_eq_true rfl⟩ ⟨Nat.le_of_ble_eq_true rfl, Nat.le_of_ble_eq_true rfl⟩ ?_
  rintro v mi2 mr2 ⟨rfl, rfl, hM2, hk2⟩
  refine V_icmp_same 676 dL_law_358 (by decide) ?_
  exact kk _ _ _ (hC1.low hk2) hM2
set_option maxRecDepth 100000 in
set_option maxHeartbeats 1000000 in
theorem lw_c7 (hxr : ∀ j, rng (xs j)) (hL : L ≤ 2147483648) (hi : 0 ≤ i ∧ i + 4 ≤ L) (hC : RepC mi mr ((n, m, A, B, Z), hs, tl, T)) (hM : RepM mi ((n, m, A, B, Z), hs, tl, T)) (kk : lwK L xs i) : V (muL L xs) QL 75 16789 SH mi mr (Hd0 i) [] 363 := by
  obtain ⟨D, hD⟩ := isD_ex (n := n) (m := m) (A := A) (B := B) hM.2.1.1 hM.2.1.2.1
  refine V_aload_n dL_law_363 rfl ?_
  refine V_aload_n dL_law_364 rfl ?_
  refine V_iload_n dL_law_365 rfl ?_
  refine V_iconst dL_law_366 ?_
  refine V_iadd dL_law_367 ?_
  refine V_sld rfl hL dL_law_368 (by omega) ?_
  refine V_aload_n dL_law_369 rfl ?_
  refine V_iload_n dL_law_370 rfl ?_
  refine V_iconst dL_law_371 ?_
  refine V_iadd dL_law_372 ?_
  refine V_sld rfl hL dL_law_373 (by omega) ?_
  refine V_callV1 dL_law_374 ml_RL_44 km_X10_reach kv_X10_reach (c_X10_reach hD (hxr _) (hxr _) hC) (by first | with_reducible assumption | rfl) rfl rfl rfl (Nat.le_of_ble_eq_true rfl) ⟨Nat.le_of_ble_eq_true rfl, Nat.le_of_ble_eq_true rfl⟩ ⟨Nat.le_of_ble_eq_true rfl, Nat.le_of_ble_eq_true rfl⟩ ?_
  rintro v mi1 mr1 ⟨rfl, hC1, hk1⟩
  refine V_aload_n dL_law_377 rfl ?_
  refine V_aload_n dL_law_378 rfl ?_
  refine V_iload_n dL_law_379 rfl ?_
  refine V_iconst dL_law_380 ?_
  refine V_iadd dL_law_381 ?_
  refine V_sld rfl hL dL_law_382 (by omega) ?_
  refine V_aload_n dL_law_383 rfl ?_
  refine V_iload_n dL_law_384 rfl ?_
  refine V_iconst dL_law_385 ?_
  refine V_iadd dL_law_386 ?_
  refine V_sld rfl hL dL_law_387 (by omega) ?_
  refine V_callV1 dL_law_388 ml_RL_47 km_X11_reach kv_X11_reach (c_X11_reach hC1.gr hD (hxr _) (hxr _) (hM.up hk1)) (by first | with_reducible assumption | rfl) rfl rfl rfl (Nat.le_of_ble_eq_true rfl) ⟨Nat.le_of_ble_eq_true rfl, Nat.le_of_ble_eq_true rfl⟩ ⟨Nat.le_of_ble_eq_true rfl, Nat.le_of_ble_eq_true rfl⟩ ?_
  rintro v mi2 mr2 ⟨rfl, rfl, hM2, hk2⟩
  refine V_icmp_same 676 dL_law_391 (by decide) ?_
  exact kk _ _ _ (hC1.low hk2) hM2
set_option maxRecDepth 100000 in
set_option maxHeartbeats 1000000 in
theorem lw_c8 (hxr : ∀ j, rng (xs j)) (hL : L ≤ 2147483648) (hi : 0 ≤ i ∧ i + 4 ≤ L) (hC : RepC mi mr ((n, m, A, B, Z), hs, tl, T)) (hM : RepM mi ((n, m, A, B, Z), hs, tl, T)) (kk : lwK L xs i) : V (muL L xs) QL 75 16789 SH mi mr (Hd0 i) [] 396 := by
  obtain ⟨D, hD⟩ := isD_ex (n := n) (m := m) (A := A) (B := B) hM.2.1.1 hM.2.1.2.1
  refine V_aload_n dL_law_396 rfl ?_
  refine V_callV1 dL_law_397 ml_RL_48 km_X10_distance kv_X10_distance (c_X10_distance hD  hC) (by first | with_reducible assumption | rfl) rfl rfl rfl (Nat.le_of_ble_eq_true rfl) ⟨Nat.le_of_ble_eq_true rfl, Nat.le_of_ble_eq_true rfl⟩ ⟨Nat.le_of_ble_eq_true rfl, Nat.le_of_ble_eq_true rfl⟩ ?_
  rintro v mi1 mr1 ⟨rfl, hC1, hk1⟩
  refine V_aload_n dL_law_400 rfl ?_
  refine V_callV1 dL_law_401 ml_RL_51 km_X11_distance kv_X11_distance (c_X11_distance hC1.gr hD  (hM.up hk1)) (by first | with_reducible assumption | rfl) rfl rfl rfl (Nat.le_of_ble_eq_true rfl) ⟨Nat.le_of_ble_eq_true rfl, Nat.le_of_ble_eq_true rfl⟩ ⟨Nat.le_of_ble_eq_true rfl, Nat.le_of_ble_eq_true rfl⟩ ?_
  rintro v mi2 mr2 ⟨rfl, rfl, hM2, hk2⟩
  refine V_icmp_same 676 dL_law_404 (by decide) ?_
  exact kk _ _ _ (hC1.low hk2) hM2
set_option maxRecDepth 100000 in
set_option maxHeartbeats 1000000 in
theorem lw_c9 (hxr : ∀ j, rng (xs j)) (hL : L ≤ 2147483648) (hi : 0 ≤ i ∧ i + 4 ≤ L) (hC : RepC mi mr ((n, m, A, B, Z), hs, tl, T)) (hM : RepM mi ((n, m, A, B, Z), hs, tl, T)) (kk : lwK L xs i) : V (muL L xs) QL 75 16789 SH mi mr (Hd0 i) [] 409 := by
  obtain ⟨D, hD⟩ := isD_ex (n := n) (m := m) (A := A) (B := B) hM.2.1.1 hM.2.1.2.1
  refine V_aload_n dL_law_409 rfl ?_
  refine V_aload_n dL_law_410 rfl ?_
  refine V_iload_n dL_law_411 rfl ?_
  refine V_iconst dL_law_412 ?_
  refine V_iadd dL_law_413 ?_
  refine V_sld rfl hL dL_law_414 (by omega) ?_
  refine V_aload_n dL_law_415 rfl ?_
  refine V_iload_n dL_law_416 rfl ?_
  refine V_iconst dL_law_417 ?_
  refine V_iadd dL_law_418 ?_
  refine V_sld rfl hL dL_law_419 (by omega) ?_
  refine V_callV1 dL_law_420 ml_RL_52 km_X10_stepOf kv_X10_stepOf (c_X10_stepOf hD (hxr _) (hxr _) hC) (by first | with_reducible assumption | rfl) rfl rfl rfl (Nat.le_of_ble_eq_true rfl) ⟨Nat.le_of_ble_eq_true rfl, Nat.le_of_ble_eq_true rfl⟩ ⟨Nat.le_of_ble_eq_true rfl, Nat.le_of_ble_eq_true rfl⟩ ?_
  rintro v mi1 mr1 ⟨rfl, hC1, hk1⟩
  refine V_aload_n dL_law_423 rfl ?_
  refine V_aload_n dL_law_424 rfl ?_
  refine V_iload_n dL_law_425 rfl ?_
  refine V_iconst dL_law_426 ?_
  refine V_iadd dL_law_427 ?_
  refine V_sld rfl hL dL_law_428 (by omega) ?_
  refine V_aload_n dL_law_429 rfl ?_
  refine V_iload_n dL_law_430 rfl ?_
  refine V_iconst dL_law_431 ?_
  refine V_iadd dL_law_432 ?_
  refine V_sld rfl hL dL_law_433 (by omega) ?_
  refine V_callV1 dL_law_434 ml_RL_55 km_X11_stepOf kv_X11_stepOf (c_X11_stepOf hC1.gr hD (hxr _) (hxr _) (hM.up hk1)) (by first | with_reducible assumption | rfl) rfl rfl rfl (Nat.le_of_ble_eq_true rfl) ⟨Nat.le_of_ble_eq_true rfl, Nat.le_of_ble_eq_true rfl⟩ ⟨Nat.le_of_ble_eq_true rfl, Nat.le_of_ble_eq_true rfl⟩ ?_
  rintro v mi2 mr2 ⟨rfl, rfl, hM2, hk2⟩
  refine V_icmp_same 676 dL_law_437 (by decide) ?_
  exact kk _ _ _ (hC1.low hk2) hM2
set_option maxRecDepth 100000 in
set_option maxHeartbeats 1000000 in
theorem lw_c10 (hxr : ∀ j, rng (xs j)) (hL : L ≤ 2147483648) (hi : 0 ≤ i ∧ i + 4 ≤ L) (hC : RepC mi mr ((n, m, A, B, Z), hs, tl, T)) (hM : RepM mi ((n, m, A, B, Z), hs, tl, T)) (kk : lwK L xs i) : V (muL L xs) QL 75 16789 SH mi mr (Hd0 i) [] 442 := by
  obtain ⟨D, hD⟩ := isD_ex (n := n) (m := m) (A := A) (B := B) hM.2.1.1 hM.2.1.2.1
  refine V_aload_n dL_law_442 rfl ?_
  refine V_aload_n dL_law_443 rfl ?_
  refine V_iload_n dL_law_444 rfl ?_
  refine V_iconst dL_law_445 ?_
  refine V_iadd dL_law_446 ?_
  refine V_sld rfl hL dL_law_447 (by omega) ?_
  refine V_callV1 dL_law_448 ml_RL_56 km_X10_textAt kv_X10_textAt (c_X10_textAt hD (hxr _) hC) (by first | with_reducible assumption | rfl) rfl rfl rfl (Nat.le_of_ble_eq_true rfl) ⟨Nat.le_of_ble_eq_true rfl, Nat.le_of_ble_eq_true rfl⟩ ⟨Nat.le_of_ble_eq_true rfl, Nat.le_of_ble_eq_true rfl⟩ ?_
  rintro v mi1 mr1 ⟨rfl, hC1, hk1⟩
  refine V_aload_n dL_law_451 rfl ?_
  refine V_aload_n dL_law_452 rfl ?_
  refine V_iload_n dL_law_453 rfl ?_
  refine V_iconst dL_law_454 ?_
  refine V_iadd dL_law_455 ?_
  refine V_sld rfl hL dL_law_456 (by omega) ?_
  refine V_callV1 dL_law_457 ml_RL_60 km_X11_textAt kv_X11_textAt (c_X11_textAt hC1.gr hD (hxr _) (hM.up hk1)) (by first | with_reducible assumption | rfl) rfl rfl rfl (Nat.le_of_ble_eq_true rfl) ⟨Nat.le_of_ble_eq_true rfl, Nat.le_of_ble_eq_true rfl⟩ ⟨Nat.le_of_ble_eq_true rfl, Nat.le_of_ble_eq_true rfl⟩ ?_
  rintro v mi2 mr2 ⟨rfl, rfl, hM2, hk2⟩
  refine V_icmp_same 676 dL_law_460 (by decide) ?_
  exact kk _ _ _ (hC1.low hk2) hM2
set_option maxRecDepth 100000 in
set_option maxHeartbeats 1000000 in
theorem lw_c11 (hxr : ∀ j, rng (xs j)) (hL : L ≤ 2147483648) (hi : 0 ≤ i ∧ i + 4 ≤ L) (hC : RepC mi mr ((n, m, A, B, Z), hs, tl, T)) (hM : RepM mi ((n, m, A, B, Z), hs, tl, T)) (kk : lwK L xs i) : V (muL L xs) QL 75 16789 SH mi mr (Hd0 i) [] 465 := by
  refine V_aload_n dL_law_465 rfl ?_
  refine V_callV1 dL_law_466 ml_RL_61 km_X10_scripts kv_X10_scripts (c_X10_scripts  hC) (by first | with_reducible assumption | rfl) rfl rfl rfl (Nat.le_of_ble_eq_true rfl) ⟨Nat.le_of_ble_eq_true rfl, Nat.le_of_ble_eq_true rfl⟩ ⟨Nat.le_of_ble_eq_true rfl, Nat.le_of_ble_eq_true rfl⟩ ?_
  rintro v mi1 mr1 ⟨rfl, hC1, hk1⟩
  refine V_aload_n dL_law_469 rfl ?_
  refine V_callV1 dL_law_470 ml_RL_65 km_X11_scripts kv_X11_scripts (c_X11_scripts hC1.gr  (hM.up hk1)) (by first | with_reducible assumption | rfl) rfl rfl rfl (Nat.le_of_ble_eq_true rfl) ⟨Nat.le_of_ble_eq_true rfl, Nat.le_of_ble_eq_true rfl⟩ ⟨Nat.le_of_ble_eq_true rfl, Nat.le_of_ble_eq_true rfl⟩ ?_
  rintro v mi2 mr2 ⟨rfl, rfl, hM2, hk2⟩
  refine V_lcmp_same dL_law_473 ?_
  refine V_if_eq 676 dL_law_474 (by decide) (by decide) (fun _ => ?_) (fun h => absurd rfl h)
  exact kk _ _ _ (hC1.low hk2) hM2
set_option maxRecDepth 100000 in
set_option maxHeartbeats 1000000 in
theorem lw_c12 (hxr : ∀ j, rng (xs j)) (hL : L ≤ 2147483648) (hi : 0 ≤ i ∧ i + 4 ≤ L) (hC : RepC mi mr ((n, m, A, B, Z), hs, tl, T)) (hM : RepM mi ((n, m, A, B, Z), hs, tl, T)) (kk : lwK L xs i) : V (muL L xs) QL 75 16789 SH mi mr (Hd0 i) [] 479 := by
  obtain ⟨D, hD⟩ := isD_ex (n := n) (m := m) (A := A) (B := B) hM.2.1.1 hM.2.1.2.1
  refine V_aload_n dL_law_479 rfl ?_
  refine V_aload_n dL_law_480 rfl ?_
  refine V_iload_n dL_law_481 rfl ?_
  refine V_iconst dL_law_482 ?_
  refine V_iadd dL_law_483 ?_
  refine V_sld rfl hL dL_law_484 (by omega) ?_
  refine V_aload_n dL_law_485 rfl ?_
  refine V_iload_n dL_law_486 rfl ?_
  refine V_iconst dL_law_487 ?_
  refine V_iadd dL_law_488 ?_
  refine V_sld rfl hL dL_law_489 (by omega) ?_
  refine V_callV1 dL_law_490 ml_RL_66 km_X10_hunkOf kv_X10_hunkOf (c_X10_hunkOf hD (hxr _) (hxr _) hC) (by first | with_reducible assumption | rfl) rfl rfl rfl (Nat.le_of_ble_eq_true rfl) ⟨Nat.le_of_ble_eq_true rfl, Nat.le_of_ble_eq_true rfl⟩ ⟨Nat.le_of_ble_eq_true rfl, Nat.le_of_ble_eq_true rfl⟩ ?_
  rintro v mi1 mr1 ⟨rfl, hC1, hk1⟩
  refine V_aload_n dL_law_493 rfl ?_
  refine V_aload_n dL_law_494 rfl ?_
  refine V_iload_n dL_law_495 rfl ?_
  refine V_iconst dL_law_496 ?_
  refine V_iadd dL_law_497 ?_
  refine V_sld rfl hL dL_law_498 (by omega) ?_
  refine V_aload_n dL_law_499 rfl ?_
  refine V_iload_n dL_law_500 rfl ?_
  refine V_iconst dL_law_501 ?_
  refine V_iadd dL_law_502 ?_
  refine V_sld rfl hL dL_law_503 (by omega) ?_
  refine V_callV1 dL_law_504 ml_RL_69 km_X11_hunkOf kv_X11_hunkOf (c_X11_hunkOf hC1.gr hD (hxr _) (hxr _) (hM.up hk1)) (by first | with_reducible assumption | rfl) rfl rfl rfl (Nat.le_of_ble_eq_true rfl) ⟨Nat.le_of_ble_eq_true rfl, Nat.le_of_ble_eq_true rfl⟩ ⟨Nat.le_of_ble_eq_true rfl, Nat.le_of_ble_eq_true rfl⟩ ?_
  rintro v mi2 mr2 ⟨rfl, rfl, hM2, hk2⟩
  refine V_icmp_same 676 dL_law_507 (by decide) ?_
  exact kk _ _ _ (hC1.low hk2) hM2
set_option maxRecDepth 100000 in
set_option maxHeartbeats 1000000 in
theorem lw_c13 (hxr : ∀ j, rng (xs j)) (hL : L ≤ 2147483648) (hi : 0 ≤ i ∧ i + 4 ≤ L) (hC : RepC mi mr ((n, m, A, B, Z), hs, tl, T)) (hM : RepM mi ((n, m, A, B, Z), hs, tl, T)) (kk : lwK L xs i) : V (muL L xs) QL 75 16789 SH mi mr (Hd0 i) [] 512 := by
  obtain ⟨D, hD⟩ := isD_ex (n := n) (m := m) (A := A) (B := B) hM.2.1.1 hM.2.1.2.1
  refine V_aload_n dL_law_512 rfl ?_
  refine V_aload_n dL_law_513 rfl ?_
  refine V_iload_n dL_law_514 rfl ?_
  refine V_iconst dL_law_515 ?_
  refine V_iadd dL_law_516 ?_
  refine V_sld rfl hL dL_law_517 (by omega) ?_
  refine V_aload_n dL_law_518 rfl ?_
  refine V_iload_n dL_law_519 rfl ?_
  refine V_iconst dL_law_520 ?_
  refine V_iadd dL_law_521 ?_
  refine V_sld rfl hL dL_law_522 (by omega) ?_
  refine V_callV1 dL_law_523 ml_RL_70 km_X10_movedOf kv_X10_movedOf (c_X10_movedOf hD (hxr _) (hxr _) hC) (by first | with_reducible assumption | rfl) rfl rfl rfl (Nat.le_of_ble_eq_true rfl) ⟨Nat.le_of_ble_eq_true rfl, Nat.le_of_ble_eq_true rfl⟩ ⟨Nat.le_of_ble_eq_true rfl, Nat.le_of_ble_eq_true rfl⟩ ?_
  rintro v mi1 mr1 ⟨rfl, hC1, hk1⟩
  refine V_aload_n dL_law_526 rfl ?_
  refine V_aload_n dL_law_527 rfl ?_
  refine V_iload_n dL_law_528 rfl ?_
  refine V_iconst dL_law_529 ?_
  refine V_iadd dL_law_530 ?_
  refine V_sld rfl hL dL_law_531 (by omega) ?_
  refine V_aload_n dL_law_532 rfl ?_
  refine V_iload_n dL_law_533 rfl ?_
  refine V_iconst dL_law_534 ?_
  refine V_iadd dL_law_535 ?_
  refine V_sld rfl hL dL_law_536 (by omega) ?_
  refine V_callV1 dL_law_537 ml_RL_73 km_X11_movedOf kv_X11_movedOf (c_X11_movedOf hC1.gr hD (hxr _) (hxr _) (hM.up hk1)) (by first | with_reducible assumption | rfl) rfl rfl rfl (Nat.le_of_ble_eq_true rfl) ⟨Nat.le_of_ble_eq_true rfl, Nat.le_of_ble_eq_true rfl⟩ ⟨Nat.le_of_ble_eq_true rfl, Nat.le_of_ble_eq_true rfl⟩ ?_
  rintro v mi2 mr2 ⟨rfl, rfl, hM2, hk2⟩
  refine V_icmp_same 676 dL_law_540 (by decide) ?_
  exact kk _ _ _ (hC1.low hk2) hM2
set_option maxRecDepth 100000 in
set_option maxHeartbeats 1000000 in
theorem lw_c14 (hxr : ∀ j, rng (xs j)) (hL : L ≤ 2147483648) (hi : 0 ≤ i ∧ i + 4 ≤ L) (hC : RepC mi mr ((n, m, A, B, Z), hs, tl, T)) (hM : RepM mi ((n, m, A, B, Z), hs, tl, T)) (kk : lwK L xs i) : V (muL L xs) QL 75 16789 SH mi mr (Hd0 i) [] 545 := by
  refine V_aload_n dL_law_545 rfl ?_
  refine V_aload_n dL_law_546 rfl ?_
  refine V_iload_n dL_law_547 rfl ?_
  refine V_iconst dL_law_548 ?_
  refine V_iadd dL_law_549 ?_
  refine V_sld rfl hL dL_law_550 (by omega) ?_
  refine V_callV1 dL_law_551 ml_RL_74 km_X10_bestChange kv_X10_bestChange (c_X10_bestChange (hxr _) hC) (by first | with_reducible assumption | rfl) rfl rfl rfl (Nat.le_of_ble_eq_true rfl) ⟨Nat.le_of_ble_eq_true rfl, Nat.le_of_ble_eq_true rfl⟩ ⟨Nat.le_of_ble_eq_true rfl, Nat.le_of_ble_eq_true rfl⟩ ?_
  rintro v mi1 mr1 ⟨rfl, hC1, hk1⟩
  refine V_aload_n dL_law_554 rfl ?_
  refine V_aload_n dL_law_555 rfl ?_
  refine V_iload_n dL_law_556 rfl ?_
  refine V_iconst dL_law_557 ?_
  refine V_iadd dL_law_558 ?_
  refine V_sld rfl hL dL_law_559 (by omega) ?_
  refine V_callV1 dL_law_560 ml_RL_77 km_X11_bestChange kv_X11_bestChange (c_X11_bestChange hC1.gr (hxr _) (hM.up hk1)) (by first | with_reducible assumption | rfl) rfl rfl rfl (Nat.le_of_ble_eq_true rfl) ⟨Nat.le_of_ble_eq_true rfl, Nat.le_of_ble_eq_true rfl⟩ ⟨Nat.le_of_ble_eq_true rfl, Nat.le_of_ble_eq_true rfl⟩ ?_
  rintro v mi2 mr2 ⟨rfl, rfl, hM2, hk2⟩
  refine V_icmp_same 676 dL_law_563 (by decide) ?_
  exact kk _ _ _ (hC1.low hk2) hM2
set_option maxRecDepth 100000 in
set_option maxHeartbeats 1000000 in
theorem lw_c15 (hxr : ∀ j, rng (xs j)) (hL : L ≤ 2147483648) (hi : 0 ≤ i ∧ i + 4 ≤ L) (hC : RepC mi mr ((n, m, A, B, Z), hs, tl, T)) (hM : RepM mi ((n, m, A, B, Z), hs, tl, T)) (kk : lwK L xs i) : V (muL L xs) QL 75 16789 SH mi mr (Hd0 i) [] 568 := by
  obtain ⟨D, hD⟩ := isD_ex (n := n) (m := m) (A := A) (B := B) hM.2.1.1 hM.2.1.2.1
  refine V_aload_n dL_law_568 rfl ?_
  refine V_aload_n dL_law_569 rfl ?_
  refine V_iload_n dL_law_570 rfl ?_
  refine V_iconst dL_law_571 ?_
  refine V_iadd dL_law_572 ?_
  refine V_sld rfl hL dL_law_573 (by omega) ?_
  refine V_callV1 dL_law_574 ml_RL_78 km_X10_count kv_X10_count (c_X10_count hD (hxr _) hC) (by first | with_reducible assumption | rfl) rfl rfl rfl (Nat.le_of_ble_eq_true rfl) ⟨Nat.le_of_ble_eq_true rfl, Nat.le_of_ble_eq_true rfl⟩ ⟨Nat.le_of_ble_eq_true rfl, Nat.le_of_ble_eq_true rfl⟩ ?_
  rintro v mi1 mr1 ⟨rfl, hC1, hk1⟩
  refine V_aload_n dL_law_577 rfl ?_
  refine V_aload_n dL_law_578 rfl ?_
  refine V_iload_n dL_law_579 rfl ?_
  refine V_iconst dL_law_580 ?_
  refine V_iadd dL_law_581 ?_
  refine V_sld rfl hL dL_law_582 (by omega) ?_
  refine V_callV1 dL_law_583 ml_RL_81 km_X11_count kv_X11_count (c_X11_count hC1.gr hD (hxr _) (hM.up hk1)) (by first | with_reducible assumption | rfl) rfl rfl rfl (Nat.le_of_ble_eq_true rfl) ⟨Nat.le_of_ble_eq_true rfl, Nat.le_of_ble_eq_true rfl⟩ ⟨Nat.le_of_ble_eq_true rfl, Nat.le_of_ble_eq_true rfl⟩ ?_
  rintro v mi2 mr2 ⟨rfl, rfl, hM2, hk2⟩
  refine V_icmp_same 676 dL_law_586 (by decide) ?_
  exact kk _ _ _ (hC1.low hk2) hM2
set_option maxRecDepth 100000 in
set_option maxHeartbeats 1000000 in
theorem lw_c16 (hxr : ∀ j, rng (xs j)) (hL : L ≤ 2147483648) (hi : 0 ≤ i ∧ i + 4 ≤ L) (hC : RepC mi mr ((n, m, A, B, Z), hs, tl, T)) (hM : RepM mi ((n, m, A, B, Z), hs, tl, T)) (kk : lwK L xs i) : V (muL L xs) QL 75 16789 SH mi mr (Hd0 i) [] 591 := by
  refine V_aload_n dL_law_591 rfl ?_
  refine V_callV1 dL_law_592 ml_RL_82 km_X10_undo kv_X10_undo (c_X10_undo  hC) (by first | with_reducible assumption | rfl) rfl rfl rfl (Nat.le_of_ble_eq_true rfl) ⟨Nat.le_of_ble_eq_true rfl, Nat.le_of_ble_eq_true rfl⟩ ⟨Nat.le_of_ble_eq_true rfl, Nat.le_of_ble_eq_true rfl⟩ ?_
  rintro v mi1 mr1 ⟨rfl, hC1, hk1⟩
  refine V_aload_n dL_law_595 rfl ?_
  refine V_callV1 dL_law_596 ml_RL_85 km_X11_undo kv_X11_undo (c_X11_undo hC1.gr  (hM.up hk1)) (by first | with_reducible assumption | rfl) rfl rfl rfl (Nat.le_of_ble_eq_true rfl) ⟨Nat.le_of_ble_eq_true rfl, Nat.le_of_ble_eq_true rfl⟩ ⟨Nat.le_of_ble_eq_true rfl, Nat.le_of_ble_eq_true rfl⟩ ?_
  rintro v mi2 mr2 ⟨rfl, rfl, hM2, hk2⟩
  refine V_icmp_same 676 dL_law_599 (by decide) ?_
  exact kk _ _ _ (hC1.low hk2) hM2
set_option maxRecDepth 100000 in
set_option maxHeartbeats 1000000 in
theorem lw_c17 (hxr : ∀ j, rng (xs j)) (hL : L ≤ 2147483648) (hi : 0 ≤ i ∧ i + 4 ≤ L) (hC : RepC mi mr ((n, m, A, B, Z), hs, tl, T)) (hM : RepM mi ((n, m, A, B, Z), hs, tl, T)) (kk : lwK L xs i) : V (muL L xs) QL 75 16789 SH mi mr (Hd0 i) [] 604 := by
  refine V_aload_n dL_law_604 rfl ?_
  refine V_aload_n dL_law_605 rfl ?_
  refine V_iload_n dL_law_606 rfl ?_
  refine V_iconst dL_law_607 ?_
  refine V_iadd dL_law_608 ?_
  refine V_sld rfl hL dL_law_609 (by omega) ?_
  refine V_callV1 dL_law_610 ml_RL_86 km_X10_type kv_X10_type (c_X10_type (hxr _) hC) (by first | with_reducible assumption | rfl) rfl rfl rfl (Nat.le_of_ble_eq_true rfl) ⟨Nat.le_of_ble_eq_true rfl, Nat.le_of_ble_eq_true rfl⟩ ⟨Nat.le_of_ble_eq_true rfl, Nat.le_of_ble_eq_true rfl⟩ ?_
  rintro v mi1 mr1 ⟨rfl, hC1, hk1⟩
  refine V_aload_n dL_law_613 rfl ?_
  refine V_aload_n dL_law_614 rfl ?_
  refine V_iload_n dL_law_615 rfl ?_
  refine V_iconst dL_law_616 ?_
  refine V_iadd dL_law_617 ?_
  refine V_sld rfl hL dL_law_618 (by omega) ?_
  refine V_callV1 dL_law_619 ml_RL_89 km_X11_type kv_X11_type (c_X11_type hC1.gr (hxr _) (hM.up hk1)) (by first | with_reducible assumption | rfl) rfl rfl rfl (Nat.le_of_ble_eq_true rfl) ⟨Nat.le_of_ble_eq_true rfl, Nat.le_of_ble_eq_true rfl⟩ ⟨Nat.le_of_ble_eq_true rfl, Nat.le_of_ble_eq_true rfl⟩ ?_
  rintro v mi2 mr2 ⟨rfl, rfl, hM2, hk2⟩
  refine V_icmp_same 676 dL_law_622 (by decide) ?_
  exact kk _ _ _ (hC1.low hk2) hM2
set_option maxRecDepth 100000 in
set_option maxHeartbeats 1000000 in
theorem lw_c18 (hxr : ∀ j, rng (xs j)) (hL : L ≤ 2147483648) (hi : 0 ≤ i ∧ i + 4 ≤ L) (hC : RepC mi mr ((n, m, A, B, Z), hs, tl, T)) (hM : RepM mi ((n, m, A, B, Z), hs, tl, T)) (kk : lwK L xs i) : V (muL L xs) QL 75 16789 SH mi mr (Hd0 i) [] 627 := by
  refine V_aload_n dL_law_627 rfl ?_
  refine V_callV1 dL_law_628 ml_RL_90 km_X10_clearText kv_X10_clearText (c_X10_clearText  hC) (by first | with_reducible assumption | rfl) rfl rfl rfl (Nat.le_of_ble_eq_true rfl) ⟨Nat.le_of_ble_eq_true rfl, Nat.le_of_ble_eq_true rfl⟩ ⟨Nat.le_of_ble_eq_true rfl, Nat.le_of_ble_eq_true rfl⟩ ?_
  rintro v mi1 mr1 ⟨rfl, hC1, hk1⟩
  refine V_aload_n dL_law_631 rfl ?_
  refine V_callV1 dL_law_632 ml_RL_93 km_X11_clearText kv_X11_clearText (c_X11_clearText hC1.gr  (hM.up hk1)) (by first | with_reducible assumption | rfl) rfl rfl rfl (Nat.le_of_ble_eq_true rfl) ⟨Nat.le_of_ble_eq_true rfl, Nat.le_of_ble_eq_true rfl⟩ ⟨Nat.le_of_ble_eq_true rfl, Nat.le_of_ble_eq_true rfl⟩ ?_
  rintro v mi2 mr2 ⟨rfl, rfl, hM2, hk2⟩
  refine V_icmp_same 676 dL_law_635 (by decide) ?_
  exact kk _ _ _ (hC1.low hk2) hM2
set_option maxRecDepth 100000 in
set_option maxHeartbeats 1000000 in
theorem lw_c19 (hxr : ∀ j, rng (xs j)) (hL : L ≤ 2147483648) (hi : 0 ≤ i ∧ i + 4 ≤ L) (hC : RepC mi mr ((n, m, A, B, Z), hs, tl, T)) (hM : RepM mi ((n, m, A, B, Z), hs, tl, T)) (kk : lwK L xs i) : V (muL L xs) QL 75 16789 SH mi mr (Hd0 i) [] 640 := by
  refine V_aload_n dL_law_640 rfl ?_
  refine V_aload_n dL_law_641 rfl ?_
  refine V_iload_n dL_law_642 rfl ?_
  refine V_iconst dL_law_643 ?_
  refine V_iadd dL_law_644 ?_
  refine V_sld rfl hL dL_law_645 (by omega) ?_
  refine V_callV1 dL_law_646 ml_RL_94 km_X10_fault kv_X10_fault (c_X10_fault (hxr _) hC) (by first | with_reducible assumption | rfl) rfl rfl rfl (Nat.le_of_ble_eq_true rfl) ⟨Nat.le_of_ble_eq_true rfl, Nat.le_of_ble_eq_true rfl⟩ ⟨Nat.le_of_ble_eq_true rfl, Nat.le_of_ble_eq_true rfl⟩ ?_
  rintro v mi1 mr1 ⟨rfl, hC1, hk1⟩
  refine V_aload_n dL_law_649 rfl ?_
  refine V_aload_n dL_law_650 rfl ?_
  refine V_iload_n dL_law_651 rfl ?_
  refine V_iconst dL_law_652 ?_
  refine V_iadd dL_law_653 ?_
  refine V_sld rfl hL dL_law_654 (by omega) ?_
  refine V_callV1 dL_law_655 ml_RL_97 km_X11_fault kv_X11_fault (c_X11_fault hC1.gr (hxr _) (hM.up hk1)) (by first | with_reducible assumption | rfl) rfl rfl rfl (Nat.le_of_ble_eq_true rfl) ⟨Nat.le_of_ble_eq_true rfl, Nat.le_of_ble_eq_true rfl⟩ ⟨Nat.le_of_ble_eq_true rfl, Nat.le_of_ble_eq_true rfl⟩ ?_
  rintro v mi2 mr2 ⟨rfl, rfl, hM2, hk2⟩
  refine V_icmp_same 676 dL_law_658 (by decide) ?_
  exact kk _ _ _ (hC1.low hk2) hM2
set_option maxRecDepth 100000 in
set_option maxHeartbeats 1000000 in
theorem lw_c20 (hxr : ∀ j, rng (xs j)) (hL : L ≤ 2147483648) (hi : 0 ≤ i ∧ i + 4 ≤ L) (hC : RepC mi mr ((n, m, A, B, Z), hs, tl, T)) (hM : RepM mi ((n, m, A, B, Z), hs, tl, T)) (kk : lwK L xs i) : V (muL L xs) QL 75 16789 SH mi mr (Hd0 i) [] 663 := by
  refine V_aload_n dL_law_663 rfl ?_
  refine V_callV1 dL_law_664 ml_RL_98 km_X10_apply kv_X10_apply (c_X10_apply  hC) (by first | with_reducible assumption | rfl) rfl rfl rfl (Nat.le_of_ble_eq_true rfl) ⟨Nat.le_of_ble_eq_true rfl, Nat.le_of_ble_eq_true rfl⟩ ⟨Nat.le_of_ble_eq_true rfl, Nat.le_of_ble_eq_true rfl⟩ ?_
  rintro v mi1 mr1 ⟨rfl, hC1, hk1⟩
  refine V_aload_n dL_law_667 rfl ?_
  refine V_callV1 dL_law_668 ml_RL_101 km_X11_apply kv_X11_apply (c_X11_apply hC1.gr  (hM.up hk1)) (by first | with_reducible assumption | rfl) rfl rfl rfl (Nat.le_of_ble_eq_true rfl) ⟨Nat.le_of_ble_eq_true rfl, Nat.le_of_ble_eq_true rfl⟩ ⟨Nat.le_of_ble_eq_true rfl, Nat.le_of_ble_eq_true rfl⟩ ?_
  rintro v mi2 mr2 ⟨rfl, rfl, hM2, hk2⟩
  refine V_icmp_same 676 dL_law_671 (by decide) ?_
  exact kk _ _ _ (hC1.low hk2) hM2
end LAWC
