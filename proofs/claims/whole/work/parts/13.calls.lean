/-! ===== making objects ===== -/
theorem cel_ext {ρ ρ1 : Nat → Nat} {cA : ClassId} {fi : Int → Int} {fr : Int → Option Nat} {x : Nat ⊕ (Nat × Nat)} (h : ∀ (j : Int) (k : Nat), fr j = some k → ρ1 k = ρ k) : cel ρ1 cA fi fr x = cel ρ cA fi fr x := by
  have hm : ∀ j : Int, (fr j).map ρ1 = (fr j).map ρ := by
    intro j
    cases hj : fr j with
    | none => rfl
    | some k => simp [h j k hj]
  rcases x with ci | ⟨t, n⟩
  · simp only [cel, fls, hm]
  · rcases t with _ | _ | _ | t
    · rfl
    · rfl
    · rfl
    · simp only [cel, cont, hm]
theorem wld_push {ρ : Nat → Nat} {dA : Nat → ClassId} {sh : ShT} {mi : MI} {mr : MR} (q : Nat) (cA : ClassId) (x : Nat ⊕ (Nat × Nat)) (hz : ∀ (a : Nat) (j : Int) (k : Nat), a < sh.length → mr a j = some k → k < sh.length) :
    wld ρ dA sh mi mr ++ [(q, cel ρ cA (fun _ => 0) (fun _ => none) x)] = wld (va_up ρ sh.length q) (va_up dA sh.length cA) (sh ++ [x]) (zm mi sh.length 0) (zm mr sh.length none) := by
  apply List.ext_getElem?
  intro i
  by_cases hi : i < sh.length
  · have hne : i ≠ sh.length := by omega
    have hx : sh[i]? = some sh[i] := List.getElem?_eq_getElem hi
    rw [List.getElem?_append_left (by rw [wld_len]; exact hi), wld_get hx, wld_get (x := sh[i]) (by rw [List.getElem?_append_left hi]; exact hx)]
    rw [zm_n mi 0 hne, zm_n mr none hne, cel_ext (ρ := ρ) (ρ1 := va_up ρ sh.length q) (fun j k hk => by
      have := hz i j k hi hk
      simp [va_up, show k ≠ sh.length by omega])]
    simp [va_up, hne]
  · by_cases hi2 : i = sh.length
    · subst hi2
      rw [List.getElem?_append_right (by rw [wld_len]; omega), wld_len, Nat.sub_self, wld_get (x := x) (by simp)]
      rw [zm_s, zm_s, cel_ext (ρ := ρ) (ρ1 := va_up ρ sh.length q) (fun j k hk => by cases hk)]
      simp [va_up]
    · rw [List.getElem?_eq_none (by simp [wld_len]; omega), List.getElem?_eq_none (by simp [wld_len]; omega)]
def okl (z : Nat) : List AV → Prop
  | [] => True
  | v :: t => v ≠ vr z ∧ okl z t
def oklo (z : Nat) : List (Option AV) → Prop
  | [] => True
  | none :: t => oklo z t
  | some v :: t => v ≠ vr z ∧ oklo z t
theorem rv_ext {ρ : Nat → Nat} {z q : Nat} {v : AV} (h : v ≠ vr z) : rv (va_up ρ z q) v = rv ρ v := by
  rcases v with a | a | r
  · rfl
  · rfl
  · cases r with
    | none => rfl
    | some k =>
      have : k ≠ z := fun e => h (by rw [e])
      simp [rv, va_up, this]
theorem okl_map {ρ : Nat → Nat} {z q : Nat} : ∀ {st : List AV}, okl z st → st.map (rv (va_up ρ z q)) = st.map (rv ρ)
  | [], _ => rfl
  | v :: t, h => by rw [List.map_cons, List.map_cons, rv_ext h.1, okl_map h.2]
theorem oklo_at {z : Nat} : ∀ {ls : List (Option AV)}, oklo z ls → ∀ (i : Nat) (v : AV), ls[i]? = some (some v) → v ≠ vr z
  | [], _, i, v, h => by simp at h
  | none :: t, ho, 0, v, h => by simp at h
  | none :: t, ho, i + 1, v, h => oklo_at (ls := t) ho i v (by simpa using h)
  | some w :: t, ho, 0, v, h => by
    have : w = v := by simpa using h
    rw [← this]; exact ho.1
  | some w :: t, ho, i + 1, v, h => oklo_at (ls := t) ho.2 i v (by simpa using h)
theorem lok.ext {ρ la nL ls} {z q : Nat} (h : lok ρ la nL ls) (ho : oklo z ls) : lok (va_up ρ z q) la nL ls := ⟨h.1, h.2.1, fun i v hi => by rw [rv_ext (oklo_at ho i v hi)]; exact h.2.2 i v hi⟩
theorem Sx.ext {A ρ ρ1 U} (h : Sx A ρ U) (he : ∀ a : Nat, 1000 ≤ a → ρ1 a = ρ a) : Sx A ρ1 U := ⟨h.1, h.2.1, fun j hj => by rw [he _ (by omega)]; exact h.2.2 j hj⟩
theorem Cx.ext {μ p s m args meth c A ρ ρ1} (h : Cx μ p s m args meth c A ρ) (he : ∀ a : Nat, 1000 ≤ a → ρ1 a = ρ a) : Cx μ p s m args meth c A ρ1 :=
  ⟨h.1, h.2.1, h.2.2.1, h.2.2.2.1, h.2.2.2.2.1, h.2.2.2.2.2.1, h.2.2.2.2.2.2.1, h.2.2.2.2.2.2.2.1.ext he, fun L xs hm => by rw [he 1003 (by omega)]; exact h.2.2.2.2.2.2.2.2 L xs hm⟩
theorem Hd.grow {μ Q p l e s m args below meth c D A ρ dA n0 n1 ρ1 dA1 Qm} (h : Hd μ Q p l e s m args below meth c D A ρ dA n0 Qm) (hn : n0 ≤ n1) (he : ext n0 n1 ρ dA ρ1 dA1) : Hd μ Q p l e s m args below meth c D A ρ1 dA1 n1 Qm :=
  fun r sh mi mr ρ' dA' H locs k n pc la hx hle hq hR hS hk hk2 hr => h r sh mi mr ρ' dA' H locs k n pc la (he.tr hx hn hle) (Nat.le_trans hn hle) hq hR hS hk hk2 hr
theorem ext_up {ρ : Nat → Nat} {dA : Nat → ClassId} {z q : Nat} {cA : ClassId} : ext z (z + 1) ρ dA (va_up ρ z q) (va_up dA z cA) := fun a ha => by
  have : a ≠ z := by omega
  simp [va_up, this]
theorem rf_null {t : FieldType} (h : refTy t = true) : defaultValue t = .null := by cases t <;> first | rfl | cases h
/-- a made cell's world -/
theorem Rep.push {D A ρ dA s sh mi mr H H1} {q : Nat} {cA : ClassId} {x : Nat ⊕ (Nat × Nat)} (h : Rep D A ρ dA s sh mi mr H) (hz : sh.length < 1000) (hty : ∀ t n, x = .inr (t, n) → ArrOfT s cA (tyOf t) ∧ va_RA s cA (tyOf t))
    (hP : va_P D vwCl (wld ρ dA sh mi mr ++ [(q, cel ρ cA (fun _ => 0) (fun _ => none) x)]) H1) (hD : va_D A (wld ρ dA sh mi mr ++ [(q, cel ρ cA (fun _ => 0) (fun _ => none) x)])) : Rep D A (va_up ρ sh.length q) (va_up dA sh.length cA) s (sh ++ [x]) (zm mi sh.length 0) (zm mr sh.length none) H1 := by
  rw [wld_push q cA x h.2.2.2.2.2] at hP hD
  refine ⟨hP, hD, fun k t n hk => ?_, h.2.2.2.1, by simp; omega, fun a j k ha hk => ?_⟩
  · by_cases hlt : k < sh.length
    · rw [List.getElem?_append_left hlt] at hk
      have hne : k ≠ sh.length := by omega
      simp only [va_up, if_neg hne]
      exact h.2.2.1 k t n hk
    · have hl := lt_of_get hk
      have he : k = sh.length := by simp at hl; omega
      subst he
      have hx : x = .inr (t, n) := by simpa using hk
      simp only [va_up, if_true]
      exact hty t n hx
  · by_cases hne : a = sh.length
    · subst hne
      rw [zm_s] at hk
      cases hk
    · rw [zm_n mr none hne] at hk
      have := h.2.2.2.2.2 a j k (by simp at ha; omega) hk
      simp; omega
section VN
variable {μ : Mt} {Q : PQ} {k n : Nat} {sh : ShT} {mi : MI} {mr : MR} {ls : List (Option AV)} {st : List AV} {pc : Nat}
theorem V_new {idx ci N : Nat} {C : String} {T : u_T} (hd : decode μ.2.1 pc = .ok (.new idx, 3)) (hc : vwCl[ci]? = some (C, T, N)) (hcl : Cond.classLink μ.1 idx C ∈ WS) (hin : Cond.instantiable C N ∈ WS) (hit : Cond.initialized C ∈ WS) (hu : ∀ w ∈ u_ws C T N, w ∈ WS) (hz : sh.length < 1000) (ho : okl sh.length st ∧ oklo sh.length ls) (hk : k + 1 ≤ μ.2.2.2.1.cells ∧ n + N ≤ μ.2.2.2.1.slots)
    (kk : V μ Q (k + 1) (n + N) (sh ++ [.inl ci]) (zm mi sh.length 0) (zm mr sh.length none) ls (vr sh.length :: st) (pc + 3)) : V μ Q k n sh mi mr ls st pc := by
  intro p l e s m args below meth c D A ρ dA H locs la Qm hC hR hS hL hH
  obtain ⟨C', T', N', ty, hc', hty, hnm, hlen, hfl⟩ := ftb hc
  have h9 := Option.some.inj (hc'.symm.trans hc)
  have e1 : C' = C := congrArg (fun q => q.1) h9
  have e2 : T' = T := congrArg (fun q => q.2.1) h9
  have e3 : N' = N := congrArg (fun q => q.2.2) h9
  subst e1 e2 e3
  refine va_new hC.1 hC.2.1 hC.2.2.2.2.1 hu ty hty hC.2.2.2.1 (hC.2.2.2.2.1 _ hcl) (hC.2.2.2.2.1 _ hin) (hC.2.2.2.2.1 _ hit) hR.ks hR.1 hR.2.1 hS hC.2.2.2.2.2.2.1 hc (fs := fls ρ (fun _ => 0) (fun _ => none) ci) (fun j hj => ?_) hk.1 hk.2 hd (fun q H1 hP hD hS1 => ?_)
  · have g := hfl j hj
    cases hrt : refTy (ty j) with
    | false =>
      rw [g.2 hrt]
      rw [hrt] at g
      simp only [vp_V, List.getD, fls_geti g.1]
      rfl
    | true =>
      rw [rf_null hrt]
      rw [hrt] at g
      simp only [vp_V, List.getD, fls_getr g.1]
      rfl
  · have hR1 := hR.push (q := q) (cA := default) (x := .inl ci) hz (fun t n h => by cases h) hP hD
    have hH1 := hH.grow (n1 := sh.length + 1) (Nat.le_succ _) (ext_up (q := q) (cA := default))
    have hgo := kk p l e s m args below meth c D A (va_up ρ sh.length q) (va_up dA sh.length default) H1 locs la Qm (hC.ext (fun a ha => by simp [va_up, show a ≠ sh.length by omega])) hR1 hS1 (hL.ext ho.2) (by simpa using hH1)
    rw [List.map_cons, okl_map ho.1] at hgo
    rw [show rv (va_up ρ sh.length q) (vr sh.length) = .ref q by simp [rv, va_up, va_rf]] at hgo
    exact hgo
theorem V_newa {atype : ArrayType} {t N : Nat} {x : Int} (hd : decode μ.2.1 pc = .ok (.newarray atype, 2)) (ht : newarray.typeOf atype = tyOf t ∧ (t = 0 ∨ t = 1 ∨ t = 2)) (hac : Cond.arrayClass (newarray.typeOf atype) ∈ WS) (hx : x = (N : Int)) (hN : N ≤ 60000) (hz : sh.length < 1000) (ho : okl sh.length st ∧ oklo sh.length ls) (hk : k + 1 ≤ μ.2.2.2.1.cells ∧ n + N ≤ μ.2.2.2.1.slots)
    (kk : V μ Q (k + 1) (n + N) (sh ++ [.inr (t, N)]) (zm mi sh.length 0) (zm mr sh.length none) ls (vr sh.length :: st) (pc + 2)) : V μ Q k n sh mi mr ls (vi x :: st) pc := by
  intro p l e s m args below meth c D A ρ dA H locs la Qm hC hR hS hL hH
  subst hx
  have hrg : rng (N : Int) := ⟨by omega, by omega⟩
  refine va_newa hC.1 hC.2.1 (hC.2.2.2.2.1 _ hac) ht.1 hR.ks hR.1 hR.2.1 hS hC.2.2.2.2.2.2.1 (N' := N) (a0 := (N, cont ρ (fun _ => 0) (fun _ => none) t)) ?_ ?_ ?_ ?_ hk.1 hk.2 hd (fun q cA H1 hK hP hD hS1 => ?_)
  · intro cA
    rcases ht.2 with h | h | h <;> subst h <;> rfl
  · rw [show (0 : Int32) = Int32.ofInt 0 from rfl, i_lt hrg rng0]; omega
  · rw [Int32.toNatClampNeg_ofInt_of_le (by omega) (by omega)]; rfl
  · rcases ht.2 with h | h | h <;> subst h <;> simp [componentBytes, tyOf] <;> omega
  · have hR1 := hR.push (q := q) (cA := cA) (x := .inr (t, N)) hz (fun t' n' h => by
      cases h
      exact hK.2 0 (cA, tyOf t) rfl) hP hD
    have hH1 := hH.grow (n1 := sh.length + 1) (Nat.le_succ _) (ext_up (q := q) (cA := cA))
    have hgo := kk p l e s m args below meth c D A (va_up ρ sh.length q) (va_up dA sh.length cA) H1 locs la Qm (hC.ext (fun a ha => by simp [va_up, show a ≠ sh.length by omega])) hR1 hS1 (hL.ext ho.2) (by simpa using hH1)
    rw [List.map_cons, okl_map ho.1] at hgo
    rw [show rv (va_up ρ sh.length q) (vr sh.length) = .ref q by simp [rv, va_up, va_rf]] at hgo
    exact hgo
theorem V_newq {idx N : Nat} {x : Int} (hd : decode μ.2.1 pc = .ok (.anewarray idx, 3)) (hcl : Cond.classLink μ.1 idx "DiagonalTexts$State" ∈ WS) (hx : x = (N : Int)) (hN : N ≤ 60000) (hz : sh.length < 1000) (ho : okl sh.length st ∧ oklo sh.length ls) (hk : k + 1 ≤ μ.2.2.2.1.cells ∧ n + N ≤ μ.2.2.2.1.slots)
    (kk : V μ Q (k + 1) (n + N) (sh ++ [.inr (3, N)]) (zm mi sh.length 0) (zm mr sh.length none) ls (vr sh.length :: st) (pc + 3)) : V μ Q k n sh mi mr ls (vi x :: st) pc := by
  intro p l e s m args below meth c D A ρ dA H locs la Qm hC hR hS hL hH
  subst hx
  have hrg : rng (N : Int) := ⟨by omega, by omega⟩
  refine va_newq hC.1 hC.2.1 hC.2.2.2.1 (hC.2.2.2.2.1 _ hcl) hC.2.2.2.2.2.2.2.1.2.1 hR.ks hR.1 hR.2.1 hS hC.2.2.2.2.2.2.1 (N' := N) ?_ ?_ (by omega) hk.1 hk.2 hd (fun q cA H1 hK hP hD hS1 => ?_)
  · rw [show (0 : Int32) = Int32.ofInt 0 from rfl, i_lt hrg rng0]; omega
  · rw [Int32.toNatClampNeg_ofInt_of_le (by omega) (by omega)]; rfl
  · have hR1 := hR.push (q := q) (cA := cA) (x := .inr (3, N)) hz (fun t' n' h => by
      cases h
      exact hK.2 0 (cA, .object "DiagonalTexts$State") rfl) hP hD
    have hH1 := hH.grow (n1 := sh.length + 1) (Nat.le_succ _) (ext_up (q := q) (cA := cA))
    have hgo := kk p l e s m args below meth c D A (va_up ρ sh.length q) (va_up dA sh.length cA) H1 locs la Qm (hC.ext (fun a ha => by simp [va_up, show a ≠ sh.length by omega])) hR1 hS1 (hL.ext ho.2) (by simpa using hH1)
    rw [List.map_cons, okl_map ho.1] at hgo
    rw [show rv (va_up ρ sh.length q) (vr sh.length) = .ref q by simp [rv, va_up, va_rf]] at hgo
    exact hgo
end VN
/-! ===== contracts ===== -/
def Pre (D : va_G) (ρ : Nat → Nat) (dA : Nat → ClassId) (A : Nat → Prop) (sz : Nat) (sh : ShT) (mi : MI) (mr : MR) (As : List AV) : Array Value → State → Prop := fun v U => v = (As.map (rv ρ)).toArray ∧ U.heap.size = sz ∧ Rep D A ρ dA U sh mi mr U.heap ∧ Sx A ρ U
def PostC (D : va_G) (ρ : Nat → Nat) (dA : Nat → ClassId) (A : Nat → Prop) (n0 : Nat) (Q : PQ) : Array Value → State → Outcome → State → Prop := fun _ st o t =>
  (∃ (r : Option AV) (sh : ShT) (mi : MI) (mr : MR) (ρ' : Nat → Nat) (dA' : Nat → ClassId), o = .returned (r.map (rv ρ')) ∧ Q r sh mi mr ∧ ext n0 sh.length ρ dA ρ' dA' ∧ n0 ≤ sh.length ∧ Rep D A ρ' dA' t sh mi mr t.heap) ∧ va_F A st t
def wsM (y : MethodName) (b : ByteArray) (nL : Nat) (ret : Option FieldType) : List Cond := .code y b nL ret :: WS
/-- the contract of a call -/
def Ct (y : MethodName) (ws : List Cond) (R : Room) (sh : ShT) (mi : MI) (mr : MR) (As : List AV) (Q : PQ) : Prop :=
  ∀ (l : Launch) (D : va_G) (ρ : Nat → Nat) (dA : Nat → ClassId) (sz : Nat), Met l y ws R (Pre D ρ dA (va_A (wld ρ dA sh mi mr) sz) sz sh mi mr As) (PostC D ρ dA (va_A (wld ρ dA sh mi mr) sz) sh.length Q) R.cells R.slots (va_A (wld ρ dA sh mi mr) sz)
theorem nest_on {w : Cond} (h : w ∈ NW) : w.onTables = true := by
  have h1 := (List.mem_filter.mp h).2
  cases w <;> first | rfl | cases h1
theorem nw_warm {w : Cond} {s U : State} (h : w ∈ NW) (hW : s.WarmedH U.vm) (hz : va_Nw w s) : va_Nw w U := by
  have h1 := (List.mem_filter.mp h).2
  cases w <;> first | exact va_Nw.warmF hW hz | exact va_Nw.warmM hW hz | cases h1
theorem good_WS (y : MethodName) (b : ByteArray) (nL : Nat) (ret : Option FieldType) (h : Cond.code y b nL ret ∈ WS) : GoodIn WS (wsM y b nL ret) := fun w hw => by
  rcases List.mem_cons.mp hw with e | hw
  · subst e
    exact ⟨h, good_of_word (List.mem_filter.mp h).2⟩
  · exact ⟨hw, good_of_word (List.mem_filter.mp hw).2⟩
theorem Pre.blind {D ρ dA A sz sh mi mr As} : FrameBlind (Pre D ρ dA A sz sh mi mr As) := fun a U g mk h =>
  ⟨h.1, h.2.1, h.2.2.1.moved (u := U) (U := U.calling g mk a) (Vm.Alike.refl U.vm), fun w hw => va_Nw.same (nest_on hw) (u := U) (U := U.calling g mk a) rfl (h.2.2.2.1 w hw), va_AO.moved (u := U) (U := U.calling g mk a) (Vm.Alike.refl U.vm) h.2.2.2.2.1,
    fun j hj => ⟨va_Z.moved (u := U) (U := U.calling g mk a) (Vm.Alike.refl U.vm) (h.2.2.2.2.2 j hj).1, va_T.moved (u := U) (U := U.calling g mk a) (Vm.Alike.refl U.vm) (h.2.2.2.2.2 j hj).2⟩⟩
theorem sub_A {D A ρ dA s sh mi mr H locs} {H0 : Heap} (hR : Rep D A ρ dA s sh mi mr H) (hS : va_S A H0 H locs) (hA : ∀ q : Nat, H0.size ≤ q → A q) : ∀ q, va_A (wld ρ dA sh mi mr) H.size q → A q := by
  intro q h
  rcases h with ⟨k, e, h⟩ | h
  · exact hR.2.1.2 k (q, e) h
  · exact hA q (Nat.le_trans hS.1 h)
theorem pre_at {μ p s m args meth c D A ρ dA sh mi mr H locs} (As : List AV) (hC : Cx μ p s m args meth c A ρ) (hR : Rep D A ρ dA s sh mi mr H) (hS : va_S A s.heap H locs) : ∀ U : State, U.heap = H → s.WarmedH U.vm → Pre D ρ dA (va_A (wld ρ dA sh mi mr) H.size) H.size sh mi mr As (As.map (rv ρ)).toArray U := by
  intro U hU hW
  have hsub := sub_A hR hS hC.2.2.2.2.2.2.1
  refine ⟨rfl, by rw [hU], ?_, fun w hw => nw_warm hw hW (hC.2.2.2.2.2.2.2.1.1 w hw), va_AO.moved hW.alike hC.2.2.2.2.2.2.2.1.2.1, fun j hj => ?_⟩
  · rw [hU]
    have hR1 := hR.moved hW.alike
    exact ⟨hR1.1, hR1.2.1.self, hR1.2.2⟩
  · obtain ⟨h1, h2⟩ := hC.2.2.2.2.2.2.2.1.2.2 j hj
    rw [hU]
    exact ⟨((va_Z.moved hW.alike h1).kept (fun a ha hna => hS.2.1 a ha hna)).narrow hsub, ((va_T.moved hW.alike h2).kept (fun a ha hna => hS.2.1 a ha hna)).narrow hsub⟩
section VC
variable {p : Program} {l : Launch} {e : Env} {R : Room} {s : State} {m : MethodId} {args : Array Value} {below : List Frame} {meth : Method} {c : Code} {H : Heap} {locs : List Loc} {cells slots : Nat} {Qm : State → Prop}
theorem va_callG {Q' : PQ} {D : va_G} {ρ : Nat → Nat} {dA : Nat → ClassId} {A0 A1 : Nat → Prop} {n0 pc mc ms : Nat} {la : Array Slot} {st0 rest : List Value} {a : Array Value} {H0 : Heap} {free : Addr → Prop} (hr : va_Run p l e R s m args below meth c H locs cells slots mc ms (F0 m pc la st0) rest (PostC D ρ dA A1 n0 Q' a) free) (hS : va_S A0 H0 H locs) (hA : ∀ q, A1 q → A0 q) (hf : ∀ q, free q → A0 q)
    (kk : ∀ (r : Option AV) (sh' : ShT) (mi' : MI) (mr' : MR) (ρ' : Nat → Nat) (dA' : Nat → ClassId) (t : State) (H1 : Heap) (locs1 : List Loc), t.heap = H1 → s.vm.Alike t.vm → Q' r sh' mi' mr' → ext n0 sh'.length ρ dA ρ' dA' → n0 ≤ sh'.length → Rep D A1 ρ' dA' t sh' mi' mr' H1 → va_S A0 H0 H1 locs1 → W p l e R s m args below meth c H1 locs1 (cells + mc) (slots + ms) Qm (F0 m (pc + 3) la ((r.map (rv ρ')).toList ++ rest))) : W p l e R s m args below meth c H locs cells slots Qm (F0 m pc la st0) := by
  intro T hT X
  obtain ⟨v, st₀, t, T', L, h0, X', hL, e1, e2, ⟨⟨r, sh', mi', mr', ρ', dA', hv, hq, hext, hle, hRt⟩, hz, hk⟩, st⟩ := hr T hT X
  cases hv
  rw [h0] at hz hk
  rw [← e1] at hRt hz
  obtain ⟨t2, a1, b1⟩ := kk r sh' mi' mr' ρ' dA' t T'.heap (locs ++ L) e1.symm (by rw [← e2]; exact X'.warmed.alike) hq hext hle hRt
    ⟨Nat.le_trans hS.1 hz, fun q h1 h2 => by rw [e1, hk q (Nat.lt_of_lt_of_le h1 hS.1) (fun z => h2 (hA q z))]; exact hS.2.1 q h1 h2, fun q hq => by
      rcases List.mem_append.mp hq with h | h
      · exact hS.2.2 q h
      · exact hf _ (hL q h)⟩ T' rfl X'
  exact ⟨t2, st t2 a1, b1⟩
end VC
section VCC
variable {μ : Mt} {Q : PQ} {k n : Nat} {sh : ShT} {mi : MI} {mr : MR} {ls : List (Option AV)} {st st' : List AV} {pc : Nat} {y : MethodName} {b : ByteArray} {nL nP idx : Nat} {ret : Option FieldType} {Rc : Room} {As : List AV}
/-- behind a call that makes nothing: the same addresses -/
theorem V_behind {Q2 : Option AV → MI → MR → Prop} {p l e s m args below meth c D A ρ dA H locs la Qm} {a : Array Value} {st0 : List Value} (hC : Cx μ p s m args meth c A ρ) (hR : Rep D A ρ dA s sh mi mr H) (hS : va_S A s.heap H locs) (hL : lok ρ la μ.2.2.1 ls) (hH : Hd μ Q p l e s m args below meth c D A ρ dA sh.length Qm)
    (hr : va_Run p l e μ.2.2.2.1 s m args below meth c H locs k n 0 0 (F0 m pc la st0) (st'.map (rv ρ)) (PostC D ρ dA (va_A (wld ρ dA sh mi mr) H.size) sh.length (fun r sh' mi' mr' => sh' = sh ∧ Q2 r mi' mr') a) (va_A (wld ρ dA sh mi mr) H.size))
    (kk : ∀ r mi' mr', Q2 r mi' mr' → V μ Q k n sh mi' mr' ls (r.toList ++ st') (pc + 3)) : W p l e μ.2.2.2.1 s m args below meth c H locs k n Qm (F0 m pc la st0) := by
  have hsub := sub_A hR hS hC.2.2.2.2.2.2.1
  refine va_callG hr hS hsub hsub (fun r sh' mi' mr' ρ' dA' t H1 locs1 ht hvm hq hext hle hRt hS1 => ?_)
  obtain ⟨rfl, hq⟩ := hq
  have e1 : ρ' = ρ := funext fun a => (hext a (by omega)).1
  have e2 : dA' = dA := funext fun a => (hext a (by omega)).2
  subst e1 e2
  have hgo := kk r mi' mr' hq p l e s m args below meth c D A ρ' dA' H1 locs1 la Qm hC ((hRt.moved hvm.symm).weaken hsub) hS1 hL hH
  rw [List.map_append] at hgo
  cases r with
  | none => exact hgo
  | some v => exact hgo
/-- a call of a method of an object -/
theorem V_callV {Q2 : Option AV → MI → MR → Prop} {a ci : Nat} (hd : decode μ.2.1 pc = .ok (.invokevirtual idx, 3)) (hm : ML μ.1 idx y) (hk : KM y b nL ret nP) (hv : KV y) (hc : Ct y (wsM y b nL ret) Rc sh mi mr (vr a :: As) (fun r sh' mi' mr' => sh' = sh ∧ Q2 r mi' mr')) (hs : sh[a]? = some (.inl ci)) (hcls : (vwCl[ci]?).map (fun q => q.1) = some y.cls) (hst : st = As.reverse ++ vr a :: st') (hn : As.length = nP) (hcat : (st'.map acat).sum ≤ 8)
    (hRm : Rc.frames + 1 ≤ μ.2.2.2.1.frames ∧ 8 + (nL + 11) + Rc.locals ≤ μ.2.2.2.1.locals) (hR0 : Rc.cells = 0 ∧ Rc.slots = 0) (hkn : k ≤ μ.2.2.2.1.cells ∧ n ≤ μ.2.2.2.1.slots)
    (kk : ∀ r mi' mr', Q2 r mi' mr' → V μ Q k n sh mi' mr' ls (r.toList ++ st') (pc + 3)) : V μ Q k n sh mi mr ls st pc := by
  intro p l e s m args below meth c D A ρ dA H locs la Qm hC hR hS hL hH
  subst hst
  have hM := hc l D ρ dA H.size
  rw [hR0.1, hR0.2] at hM
  have ht := hC.2.2.2.2.1
  have hpV : PreV s H y.cls (ρ a) (Pre D ρ dA (va_A (wld ρ dA sh mi mr) H.size) H.size sh mi mr (vr a :: As)) (As.map (rv ρ)) := by
    refine ⟨Pre.blind, ?_, pre_at (vr a :: As) hC hR hS⟩
    cases hcl : vwCl[ci]? with
    | none => rw [hcl] at hcls; cases hcls
    | some q =>
      rw [hcl] at hcls
      have hq : q.1 = y.cls := Option.some.inj hcls
      rw [← hq]
      exact va_recv hR.ks hR.1 (ci := ci) (q0 := a) hcl (wld_get hs)
  have hstk : (F0 m pc la ((As.reverse ++ vr a :: st').map (rv ρ))).stack = (As.map (rv ρ)).reverse ++ .ref (ρ a) :: st'.map (rv ρ) := by
    simp [rv, va_rf]
  have hG := good_WS y b nL ret hk.1
  have hroom : 2 * (F0 m pc la ((As.reverse ++ vr a :: st').map (rv ρ))).monitorRoom + ((st'.map (rv ρ)).map fun v => v.category).sum ≤ 8 := lv_room (by rw [cat_sum]; exact hcat)
  have hlen : (As.map (rv ρ)).length = nP := by simp [hn]
  refine V_behind (Q2 := Q2) (a := (Value.ref (ρ a) :: As.map (rv ρ)).toArray) hC hR hS hL hH ?_ kk
  rcases hm with hm | ⟨host, hm⟩
  · exact va_runV ⟨hC.1, hC.2.1, hC.2.2.1, hC.2.2.2.1, ht⟩ hM ⟨callB_of nP ht hG rfl hR0.1 hR0.2 (ht _ hk.2.1) (ht _ hm) ⟨hk.2.2.2.1, hk.2.2.2.2.1, hk.2.2.2.2.2⟩ hRm, ht _ hv.1, ht _ hv.2⟩ hpV rfl hlen hL.1 hstk hroom hd hkn
  · exact va_runVN ⟨hC.1, hC.2.1, hC.2.2.1, hC.2.2.2.1, ht⟩ hM ⟨va_cnB nP ht hG rfl hR0.1 hR0.2 (hC.2.2.2.2.2.2.2.1.1 _ hm) (ht _ hk.2.1) ⟨hk.2.2.2.1, hk.2.2.2.2.1, hk.2.2.2.2.2⟩ hRm, ht _ hv.1, ht _ hv.2⟩ hpV rfl hlen hL.1 hstk hroom hd hkn
/-- a call of a static method -/
theorem V_callS {Q2 : Option AV → MI → MR → Prop} (hd : decode μ.2.1 pc = .ok (.invokestatic idx, 3)) (hm : ML μ.1 idx y) (hk : KM y b nL ret nP) (hv : Cond.static y ∈ WS) (hc : Ct y (wsM y b nL ret) Rc sh mi mr As (fun r sh' mi' mr' => sh' = sh ∧ Q2 r mi' mr')) (hst : st = As.reverse ++ st') (hn : As.length = nP) (hcat : (st'.map acat).sum ≤ 8)
    (hRm : Rc.frames + 1 ≤ μ.2.2.2.1.frames ∧ 8 + (nL + 11) + Rc.locals ≤ μ.2.2.2.1.locals) (hR0 : Rc.cells = 0 ∧ Rc.slots = 0) (hkn : k ≤ μ.2.2.2.1.cells ∧ n ≤ μ.2.2.2.1.slots)
    (kk : ∀ r mi' mr', Q2 r mi' mr' → V μ Q k n sh mi' mr' ls (r.toList ++ st') (pc + 3)) : V μ Q k n sh mi mr ls st pc := by
  intro p l e s m args below meth c D A ρ dA H locs la Qm hC hR hS hL hH
  subst hst
  have hM := hc l D ρ dA H.size
  rw [hR0.1, hR0.2] at hM
  have ht := hC.2.2.2.2.1
  have hpV : PreS s H (Pre D ρ dA (va_A (wld ρ dA sh mi mr) H.size) H.size sh mi mr As) (As.map (rv ρ)) := ⟨Pre.blind, pre_at As hC hR hS⟩
  have hstk : (F0 m pc la ((As.reverse ++ st').map (rv ρ))).stack = (As.map (rv ρ)).reverse ++ st'.map (rv ρ) := by simp
  have hG := good_WS y b nL ret hk.1
  have hroom : 2 * (F0 m pc la ((As.reverse ++ st').map (rv ρ))).monitorRoom + ((st'.map (rv ρ)).map fun v => v.category).sum ≤ 8 := lv_room (by rw [cat_sum]; exact hcat)
  have hlen : (As.map (rv ρ)).length = nP := by simp [hn]
  refine V_behind (Q2 := Q2) (a := (As.map (rv ρ)).toArray) hC hR hS hL hH ?_ kk
  rcases hm with hm | ⟨host, hm⟩
  · exact va_runS ⟨hC.1, hC.2.1, hC.2.2.1, hC.2.2.2.1, ht⟩ hM ⟨callB_of nP ht hG rfl hR0.1 hR0.2 (ht _ hk.2.1) (ht _ hm) ⟨hk.2.2.2.1, hk.2.2.2.2.1, hk.2.2.2.2.2⟩ hRm, ht _ hv⟩ hpV rfl hlen hL.1 hstk hroom hd hkn
  · exact va_runSN ⟨hC.1, hC.2.1, hC.2.2.1, hC.2.2.2.1, ht⟩ hM ⟨va_cnB nP ht hG rfl hR0.1 hR0.2 (hC.2.2.2.2.2.2.2.1.1 _ hm) (ht _ hk.2.1) ⟨hk.2.2.2.1, hk.2.2.2.2.1, hk.2.2.2.2.2⟩ hRm, ht _ hv, trivial⟩ hpV rfl hlen hL.1 hstk hroom hd hkn
/-- every reference of the list is of the world, or beyond all worlds -/
def okn (z : Nat) : List AV → Prop
  | [] => True
  | .inr (.inr (some k)) :: t => (k < z ∨ 1000 ≤ k) ∧ okn z t
  | _ :: t => okn z t
theorem okn_mem {z : Nat} : ∀ {st : List AV}, okn z st → ∀ k, vr k ∈ st → k < z ∨ 1000 ≤ k
  | [], _, k, h => by simp at h
  | v :: t, ho, k, h => by
    rcases List.mem_cons.mp h with e | h
    · subst e; exact ho.1
    · refine okn_mem (st := t) ?_ k h
      rcases v with a | a | r
      · exact ho
      · exact ho
      · cases r with
        | none => exact ho
        | some j => exact ho.2
theorem rv_same {ρ ρ' : Nat → Nat} {v : AV} (h : ∀ k, v = vr k → ρ' k = ρ k) : rv ρ' v = rv ρ v := by
  rcases v with a | a | r
  · rfl
  · rfl
  · cases r with
    | none => rfl
    | some k => simp [rv, h k rfl]
/-- a call of a constructor -/
theorem V_callI {Q2 : PQ} {a : Nat} (hd : decode μ.2.1 pc = .ok (.invokespecial idx, 3)) (hm : ML μ.1 idx y) (hk : KM y b nL none nP) (hv : KI y) (hc : Ct y (wsM y b nL none) Rc sh mi mr (vr a :: As) Q2) (hst : st = As.reverse ++ vr a :: st') (hn : As.length = nP) (hcat : (st'.map acat).sum ≤ 8) (ho : okn sh.length st' ∧ okn sh.length (ls.filterMap id))
    (hRm : Rc.frames + 1 ≤ μ.2.2.2.1.frames ∧ 8 + (nL + 11) + Rc.locals ≤ μ.2.2.2.1.locals) (hkn : k + Rc.cells ≤ μ.2.2.2.1.cells ∧ n + Rc.slots ≤ μ.2.2.2.1.slots)
    (kk : ∀ r sh' mi' mr', Q2 r sh' mi' mr' → V μ Q (k + Rc.cells) (n + Rc.slots) sh' mi' mr' ls (r.toList ++ st') (pc + 3)) : V μ Q k n sh mi mr ls st pc := by
  intro p l e s m args below meth c D A ρ dA H locs la Qm hC hR hS hL hH
  subst hst
  have hM := hc l D ρ dA H.size
  have ht := hC.2.2.2.2.1
  have hpV : PreS s H (Pre D ρ dA (va_A (wld ρ dA sh mi mr) H.size) H.size sh mi mr (vr a :: As)) (.ref (ρ a) :: As.map (rv ρ)) := ⟨Pre.blind, pre_at (vr a :: As) hC hR hS⟩
  have hstk : (F0 m pc la ((As.reverse ++ vr a :: st').map (rv ρ))).stack = (As.map (rv ρ)).reverse ++ .ref (ρ a) :: st'.map (rv ρ) := by
    simp [rv, va_rf]
  have hG := good_WS y b nL none hk.1
  have hroom : 2 * (F0 m pc la ((As.reverse ++ vr a :: st').map (rv ρ))).monitorRoom + ((st'.map (rv ρ)).map fun v => v.category).sum ≤ 8 := lv_room (by rw [cat_sum]; exact hcat)
  have hlen : (As.map (rv ρ)).length = nP := by simp [hn]
  have hsub := sub_A hR hS hC.2.2.2.2.2.2.1
  have hrun : va_Run p l e μ.2.2.2.1 s m args below meth c H locs k n Rc.cells Rc.slots (F0 m pc la ((As.reverse ++ vr a :: st').map (rv ρ))) (st'.map (rv ρ)) (PostC D ρ dA (va_A (wld ρ dA sh mi mr) H.size) sh.length Q2 (Value.ref (ρ a) :: As.map (rv ρ)).toArray) (va_A (wld ρ dA sh mi mr) H.size) := by
    rcases hm with hm | ⟨host, hm⟩
    · exact va_runI ⟨hC.1, hC.2.1, hC.2.2.1, hC.2.2.2.1, ht⟩ hM ⟨callB_of nP ht hG rfl rfl rfl (ht _ hk.2.1) (ht _ hm) ⟨hk.2.2.2.1, hk.2.2.2.2.1, hk.2.2.2.2.2⟩ hRm, hv.2, ht _ hv.1⟩ hpV rfl hlen hL.1 hstk hroom hd hkn
    · exact va_runIN ⟨hC.1, hC.2.1, hC.2.2.1, hC.2.2.2.1, ht⟩ hM ⟨va_cnB nP ht hG rfl rfl rfl (hC.2.2.2.2.2.2.2.1.1 _ hm) (ht _ hk.2.1) ⟨hk.2.2.2.1, hk.2.2.2.2.1, hk.2.2.2.2.2⟩ hRm, hv.2, ht _ hv.1⟩ hpV rfl hlen hL.1 hstk hroom hd hkn
  refine va_callG hrun hS hsub hsub (fun r sh' mi' mr' ρ' dA' t H1 locs1 ht' hvm hq hext hle hRt hS1 => ?_)
  have hbig : ∀ q : Nat, 1000 ≤ q → ρ' q = ρ q := fun q hq => (hext q (Or.inr (Nat.le_trans hRt.2.2.2.2.1 hq))).1
  have hsame : ∀ q : Nat, q < sh.length ∨ 1000 ≤ q → ρ' q = ρ q := fun q hq => by
    rcases hq with hq | hq
    · exact (hext q (Or.inl hq)).1
    · exact hbig q hq
  have hL1 : lok ρ' la μ.2.2.1 ls := ⟨hL.1, hL.2.1, fun i v hi => by
    rw [rv_same (fun k hk => hsame k (okn_mem ho.2 k (by subst hk; exact List.mem_filterMap.mpr ⟨some (vr k), List.mem_of_getElem? hi, rfl⟩)))]
    exact hL.2.2 i v hi⟩
  have hgo := kk r sh' mi' mr' hq p l e s m args below meth c D A ρ' dA' H1 locs1 la Qm (hC.ext hbig) ((hRt.moved hvm.symm).weaken hsub) hS1 hL1 (hH.grow hle hext)
  have est : st'.map (rv ρ') = st'.map (rv ρ) := List.map_congr_left fun v hv' => rv_same (fun k hk => hsame k (okn_mem ho.1 k (hk ▸ hv')))
  rw [List.map_append, est] at hgo
  cases r with
  | none => exact hgo
  | some v => exact hgo
end VCC
/-! ===== a contract by its walk ===== -/
def eL : List AV → List (Option AV)
  | [] => []
  | .inr (.inl a) :: t => some (vl a) :: none :: eL t
  | v :: t => some v :: eL t
theorem eL_args {ρ : Nat → Nat} : ∀ (As : List AV) (i0 i : Nat) (v : AV), (eL As)[i]? = some (some v) → (i0 + i, rv ρ v) ∈ lv_args i0 (As.map (rv ρ))
  | [], i0, i, v, h => by simp [eL] at h
  | .inl a :: t, i0, 0, v, h => by
    have : (.inl a : AV) = v := by simpa [eL] using h
    subst this
    exact List.mem_cons_self
  | .inl a :: t, i0, i + 1, v, h => by
    have h1 := eL_args (ρ := ρ) t (i0 + 1) i v (by simpa [eL] using h)
    refine List.mem_cons_of_mem _ ?_
    have e : i0 + (i + 1) = i0 + 1 + i := by omega
    rw [e]
    exact h1
  | .inr (.inl a) :: t, i0, 0, v, h => by
    have : (.inr (.inl a) : AV) = v := by simpa [eL] using h
    subst this
    exact List.mem_cons_self
  | .inr (.inl a) :: t, i0, 1, v, h => by simp [eL] at h
  | .inr (.inl a) :: t, i0, i + 2, v, h => by
    have h1 := eL_args (ρ := ρ) t (i0 + 2) i v (by simpa [eL] using h)
    refine List.mem_cons_of_mem _ ?_
    have e : i0 + (i + 2) = i0 + 2 + i := by omega
    rw [e]
    exact h1
  | .inr (.inr r) :: t, i0, 0, v, h => by
    have : (.inr (.inr r) : AV) = v := by simpa [eL] using h
    subst this
    exact List.mem_cons_self
  | .inr (.inr r) :: t, i0, i + 1, v, h => by
    have h1 := eL_args (ρ := ρ) t (i0 + 1) i v (by simpa [eL] using h)
    refine List.mem_cons_of_mem _ ?_
    have e : i0 + (i + 1) = i0 + 1 + i := by omega
    rw [e]
    have ec : (rv ρ (.inr (.inr r))).category = 1 := acat_eq ρ _
    rw [ec]
    exact h1
theorem lg_cons (ρ : Nat → Nat) (v : AV) (t : List AV) : (lg_sl ((v :: t).map (rv ρ))).length = acat v + (lg_sl (t.map (rv ρ))).length := by
  have e : lg_sl ((v :: t).map (rv ρ)) = (if (rv ρ v).category = 2 then [.val (rv ρ v), .second] else [.val (rv ρ v)]) ++ lg_sl (t.map (rv ρ)) := rfl
  rw [e, List.length_append, acat_eq]
  rcases v with a | a | r <;> rfl
theorem eL_len (ρ : Nat → Nat) : ∀ As : List AV, (lg_sl (As.map (rv ρ))).length = (eL As).length
  | [] => rfl
  | .inl a :: t => by
    rw [lg_cons, eL_len ρ t]
    simp only [eL, acat, List.length_cons]
    omega
  | .inr (.inl a) :: t => by
    rw [lg_cons, eL_len ρ t]
    simp only [eL, acat, List.length_cons]
    omega
  | .inr (.inr r) :: t => by
    rw [lg_cons, eL_len ρ t]
    simp only [eL, acat, List.length_cons]
    omega
theorem Ct.ofV {y : MethodName} {b : ByteArray} {nL nP : Nat} {ret : Option FieldType} {R : Room} {ini : Bool} {sh : ShT} {mi : MI} {mr : MR} {As : List AV} {Q : PQ} (ls : List (Option AV)) (hk : KM y b nL ret nP) (hini : ini = true → y.name = "<init>") (hls : eL As ++ List.replicate (nL - (eL As).length) none = ls) (hlen : (eL As).length ≤ nL)
    (body : V (y.cls, b, nL, R, ini, none, ret) Q 0 0 sh mi mr ls [] 0) : Ct y (wsM y b nL ret) R sh mi mr As Q := by
  intro l D ρ dA sz
  refine Met.ofW (cc := b) (maxL := nL) (ret := ret) hk.2.2.1 rfl ?_
  intro p e s m args below meth c s₁ B hml hP
  obtain ⟨rfl, hsz, hR, hSx⟩ := hP
  have hts : ∀ w ∈ wsM y b nL ret, w.before (As.map (rv ρ)).toArray s = true := atoms_spec (ws := wsM y b nL ret) B.pre
  have hown : s.vm.findClass y.cls = some m.cls := findClass_of_methodNamed B.named
  have hlk := B.notSynchronized
  have hle : (lg_sl (As.map (rv ρ))).length ≤ nL := by rw [eL_len]; exact hlen
  have hl := lv_entry (As.map (rv ρ)) (n := nL) hle
  rw [lg_entry_eq]
  subst hsz
  subst hls
  have hL : lok ρ ((lg_sl (As.map (rv ρ)) ++ List.replicate (nL - (lg_sl (As.map (rv ρ))).length) Slot.unset).toArray) nL (eL As ++ List.replicate (nL - (eL As).length) none) := by
    refine ⟨hl.1, hl.2.1, fun i v hi => ?_⟩
    by_cases hlt : i < (eL As).length
    · rw [List.getElem?_append_left hlt] at hi
      have := eL_args (ρ := ρ) As 0 i v hi
      rw [Nat.zero_add] at this
      exact hl.2.2 _ this
    · rw [List.getElem?_append_right (by omega), List.getElem?_replicate] at hi
      split at hi <;> cases hi
  refine body p l e s m _ below meth c D _ ρ dA s.heap [] _ _ ⟨B.exec, B.bytes, hml, hown, fun w hw => hts w (List.mem_cons_of_mem _ hw), fun h => ?_, fun q hq => Or.inr hq, hSx, fun L xs h => by cases h⟩ hR va_S.rf hL ?_
  · rw [(name_of_methodNamed B.named B.method).1]
    exact hini h
  · intro r sh' mi' mr' ρ' dA' H locs k n pc la hext hle' hq hR' hS' hk' hn' hret
    refine W.widen hk' hn' ?_
    have hpost : ∀ t : State, t.heap = H → s.WarmedH t.vm → PostC D ρ dA (va_A (wld ρ dA sh mi mr) s.heap.size) sh.length Q (As.map (rv ρ)).toArray s (.returned (r.map (rv ρ'))) t := fun t ht hW =>
      ⟨⟨r, sh', mi', mr', ρ', dA', rfl, hq, hext, hle', by rw [ht]; exact hR'.moved hW.alike⟩, hS'.F ht⟩
    rcases hret with ⟨rfl, hr, hd⟩ | ⟨a, rfl, hr, hd⟩ | ⟨a, rfl, hr, h01, hd⟩ | ⟨a, rfl, hr, hd⟩ | ⟨a, cn, rfl, hr, hd⟩
    · exact W.vret B.exec B.bytes (B.returns.trans hr) hpost hS'.2.2 hd
    · exact W.iret B.exec B.bytes (B.returns.trans hr) hpost hS'.2.2 hd
    · refine W.zret B.exec B.bytes (B.returns.trans hr) ?_ hpost hS'.2.2 hd
      rcases h01 with rfl | rfl <;> rfl
    · exact W.lret B.exec B.bytes (B.returns.trans hr) hpost hS'.2.2 hd
    · exact W.aret B.exec B.bytes (B.returns.trans hr) (Or.inl ⟨cn, rfl⟩) (Or.inr ⟨_, rfl⟩) hpost hS'.2.2 hd
