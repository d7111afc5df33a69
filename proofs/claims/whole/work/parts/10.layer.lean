/-! ===== plain numbers: values, memory, worlds ===== -/
abbrev AV : Type := Int ⊕ (Int ⊕ Option Nat)
abbrev vi (a : Int) : AV := Sum.inl a
abbrev vl (a : Int) : AV := Sum.inr (Sum.inl a)
abbrev vr (k : Nat) : AV := Sum.inr (Sum.inr (some k))
/-- the shape: an object of a class, or an array of a kind (0 int, 1 long, 2 char, 3 references to states) and a length -/
abbrev ShT : Type := List (Nat ⊕ (Nat × Nat))
abbrev MI : Type := Nat → Int → Int
abbrev MR : Type := Nat → Int → Option Nat
def rv (ρ : Nat → Nat) : AV → Value
  | .inl a => .int (Int32.ofInt a)
  | .inr (.inl a) => .long (Int64.ofInt a)
  | .inr (.inr r) => va_rf (r.map ρ)
def up1 {α : Type} (f : Int → α) (k : Int) (v : α) : Int → α := fun y => if y = k then v else f y
def up2 {α : Type} (f : Nat → Int → α) (a : Nat) (k : Int) (v : α) : Nat → Int → α := fun x => if x = a then up1 (f a) k v else f x
theorem up1_s {α : Type} (f : Int → α) (k : Int) (v : α) : up1 f k v k = v := by simp [up1]
theorem up1_n {α : Type} (f : Int → α) {k y : Int} (v : α) (h : y ≠ k) : up1 f k v y = f y := by simp [up1, h]
theorem up2_s {α : Type} (f : Nat → Int → α) (a : Nat) (k : Int) (v : α) : up2 f a k v a = up1 (f a) k v := by simp [up2]
theorem up2_n {α : Type} (f : Nat → Int → α) {a x : Nat} (k : Int) (v : α) (h : x ≠ a) : up2 f a k v x = f x := by simp [up2, h]
theorem up2_ss {α : Type} (f : Nat → Int → α) (a : Nat) (k : Int) (v : α) : up2 f a k v a k = v := by simp [up2, up1]
theorem up2_sn {α : Type} (f : Nat → Int → α) (a : Nat) {k y : Int} (v : α) (h : y ≠ k) : up2 f a k v a y = f a y := by simp [up2, up1, h]
def zm {α : Type} (f : Nat → Int → α) (z : Nat) (v : α) : Nat → Int → α := fun x => if x = z then fun _ => v else f x
theorem zm_s {α : Type} (f : Nat → Int → α) (z : Nat) (v : α) : zm f z v z = fun _ => v := by simp [zm]
theorem zm_n {α : Type} (f : Nat → Int → α) {z x : Nat} (v : α) (h : x ≠ z) : zm f z v x = f x := by simp [zm, h]
def fl : Nat → List Bool
  | 0 => [true, true, true, false]
  | 1 => [true, true, true, false, false, false]
  | 2 => [true]
  | 3 => [true, false]
  | 4 => [true, true, true, false]
  | 5 => [true, false]
  | 6 => [true, false, false, false, false]
  | 7 => [true, false]
  | 8 => [true, true, true, true, false]
  | 9 => [true, true, true]
  | 10 => [true, true, true, true, true, true, true, true, true, true]
  | 11 => [true, true, true, false, true, false, false, false, false, false, true, false, true, false, true, true, true, false, true, true, false, false, true, false, false]
  | _ => []
def tyOf : Nat → FieldType
  | 0 => .int
  | 1 => .long
  | 2 => .char
  | _ => .object "DiagonalTexts$State"
def fls (ρ : Nat → Nat) (fi : Int → Int) (fr : Int → Option Nat) (ci : Nat) : List Value := (fl ci).mapIdx fun j b => if b = true then va_rf ((fr j).map ρ) else .int (Int32.ofInt (fi j))
def cont (ρ : Nat → Nat) (fi : Int → Int) (fr : Int → Option Nat) : Nat → ((Nat → Int32) ⊕ (Nat → Int64) ⊕ (Nat → UInt32) ⊕ (Nat → UInt64) ⊕ (Nat → Option Nat))
  | 0 => .inl fun j => Int32.ofInt (fi j)
  | 1 => .inr (.inl fun j => Int64.ofInt (fi j))
  | 2 => .inl fun j => Int32.ofInt (fi j)
  | _ => .inr (.inr (.inr (.inr fun j => (fr j).map ρ)))
def cel (ρ : Nat → Nat) (cA : ClassId) (fi : Int → Int) (fr : Int → Option Nat) : (Nat ⊕ (Nat × Nat)) → va_E
  | .inl ci => .inr (ci, fls ρ fi fr ci)
  | .inr (t, n) => .inl (cA, n, cont ρ fi fr t)
def wld (ρ : Nat → Nat) (dA : Nat → ClassId) (sh : ShT) (mi : MI) (mr : MR) : va_W := sh.mapIdx fun k x => (ρ k, cel ρ (dA k) (mi k) (mr k) x)
theorem wld_len {ρ dA sh mi mr} : (wld ρ dA sh mi mr).length = sh.length := by simp [wld]
theorem wld_get {ρ dA sh mi mr k x} (h : sh[k]? = some x) : (wld ρ dA sh mi mr)[k]? = some (ρ k, cel ρ (dA k) (mi k) (mr k) x) := by
  simp [wld, List.getElem?_mapIdx, h]
theorem wld_inv {ρ dA sh mi mr} {k : Nat} {q : Nat × va_E} (h : (wld ρ dA sh mi mr)[k]? = some q) : ∃ x, sh[k]? = some x ∧ q = (ρ k, cel ρ (dA k) (mi k) (mr k) x) := by
  simp only [wld, List.getElem?_mapIdx] at h
  cases hx : sh[k]? with
  | none => rw [hx] at h; cases h
  | some x => rw [hx] at h; exact ⟨x, rfl, (Option.some.inj h).symm⟩
theorem lt_of_get {α : Type} {l : List α} {k : Nat} {x : α} (h : l[k]? = some x) : k < l.length := (List.getElem?_eq_some_iff.mp h).1
/-- one row of a world written anew -/
theorem wld_set {ρ dA sh mi mr mi' mr'} {a : Nat} {x : Nat ⊕ (Nat × Nat)} {e : va_E} (hs : sh[a]? = some x) (he : e = cel ρ (dA a) (mi' a) (mr' a) x) (hi : ∀ k, k ≠ a → mi' k = mi k) (hr : ∀ k, k ≠ a → mr' k = mr k) :
    (wld ρ dA sh mi mr).set a (ρ a, e) = wld ρ dA sh mi' mr' := by
  apply List.ext_getElem?
  intro k
  by_cases hk : k = a
  · subst hk
    rw [List.getElem?_set_self (by rw [wld_len]; exact lt_of_get hs), wld_get hs, he]
  · rw [List.getElem?_set_ne (Ne.symm hk)]
    simp only [wld, List.getElem?_mapIdx, hi k hk, hr k hk]
theorem fls_len {ρ fi fr ci} : (fls ρ fi fr ci).length = (fl ci).length := by simp [fls]
theorem fls_geti {ρ fi fr ci} {k : Nat} (h : (fl ci)[k]? = some false) : (fls ρ fi fr ci)[k]? = some (.int (Int32.ofInt (fi k))) := by
  simp [fls, List.getElem?_mapIdx, h]
theorem fls_getr {ρ fi fr ci} {k : Nat} (h : (fl ci)[k]? = some true) : (fls ρ fi fr ci)[k]? = some (va_rf ((fr k).map ρ)) := by
  simp [fls, List.getElem?_mapIdx, h]
theorem fls_seti {ρ fi fr ci} {k : Nat} (v : Int) (h : (fl ci)[k]? = some false) : (fls ρ fi fr ci).set k (.int (Int32.ofInt v)) = fls ρ (up1 fi k v) fr ci := by
  apply List.ext_getElem?
  intro j
  by_cases hj : j = k
  · subst hj
    rw [List.getElem?_set_self (by rw [fls_len]; exact lt_of_get h), fls_geti h, up1_s]
  · rw [List.getElem?_set_ne (Ne.symm hj)]
    have e : up1 fi k v j = fi j := up1_n fi v (by omega)
    simp only [fls, List.getElem?_mapIdx]
    cases hx : (fl ci)[j]? with
    | none => rfl
    | some b => simp [e]
theorem fls_setr {ρ fi fr ci} {k : Nat} (v : Option Nat) (h : (fl ci)[k]? = some true) : (fls ρ fi fr ci).set k (va_rf (v.map ρ)) = fls ρ fi (up1 fr k v) ci := by
  apply List.ext_getElem?
  intro j
  by_cases hj : j = k
  · subst hj
    rw [List.getElem?_set_self (by rw [fls_len]; exact lt_of_get h), fls_getr h, up1_s]
  · rw [List.getElem?_set_ne (Ne.symm hj)]
    have e : up1 fr k v j = fr j := up1_n fr v (by omega)
    simp only [fls, List.getElem?_mapIdx]
    cases hx : (fl ci)[j]? with
    | none => rfl
    | some b => simp [e]
/-! ===== what the heap holds ===== -/
def KK (D : va_G) (s : State) : Prop := ∀ (c : Nat) (q : vw_C), vwCl[c]? = some q → u_Kn s q.1 q.2.1 q.2.2 (D.1 c) (D.2 c)
def Rep (D : va_G) (A : Nat → Prop) (ρ : Nat → Nat) (dA : Nat → ClassId) (s : State) (sh : ShT) (mi : MI) (mr : MR) (H : Heap) : Prop :=
  va_P D vwCl (wld ρ dA sh mi mr) H ∧ va_D A (wld ρ dA sh mi mr) ∧ (∀ k t n, sh[k]? = some (.inr (t, n)) → ArrOfT s (dA k) (tyOf t) ∧ va_RA s (dA k) (tyOf t)) ∧ KK D s ∧ sh.length ≤ 1000 ∧ ∀ (a : Nat) (j : Int) (k : Nat), a < sh.length → mr a j = some k → k < sh.length
theorem KK.moved {D : va_G} {u U : State} (hvm : u.vm.Alike U.vm) (h : KK D u) : KK D U := fun c q hq => u_Kn_moved hvm (h c q hq)
theorem Rep.moved {D A ρ dA u U sh mi mr H} (hvm : u.vm.Alike U.vm) (h : Rep D A ρ dA u sh mi mr H) : Rep D A ρ dA U sh mi mr H :=
  ⟨h.1, h.2.1, fun k t n hk => ⟨arrOfT_moved hvm (h.2.2.1 k t n hk).1, (h.2.2.1 k t n hk).2.moved hvm⟩, h.2.2.2.1.moved hvm, h.2.2.2.2⟩
/-- a set of addresses by another -/
theorem Rep.weaken {D A B ρ dA s sh mi mr H} (h : Rep D A ρ dA s sh mi mr H) (hAB : ∀ q, A q → B q) : Rep D B ρ dA s sh mi mr H :=
  ⟨h.1, h.2.1.weaken (fun _ q _ hq => hAB q.1 hq), h.2.2⟩
theorem Rep.tys {D A ρ dA s sh mi mr H} (h : Rep D A ρ dA s sh mi mr H) {k t n : Nat} (hk : sh[k]? = some (.inr (t, n))) : va_K D vwCl [(dA k, tyOf t)] s := by
  refine ⟨h.2.2.2.1, fun j q hj => ?_⟩
  have hz : j < 1 := (List.getElem?_eq_some_iff.mp hj).1
  rw [show j = 0 by omega] at hj
  cases hj
  exact h.2.2.1 k t n hk
theorem Rep.ks {D A ρ dA s sh mi mr H} (h : Rep D A ρ dA s sh mi mr H) : va_K D vwCl [] s := ⟨h.2.2.2.1, fun j q hj => by simp at hj⟩
/-- the same shape, another memory -/
theorem Rep.store {D A ρ dA s sh mi mr mi' mr' H H1} (h : Rep D A ρ dA s sh mi mr H) (hP : va_P D vwCl (wld ρ dA sh mi' mr') H1) (hD : va_D A (wld ρ dA sh mi' mr')) (hr : ∀ (a : Nat) (j : Int) (k : Nat), a < sh.length → mr' a j = some k → k < sh.length) : Rep D A ρ dA s sh mi' mr' H1 :=
  ⟨hP, hD, h.2.2.1, h.2.2.2.1, h.2.2.2.2.1, hr⟩
/-! ===== statics ===== -/
def snm : Nat → String
  | 0 => "LEAST_VALUES"
  | 1 => "MOST_VALUES"
  | _ => "FIRST_VALUES"
def svF : Nat → Int → Int
  | 0, i => if i = 2 then 1 else 0
  | 1, i => if i = 0 then 56 else if i = 1 then 5 else 9
  | _, i => if i = 0 then 56 else if i = 1 then 1 else 2
def Sx (A : Nat → Prop) (ρ : Nat → Nat) (U : State) : Prop := (∀ w ∈ NW, va_Nw w U) ∧ va_AO "DiagonalTexts$State" U ∧
  ∀ j : Nat, j < 3 → va_Z "DiagonalTexts" (snm j) "[I" (.ref (ρ (1000 + j))) A U U.heap ∧ va_T .int (ρ (1000 + j)) 3 (fun i => .int (Int32.ofInt (svF j i))) A U U.heap
/-! ===== a method's fixed words: class, code, locals, room, constructor, script, return type ===== -/
abbrev Mt : Type := String × ByteArray × Nat × Room × Bool × Option (Nat × (Nat → Int)) × Option FieldType
def Cx (μ : Mt) (p : Program) (s : State) (m : MethodId) (args : Array Value) (meth : Method) (c : Code) (A : Nat → Prop) (ρ : Nat → Nat) : Prop :=
  p.tables.exec = Jvm.exec ∧ c.code = μ.2.1 ∧ c.maxLocals = μ.2.2.1 ∧ s.vm.findClass μ.1 = some m.cls ∧ (∀ w ∈ WS, w.before args s = true) ∧ (μ.2.2.2.2.1 = true → meth.name = "<init>") ∧ (∀ q : Nat, s.heap.size ≤ q → A q) ∧ Sx A ρ s ∧
  ∀ L xs, μ.2.2.2.2.2.1 = some (L, xs) → va_X (ρ 1003) L (fun j => Int32.ofInt (xs j)) s s.heap ∧ ρ 1003 < s.heap.size ∧ ¬ A (ρ 1003)
def RetI (ret : Option FieldType) (cc : ByteArray) (pc : Nat) (r : Option AV) : Prop :=
  (r = none ∧ ret = none ∧ decode cc pc = .ok (.return_, 1)) ∨ (∃ a, r = some (vi a) ∧ ret = some .int ∧ decode cc pc = .ok (.ireturn, 1)) ∨
  (∃ a, r = some (vi a) ∧ ret = some .boolean ∧ (a = 0 ∨ a = 1) ∧ decode cc pc = .ok (.ireturn, 1)) ∨ (∃ a, r = some (vl a) ∧ ret = some .long ∧ decode cc pc = .ok (.lreturn, 1)) ∨
  (∃ k c, r = some (vr k) ∧ ret = some (.object c) ∧ decode cc pc = .ok (.areturn, 1))
def ext (n n' : Nat) (ρ : Nat → Nat) (dA : Nat → ClassId) (ρ' : Nat → Nat) (dA' : Nat → ClassId) : Prop := ∀ a, a < n ∨ n' ≤ a → ρ' a = ρ a ∧ dA' a = dA a
theorem ext.rf {n n' ρ dA} : ext n n' ρ dA ρ dA := fun _ _ => ⟨rfl, rfl⟩
theorem ext.tr {n n1 n' ρ dA ρ1 dA1 ρ' dA'} (h : ext n n1 ρ dA ρ1 dA1) (h' : ext n1 n' ρ1 dA1 ρ' dA') (h1 : n ≤ n1) (h2 : n1 ≤ n') : ext n n' ρ dA ρ' dA' := by
  intro a ha
  have e1 := h a (by omega)
  have e2 := h' a (by omega)
  exact ⟨e2.1.trans e1.1, e2.2.trans e1.2⟩
abbrev PQ : Type := Option AV → ShT → MI → MR → Prop
def Hd (μ : Mt) (Q : PQ) (p : Program) (l : Launch) (e : Env) (s : State) (m : MethodId) (args : Array Value) (below : List Frame) (meth : Method) (c : Code) (D : va_G) (A : Nat → Prop) (ρ : Nat → Nat) (dA : Nat → ClassId) (n0 : Nat) (Qm : State → Prop) : Prop :=
  ∀ (r : Option AV) (sh : ShT) (mi : MI) (mr : MR) (ρ' : Nat → Nat) (dA' : Nat → ClassId) (H : Heap) (locs : List Loc) (k n pc : Nat) (la : Array Slot), ext n0 sh.length ρ dA ρ' dA' → n0 ≤ sh.length → Q r sh mi mr → Rep D A ρ' dA' s sh mi mr H → va_S A s.heap H locs → k ≤ μ.2.2.2.1.cells → n ≤ μ.2.2.2.1.slots → RetI μ.2.2.2.2.2.2 μ.2.1 pc r →
    W p l e μ.2.2.2.1 s m args below meth c H locs k n Qm (F0 m pc la (r.map (rv ρ')).toList)
def lok (ρ : Nat → Nat) (la : Array Slot) (nL : Nat) (ls : List (Option AV)) : Prop := la.size = nL ∧ lv_wf la ∧ ∀ (i : Nat) (v : AV), ls[i]? = some (some v) → la[i]? = some (.val (rv ρ v))
/-- from here, with this memory, these locals and this stack, the method comes to its end with Q -/
def V (μ : Mt) (Q : PQ) (k n : Nat) (sh : ShT) (mi : MI) (mr : MR) (ls : List (Option AV)) (st : List AV) (pc : Nat) : Prop :=
  ∀ (p : Program) (l : Launch) (e : Env) (s : State) (m : MethodId) (args : Array Value) (below : List Frame) (meth : Method) (c : Code) (D : va_G) (A : Nat → Prop) (ρ : Nat → Nat) (dA : Nat → ClassId) (H : Heap) (locs : List Loc) (la : Array Slot) (Qm : State → Prop),
    Cx μ p s m args meth c A ρ → Rep D A ρ dA s sh mi mr H → va_S A s.heap H locs → lok ρ la μ.2.2.1 ls → Hd μ Q p l e s m args below meth c D A ρ dA sh.length Qm →
    W p l e μ.2.2.2.1 s m args below meth c H locs k n Qm (F0 m pc la (st.map (rv ρ)))
abbrev rng (a : Int) : Prop := -2147483648 ≤ a ∧ a < 2147483648
abbrev lrng (a : Int) : Prop := -9223372036854775808 ≤ a ∧ a < 9223372036854775808
theorem rng_toInt {a : Int} (h : rng a) : (Int32.ofInt a).toInt = a := Int32.toInt_ofInt_of_le (by omega) (by omega)
theorem lrng_toInt {a : Int} (h : lrng a) : (Int64.ofInt a).toInt = a := Int64.toInt_ofInt_of_le (by omega) (by omega)
theorem i_lt {a b : Int} (ha : rng a) (hb : rng b) : Int32.ofInt a < Int32.ofInt b ↔ a < b := by rw [Int32.lt_iff_toInt_lt, rng_toInt ha, rng_toInt hb]
theorem i_le {a b : Int} (ha : rng a) (hb : rng b) : Int32.ofInt a ≤ Int32.ofInt b ↔ a ≤ b := by rw [Int32.le_iff_toInt_le, rng_toInt ha, rng_toInt hb]
theorem i_eq {a b : Int} (ha : rng a) (hb : rng b) : Int32.ofInt a = Int32.ofInt b ↔ a = b := by rw [← Int32.toInt_inj, rng_toInt ha, rng_toInt hb]
theorem l_lt {a b : Int} (ha : lrng a) (hb : lrng b) : Int64.ofInt a < Int64.ofInt b ↔ a < b := by rw [Int64.lt_iff_toInt_lt, lrng_toInt ha, lrng_toInt hb]
theorem l_eq {a b : Int} (ha : lrng a) (hb : lrng b) : Int64.ofInt a = Int64.ofInt b ↔ a = b := by rw [← Int64.toInt_inj, lrng_toInt ha, lrng_toInt hb]
theorem i_in {a : Int} {n : Nat} (h : 0 ≤ a ∧ a < n) (hn : n ≤ 2147483648) : vp_in (Int32.ofInt a) n ∧ (Int32.ofInt a).toNatClampNeg = a.toNat := by
  have hr : rng a := ⟨by omega, by omega⟩
  refine ⟨vp_in_iff.mpr (by rw [rng_toInt hr]; exact h), Int32.toNatClampNeg_ofInt_of_le (by omega) (by omega)⟩
theorem rng0 : rng 0 := by decide
