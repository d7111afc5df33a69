section VR
variable {μ : Mt} {Q : PQ} {k n : Nat} {sh : ShT} {mi : MI} {mr : MR} {ls : List (Option AV)} {st : List AV} {pc : Nat}
theorem V_iconst {x : Int} (hd : decode μ.2.1 pc = .ok (.iconst x, 1)) (kk : V μ Q k n sh mi mr ls (vi x :: st) (pc + 1)) : V μ Q k n sh mi mr ls (st) (pc) := by
  intro p l e s m args below meth c D A ρ dA H locs la Qm hC hR hS hL hH
  exact lv_iconst hC.1 hC.2.1 hd rfl (kk p l e s m args below meth c D A ρ dA H locs la Qm hC hR hS hL hH)
theorem V_bipush {x : Int} (hd : decode μ.2.1 pc = .ok (.bipush x, 2)) (hv : (Int8.ofInt x).toInt32 = Int32.ofInt x) (kk : V μ Q k n sh mi mr ls (vi x :: st) (pc + 2)) : V μ Q k n sh mi mr ls (st) (pc) := by
  intro p l e s m args below meth c D A ρ dA H locs la Qm hC hR hS hL hH
  exact lv_bipush hC.1 hC.2.1 hd hv (kk p l e s m args below meth c D A ρ dA H locs la Qm hC hR hS hL hH)
theorem V_sipush {x : Int} (hd : decode μ.2.1 pc = .ok (.sipush x, 3)) (hv : (Int16.ofInt x).toInt32 = Int32.ofInt x) (kk : V μ Q k n sh mi mr ls (vi x :: st) (pc + 3)) : V μ Q k n sh mi mr ls (st) (pc) := by
  intro p l e s m args below meth c D A ρ dA H locs la Qm hC hR hS hL hH
  exact lv_sipush hC.1 hC.2.1 hd hv (kk p l e s m args below meth c D A ρ dA H locs la Qm hC hR hS hL hH)
theorem V_lconst {x : Fin 2} (y : Int) (hd : decode μ.2.1 pc = .ok (.lconst x, 1)) (hv : Int64.ofNat (x : Nat) = Int64.ofInt y) (kk : V μ Q k n sh mi mr ls (vl y :: st) (pc + 1)) : V μ Q k n sh mi mr ls (st) (pc) := by
  intro p l e s m args below meth c D A ρ dA H locs la Qm hC hR hS hL hH
  exact lv_lconst hC.1 hC.2.1 hd hv (kk p l e s m args below meth c D A ρ dA H locs la Qm hC hR hS hL hH)
theorem V_ldc {i : Nat} (x : Int) {v : Int32} (hd : decode μ.2.1 pc = .ok (.ldc i, 2)) (hw : Cond.constant μ.1 i v ∈ WS) (hv : v = Int32.ofInt x) (kk : V μ Q k n sh mi mr ls (vi x :: st) (pc + 2)) : V μ Q k n sh mi mr ls (st) (pc) := by
  intro p l e s m args below meth c D A ρ dA H locs la Qm hC hR hS hL hH
  refine lv_ldc (v := v) hC.1 hC.2.1 hC.2.2.2.1 (hC.2.2.2.2.1 _ hw) hd ?_
  rw [hv]
  exact kk p l e s m args below meth c D A ρ dA H locs la Qm hC hR hS hL hH
theorem V_iload_n {k0 : Fin 4} {a : Int} (hd : decode μ.2.1 pc = .ok (.iload_n k0, 1)) (hl : ls[(k0 : Nat)]? = some (some (vi a))) (kk : V μ Q k n sh mi mr ls (vi a :: st) (pc + 1)) : V μ Q k n sh mi mr ls (st) (pc) := by
  intro p l e s m args below meth c D A ρ dA H locs la Qm hC hR hS hL hH
  exact lv_iload_n hC.1 hC.2.1 hd rfl (hL.2.2 _ _ hl) (kk p l e s m args below meth c D A ρ dA H locs la Qm hC hR hS hL hH)
theorem V_iload {i : Nat} {a : Int} (hd : decode μ.2.1 pc = .ok (.iload i, 2)) (hl : ls[i]? = some (some (vi a))) (kk : V μ Q k n sh mi mr ls (vi a :: st) (pc + 2)) : V μ Q k n sh mi mr ls (st) (pc) := by
  intro p l e s m args below meth c D A ρ dA H locs la Qm hC hR hS hL hH
  exact lv_iload hC.1 hC.2.1 hd (hL.2.2 _ _ hl) (kk p l e s m args below meth c D A ρ dA H locs la Qm hC hR hS hL hH)
theorem V_lload_n {k0 : Fin 4} {a : Int} (hd : decode μ.2.1 pc = .ok (.lload_n k0, 1)) (hl : ls[(k0 : Nat)]? = some (some (vl a))) (kk : V μ Q k n sh mi mr ls (vl a :: st) (pc + 1)) : V μ Q k n sh mi mr ls (st) (pc) := by
  intro p l e s m args below meth c D A ρ dA H locs la Qm hC hR hS hL hH
  exact lv_lload_n hC.1 hC.2.1 hd rfl (hL.2.2 _ _ hl) (kk p l e s m args below meth c D A ρ dA H locs la Qm hC hR hS hL hH)
theorem V_lload {i : Nat} {a : Int} (hd : decode μ.2.1 pc = .ok (.lload i, 2)) (hl : ls[i]? = some (some (vl a))) (kk : V μ Q k n sh mi mr ls (vl a :: st) (pc + 2)) : V μ Q k n sh mi mr ls (st) (pc) := by
  intro p l e s m args below meth c D A ρ dA H locs la Qm hC hR hS hL hH
  exact lv_lload hC.1 hC.2.1 hd (hL.2.2 _ _ hl) (kk p l e s m args below meth c D A ρ dA H locs la Qm hC hR hS hL hH)
theorem V_aload_n {k0 : Fin 4} {a : Nat} (hd : decode μ.2.1 pc = .ok (.aload_n k0, 1)) (hl : ls[(k0 : Nat)]? = some (some (vr a))) (kk : V μ Q k n sh mi mr ls (vr a :: st) (pc + 1)) : V μ Q k n sh mi mr ls (st) (pc) := by
  intro p l e s m args below meth c D A ρ dA H locs la Qm hC hR hS hL hH
  exact lv_aload_n hC.1 hC.2.1 hd rfl (hL.2.2 _ _ hl) (kk p l e s m args below meth c D A ρ dA H locs la Qm hC hR hS hL hH)
theorem V_aload {i : Nat} {a : Nat} (hd : decode μ.2.1 pc = .ok (.aload i, 2)) (hl : ls[i]? = some (some (vr a))) (kk : V μ Q k n sh mi mr ls (vr a :: st) (pc + 2)) : V μ Q k n sh mi mr ls (st) (pc) := by
  intro p l e s m args below meth c D A ρ dA H locs la Qm hC hR hS hL hH
  exact lv_aload hC.1 hC.2.1 hd (hL.2.2 _ _ hl) (kk p l e s m args below meth c D A ρ dA H locs la Qm hC hR hS hL hH)
def lvl (ρ : Nat → Nat) (ls : List (Option AV)) : List (Nat × Value) := (List.range ls.length).filterMap fun i => match ls[i]? with
  | some (some v) => some (i, rv ρ v)
  | _ => none
theorem lvl_mem {ρ ls} {q : Nat × Value} : q ∈ lvl ρ ls ↔ ∃ v, ls[q.1]? = some (some v) ∧ q.2 = rv ρ v := by
  constructor
  · intro h
    obtain ⟨i, hi, h⟩ := List.mem_filterMap.mp h
    cases hx : ls[i]? with
    | none => rw [hx] at h; cases h
    | some o =>
      cases o with
      | none => rw [hx] at h; cases h
      | some v => rw [hx] at h; cases h; exact ⟨v, hx, rfl⟩
  · rintro ⟨v, h1, h2⟩
    refine List.mem_filterMap.mpr ⟨q.1, List.mem_range.mpr (lt_of_get h1), ?_⟩
    rw [h1]
    show some (q.1, rv ρ v) = some q
    rw [← h2]
theorem lok.has {ρ la nL ls} (h : lok ρ la nL ls) : lv_has la nL (lvl ρ ls) := ⟨h.1, h.2.1, fun q hq => by
  obtain ⟨v, h1, h2⟩ := lvl_mem.mp hq
  rw [h2]
  exact h.2.2 _ _ h1⟩
/-- the place ahead holds no long -/
def nlg (ls : List (Option AV)) : Nat → Bool
  | 0 => true
  | j + 1 => match ls[j]? with
    | some (some (.inr (.inl _))) => false
    | _ => true
def acat : AV → Nat
  | .inr (.inl _) => 2
  | _ => 1
theorem acat_eq (ρ : Nat → Nat) (v : AV) : (rv ρ v).category = acat v := by
  rcases v with a | a | r
  · rfl
  · rfl
  · cases r <;> rfl
theorem nlg_spec {ρ ls i j} {v : AV} (h : nlg ls i = true) (hj : ls[j]? = some (some v)) (hi : j + 1 = i) : ((rv ρ v).category == 2) = false := by
  subst hi
  rw [acat_eq]
  simp only [nlg, hj] at h
  rcases v with a | a | r
  · rfl
  · cases h
  · rfl
theorem lok_set1 {ρ la nL ls i} {v : AV} {lv' : List (Nat × Value)} (hn : nlg ls i = true) (hi : i < ls.length) (hl : (i, rv ρ v) :: (lvl ρ ls).filter (fun q => !(q.1 == i) && !(q.1 + 1 == i && q.2.category == 2)) = lv') (h : lv_has la nL lv') : lok ρ la nL (ls.set i (some v)) := by
  refine ⟨h.1, h.2.1, fun j w hj => ?_⟩
  subst hl
  by_cases hij : j = i
  · subst hij
    rw [List.getElem?_set_self hi] at hj
    cases hj
    exact h.2.2 _ List.mem_cons_self
  · rw [List.getElem?_set_ne (Ne.symm hij)] at hj
    refine h.2.2 (j, rv ρ w) (List.mem_cons_of_mem _ (List.mem_filter.mpr ⟨lvl_mem.mpr ⟨w, hj, rfl⟩, ?_⟩))
    by_cases hc : j + 1 = i
    · simp [hij, nlg_spec (ρ := ρ) hn hj hc]
    · simp [hij, hc]
theorem lok_set2 {ρ la nL ls i} {v : AV} {lv' : List (Nat × Value)} (hn : nlg ls i = true) (hi : i + 1 < ls.length) (hl : (i, rv ρ v) :: (lvl ρ ls).filter (fun q => !(q.1 == i) && (!(q.1 == i + 1) && !(q.1 + 1 == i && q.2.category == 2))) = lv') (h : lv_has la nL lv') : lok ρ la nL ((ls.set i (some v)).set (i + 1) none) := by
  refine ⟨h.1, h.2.1, fun j w hj => ?_⟩
  subst hl
  by_cases hij1 : j = i + 1
  · subst hij1
    rw [List.getElem?_set_self (by simp; exact hi)] at hj
    cases hj
  rw [List.getElem?_set_ne (Ne.symm hij1)] at hj
  by_cases hij : j = i
  · subst hij
    rw [List.getElem?_set_self (by omega)] at hj
    cases hj
    exact h.2.2 _ List.mem_cons_self
  · rw [List.getElem?_set_ne (Ne.symm hij)] at hj
    refine h.2.2 (j, rv ρ w) (List.mem_cons_of_mem _ (List.mem_filter.mpr ⟨lvl_mem.mpr ⟨w, hj, rfl⟩, ?_⟩))
    by_cases hc : j + 1 = i
    · simp [hij, hij1, nlg_spec (ρ := ρ) hn hj hc]
    · simp [hij, hij1, hc]
theorem V_istore_n {k0 : Fin 4} {a : Int} (hd : decode μ.2.1 pc = .ok (.istore_n k0, 1)) (hn : (k0 : Nat) < ls.length ∧ ls.length = μ.2.2.1 ∧ nlg ls (k0 : Nat) = true) (kk : V μ Q k n sh mi mr (ls.set (k0 : Nat) (some (vi a))) (st) (pc + 1)) : V μ Q k n sh mi mr ls (vi a :: st) (pc) := by
  intro p l e s m args below meth c D A ρ dA H locs la Qm hC hR hS hL hH
  exact lv_istore_n hC.1 hC.2.1 hd rfl hL.has (by rw [← hn.2.1]; exact hn.1) rfl (fun la' hl' => kk p l e s m args below meth c D A ρ dA H locs la' Qm hC hR hS (lok_set1 hn.2.2 hn.1 (v := vi a) rfl hl') hH)
theorem V_istore {i : Nat} {a : Int} (hd : decode μ.2.1 pc = .ok (.istore i, 2)) (hn : i < ls.length ∧ ls.length = μ.2.2.1 ∧ nlg ls i = true) (kk : V μ Q k n sh mi mr (ls.set i (some (vi a))) (st) (pc + 2)) : V μ Q k n sh mi mr ls (vi a :: st) (pc) := by
  intro p l e s m args below meth c D A ρ dA H locs la Qm hC hR hS hL hH
  exact lv_istore hC.1 hC.2.1 hd hL.has (by rw [← hn.2.1]; exact hn.1) rfl (fun la' hl' => kk p l e s m args below meth c D A ρ dA H locs la' Qm hC hR hS (lok_set1 hn.2.2 hn.1 (v := vi a) rfl hl') hH)
theorem V_astore_n {k0 : Fin 4} {a : Nat} (hd : decode μ.2.1 pc = .ok (.astore_n k0, 1)) (hn : (k0 : Nat) < ls.length ∧ ls.length = μ.2.2.1 ∧ nlg ls (k0 : Nat) = true) (kk : V μ Q k n sh mi mr (ls.set (k0 : Nat) (some (vr a))) (st) (pc + 1)) : V μ Q k n sh mi mr ls (vr a :: st) (pc) := by
  intro p l e s m args below meth c D A ρ dA H locs la Qm hC hR hS hL hH
  exact lv_astore_n hC.1 hC.2.1 hd rfl hL.has (by rw [← hn.2.1]; exact hn.1) rfl (fun la' hl' => kk p l e s m args below meth c D A ρ dA H locs la' Qm hC hR hS (lok_set1 hn.2.2 hn.1 (v := vr a) rfl hl') hH)
theorem V_astore {i : Nat} {a : Nat} (hd : decode μ.2.1 pc = .ok (.astore i, 2)) (hn : i < ls.length ∧ ls.length = μ.2.2.1 ∧ nlg ls i = true) (kk : V μ Q k n sh mi mr (ls.set i (some (vr a))) (st) (pc + 2)) : V μ Q k n sh mi mr ls (vr a :: st) (pc) := by
  intro p l e s m args below meth c D A ρ dA H locs la Qm hC hR hS hL hH
  exact lv_astore hC.1 hC.2.1 hd hL.has (by rw [← hn.2.1]; exact hn.1) rfl (fun la' hl' => kk p l e s m args below meth c D A ρ dA H locs la' Qm hC hR hS (lok_set1 hn.2.2 hn.1 (v := vr a) rfl hl') hH)
theorem V_lstore {i : Nat} {a : Int} (hd : decode μ.2.1 pc = .ok (.lstore i, 2)) (hn : i + 1 < ls.length ∧ ls.length = μ.2.2.1 ∧ nlg ls i = true) (kk : V μ Q k n sh mi mr ((ls.set i (some (vl a))).set (i + 1) none) (st) (pc + 2)) : V μ Q k n sh mi mr ls (vl a :: st) (pc) := by
  intro p l e s m args below meth c D A ρ dA H locs la Qm hC hR hS hL hH
  exact lv_lstore hC.1 hC.2.1 hd hL.has (by rw [← hn.2.1]; exact hn.1) rfl (fun la' hl' => kk p l e s m args below meth c D A ρ dA H locs la' Qm hC hR hS (lok_set2 hn.2.2 hn.1 (v := vl a) rfl hl') hH)
theorem V_iinc {i : Nat} {d a : Int} (hd : decode μ.2.1 pc = .ok (.iinc i d, 3)) (hl : ls[i]? = some (some (vi a))) (hn : ls.length = μ.2.2.1 ∧ nlg ls i = true) (kk : V μ Q k n sh mi mr (ls.set i (some (vi (a + d)))) (st) (pc + 3)) : V μ Q k n sh mi mr ls (st) (pc) := by
  intro p l e s m args below meth c D A ρ dA H locs la Qm hC hR hS hL hH
  obtain ⟨j, hj⟩ := List.getElem?_of_mem (lvl_mem (ρ := ρ) (ls := ls) (q := (i, .int (Int32.ofInt a))) |>.mpr ⟨vi a, hl, rfl⟩)
  exact lv_iinc (v := Int32.ofInt (a + d)) hC.1 hC.2.1 hd hL.has hj (Int32.ofInt_add a d).symm (by rw [← hn.1]; exact lt_of_get hl) rfl (fun la' hl' => kk p l e s m args below meth c D A ρ dA H locs la' Qm hC hR hS (lok_set1 hn.2 (lt_of_get hl) (v := vi (a + d)) rfl hl') hH)
theorem V_iadd {a b : Int} (hd : decode μ.2.1 pc = .ok (.iadd, 1)) (kk : V μ Q k n sh mi mr ls (vi (a + b) :: st) (pc + 1)) : V μ Q k n sh mi mr ls (vi b :: vi a :: st) (pc) := by
  intro p l e s m args below meth c D A ρ dA H locs la Qm hC hR hS hL hH
  refine lv_iadd hC.1 hC.2.1 hd ?_
  rw [← Int32.ofInt_add a b]
  exact kk p l e s m args below meth c D A ρ dA H locs la Qm hC hR hS hL hH
theorem V_isub {a b : Int} (hd : decode μ.2.1 pc = .ok (.isub, 1)) (kk : V μ Q k n sh mi mr ls (vi (a - b) :: st) (pc + 1)) : V μ Q k n sh mi mr ls (vi b :: vi a :: st) (pc) := by
  intro p l e s m args below meth c D A ρ dA H locs la Qm hC hR hS hL hH
  refine lv_isub hC.1 hC.2.1 hd ?_
  rw [← Int32.ofInt_sub a b]
  exact kk p l e s m args below meth c D A ρ dA H locs la Qm hC hR hS hL hH
theorem V_imul {a b : Int} (hd : decode μ.2.1 pc = .ok (.imul, 1)) (kk : V μ Q k n sh mi mr ls (vi (a * b) :: st) (pc + 1)) : V μ Q k n sh mi mr ls (vi b :: vi a :: st) (pc) := by
  intro p l e s m args below meth c D A ρ dA H locs la Qm hC hR hS hL hH
  refine lv_imul hC.1 hC.2.1 hd ?_
  rw [← Int32.ofInt_mul a b]
  exact kk p l e s m args below meth c D A ρ dA H locs la Qm hC hR hS hL hH
theorem V_ineg {a : Int} (hd : decode μ.2.1 pc = .ok (.ineg, 1)) (kk : V μ Q k n sh mi mr ls (vi (-a) :: st) (pc + 1)) : V μ Q k n sh mi mr ls (vi a :: st) (pc) := by
  intro p l e s m args below meth c D A ρ dA H locs la Qm hC hR hS hL hH
  refine lv_ineg hC.1 hC.2.1 hd ?_
  rw [← Int32.ofInt_neg a]
  exact kk p l e s m args below meth c D A ρ dA H locs la Qm hC hR hS hL hH
theorem V_ladd {a b : Int} (hd : decode μ.2.1 pc = .ok (.ladd, 1)) (kk : V μ Q k n sh mi mr ls (vl (a + b) :: st) (pc + 1)) : V μ Q k n sh mi mr ls (vl b :: vl a :: st) (pc) := by
  intro p l e s m args below meth c D A ρ dA H locs la Qm hC hR hS hL hH
  refine lv_ladd hC.1 hC.2.1 hd ?_
  rw [← Int64.ofInt_add a b]
  exact kk p l e s m args below meth c D A ρ dA H locs la Qm hC hR hS hL hH
theorem i_div {a b : Int} (ha : 0 ≤ a ∧ a < 2147483648) (hb : 0 < b ∧ b < 2147483648) : Int32.ofInt a / Int32.ofInt b = Int32.ofInt (a / b) := by
  have h0 : a / b ≤ a := Int.ediv_le_self b ha.1
  have h1 : 0 ≤ a / b := Int.ediv_nonneg ha.1 (by omega)
  rw [← Int32.toInt_inj, Int32.toInt_div_of_ne_right _ _ (fun h => by
    have := congrArg Int32.toInt h
    rw [rng_toInt ⟨by omega, by omega⟩] at this
    have e : (-1 : Int32).toInt = -1 := rfl
    omega), rng_toInt ⟨by omega, by omega⟩, rng_toInt ⟨by omega, by omega⟩, rng_toInt ⟨by omega, by omega⟩, Int.tdiv_eq_ediv_of_nonneg ha.1]
theorem i_ne0 {b : Int} (hb : 0 < b ∧ b < 2147483648) : ¬ Int32.ofInt b = 0 := fun h => by
  have := (i_eq (a := b) (b := 0) ⟨by omega, by omega⟩ rng0).mp h
  omega
theorem V_idiv {a b : Int} (hd : decode μ.2.1 pc = .ok (.idiv, 1)) (ha : 0 ≤ a ∧ a < 2147483648) (hb : 0 < b ∧ b < 2147483648) (kk : V μ Q k n sh mi mr ls (vi (a / b) :: st) (pc + 1)) : V μ Q k n sh mi mr ls (vi b :: vi a :: st) (pc) := by
  intro p l e s m args below meth c D A ρ dA H locs la Qm hC hR hS hL hH
  refine lv_idiv hC.1 hC.2.1 hd (i_ne0 hb) ?_
  rw [i_div ha hb]
  exact kk p l e s m args below meth c D A ρ dA H locs la Qm hC hR hS hL hH
theorem V_irem {a b : Int} (hd : decode μ.2.1 pc = .ok (.irem, 1)) (ha : 0 ≤ a ∧ a < 2147483648) (hb : 0 < b ∧ b < 2147483648) (kk : V μ Q k n sh mi mr ls (vi (a % b) :: st) (pc + 1)) : V μ Q k n sh mi mr ls (vi b :: vi a :: st) (pc) := by
  intro p l e s m args below meth c D A ρ dA H locs la Qm hC hR hS hL hH
  refine lv_irem hC.1 hC.2.1 hd (i_ne0 hb) ?_
  rw [i_div ha hb, ← Int32.ofInt_mul, ← Int32.ofInt_sub, show a - a / b * b = a % b by rw [Int.emod_def, Int.mul_comm]]
  exact kk p l e s m args below meth c D A ρ dA H locs la Qm hC hR hS hL hH
theorem V_i2c {a : Int} (hd : decode μ.2.1 pc = .ok (.i2c, 1)) (ha : 0 ≤ a ∧ a < 65536) (kk : V μ Q k n sh mi mr ls (vi a :: st) (pc + 1)) : V μ Q k n sh mi mr ls (vi a :: st) (pc) := by
  intro p l e s m args below meth c D A ρ dA H locs la Qm hC hR hS hL hH
  refine lv_i2c (v := Int32.ofInt a) hC.1 hC.2.1 hd ?_ (kk p l e s m args below meth c D A ρ dA H locs la Qm hC hR hS hL hH)
  obtain ⟨j, rfl⟩ := Int.eq_ofNat_of_zero_le ha.1
  rw [pk_char]
  have e : Int32.ofInt (j : Int) = nI j := by rw [Int32.ofInt_eq_ofNat]; rfl
  rw [e, pk_tn (by omega), Nat.mod_eq_of_lt (by omega)]
theorem V_l2i {a : Int} (hd : decode μ.2.1 pc = .ok (.l2i, 1)) (kk : V μ Q k n sh mi mr ls (vi a :: st) (pc + 1)) : V μ Q k n sh mi mr ls (vl a :: st) (pc) := by
  intro p l e s m args below meth c D A ρ dA H locs la Qm hC hR hS hL hH
  exact lv_l2i (v := Int32.ofInt a) hC.1 hC.2.1 hd Int64.toInt32_ofInt (kk p l e s m args below meth c D A ρ dA H locs la Qm hC hR hS hL hH)
theorem V_lcmp {a b : Int} (hd : decode μ.2.1 pc = .ok (.lcmp, 1)) (ha : lrng a) (hb : lrng b) (kk : V μ Q k n sh mi mr ls (vi (if a > b then 1 else if a = b then 0 else -1) :: st) (pc + 1)) : V μ Q k n sh mi mr ls (vl b :: vl a :: st) (pc) := by
  intro p l e s m args below meth c D A ρ dA H locs la Qm hC hR hS hL hH
  refine W.lcmp hC.1 hC.2.1 hd ?_
  have ec : lg_cmp (Int64.ofInt a) (Int64.ofInt b) = Int32.ofInt (if a > b then 1 else if a = b then 0 else -1) := by
    unfold lg_cmp
    simp only [gt_iff_lt, l_lt hb ha, l_eq ha hb]
    split
    · rfl
    · split <;> rfl
  rw [ec]
  exact kk p l e s m args below meth c D A ρ dA H locs la Qm hC hR hS hL hH
theorem V_lcmp_same {a : Int} (hd : decode μ.2.1 pc = .ok (.lcmp, 1)) (kk : V μ Q k n sh mi mr ls (vi 0 :: st) (pc + 1)) : V μ Q k n sh mi mr ls (vl a :: vl a :: st) (pc) := by
  intro p l e s m args below meth c D A ρ dA H locs la Qm hC hR hS hL hH
  refine W.lcmp hC.1 hC.2.1 hd ?_
  have ec : lg_cmp (Int64.ofInt a) (Int64.ofInt a) = Int32.ofInt 0 := by
    unfold lg_cmp
    simp [Int64.lt_irrefl]
  rw [ec]
  exact kk p l e s m args below meth c D A ρ dA H locs la Qm hC hR hS hL hH
theorem V_dup {v : AV} (hd : decode μ.2.1 pc = .ok (.dup, 1)) (hv : acat v = 1) (kk : V μ Q k n sh mi mr ls (v :: v :: st) (pc + 1)) : V μ Q k n sh mi mr ls (v :: st) (pc) := by
  intro p l e s m args below meth c D A ρ dA H locs la Qm hC hR hS hL hH
  exact lv_dup hC.1 hC.2.1 hd (by rw [acat_eq]; exact hv) (kk p l e s m args below meth c D A ρ dA H locs la Qm hC hR hS hL hH)
theorem V_pop {v : AV} (hd : decode μ.2.1 pc = .ok (.pop, 1)) (hv : acat v = 1) (kk : V μ Q k n sh mi mr ls (st) (pc + 1)) : V μ Q k n sh mi mr ls (v :: st) (pc) := by
  intro p l e s m args below meth c D A ρ dA H locs la Qm hC hR hS hL hH
  exact lv_pop hC.1 hC.2.1 hd (by rw [acat_eq]; exact hv) (kk p l e s m args below meth c D A ρ dA H locs la Qm hC hR hS hL hH)
theorem V_dup2 {v w : AV} (hd : decode μ.2.1 pc = .ok (.dup2, 1)) (hv : acat v = 1) (hw : acat w = 1) (kk : V μ Q k n sh mi mr ls (v :: w :: v :: w :: st) (pc + 1)) : V μ Q k n sh mi mr ls (v :: w :: st) (pc) := by
  intro p l e s m args below meth c D A ρ dA H locs la Qm hC hR hS hL hH
  exact lv_dup2_11 hC.1 hC.2.1 hd (by rw [acat_eq]; exact hv) (by rw [acat_eq]; exact hw) (kk p l e s m args below meth c D A ρ dA H locs la Qm hC hR hS hL hH)
theorem V_goto {off : Int} (tgt : Nat) (hd : decode μ.2.1 pc = .ok (.goto off, 3)) (ht : (pc : Int) + off = (tgt : Int)) (kk : V μ Q k n sh mi mr ls (st) (tgt)) : V μ Q k n sh mi mr ls (st) (pc) := by
  intro p l e s m args below meth c D A ρ dA H locs la Qm hC hR hS hL hH
  exact lv_goto hC.1 hC.2.1 hd ht (kk p l e s m args below meth c D A ρ dA H locs la Qm hC hR hS hL hH)
theorem V_icmp_eq {a b off : Int} (tgt : Nat) (hd : decode μ.2.1 pc = .ok (.if_icmp .eq off, 3)) (ht : (pc : Int) + off = (tgt : Int)) (ha : rng a) (hb : rng b) (kt : a = b → V μ Q k n sh mi mr ls (st) (tgt)) (kf : ¬ (a = b) → V μ Q k n sh mi mr ls (st) (pc + 3)) : V μ Q k n sh mi mr ls (vi b :: vi a :: st) (pc) := by
  intro p l e s m args below meth c D A ρ dA H locs la Qm hC hR hS hL hH
  refine lv_icmp_eq hC.1 hC.2.1 hd ht (fun h => ?_) (fun h => ?_)
  · have h := (show _ ↔ a = b from i_eq ha hb).mp h
    exact kt h p l e s m args below meth c D A ρ dA H locs la Qm hC hR hS hL hH
  · have h : ¬ (a = b) := fun g => h ((show _ ↔ a = b from i_eq ha hb).mpr g)
    exact kf h p l e s m args below meth c D A ρ dA H locs la Qm hC hR hS hL hH
theorem V_if_eq {a off : Int} (tgt : Nat) (hd : decode μ.2.1 pc = .ok (.ifCond .eq off, 3)) (ht : (pc : Int) + off = (tgt : Int)) (ha : rng a) (kt : a = 0 → V μ Q k n sh mi mr ls (st) (tgt)) (kf : ¬ (a = 0) → V μ Q k n sh mi mr ls (st) (pc + 3)) : V μ Q k n sh mi mr ls (vi a :: st) (pc) := by
  intro p l e s m args below meth c D A ρ dA H locs la Qm hC hR hS hL hH
  refine lv_if_eq hC.1 hC.2.1 hd ht (fun h => ?_) (fun h => ?_)
  · have h := (show _ ↔ a = 0 from i_eq ha rng0).mp h
    exact kt h p l e s m args below meth c D A ρ dA H locs la Qm hC hR hS hL hH
  · have h : ¬ (a = 0) := fun g => h ((show _ ↔ a = 0 from i_eq ha rng0).mpr g)
    exact kf h p l e s m args below meth c D A ρ dA H locs la Qm hC hR hS hL hH
theorem V_icmp_lt {a b off : Int} (tgt : Nat) (hd : decode μ.2.1 pc = .ok (.if_icmp .lt off, 3)) (ht : (pc : Int) + off = (tgt : Int)) (ha : rng a) (hb : rng b) (kt : a < b → V μ Q k n sh mi mr ls (st) (tgt)) (kf : ¬ (a < b) → V μ Q k n sh mi mr ls (st) (pc + 3)) : V μ Q k n sh mi mr ls (vi b :: vi a :: st) (pc) := by
  intro p l e s m args below meth c D A ρ dA H locs la Qm hC hR hS hL hH
  refine lv_icmp_lt hC.1 hC.2.1 hd ht (fun h => ?_) (fun h => ?_)
  · have h := (show _ ↔ a < b from i_lt ha hb).mp h
    exact kt h p l e s m args below meth c D A ρ dA H locs la Qm hC hR hS hL hH
  · have h : ¬ (a < b) := fun g => h ((show _ ↔ a < b from i_lt ha hb).mpr g)
    exact kf h p l e s m args below meth c D A ρ dA H locs la Qm hC hR hS hL hH
theorem V_if_lt {a off : Int} (tgt : Nat) (hd : decode μ.2.1 pc = .ok (.ifCond .lt off, 3)) (ht : (pc : Int) + off = (tgt : Int)) (ha : rng a) (kt : a < 0 → V μ Q k n sh mi mr ls (st) (tgt)) (kf : ¬ (a < 0) → V μ Q k n sh mi mr ls (st) (pc + 3)) : V μ Q k n sh mi mr ls (vi a :: st) (pc) := by
  intro p l e s m args below meth c D A ρ dA H locs la Qm hC hR hS hL hH
  refine lv_if_lt hC.1 hC.2.1 hd ht (fun h => ?_) (fun h => ?_)
  · have h := (show _ ↔ a < 0 from i_lt ha rng0).mp h
    exact kt h p l e s m args below meth c D A ρ dA H locs la Qm hC hR hS hL hH
  · have h : ¬ (a < 0) := fun g => h ((show _ ↔ a < 0 from i_lt ha rng0).mpr g)
    exact kf h p l e s m args below meth c D A ρ dA H locs la Qm hC hR hS hL hH
theorem V_icmp_ge {a b off : Int} (tgt : Nat) (hd : decode μ.2.1 pc = .ok (.if_icmp .ge off, 3)) (ht : (pc : Int) + off = (tgt : Int)) (ha : rng a) (hb : rng b) (kt : b ≤ a → V μ Q k n sh mi mr ls (st) (tgt)) (kf : ¬ (b ≤ a) → V μ Q k n sh mi mr ls (st) (pc + 3)) : V μ Q k n sh mi mr ls (vi b :: vi a :: st) (pc) := by
  intro p l e s m args below meth c D A ρ dA H locs la Qm hC hR hS hL hH
  refine lv_icmp_ge hC.1 hC.2.1 hd ht (fun h => ?_) (fun h => ?_)
  · have h := (show _ ↔ b ≤ a from i_le hb ha).mp h
    exact kt h p l e s m args below meth c D A ρ dA H locs la Qm hC hR hS hL hH
  · have h : ¬ (b ≤ a) := fun g => h ((show _ ↔ b ≤ a from i_le hb ha).mpr g)
    exact kf h p l e s m args below meth c D A ρ dA H locs la Qm hC hR hS hL hH
theorem V_if_ge {a off : Int} (tgt : Nat) (hd : decode μ.2.1 pc = .ok (.ifCond .ge off, 3)) (ht : (pc : Int) + off = (tgt : Int)) (ha : rng a) (kt : 0 ≤ a → V μ Q k n sh mi mr ls (st) (tgt)) (kf : ¬ (0 ≤ a) → V μ Q k n sh mi mr ls (st) (pc + 3)) : V μ Q k n sh mi mr ls (vi a :: st) (pc) := by
  intro p l e s m args below meth c D A ρ dA H locs la Qm hC hR hS hL hH
  refine lv_if_ge hC.1 hC.2.1 hd ht (fun h => ?_) (fun h => ?_)
  · have h := (show _ ↔ 0 ≤ a from i_le rng0 ha).mp h
    exact kt h p l e s m args below meth c D A ρ dA H locs la Qm hC hR hS hL hH
  · have h : ¬ (0 ≤ a) := fun g => h ((show _ ↔ 0 ≤ a from i_le rng0 ha).mpr g)
    exact kf h p l e s m args below meth c D A ρ dA H locs la Qm hC hR hS hL hH
theorem V_icmp_gt {a b off : Int} (tgt : Nat) (hd : decode μ.2.1 pc = .ok (.if_icmp .gt off, 3)) (ht : (pc : Int) + off = (tgt : Int)) (ha : rng a) (hb : rng b) (kt : b < a → V μ Q k n sh mi mr ls (st) (tgt)) (kf : ¬ (b < a) → V μ Q k n sh mi mr ls (st) (pc + 3)) : V μ Q k n sh mi mr ls (vi b :: vi a :: st) (pc) := by
  intro p l e s m args below meth c D A ρ dA H locs la Qm hC hR hS hL hH
  refine lv_icmp_gt hC.1 hC.2.1 hd ht (fun h => ?_) (fun h => ?_)
  · have h := (show _ ↔ b < a from i_lt hb ha).mp h
    exact kt h p l e s m args below meth c D A ρ dA H locs la Qm hC hR hS hL hH
  · have h : ¬ (b < a) := fun g => h ((show _ ↔ b < a from i_lt hb ha).mpr g)
    exact kf h p l e s m args below meth c D A ρ dA H locs la Qm hC hR hS hL hH
theorem V_if_gt {a off : Int} (tgt : Nat) (hd : decode μ.2.1 pc = .ok (.ifCond .gt off, 3)) (ht : (pc : Int) + off = (tgt : Int)) (ha : rng a) (kt : 0 < a → V μ Q k n sh mi mr ls (st) (tgt)) (kf : ¬ (0 < a) → V μ Q k n sh mi mr ls (st) (pc + 3)) : V μ Q k n sh mi mr ls (vi a :: st) (pc) := by
  intro p l e s m args below meth c D A ρ dA H locs la Qm hC hR hS hL hH
  refine lv_if_gt hC.1 hC.2.1 hd ht (fun h => ?_) (fun h => ?_)
  · have h := (show _ ↔ 0 < a from i_lt rng0 ha).mp h
    exact kt h p l e s m args below meth c D A ρ dA H locs la Qm hC hR hS hL hH
  · have h : ¬ (0 < a) := fun g => h ((show _ ↔ 0 < a from i_lt rng0 ha).mpr g)
    exact kf h p l e s m args below meth c D A ρ dA H locs la Qm hC hR hS hL hH
theorem V_icmp_le {a b off : Int} (tgt : Nat) (hd : decode μ.2.1 pc = .ok (.if_icmp .le off, 3)) (ht : (pc : Int) + off = (tgt : Int)) (ha : rng a) (hb : rng b) (kt : a ≤ b → V μ Q k n sh mi mr ls (st) (tgt)) (kf : ¬ (a ≤ b) → V μ Q k n sh mi mr ls (st) (pc + 3)) : V μ Q k n sh mi mr ls (vi b :: vi a :: st) (pc) := by
  intro p l e s m args below meth c D A ρ dA H locs la Qm hC hR hS hL hH
  refine lv_icmp_le hC.1 hC.2.1 hd ht (fun h => ?_) (fun h => ?_)
  · have h := (show _ ↔ a ≤ b from i_le ha hb).mp h
    exact kt h p l e s m args below meth c D A ρ dA H locs la Qm hC hR hS hL hH
  · have h : ¬ (a ≤ b) := fun g => h ((show _ ↔ a ≤ b from i_le ha hb).mpr g)
    exact kf h p l e s m args below meth c D A ρ dA H locs la Qm hC hR hS hL hH
theorem V_if_le {a off : Int} (tgt : Nat) (hd : decode μ.2.1 pc = .ok (.ifCond .le off, 3)) (ht : (pc : Int) + off = (tgt : Int)) (ha : rng a) (kt : a ≤ 0 → V μ Q k n sh mi mr ls (st) (tgt)) (kf : ¬ (a ≤ 0) → V μ Q k n sh mi mr ls (st) (pc + 3)) : V μ Q k n sh mi mr ls (vi a :: st) (pc) := by
  intro p l e s m args below meth c D A ρ dA H locs la Qm hC hR hS hL hH
  refine lv_if_le hC.1 hC.2.1 hd ht (fun h => ?_) (fun h => ?_)
  · have h := (show _ ↔ a ≤ 0 from i_le ha rng0).mp h
    exact kt h p l e s m args below meth c D A ρ dA H locs la Qm hC hR hS hL hH
  · have h : ¬ (a ≤ 0) := fun g => h ((show _ ↔ a ≤ 0 from i_le ha rng0).mpr g)
    exact kf h p l e s m args below meth c D A ρ dA H locs la Qm hC hR hS hL hH
theorem V_icmp_ne {a b off : Int} (tgt : Nat) (hd : decode μ.2.1 pc = .ok (.if_icmp .ne off, 3)) (ht : (pc : Int) + off = (tgt : Int)) (ha : rng a) (hb : rng b) (kt : ¬ (a = b) → V μ Q k n sh mi mr ls (st) (tgt)) (kf : a = b → V μ Q k n sh mi mr ls (st) (pc + 3)) : V μ Q k n sh mi mr ls (vi b :: vi a :: st) (pc) := by
  intro p l e s m args below meth c D A ρ dA H locs la Qm hC hR hS hL hH
  refine lv_icmp_ne hC.1 hC.2.1 hd ht (fun h => ?_) (fun h => ?_)
  · have h : ¬ (a = b) := fun g => h ((i_eq ha hb).mpr g)
    exact kt h p l e s m args below meth c D A ρ dA H locs la Qm hC hR hS hL hH
  · have h := (i_eq ha hb).mp h
    exact kf h p l e s m args below meth c D A ρ dA H locs la Qm hC hR hS hL hH
theorem V_if_ne {a off : Int} (tgt : Nat) (hd : decode μ.2.1 pc = .ok (.ifCond .ne off, 3)) (ht : (pc : Int) + off = (tgt : Int)) (ha : rng a) (kt : ¬ (a = 0) → V μ Q k n sh mi mr ls (st) (tgt)) (kf : a = 0 → V μ Q k n sh mi mr ls (st) (pc + 3)) : V μ Q k n sh mi mr ls (vi a :: st) (pc) := by
  intro p l e s m args below meth c D A ρ dA H locs la Qm hC hR hS hL hH
  refine lv_if_ne hC.1 hC.2.1 hd ht (fun h => ?_) (fun h => ?_)
  · have h : ¬ (a = 0) := fun g => h ((i_eq ha rng0).mpr g)
    exact kt h p l e s m args below meth c D A ρ dA H locs la Qm hC hR hS hL hH
  · have h := (i_eq ha rng0).mp h
    exact kf h p l e s m args below meth c D A ρ dA H locs la Qm hC hR hS hL hH
theorem V_icmp_same {a off : Int} (tgt : Nat) (hd : decode μ.2.1 pc = .ok (.if_icmp .eq off, 3)) (ht : (pc : Int) + off = (tgt : Int)) (kt : V μ Q k n sh mi mr ls (st) (tgt)) : V μ Q k n sh mi mr ls (vi a :: vi a :: st) (pc) := by
  intro p l e s m args below meth c D A ρ dA H locs la Qm hC hR hS hL hH
  exact lv_icmp_eq hC.1 hC.2.1 hd ht (fun _ => kt p l e s m args below meth c D A ρ dA H locs la Qm hC hR hS hL hH) (fun h => absurd rfl h)
theorem V_tsw {dflt lo hi : Int} {offs : Array Int} {len : Nat} {a : Int} (off : Int) (tgt : Nat) (hd : decode μ.2.1 pc = .ok (.tableswitch dflt lo hi offs, len)) (ha : rng a) (ho : (lo ≤ a ∧ a ≤ hi ∧ offs[(a - lo).toNat]? = some off) ∨ ((a < lo ∨ hi < a) ∧ off = dflt)) (ht : (pc : Int) + off = (tgt : Int)) (kk : V μ Q k n sh mi mr ls (st) (tgt)) : V μ Q k n sh mi mr ls (vi a :: st) (pc) := by
  intro p l e s m args below meth c D A ρ dA H locs la Qm hC hR hS hL hH
  rcases ho with ⟨h1, h2, h3⟩ | ⟨h1, h2⟩
  · exact lv_tableIn hC.1 hC.2.1 hd (by rw [rng_toInt ha]; omega) (by rw [rng_toInt ha]; omega) (by rw [rng_toInt ha]; exact h3) ht (kk p l e s m args below meth c D A ρ dA H locs la Qm hC hR hS hL hH)
  · subst h2
    exact lv_tableOut hC.1 hC.2.1 hd (by rw [rng_toInt ha]; exact h1) ht (kk p l e s m args below meth c D A ρ dA H locs la Qm hC hR hS hL hH)
theorem V_lsw {dflt : Int} {ps : Array (Int × Int)} {len : Nat} {a : Int} (off : Int) (tgt : Nat) (hd : decode μ.2.1 pc = .ok (.lookupswitch dflt ps, len)) (ha : rng a) (hp : (ps.toList.zip (ps.toList.drop 1)).all (fun (a, next) => a.1 < next.1) = true) (ho : Op.lookupswitch.offset ps.toList dflt a = off) (ht : (pc : Int) + off = (tgt : Int)) (kk : V μ Q k n sh mi mr ls (st) (tgt)) : V μ Q k n sh mi mr ls (vi a :: st) (pc) := by
  intro p l e s m args below meth c D A ρ dA H locs la Qm hC hR hS hL hH
  exact lv_lookup hC.1 hC.2.1 hd hp (by rw [rng_toInt ha]; exact ho) ht (kk p l e s m args below meth c D A ρ dA H locs la Qm hC hR hS hL hH)
end VR
