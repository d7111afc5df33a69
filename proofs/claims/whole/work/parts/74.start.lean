/-! THE CLAIM OUT OF ONE WALK OF THE LAW'S BODY. Your part is whole_start (and what it stands on); all else here is the same for every law, but numbers. -/
def R_law : String := "DiagonalTextsLaw"
def lw_P (b : Addr) (xs : List Int32) (args : Array Value) (s : State) : Prop := args = #[.ref b] ∧ s.IntsAt b xs ∧ xs.length ≤ 2048 ∧ (Jvm.Cond.and given_1 narrow_1).before args s = true
def lw_Q (_ : Array Value) (s : State) (o : Outcome) (t : State) : Prop := o = .returned (some (.int 1)) ∧ Framed s o t [] 600000 7302249
def lw_Z (below : List Frame) (a : Array Value) (s : State) : State → Prop := fun t => ∃ o, t.status = .running ∧ Ended t below o ∧ lw_Q a s o t
/-- the law's own end, with 1 on the stack, nothing written that was there before, its room as the claim has it -/
theorem lw_ret {p : Program} {l : Launch} {e : Env} {s : State} {m : MethodId} {below : List Frame} {meth : Method} {c : Code} {b : Nat} (hx : p.tables.exec = Jvm.exec) (hb : c.code = code) (hr : meth.sig.returnType = ret) (hlocks : meth.locks = false) {pc : Nat} {H : Heap} {ls : Array Slot} (hdg : decode code pc = .ok (.ireturn, 1)) : W p l e room_1 s m #[Value.ref b] below meth c H [] 600000 7302249 (lw_Z below #[Value.ref b] s) (F0 m pc ls [.int 1]) := by
  intro T hT X
  obtain ⟨fs, hret, hrun, hended, hW, hframe⟩ := X.leave (v := some (.int 1)) (hlocks := hlocks) (fun h => by rw [hr] at h; cases h)
  have hmeth' : T.vm.method? m = some meth := X.method'
  refine ⟨T.setFrames fs, ?_, .returned (some (.int 1)), hrun, hended, rfl, ⟨_, rfl⟩, hW, hframe⟩
  jvm_step X.here [X.here.top, hx, hb, hdg, hmeth', hr, ret, narrow_b1]
  (try refine ⟨rfl, ?_⟩); (try refine ⟨rfl, ?_⟩)
  first | (intro acts; rw [hret _ acts rfl rfl rfl]) | rw [hret _ _ rfl rfl rfl]
  exact Steps.refl _
/-- what holds at the law's entry: the machine, the code, the tables' words (any of lw_tbl by 'hts w (by decide +kernel)'), the script of L ints xs at the cell b, what the Statement gives of the start (any of its parts by flat_of_before) -/
def lw_At (p : Program) (s : State) (m : MethodId) (meth : Method) (c : Code) (b L : Nat) (xs : Nat → Int32) : Prop :=
  p.tables.exec = Jvm.exec ∧ c.code = code ∧ meth.sig.returnType = ret ∧ c.maxLocals = 4 ∧ s.vm.findClass R_law = some m.cls ∧ (∀ w ∈ lw_tbl, w.before #[Value.ref b] s = true) ∧ va_X b L xs s s.heap ∧ b < s.heap.size ∧ meth.locks = false ∧ (Jvm.Cond.and given_1 narrow_1).before #[Value.ref b] s = true
/-- the classes are known -/
theorem kk_ex {s : State} {args : Array Value} (hW : ∀ w ∈ WS, w.before args s = true) : ∃ D : va_G, KK D s := by
  obtain ⟨c0, i0, h0⟩ := u_known (C := RX0) (T := TX0) (N := 4) (n := 4) hW uX0 (hW _ in_RX0)
  obtain ⟨c1, i1, h1⟩ := u_known (C := RX1) (T := TX1) (N := 6) (n := 6) hW uX1 (hW _ in_RX1)
  obtain ⟨c2, i2, h2⟩ := u_known (C := RX2) (T := TX2) (N := 1) (n := 1) hW uX2 (hW _ in_RX2)
  obtain ⟨c3, i3, h3⟩ := u_known (C := RX3) (T := TX3) (N := 2) (n := 2) hW uX3 (hW _ in_RX3)
  obtain ⟨c4, i4, h4⟩ := u_known (C := RX4) (T := TX4) (N := 4) (n := 4) hW uX4 (hW _ in_RX4)
  obtain ⟨c5, i5, h5⟩ := u_known (C := RX5) (T := TX5) (N := 2) (n := 2) hW uX5 (hW _ in_RX5)
  obtain ⟨c6, i6, h6⟩ := u_known (C := RX6) (T := TX6) (N := 5) (n := 5) hW uX6 (hW _ in_RX6)
  obtain ⟨c7, i7, h7⟩ := u_known (C := RX7) (T := TX7) (N := 2) (n := 2) hW uX7 (hW _ in_RX7)
  obtain ⟨c8, i8, h8⟩ := u_known (C := RX8) (T := TX8) (N := 5) (n := 5) hW uX8 (hW _ in_RX8)
  obtain ⟨c9, i9, h9⟩ := u_known (C := RX9) (T := TX9) (N := 3) (n := 3) hW uX9 (hW _ in_RX9)
  obtain ⟨c10, i10, h10⟩ := u_known (C := RX10) (T := TX10) (N := 10) (n := 10) hW uX10 (hW _ in_RX10)
  obtain ⟨c11, i11, h11⟩ := u_known (C := RX11) (T := TX11) (N := 25) (n := 25) hW uX11 (hW _ in_RX11)
  refine ⟨(fun k => match k with
    | 0 => c0
    | 1 => c1
    | 2 => c2
    | 3 => c3
    | 4 => c4
    | 5 => c5
    | 6 => c6
    | 7 => c7
    | 8 => c8
    | 9 => c9
    | 10 => c10
    | _ => c11, fun k => match k with
    | 0 => i0
    | 1 => i1
    | 2 => i2
    | 3 => i3
    | 4 => i4
    | 5 => i5
    | 6 => i6
    | 7 => i7
    | 8 => i8
    | 9 => i9
    | 10 => i10
    | _ => i11), ?_⟩
  intro k q hq
  match k, hq with
  | 0, hq => cases hq; exact h0
  | 1, hq => cases hq; exact h1
  | 2, hq => cases hq; exact h2
  | 3, hq => cases hq; exact h3
  | 4, hq => cases hq; exact h4
  | 5, hq => cases hq; exact h5
  | 6, hq => cases hq; exact h6
  | 7, hq => cases hq; exact h7
  | 8, hq => cases hq; exact h8
  | 9, hq => cases hq; exact h9
  | 10, hq => cases hq; exact h10
  | 11, hq => cases hq; exact h11
  | k + 12, hq => simp at hq
/-- a static row of three numbers -/
theorem st_ex {s : State} {args : Array Value} {A : Nat → Prop} (n : String) (f : Int → Int) (hA : ∀ a : Nat, a < s.heap.size → ¬ A a) (hl : (Cond.laysStatic "DiagonalTexts" n "[I").before args s = true) (hini : (Cond.initialized "DiagonalTexts").before args s = true) (h1 : (Cond.arrayOf (.static "DiagonalTexts" n "[I") .int).before args s = true) (h2 : (Cond.eq (.length (.static "DiagonalTexts" n "[I")) (.int 3)).before args s = true)
    (h3 : (Cond.eq (.elem (.static "DiagonalTexts" n "[I") (.int 0)) (.int (Int32.ofInt (f 0)))).before args s = true) (h4 : (Cond.eq (.elem (.static "DiagonalTexts" n "[I") (.int 1)) (.int (Int32.ofInt (f 1)))).before args s = true) (h5 : (Cond.eq (.elem (.static "DiagonalTexts" n "[I") (.int 2)) (.int (Int32.ofInt (f 2)))).before args s = true) :
    ∃ t : Nat, va_Z "DiagonalTexts" n "[I" (.ref t) A s s.heap ∧ va_T .int t 3 (fun i => .int (Int32.ofInt (f i))) A s s.heap := by
  obtain ⟨t, g1, g2⟩ := va_Tof (args := args) (tm := .static "DiagonalTexts" n "[I") (N := 3) (f := fun i => .int (Int32.ofInt (f i))) (A := A) (by decide) h1 (va_eqt h2) (fun j hj => by
    rcases (show j = 0 ∨ j = 1 ∨ j = 2 by omega) with rfl | rfl | rfl
    · exact va_eqt h3
    · exact va_eqt h4
    · exact va_eqt h5) hA
  exact ⟨t, va_Zref hl hini g1 hA, g2⟩
set_option maxHeartbeats 4000000 in
set_option maxRecDepth 100000 in
/-- YOUR PART: from the entry, for every script of at most 2048 ints, the law comes to its end with true ('hflags': the launch's flags, for a law that throws: no stack traces) -/
theorem whole_start {p : Program} {e : Env} {s : State} {m : MethodId} {below : List Frame} {meth : Method} {c : Code} (l : Launch) (hflags : l.flags = flags0) {b L : Nat} {xs : Nat → Int32} (hL : L ≤ 2048) (C0 : lw_At p s m meth c b L xs) : W p l e room_1 s m #[Value.ref b] below meth c s.heap [] 0 0 (lw_Z below #[Value.ref b] s) (entryFrame m ([Value.ref b] : List Value).toArray 4) := by
  obtain ⟨hx, hb, hr, hml, hown, hts, hX, hbl, hlocks, hgv⟩ := id C0
  have hgs := flat_of_before _ hgv
  have hWS : ∀ w ∈ WS, w.before #[Value.ref b] s = true := fun w hw => hts w (ws_lw hw)
  have htb : ∀ w ∈ tables_1, w.before #[Value.ref b] s = true := fun w hw => hts w (List.mem_append_right _ hw)
  obtain ⟨D, hD⟩ := kk_ex hWS
  have hnA : ∀ a : Nat, a < s.heap.size → ¬ (fun q : Nat => s.heap.size ≤ q) a := fun a ha => Nat.not_le.mpr ha
  have hini : (Cond.initialized "DiagonalTexts").before #[Value.ref b] s = true := htb _ (by decide +kernel)
  obtain ⟨t0, z0, w0⟩ := st_ex (s := s) "LEAST_VALUES" (svF 0) hnA (htb _ (by decide +kernel)) hini (hgs _ (by decide +kernel)) (hgs _ (by decide +kernel)) (hgs _ (by decide +kernel)) (hgs _ (by decide +kernel)) (hgs _ (by decide +kernel))
  obtain ⟨t1, z1, w1⟩ := st_ex (s := s) "MOST_VALUES" (svF 1) hnA (htb _ (by decide +kernel)) hini (hgs _ (by decide +kernel)) (hgs _ (by decide +kernel)) (hgs _ (by decide +kernel)) (hgs _ (by decide +kernel)) (hgs _ (by decide +kernel))
  obtain ⟨t2, z2, w2⟩ := st_ex (s := s) "FIRST_VALUES" (svF 2) hnA (htb _ (by decide +kernel)) hini (hgs _ (by decide +kernel)) (hgs _ (by decide +kernel)) (hgs _ (by decide +kernel)) (hgs _ (by decide +kernel)) (hgs _ (by decide +kernel))
  have hSx : Sx (fun q : Nat => s.heap.size ≤ q) (fun k => if k = 1000 then t0 else if k = 1001 then t1 else if k = 1002 then t2 else b) s := by
    refine ⟨fun w hw => va_Nw.of (nest_on hw) (htb w (nw_t hw)), va_AO.of (htb _ (by decide +kernel)), fun j hj => ?_⟩
    rcases (show j = 0 ∨ j = 1 ∨ j = 2 by omega) with rfl | rfl | rfl
    · exact ⟨z0, w0⟩
    · exact ⟨z1, w1⟩
    · exact ⟨z2, w2⟩
  have hxe : (fun j => Int32.ofInt ((xs j).toInt)) = xs := funext fun j => Int32.ofInt_toInt _
  have hCx : Cx (muL L (fun j => (xs j).toInt)) p s m #[Value.ref b] meth c (fun q : Nat => s.heap.size ≤ q) (fun k => if k = 1000 then t0 else if k = 1001 then t1 else if k = 1002 then t2 else b) := by
    refine ⟨hx, hb, hml, hown, hWS, (fun h => (by cases h)), fun q hq => hq, hSx, fun L' xs' h => ?_⟩
    cases h
    exact ⟨by rw [hxe]; exact hX, hbl, Nat.not_le.mpr hbl⟩
  have hRep : Rep D (fun q : Nat => s.heap.size ≤ q) (fun k => if k = 1000 then t0 else if k = 1001 then t1 else if k = 1002 then t2 else b) (fun _ => default) s [] (fun _ _ => 0) (fun _ _ => none) s.heap :=
    ⟨fun k q h => by simp [wld] at h, ⟨fun i j p q h => by simp [wld] at h, fun k q h => by simp [wld] at h⟩, fun k t n h => by simp at h, hD, by simp, fun a j k ha => by simp at ha⟩
  have hl := lv_entry ([.ref b]) (n := 4) (Nat.le_of_ble_eq_true rfl)
  rw [lg_entry_eq]
  generalize (lg_sl ([.ref b]) ++ List.replicate (4 - (lg_sl ([.ref b])).length) Slot.unset).toArray = la at hl ⊢
  have hlok : lok (fun k => if k = 1000 then t0 else if k = 1001 then t1 else if k = 1002 then t2 else b) la 4 [some (vr 1003), none, none, none] := by
    refine ⟨hl.1, hl.2.1, fun i v hi => ?_⟩
    match i, hi with
    | 0, hi => cases hi; exact hl.2.2 (0, .ref b) List.mem_cons_self
    | 1, hi => cases hi
    | 2, hi => cases hi
    | 3, hi => cases hi
    | i + 4, hi => simp at hi
  refine lw_V (L := L) (xs := fun j => (xs j).toInt) (fun j => ⟨Int32.le_toInt _, Int32.toInt_lt _⟩) hL p l e s m #[Value.ref b] below meth c D _ _ (fun _ => default) s.heap [] la (lw_Z below #[Value.ref b] s) hCx hRep va_S.rf hlok ?_
  intro r sh mi mr ρ' dA' H locs k n pc la' hext hle hq hR hS hk hn hret
  have hq : r = some (vi 1) := hq
  subst hq
  rcases hret with ⟨h, -⟩ | ⟨a, -, h, -⟩ | ⟨a, h, -, -, hd⟩ | ⟨a, h, -⟩ | ⟨a, cn, h, -⟩
  · cases h
  · cases h
  · refine va_forget (fun q hq => hS.2.2 q hq) ?_
    refine W.widen hk hn ?_
    exact lw_ret hx hb hr hlocks hd
  · cases h
  · cases h
