/-! ===== memory rows ===== -/
def refTy : FieldType → Bool
  | .object _ => true
  | .array _ => true
  | _ => false
theorem ref_nf {t : FieldType} (h : refTy t = true) (a : Nat) : narrow t (.ref a) = .ref a ∧ fits t (.ref a) = true := by
  cases t <;> first | (exact ⟨rfl, rfl⟩) | cases h
def FTb (ci : Nat) : Prop := ∃ (C : String) (T : u_T) (N : Nat) (ty : Nat → FieldType), vwCl[ci]? = some (C, T, N) ∧ (∀ k, k < N → parseFieldDescriptor (T k).2.2.1 = some (ty k)) ∧ (∀ a, a < N → ∀ b, b < N → a ≠ b → (T a).2.1 ≠ (T b).2.1) ∧ (fl ci).length = N ∧ ∀ k, k < N → (fl ci)[k]? = some (refTy (ty k)) ∧ (refTy (ty k) = false → ty k = .int)
theorem ftb_0 : FTb 0 := ⟨RX0, TX0, 4, tyX0, rfl, tyX0_ok, nmX0, rfl, by decide +kernel⟩
theorem ftb_1 : FTb 1 := ⟨RX1, TX1, 6, tyX1, rfl, tyX1_ok, nmX1, rfl, by decide +kernel⟩
theorem ftb_2 : FTb 2 := ⟨RX2, TX2, 1, tyX2, rfl, tyX2_ok, nmX2, rfl, by decide +kernel⟩
theorem ftb_3 : FTb 3 := ⟨RX3, TX3, 2, tyX3, rfl, tyX3_ok, nmX3, rfl, by decide +kernel⟩
theorem ftb_4 : FTb 4 := ⟨RX4, TX4, 4, tyX4, rfl, tyX4_ok, nmX4, rfl, by decide +kernel⟩
theorem ftb_5 : FTb 5 := ⟨RX5, TX5, 2, tyX5, rfl, tyX5_ok, nmX5, rfl, by decide +kernel⟩
theorem ftb_6 : FTb 6 := ⟨RX6, TX6, 5, tyX6, rfl, tyX6_ok, nmX6, rfl, by decide +kernel⟩
theorem ftb_7 : FTb 7 := ⟨RX7, TX7, 2, tyX7, rfl, tyX7_ok, nmX7, rfl, by decide +kernel⟩
theorem ftb_8 : FTb 8 := ⟨RX8, TX8, 5, tyX8, rfl, tyX8_ok, nmX8, rfl, by decide +kernel⟩
theorem ftb_9 : FTb 9 := ⟨RX9, TX9, 3, tyX9, rfl, tyX9_ok, nmX9, rfl, by decide +kernel⟩
theorem ftb_10 : FTb 10 := ⟨RX10, TX10, 10, tyX10, rfl, tyX10_ok, nmX10, rfl, by decide +kernel⟩
theorem ftb_11 : FTb 11 := ⟨RX11, TX11, 25, tyX11, rfl, tyX11_ok, nmX11, rfl, by decide +kernel⟩
theorem ftb : ∀ {ci : Nat} {q : vw_C}, vwCl[ci]? = some q → FTb ci
  | 0, _, _ => ftb_0
  | 1, _, _ => ftb_1
  | 2, _, _ => ftb_2
  | 3, _, _ => ftb_3
  | 4, _, _ => ftb_4
  | 5, _, _ => ftb_5
  | 6, _, _ => ftb_6
  | 7, _, _ => ftb_7
  | 8, _, _ => ftb_8
  | 9, _, _ => ftb_9
  | 10, _, _ => ftb_10
  | 11, _, _ => ftb_11
  | k + 12, _, h => by simp [vwCl] at h
def fnl (ci k : Nat) : Bool := match vwCl[ci]? with
  | some (_, T, _) => (T k).2.2.2
  | none => false
theorem mx_code : Cond.code Lib.Math.max.name Lib.Math.max.code 2 (some .int) ∈ WS := memT 36 (by decide +kernel) (by decide +kernel)
theorem mx_stat : Cond.static Lib.Math.max.name ∈ WS := memT 35 (by decide +kernel) (by decide +kernel)
theorem mn_code : Cond.code Lib.Math.min.name Lib.Math.min.code 2 (some .int) ∈ WS := memT 509 (by decide +kernel) (by decide +kernel)
theorem mn_stat : Cond.static Lib.Math.min.name ∈ WS := memT 508 (by decide +kernel) (by decide +kernel)
theorem ml_code : Cond.code Lib.MathLoose.max_long.x Lib.MathLoose.max_long.code 4 (some .long) ∈ WS := memT 481 (by decide +kernel) (by decide +kernel)
theorem ml_stat : Cond.static Lib.MathLoose.max_long.x ∈ WS := memT 480 (by decide +kernel) (by decide +kernel)
theorem ma_init : Cond.initialized "java/lang/Math" ∈ WS := memT 4 (by decide +kernel) (by decide +kernel)
theorem oi_inst : Cond.instanceMethod Lib.objectInit ∈ WS := memT 20 (by decide +kernel) (by decide +kernel)
theorem oi_code : Cond.code Lib.objectInit ⟨#[0xb1]⟩ 1 none ∈ WS := memT 21 (by decide +kernel) (by decide +kernel)
section VM
variable {μ : Mt} {Q : PQ} {k n : Nat} {sh : ShT} {mi : MI} {mr : MR} {ls : List (Option AV)} {st : List AV} {pc : Nat}
theorem V_geti {idx ci kf : Nat} {a : Nat} (j : Int) (hd : decode μ.2.1 pc = .ok (.getfield idx, 3)) (hf : FLk μ.1 idx ci kf) (hs : sh[a]? = some (.inl ci)) (hb : (fl ci)[kf]? = some false) (hj : (kf : Int) = j) (kk : V μ Q k n sh mi mr ls (vi (mi a j) :: st) (pc + 3)) : V μ Q k n sh mi mr ls (vr a :: st) (pc) := by
  intro p l e s m args below meth c D A ρ dA H locs la Qm hC hR hS hL hH
  obtain ⟨C, T, N, hc, hk, hT, hin, hw⟩ := hf
  subst hj
  have hsame : ∀ x, s.fieldFound? (T kf).1 (T kf).2.1 (T kf).2.2.1 = some x → s.fieldFound? C (T kf).2.1 (T kf).2.2.1 = some x := fun x h => by rw [hT] at h; exact h
  rcases hw with hw | ⟨host, hw⟩
  · exact va_get hC.1 hC.2.1 hC.2.2.2.2.1 hin hC.2.2.2.1 hR.ks hR.1 a (wld_get hs) hc kf hk (hC.2.2.2.2.1 _ hw) hsame (fls_geti hb) hd (kk p l e s m args below meth c D A ρ dA H locs la Qm hC hR hS hL hH)
  · exact va_getN hC.1 hC.2.1 hC.2.2.2.2.1 hin hC.2.2.2.1 hR.ks hR.1 a (wld_get hs) hc kf hk (va_Nw.use rfl (hC.2.2.2.2.2.2.2.1.1 _ hw)) hsame (fls_geti hb) hd (kk p l e s m args below meth c D A ρ dA H locs la Qm hC hR hS hL hH)
theorem V_getr {idx ci kf : Nat} {a : Nat} (j : Int) (b : Nat) (hd : decode μ.2.1 pc = .ok (.getfield idx, 3)) (hf : FLk μ.1 idx ci kf) (hs : sh[a]? = some (.inl ci)) (hb : (fl ci)[kf]? = some true) (hj : (kf : Int) = j) (hr : mr a j = some b) (kk : V μ Q k n sh mi mr ls (vr b :: st) (pc + 3)) : V μ Q k n sh mi mr ls (vr a :: st) (pc) := by
  intro p l e s m args below meth c D A ρ dA H locs la Qm hC hR hS hL hH
  obtain ⟨C, T, N, hc, hk, hT, hin, hw⟩ := hf
  subst hj
  have hsame : ∀ x, s.fieldFound? (T kf).1 (T kf).2.1 (T kf).2.2.1 = some x → s.fieldFound? C (T kf).2.1 (T kf).2.2.1 = some x := fun x h => by rw [hT] at h; exact h
  have hv := fls_getr (ρ := ρ) (fi := mi a) (fr := mr a) hb
  rw [hr] at hv
  rcases hw with hw | ⟨host, hw⟩
  · exact va_get hC.1 hC.2.1 hC.2.2.2.2.1 hin hC.2.2.2.1 hR.ks hR.1 a (wld_get hs) hc kf hk (hC.2.2.2.2.1 _ hw) hsame hv hd (kk p l e s m args below meth c D A ρ dA H locs la Qm hC hR hS hL hH)
  · exact va_getN hC.1 hC.2.1 hC.2.2.2.2.1 hin hC.2.2.2.1 hR.ks hR.1 a (wld_get hs) hc kf hk (va_Nw.use rfl (hC.2.2.2.2.2.2.2.1.1 _ hw)) hsame hv hd (kk p l e s m args below meth c D A ρ dA H locs la Qm hC hR hS hL hH)
theorem V_puti {idx ci kf : Nat} {a : Nat} {v : Int} (j : Int) (hd : decode μ.2.1 pc = .ok (.putfield idx, 3)) (hf : FLk μ.1 idx ci kf) (hs : sh[a]? = some (.inl ci)) (hb : (fl ci)[kf]? = some false) (hfin : fnl ci kf = false) (hj : (kf : Int) = j) (kk : V μ Q k n sh (up2 mi a j v) mr ls (st) (pc + 3)) : V μ Q k n sh mi mr ls (vi v :: vr a :: st) (pc) := by
  intro p l e s m args below meth c D A ρ dA H locs la Qm hC hR hS hL hH
  obtain ⟨C, T, N, hc, hk, hT, hin, hw⟩ := hf
  subst hj
  obtain ⟨C', T', N', ty, hc', hty, hnm, hlen, hfl⟩ := ftb hc
  obtain ⟨rfl, rfl, rfl⟩ : C' = C ∧ T' = T ∧ N' = N := by
    have h9 := Option.some.inj (hc'.symm.trans hc)
    exact ⟨congrArg (fun q => q.1) h9, congrArg (fun q => q.2.1) h9, congrArg (fun q => q.2.2) h9⟩
  have hfin0 : (T' kf).2.2.2 = false := by
    have h9 := hfin
    simp only [fnl, hc] at h9
    exact h9
  have hk2 := hfl kf hk
  have hrt := Option.some.inj (hk2.1.symm.trans hb)
  have hkl : kf < (fls ρ (mi a) (mr a) ci).length := by rw [fls_len]; exact lt_of_get hb
  have hsame : ∀ x, s.fieldFound? (T' kf).1 (T' kf).2.1 (T' kf).2.2.1 = some x → s.fieldFound? C' (T' kf).2.1 (T' kf).2.2.1 = some x := fun x h => by rw [hT] at h; exact h
  have hint : ty kf = .int := hk2.2 hrt
  rcases hw with hw | ⟨host, hw⟩
  · exact va_put (v := .int (Int32.ofInt v)) hC.1 hC.2.1 hC.2.2.2.2.1 hin ty hty hnm hC.2.2.2.1 hR.ks hR.1 hR.2.1 hS a (wld_get hs) hc kf hk (hC.2.2.2.2.1 _ hw) hsame hfin0 (hty kf hk) (by rw [hint]; rfl) (by rw [hint]; rfl) hkl hd (fun H1 locs1 hP hD hS1 => by
      have hw : (wld ρ dA sh mi mr).set a (ρ a, .inr (ci, (fls ρ (mi a) (mr a) ci).set kf (.int (Int32.ofInt v)))) = wld ρ dA sh (up2 mi a (kf : Int) v) mr := wld_set hs (by rw [fls_seti v hb]; simp [cel, up2_s]) (fun x hx => up2_n mi _ v hx) (fun _ _ => rfl)
      rw [hw] at hP hD
      exact kk p l e s m args below meth c D A ρ dA H1 locs1 la Qm hC (hR.store hP hD hR.2.2.2.2.2) hS1 hL hH)
  · exact va_putN (v := .int (Int32.ofInt v)) hC.1 hC.2.1 hC.2.2.2.2.1 hin ty hty hnm hC.2.2.2.1 hR.ks hR.1 hR.2.1 hS a (wld_get hs) hc kf hk (va_Nw.use rfl (hC.2.2.2.2.2.2.2.1.1 _ hw)) hsame hfin0 (hty kf hk) (by rw [hint]; rfl) (by rw [hint]; rfl) hkl hd (fun H1 locs1 hP hD hS1 => by
      have hw : (wld ρ dA sh mi mr).set a (ρ a, .inr (ci, (fls ρ (mi a) (mr a) ci).set kf (.int (Int32.ofInt v)))) = wld ρ dA sh (up2 mi a (kf : Int) v) mr := wld_set hs (by rw [fls_seti v hb]; simp [cel, up2_s]) (fun x hx => up2_n mi _ v hx) (fun _ _ => rfl)
      rw [hw] at hP hD
      exact kk p l e s m args below meth c D A ρ dA H1 locs1 la Qm hC (hR.store hP hD hR.2.2.2.2.2) hS1 hL hH)
theorem V_putr {idx ci kf : Nat} {a b : Nat} (j : Int) (hd : decode μ.2.1 pc = .ok (.putfield idx, 3)) (hf : FLk μ.1 idx ci kf) (hs : sh[a]? = some (.inl ci)) (hb : (fl ci)[kf]? = some true) (hfin : fnl ci kf = false) (hj : (kf : Int) = j) (hbl : b < sh.length) (kk : V μ Q k n sh mi (up2 mr a j (some b)) ls (st) (pc + 3)) : V μ Q k n sh mi mr ls (vr b :: vr a :: st) (pc) := by
  intro p l e s m args below meth c D A ρ dA H locs la Qm hC hR hS hL hH
  obtain ⟨C, T, N, hc, hk, hT, hin, hw⟩ := hf
  subst hj
  obtain ⟨C', T', N', ty, hc', hty, hnm, hlen, hfl⟩ := ftb hc
  obtain ⟨rfl, rfl, rfl⟩ : C' = C ∧ T' = T ∧ N' = N := by
    have h9 := Option.some.inj (hc'.symm.trans hc)
    exact ⟨congrArg (fun q => q.1) h9, congrArg (fun q => q.2.1) h9, congrArg (fun q => q.2.2) h9⟩
  have hfin0 : (T' kf).2.2.2 = false := by
    have h9 := hfin
    simp only [fnl, hc] at h9
    exact h9
  have hk2 := hfl kf hk
  have hrt := Option.some.inj (hk2.1.symm.trans hb)
  have hkl : kf < (fls ρ (mi a) (mr a) ci).length := by rw [fls_len]; exact lt_of_get hb
  have hsame : ∀ x, s.fieldFound? (T' kf).1 (T' kf).2.1 (T' kf).2.2.1 = some x → s.fieldFound? C' (T' kf).2.1 (T' kf).2.2.1 = some x := fun x h => by rw [hT] at h; exact h
  have hnf := ref_nf hrt (ρ b)
  rcases hw with hw | ⟨host, hw⟩
  · exact va_put (v := .ref (ρ b)) hC.1 hC.2.1 hC.2.2.2.2.1 hin ty hty hnm hC.2.2.2.1 hR.ks hR.1 hR.2.1 hS a (wld_get hs) hc kf hk (hC.2.2.2.2.1 _ hw) hsame hfin0 (hty kf hk) hnf.1 hnf.2 hkl hd (fun H1 locs1 hP hD hS1 => by
      have hw : (wld ρ dA sh mi mr).set a (ρ a, .inr (ci, (fls ρ (mi a) (mr a) ci).set kf (.ref (ρ b)))) = wld ρ dA sh mi (up2 mr a (kf : Int) (some b)) := wld_set hs (by rw [show (Value.ref (ρ b)) = va_rf ((some b).map ρ) from rfl, fls_setr (some b) hb]; simp [cel, up2_s]) (fun _ _ => rfl) (fun x hx => up2_n mr _ _ hx)
      rw [hw] at hP hD
      exact kk p l e s m args below meth c D A ρ dA H1 locs1 la Qm hC (hR.store hP hD (fun x j y hx hy => by
        by_cases hxa : x = a
        · subst hxa
          by_cases hj : j = (kf : Int)
          · subst hj
            rw [up2_ss] at hy
            cases hy
            exact hbl
          · rw [up2_sn mr x _ hj] at hy
            exact hR.2.2.2.2.2 x j y hx hy
        · rw [up2_n mr _ _ hxa] at hy
          exact hR.2.2.2.2.2 x j y hx hy)) hS1 hL hH)
  · exact va_putN (v := .ref (ρ b)) hC.1 hC.2.1 hC.2.2.2.2.1 hin ty hty hnm hC.2.2.2.1 hR.ks hR.1 hR.2.1 hS a (wld_get hs) hc kf hk (va_Nw.use rfl (hC.2.2.2.2.2.2.2.1.1 _ hw)) hsame hfin0 (hty kf hk) hnf.1 hnf.2 hkl hd (fun H1 locs1 hP hD hS1 => by
      have hw : (wld ρ dA sh mi mr).set a (ρ a, .inr (ci, (fls ρ (mi a) (mr a) ci).set kf (.ref (ρ b)))) = wld ρ dA sh mi (up2 mr a (kf : Int) (some b)) := wld_set hs (by rw [show (Value.ref (ρ b)) = va_rf ((some b).map ρ) from rfl, fls_setr (some b) hb]; simp [cel, up2_s]) (fun _ _ => rfl) (fun x hx => up2_n mr _ _ hx)
      rw [hw] at hP hD
      exact kk p l e s m args below meth c D A ρ dA H1 locs1 la Qm hC (hR.store hP hD (fun x j y hx hy => by
        by_cases hxa : x = a
        · subst hxa
          by_cases hj : j = (kf : Int)
          · subst hj
            rw [up2_ss] at hy
            cases hy
            exact hbl
          · rw [up2_sn mr x _ hj] at hy
            exact hR.2.2.2.2.2 x j y hx hy
        · rw [up2_n mr _ _ hxa] at hy
          exact hR.2.2.2.2.2 x j y hx hy)) hS1 hL hH)
/-- a final field, in its constructor -/
theorem V_putF {idx ci kf : Nat} {a b : Nat} {T : u_T} {N : Nat} (j : Int) (hd : decode μ.2.1 pc = .ok (.putfield idx, 3)) (hc : vwCl[ci]? = some (μ.1, T, N)) (hf : FLk μ.1 idx ci kf) (hpl : Cond.fieldLink μ.1 idx μ.1 (T kf).2.1 (T kf).2.2.1 ∈ WS) (hs : sh[a]? = some (.inl ci)) (hb : (fl ci)[kf]? = some true) (hfin : fnl ci kf = true) (hj : (kf : Int) = j) (hini : μ.2.2.2.2.1 = true) (hbl : b < sh.length) (kk : V μ Q k n sh mi (up2 mr a j (some b)) ls (st) (pc + 3)) : V μ Q k n sh mi mr ls (vr b :: vr a :: st) (pc) := by
  intro p l e s m args below meth c D A ρ dA H locs la Qm hC hR hS hL hH
  obtain ⟨C1, T1, N1, hc1, hk, hT, hin, -⟩ := hf
  obtain ⟨rfl, rfl, rfl⟩ : C1 = μ.1 ∧ T1 = T ∧ N1 = N := by
    have h9 := Option.some.inj (hc1.symm.trans hc)
    exact ⟨congrArg (fun q => q.1) h9, congrArg (fun q => q.2.1) h9, congrArg (fun q => q.2.2) h9⟩
  subst hj
  obtain ⟨C', T', N', ty, hc', hty, hnm, hlen, hfl⟩ := ftb hc
  have h9 := Option.some.inj (hc'.symm.trans hc)
  have e1 : C' = μ.1 := congrArg (fun q => q.1) h9
  have e2 : T' = T1 := congrArg (fun q => q.2.1) h9
  have e3 : N' = N1 := congrArg (fun q => q.2.2) h9
  subst e1 e2 e3
  have hfin0 : (T' kf).2.2.2 = true := by
    have h9 := hfin
    simp only [fnl, hc] at h9
    exact h9
  have hk2 := hfl kf hk
  have hrt := Option.some.inj (hk2.1.symm.trans hb)
  have hkl : kf < (fls ρ (mi a) (mr a) ci).length := by rw [fls_len]; exact lt_of_get hb
  have hsame : ∀ x, s.fieldFound? (T' kf).1 (T' kf).2.1 (T' kf).2.2.1 = some x → s.fieldFound? μ.1 (T' kf).2.1 (T' kf).2.2.1 = some x := fun x h => by rw [hT] at h; exact h
  have hnf := ref_nf hrt (ρ b)
  exact va_putF (v := .ref (ρ b)) hC.1 hC.2.1 hC.2.2.2.2.1 hin ty hty hnm hC.2.2.2.1 hR.ks hR.1 hR.2.1 hS a (wld_get hs) hc kf hk (hC.2.2.2.2.1 _ hpl) hsame hfin0 (hC.2.2.2.2.2.1 hini) hT (hty kf hk) hnf.1 hnf.2 hkl hd (fun H1 locs1 hP hD hS1 => by
      have hw : (wld ρ dA sh mi mr).set a (ρ a, .inr (ci, (fls ρ (mi a) (mr a) ci).set kf (.ref (ρ b)))) = wld ρ dA sh mi (up2 mr a (kf : Int) (some b)) := wld_set hs (by rw [show (Value.ref (ρ b)) = va_rf ((some b).map ρ) from rfl, fls_setr (some b) hb]; simp [cel, up2_s]) (fun _ _ => rfl) (fun x hx => up2_n mr _ _ hx)
      rw [hw] at hP hD
      exact kk p l e s m args below meth c D A ρ dA H1 locs1 la Qm hC (hR.store hP hD (fun x j y hx hy => by
        by_cases hxa : x = a
        · subst hxa
          by_cases hj : j = (kf : Int)
          · subst hj
            rw [up2_ss] at hy
            cases hy
            exact hbl
          · rw [up2_sn mr x _ hj] at hy
            exact hR.2.2.2.2.2 x j y hx hy
        · rw [up2_n mr _ _ hxa] at hy
          exact hR.2.2.2.2.2 x j y hx hy)) hS1 hL hH)
theorem up_cont {f : Int → Int} {i v : Int} (h0 : 0 ≤ i) (e : (Int32.ofInt i).toNatClampNeg = i.toNat) : upd (fun j => Int32.ofInt (f j)) (Int32.ofInt i).toNatClampNeg (Int32.ofInt v) = fun j : Nat => Int32.ofInt (up1 f i v j) := by
  funext j
  rw [e]
  by_cases hj : j = i.toNat
  · have : (j : Int) = i := by omega
    simp [upd, up1, hj, this, Int.max_eq_left h0]
  · have : ¬ (j : Int) = i := by omega
    simp [upd, up1, hj, this]
theorem up_contL {f : Int → Int} {i v : Int} (h0 : 0 ≤ i) (e : (Int32.ofInt i).toNatClampNeg = i.toNat) : vp_updL (fun j => Int64.ofInt (f j)) (Int32.ofInt i).toNatClampNeg (Int64.ofInt v) = fun j : Nat => Int64.ofInt (up1 f i v j) := by
  funext j
  rw [e]
  by_cases hj : j = i.toNat
  · have : (j : Int) = i := by omega
    simp [vp_updL, up1, hj, this, Int.max_eq_left h0]
  · have : ¬ (j : Int) = i := by omega
    simp [vp_updL, up1, hj, this]
theorem up_contQ {ρ : Nat → Nat} {f : Int → Option Nat} {i : Int} {b : Nat} (h0 : 0 ≤ i) (e : (Int32.ofInt i).toNatClampNeg = i.toNat) : va_up (fun j : Nat => (f j).map ρ) (Int32.ofInt i).toNatClampNeg (some (ρ b)) = fun j : Nat => (up1 f i (some b) j).map ρ := by
  funext j
  rw [e]
  by_cases hj : j = i.toNat
  · have : (j : Int) = i := by omega
    simp [va_up, up1, hj, this, Int.max_eq_left h0]
  · have : ¬ (j : Int) = i := by omega
    simp [va_up, up1, hj, this]
theorem V_iald {a N : Nat} {i : Int} (hd : decode μ.2.1 pc = .ok (.iaload, 1)) (hs : sh[a]? = some (.inr (0, N))) (hN : N ≤ 2147483648) (hi : 0 ≤ i ∧ i < N) (kk : V μ Q k n sh mi mr ls (vi (mi a i) :: st) (pc + 1)) : V μ Q k n sh mi mr ls (vi i :: vr a :: st) (pc) := by
  intro p l e s m args below meth c D A ρ dA H locs la Qm hC hR hS hL hH
  obtain ⟨h1, h2⟩ := i_in hi hN
  refine va_iald hC.1 hC.2.1 (hR.tys hs) hR.1 a 0 (wld_get hs) rfl h1 hd ?_
  rw [h2, show ((i.toNat : Nat) : Int) = i from Int.toNat_of_nonneg hi.1]
  exact kk p l e s m args below meth c D A ρ dA H locs la Qm hC hR hS hL hH
theorem V_cald {a N : Nat} {i : Int} (hd : decode μ.2.1 pc = .ok (.caload, 1)) (hs : sh[a]? = some (.inr (2, N))) (hN : N ≤ 2147483648) (hi : 0 ≤ i ∧ i < N) (kk : V μ Q k n sh mi mr ls (vi (mi a i) :: st) (pc + 1)) : V μ Q k n sh mi mr ls (vi i :: vr a :: st) (pc) := by
  intro p l e s m args below meth c D A ρ dA H locs la Qm hC hR hS hL hH
  obtain ⟨h1, h2⟩ := i_in hi hN
  refine va_cald hC.1 hC.2.1 (hR.tys hs) hR.1 a 0 (wld_get hs) rfl h1 hd ?_
  rw [h2, show ((i.toNat : Nat) : Int) = i from Int.toNat_of_nonneg hi.1]
  exact kk p l e s m args below meth c D A ρ dA H locs la Qm hC hR hS hL hH
theorem V_lald {a N : Nat} {i : Int} (hd : decode μ.2.1 pc = .ok (.laload, 1)) (hs : sh[a]? = some (.inr (1, N))) (hN : N ≤ 2147483648) (hi : 0 ≤ i ∧ i < N) (kk : V μ Q k n sh mi mr ls (vl (mi a i) :: st) (pc + 1)) : V μ Q k n sh mi mr ls (vi i :: vr a :: st) (pc) := by
  intro p l e s m args below meth c D A ρ dA H locs la Qm hC hR hS hL hH
  obtain ⟨h1, h2⟩ := i_in hi hN
  refine va_lald hC.1 hC.2.1 (hR.tys hs) hR.1 a 0 (wld_get hs) rfl h1 hd ?_
  rw [h2, show ((i.toNat : Nat) : Int) = i from Int.toNat_of_nonneg hi.1]
  exact kk p l e s m args below meth c D A ρ dA H locs la Qm hC hR hS hL hH
theorem V_aald {a N b : Nat} {i : Int} (hd : decode μ.2.1 pc = .ok (.aaload, 1)) (hs : sh[a]? = some (.inr (3, N))) (hN : N ≤ 2147483648) (hi : 0 ≤ i ∧ i < N) (hr : mr a i = some b) (kk : V μ Q k n sh mi mr ls (vr b :: st) (pc + 1)) : V μ Q k n sh mi mr ls (vi i :: vr a :: st) (pc) := by
  intro p l e s m args below meth c D A ρ dA H locs la Qm hC hR hS hL hH
  obtain ⟨h1, h2⟩ := i_in hi hN
  refine va_aldq hC.1 hC.2.1 (hR.tys hs) hR.1 a 0 (wld_get hs) rfl h1 hd ?_
  rw [h2, show ((i.toNat : Nat) : Int) = i from Int.toNat_of_nonneg hi.1, hr]
  exact kk p l e s m args below meth c D A ρ dA H locs la Qm hC hR hS hL hH
theorem V_alen {a N t : Nat} (hd : decode μ.2.1 pc = .ok (.arraylength, 1)) (hs : sh[a]? = some (.inr (t, N))) (kk : V μ Q k n sh mi mr ls (vi (N : Int) :: st) (pc + 1)) : V μ Q k n sh mi mr ls (vr a :: st) (pc) := by
  intro p l e s m args below meth c D A ρ dA H locs la Qm hC hR hS hL hH
  exact va_alen (v := Int32.ofInt (N : Int)) hC.1 hC.2.1 (hR.tys hs) hR.1 a 0 (wld_get hs) rfl Int32.ofInt_eq_ofNat.symm hd (kk p l e s m args below meth c D A ρ dA H locs la Qm hC hR hS hL hH)
theorem V_iast {a N : Nat} {i v : Int} (hd : decode μ.2.1 pc = .ok (.iastore, 1)) (hs : sh[a]? = some (.inr (0, N))) (hN : N ≤ 2147483648) (hi : 0 ≤ i ∧ i < N) (kk : V μ Q k n sh (up2 mi a i v) mr ls (st) (pc + 1)) : V μ Q k n sh mi mr ls (vi v :: vi i :: vr a :: st) (pc) := by
  intro p l e s m args below meth c D A ρ dA H locs la Qm hC hR hS hL hH
  obtain ⟨h1, h2⟩ := i_in hi hN
  refine va_iast hC.1 hC.2.1 (hR.tys hs) hR.1 hR.2.1 hS a 0 (wld_get hs) rfl h1 hd (fun H1 locs1 hP hD hS1 => ?_)
  have hw : (wld ρ dA sh mi mr).set a (ρ a, .inl (dA a, N, .inl (upd (fun j => Int32.ofInt (mi a j)) (Int32.ofInt i).toNatClampNeg (Int32.ofInt v)))) = wld ρ dA sh (up2 mi a i v) mr := wld_set hs (by rw [up_cont hi.1 h2]; simp [cel, cont, up2_s]) (fun x hx => up2_n mi _ v hx) (fun _ _ => rfl)
  rw [hw] at hP hD
  exact kk p l e s m args below meth c D A ρ dA H1 locs1 la Qm hC (hR.store hP hD hR.2.2.2.2.2) hS1 hL hH
theorem V_last {a N : Nat} {i v : Int} (hd : decode μ.2.1 pc = .ok (.lastore, 1)) (hs : sh[a]? = some (.inr (1, N))) (hN : N ≤ 2147483648) (hi : 0 ≤ i ∧ i < N) (kk : V μ Q k n sh (up2 mi a i v) mr ls (st) (pc + 1)) : V μ Q k n sh mi mr ls (vl v :: vi i :: vr a :: st) (pc) := by
  intro p l e s m args below meth c D A ρ dA H locs la Qm hC hR hS hL hH
  obtain ⟨h1, h2⟩ := i_in hi hN
  refine va_last hC.1 hC.2.1 (hR.tys hs) hR.1 hR.2.1 hS a 0 (wld_get hs) rfl h1 hd (fun H1 locs1 hP hD hS1 => ?_)
  have hw : (wld ρ dA sh mi mr).set a (ρ a, .inl (dA a, N, .inr (.inl (vp_updL (fun j => Int64.ofInt (mi a j)) (Int32.ofInt i).toNatClampNeg (Int64.ofInt v))))) = wld ρ dA sh (up2 mi a i v) mr := wld_set hs (by rw [up_contL hi.1 h2]; simp [cel, cont, up2_s]) (fun x hx => up2_n mi _ v hx) (fun _ _ => rfl)
  rw [hw] at hP hD
  exact kk p l e s m args below meth c D A ρ dA H1 locs1 la Qm hC (hR.store hP hD hR.2.2.2.2.2) hS1 hL hH
theorem V_cast {a N : Nat} {i v : Int} (hd : decode μ.2.1 pc = .ok (.castore, 1)) (hs : sh[a]? = some (.inr (2, N))) (hN : N ≤ 2147483648) (hi : 0 ≤ i ∧ i < N) (hv : 0 ≤ v ∧ v < 65536) (kk : V μ Q k n sh (up2 mi a i v) mr ls (st) (pc + 1)) : V μ Q k n sh mi mr ls (vi v :: vi i :: vr a :: st) (pc) := by
  intro p l e s m args below meth c D A ρ dA H locs la Qm hC hR hS hL hH
  obtain ⟨h1, h2⟩ := i_in hi hN
  refine va_cast hC.1 hC.2.1 (hR.tys hs) hR.1 hR.2.1 hS a 0 (wld_get hs) rfl h1 hd (fun H1 locs1 hP hD hS1 => ?_)
  rw [show vp_nar .char (Int32.ofInt v) = Int32.ofInt v by
    obtain ⟨j, rfl⟩ := Int.eq_ofNat_of_zero_le hv.1
    rw [show Int32.ofInt (j : Int) = nI j by rw [Int32.ofInt_eq_ofNat]; rfl]
    have h9 := (pk_charN (q := j) (by omega)).1
    simp only [vp_nar, h9]] at hP hD
  have hw : (wld ρ dA sh mi mr).set a (ρ a, .inl (dA a, N, .inl (upd (fun j => Int32.ofInt (mi a j)) (Int32.ofInt i).toNatClampNeg (Int32.ofInt v)))) = wld ρ dA sh (up2 mi a i v) mr := wld_set hs (by rw [up_cont hi.1 h2]; simp [cel, cont, up2_s]) (fun x hx => up2_n mi _ v hx) (fun _ _ => rfl)
  rw [hw] at hP hD
  exact kk p l e s m args below meth c D A ρ dA H1 locs1 la Qm hC (hR.store hP hD hR.2.2.2.2.2) hS1 hL hH
theorem V_aast {a N b : Nat} {i : Int} (hd : decode μ.2.1 pc = .ok (.aastore, 1)) (hs : sh[a]? = some (.inr (3, N))) (hN : N ≤ 2147483648) (hi : 0 ≤ i ∧ i < N) (hb : sh[b]? = some (.inl 9)) (kk : V μ Q k n sh mi (up2 mr a i (some b)) ls (st) (pc + 1)) : V μ Q k n sh mi mr ls (vr b :: vi i :: vr a :: st) (pc) := by
  intro p l e s m args below meth c D A ρ dA H locs la Qm hC hR hS hL hH
  obtain ⟨h1, h2⟩ := i_in hi hN
  refine va_astq (r := (RX9, TX9, 3)) hC.1 hC.2.1 (hR.tys hs) hR.1 hR.2.1 hS a 0 b 9 (wld_get hs) rfl (wld_get hb) rfl h1 hd (fun H1 locs1 hP hD hS1 => ?_)
  have hw : (wld ρ dA sh mi mr).set a (ρ a, .inl (dA a, N, .inr (.inr (.inr (.inr (va_up (fun j : Nat => (mr a j).map ρ) (Int32.ofInt i).toNatClampNeg (some (ρ b)))))))) = wld ρ dA sh mi (up2 mr a i (some b)) := wld_set hs (by rw [up_contQ hi.1 h2]; simp [cel, cont, up2_s]) (fun _ _ => rfl) (fun x hx => up2_n mr _ _ hx)
  rw [hw] at hP hD
  exact kk p l e s m args below meth c D A ρ dA H1 locs1 la Qm hC (hR.store hP hD (fun x j y hx hy => by
    by_cases hxa : x = a
    · subst hxa
      by_cases hj : j = i
      · subst hj
        rw [up2_ss] at hy
        cases hy
        exact lt_of_get hb
      · rw [up2_sn mr x _ hj] at hy
        exact hR.2.2.2.2.2 x j y hx hy
    · rw [up2_n mr _ _ hxa] at hy
      exact hR.2.2.2.2.2 x j y hx hy)) hS1 hL hH
theorem V_gets {idx : Nat} (j : Nat) (hj : j < 3) (hd : decode μ.2.1 pc = .ok (.getstatic idx, 3)) (hw : Cond.fieldLink μ.1 idx "DiagonalTexts" (snm j) "[I" ∈ WS ∨ ∃ host, Cond.fieldLinkNest μ.1 idx "DiagonalTexts" (snm j) "[I" host ∈ NW) (kk : V μ Q k n sh mi mr ls (vr (1000 + j) :: st) (pc + 3)) : V μ Q k n sh mi mr ls (st) (pc) := by
  intro p l e s m args below meth c D A ρ dA H locs la Qm hC hR hS hL hH
  have hZ := (hC.2.2.2.2.2.2.2.1.2.2 j hj).1
  rcases hw with hw | ⟨host, hw⟩
  · exact va_gets hC.1 hC.2.1 hZ hS hC.2.2.2.1 (hC.2.2.2.2.1 _ hw) (fun _ h => h) hd (kk p l e s m args below meth c D A ρ dA H locs la Qm hC hR hS hL hH)
  · exact va_getsN hC.1 hC.2.1 hZ hS hC.2.2.2.1 (va_Nw.use rfl (hC.2.2.2.2.2.2.2.1.1 _ hw)) (fun _ h => h) hd (kk p l e s m args below meth c D A ρ dA H locs la Qm hC hR hS hL hH)
theorem V_stld {j : Nat} {i : Int} (hj : j < 3) (hd : decode μ.2.1 pc = .ok (.iaload, 1)) (hi : 0 ≤ i ∧ i < 3) (kk : V μ Q k n sh mi mr ls (vi (svF j i) :: st) (pc + 1)) : V μ Q k n sh mi mr ls (vi i :: vr (1000 + j) :: st) (pc) := by
  intro p l e s m args below meth c D A ρ dA H locs la Qm hC hR hS hL hH
  obtain ⟨cell, g1, g2, g3, g4, g5, g6, g7⟩ := (hC.2.2.2.2.2.2.2.1.2.2 j hj).2
  obtain ⟨h1, h2⟩ := i_in (n := 3) hi (by decide)
  have hH1 : H[ρ (1000 + j)]? = some cell := by rw [hS.2.1 _ (Array.getElem?_eq_some_iff.mp g1).1 g7]; exact g1
  have hv : cell.slots[i.toNat]? = some (.int (Int32.ofInt (svF j i))) := by
    have g9 : cell.slots[i.toNat]? = some (.int (Int32.ofInt (svF j ((i.toNat : Nat) : Int)))) := g6 i.toNat (by omega)
    rw [show ((i.toNat : Nat) : Int) = i from Int.toNat_of_nonneg hi.1] at g9
    exact g9
  exact W.iald (v := .int (Int32.ofInt (svF j i))) hC.1 hC.2.1 hH1 g2 g3 (by rw [h2]; intro q; rcases q with q | q; exact h1 (Or.inl q); omega) (by rw [h2]; exact hv) rfl rfl hd (kk p l e s m args below meth c D A ρ dA H locs la Qm hC hR hS hL hH)
/-- the law's script -/
theorem V_sld {L : Nat} {xs : Nat → Int} {i : Int} (hm : μ.2.2.2.2.2.1 = some (L, xs)) (hN : L ≤ 2147483648) (hd : decode μ.2.1 pc = .ok (.iaload, 1)) (hi : 0 ≤ i ∧ i < L) (kk : V μ Q k n sh mi mr ls (vi (xs i.toNat) :: st) (pc + 1)) : V μ Q k n sh mi mr ls (vi i :: vr 1003 :: st) (pc) := by
  intro p l e s m args below meth c D A ρ dA H locs la Qm hC hR hS hL hH
  obtain ⟨h1, h2⟩ := i_in hi hN
  obtain ⟨g1, g2, g3⟩ := hC.2.2.2.2.2.2.2.2 L xs hm
  refine va_sld hC.1 hC.2.1 g1 g2 g3 hS h1 hd ?_
  rw [h2]
  exact kk p l e s m args below meth c D A ρ dA H locs la Qm hC hR hS hL hH
theorem V_slen {L : Nat} {xs : Nat → Int} (hm : μ.2.2.2.2.2.1 = some (L, xs)) (hd : decode μ.2.1 pc = .ok (.arraylength, 1)) (kk : V μ Q k n sh mi mr ls (vi (L : Int) :: st) (pc + 1)) : V μ Q k n sh mi mr ls (vr 1003 :: st) (pc) := by
  intro p l e s m args below meth c D A ρ dA H locs la Qm hC hR hS hL hH
  obtain ⟨g1, g2, g3⟩ := hC.2.2.2.2.2.2.2.2 L xs hm
  refine va_slen hC.1 hC.2.1 g1 g2 g3 hS hd ?_
  rw [show Int32.ofNat L = Int32.ofInt (L : Int) from Int32.ofInt_eq_ofNat.symm]
  exact kk p l e s m args below meth c D A ρ dA H locs la Qm hC hR hS hL hH
theorem i_max {a b : Int} (ha : rng a) (hb : rng b) : (if Int32.ofInt a < Int32.ofInt b then Int32.ofInt b else Int32.ofInt a) = Int32.ofInt (max a b) := by
  simp only [i_lt ha hb]
  split
  · rw [Int.max_eq_right (by omega)]
  · rw [Int.max_eq_left (by omega)]
theorem i_min {a b : Int} (ha : rng a) (hb : rng b) : (if Int32.ofInt b < Int32.ofInt a then Int32.ofInt b else Int32.ofInt a) = Int32.ofInt (min a b) := by
  simp only [i_lt hb ha]
  split
  · rw [Int.min_eq_right (by omega)]
  · rw [Int.min_eq_left (by omega)]
theorem l_max {a b : Int} (ha : lrng a) (hb : lrng b) : (if Int64.ofInt b < Int64.ofInt a then Int64.ofInt a else Int64.ofInt b) = Int64.ofInt (max a b) := by
  simp only [l_lt hb ha]
  split
  · rw [Int.max_eq_left (by omega)]
  · rw [Int.max_eq_right (by omega)]
theorem cat_sum (ρ : Nat → Nat) (st : List AV) : ((st.map (rv ρ)).map fun v => v.category).sum = (st.map acat).sum := by
  rw [List.map_map]
  congr 1
  apply List.map_congr_left
  intro v _
  exact acat_eq ρ v
theorem V_mmax {idx : Nat} {a b : Int} (hd : decode μ.2.1 pc = .ok (.invokestatic idx, 3)) (hw : Cond.methodLink μ.1 idx Lib.Math.max.name ∈ WS) (ha : rng a) (hb : rng b) (hR1 : 1 ≤ μ.2.2.2.1.frames ∧ (st.map acat).sum + 13 ≤ μ.2.2.2.1.locals ∧ k ≤ μ.2.2.2.1.cells ∧ n ≤ μ.2.2.2.1.slots) (kk : V μ Q k n sh mi mr ls (vi (max a b) :: st) (pc + 3)) : V μ Q k n sh mi mr ls (vi b :: vi a :: st) (pc) := by
  intro p l e s m args below meth c D A ρ dA H locs la Qm hC hR hS hL hH
  refine va_mmax hC.1 hC.2.1 (hC.2.2.1.trans hL.1.symm) hC.2.2.2.1 (hC.2.2.2.2.1 _ hw) (hC.2.2.2.2.1 _ mx_stat) (hC.2.2.2.2.1 _ ma_init) (hC.2.2.2.2.1 _ mx_code) hR1.1 (by rw [cat_sum]; exact hR1.2.1) hR1.2.2.1 hR1.2.2.2 hd ?_
  rw [i_max ha hb]
  exact kk p l e s m args below meth c D A ρ dA H locs la Qm hC hR hS hL hH
theorem V_mmin {idx : Nat} {a b : Int} (hd : decode μ.2.1 pc = .ok (.invokestatic idx, 3)) (hw : Cond.methodLink μ.1 idx Lib.Math.min.name ∈ WS) (ha : rng a) (hb : rng b) (hR1 : 1 ≤ μ.2.2.2.1.frames ∧ (st.map acat).sum + 13 ≤ μ.2.2.2.1.locals ∧ k ≤ μ.2.2.2.1.cells ∧ n ≤ μ.2.2.2.1.slots) (kk : V μ Q k n sh mi mr ls (vi (min a b) :: st) (pc + 3)) : V μ Q k n sh mi mr ls (vi b :: vi a :: st) (pc) := by
  intro p l e s m args below meth c D A ρ dA H locs la Qm hC hR hS hL hH
  refine va_mmin hC.1 hC.2.1 (hC.2.2.1.trans hL.1.symm) hC.2.2.2.1 (hC.2.2.2.2.1 _ hw) (hC.2.2.2.2.1 _ mn_stat) (hC.2.2.2.2.1 _ ma_init) (hC.2.2.2.2.1 _ mn_code) hR1.1 (by rw [cat_sum]; exact hR1.2.1) hR1.2.2.1 hR1.2.2.2 hd ?_
  rw [i_min ha hb]
  exact kk p l e s m args below meth c D A ρ dA H locs la Qm hC hR hS hL hH
theorem V_mmaxl {idx : Nat} {a b : Int} (hd : decode μ.2.1 pc = .ok (.invokestatic idx, 3)) (hw : Cond.methodLink μ.1 idx Lib.MathLoose.max_long.x ∈ WS) (ha : lrng a) (hb : lrng b) (hR1 : 1 ≤ μ.2.2.2.1.frames ∧ (st.map acat).sum + 15 ≤ μ.2.2.2.1.locals ∧ k ≤ μ.2.2.2.1.cells ∧ n ≤ μ.2.2.2.1.slots) (kk : V μ Q k n sh mi mr ls (vl (max a b) :: st) (pc + 3)) : V μ Q k n sh mi mr ls (vl b :: vl a :: st) (pc) := by
  intro p l e s m args below meth c D A ρ dA H locs la Qm hC hR hS hL hH
  refine va_mmax_long hC.1 hC.2.1 (hC.2.2.1.trans hL.1.symm) hC.2.2.2.1 (hC.2.2.2.2.1 _ hw) (hC.2.2.2.2.1 _ ml_stat) (hC.2.2.2.2.1 _ ma_init) (hC.2.2.2.2.1 _ ml_code) hR1.1 (by rw [cat_sum]; exact hR1.2.1) hR1.2.2.1 hR1.2.2.2 hd ?_
  rw [l_max ha hb]
  exact kk p l e s m args below meth c D A ρ dA H locs la Qm hC hR hS hL hH
theorem V_oinit {idx a : Nat} (hd : decode μ.2.1 pc = .ok (.invokespecial idx, 3)) (hw : Cond.methodLink μ.1 idx Lib.objectInit ∈ WS) (hR1 : 1 ≤ μ.2.2.2.1.frames ∧ (st.map acat).sum + 12 ≤ μ.2.2.2.1.locals) (kk : V μ Q k n sh mi mr ls (st) (pc + 3)) : V μ Q k n sh mi mr ls (vr a :: st) (pc) := by
  intro p l e s m args below meth c D A ρ dA H locs la Qm hC hR hS hL hH
  exact W.objInit hC.1 hC.2.1 hC.2.2.2.1 (hC.2.2.2.2.1 _ hw) (hC.2.2.2.2.1 _ oi_inst) (hC.2.2.2.2.1 _ oi_code) rfl (hL.1.trans hC.2.2.1.symm) rfl hd hR1.1 (by rw [cat_sum]; show 2 * 0 + _ + 12 ≤ _; omega) (kk p l e s m args below meth c D A ρ dA H locs la Qm hC hR hS hL hH)
theorem V_iret {a : Int} (hd : decode μ.2.1 pc = .ok (.ireturn, 1)) (hr : μ.2.2.2.2.2.2 = some .int) (hk : k ≤ μ.2.2.2.1.cells ∧ n ≤ μ.2.2.2.1.slots) (hq : Q (some (vi a)) sh mi mr) : V μ Q k n sh mi mr ls ([vi a]) (pc) := by
  intro p l e s m args below meth c D A ρ dA H locs la Qm hC hR hS hL hH
  exact hH (some (vi a)) sh mi mr ρ dA H locs k n pc la ext.rf (Nat.le_refl _) hq hR hS hk.1 hk.2 (Or.inr (Or.inl ⟨a, rfl, hr, hd⟩))
theorem V_zret {a : Int} (hd : decode μ.2.1 pc = .ok (.ireturn, 1)) (hr : μ.2.2.2.2.2.2 = some .boolean) (hk : k ≤ μ.2.2.2.1.cells ∧ n ≤ μ.2.2.2.1.slots) (h01 : a = 0 ∨ a = 1) (hq : Q (some (vi a)) sh mi mr) : V μ Q k n sh mi mr ls ([vi a]) (pc) := by
  intro p l e s m args below meth c D A ρ dA H locs la Qm hC hR hS hL hH
  exact hH (some (vi a)) sh mi mr ρ dA H locs k n pc la ext.rf (Nat.le_refl _) hq hR hS hk.1 hk.2 (Or.inr (Or.inr (Or.inl ⟨a, rfl, hr, h01, hd⟩)))
theorem V_lret {a : Int} (hd : decode μ.2.1 pc = .ok (.lreturn, 1)) (hr : μ.2.2.2.2.2.2 = some .long) (hk : k ≤ μ.2.2.2.1.cells ∧ n ≤ μ.2.2.2.1.slots) (hq : Q (some (vl a)) sh mi mr) : V μ Q k n sh mi mr ls ([vl a]) (pc) := by
  intro p l e s m args below meth c D A ρ dA H locs la Qm hC hR hS hL hH
  exact hH (some (vl a)) sh mi mr ρ dA H locs k n pc la ext.rf (Nat.le_refl _) hq hR hS hk.1 hk.2 (Or.inr (Or.inr (Or.inr (Or.inl ⟨a, rfl, hr, hd⟩))))
theorem V_aret {a : Nat} {cn : String} (hd : decode μ.2.1 pc = .ok (.areturn, 1)) (hr : μ.2.2.2.2.2.2 = some (.object cn)) (hk : k ≤ μ.2.2.2.1.cells ∧ n ≤ μ.2.2.2.1.slots) (hq : Q (some (vr a)) sh mi mr) : V μ Q k n sh mi mr ls ([vr a]) (pc) := by
  intro p l e s m args below meth c D A ρ dA H locs la Qm hC hR hS hL hH
  exact hH (some (vr a)) sh mi mr ρ dA H locs k n pc la ext.rf (Nat.le_refl _) hq hR hS hk.1 hk.2 (Or.inr (Or.inr (Or.inr (Or.inr ⟨a, cn, rfl, hr, hd⟩))))
theorem V_vret (hd : decode μ.2.1 pc = .ok (.return_, 1)) (hr : μ.2.2.2.2.2.2 = none) (hk : k ≤ μ.2.2.2.1.cells ∧ n ≤ μ.2.2.2.1.slots) (hq : Q none sh mi mr) : V μ Q k n sh mi mr ls ([]) (pc) := by
  intro p l e s m args below meth c D A ρ dA H locs la Qm hC hR hS hL hH
  exact hH none sh mi mr ρ dA H locs k n pc la ext.rf (Nat.le_refl _) hq hR hS hk.1 hk.2 (Or.inl ⟨rfl, hr, hd⟩)
end VM
