/-! ===== DiagonalTexts: the state and the rows ===== -/
/-- now, the history, the typed text -/
abbrev Sg : Type := St × List St × Int × (Int → Int)
def RepC (mi : MI) (mr : MR) (s : Sg) : Prop := ∃ (f fb g gb : Nat) (P : Int → Nat), Now mi mr f fb g gb s.1.1 s.1.2.1 s.1.2.2.1 s.1.2.2.2.1 ∧ (∀ i, 0 ≤ i → i < 3 → mi 6 i = s.1.2.2.2.2 i) ∧ StV s.1 ∧ HiP mr P ∧ Hist mi P s.2.1 ∧ Typ mi s.2.2.1 s.2.2.2
def psh (s : Sg) (σ : St) : Sg := (σ, hpush s.2.1 s.1, s.2.2)
def fset (A : Int → Int) (p v : Int) : Int → Int := fun i => if i = p then v else A i
def cutF (A : Int → Int) (f k : Int) : Int → Int := fun i => if i < f then A i else A (i + k)
def nf (v : Int) : Int := if v = -1 then -1000004 else v
theorem NR.add {n l : Int} {A : Int → Int} (h : NR n A) (hn : n < 28) (hl : 0 ≤ l ∧ l ≤ 7) : NR (n + 1) (fset A n l) := by
  obtain ⟨h1, h2, h3⟩ := h
  refine ⟨by omega, fun i g1 g2 => ?_, fun i g1 => ?_⟩ <;> unfold fset <;> by_cases hi : i = n
  · rw [if_pos hi]; exact hl
  · rw [if_neg hi]; exact h2 i g1 (by omega)
  · omega
  · rw [if_neg hi]; exact h3 i (by omega)
theorem NR.chg {n p l : Int} {A : Int → Int} (h : NR n A) (hp : 0 ≤ p ∧ p < n) (hl : 0 ≤ l ∧ l ≤ 7) : NR n (fset A p l) := by
  obtain ⟨h1, h2, h3⟩ := h
  refine ⟨by omega, fun i g1 g2 => ?_, fun i g1 => ?_⟩ <;> unfold fset <;> by_cases hi : i = p
  · rw [if_pos hi]; exact hl
  · rw [if_neg hi]; exact h2 i g1 (by omega)
  · omega
  · rw [if_neg hi]; exact h3 i (by omega)
theorem NR.cut {n f k : Int} {A : Int → Int} (h : NR n A) (hf : 0 ≤ f) (hk : 1 ≤ k) (hl : f + k ≤ n) : NR (n - k) (cutF A f k) := by
  obtain ⟨h1, h2, h3⟩ := h
  refine ⟨by omega, fun i g1 g2 => ?_, fun i g1 => ?_⟩ <;> unfold cutF <;> by_cases hi : i < f
  · rw [if_pos hi]; exact h2 i g1 (by omega)
  · rw [if_neg hi]; exact h2 (i + k) (by omega) (by omega)
  · rw [if_pos hi]; exact h3 i (by omega)
  · rw [if_neg hi]; exact h3 (i + k) (by omega)
section CLASS
variable {mi mi1 mi2 : MI} {mr mr1 mr2 : MR} {f fb g gb : Nat} {n m n' m' tl : Int} {A B A' B' Z T : Int → Int} {hs : List St} {P : Int → Nat}
theorem Gr.rec (h : Gr mr) (hr : ∀ x, x ≠ 8 → mr1 x = mr x) : Gr mr1 := fun a j b hq => by
  by_cases ha : a = 8
  · subst ha
    simp [grf, grL] at hq
  · rw [hr a ha]; exact h a j b hq
theorem Now.rec (h : Now mi mr f fb g gb n m A B) (hx : ∀ x, (x < 7 ∨ 33 ≤ x) → mi1 x = mi x) (hr : ∀ x, x ≠ 8 → mr1 x = mr x) : Now mi1 mr1 f fb g gb n m A B := by
  obtain ⟨g1, g2, g3, g4⟩ := h.keep (mi' := mi1) (fun x x1 x2 => hx x (by omega))
  exact ⟨by rw [hr 1 (by decide)]; exact g1, g2, g3.rec hr, g4⟩
theorem Now.setF (h : Now mi mr f fb g gb n m A B) (h1 : mi1 f 1 = n') (h2 : ∀ i, 0 ≤ i → i < n' → mi1 fb i = A' i) (h3 : NR n' A') (h4 : ∀ x, x ≠ f → x ≠ fb → mi1 x = mi x) : Now mi1 mr f fb g gb n' m A' B := by
  obtain ⟨g1, g2, g3, g4, g5, g6, g7, g8⟩ := h
  have eg : mi1 g = mi g := h4 g (by omega) (by omega)
  have egb : mi1 gb = mi gb := h4 gb (by omega) (by omega)
  exact ⟨g1, g2, g3, ⟨h1, by rw [eg]; exact g4.2⟩, h2, by rw [egb]; exact g6, h3, g8⟩
theorem Now.setG (h : Now mi mr f fb g gb n m A B) (h1 : mi1 g 1 = m') (h2 : ∀ i, 0 ≤ i → i < m' → mi1 gb i = B' i) (h3 : NR m' B') (h4 : ∀ x, x ≠ g → x ≠ gb → mi1 x = mi x) : Now mi1 mr f fb g gb n m' A B' := by
  obtain ⟨g1, g2, g3, g4, g5, g6, g7, g8⟩ := h
  have eg : mi1 f = mi f := h4 f (by omega) (by omega)
  have egb : mi1 fb = mi fb := h4 fb (by omega) (by omega)
  exact ⟨g1, g2, g3, ⟨by rw [eg]; exact g4.1, h1⟩, by rw [egb]; exact g5, h2, g7, h3⟩
theorem Hist.keep (h : Hist mi P hs) (hP : HiP mr P) (hk : ∀ x, 7 ≤ x → x < 33 → mi1 x = mi x) : Hist mi1 P hs := by
  obtain ⟨h1, h2, h3⟩ := h
  refine ⟨by rw [hk 7 (by decide) (by decide)]; exact h1, h2, fun i σ hi => ⟨?_, (h3 i σ hi).2⟩⟩
  have hv := (hP.1 i (by omega) (by have := lt_of_get hi; omega)).2
  refine (h3 i σ hi).1.keep ?_
  refine ⟨?_, ?_, ?_, ?_, ?_⟩ <;> exact hk _ (by omega) (by omega)
theorem RepC.keep {s : Sg} (h : RepC mi mr s) (hk : ∀ x, 2 ≤ x → x < 35 → mi1 x = mi x) : RepC mi1 mr s := by
  obtain ⟨f, fb, g, gb, P, h1, h2, h3, h4, h5, h6⟩ := h
  exact ⟨f, fb, g, gb, P, h1.keep (fun x x1 x2 => hk x (by omega) (by omega)), fun i i1 i2 => by rw [hk 6 (by decide) (by decide)]; exact h2 i i1 i2, h3, h4, h5.keep h4 (fun x x1 x2 => hk x (by omega) (by omega)), h6.keep (hk 33 (by decide) (by decide)) (hk 34 (by decide) (by decide))⟩
theorem sne (hN : Now mi mr f fb g gb n m A B) : (f < 7 ∧ fb < 7 ∧ g < 7 ∧ gb < 7) ∧ (2 ≤ f ∧ f < 6 ∧ 2 ≤ fb ∧ fb < 6 ∧ 2 ≤ g ∧ g < 6 ∧ 2 ≤ gb ∧ gb < 6) ∧ f ≠ fb ∧ g ≠ gb ∧ f ≠ g ∧ f ≠ gb ∧ fb ≠ g ∧ fb ≠ gb := by
  have := hN.2.1
  omega
theorem RepC.recF {mi3 : MI} {hs' : List St} {P' : Int → Nat} (hN : Now mi mr f fb g gb n m A B) (hZ : ∀ i, 0 ≤ i → i < 3 → mi 6 i = Z i) (hS : StV (n, m, A, B, Z)) (hT : Typ mi tl T) (k1 : HiP mr2 P') (k2 : Hist mi2 P' hs') (k3 : ∀ x, (x < 7 ∨ 33 ≤ x) → mi2 x = mi x) (k4 : ∀ x, x ≠ 8 → mr2 x = mr x) (h1 : mi3 f 1 = n') (h2 : ∀ i, 0 ≤ i → i < n' → mi3 fb i = A' i) (h3 : NR n' A') (h4 : ∀ x, x ≠ f → x ≠ fb → mi3 x = mi2 x) : RepC mi3 mr2 ((n', m, A', B, Z), hs', tl, T) ∧ ∀ x, 62 ≤ x → mi3 x = mi x := by
  have hse := sne hN
  have hN2 := hN.rec k3 k4
  refine ⟨⟨f, fb, g, gb, P', hN2.setF h1 h2 h3 h4, fun i i1 i2 => by rw [h4 6 (by omega) (by omega), k3 6 (by decide)]; exact hZ i i1 i2, ⟨h3, hS.2⟩, k1, k2.keep k1 (fun x x1 x2 => h4 x (by omega) (by omega)), hT.keep (by rw [h4 33 (by omega) (by omega), k3 33 (by decide)]) (by rw [h4 34 (by omega) (by omega), k3 34 (by decide)])⟩, fun x hx => by rw [h4 x (by omega) (by omega), k3 x (by omega)]⟩
theorem RepC.recG {mi3 : MI} {hs' : List St} {P' : Int → Nat} (hN : Now mi mr f fb g gb n m A B) (hZ : ∀ i, 0 ≤ i → i < 3 → mi 6 i = Z i) (hS : StV (n, m, A, B, Z)) (hT : Typ mi tl T) (k1 : HiP mr2 P') (k2 : Hist mi2 P' hs') (k3 : ∀ x, (x < 7 ∨ 33 ≤ x) → mi2 x = mi x) (k4 : ∀ x, x ≠ 8 → mr2 x = mr x) (h1 : mi3 g 1 = m') (h2 : ∀ i, 0 ≤ i → i < m' → mi3 gb i = B' i) (h3 : NR m' B') (h4 : ∀ x, x ≠ g → x ≠ gb → mi3 x = mi2 x) : RepC mi3 mr2 ((n, m', A, B', Z), hs', tl, T) ∧ ∀ x, 62 ≤ x → mi3 x = mi x := by
  have hse := sne hN
  have hN2 := hN.rec k3 k4
  refine ⟨⟨f, fb, g, gb, P', hN2.setG h1 h2 h3 h4, fun i i1 i2 => by rw [h4 6 (by omega) (by omega), k3 6 (by decide)]; exact hZ i i1 i2, ⟨hS.1, h3, hS.2.2⟩, k1, k2.keep k1 (fun x x1 x2 => h4 x (by omega) (by omega)), hT.keep (by rw [h4 33 (by omega) (by omega), k3 33 (by decide)]) (by rw [h4 34 (by omega) (by omega), k3 34 (by decide)])⟩, fun x hx => by rw [h4 x (by omega) (by omega), k3 x (by omega)]⟩
theorem fset_at {b : Nat} {p l k : Int} (h : ∀ i, 0 ≤ i → i < n → i ≠ p → mi b i = A i) (hk : k ≤ n) : ∀ i, 0 ≤ i → i < k → up2 mi b p l b i = fset A p l i := fun i i1 i2 => by
  unfold fset
  by_cases hi : i = p
  · rw [if_pos hi, hi, up2_ss]
  · rw [if_neg hi, up2_sn _ _ _ hi]; exact h i i1 (by omega) hi
set_option maxRecDepth 100000 in
theorem c_X10_orNotFound {sh : ShT} {v : Int} (hv : rng v) : CP yX10_orNotFound cX10_orNotFound 1 (some .int) 0 sh mi mr [vi v] (vi (nf v)) := by
  refine Ct.ofV (ini := false) [some (vi v)] km_X10_orNotFound (by decide) rfl (Nat.le_of_ble_eq_true rfl) ?_
  refine V_iload_n dX10_orNotFound_0 rfl ?_
  refine V_iconst dX10_orNotFound_1 ?_
  refine V_icmp_ne 10 dX10_orNotFound_2 (by decide) (by omega) (by omega) (fun h2 => ?_) (fun h2 => ?_)
  · refine V_iload_n dX10_orNotFound_10 rfl ?_
    refine V_iret dX10_orNotFound_11 rfl ⟨Nat.le_of_ble_eq_true rfl, Nat.le_of_ble_eq_true rfl⟩ ?_
    exact ⟨rfl, svi (by unfold nf; first | (rw [if_pos (by omega)]) | (rw [if_neg (by omega)])), rfl, rfl⟩
  · refine V_ldc (-1000004) dX10_orNotFound_5 kc_RX10_142 rfl ?_
    refine V_goto 11 dX10_orNotFound_7 (by decide) ?_
    refine V_iret dX10_orNotFound_11 rfl ⟨Nat.le_of_ble_eq_true rfl, Nat.le_of_ble_eq_true rfl⟩ ?_
    exact ⟨rfl, svi (by unfold nf; first | (rw [if_pos (by omega)]) | (rw [if_neg (by omega)])), rfl, rfl⟩
/-- a call's answer and what it leaves behind -/
abbrev PoC (o : Int × Sg) (mi : MI) : AV → MI → MR → Prop := fun v mi' mr' => v = vi o.1 ∧ RepC mi' mr' o.2 ∧ ∀ x, 62 ≤ x → mi' x = mi x
def opAppend (n m : Int) (A B Z : Int → Int) (u : List St × Int × (Int → Int)) (row l : Int) : Int × Sg :=
  if ¬ ((0 ≤ row ∧ row ≤ 1) ∧ 0 ≤ l ∧ l ≤ 7) then (-1000001, (n, m, A, B, Z), u)
  else if row = 0 then (if 28 ≤ n then (-1000003, (n, m, A, B, Z), u) else (n + 1, psh ((n, m, A, B, Z), u) (n + 1, m, fset A n l, B, Z)))
  else if 28 ≤ m then (-1000003, (n, m, A, B, Z), u) else (m + 1, psh ((n, m, A, B, Z), u) (n, m + 1, A, fset B m l, Z))
set_option maxRecDepth 100000 in
set_option maxHeartbeats 1000000 in
theorem c_X10_append {row l : Int} (hr : rng row) (hl : rng l) (h : RepC mi mr ((n, m, A, B, Z), hs, tl, T)) : C1 yX10_append cX10_append 4 (some .int) 4 SH mi mr [vr 0, vi row, vi l] (PoC (opAppend n m A B Z (hs, tl, T) row l) mi) := by
  obtain ⟨f, fb, g, gb, P, hN, hZ, hS, hP, hH, hT⟩ := id h
  simp only at hN hZ hS hP hH hT
  obtain ⟨⟨u1, u2, hG⟩, ⟨u4, u5, u6⟩, ⟨u7, u8, u9⟩, ⟨u10, u11, u12⟩, uA, uB, rA, rB⟩ := hN.u
  have hse := sne hN
  refine Ct.ofV (ini := false) [some (vr 0), some (vi row), some (vi l), none] km_X10_append (by decide) rfl (Nat.le_of_ble_eq_true rfl) ?_
  by_cases hin : (0 ≤ row ∧ row ≤ 1) ∧ 0 ≤ l ∧ l ≤ 7
  · have eo : opAppend n m A B Z (hs, tl, T) row l = if row = 0 then (if 28 ≤ n then (-1000003, (n, m, A, B, Z), hs, tl, T) else (n + 1, psh ((n, m, A, B, Z), hs, tl, T) (n + 1, m, fset A n l, B, Z))) else if 28 ≤ m then (-1000003, (n, m, A, B, Z), hs, tl, T) else (m + 1, psh ((n, m, A, B, Z), hs, tl, T) (n, m + 1, A, fset B m l, Z)) := by
      unfold opAppend; rw [if_neg (not_not_intro hin)]
    rw [eo]
    have e1 : (if 0 ≤ row ∧ row ≤ 1 then (1 : Int) else 0) = 1 := if_pos hin.1
    have e2 : (if 0 ≤ l ∧ l ≤ 7 then (1 : Int) else 0) = 1 := if_pos hin.2
    rcases (show row = 0 ∨ row = 1 by omega) with rfl | rfl
    · rw [if_pos rfl]
      refine V_iload_n dX10_append_0 rfl ?_
      refine V_iconst dX10_append_1 ?_
      refine V_iconst dX10_append_2 ?_
      refine V_callSP dX10_append_3 ml_RX10_77 km_X10_isIn ks_X10_isIn (c_X10_isIn (v := 0) (a := 0) (b := 1) (by omega) (by omega) (by omega)) rfl rfl (Nat.le_of_ble_eq_true rfl) ⟨Nat.le_of_ble_eq_true rfl, Nat.le_of_ble_eq_true rfl⟩ ⟨Nat.le_of_ble_eq_true rfl, Nat.le_of_ble_eq_true rfl⟩ ?_
      refine V_if_eq 19 dX10_append_6 (by decide) (by omega) (fun h6 => absurd h6 ((by decide))) (fun _ => ?_)
      refine V_iload_n dX10_append_9 rfl ?_
      refine V_iconst dX10_append_10 ?_
      refine V_bipush dX10_append_11 (by decide) ?_
      refine V_callSP dX10_append_13 ml_RX10_77 km_X10_isIn ks_X10_isIn (c_X10_isIn (v := l) (a := 0) (b := 7) (by omega) (by omega) (by omega)) rfl rfl (Nat.le_of_ble_eq_true rfl) ⟨Nat.le_of_ble_eq_true rfl, Nat.le_of_ble_eq_true rfl⟩ ⟨Nat.le_of_ble_eq_true rfl, Nat.le_of_ble_eq_true rfl⟩ ?_
      rw [e2]
      refine V_if_ne 22 dX10_append_16 (by decide) (by omega) (fun _ => ?_) (fun h16 => absurd h16 ((by decide)))
      refine V_aload_n dX10_append_22 rfl ?_
      refine V_getr 0 _ dX10_append_23 fl_RX10_12 (by first | with_reducible assumption | rfl) rfl rfl (by first | with_reducible assumption | exact hG.at rfl) ?_
      refine V_iload_n dX10_append_26 rfl ?_
      refine V_callVP dX10_append_27 ml_RX10_82 km_X9_rowOf kv_X9_rowOf (c_X9_rowOf (Or.inl rfl) hN) (by first | with_reducible assumption | rfl) rfl rfl rfl (Nat.le_of_ble_eq_true rfl) ⟨Nat.le_of_ble_eq_true rfl, Nat.le_of_ble_eq_true rfl⟩ ⟨Nat.le_of_ble_eq_true rfl, Nat.le_of_ble_eq_true rfl⟩ ?_
      rw [if_pos rfl]
      refine S_astore_n (ls' := [_, _, _, _]) dX10_append_30 ⟨Nat.le_of_ble_eq_true rfl, rfl, rfl⟩ rfl ?_
      refine V_aload_n dX10_append_31 rfl ?_
      refine V_geti 1 dX10_append_32 fl_RX10_86 (by exact u4) rfl rfl ?_
      rw [u10]
      refine V_bipush dX10_append_35 (by decide) ?_
      refine V_icmp_lt 43 dX10_append_37 (by decide) (by omega) (by omega) (fun h37 => ?_) (fun h37 => ?_)
      · refine V_aload_n dX10_append_43 rfl ?_
        refine V_getr 1 _ dX10_append_44 fl_RX10_19 (by first | with_reducible assumption | rfl) rfl rfl (by first | with_reducible assumption | exact hG.at rfl) ?_
        refine V_aload_n dX10_append_47 rfl ?_
        refine V_getr 0 _ dX10_append_48 fl_RX10_12 (by first | with_reducible assumption | rfl) rfl rfl (by first | with_reducible assumption | exact hG.at rfl) ?_
        refine V_callV0 dX10_append_51 ml_RX10_91 km_X3_record kv_X3_record (c_X3_record hN hZ hS hP hH) (by first | with_reducible assumption | rfl) rfl rfl rfl (Nat.le_of_ble_eq_true rfl) ⟨Nat.le_of_ble_eq_true rfl, Nat.le_of_ble_eq_true rfl⟩ ⟨Nat.le_of_ble_eq_true rfl, Nat.le_of_ble_eq_true rfl⟩ ?_
        rintro mi2 mr2 ⟨⟨P', k1, k2⟩, k3, k4⟩
        have hN2 := hN.rec k3 k4
        obtain ⟨⟨w1, w2, hG2⟩, ⟨w4, w5, w6⟩, ⟨w7, w8, w9⟩, ⟨w10, w11, w12⟩, -⟩ := hN2.u
        refine V_aload_n dX10_append_54 rfl ?_
        refine V_iload_n dX10_append_55 rfl ?_
        refine V_callV0 dX10_append_56 ml_RX10_95 km_X7_add kv_X7_add (c_X7_add u4 w5 u6 (by decide) (by omega) (by omega)) (by first | with_reducible assumption | rfl) rfl rfl rfl (Nat.le_of_ble_eq_true rfl) ⟨Nat.le_of_ble_eq_true rfl, Nat.le_of_ble_eq_true rfl⟩ ⟨Nat.le_of_ble_eq_true rfl, Nat.le_of_ble_eq_true rfl⟩ ?_
        rintro mi3 mr3 ⟨rfl, rfl⟩
        rw [if_pos (show mi2 f 1 < (28 : Nat) by omega), w10]
        refine V_aload_n dX10_append_59 rfl ?_
        refine V_geti 1 dX10_append_60 fl_RX10_86 (by exact u4) rfl rfl ?_
        rw [up2_ss]
        refine V_iret dX10_append_63 rfl ⟨Nat.le_of_ble_eq_true rfl, Nat.le_of_ble_eq_true rfl⟩ ?_
        rw [if_neg (show ¬ 28 ≤ n by omega)]
        have hrec := RepC.recF hN hZ hS hT k1 k2 k3 k4 (mi3 := up2 (up2 mi2 fb n l) f 1 (n + 1)) (up2_ss _ _ _ _) (n' := n + 1) (A' := fset A n l) (fun i i1 i2 => by rw [up2_n _ _ _ (by omega)]; exact fset_at (n := n + 1) (fun j j1 j2 j3 => hN2.2.2.2.2.1 j j1 (by omega)) (by omega) i i1 i2) (hS.1.add (by omega) hin.2) (fun x x1 x2 => by rw [up2_n _ _ _ x1, up2_n _ _ _ x2])
        exact ⟨rfl, _, rfl, rfl, hrec⟩
      · refine V_ldc (-1000003) dX10_append_40 kc_RX10_90 rfl ?_
        refine V_iret dX10_append_42 rfl ⟨Nat.le_of_ble_eq_true rfl, Nat.le_of_ble_eq_true rfl⟩ ?_
        exact ⟨rfl, _, rfl, by rw [if_pos (by omega)], by rw [if_pos (by omega)]; exact h, fun _ _ => rfl⟩
    · rw [if_neg (show ¬ (1 : Int) = 0 by decide)]
      refine V_iload_n dX10_append_0 rfl ?_
      refine V_iconst dX10_append_1 ?_
      refine V_iconst dX10_append_2 ?_
      refine V_callSP dX10_append_3 ml_RX10_77 km_X10_isIn ks_X10_isIn (c_X10_isIn (v := 1) (a := 0) (b := 1) (by omega) (by omega) (by omega)) rfl rfl (Nat.le_of_ble_eq_true rfl) ⟨Nat.le_of_ble_eq_true rfl, Nat.le_of_ble_eq_true rfl⟩ ⟨Nat.le_of_ble_eq_true rfl, Nat.le_of_ble_eq_true rfl⟩ ?_
      refine V_if_eq 19 dX10_append_6 (by decide) (by omega) (fun h6 => absurd h6 ((by decide))) (fun _ => ?_)
      refine V_iload_n dX10_append_9 rfl ?_
      refine V_iconst dX10_append_10 ?_
      refine V_bipush dX10_append_11 (by decide) ?_
      refine V_callSP dX10_append_13 ml_RX10_77 km_X10_isIn ks_X10_isIn (c_X10_isIn (v := l) (a := 0) (b := 7) (by omega) (by omega) (by omega)) rfl rfl (Nat.le_of_ble_eq_true rfl) ⟨Nat.le_of_ble_eq_true rfl, Nat.le_of_ble_eq_true rfl⟩ ⟨Nat.le_of_ble_eq_true rfl, Nat.le_of_ble_eq_true rfl⟩ ?_
      rw [e2]
      refine V_if_ne 22 dX10_append_16 (by decide) (by omega) (fun _ => ?_) (fun h16 => absurd h16 ((by decide)))
      refine V_aload_n dX10_append_22 rfl ?_
      refine V_getr 0 _ dX10_append_23 fl_RX10_12 (by first | with_reducible assumption | rfl) rfl rfl (by first | with_reducible assumption | exact hG.at rfl) ?_
      refine V_iload_n dX10_append_26 rfl ?_
      refine V_callVP dX10_append_27 ml_RX10_82 km_X9_rowOf kv_X9_rowOf (c_X9_rowOf (Or.inr rfl) hN) (by first | with_reducible assumption | rfl) rfl rfl rfl (Nat.le_of_ble_eq_true rfl) ⟨Nat.le_of_ble_eq_true rfl, Nat.le_of_ble_eq_true rfl⟩ ⟨Nat.le_of_ble_eq_true rfl, Nat.le_of_ble_eq_true rfl⟩ ?_
      rw [if_neg (show ¬ (1 : Int) = 0 by decide)]
      refine S_astore_n (ls' := [_, _, _, _]) dX10_append_30 ⟨Nat.le_of_ble_eq_true rfl, rfl, rfl⟩ rfl ?_
      refine V_aload_n dX10_append_31 rfl ?_
      refine V_geti 1 dX10_append_32 fl_RX10_86 (by exact u7) rfl rfl ?_
      rw [u11]
      refine V_bipush dX10_append_35 (by decide) ?_
      refine V_icmp_lt 43 dX10_append_37 (by decide) (by omega) (by omega) (fun h37 => ?_) (fun h37 => ?_)
      · refine V_aload_n dX10_append_43 rfl ?_
        refine V_getr 1 _ dX10_append_44 fl_RX10_19 (by first | with_reducible assumption | rfl) rfl rfl (by first | with_reducible assumption | exact hG.at rfl) ?_
        refine V_aload_n dX10_append_47 rfl ?_
        refine V_getr 0 _ dX10_append_48 fl_RX10_12 (by first | with_reducible assumption | rfl) rfl rfl (by first | with_reducible assumption | exact hG.at rfl) ?_
        refine V_callV0 dX10_append_51 ml_RX10_91 km_X3_record kv_X3_record (c_X3_record hN hZ hS hP hH) (by first | with_reducible assumption | rfl) rfl rfl rfl (Nat.le_of_ble_eq_true rfl) ⟨Nat.le_of_ble_eq_true rfl, Nat.le_of_ble_eq_true rfl⟩ ⟨Nat.le_of_ble_eq_true rfl, Nat.le_of_ble_eq_true rfl⟩ ?_
        rintro mi2 mr2 ⟨⟨P', k1, k2⟩, k3, k4⟩
        have hN2 := hN.rec k3 k4
        obtain ⟨⟨w1, w2, hG2⟩, ⟨w4, w5, w6⟩, ⟨w7, w8, w9⟩, ⟨w10, w11, w12⟩, -⟩ := hN2.u
        refine V_aload_n dX10_append_54 rfl ?_
        refine V_iload_n dX10_append_55 rfl ?_
        refine V_callV0 dX10_append_56 ml_RX10_95 km_X7_add kv_X7_add (c_X7_add u7 w8 u9 (by decide) (by omega) (by omega)) (by first | with_reducible assumption | rfl) rfl rfl rfl (Nat.le_of_ble_eq_true rfl) ⟨Nat.le_of_ble_eq_true rfl, Nat.le_of_ble_eq_true rfl⟩ ⟨Nat.le_of_ble_eq_true rfl, Nat.le_of_ble_eq_true rfl⟩ ?_
        rintro mi3 mr3 ⟨rfl, rfl⟩
        rw [if_pos (show mi2 g 1 < (28 : Nat) by omega), w11]
        refine V_aload_n dX10_append_59 rfl ?_
        refine V_geti 1 dX10_append_60 fl_RX10_86 (by exact u7) rfl rfl ?_
        rw [up2_ss]
        refine V_iret dX10_append_63 rfl ⟨Nat.le_of_ble_eq_true rfl, Nat.le_of_ble_eq_true rfl⟩ ?_
        rw [if_neg (show ¬ 28 ≤ m by omega)]
        have hrec := RepC.recG hN hZ hS hT k1 k2 k3 k4 (mi3 := up2 (up2 mi2 gb m l) g 1 (m + 1)) (up2_ss _ _ _ _) (m' := m + 1) (B' := fset B m l) (fun i i1 i2 => by rw [up2_n _ _ _ (by omega)]; exact fset_at (n := m + 1) (fun j j1 j2 j3 => hN2.2.2.2.2.2.1 j j1 (by omega)) (by omega) i i1 i2) (hS.2.1.add (by omega) hin.2) (fun x x1 x2 => by rw [up2_n _ _ _ x1, up2_n _ _ _ x2])
        exact ⟨rfl, _, rfl, rfl, hrec⟩
      · refine V_ldc (-1000003) dX10_append_40 kc_RX10_90 rfl ?_
        refine V_iret dX10_append_42 rfl ⟨Nat.le_of_ble_eq_true rfl, Nat.le_of_ble_eq_true rfl⟩ ?_
        exact ⟨rfl, _, rfl, by rw [if_pos (by omega)], by rw [if_pos (by omega)]; exact h, fun _ _ => rfl⟩
  · have eo : opAppend n m A B Z (hs, tl, T) row l = (-1000001, (n, m, A, B, Z), hs, tl, T) := by unfold opAppend; rw [if_pos hin]
    rw [eo]
    refine V_iload_n dX10_append_0 rfl ?_
    refine V_iconst dX10_append_1 ?_
    refine V_iconst dX10_append_2 ?_
    refine V_callSP dX10_append_3 ml_RX10_77 km_X10_isIn ks_X10_isIn (c_X10_isIn (v := row) (a := 0) (b := 1) (by omega) (by omega) (by omega)) rfl rfl (Nat.le_of_ble_eq_true rfl) ⟨Nat.le_of_ble_eq_true rfl, Nat.le_of_ble_eq_true rfl⟩ ⟨Nat.le_of_ble_eq_true rfl, Nat.le_of_ble_eq_true rfl⟩ ?_
    refine V_if_eq 19 dX10_append_6 (by decide) (by split <;> omega) (fun h6 => ?_) (fun h6 => ?_)
    · refine V_ldc (-1000001) dX10_append_19 kc_RX10_81 rfl ?_
      refine V_iret dX10_append_21 rfl ⟨Nat.le_of_ble_eq_true rfl, Nat.le_of_ble_eq_true rfl⟩ ?_
      exact ⟨rfl, _, rfl, rfl, h, fun _ _ => rfl⟩
    · refine V_iload_n dX10_append_9 rfl ?_
      refine V_iconst dX10_append_10 ?_
      refine V_bipush dX10_append_11 (by decide) ?_
      refine V_callSP dX10_append_13 ml_RX10_77 km_X10_isIn ks_X10_isIn (c_X10_isIn (v := l) (a := 0) (b := 7) (by omega) (by omega) (by omega)) rfl rfl (Nat.le_of_ble_eq_true rfl) ⟨Nat.le_of_ble_eq_true rfl, Nat.le_of_ble_eq_true rfl⟩ ⟨Nat.le_of_ble_eq_true rfl, Nat.le_of_ble_eq_true rfl⟩ ?_
      refine V_if_ne 22 dX10_append_16 (by decide) (by split <;> omega) (fun h16 => ?_) (fun h16 => ?_)
      · exact absurd (by rw [ifz] at h6 h16; rw [Decidable.not_not] at h6 h16; exact ⟨h6, h16⟩) hin
      · refine V_ldc (-1000001) dX10_append_19 kc_RX10_81 rfl ?_
        refine V_iret dX10_append_21 rfl ⟨Nat.le_of_ble_eq_true rfl, Nat.le_of_ble_eq_true rfl⟩ ?_
        exact ⟨rfl, _, rfl, rfl, h, fun _ _ => rfl⟩
def opCut (n m : Int) (A B Z : Int → Int) (u : List St × Int × (Int → Int)) (row p k : Int) : Int × Sg :=
  if ¬ ((0 ≤ row ∧ row ≤ 1) ∧ 0 ≤ p ∧ 1 ≤ k ∧ k ≤ 28) then (-1000001, (n, m, A, B, Z), u)
  else if row = 0 then (if n - k < p then (-1000002, (n, m, A, B, Z), u) else (n - k, psh ((n, m, A, B, Z), u) (n - k, m, cutF A p k, B, Z)))
  else if m - k < p then (-1000002, (n, m, A, B, Z), u) else (m - k, psh ((n, m, A, B, Z), u) (n, m - k, A, cutF B p k, Z))
theorem cut_at {mi3 : MI} {b : Nat} {p k : Int} (h : ∀ i, 0 ≤ i → i < n → mi b i = A i) (hc : ∀ i, 0 ≤ i → i < n - k → mi3 b i = if i < p then mi b i else mi b (i + k)) (hk : 1 ≤ k) : ∀ i, 0 ≤ i → i < n - k → mi3 b i = cutF A p k i := fun i i1 i2 => by
  rw [hc i i1 i2]
  unfold cutF
  by_cases hi : i < p
  · rw [if_pos hi, if_pos hi, h i i1 (by omega)]
  · rw [if_neg hi, if_neg hi, h (i + k) (by omega) (by omega)]
set_option maxRecDepth 100000 in
set_option maxHeartbeats 1000000 in
theorem c_X10_cut {row p k : Int} (hr : rng row) (hp : rng p) (hk : rng k) (h : RepC mi mr ((n, m, A, B, Z), hs, tl, T)) : C1 yX10_cut cX10_cut 5 (some .int) 4 SH mi mr [vr 0, vi row, vi p, vi k] (PoC (opCut n m A B Z (hs, tl, T) row p k) mi) := by
  obtain ⟨f, fb, g, gb, P, hN, hZ, hS, hP, hH, hT⟩ := id h
  simp only at hN hZ hS hP hH hT
  obtain ⟨⟨u1, u2, hG⟩, ⟨u4, u5, u6⟩, ⟨u7, u8, u9⟩, ⟨u10, u11, u12⟩, uA, uB, rA, rB⟩ := hN.u
  have hse := sne hN
  refine Ct.ofV (ini := false) [some (vr 0), some (vi row), some (vi p), some (vi k), none] km_X10_cut (by decide) rfl (Nat.le_of_ble_eq_true rfl) ?_
  by_cases hin : (0 ≤ row ∧ row ≤ 1) ∧ 0 ≤ p ∧ 1 ≤ k ∧ k ≤ 28
  · have eo : opCut n m A B Z (hs, tl, T) row p k = if row = 0 then (if n - k < p then (-1000002, (n, m, A, B, Z), hs, tl, T) else (n - k, psh ((n, m, A, B, Z), hs, tl, T) (n - k, m, cutF A p k, B, Z))) else if m - k < p then (-1000002, (n, m, A, B, Z), hs, tl, T) else (m - k, psh ((n, m, A, B, Z), hs, tl, T) (n, m - k, A, cutF B p k, Z)) := by
      unfold opCut; rw [if_neg (not_not_intro hin)]
    rw [eo]
    have e1 : (if 0 ≤ row ∧ row ≤ 1 then (1 : Int) else 0) = 1 := if_pos hin.1
    have e2 : (if 1 ≤ k ∧ k ≤ 28 then (1 : Int) else 0) = 1 := if_pos hin.2.2
    rcases (show row = 0 ∨ row = 1 by omega) with rfl | rfl
    · rw [if_pos rfl]
      refine V_iload_n dX10_cut_0 rfl ?_
      refine V_iconst dX10_cut_1 ?_
      refine V_iconst dX10_cut_2 ?_
      refine V_callSP dX10_cut_3 ml_RX10_77 km_X10_isIn ks_X10_isIn (c_X10_isIn (v := 0) (a := 0) (b := 1) (by omega) (by omega) (by omega)) rfl rfl (Nat.le_of_ble_eq_true rfl) ⟨Nat.le_of_ble_eq_true rfl, Nat.le_of_ble_eq_true rfl⟩ ⟨Nat.le_of_ble_eq_true rfl, Nat.le_of_ble_eq_true rfl⟩ ?_
      refine V_if_eq 23 dX10_cut_6 (by decide) (by omega) (fun h6 => absurd h6 ((by decide))) (fun _ => ?_)
      refine V_iload_n dX10_cut_9 rfl ?_
      refine V_if_lt 23 dX10_cut_10 (by decide) (by omega) (fun h10 => absurd h10 ((by omega))) (fun _ => ?_)
      refine V_iload_n dX10_cut_13 rfl ?_
      refine V_iconst dX10_cut_14 ?_
      refine V_bipush dX10_cut_15 (by decide) ?_
      refine V_callSP dX10_cut_17 ml_RX10_77 km_X10_isIn ks_X10_isIn (c_X10_isIn (v := k) (a := 1) (b := 28) (by omega) (by omega) (by omega)) rfl rfl (Nat.le_of_ble_eq_true rfl) ⟨Nat.le_of_ble_eq_true rfl, Nat.le_of_ble_eq_true rfl⟩ ⟨Nat.le_of_ble_eq_true rfl, Nat.le_of_ble_eq_true rfl⟩ ?_
      rw [e2]
      refine V_if_ne 26 dX10_cut_20 (by decide) (by omega) (fun _ => ?_) (fun h20 => absurd h20 ((by decide)))
      refine V_aload_n dX10_cut_26 rfl ?_
      refine V_getr 0 _ dX10_cut_27 fl_RX10_12 (by first | with_reducible assumption | rfl) rfl rfl (by first | with_reducible assumption | exact hG.at rfl) ?_
      refine V_iload_n dX10_cut_30 rfl ?_
      refine V_callVP dX10_cut_31 ml_RX10_82 km_X9_rowOf kv_X9_rowOf (c_X9_rowOf (Or.inl rfl) hN) (by first | with_reducible assumption | rfl) rfl rfl rfl (Nat.le_of_ble_eq_true rfl) ⟨Nat.le_of_ble_eq_true rfl, Nat.le_of_ble_eq_true rfl⟩ ⟨Nat.le_of_ble_eq_true rfl, Nat.le_of_ble_eq_true rfl⟩ ?_
      rw [if_pos rfl]
      refine S_astore (ls' := [_, _, _, _, _]) dX10_cut_34 ⟨Nat.le_of_ble_eq_true rfl, rfl, rfl⟩ rfl ?_
      refine V_iload_n dX10_cut_36 rfl ?_
      refine V_aload dX10_cut_37 rfl ?_
      refine V_geti 1 dX10_cut_39 fl_RX10_86 (by exact u4) rfl rfl ?_
      rw [u10]
      refine V_iload_n dX10_cut_42 rfl ?_
      refine V_isub dX10_cut_43 ?_
      refine V_icmp_le 50 dX10_cut_44 (by decide) (by omega) (by omega) (fun h44 => ?_) (fun h44 => ?_)
      · refine V_aload_n dX10_cut_50 rfl ?_
        refine V_getr 1 _ dX10_cut_51 fl_RX10_19 (by first | with_reducible assumption | rfl) rfl rfl (by first | with_reducible assumption | exact hG.at rfl) ?_
        refine V_aload_n dX10_cut_54 rfl ?_
        refine V_getr 0 _ dX10_cut_55 fl_RX10_12 (by first | with_reducible assumption | rfl) rfl rfl (by first | with_reducible assumption | exact hG.at rfl) ?_
        refine V_callV0 dX10_cut_58 ml_RX10_91 km_X3_record kv_X3_record (c_X3_record hN hZ hS hP hH) (by first | with_reducible assumption | rfl) rfl rfl rfl (Nat.le_of_ble_eq_true rfl) ⟨Nat.le_of_ble_eq_true rfl, Nat.le_of_ble_eq_true rfl⟩ ⟨Nat.le_of_ble_eq_true rfl, Nat.le_of_ble_eq_true rfl⟩ ?_
        rintro mi2 mr2 ⟨⟨P', k1, k2⟩, k3, k4⟩
        have hN2 := hN.rec k3 k4
        obtain ⟨⟨w1, w2, hG2⟩, ⟨w4, w5, w6⟩, ⟨w7, w8, w9⟩, ⟨w10, w11, w12⟩, -⟩ := hN2.u
        refine V_aload dX10_cut_61 rfl ?_
        refine V_iload_n dX10_cut_63 rfl ?_
        refine V_iload_n dX10_cut_64 rfl ?_
        refine V_callV0 dX10_cut_65 ml_RX10_99 km_X7_remove kv_X7_remove (c_X7_remove (f := p) (m := k) u4 w5 u6 (by decide) (by omega) hin.2.1 hin.2.2.1 (by omega)) (by first | with_reducible assumption | rfl) rfl rfl rfl (Nat.le_of_ble_eq_true rfl) ⟨Nat.le_of_ble_eq_true rfl, Nat.le_of_ble_eq_true rfl⟩ ⟨Nat.le_of_ble_eq_true rfl, Nat.le_of_ble_eq_true rfl⟩ ?_
        rintro mi3 mr3 ⟨rfl, j1, j2, j3⟩
        rw [w10] at j1 j2
        refine V_aload dX10_cut_68 rfl ?_
        refine V_geti 1 dX10_cut_70 fl_RX10_86 (by exact u4) rfl rfl ?_
        rw [j1]
        refine V_iret dX10_cut_73 rfl ⟨Nat.le_of_ble_eq_true rfl, Nat.le_of_ble_eq_true rfl⟩ ?_
        rw [if_neg (show ¬ n - k < p by omega)]
        have hrec := RepC.recF hN hZ hS hT k1 k2 k3 k4 (mi3 := mi3) j1 (A' := cutF A p k) (cut_at (fun i i1 i2 => hN2.2.2.2.2.1 i i1 i2) j2 hin.2.2.1) (NR.cut (n := n) (A := A) hS.1 hin.2.1 hin.2.2.1 (by omega)) j3
        exact ⟨rfl, _, rfl, rfl, hrec⟩
      · refine V_ldc (-1000002) dX10_cut_47 kc_RX10_98 rfl ?_
        refine V_iret dX10_cut_49 rfl ⟨Nat.le_of_ble_eq_true rfl, Nat.le_of_ble_eq_true rfl⟩ ?_
        exact ⟨rfl, _, rfl, by rw [if_pos (by omega)], by rw [if_pos (by omega)]; exact h, fun _ _ => rfl⟩
    · rw [if_neg (show ¬ (1 : Int) = 0 by decide)]
      refine V_iload_n dX10_cut_0 rfl ?_
      refine V_iconst dX10_cut_1 ?_
      refine V_iconst dX10_cut_2 ?_
      refine V_callSP dX10_cut_3 ml_RX10_77 km_X10_isIn ks_X10_isIn (c_X10_isIn (v := 1) (a := 0) (b := 1) (by omega) (by omega) (by omega)) rfl rfl (Nat.le_of_ble_eq_true rfl) ⟨Nat.le_of_ble_eq_true rfl, Nat.le_of_ble_eq_true rfl⟩ ⟨Nat.le_of_ble_eq_true rfl, Nat.le_of_ble_eq_true rfl⟩ ?_
      refine V_if_eq 23 dX10_cut_6 (by decide) (by omega) (fun h6 => absurd h6 ((by decide))) (fun _ => ?_)
      refine V_iload_n dX10_cut_9 rfl ?_
      refine V_if_lt 23 dX10_cut_10 (by decide) (by omega) (fun h10 => absurd h10 ((by omega))) (fun _ => ?_)
      refine V_iload_n dX10_cut_13 rfl ?_
      refine V_iconst dX10_cut_14 ?_
      refine V_bipush dX10_cut_15 (by decide) ?_
      refine V_callSP dX10_cut_17 ml_RX10_77 km_X10_isIn ks_X10_isIn (c_X10_isIn (v := k) (a := 1) (b := 28) (by omega) (by omega) (by omega)) rfl rfl (Nat.le_of_ble_eq_true rfl) ⟨Nat.le_of_ble_eq_true rfl, Nat.le_of_ble_eq_true rfl⟩ ⟨Nat.le_of_ble_eq_true rfl, Nat.le_of_ble_eq_true rfl⟩ ?_
      rw [e2]
      refine V_if_ne 26 dX10_cut_20 (by decide) (by omega) (fun _ => ?_) (fun h20 => absurd h20 ((by decide)))
      refine V_aload_n dX10_cut_26 rfl ?_
      refine V_getr 0 _ dX10_cut_27 fl_RX10_12 (by first | with_reducible assumption | rfl) rfl rfl (by first | with_reducible assumption | exact hG.at rfl) ?_
      refine V_iload_n dX10_cut_30 rfl ?_
      refine V_callVP dX10_cut_31 ml_RX10_82 km_X9_rowOf kv_X9_rowOf (c_X9_rowOf (Or.inr rfl) hN) (by first | with_reducible assumption | rfl) rfl rfl rfl (Nat.le_of_ble_eq_true rfl) ⟨Nat.le_of_ble_eq_true rfl, Nat.le_of_ble_eq_true rfl⟩ ⟨Nat.le_of_ble_eq_true rfl, Nat.le_of_ble_eq_true rfl⟩ ?_
      rw [if_neg (show ¬ (1 : Int) = 0 by decide)]
      refine S_astore (ls' := [_, _, _, _, _]) dX10_cut_34 ⟨Nat.le_of_ble_eq_true rfl, rfl, rfl⟩ rfl ?_
      refine V_iload_n dX10_cut_36 rfl ?_
      refine V_aload dX10_cut_37 rfl ?_
      refine V_geti 1 dX10_cut_39 fl_RX10_86 (by exact u7) rfl rfl ?_
      rw [u11]
      refine V_iload_n dX10_cut_42 rfl ?_
      refine V_isub dX10_cut_43 ?_
      refine V_icmp_le 50 dX10_cut_44 (by decide) (by omega) (by omega) (fun h44 => ?_) (fun h44 => ?_)
      · refine V_aload_n dX10_cut_50 rfl ?_
        refine V_getr 1 _ dX10_cut_51 fl_RX10_19 (by first | with_reducible assumption | rfl) rfl rfl (by first | with_reducible assumption | exact hG.at rfl) ?_
        refine V_aload_n dX10_cut_54 rfl ?_
        refine V_getr 0 _ dX10_cut_55 fl_RX10_12 (by first | with_reducible assumption | rfl) rfl rfl (by first | with_reducible assumption | exact hG.at rfl) ?_
        refine V_callV0 dX10_cut_58 ml_RX10_91 km_X3_record kv_X3_record (c_X3_record hN hZ hS hP hH) (by first | with_reducible assumption | rfl) rfl rfl rfl (Nat.le_of_ble_eq_true rfl) ⟨Nat.le_of_ble_eq_true rfl, Nat.le_of_ble_eq_true rfl⟩ ⟨Nat.le_of_ble_eq_true rfl, Nat.le_of_ble_eq_true rfl⟩ ?_
        rintro mi2 mr2 ⟨⟨P', k1, k2⟩, k3, k4⟩
        have hN2 := hN.rec k3 k4
        obtain ⟨⟨w1, w2, hG2⟩, ⟨w4, w5, w6⟩, ⟨w7, w8, w9⟩, ⟨w10, w11, w12⟩, -⟩ := hN2.u
        refine V_aload dX10_cut_61 rfl ?_
        refine V_iload_n dX10_cut_63 rfl ?_
        refine V_iload_n dX10_cut_64 rfl ?_
        refine V_callV0 dX10_cut_65 ml_RX10_99 km_X7_remove kv_X7_remove (c_X7_remove (f := p) (m := k) u7 w8 u9 (by decide) (by omega) hin.2.1 hin.2.2.1 (by omega)) (by first | with_reducible assumption | rfl) rfl rfl rfl (Nat.le_of_ble_eq_true rfl) ⟨Nat.le_of_ble_eq_true rfl, Nat.le_of_ble_eq_true rfl⟩ ⟨Nat.le_of_ble_eq_true rfl, Nat.le_of_ble_eq_true rfl⟩ ?_
        rintro mi3 mr3 ⟨rfl, j1, j2, j3⟩
        rw [w11] at j1 j2
        refine V_aload dX10_cut_68 rfl ?_
        refine V_geti 1 dX10_cut_70 fl_RX10_86 (by exact u7) rfl rfl ?_
        rw [j1]
        refine V_iret dX10_cut_73 rfl ⟨Nat.le_of_ble_eq_true rfl, Nat.le_of_ble_eq_true rfl⟩ ?_
        rw [if_neg (show ¬ m - k < p by omega)]
        have hrec := RepC.recG hN hZ hS hT k1 k2 k3 k4 (mi3 := mi3) j1 (B' := cutF B p k) (cut_at (fun i i1 i2 => hN2.2.2.2.2.2.1 i i1 i2) j2 hin.2.2.1) (NR.cut (n := m) (A := B) hS.2.1 hin.2.1 hin.2.2.1 (by omega)) j3
        exact ⟨rfl, _, rfl, rfl, hrec⟩
      · refine V_ldc (-1000002) dX10_cut_47 kc_RX10_98 rfl ?_
        refine V_iret dX10_cut_49 rfl ⟨Nat.le_of_ble_eq_true rfl, Nat.le_of_ble_eq_true rfl⟩ ?_
        exact ⟨rfl, _, rfl, by rw [if_pos (by omega)], by rw [if_pos (by omega)]; exact h, fun _ _ => rfl⟩
  · have eo : opCut n m A B Z (hs, tl, T) row p k = (-1000001, (n, m, A, B, Z), hs, tl, T) := by unfold opCut; rw [if_pos hin]
    rw [eo]
    refine V_iload_n dX10_cut_0 rfl ?_
    refine V_iconst dX10_cut_1 ?_
    refine V_iconst dX10_cut_2 ?_
    refine V_callSP dX10_cut_3 ml_RX10_77 km_X10_isIn ks_X10_isIn (c_X10_isIn (v := row) (a := 0) (b := 1) (by omega) (by omega) (by omega)) rfl rfl (Nat.le_of_ble_eq_true rfl) ⟨Nat.le_of_ble_eq_true rfl, Nat.le_of_ble_eq_true rfl⟩ ⟨Nat.le_of_ble_eq_true rfl, Nat.le_of_ble_eq_true rfl⟩ ?_
    refine V_if_eq 23 dX10_cut_6 (by decide) (by split <;> omega) (fun h6 => ?_) (fun h6 => ?_)
    · refine V_ldc (-1000001) dX10_cut_23 kc_RX10_81 rfl ?_
      refine V_iret dX10_cut_25 rfl ⟨Nat.le_of_ble_eq_true rfl, Nat.le_of_ble_eq_true rfl⟩ ?_
      exact ⟨rfl, _, rfl, rfl, h, fun _ _ => rfl⟩
    · refine V_iload_n dX10_cut_9 rfl ?_
      refine V_if_lt 23 dX10_cut_10 (by decide) (by omega) (fun h10 => ?_) (fun h10 => ?_)
      · refine V_ldc (-1000001) dX10_cut_23 kc_RX10_81 rfl ?_
        refine V_iret dX10_cut_25 rfl ⟨Nat.le_of_ble_eq_true rfl, Nat.le_of_ble_eq_true rfl⟩ ?_
        exact ⟨rfl, _, rfl, rfl, h, fun _ _ => rfl⟩
      · refine V_iload_n dX10_cut_13 rfl ?_
        refine V_iconst dX10_cut_14 ?_
        refine V_bipush dX10_cut_15 (by decide) ?_
        refine V_callSP dX10_cut_17 ml_RX10_77 km_X10_isIn ks_X10_isIn (c_X10_isIn (v := k) (a := 1) (b := 28) (by omega) (by omega) (by omega)) rfl rfl (Nat.le_of_ble_eq_true rfl) ⟨Nat.le_of_ble_eq_true rfl, Nat.le_of_ble_eq_true rfl⟩ ⟨Nat.le_of_ble_eq_true rfl, Nat.le_of_ble_eq_true rfl⟩ ?_
        refine V_if_ne 26 dX10_cut_20 (by decide) (by split <;> omega) (fun h20 => ?_) (fun h20 => ?_)
        · exact absurd (by rw [ifz] at h6 h20; rw [Decidable.not_not] at h6 h20; exact ⟨h6, by omega, h20⟩) hin
        · refine V_ldc (-1000001) dX10_cut_23 kc_RX10_81 rfl ?_
          refine V_iret dX10_cut_25 rfl ⟨Nat.le_of_ble_eq_true rfl, Nat.le_of_ble_eq_true rfl⟩ ?_
          exact ⟨rfl, _, rfl, rfl, h, fun _ _ => rfl⟩
def opChange (n m : Int) (A B Z : Int → Int) (u : List St × Int × (Int → Int)) (row p l : Int) : Int × Sg :=
  if ¬ ((0 ≤ row ∧ row ≤ 1) ∧ 0 ≤ l ∧ l ≤ 7) then (-1000001, (n, m, A, B, Z), u)
  else if row = 0 then (if A p = -1 then (-1000001, (n, m, A, B, Z), u) else (A p, psh ((n, m, A, B, Z), u) (n, m, fset A p l, B, Z)))
  else if B p = -1 then (-1000001, (n, m, A, B, Z), u) else (B p, psh ((n, m, A, B, Z), u) (n, m, A, fset B p l, Z))
set_option maxRecDepth 100000 in
set_option maxHeartbeats 1000000 in
theorem c_X10_change {row p l : Int} (hr : rng row) (hp : rng p) (hl : rng l) (h : RepC mi mr ((n, m, A, B, Z), hs, tl, T)) : C1 yX10_change cX10_change 6 (some .int) 4 SH mi mr [vr 0, vi row, vi p, vi l] (PoC (opChange n m A B Z (hs, tl, T) row p l) mi) := by
  obtain ⟨f, fb, g, gb, P, hN, hZ, hS, hP, hH, hT⟩ := id h
  simp only at hN hZ hS hP hH hT
  obtain ⟨⟨u1, u2, hG⟩, ⟨u4, u5, u6⟩, ⟨u7, u8, u9⟩, ⟨u10, u11, u12⟩, uA, uB, rA, rB⟩ := hN.u
  have hse := sne hN
  have rAp := rA p
  have rBp := rB p
  refine Ct.ofV (ini := false) [some (vr 0), some (vi row), some (vi p), some (vi l), none, none] km_X10_change (by decide) rfl (Nat.le_of_ble_eq_true rfl) ?_
  by_cases hin : (0 ≤ row ∧ row ≤ 1) ∧ 0 ≤ l ∧ l ≤ 7
  · have eo : opChange n m A B Z (hs, tl, T) row p l = if row = 0 then (if A p = -1 then (-1000001, (n, m, A, B, Z), hs, tl, T) else (A p, psh ((n, m, A, B, Z), hs, tl, T) (n, m, fset A p l, B, Z))) else if B p = -1 then (-1000001, (n, m, A, B, Z), hs, tl, T) else (B p, psh ((n, m, A, B, Z), hs, tl, T) (n, m, A, fset B p l, Z)) := by
      unfold opChange; rw [if_neg (not_not_intro hin)]
    rw [eo]
    have e1 : (if 0 ≤ row ∧ row ≤ 1 then (1 : Int) else 0) = 1 := if_pos hin.1
    have e2 : (if 0 ≤ l ∧ l ≤ 7 then (1 : Int) else 0) = 1 := if_pos hin.2
    rcases (show row = 0 ∨ row = 1 by omega) with rfl | rfl
    · rw [if_pos rfl]
      refine V_iload_n dX10_change_0 rfl ?_
      refine V_iconst dX10_change_1 ?_
      refine V_iconst dX10_change_2 ?_
      refine V_callSP dX10_change_3 ml_RX10_77 km_X10_isIn ks_X10_isIn (c_X10_isIn (v := 0) (a := 0) (b := 1) (by omega) (by omega) (by omega)) rfl rfl (Nat.le_of_ble_eq_true rfl) ⟨Nat.le_of_ble_eq_true rfl, Nat.le_of_ble_eq_true rfl⟩ ⟨Nat.le_of_ble_eq_true rfl, Nat.le_of_ble_eq_true rfl⟩ ?_
      refine V_if_eq 19 dX10_change_6 (by decide) (by omega) (fun h6 => absurd h6 ((by decide))) (fun _ => ?_)
      refine V_iload_n dX10_change_9 rfl ?_
      refine V_iconst dX10_change_10 ?_
      refine V_bipush dX10_change_11 (by decide) ?_
      refine V_callSP dX10_change_13 ml_RX10_77 km_X10_isIn ks_X10_isIn (c_X10_isIn (v := l) (a := 0) (b := 7) (by omega) (by omega) (by omega)) rfl rfl (Nat.le_of_ble_eq_true rfl) ⟨Nat.le_of_ble_eq_true rfl, Nat.le_of_ble_eq_true rfl⟩ ⟨Nat.le_of_ble_eq_true rfl, Nat.le_of_ble_eq_true rfl⟩ ?_
      rw [e2]
      refine V_if_ne 22 dX10_change_16 (by decide) (by omega) (fun _ => ?_) (fun h16 => absurd h16 ((by decide)))
      refine V_aload_n dX10_change_22 rfl ?_
      refine V_getr 0 _ dX10_change_23 fl_RX10_12 (by first | with_reducible assumption | rfl) rfl rfl (by first | with_reducible assumption | exact hG.at rfl) ?_
      refine V_iload_n dX10_change_26 rfl ?_
      refine V_callVP dX10_change_27 ml_RX10_82 km_X9_rowOf kv_X9_rowOf (c_X9_rowOf (Or.inl rfl) hN) (by first | with_reducible assumption | rfl) rfl rfl rfl (Nat.le_of_ble_eq_true rfl) ⟨Nat.le_of_ble_eq_true rfl, Nat.le_of_ble_eq_true rfl⟩ ⟨Nat.le_of_ble_eq_true rfl, Nat.le_of_ble_eq_true rfl⟩ ?_
      rw [if_pos rfl]
      refine S_astore (ls' := [_, _, _, _, _, _]) dX10_change_30 ⟨Nat.le_of_ble_eq_true rfl, rfl, rfl⟩ rfl ?_
      refine V_aload dX10_change_32 rfl ?_
      refine V_iload_n dX10_change_34 rfl ?_
      refine V_callVP dX10_change_35 ml_RX10_103 km_X7_at kv_X7_at (c_X7_at (i := p) hp u4 u5 u6 (by decide) (by omega)) (by exact u4) rfl rfl rfl (Nat.le_of_ble_eq_true rfl) ⟨Nat.le_of_ble_eq_true rfl, Nat.le_of_ble_eq_true rfl⟩ ⟨Nat.le_of_ble_eq_true rfl, Nat.le_of_ble_eq_true rfl⟩ ?_
      rw [uA p]
      refine S_istore (ls' := [_, _, _, _, _, _]) dX10_change_38 ⟨Nat.le_of_ble_eq_true rfl, rfl, rfl⟩ rfl ?_
      refine V_iload dX10_change_40 rfl ?_
      refine V_iconst dX10_change_42 ?_
      refine V_icmp_ne 49 dX10_change_43 (by decide) (by omega) (by omega) (fun h43 => ?_) (fun h43 => ?_)
      · refine V_aload_n dX10_change_49 rfl ?_
        refine V_getr 1 _ dX10_change_50 fl_RX10_19 (by first | with_reducible assumption | rfl) rfl rfl (by first | with_reducible assumption | exact hG.at rfl) ?_
        refine V_aload_n dX10_change_53 rfl ?_
        refine V_getr 0 _ dX10_change_54 fl_RX10_12 (by first | with_reducible assumption | rfl) rfl rfl (by first | with_reducible assumption | exact hG.at rfl) ?_
        refine V_callV0 dX10_change_57 ml_RX10_91 km_X3_record kv_X3_record (c_X3_record hN hZ hS hP hH) (by first | with_reducible assumption | rfl) rfl rfl rfl (Nat.le_of_ble_eq_true rfl) ⟨Nat.le_of_ble_eq_true rfl, Nat.le_of_ble_eq_true rfl⟩ ⟨Nat.le_of_ble_eq_true rfl, Nat.le_of_ble_eq_true rfl⟩ ?_
        rintro mi2 mr2 ⟨⟨P', k1, k2⟩, k3, k4⟩
        have hN2 := hN.rec k3 k4
        obtain ⟨⟨w1, w2, hG2⟩, ⟨w4, w5, w6⟩, ⟨w7, w8, w9⟩, ⟨w10, w11, w12⟩, -⟩ := hN2.u
        have hpn : 0 ≤ p ∧ p < n := NR.lt (A := A) hS.1 (by omega)
        refine V_aload dX10_change_60 rfl ?_
        refine V_iload_n dX10_change_62 rfl ?_
        refine V_iload_n dX10_change_63 rfl ?_
        refine V_callV0 dX10_change_64 ml_RX10_107 km_X7_put kv_X7_put (c_X7_put (i := p) (v := l) hp u4 w5 u6 (by decide) (by omega)) (by exact u4) rfl rfl rfl (Nat.le_of_ble_eq_true rfl) ⟨Nat.le_of_ble_eq_true rfl, Nat.le_of_ble_eq_true rfl⟩ ⟨Nat.le_of_ble_eq_true rfl, Nat.le_of_ble_eq_true rfl⟩ ?_
        rintro mi3 mr3 ⟨rfl, rfl⟩
        rw [w10, if_pos hpn]
        refine V_iload dX10_change_67 rfl ?_
        refine V_iret dX10_change_69 rfl ⟨Nat.le_of_ble_eq_true rfl, Nat.le_of_ble_eq_true rfl⟩ ?_
        rw [if_neg (show ¬ A p = -1 by omega)]
        have hrec := RepC.recF hN hZ hS hT k1 k2 k3 k4 (mi3 := up2 mi2 fb p l) (by rw [up2_n _ _ _ (by omega)]; exact w10) (A' := fset A p l) (fset_at (n := n) (fun j j1 j2 j3 => hN2.2.2.2.2.1 j j1 j2) (by omega)) (NR.chg (n := n) (A := A) hS.1 hpn hin.2) (fun x x1 x2 => up2_n _ _ _ x2)
        exact ⟨rfl, _, rfl, rfl, hrec⟩
      · refine V_ldc (-1000001) dX10_change_46 kc_RX10_81 rfl ?_
        refine V_iret dX10_change_48 rfl ⟨Nat.le_of_ble_eq_true rfl, Nat.le_of_ble_eq_true rfl⟩ ?_
        exact ⟨rfl, _, rfl, by rw [if_pos (by omega)], by rw [if_pos (by omega)]; exact h, fun _ _ => rfl⟩
    · rw [if_neg (show ¬ (1 : Int) = 0 by decide)]
      refine V_iload_n dX10_change_0 rfl ?_
      refine V_iconst dX10_change_1 ?_
      refine V_iconst dX10_change_2 ?_
      refine V_callSP dX10_change_3 ml_RX10_77 km_X10_isIn ks_X10_isIn (c_X10_isIn (v := 1) (a := 0) (b := 1) (by omega) (by omega) (by omega)) rfl rfl (Nat.le_of_ble_eq_true rfl) ⟨Nat.le_of_ble_eq_true rfl, Nat.le_of_ble_eq_true rfl⟩ ⟨Nat.le_of_ble_eq_true rfl, Nat.le_of_ble_eq_true rfl⟩ ?_
      refine V_if_eq 19 dX10_change_6 (by decide) (by omega) (fun h6 => absurd h6 ((by decide))) (fun _ => ?_)
      refine V_iload_n dX10_change_9 rfl ?_
      refine V_iconst dX10_change_10 ?_
      refine V_bipush dX10_change_11 (by decide) ?_
      refine V_callSP dX10_change_13 ml_RX10_77 km_X10_isIn ks_X10_isIn (c_X10_isIn (v := l) (a := 0) (b := 7) (by omega) (by omega) (by omega)) rfl rfl (Nat.le_of_ble_eq_true rfl) ⟨Nat.le_of_ble_eq_true rfl, Nat.le_of_ble_eq_true rfl⟩ ⟨Nat.le_of_ble_eq_true rfl, Nat.le_of_ble_eq_true rfl⟩ ?_
      rw [e2]
      refine V_if_ne 22 dX10_change_16 (by decide) (by omega) (fun _ => ?_) (fun h16 => absurd h16 ((by decide)))
      refine V_aload_n dX10_change_22 rfl ?_
      refine V_getr 0 _ dX10_change_23 fl_RX10_12 (by first | with_reducible assumption | rfl) rfl rfl (by first | with_reducible assumption | exact hG.at rfl) ?_
      refine V_iload_n dX10_change_26 rfl ?_
      refine V_callVP dX10_change_27 ml_RX10_82 km_X9_rowOf kv_X9_rowOf (c_X9_rowOf (Or.inr rfl) hN) (by first | with_reducible assumption | rfl) rfl rfl rfl (Nat.le_of_ble_eq_true rfl) ⟨Nat.le_of_ble_eq_true rfl, Nat.le_of_ble_eq_true rfl⟩ ⟨Nat.le_of_ble_eq_true rfl, Nat.le_of_ble_eq_true rfl⟩ ?_
      rw [if_neg (show ¬ (1 : Int) = 0 by decide)]
      refine S_astore (ls' := [_, _, _, _, _, _]) dX10_change_30 ⟨Nat.le_of_ble_eq_true rfl, rfl, rfl⟩ rfl ?_
      refine V_aload dX10_change_32 rfl ?_
      refine V_iload_n dX10_change_34 rfl ?_
      refine V_callVP dX10_change_35 ml_RX10_103 km_X7_at kv_X7_at (c_X7_at (i := p) hp u7 u8 u9 (by decide) (by omega)) (by exact u7) rfl rfl rfl (Nat.le_of_ble_eq_true rfl) ⟨Nat.le_of_ble_eq_true rfl, Nat.le_of_ble_eq_true rfl⟩ ⟨Nat.le_of_ble_eq_true rfl, Nat.le_of_ble_eq_true rfl⟩ ?_
      rw [uB p]
      refine S_istore (ls' := [_, _, _, _, _, _]) dX10_change_38 ⟨Nat.le_of_ble_eq_true rfl, rfl, rfl⟩ rfl ?_
      refine V_iload dX10_change_40 rfl ?_
      refine V_iconst dX10_change_42 ?_
      refine V_icmp_ne 49 dX10_change_43 (by decide) (by omega) (by omega) (fun h43 => ?_) (fun h43 => ?_)
      · refine V_aload_n dX10_change_49 rfl ?_
        refine V_getr 1 _ dX10_change_50 fl_RX10_19 (by first | with_reducible assumption | rfl) rfl rfl (by first | with_reducible assumption | exact hG.at rfl) ?_
        refine V_aload_n dX10_change_53 rfl ?_
        refine V_getr 0 _ dX10_change_54 fl_RX10_12 (by first | with_reducible assumption | rfl) rfl rfl (by first | with_reducible assumption | exact hG.at rfl) ?_
        refine V_callV0 dX10_change_57 ml_RX10_91 km_X3_record kv_X3_record (c_X3_record hN hZ hS hP hH) (by first | with_reducible assumption | rfl) rfl rfl rfl (Nat.le_of_ble_eq_true rfl) ⟨Nat.le_of_ble_eq_true rfl, Nat.le_of_ble_eq_true rfl⟩ ⟨Nat.le_of_ble_eq_true rfl, Nat.le_of_ble_eq_true rfl⟩ ?_
        rintro mi2 mr2 ⟨⟨P', k1, k2⟩, k3, k4⟩
        have hN2 := hN.rec k3 k4
        obtain ⟨⟨w1, w2, hG2⟩, ⟨w4, w5, w6⟩, ⟨w7, w8, w9⟩, ⟨w10, w11, w12⟩, -⟩ := hN2.u
        have hpn : 0 ≤ p ∧ p < m := NR.lt (A := B) hS.2.1 (by omega)
        refine V_aload dX10_change_60 rfl ?_
        refine V_iload_n dX10_change_62 rfl ?_
        refine V_iload_n dX10_change_63 rfl ?_
        refine V_callV0 dX10_change_64 ml_RX10_107 km_X7_put kv_X7_put (c_X7_put (i := p) (v := l) hp u7 w8 u9 (by decide) (by omega)) (by exact u7) rfl rfl rfl (Nat.le_of_ble_eq_true rfl) ⟨Nat.le_of_ble_eq_true rfl, Nat.le_of_ble_eq_true rfl⟩ ⟨Nat.le_of_ble_eq_true rfl, Nat.le_of_ble_eq_true rfl⟩ ?_
        rintro mi3 mr3 ⟨rfl, rfl⟩
        rw [w11, if_pos hpn]
        refine V_iload dX10_change_67 rfl ?_
        refine V_iret dX10_change_69 rfl ⟨Nat.le_of_ble_eq_true rfl, Nat.le_of_ble_eq_true rfl⟩ ?_
        rw [if_neg (show ¬ B p = -1 by omega)]
        have hrec := RepC.recG hN hZ hS hT k1 k2 k3 k4 (mi3 := up2 mi2 gb p l) (by rw [up2_n _ _ _ (by omega)]; exact w11) (B' := fset B p l) (fset_at (n := m) (fun j j1 j2 j3 => hN2.2.2.2.2.2.1 j j1 j2) (by omega)) (NR.chg (n := m) (A := B) hS.2.1 hpn hin.2) (fun x x1 x2 => up2_n _ _ _ x2)
        exact ⟨rfl, _, rfl, rfl, hrec⟩
      · refine V_ldc (-1000001) dX10_change_46 kc_RX10_81 rfl ?_
        refine V_iret dX10_change_48 rfl ⟨Nat.le_of_ble_eq_true rfl, Nat.le_of_ble_eq_true rfl⟩ ?_
        exact ⟨rfl, _, rfl, by rw [if_pos (by omega)], by rw [if_pos (by omega)]; exact h, fun _ _ => rfl⟩
  · have eo : opChange n m A B Z (hs, tl, T) row p l = (-1000001, (n, m, A, B, Z), hs, tl, T) := by unfold opChange; rw [if_pos hin]
    rw [eo]
    refine V_iload_n dX10_change_0 rfl ?_
    refine V_iconst dX10_change_1 ?_
    refine V_iconst dX10_change_2 ?_
    refine V_callSP dX10_change_3 ml_RX10_77 km_X10_isIn ks_X10_isIn (c_X10_isIn (v := row) (a := 0) (b := 1) (by omega) (by omega) (by omega)) rfl rfl (Nat.le_of_ble_eq_true rfl) ⟨Nat.le_of_ble_eq_true rfl, Nat.le_of_ble_eq_true rfl⟩ ⟨Nat.le_of_ble_eq_true rfl, Nat.le_of_ble_eq_true rfl⟩ ?_
    refine V_if_eq 19 dX10_change_6 (by decide) (by split <;> omega) (fun h6 => ?_) (fun h6 => ?_)
    · refine V_ldc (-1000001) dX10_change_19 kc_RX10_81 rfl ?_
      refine V_iret dX10_change_21 rfl ⟨Nat.le_of_ble_eq_true rfl, Nat.le_of_ble_eq_true rfl⟩ ?_
      exact ⟨rfl, _, rfl, rfl, h, fun _ _ => rfl⟩
    · refine V_iload_n dX10_change_9 rfl ?_
      refine V_iconst dX10_change_10 ?_
      refine V_bipush dX10_change_11 (by decide) ?_
      refine V_callSP dX10_change_13 ml_RX10_77 km_X10_isIn ks_X10_isIn (c_X10_isIn (v := l) (a := 0) (b := 7) (by omega) (by omega) (by omega)) rfl rfl (Nat.le_of_ble_eq_true rfl) ⟨Nat.le_of_ble_eq_true rfl, Nat.le_of_ble_eq_true rfl⟩ ⟨Nat.le_of_ble_eq_true rfl, Nat.le_of_ble_eq_true rfl⟩ ?_
      refine V_if_ne 22 dX10_change_16 (by decide) (by split <;> omega) (fun h16 => ?_) (fun h16 => ?_)
      · exact absurd (by rw [ifz] at h6 h16; rw [Decidable.not_not] at h6 h16; exact ⟨h6, h16⟩) hin
      · refine V_ldc (-1000001) dX10_change_19 kc_RX10_81 rfl ?_
        refine V_iret dX10_change_21 rfl ⟨Nat.le_of_ble_eq_true rfl, Nat.le_of_ble_eq_true rfl⟩ ?_
        exact ⟨rfl, _, rfl, rfl, h, fun _ _ => rfl⟩
def opExchange (n m : Int) (A B Z : Int → Int) (u : List St × Int × (Int → Int)) : Int × Sg := (m, psh ((n, m, A, B, Z), u) (m, n, B, A, Z))
set_option maxRecDepth 100000 in
set_option maxHeartbeats 1000000 in
theorem c_X10_exchange (h : RepC mi mr ((n, m, A, B, Z), hs, tl, T)) : C1 yX10_exchange cX10_exchange 1 (some .int) 4 SH mi mr [vr 0] (PoC (opExchange n m A B Z (hs, tl, T)) mi) := by
  obtain ⟨f, fb, g, gb, P, hN, hZ, hS, hP, hH, hT⟩ := id h
  simp only at hN hZ hS hP hH hT
  obtain ⟨⟨u1, u2, hG⟩, ⟨u4, u5, u6⟩, ⟨u7, u8, u9⟩, ⟨u10, u11, u12⟩, uA, uB, rA, rB⟩ := hN.u
  have hse := sne hN
  refine Ct.ofV (ini := false) [some (vr 0)] km_X10_exchange (by decide) rfl (Nat.le_of_ble_eq_true rfl) ?_
  refine V_aload_n dX10_exchange_0 rfl ?_
  refine V_getr 1 _ dX10_exchange_1 fl_RX10_19 (by first | with_reducible assumption | rfl) rfl rfl (by first | with_reducible assumption | exact hG.at rfl) ?_
  refine V_aload_n dX10_exchange_4 rfl ?_
  refine V_getr 0 _ dX10_exchange_5 fl_RX10_12 (by first | with_reducible assumption | rfl) rfl rfl (by first | with_reducible assumption | exact hG.at rfl) ?_
  refine V_callV0 dX10_exchange_8 ml_RX10_91 km_X3_record kv_X3_record (c_X3_record hN hZ hS hP hH) (by first | with_reducible assumption | rfl) rfl rfl rfl (Nat.le_of_ble_eq_true rfl) ⟨Nat.le_of_ble_eq_true rfl, Nat.le_of_ble_eq_true rfl⟩ ⟨Nat.le_of_ble_eq_true rfl, Nat.le_of_ble_eq_true rfl⟩ ?_
  rintro mi2 mr2 ⟨⟨P', k1, k2⟩, k3, k4⟩
  have hN2 := hN.rec k3 k4
  obtain ⟨⟨w1, w2, hG2⟩, ⟨w4, w5, w6⟩, ⟨w7, w8, w9⟩, ⟨w10, w11, w12⟩, -⟩ := hN2.u
  refine V_aload_n dX10_exchange_11 rfl ?_
  refine V_getr 0 _ dX10_exchange_12 fl_RX10_12 (by first | with_reducible assumption | rfl) rfl rfl (by exact hG2.at rfl) ?_
  refine V_callV0 dX10_exchange_15 ml_RX10_110 km_X9_swapRows kv_X9_swapRows (c_X9_swapRows w1 w2 (by omega) (by omega)) (by first | with_reducible assumption | rfl) rfl rfl rfl (Nat.le_of_ble_eq_true rfl) ⟨Nat.le_of_ble_eq_true rfl, Nat.le_of_ble_eq_true rfl⟩ ⟨Nat.le_of_ble_eq_true rfl, Nat.le_of_ble_eq_true rfl⟩ ?_
  rintro mi3 mr3 ⟨rfl, rfl⟩
  have hGr : Gr (up2 (up2 mr2 1 0 (some g)) 1 1 (some f)) := fun a j b hq => by
    by_cases ha : a = 1
    · subst ha
      by_cases hj : j = 2
      · subst hj; rw [up2_sn _ _ _ (by decide), up2_sn _ _ _ (by decide)]; exact hG2 1 2 b hq
      · exfalso
        have : grf 1 j = none := by simp [grf, grL]; omega
        rw [this] at hq; cases hq
    · rw [up2_n _ _ _ ha, up2_n _ _ _ ha]; exact hG2 a j b hq
  have hs0 : up2 (up2 mr2 1 0 (some g)) 1 1 (some f) 1 0 = some g := by rw [up2_sn _ _ _ (by decide), up2_ss]
  have hs1 : up2 (up2 mr2 1 0 (some g)) 1 1 (some f) 1 1 = some f := up2_ss _ _ _ _
  refine V_aload_n dX10_exchange_18 rfl ?_
  refine V_getr 0 _ dX10_exchange_19 fl_RX10_12 (by first | with_reducible assumption | rfl) rfl rfl (by exact hGr.at rfl) ?_
  refine V_getr 0 _ dX10_exchange_22 fl_RX10_113 (by first | with_reducible assumption | rfl) rfl rfl (by exact hs0) ?_
  refine V_geti 1 dX10_exchange_25 fl_RX10_86 (by exact u7) rfl rfl ?_
  rw [w11]
  refine V_iret dX10_exchange_28 rfl ⟨Nat.le_of_ble_eq_true rfl, Nat.le_of_ble_eq_true rfl⟩ ?_
  refine ⟨rfl, _, rfl, rfl, ⟨g, gb, f, fb, P', ⟨⟨hs0, hs1⟩, by have := hN2.2.1; omega, hGr, ⟨w11, w10⟩, hN2.2.2.2.2.2.1, hN2.2.2.2.2.1, hS.2.1, hS.1⟩, fun i i1 i2 => by rw [k3 6 (by decide)]; exact hZ i i1 i2, ⟨hS.2.1, hS.1, hS.2.2⟩, ⟨fun i i1 i2 => by rw [up2_n _ _ _ (by decide), up2_n _ _ _ (by decide)]; exact k1.1 i i1 i2, k1.2⟩, k2, hT.keep (k3 33 (by decide)) (k3 34 (by decide))⟩, fun x hx => k3 x (by omega)⟩
end CLASS
