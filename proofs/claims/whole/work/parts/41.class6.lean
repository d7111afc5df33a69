/-! ===== DiagonalTexts: blocks and counts ===== -/
/-- how many blocks there can be -/
theorem brow_0 {L : Int} {K Lt : Int → Int} {lb o : Int} (h : kx L K o ≠ 1) : ∀ t : Nat, brow L K Lt lb o t = []
  | 0 => rfl
  | t + 1 => by
    simp only [brow]
    rw [brow_0 h t, if_neg (fun hc => h hc.1.1)]
    rfl
section BLK
variable {n m L : Int} {A B K Lt X Y : Int → Int} {lb : Int}
theorem brow_len (h : Sc n m A B L K X Y) {o : Int} : ∀ t : Nat, (t : Int) ≤ L → ((brow L K Lt lb o t).length : Int) ≤ Y t
  | 0, ht => by have := (h.2.1 0 (by omega) (by omega)).2.2.1; simpa [brow] using this
  | t + 1, ht => by
    have ih := brow_len h (o := o) t (by omega)
    have hs := h.2.2 t (by omega) (by omega)
    simp only [brow]
    split
    · rename_i hc
      have hk : K t = 2 := by
        have := hc.1.2.1
        unfold kx at this
        rw [if_pos (by omega)] at this
        exact this
      simp only [List.length_append, List.length_cons, List.length_nil]
      rw [show ((t + 1 : Nat) : Int) = (t : Int) + 1 by omega] at *
      omega
    · simp only [List.append_nil]
      rw [show ((t + 1 : Nat) : Int) = (t : Int) + 1 by omega] at *
      omega
theorem ball_len (h : Sc n m A B L K X Y) (hm : m ≤ 28) : ∀ s : Nat, (s : Int) ≤ L → ((ball L K Lt lb s).length : Int) ≤ 28 * X s
  | 0, hs => by have := (h.2.1 0 (by omega) (by omega)).1; simp [ball]; omega
  | s + 1, hs => by
    have ih := ball_len h hm s (by omega)
    have hst := h.2.2 s (by omega) (by omega)
    have hL := h.1.2.2.2
    have hb := brow_len (Lt := Lt) (lb := lb) h (o := s) L.toNat (by omega)
    rw [show ((L.toNat : Nat) : Int) = L by omega] at hb
    simp only [ball, List.length_append]
    by_cases hk : kx L K s = 1
    · have hk2 : K s = 1 := by
        unfold kx at hk
        rw [if_pos (by omega)] at hk
        exact hk
      rw [show ((s + 1 : Nat) : Int) = (s : Int) + 1 by omega]
      omega
    · rw [brow_0 hk]
      simp only [List.length_nil]
      rw [show ((s + 1 : Nat) : Int) = (s : Int) + 1 by omega]
      omega
theorem blk_b1 (h : Sc n m A B L K X Y) (hn : n ≤ 28) (hm : m ≤ 28) (s t : Nat) (hs : (s : Int) < L) (ht : (t : Int) < L) (hmv : mvp L K Lt s t) : (ball L K Lt lb s ++ brow L K Lt lb s t).length < 784 := by
  have h1 := ball_len (Lt := Lt) (lb := lb) h hm s (by omega)
  have h2 := brow_len (Lt := Lt) (lb := lb) h (o := s) t (by omega)
  have e1 : K s = 1 := by have := hmv.1; unfold kx at this; rw [if_pos (by omega)] at this; exact this
  have e2 : K t = 2 := by have := hmv.2.1; unfold kx at this; rw [if_pos (by omega)] at this; exact this
  have s1 := h.2.2 s (by omega) hs
  have s2 := h.2.2 t (by omega) ht
  have r1 := h.2.1 (s + 1) (by omega) (by omega)
  have r2 := h.2.1 (t + 1) (by omega) (by omega)
  simp only [List.length_append]
  omega
theorem blk_b2 (h : Sc n m A B L K X Y) (hn : n ≤ 28) (hm : m ≤ 28) (s t : Nat) (hs : (s : Int) < L) (ht : (t : Int) ≤ L) : (ball L K Lt lb s ++ brow L K Lt lb s t).length ≤ 784 := by
  have h1 := ball_len (Lt := Lt) (lb := lb) h hm s (by omega)
  have h2 := brow_len (Lt := Lt) (lb := lb) h (o := s) t (by omega)
  have r0 := h.2.1 s (by omega) (by omega)
  have r2 := h.2.1 t (by omega) (by omega)
  simp only [List.length_append]
  by_cases hk : kx L K s = 1
  · have e1 : K s = 1 := by unfold kx at hk; rw [if_pos (by omega)] at hk; exact hk
    have s1 := h.2.2 s (by omega) hs
    have r1 := h.2.1 (s + 1) (by omega) (by omega)
    omega
  · rw [brow_0 hk]
    simp only [List.length_nil]
    omega
/-- each block's facts -/
theorem brow_mem {o : Int} (ho : 0 ≤ o ∧ o < L) : ∀ t : Nat, (t : Int) ≤ L → ∀ q ∈ brow L K Lt lb o t, (1 ≤ q.1 ∧ q.1 ≤ 28) ∧ (0 ≤ q.2.1 ∧ q.2.1 < L) ∧ (0 ≤ q.2.2 ∧ q.2.2 < L)
  | 0, _ => by simp [brow]
  | t + 1, ht => by
    intro q hq
    simp only [brow, List.mem_append] at hq
    rcases hq with hq | hq
    · exact brow_mem ho t (by omega) q hq
    · split at hq
      · rename_i hc
        simp only [List.mem_cons, List.not_mem_nil, or_false] at hq
        subst hq
        have h1 : 1 ≤ sz L K Lt o t := by
          unfold sz
          simp only [mrun]
          rw [if_pos hc.1]
          have := mrun_r L K Lt 27 (o + 1) (t + 1)
          omega
        have h2 := mrun_r L K Lt 28 o t
        unfold sz at *
        simp only
        omega
      · simp at hq
theorem ball_mem : ∀ s : Nat, (s : Int) ≤ L → ∀ q ∈ ball L K Lt lb s, (1 ≤ q.1 ∧ q.1 ≤ 28) ∧ (0 ≤ q.2.1 ∧ q.2.1 < L) ∧ (0 ≤ q.2.2 ∧ q.2.2 < L)
  | 0, _ => by simp [ball]
  | s + 1, hs => by
    intro q hq
    simp only [ball, List.mem_append] at hq
    rcases hq with hq | hq
    · exact ball_mem s (by omega) q hq
    · exact brow_mem (by omega) L.toNat (by omega) q hq
end BLK
/-- blocks in their order -/
def fsz (l : List B3) (s : Int) : List B3 := l.filter (fun q => decide (q.1 = s))
def bsN (l : List B3) : Nat → List B3
  | 0 => []
  | k + 1 => bsN l k ++ fsz l (28 - k)
def bs (l : List B3) : List B3 := bsN l 28
theorem cn_take (l : List B3) (s : Int) : ∀ t : Nat, t ≤ l.length → cn l s t = (fsz (l.take t) s).length
  | 0, _ => by simp [cn, fsz]
  | t + 1, h => by
    have ih := cn_take l s t (by omega)
    have e : l.take (t + 1) = l.take t ++ [l.getD t (0, 0, 0)] := by
      rw [List.take_succ]
      simp [List.getD, show t < l.length by omega]
    simp only [cn]
    rw [ih, e]
    unfold fsz
    rw [List.filter_append, List.length_append]
    generalize l.getD t (0, 0, 0) = q
    by_cases hc : q.1 = s
    · rw [if_pos hc]
      simp [List.filter_cons, hc]
    · rw [if_neg hc]
      simp [List.filter_cons, hc]
theorem ab_len (l : List B3) : ∀ k : Nat, ab l k = (bsN l k).length
  | 0 => by simp [ab, bsN]
  | k + 1 => by
    simp only [ab, bsN, List.length_append]
    rw [ab_len l k, cn_take l _ l.length (by omega), List.take_length]
    omega
theorem fl_at {l : List B3} {s : Int} {t : Nat} {q : B3} (h : l[t]? = some q) (hq : q.1 = s) : (fsz l s)[(cn l s t).toNat]? = some q := by
  have hlt := lt_of_get h
  rw [cn_take l s t (by omega)]
  have e : l = l.take t ++ q :: l.drop (t + 1) := by
    have hg : l[t] = q := by
      rw [List.getElem?_eq_getElem hlt] at h
      exact Option.some.inj h
    rw [← hg, List.getElem_cons_drop, List.take_append_drop]
  have e2 : fsz l s = fsz (l.take t) s ++ q :: fsz (l.drop (t + 1)) s := by
    have : fsz (l.take t ++ q :: l.drop (t + 1)) s = fsz (l.take t) s ++ q :: fsz (l.drop (t + 1)) s := by
      unfold fsz
      rw [List.filter_append, List.filter_cons]
      simp [hq]
    rw [← e] at this
    exact this
  rw [e2]
  simp
theorem cn_ex (l : List B3) (s j : Int) (h0 : 0 ≤ j) : ∀ t : Nat, j < cn l s t → ∃ t', t' < t ∧ cn l s t' = j ∧ (l.getD t' (0, 0, 0)).1 = s
  | 0, h => by simp [cn] at h; omega
  | t + 1, h => by
    by_cases hj : j < cn l s t
    · obtain ⟨t', h1, h2⟩ := cn_ex l s j h0 t hj
      exact ⟨t', by omega, h2⟩
    · simp only [cn] at h
      by_cases hc : (l.getD t (0, 0, 0)).1 = s
      · rw [if_pos hc] at h
        exact ⟨t, by omega, by omega, hc⟩
      · rw [if_neg hc] at h
        omega
theorem bsN_pre (l : List B3) (k : Nat) : ∀ j : Nat, ∃ r, bsN l (k + j) = bsN l k ++ r
  | 0 => ⟨[], by simp⟩
  | j + 1 => by
    obtain ⟨r, hr⟩ := bsN_pre l k j
    exact ⟨r ++ fsz l (28 - ((k + j : Nat) : Int)), by rw [← Nat.add_assoc]; simp only [bsN]; rw [hr, List.append_assoc]⟩
theorem bs_find (l : List B3) (b : Int) (h0 : 0 ≤ b) : ∀ k : Nat, b < ab l k → ∃ k', k' < k ∧ ab l k' ≤ b ∧ b < ab l k' + cn l (28 - k') l.length
  | 0, h => by simp [ab] at h; omega
  | k + 1, h => by
    by_cases hj : b < ab l k
    · obtain ⟨k', h1, h2⟩ := bs_find l b h0 k hj
      exact ⟨k', by omega, h2⟩
    · simp only [ab] at h
      exact ⟨k, by omega, by omega, h⟩
theorem ord_bs {l : List B3} {b w : Int} (h0 : 0 ≤ b) (h : OrdP l b w) : (w = -1 ∧ (bs l)[b.toNat]? = none) ∨ (0 ≤ w ∧ w < l.length ∧ ∃ q, l[w.toNat]? = some q ∧ (bs l)[b.toNat]? = some q) := by
  rcases h with ⟨k, t, q, h1, h2, rfl, h4, h5⟩ | ⟨rfl, h2⟩
  · right
    have hlt := lt_of_get h2
    refine ⟨by omega, by omega, q, by simpa using h2, ?_⟩
    obtain ⟨r, hr⟩ := bsN_pre l (k + 1) (27 - k)
    have e28 : k + 1 + (27 - k) = 28 := by omega
    rw [e28] at hr
    unfold bs
    rw [hr]
    simp only [bsN]
    have hcr := cn_r l (28 - k) t
    have hf := fl_at h2 h4
    have hlf := lt_of_get hf
    have hal := ab_len l k
    rw [List.append_assoc, List.getElem?_append_right (by omega), List.getElem?_append_left (by omega)]
    rw [show b.toNat - (bsN l k).length = (cn l (28 - k) t).toNat by omega]
    exact hf
  · left
    refine ⟨rfl, ?_⟩
    have hal := ab_len l 28
    rw [List.getElem?_eq_none_iff]
    by_cases hc : (bs l).length ≤ b.toNat
    · exact hc
    · exfalso
      unfold bs at hc
      obtain ⟨k', h3, h4, h5⟩ := bs_find l b h0 28 (by omega)
      obtain ⟨t', h6, h7, h8⟩ := cn_ex l (28 - k') (b - ab l k') (by omega) l.length (by omega)
      exact h2 k' t' (l.getD t' (0, 0, 0)) h3 (by simp [List.getD, h6]) h8 (by omega)
section CLASS6
variable {mi mi1 mi2 : MI} {mr mr1 mr2 : MR} {f fb g gb : Nat} {n m n' m' tl D : Int} {A B A' B' Z T : Int → Int} {hs : List St} {P : Int → Nat}
/-- the moved blocks of the least script -/
def mvd (D n m : Int) (A B Z : Int → Int) : List B3 := ball (sL n m D) (sK A B n m D) (sLt A B n m D) (Z 2) (sL n m D).toNat
def vMoved (D n m : Int) (A B Z : Int → Int) (b w : Int) : Int := match (bs (mvd D n m A B Z))[b.toNat]? with
  | none => -1000004
  | some q => if w = 0 then q.1 else if w = 1 then sX A B n m D q.2.1 else sY A B n m D q.2.2
theorem mvd_len (hA : NR n A) (hB : NR m B) (hD : isD n m A B D) : (mvd D n m A B Z).length ≤ 784 := by
  have h1 := ball_len (Lt := sLt A B n m D) (lb := Z 2) (sc_ok hA hB hD) hB.1.2 (sL n m D).toNat (by have := sL_2 hD; have := hA.1; have := hB.1; have := isD_nn hD; omega)
  have h2 := (sc_ok hA hB hD).2.1 (sL n m D) (by have := sL_2 hD; have := hA.1; have := hB.1; have := isD_nn hD; omega) (by omega)
  have h3 := hA.1
  have hL : 0 ≤ sL n m D := by have := sL_2 hD; have := hA.1; have := hB.1; have := isD_nn hD; omega
  rw [show (((sL n m D).toNat : Nat) : Int) = sL n m D by omega] at h1
  unfold mvd
  omega
set_option maxRecDepth 100000 in
set_option maxHeartbeats 1000000 in
theorem c_X10_movedOf {b w : Int} (hD : isD n m A B D) (hb : rng b) (hw : rng w) (h : RepC mi mr ((n, m, A, B, Z), hs, tl, T)) : C1 yX10_movedOf cX10_movedOf 4 (some .int) 5 SH mi mr [vr 0, vi b, vi w] (PoC (opScr D n m A B Z (hs, tl, T) (0 ≤ b ∧ 0 ≤ w ∧ w ≤ 2) (vMoved D n m A B Z b w)) mi) := by
  obtain ⟨f, fb, g, gb, P, hN, hZ, hS, hP, hH, hT⟩ := id h
  simp only at hN hZ hS hP hH hT
  obtain ⟨⟨u1, u2, hG⟩, -⟩ := hN.u
  have hR := sc_R hS.1 hS.2.1 hD
  have hsc := sc_ok hS.1 hS.2.1 hD
  have hn := hS.1.1
  have hm := hS.2.1.1
  have hz2 := hS.2.2.2.2
  have hlen := mvd_len (Z := Z) hS.1 hS.2.1 hD
  simp only at hR hsc hn hm hz2 hlen
  have hmem := ball_mem (K := sK A B n m D) (Lt := sLt A B n m D) (lb := Z 2) (L := sL n m D) (sL n m D).toNat (by have := sL_2 hD; have := isD_nn hD; omega)
  refine Ct.ofV (ini := false) [some (vr 0), some (vi b), some (vi w), none] km_X10_movedOf (by decide) rfl (Nat.le_of_ble_eq_true rfl) ?_
  unfold opScr
  by_cases hin : 0 ≤ b ∧ 0 ≤ w ∧ w ≤ 2
  · rw [if_neg (not_not_intro hin)]
    have e1 : (if 0 ≤ w ∧ w ≤ 2 then (1 : Int) else 0) = 1 := if_pos hin.2
    refine V_iload_n dX10_movedOf_0 rfl ?_
    refine V_if_lt 13 dX10_movedOf_1 (by decide) (by omega) (fun h1 => absurd h1 ((by omega))) (fun _ => ?_)
    refine V_iload_n dX10_movedOf_4 rfl ?_
    refine V_iconst dX10_movedOf_5 ?_
    refine V_iconst dX10_movedOf_6 ?_
    refine V_callSP dX10_movedOf_7 ml_RX10_77 km_X10_isIn ks_X10_isIn (c_X10_isIn (v := w) (a := 0) (b := 2) (by omega) (by omega) (by omega)) rfl rfl (Nat.le_of_ble_eq_true rfl) ⟨Nat.le_of_ble_eq_true rfl, Nat.le_of_ble_eq_true rfl⟩ ⟨Nat.le_of_ble_eq_true rfl, Nat.le_of_ble_eq_true rfl⟩ ?_
    rw [e1]
    refine V_if_ne 16 dX10_movedOf_10 (by decide) (by omega) (fun _ => ?_) (fun h10 => absurd h10 ((by decide)))
    refine V_aload_n dX10_movedOf_16 rfl ?_
    refine V_callV1 dX10_movedOf_17 ml_RX10_149 km_X10_findScript kv_X10_findScript (c_X10_findScript hD h) (by first | with_reducible assumption | rfl) rfl rfl rfl (Nat.le_of_ble_eq_true rfl) ⟨Nat.le_of_ble_eq_true rfl, Nat.le_of_ble_eq_true rfl⟩ ⟨Nat.le_of_ble_eq_true rfl, Nat.le_of_ble_eq_true rfl⟩ ?_
    rintro v mi2 mr2 ⟨rfl, rfl, k1, k2, k3⟩
    have hfin : RepC mi2 mr2 ((n, m, A, B, Z), hs, tl, T) ∧ ∀ x, 62 ≤ x → mi2 x = mi x := ⟨h.keep (fun x x1 x2 => k3 x (by omega)), fun x x1 => k3 x (by omega)⟩
    refine V_if_ne 26 dX10_movedOf_20 (by decide) (by split <;> omega) (fun h20 => ?_) (fun h20 => ?_)
    · have hzd : ¬ Z 0 < D := fun hc => by rw [if_pos hc] at h20; omega
      have hSc := k2 hzd
      have hL := hSc.1
      refine V_aload_n dX10_movedOf_26 rfl ?_
      refine V_getr 7 _ dX10_movedOf_27 fl_RX10_59 (by first | with_reducible assumption | rfl) rfl rfl (by first | with_reducible assumption | exact hG.at rfl) ?_
      refine V_aload_n dX10_movedOf_30 rfl ?_
      refine V_getr 4 _ dX10_movedOf_31 fl_RX10_42 (by first | with_reducible assumption | rfl) rfl rfl (by first | with_reducible assumption | exact hG.at rfl) ?_
      refine V_aload_n dX10_movedOf_34 rfl ?_
      refine V_getr 0 _ dX10_movedOf_35 fl_RX10_12 (by first | with_reducible assumption | rfl) rfl rfl (by first | with_reducible assumption | exact hG.at rfl) ?_
      refine V_getr 2 _ dX10_movedOf_38 fl_RX10_123 (by first | with_reducible assumption | rfl) rfl rfl (by first | with_reducible assumption | exact hG.at rfl) ?_
      refine V_iconst dX10_movedOf_41 ?_
      refine V_iald dX10_movedOf_42 (by first | with_reducible assumption | rfl) (by decide) (by omega) ?_
      rw [k3 6 (by decide), hZ 2 (by decide) (by decide)]
      refine V_callV0 dX10_movedOf_43 ml_RX10_188 km_X0_find kv_X0_find (c_X0_find (lb := Z 2) hz2 hG hSc hR (fun s t s1 s2 s3 => blk_b1 hsc hn.2 hm.2 s t s1 s2 s3) (fun s t s1 s2 => blk_b2 hsc hn.2 hm.2 s t s1 s2)) (by first | with_reducible assumption | rfl) rfl rfl rfl (Nat.le_of_ble_eq_true rfl) ⟨Nat.le_of_ble_eq_true rfl, Nat.le_of_ble_eq_true rfl⟩ ⟨Nat.le_of_ble_eq_true rfl, Nat.le_of_ble_eq_true rfl⟩ ?_
      rintro mi3 mr3 ⟨rfl, hBl, j2⟩
      have hSc3 := hSc.keep (mi' := mi3) (fun x x1 x2 => j2 x (by omega))
      have hfin3 : RepC mi3 mr3 ((n, m, A, B, Z), hs, tl, T) ∧ ∀ x, 62 ≤ x → mi3 x = mi x := ⟨hfin.1.keep (fun x x1 x2 => j2 x (by omega)), fun x x1 => by rw [j2 x (by omega), hfin.2 x x1]⟩
      have hlr : ∀ (t : Nat) (q : B3), (mvd D n m A B Z)[t]? = some q → 0 ≤ q.1 ∧ q.1 ≤ 28 := fun t q hq => by have := hmem q (List.mem_of_getElem? hq); omega
      refine V_aload_n dX10_movedOf_46 rfl ?_
      refine V_getr 7 _ dX10_movedOf_47 fl_RX10_59 (by first | with_reducible assumption | rfl) rfl rfl (by first | with_reducible assumption | exact hG.at rfl) ?_
      refine V_iload_n dX10_movedOf_50 rfl ?_
      refine V_callV1 dX10_movedOf_51 ml_RX10_189 km_X0_inOrder kv_X0_inOrder (c_X0_inOrder (l := mvd D n m A B Z) hG hBl hlen hlr (by omega)) (by first | with_reducible assumption | rfl) rfl rfl rfl (Nat.le_of_ble_eq_true rfl) ⟨Nat.le_of_ble_eq_true rfl, Nat.le_of_ble_eq_true rfl⟩ ⟨Nat.le_of_ble_eq_true rfl, Nat.le_of_ble_eq_true rfl⟩ ?_
      rintro v mi4 mr4 ⟨rfl, rfl, wv, rfl, hO⟩
      have hob := ord_bs hin.1 hO
      refine S_istore_n (ls' := [_, _, _, _]) dX10_movedOf_54 ⟨Nat.le_of_ble_eq_true rfl, rfl, rfl⟩ rfl ?_
      refine V_iload_n dX10_movedOf_55 rfl ?_
      refine V_iconst dX10_movedOf_56 ?_
      refine V_icmp_ne 63 dX10_movedOf_57 (by decide) (by omega) (by omega) (fun h57 => ?_) (fun h57 => ?_)
      · have hsome : 0 ≤ wv ∧ wv < (mvd D n m A B Z).length ∧ ∃ q, (mvd D n m A B Z)[wv.toNat]? = some q ∧ (bs (mvd D n m A B Z))[b.toNat]? = some q := by
          rcases hob with ⟨h2, -⟩ | h2
          · omega
          · exact h2
        obtain ⟨w1, w2, q, w3, w4⟩ := hsome
        have hq := hBl.2 wv.toNat q w3
        rw [show ((wv.toNat : Nat) : Int) = wv by omega] at hq
        obtain ⟨q1, q2, q3⟩ := hq
        have hqm := hmem q (List.mem_of_getElem? w3)
        have hB1 : mi4 48 3 = (mvd D n m A B Z).length := hBl.1
        refine V_iload_n dX10_movedOf_63 rfl ?_
        rcases (show w = 0 ∨ w = 1 ∨ w = 2 by omega) with rfl | rfl | rfl
        · refine V_lsw 28 92 dX10_movedOf_64 (by decide) (by decide) (by decide) (by decide) ?_
          refine V_aload_n dX10_movedOf_92 rfl ?_
          refine V_getr 7 _ dX10_movedOf_93 fl_RX10_59 (by first | with_reducible assumption | rfl) rfl rfl (by first | with_reducible assumption | exact hG.at rfl) ?_
          refine V_iload_n dX10_movedOf_96 rfl ?_
          refine V_callVP dX10_movedOf_97 ml_RX10_192 km_X0_sizeOf kv_X0_sizeOf (c_X0_sizeOf hG (by omega) (by omega)) (by first | with_reducible assumption | rfl) rfl rfl rfl (Nat.le_of_ble_eq_true rfl) ⟨Nat.le_of_ble_eq_true rfl, Nat.le_of_ble_eq_true rfl⟩ ⟨Nat.le_of_ble_eq_true rfl, Nat.le_of_ble_eq_true rfl⟩ ?_
          rw [q1]
          refine V_iret dX10_movedOf_100 rfl ⟨Nat.le_of_ble_eq_true rfl, Nat.le_of_ble_eq_true rfl⟩ ?_
          exact ⟨rfl, _, rfl, by rw [if_neg hzd]; unfold vMoved; rw [w4]; rfl, hfin3⟩
        · refine V_lsw 37 101 dX10_movedOf_64 (by decide) (by decide) (by decide) (by decide) ?_
          refine V_aload_n dX10_movedOf_101 rfl ?_
          refine V_getr 4 _ dX10_movedOf_102 fl_RX10_42 (by first | with_reducible assumption | rfl) rfl rfl (by first | with_reducible assumption | exact hG.at rfl) ?_
          refine V_aload_n dX10_movedOf_105 rfl ?_
          refine V_getr 7 _ dX10_movedOf_106 fl_RX10_59 (by first | with_reducible assumption | rfl) rfl rfl (by first | with_reducible assumption | exact hG.at rfl) ?_
          refine V_iload_n dX10_movedOf_109 rfl ?_
          refine V_callVP dX10_movedOf_110 ml_RX10_195 km_X0_outOf kv_X0_outOf (c_X0_outOf hG (by omega) (by omega)) (by first | with_reducible assumption | rfl) rfl rfl rfl (Nat.le_of_ble_eq_true rfl) ⟨Nat.le_of_ble_eq_true rfl, Nat.le_of_ble_eq_true rfl⟩ ⟨Nat.le_of_ble_eq_true rfl, Nat.le_of_ble_eq_true rfl⟩ ?_
          rw [q2]
          refine V_callVP dX10_movedOf_113 ml_RX10_159 km_X8_firstDoneAt kv_X8_firstDoneAt (d_firstDoneAt hG (by omega) hSc3) (by first | with_reducible assumption | rfl) rfl rfl rfl (Nat.le_of_ble_eq_true rfl) ⟨Nat.le_of_ble_eq_true rfl, Nat.le_of_ble_eq_true rfl⟩ ⟨Nat.le_of_ble_eq_true rfl, Nat.le_of_ble_eq_true rfl⟩ ?_
          refine V_iret dX10_movedOf_116 rfl ⟨Nat.le_of_ble_eq_true rfl, Nat.le_of_ble_eq_true rfl⟩ ?_
          exact ⟨rfl, _, rfl, by rw [if_neg hzd]; unfold vMoved; rw [w4]; rfl, hfin3⟩
        · refine V_lsw 53 117 dX10_movedOf_64 (by decide) (by decide) (by decide) (by decide) ?_
          refine V_aload_n dX10_movedOf_117 rfl ?_
          refine V_getr 4 _ dX10_movedOf_118 fl_RX10_42 (by first | with_reducible assumption | rfl) rfl rfl (by first | with_reducible assumption | exact hG.at rfl) ?_
          refine V_aload_n dX10_movedOf_121 rfl ?_
          refine V_getr 7 _ dX10_movedOf_122 fl_RX10_59 (by first | with_reducible assumption | rfl) rfl rfl (by first | with_reducible assumption | exact hG.at rfl) ?_
          refine V_iload_n dX10_movedOf_125 rfl ?_
          refine V_callVP dX10_movedOf_126 ml_RX10_198 km_X0_inOf kv_X0_inOf (c_X0_inOf hG (by omega) (by omega)) (by first | with_reducible assumption | rfl) rfl rfl rfl (Nat.le_of_ble_eq_true rfl) ⟨Nat.le_of_ble_eq_true rfl, Nat.le_of_ble_eq_true rfl⟩ ⟨Nat.le_of_ble_eq_true rfl, Nat.le_of_ble_eq_true rfl⟩ ?_
          rw [q3]
          refine V_callVP dX10_movedOf_129 ml_RX10_162 km_X8_secondDoneAt kv_X8_secondDoneAt (d_secondDoneAt hG (by omega) hSc3) (by first | with_reducible assumption | rfl) rfl rfl rfl (Nat.le_of_ble_eq_true rfl) ⟨Nat.le_of_ble_eq_true rfl, Nat.le_of_ble_eq_true rfl⟩ ⟨Nat.le_of_ble_eq_true rfl, Nat.le_of_ble_eq_true rfl⟩ ?_
          refine V_iret dX10_movedOf_132 rfl ⟨Nat.le_of_ble_eq_true rfl, Nat.le_of_ble_eq_true rfl⟩ ?_
          exact ⟨rfl, _, rfl, by rw [if_neg hzd]; unfold vMoved; rw [w4]; rfl, hfin3⟩
      · have hwv : wv = -1 := by omega
        have hnone : (bs (mvd D n m A B Z))[b.toNat]? = none := by
          rcases hob with ⟨-, h2⟩ | ⟨h2, -⟩
          · exact h2
          · omega
        refine V_ldc (-1000004) dX10_movedOf_60 kc_RX10_142 rfl ?_
        refine V_iret dX10_movedOf_62 rfl ⟨Nat.le_of_ble_eq_true rfl, Nat.le_of_ble_eq_true rfl⟩ ?_
        exact ⟨rfl, _, rfl, by rw [if_neg hzd]; unfold vMoved; rw [hnone], hfin3⟩
    · have hzd : Z 0 < D := Decidable.byContradiction fun hc => by rw [if_neg hc] at h20; omega
      refine V_ldc (-1000003) dX10_movedOf_23 kc_RX10_90 rfl ?_
      refine V_iret dX10_movedOf_25 rfl ⟨Nat.le_of_ble_eq_true rfl, Nat.le_of_ble_eq_true rfl⟩ ?_
      exact ⟨rfl, _, rfl, by rw [if_pos hzd], hfin⟩
  · rw [if_pos hin]
    refine V_iload_n dX10_movedOf_0 rfl ?_
    refine V_if_lt 13 dX10_movedOf_1 (by decide) (by omega) (fun h1 => ?_) (fun h1 => ?_)
    · refine V_ldc (-1000001) dX10_movedOf_13 kc_RX10_81 rfl ?_
      refine V_iret dX10_movedOf_15 rfl ⟨Nat.le_of_ble_eq_true rfl, Nat.le_of_ble_eq_true rfl⟩ ?_
      exact ⟨rfl, _, rfl, rfl, h, fun _ _ => rfl⟩
    · refine V_iload_n dX10_movedOf_4 rfl ?_
      refine V_iconst dX10_movedOf_5 ?_
      refine V_iconst dX10_movedOf_6 ?_
      refine V_callSP dX10_movedOf_7 ml_RX10_77 km_X10_isIn ks_X10_isIn (c_X10_isIn (v := w) (a := 0) (b := 2) (by omega) (by omega) (by omega)) rfl rfl (Nat.le_of_ble_eq_true rfl) ⟨Nat.le_of_ble_eq_true rfl, Nat.le_of_ble_eq_true rfl⟩ ⟨Nat.le_of_ble_eq_true rfl, Nat.le_of_ble_eq_true rfl⟩ ?_
      refine V_if_ne 16 dX10_movedOf_10 (by decide) (by split <;> omega) (fun h10 => ?_) (fun h10 => ?_)
      · exact absurd (by rw [ifz, Decidable.not_not] at h10; exact ⟨by omega, h10⟩) hin
      · refine V_ldc (-1000001) dX10_movedOf_13 kc_RX10_81 rfl ?_
        refine V_iret dX10_movedOf_15 rfl ⟨Nat.le_of_ble_eq_true rfl, Nat.le_of_ble_eq_true rfl⟩ ?_
        exact ⟨rfl, _, rfl, rfl, h, fun _ _ => rfl⟩
def vCount (D n m : Int) (A B Z : Int → Int) (w : Int) : Int :=
  if w = 2 then sL n m D else if w = 3 then sL n m D - D else if w = 4 then (hk (Z 1) (sK A B n m D) (sL n m D).toNat).1 else (mvd D n m A B Z).length
set_option maxRecDepth 100000 in
set_option maxHeartbeats 1000000 in
theorem c_X10_countOfScript {w : Int} (hD : isD n m A B D) (hw : 2 ≤ w ∧ w ≤ 5) (h : RepC mi mr ((n, m, A, B, Z), hs, tl, T)) : C1 yX10_countOfScript cX10_countOfScript 2 (some .int) 5 SH mi mr [vr 0, vi w] (PoC (opScr D n m A B Z (hs, tl, T) True (vCount D n m A B Z w)) mi) := by
  obtain ⟨f, fb, g, gb, P, hN, hZ, hS, hP, hH, hT⟩ := id h
  simp only at hN hZ hS hP hH hT
  obtain ⟨⟨u1, u2, hG⟩, -⟩ := hN.u
  have hR := sc_R hS.1 hS.2.1 hD
  have hsc := sc_ok hS.1 hS.2.1 hD
  have hn := hS.1.1
  have hm := hS.2.1.1
  have hz1 := hS.2.2.2.1
  have hz2 := hS.2.2.2.2
  simp only at hR hsc hn hm hz2 hz1
  refine Ct.ofV (ini := false) [some (vr 0), some (vi w)] km_X10_countOfScript (by decide) rfl (Nat.le_of_ble_eq_true rfl) ?_
  unfold opScr
  rw [if_neg (not_not_intro trivial)]
  refine V_aload_n dX10_countOfScript_0 rfl ?_
  refine V_callV1 dX10_countOfScript_1 ml_RX10_149 km_X10_findScript kv_X10_findScript (c_X10_findScript hD h) (by first | with_reducible assumption | rfl) rfl rfl rfl (Nat.le_of_ble_eq_true rfl) ⟨Nat.le_of_ble_eq_true rfl, Nat.le_of_ble_eq_true rfl⟩ ⟨Nat.le_of_ble_eq_true rfl, Nat.le_of_ble_eq_true rfl⟩ ?_
  rintro v mi2 mr2 ⟨rfl, rfl, k1, k2, k3⟩
  have hfin : RepC mi2 mr2 ((n, m, A, B, Z), hs, tl, T) ∧ ∀ x, 62 ≤ x → mi2 x = mi x := ⟨h.keep (fun x x1 x2 => k3 x (by omega)), fun x x1 => k3 x (by omega)⟩
  refine V_if_ne 10 dX10_countOfScript_4 (by decide) (by split <;> omega) (fun h4 => ?_) (fun h4 => ?_)
  · have hzd : ¬ Z 0 < D := fun hc => by rw [if_pos hc] at h4; omega
    have hSc := k2 hzd
    have hL := hSc.1
    refine V_iload_n dX10_countOfScript_10 rfl ?_
    rcases (show w = 2 ∨ w = 3 ∨ w = 4 ∨ w = 5 by omega) with rfl | rfl | rfl | rfl
    · refine V_tsw 25 36 dX10_countOfScript_11 (by decide) (Or.inl ⟨by decide, by decide, rfl⟩) (by decide) ?_
      refine V_aload_n dX10_countOfScript_36 rfl ?_
      refine V_getr 4 _ dX10_countOfScript_37 fl_RX10_42 (by first | with_reducible assumption | rfl) rfl rfl (by first | with_reducible assumption | exact hG.at rfl) ?_
      refine V_geti 4 dX10_countOfScript_40 fl_RX10_152 (by first | with_reducible assumption | rfl) rfl rfl ?_
      rw [hL.1]
      refine V_iret dX10_countOfScript_43 rfl ⟨Nat.le_of_ble_eq_true rfl, Nat.le_of_ble_eq_true rfl⟩ ?_
      exact ⟨rfl, _, rfl, by rw [if_neg hzd]; rfl, hfin⟩
    · refine V_tsw 33 44 dX10_countOfScript_11 (by decide) (Or.inl ⟨by decide, by decide, rfl⟩) (by decide) ?_
      refine V_aload_n dX10_countOfScript_44 rfl ?_
      refine V_getr 4 _ dX10_countOfScript_45 fl_RX10_42 (by first | with_reducible assumption | rfl) rfl rfl (by first | with_reducible assumption | exact hG.at rfl) ?_
      refine V_geti 4 dX10_countOfScript_48 fl_RX10_152 (by first | with_reducible assumption | rfl) rfl rfl ?_
      rw [hL.1]
      refine V_aload_n dX10_countOfScript_51 rfl ?_
      refine V_getr 3 _ dX10_countOfScript_52 fl_RX10_35 (by first | with_reducible assumption | rfl) rfl rfl (by first | with_reducible assumption | exact hG.at rfl) ?_
      refine V_geti 1 dX10_countOfScript_55 fl_RX10_139 (by first | with_reducible assumption | rfl) rfl rfl ?_
      rw [k1]
      refine V_isub dX10_countOfScript_58 ?_
      refine V_iret dX10_countOfScript_59 rfl ⟨Nat.le_of_ble_eq_true rfl, Nat.le_of_ble_eq_true rfl⟩ ?_
      exact ⟨rfl, _, rfl, by rw [if_neg hzd]; rfl, hfin⟩
    · refine V_tsw 49 60 dX10_countOfScript_11 (by decide) (Or.inl ⟨by decide, by decide, rfl⟩) (by decide) ?_
      refine V_aload_n dX10_countOfScript_60 rfl ?_
      refine V_getr 6 _ dX10_countOfScript_61 fl_RX10_52 (by first | with_reducible assumption | rfl) rfl rfl (by first | with_reducible assumption | exact hG.at rfl) ?_
      refine V_aload_n dX10_countOfScript_64 rfl ?_
      refine V_getr 4 _ dX10_countOfScript_65 fl_RX10_42 (by first | with_reducible assumption | rfl) rfl rfl (by first | with_reducible assumption | exact hG.at rfl) ?_
      refine V_aload_n dX10_countOfScript_68 rfl ?_
      refine V_getr 0 _ dX10_countOfScript_69 fl_RX10_12 (by first | with_reducible assumption | rfl) rfl rfl (by first | with_reducible assumption | exact hG.at rfl) ?_
      refine V_getr 2 _ dX10_countOfScript_72 fl_RX10_123 (by first | with_reducible assumption | rfl) rfl rfl (by first | with_reducible assumption | exact hG.at rfl) ?_
      refine V_iconst dX10_countOfScript_75 ?_
      refine V_iald dX10_countOfScript_76 (by first | with_reducible assumption | rfl) (by decide) (by omega) ?_
      rw [k3 6 (by decide), hZ 1 (by decide) (by decide)]
      refine V_callV0 dX10_countOfScript_77 ml_RX10_173 km_X4_find kv_X4_find (c_X4_find (r := Z 1) hz1 hG hSc hR) (by first | with_reducible assumption | rfl) rfl rfl rfl (Nat.le_of_ble_eq_true rfl) ⟨Nat.le_of_ble_eq_true rfl, Nat.le_of_ble_eq_true rfl⟩ ⟨Nat.le_of_ble_eq_true rfl, Nat.le_of_ble_eq_true rfl⟩ ?_
      rintro mi3 mr3 ⟨rfl, ⟨q1, q2⟩, j2⟩
      have hfin3 : RepC mi3 mr3 ((n, m, A, B, Z), hs, tl, T) ∧ ∀ x, 62 ≤ x → mi3 x = mi x := ⟨hfin.1.keep (fun x x1 x2 => j2 x (by omega)), fun x x1 => by rw [j2 x (by omega), hfin.2 x x1]⟩
      refine V_aload_n dX10_countOfScript_80 rfl ?_
      refine V_getr 6 _ dX10_countOfScript_81 fl_RX10_52 (by first | with_reducible assumption | rfl) rfl rfl (by first | with_reducible assumption | exact hG.at rfl) ?_
      refine V_geti 3 dX10_countOfScript_84 fl_RX10_176 (by first | with_reducible assumption | rfl) rfl rfl ?_
      rw [q1]
      refine V_iret dX10_countOfScript_87 rfl ⟨Nat.le_of_ble_eq_true rfl, Nat.le_of_ble_eq_true rfl⟩ ?_
      exact ⟨rfl, _, rfl, by rw [if_neg hzd]; rfl, hfin3⟩
    · refine V_tsw 77 88 dX10_countOfScript_11 (by decide) (Or.inr ⟨Or.inr (by decide), rfl⟩) (by decide) ?_
      refine V_aload_n dX10_countOfScript_88 rfl ?_
      refine V_getr 7 _ dX10_countOfScript_89 fl_RX10_59 (by first | with_reducible assumption | rfl) rfl rfl (by first | with_reducible assumption | exact hG.at rfl) ?_
      refine V_aload_n dX10_countOfScript_92 rfl ?_
      refine V_getr 4 _ dX10_countOfScript_93 fl_RX10_42 (by first | with_reducible assumption | rfl) rfl rfl (by first | with_reducible assumption | exact hG.at rfl) ?_
      refine V_aload_n dX10_countOfScript_96 rfl ?_
      refine V_getr 0 _ dX10_countOfScript_97 fl_RX10_12 (by first | with_reducible assumption | rfl) rfl rfl (by first | with_reducible assumption | exact hG.at rfl) ?_
      refine V_getr 2 _ dX10_countOfScript_100 fl_RX10_123 (by first | with_reducible assumption | rfl) rfl rfl (by first | with_reducible assumption | exact hG.at rfl) ?_
      refine V_iconst dX10_countOfScript_103 ?_
      refine V_iald dX10_countOfScript_104 (by first | with_reducible assumption | rfl) (by decide) (by omega) ?_
      rw [k3 6 (by decide), hZ 2 (by decide) (by decide)]
      refine V_callV0 dX10_countOfScript_105 ml_RX10_188 km_X0_find kv_X0_find (c_X0_find (lb := Z 2) hz2 hG hSc hR (fun s t s1 s2 s3 => blk_b1 hsc hn.2 hm.2 s t s1 s2 s3) (fun s t s1 s2 => blk_b2 hsc hn.2 hm.2 s t s1 s2)) (by first | with_reducible assumption | rfl) rfl rfl rfl (Nat.le_of_ble_eq_true rfl) ⟨Nat.le_of_ble_eq_true rfl, Nat.le_of_ble_eq_true rfl⟩ ⟨Nat.le_of_ble_eq_true rfl, Nat.le_of_ble_eq_true rfl⟩ ?_
      rintro mi3 mr3 ⟨rfl, hBl, j2⟩
      have hfin3 : RepC mi3 mr3 ((n, m, A, B, Z), hs, tl, T) ∧ ∀ x, 62 ≤ x → mi3 x = mi x := ⟨hfin.1.keep (fun x x1 x2 => j2 x (by omega)), fun x x1 => by rw [j2 x (by omega), hfin.2 x x1]⟩
      refine V_aload_n dX10_countOfScript_108 rfl ?_
      refine V_getr 7 _ dX10_countOfScript_109 fl_RX10_59 (by first | with_reducible assumption | rfl) rfl rfl (by first | with_reducible assumption | exact hG.at rfl) ?_
      refine V_geti 3 dX10_countOfScript_112 fl_RX10_250 (by first | with_reducible assumption | rfl) rfl rfl ?_
      rw [hBl.1]
      refine V_iret dX10_countOfScript_115 rfl ⟨Nat.le_of_ble_eq_true rfl, Nat.le_of_ble_eq_true rfl⟩ ?_
      exact ⟨rfl, _, rfl, by rw [if_neg hzd]; rfl, hfin3⟩
  · have hzd : Z 0 < D := Decidable.byContradiction fun hc => by rw [if_neg hc] at h4; omega
    refine V_ldc (-1000003) dX10_countOfScript_7 kc_RX10_90 rfl ?_
    refine V_iret dX10_countOfScript_9 rfl ⟨Nat.le_of_ble_eq_true rfl, Nat.le_of_ble_eq_true rfl⟩ ?_
    exact ⟨rfl, _, rfl, by rw [if_pos hzd], hfin⟩
/-- what count tells -/
def opCount (D n m : Int) (A B Z : Int → Int) (hs : List St) (tl : Int) (T : Int → Int) (w : Int) : Int × Sg :=
  (if 20 ≤ w ∧ w ≤ 22 then Z (w - 20) else if w = 0 then n else if w = 1 then m else if 2 ≤ w ∧ w ≤ 5 then (if Z 0 < D then -1000003 else vCount D n m A B Z w) else if w = 6 then lgA m.toNat A B n.toNat else if w = 7 then hs.length else if w = 8 then tl else -1000001, (n, m, A, B, Z), hs, tl, T)
set_option maxRecDepth 100000 in
set_option maxHeartbeats 1000000 in
theorem c_X10_count {w : Int} (hD : isD n m A B D) (hw : rng w) (h : RepC mi mr ((n, m, A, B, Z), hs, tl, T)) : C1 yX10_count cX10_count 2 (some .int) 6 SH mi mr [vr 0, vi w] (PoC (opCount D n m A B Z hs tl T w) mi) := by
  obtain ⟨f, fb, g, gb, P, hN, hZ, hS, hP, hH, hT⟩ := id h
  simp only at hN hZ hS hP hH hT
  obtain ⟨⟨u1, u2, hG⟩, ⟨u4, u5, u6⟩, ⟨u7, u8, u9⟩, ⟨u10, u11, u12⟩, -⟩ := hN.u
  refine Ct.ofV (ini := false) [some (vr 0), some (vi w)] km_X10_count (by decide) rfl (Nat.le_of_ble_eq_true rfl) ?_
  by_cases hin : 20 ≤ w ∧ w ≤ 22
  · have e1 : (if 20 ≤ w ∧ w ≤ 22 then (1 : Int) else 0) = 1 := if_pos hin
    refine V_iload_n dX10_count_0 rfl ?_
    refine V_bipush dX10_count_1 (by decide) ?_
    refine V_bipush dX10_count_3 (by decide) ?_
    refine V_callSP dX10_count_5 ml_RX10_77 km_X10_isIn ks_X10_isIn (c_X10_isIn (v := w) (a := 20) (b := 22) (by omega) (by omega) (by omega)) rfl rfl (Nat.le_of_ble_eq_true rfl) ⟨Nat.le_of_ble_eq_true rfl, Nat.le_of_ble_eq_true rfl⟩ ⟨Nat.le_of_ble_eq_true rfl, Nat.le_of_ble_eq_true rfl⟩ ?_
    rw [e1]
    refine V_if_eq 24 dX10_count_8 (by decide) (by omega) (fun h8 => absurd h8 ((by decide))) (fun _ => ?_)
    refine V_aload_n dX10_count_11 rfl ?_
    refine V_getr 0 _ dX10_count_12 fl_RX10_12 (by first | with_reducible assumption | rfl) rfl rfl (by first | with_reducible assumption | exact hG.at rfl) ?_
    refine V_getr 2 _ dX10_count_15 fl_RX10_123 (by first | with_reducible assumption | rfl) rfl rfl (by first | with_reducible assumption | exact hG.at rfl) ?_
    refine V_iload_n dX10_count_18 rfl ?_
    refine V_bipush dX10_count_19 (by decide) ?_
    refine V_isub dX10_count_21 ?_
    refine V_iald dX10_count_22 (by first | with_reducible assumption | rfl) (by decide) (by omega) ?_
    rw [hZ (w - 20) (by omega) (by omega)]
    refine V_iret dX10_count_23 rfl ⟨Nat.le_of_ble_eq_true rfl, Nat.le_of_ble_eq_true rfl⟩ ?_
    exact ⟨rfl, _, rfl, by unfold opCount; rw [if_pos hin], h, fun _ _ => rfl⟩
  · have e1 : (if 20 ≤ w ∧ w ≤ 22 then (1 : Int) else 0) = 0 := if_neg hin
    refine V_iload_n dX10_count_0 rfl ?_
    refine V_bipush dX10_count_1 (by decide) ?_
    refine V_bipush dX10_count_3 (by decide) ?_
    refine V_callSP dX10_count_5 ml_RX10_77 km_X10_isIn ks_X10_isIn (c_X10_isIn (v := w) (a := 20) (b := 22) (by omega) (by omega) (by omega)) rfl rfl (Nat.le_of_ble_eq_true rfl) ⟨Nat.le_of_ble_eq_true rfl, Nat.le_of_ble_eq_true rfl⟩ ⟨Nat.le_of_ble_eq_true rfl, Nat.le_of_ble_eq_true rfl⟩ ?_
    rw [e1]
    refine V_if_eq 24 dX10_count_8 (by decide) (by omega) (fun _ => ?_) (fun h8 => absurd h8 ((by decide)))
    refine V_iload_n dX10_count_24 rfl ?_
    rcases (show w = 0 ∨ w = 1 ∨ (2 ≤ w ∧ w ≤ 5) ∨ w = 6 ∨ w = 7 ∨ w = 8 ∨ (w < 0 ∨ 8 < w) by omega) with rfl | rfl | hw5 | rfl | rfl | rfl | hw9
    · refine V_tsw 51 76 dX10_count_25 (by decide) (Or.inl ⟨by decide, by decide, rfl⟩) (by decide) ?_
      refine V_aload_n dX10_count_76 rfl ?_
      refine V_getr 0 _ dX10_count_77 fl_RX10_12 (by first | with_reducible assumption | rfl) rfl rfl (by first | with_reducible assumption | exact hG.at rfl) ?_
      refine V_getr 0 _ dX10_count_80 fl_RX10_113 (by first | with_reducible assumption | rfl) rfl rfl (by first | with_reducible assumption | exact hG.at rfl) ?_
      refine V_geti 1 dX10_count_83 fl_RX10_86 (by exact u4) rfl rfl ?_
      rw [u10]
      refine V_iret dX10_count_86 rfl ⟨Nat.le_of_ble_eq_true rfl, Nat.le_of_ble_eq_true rfl⟩ ?_
      exact ⟨rfl, _, rfl, rfl, h, fun _ _ => rfl⟩
    · refine V_tsw 62 87 dX10_count_25 (by decide) (Or.inl ⟨by decide, by decide, rfl⟩) (by decide) ?_
      refine V_aload_n dX10_count_87 rfl ?_
      refine V_getr 0 _ dX10_count_88 fl_RX10_12 (by first | with_reducible assumption | rfl) rfl rfl (by first | with_reducible assumption | exact hG.at rfl) ?_
      refine V_getr 1 _ dX10_count_91 fl_RX10_129 (by first | with_reducible assumption | rfl) rfl rfl (by first | with_reducible assumption | exact hG.at rfl) ?_
      refine V_geti 1 dX10_count_94 fl_RX10_86 (by exact u7) rfl rfl ?_
      rw [u11]
      refine V_iret dX10_count_97 rfl ⟨Nat.le_of_ble_eq_true rfl, Nat.le_of_ble_eq_true rfl⟩ ?_
      exact ⟨rfl, _, rfl, rfl, h, fun _ _ => rfl⟩
    · refine V_tsw 73 98 dX10_count_25 hw (Or.inl ⟨by omega, by omega, by rcases (show w = 2 ∨ w = 3 ∨ w = 4 ∨ w = 5 by omega) with rfl | rfl | rfl | rfl <;> rfl⟩) (by decide) ?_
      refine V_aload_n dX10_count_98 rfl ?_
      refine V_iload_n dX10_count_99 rfl ?_
      refine V_callV1 dX10_count_100 ml_RX10_213 km_X10_countOfScript kv_X10_countOfScript (c_X10_countOfScript hD hw5 h) (by first | with_reducible assumption | rfl) rfl rfl rfl (Nat.le_of_ble_eq_true rfl) ⟨Nat.le_of_ble_eq_true rfl, Nat.le_of_ble_eq_true rfl⟩ ⟨Nat.le_of_ble_eq_true rfl, Nat.le_of_ble_eq_true rfl⟩ ?_
      rintro v mi2 mr2 ⟨rfl, k1, k2⟩
      refine V_iret dX10_count_103 rfl ⟨Nat.le_of_ble_eq_true rfl, Nat.le_of_ble_eq_true rfl⟩ ?_
      exact ⟨rfl, _, rfl, by unfold opCount opScr; rw [if_neg (not_not_intro trivial), if_neg hin, if_neg (show ¬ w = 0 by omega), if_neg (show ¬ w = 1 by omega), if_pos hw5], k1, k2⟩
    · refine V_tsw 79 104 dX10_count_25 (by decide) (Or.inl ⟨by decide, by decide, rfl⟩) (by decide) ?_
      refine V_aload_n dX10_count_104 rfl ?_
      refine V_getr 0 _ dX10_count_105 fl_RX10_12 (by first | with_reducible assumption | rfl) rfl rfl (by first | with_reducible assumption | exact hG.at rfl) ?_
      refine V_callVP dX10_count_108 ml_RX10_216 km_X9_longestAlike kv_X9_longestAlike (c_X9_longestAlike hN) (by first | with_reducible assumption | rfl) rfl rfl rfl (Nat.le_of_ble_eq_true rfl) ⟨Nat.le_of_ble_eq_true rfl, Nat.le_of_ble_eq_true rfl⟩ ⟨Nat.le_of_ble_eq_true rfl, Nat.le_of_ble_eq_true rfl⟩ ?_
      refine V_iret dX10_count_111 rfl ⟨Nat.le_of_ble_eq_true rfl, Nat.le_of_ble_eq_true rfl⟩ ?_
      exact ⟨rfl, _, rfl, rfl, h, fun _ _ => rfl⟩
    · refine V_tsw 87 112 dX10_count_25 (by decide) (Or.inl ⟨by decide, by decide, rfl⟩) (by decide) ?_
      refine V_aload_n dX10_count_112 rfl ?_
      refine V_getr 1 _ dX10_count_113 fl_RX10_19 (by first | with_reducible assumption | rfl) rfl rfl (by first | with_reducible assumption | exact hG.at rfl) ?_
      refine V_geti 1 dX10_count_116 fl_RX10_220 (by first | with_reducible assumption | rfl) rfl rfl ?_
      rw [hH.1]
      refine V_iret dX10_count_119 rfl ⟨Nat.le_of_ble_eq_true rfl, Nat.le_of_ble_eq_true rfl⟩ ?_
      exact ⟨rfl, _, rfl, rfl, h, fun _ _ => rfl⟩
    · refine V_tsw 95 120 dX10_count_25 (by decide) (Or.inl ⟨by decide, by decide, rfl⟩) (by decide) ?_
      refine V_aload_n dX10_count_120 rfl ?_
      refine V_getr 2 _ dX10_count_121 fl_RX10_28 (by first | with_reducible assumption | rfl) rfl rfl (by first | with_reducible assumption | exact hG.at rfl) ?_
      refine V_geti 1 dX10_count_124 fl_RX10_86 (by first | with_reducible assumption | rfl) rfl rfl ?_
      rw [hT.1]
      refine V_iret dX10_count_127 rfl ⟨Nat.le_of_ble_eq_true rfl, Nat.le_of_ble_eq_true rfl⟩ ?_
      exact ⟨rfl, _, rfl, rfl, h, fun _ _ => rfl⟩
    · refine V_tsw 103 128 dX10_count_25 hw (Or.inr ⟨by omega, rfl⟩) (by decide) ?_
      refine V_ldc (-1000001) dX10_count_128 kc_RX10_81 rfl ?_
      refine V_iret dX10_count_130 rfl ⟨Nat.le_of_ble_eq_true rfl, Nat.le_of_ble_eq_true rfl⟩ ?_
      exact ⟨rfl, _, rfl, by unfold opCount; rw [if_neg hin, if_neg (by omega), if_neg (by omega), if_neg (by omega), if_neg (by omega), if_neg (by omega), if_neg (by omega)], h, fun _ _ => rfl⟩
end CLASS6
