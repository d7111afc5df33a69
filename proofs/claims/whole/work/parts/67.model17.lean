/-! ===== DiagonalTextsModel: moved blocks ===== -/
section MODEL17
variable {mi mi1 mi2 mi3 mi4 : MI} {mr : MR} {n m n' m' tl D L lb : Int} {A B A' B' Z T : Int → Int} {K X Y O I : Int → Int} {hs hs' : List St} {u : Int × (Int → Int)} {σ : St}
theorem ry_len (n m : Int) (A B O I : Int → Int) (lb l x : Int) : ∀ t : Nat, (ryM n m A B O I lb l x t).length ≤ t
  | 0 => by simp [ryM]
  | t + 1 => by
    have := ry_len n m A B O I lb l x t
    simp only [ryM, List.length_append]
    split <;> (simp; omega)
theorem rx_len (n m : Int) (A B O I : Int → Int) (lb l : Int) (hm : m ≤ 28) : ∀ s : Nat, (rxM n m A B O I lb l s).length ≤ 28 * s
  | 0 => by simp [rxM]
  | s + 1 => by
    have h1 := rx_len n m A B O I lb l hm s
    have h2 := ry_len n m A B O I lb l s m.toNat
    simp only [rxM, List.length_append]
    omega
theorem ml_len (n m : Int) (A B O I : Int → Int) (lb : Int) (hn : n ≤ 28) (hm : m ≤ 28) : ∀ k : Nat, (mlM n m A B O I lb k).length ≤ 784 * k
  | 0 => by simp [mlM]
  | k + 1 => by
    have h1 := ml_len n m A B O I lb hn hm k
    have h2 := rx_len n m A B O I lb (28 - k) hm n.toNat
    simp only [mlM, List.length_append]
    omega
theorem ry_pre (n m : Int) (A B O I : Int → Int) (lb l x : Int) (t : Nat) : ∀ j : Nat, ∃ r, ryM n m A B O I lb l x (t + j) = ryM n m A B O I lb l x t ++ r
  | 0 => ⟨[], by simp⟩
  | j + 1 => by
    obtain ⟨r, hr⟩ := ry_pre n m A B O I lb l x t j
    exact ⟨r ++ _, by rw [← Nat.add_assoc]; simp only [ryM]; rw [hr, List.append_assoc]⟩
theorem rx_pre (n m : Int) (A B O I : Int → Int) (lb l : Int) (s : Nat) : ∀ j : Nat, ∃ r, rxM n m A B O I lb l (s + j) = rxM n m A B O I lb l s ++ r
  | 0 => ⟨[], by simp⟩
  | j + 1 => by
    obtain ⟨r, hr⟩ := rx_pre n m A B O I lb l s j
    exact ⟨r ++ _, by rw [← Nat.add_assoc]; simp only [rxM]; rw [hr, List.append_assoc]⟩
theorem ml_pre (n m : Int) (A B O I : Int → Int) (lb : Int) (k : Nat) : ∀ j : Nat, ∃ r, mlM n m A B O I lb (k + j) = mlM n m A B O I lb k ++ r
  | 0 => ⟨[], by simp⟩
  | j + 1 => by
    obtain ⟨r, hr⟩ := ml_pre n m A B O I lb k j
    exact ⟨r ++ _, by rw [← Nat.add_assoc]; simp only [mlM]; rw [hr, List.append_assoc]⟩
/-- a block's place among all -/
theorem ml_at {k x y : Nat} (hk : k < 28) (hx : (x : Int) < n) (hy : (y : Int) < m) (hb : bkM n m A B O I lb x y = 28 - (k : Int)) : (mlM n m A B O I lb 28)[(mlM n m A B O I lb k).length + (rxM n m A B O I lb (28 - k) x).length + (ryM n m A B O I lb (28 - k) x y).length]? = some (28 - (k : Int), (x : Int), (y : Int)) := by
  obtain ⟨r1, e1⟩ := ml_pre n m A B O I lb (k + 1) (27 - k)
  obtain ⟨r2, e2⟩ := rx_pre n m A B O I lb (28 - k) (x + 1) (n.toNat - (x + 1))
  obtain ⟨r3, e3⟩ := ry_pre n m A B O I lb (28 - k) x (y + 1) (m.toNat - (y + 1))
  rw [show k + 1 + (27 - k) = 28 by omega] at e1
  rw [show x + 1 + (n.toNat - (x + 1)) = n.toNat by omega] at e2
  rw [show y + 1 + (m.toNat - (y + 1)) = m.toNat by omega] at e3
  have e4 : ryM n m A B O I lb (28 - k) x (y + 1) = ryM n m A B O I lb (28 - k) x y ++ [(28 - (k : Int), (x : Int), (y : Int))] := by
    simp only [ryM]
    rw [if_pos hb]
  have e5 : rxM n m A B O I lb (28 - k) (x + 1) = rxM n m A B O I lb (28 - k) x ++ ryM n m A B O I lb (28 - k) x m.toNat := rfl
  have e6 : mlM n m A B O I lb (k + 1) = mlM n m A B O I lb k ++ rxM n m A B O I lb (28 - k) n.toNat := rfl
  rw [e1, e6, e2, e5, e3, e4]
  generalize mlM n m A B O I lb k = a
  generalize rxM n m A B O I lb (28 - k) x = b
  generalize ryM n m A B O I lb (28 - k) x y = c
  have e : a ++ (b ++ (c ++ [(28 - (k : Int), (x : Int), (y : Int))] ++ r3) ++ r2) ++ r1 = (a ++ b ++ c) ++ ((28 - (k : Int), (x : Int), (y : Int)) :: (r3 ++ r2 ++ r1)) := by simp
  rw [e, List.getElem?_append_right (by simp; omega)]
  simp [Nat.add_assoc]
  rfl
/-- what blocks tells of a place -/
def vBl (l : List B3) (p : Int) : Int := if 0 ≤ p then (match l[p.toNat]? with
  | none => (l.length : Int)
  | some q => 10000 * q.1 + 100 * q.2.1 + q.2.2) else l.length
theorem vBl_at {l : List B3} {p : Int} {i : Nat} {q : B3} (h : l[i]? = some q) (hp : p = i) : vBl l p = 10000 * q.1 + 100 * q.2.1 + q.2.2 := by
  unfold vBl
  rw [if_pos (by omega), show p.toNat = i by omega, h]
theorem vBl_no {l : List B3} {p : Int} (h : p < 0 ∨ (l.length : Int) ≤ p) : vBl l p = l.length := by
  unfold vBl
  by_cases h0 : 0 ≤ p
  · rw [if_pos h0, List.getElem?_eq_none (by omega)]
  · rw [if_neg h0]
abbrev QB (v : Int) (mi : MI) (mr : MR) : PQ := fun r sh' mi' mr' => sh' = SH ∧ r = some (vi v) ∧ mr' = mr ∧ mi' = mi
set_option maxRecDepth 100000 in
set_option maxHeartbeats 1000000 in
theorem l3_X11_blocks {Q : PQ} {p : Int} {k x : Nat} (hG : Gr mr) (hR : RowM (mi 63) (n, m, A, B, Z)) (hA : NR n A) (hB : NR m B) (hM : MkM mi O I) (hlb : Z 2 = lb) (hlr : 1 ≤ lb ∧ lb ≤ 9) (hk : k < 28) (hx : (x : Int) < n) (hp : rng p)
    (fd : Q (some (vi (vBl (mlM n m A B O I lb 28) p))) SH mi mr)
    (kk : ∀ o5 o6, (p < 0 ∨ ((mlM n m A B O I lb k).length + (rxM n m A B O I lb (28 - k) (x + 1)).length : Int) ≤ p) → V (RX11, cX11_blocks, 7, rm 4, false, none, (some .int)) Q 0 0 SH mi mr [some (vr 62), some (vi p), some (vi ((mlM n m A B O I lb k).length + (rxM n m A B O I lb (28 - k) (x + 1)).length : Int)), some (vi (28 - (k : Int))), some (vi x), o5, o6] [] 104) :
    ∀ (t y : Nat) (o6 : Option AV), (y : Int) ≤ m → m - y < t → (p < 0 ∨ ((mlM n m A B O I lb k).length + (rxM n m A B O I lb (28 - k) x).length + (ryM n m A B O I lb (28 - k) x y).length : Int) ≤ p) → V (RX11, cX11_blocks, 7, rm 4, false, none, (some .int)) Q 0 0 SH mi mr [some (vr 62), some (vi p), some (vi ((mlM n m A B O I lb k).length + (rxM n m A B O I lb (28 - k) x).length + (ryM n m A B O I lb (28 - k) x y).length : Int)), some (vi (28 - (k : Int))), some (vi x), some (vi y), o6] [] 30 := by
  have q1 := hR.1.2
  simp only at q1
  have hn := hA.1
  have hm := hB.1
  have l1 := ml_len n m A B O I lb hn.2 hm.2 k
  have l2 := rx_len n m A B O I lb (28 - k) hm.2 x
  intro t
  induction t with
  | zero => intro y o6 a1 a2; omega
  | succ t ih =>
    intro y o6 a1 a2 a3
    have l3 := ry_len n m A B O I lb (28 - k) x y
    by_cases hend : m ≤ y
    · have e : (rxM n m A B O I lb (28 - k) (x + 1)).length = (rxM n m A B O I lb (28 - k) x).length + (ryM n m A B O I lb (28 - k) x y).length := by
        rw [show y = m.toNat by omega]
        simp only [rxM, List.length_append]
      have hkk := kk (some (vi y)) o6
      rw [show ((mlM n m A B O I lb k).length + (rxM n m A B O I lb (28 - k) (x + 1)).length : Int) = ((mlM n m A B O I lb k).length + (rxM n m A B O I lb (28 - k) x).length + (ryM n m A B O I lb (28 - k) x y).length : Int) by omega] at hkk
      refine V_iload dX11_blocks_30 rfl ?_
      refine V_aload_n dX11_blocks_32 rfl ?_
      refine V_getr 0 _ dX11_blocks_33 fl_RX11_7 (by first | with_reducible assumption | rfl) rfl rfl (by first | with_reducible assumption | exact hG.at rfl) ?_
      refine V_iconst dX11_blocks_36 ?_
      refine V_iald dX11_blocks_37 (by first | with_reducible assumption | rfl) (by decide) (by omega) ?_
      rw [q1]
      refine V_icmp_ge 104 dX11_blocks_38 (by decide) (by omega) (by omega) (fun _ => ?_) (fun h38 => absurd h38 ((by omega)))
      exact hkk a3
    · have hbr := bk_r (n := n) (m := m) (A := A) (B := B) (O := O) (I := I) (lb := lb) x y
      by_cases hb : bkM n m A B O I lb x y = 28 - (k : Int)
      · have hat := ml_at hk hx (show (y : Int) < m by omega) hb
        have ey : (ryM n m A B O I lb (28 - k) x (y + 1)).length = (ryM n m A B O I lb (28 - k) x y).length + 1 := by
          simp only [ryM]
          rw [if_pos hb]
          simp
        have hgo := ih (y + 1) (some (vi 1)) (by omega) (by omega)
        rw [ey] at hgo
        generalize ((mlM n m A B O I lb k).length) = a at *
        generalize ((rxM n m A B O I lb (28 - k) x).length) = b at *
        generalize ((ryM n m A B O I lb (28 - k) x y).length) = c at *
        rw [show ((a : Int) + b + ((c + 1 : Nat) : Int)) = (a : Int) + b + c + 1 by omega, show ((y + 1 : Nat) : Int) = (y : Int) + 1 by omega] at hgo
        by_cases hpl : (a : Int) + b + c = p
        · have ev := vBl_at hat (p := p) (by omega)
          simp only at ev
          rw [ev] at fd
          refine V_iload dX11_blocks_30 rfl ?_
          refine V_aload_n dX11_blocks_32 rfl ?_
          refine V_getr 0 _ dX11_blocks_33 fl_RX11_7 (by first | with_reducible assumption | rfl) rfl rfl (by first | with_reducible assumption | exact hG.at rfl) ?_
          refine V_iconst dX11_blocks_36 ?_
          refine V_iald dX11_blocks_37 (by first | with_reducible assumption | rfl) (by decide) (by omega) ?_
          rw [q1]
          refine V_icmp_ge 104 dX11_blocks_38 (by decide) (by omega) (by omega) (fun h38 => absurd h38 ((by omega))) (fun _ => ?_)
          refine V_aload_n dX11_blocks_41 rfl ?_
          refine V_iload dX11_blocks_42 rfl ?_
          refine V_iload dX11_blocks_44 rfl ?_
          refine V_callVP dX11_blocks_46 ml_RX11_146 km_X11_block kv_X11_block (c_X11_block (x := x) (y := y) hG hR hA hB hM ⟨by omega, hx⟩ ⟨by omega, by omega⟩ hlb hlr) (by first | with_reducible assumption | rfl) rfl rfl rfl (Nat.le_of_ble_eq_true rfl) ⟨Nat.le_of_ble_eq_true rfl, Nat.le_of_ble_eq_true rfl⟩ ⟨Nat.le_of_ble_eq_true rfl, Nat.le_of_ble_eq_true rfl⟩ ?_
          rw [hb]
          refine V_iload_n dX11_blocks_49 rfl ?_
          refine V_icmp_ne 57 dX11_blocks_50 (by decide) (by omega) (by omega) (fun h50 => absurd h50 ((not_not_intro rfl))) (fun _ => ?_)
          refine V_iconst dX11_blocks_53 ?_
          refine V_goto 58 dX11_blocks_54 (by decide) ?_
          refine S_istore (ls' := [_, _, _, _, _, _, _]) dX11_blocks_58 ⟨Nat.le_of_ble_eq_true rfl, rfl, rfl⟩ rfl ?_
          refine V_iload dX11_blocks_60 rfl ?_
          refine V_if_eq 85 dX11_blocks_62 (by decide) (by omega) (fun h62 => absurd h62 ((by decide))) (fun _ => ?_)
          refine V_iload_n dX11_blocks_65 rfl ?_
          refine V_iload_n dX11_blocks_66 rfl ?_
          refine V_icmp_ne 85 dX11_blocks_67 (by decide) (by omega) (by omega) (fun h67 => absurd h67 ((not_not_intro hpl))) (fun _ => ?_)
          refine V_sipush dX11_blocks_70 (by decide) ?_
          refine V_iload_n dX11_blocks_73 rfl ?_
          refine V_imul dX11_blocks_74 ?_
          refine V_bipush dX11_blocks_75 (by decide) ?_
          refine V_iload dX11_blocks_77 rfl ?_
          refine V_imul dX11_blocks_79 ?_
          refine V_iadd dX11_blocks_80 ?_
          refine V_iload dX11_blocks_81 rfl ?_
          refine V_iadd dX11_blocks_83 ?_
          refine V_iret dX11_blocks_84 rfl ⟨Nat.le_of_ble_eq_true rfl, Nat.le_of_ble_eq_true rfl⟩ ?_
          exact fd
        · refine V_iload dX11_blocks_30 rfl ?_
          refine V_aload_n dX11_blocks_32 rfl ?_
          refine V_getr 0 _ dX11_blocks_33 fl_RX11_7 (by first | with_reducible assumption | rfl) rfl rfl (by first | with_reducible assumption | exact hG.at rfl) ?_
          refine V_iconst dX11_blocks_36 ?_
          refine V_iald dX11_blocks_37 (by first | with_reducible assumption | rfl) (by decide) (by omega) ?_
          rw [q1]
          refine V_icmp_ge 104 dX11_blocks_38 (by decide) (by omega) (by omega) (fun h38 => absurd h38 ((by omega))) (fun _ => ?_)
          refine V_aload_n dX11_blocks_41 rfl ?_
          refine V_iload dX11_blocks_42 rfl ?_
          refine V_iload dX11_blocks_44 rfl ?_
          refine V_callVP dX11_blocks_46 ml_RX11_146 km_X11_block kv_X11_block (c_X11_block (x := x) (y := y) hG hR hA hB hM ⟨by omega, hx⟩ ⟨by omega, by omega⟩ hlb hlr) (by first | with_reducible assumption | rfl) rfl rfl rfl (Nat.le_of_ble_eq_true rfl) ⟨Nat.le_of_ble_eq_true rfl, Nat.le_of_ble_eq_true rfl⟩ ⟨Nat.le_of_ble_eq_true rfl, Nat.le_of_ble_eq_true rfl⟩ ?_
          rw [hb]
          refine V_iload_n dX11_blocks_49 rfl ?_
          refine V_icmp_ne 57 dX11_blocks_50 (by decide) (by omega) (by omega) (fun h50 => absurd h50 ((not_not_intro rfl))) (fun _ => ?_)
          refine V_iconst dX11_blocks_53 ?_
          refine V_goto 58 dX11_blocks_54 (by decide) ?_
          refine S_istore (ls' := [_, _, _, _, _, _, _]) dX11_blocks_58 ⟨Nat.le_of_ble_eq_true rfl, rfl, rfl⟩ rfl ?_
          refine V_iload dX11_blocks_60 rfl ?_
          refine V_if_eq 85 dX11_blocks_62 (by decide) (by omega) (fun h62 => absurd h62 ((by decide))) (fun _ => ?_)
          refine V_iload_n dX11_blocks_65 rfl ?_
          refine V_iload_n dX11_blocks_66 rfl ?_
          refine V_icmp_ne 85 dX11_blocks_67 (by decide) (by omega) (by omega) (fun _ => ?_) (fun h67 => absurd h67 (hpl))
          refine V_iload_n dX11_blocks_85 rfl ?_
          refine V_iload dX11_blocks_86 rfl ?_
          refine V_if_eq 95 dX11_blocks_88 (by decide) (by omega) (fun h88 => absurd h88 ((by decide))) (fun _ => ?_)
          refine V_iconst dX11_blocks_91 ?_
          refine V_goto 96 dX11_blocks_92 (by decide) ?_
          refine V_iadd dX11_blocks_96 ?_
          refine S_istore_n (ls' := [_, _, _, _, _, _, _]) dX11_blocks_97 ⟨Nat.le_of_ble_eq_true rfl, rfl, rfl⟩ rfl ?_
          refine S_iinc (ls' := [_, _, _, _, _, _, _]) dX11_blocks_98 rfl ⟨rfl, rfl⟩ rfl ?_
          refine V_goto 30 dX11_blocks_101 (by decide) ?_
          exact hgo (by omega)
      · have ey : (ryM n m A B O I lb (28 - k) x (y + 1)).length = (ryM n m A B O I lb (28 - k) x y).length := by
          simp only [ryM]
          rw [if_neg hb]
          simp
        have hgo := ih (y + 1) (some (vi 0)) (by omega) (by omega)
        rw [ey] at hgo
        generalize ((mlM n m A B O I lb k).length) = a at *
        generalize ((rxM n m A B O I lb (28 - k) x).length) = b at *
        generalize ((ryM n m A B O I lb (28 - k) x y).length) = c at *
        rw [show ((a : Int) + b + c) = (a : Int) + b + c + 0 by omega, show ((y + 1 : Nat) : Int) = (y : Int) + 1 by omega] at hgo
        refine V_iload dX11_blocks_30 rfl ?_
        refine V_aload_n dX11_blocks_32 rfl ?_
        refine V_getr 0 _ dX11_blocks_33 fl_RX11_7 (by first | with_reducible assumption | rfl) rfl rfl (by first | with_reducible assumption | exact hG.at rfl) ?_
        refine V_iconst dX11_blocks_36 ?_
        refine V_iald dX11_blocks_37 (by first | with_reducible assumption | rfl) (by decide) (by omega) ?_
        rw [q1]
        refine V_icmp_ge 104 dX11_blocks_38 (by decide) (by omega) (by omega) (fun h38 => absurd h38 ((by omega))) (fun _ => ?_)
        refine V_aload_n dX11_blocks_41 rfl ?_
        refine V_iload dX11_blocks_42 rfl ?_
        refine V_iload dX11_blocks_44 rfl ?_
        refine V_callVP dX11_blocks_46 ml_RX11_146 km_X11_block kv_X11_block (c_X11_block (x := x) (y := y) hG hR hA hB hM ⟨by omega, hx⟩ ⟨by omega, by omega⟩ hlb hlr) (by first | with_reducible assumption | rfl) rfl rfl rfl (Nat.le_of_ble_eq_true rfl) ⟨Nat.le_of_ble_eq_true rfl, Nat.le_of_ble_eq_true rfl⟩ ⟨Nat.le_of_ble_eq_true rfl, Nat.le_of_ble_eq_true rfl⟩ ?_
        refine V_iload_n dX11_blocks_49 rfl ?_
        refine V_icmp_ne 57 dX11_blocks_50 (by decide) (by omega) (by omega) (fun _ => ?_) (fun h50 => absurd h50 (hb))
        refine V_iconst dX11_blocks_57 ?_
        refine S_istore (ls' := [_, _, _, _, _, _, _]) dX11_blocks_58 ⟨Nat.le_of_ble_eq_true rfl, rfl, rfl⟩ rfl ?_
        refine V_iload dX11_blocks_60 rfl ?_
        refine V_if_eq 85 dX11_blocks_62 (by decide) (by omega) (fun _ => ?_) (fun h62 => absurd h62 ((by decide)))
        refine V_iload_n dX11_blocks_85 rfl ?_
        refine V_iload dX11_blocks_86 rfl ?_
        refine V_if_eq 95 dX11_blocks_88 (by decide) (by omega) (fun _ => ?_) (fun h88 => absurd h88 ((by decide)))
        refine V_iconst dX11_blocks_95 ?_
        refine V_iadd dX11_blocks_96 ?_
        refine S_istore_n (ls' := [_, _, _, _, _, _, _]) dX11_blocks_97 ⟨Nat.le_of_ble_eq_true rfl, rfl, rfl⟩ rfl ?_
        refine S_iinc (ls' := [_, _, _, _, _, _, _]) dX11_blocks_98 rfl ⟨rfl, rfl⟩ rfl ?_
        refine V_goto 30 dX11_blocks_101 (by decide) ?_
        exact hgo (by omega)
set_option maxRecDepth 100000 in
set_option maxHeartbeats 1000000 in
theorem l2_X11_blocks {Q : PQ} {p : Int} {k : Nat} (hG : Gr mr) (hR : RowM (mi 63) (n, m, A, B, Z)) (hA : NR n A) (hB : NR m B) (hM : MkM mi O I) (hlb : Z 2 = lb) (hlr : 1 ≤ lb ∧ lb ≤ 9) (hk : k < 28) (hp : rng p)
    (fd : Q (some (vi (vBl (mlM n m A B O I lb 28) p))) SH mi mr)
    (kk : ∀ o4 o5 o6, (p < 0 ∨ ((mlM n m A B O I lb (k + 1)).length : Int) ≤ p) → V (RX11, cX11_blocks, 7, rm 4, false, none, (some .int)) Q 0 0 SH mi mr [some (vr 62), some (vi p), some (vi ((mlM n m A B O I lb (k + 1)).length : Int)), some (vi (28 - (k : Int))), o4, o5, o6] [] 110) :
    ∀ (t x : Nat) (o5 o6 : Option AV), (x : Int) ≤ n → n - x < t → (p < 0 ∨ ((mlM n m A B O I lb k).length + (rxM n m A B O I lb (28 - k) x).length : Int) ≤ p) → V (RX11, cX11_blocks, 7, rm 4, false, none, (some .int)) Q 0 0 SH mi mr [some (vr 62), some (vi p), some (vi ((mlM n m A B O I lb k).length + (rxM n m A B O I lb (28 - k) x).length : Int)), some (vi (28 - (k : Int))), some (vi x), o5, o6] [] 16 := by
  have q0 := hR.1.1
  simp only at q0
  have hn := hA.1
  have hm := hB.1
  intro t
  induction t with
  | zero => intro x o5 o6 a1 a2; omega
  | succ t ih =>
    intro x o5 o6 a1 a2 a3
    by_cases hend : n ≤ x
    · have e : (mlM n m A B O I lb (k + 1)).length = (mlM n m A B O I lb k).length + (rxM n m A B O I lb (28 - k) x).length := by
        rw [show x = n.toNat by omega]
        simp only [mlM, List.length_append]
      have hkk := kk (some (vi x)) o5 o6
      rw [show ((mlM n m A B O I lb (k + 1)).length : Int) = ((mlM n m A B O I lb k).length + (rxM n m A B O I lb (28 - k) x).length : Int) by omega] at hkk
      refine V_iload dX11_blocks_16 rfl ?_
      refine V_aload_n dX11_blocks_18 rfl ?_
      refine V_getr 0 _ dX11_blocks_19 fl_RX11_7 (by first | with_reducible assumption | rfl) rfl rfl (by first | with_reducible assumption | exact hG.at rfl) ?_
      refine V_iconst dX11_blocks_22 ?_
      refine V_iald dX11_blocks_23 (by first | with_reducible assumption | rfl) (by decide) (by omega) ?_
      rw [q0]
      refine V_icmp_ge 110 dX11_blocks_24 (by decide) (by omega) (by omega) (fun _ => ?_) (fun h24 => absurd h24 ((by omega)))
      exact hkk a3
    · have hl3 := l3_X11_blocks (Q := Q) (p := p) (k := k) (x := x) hG hR hA hB hM hlb hlr hk (by omega) hp fd (fun o5 o6 hc => by
        have hgo := ih (x + 1) o5 o6 (by omega) (by omega) hc
        rw [show ((x + 1 : Nat) : Int) = (x : Int) + 1 by omega] at hgo
        refine S_iinc (ls' := [_, _, _, _, _, _, _]) dX11_blocks_104 rfl ⟨rfl, rfl⟩ rfl ?_
        refine V_goto 16 dX11_blocks_107 (by decide) ?_
        exact hgo) (m.toNat + 1) 0 o6 (by omega) (by omega) (by simp only [ryM, List.length_nil]; omega)
      simp only [ryM, List.length_nil] at hl3
      rw [show ((mlM n m A B O I lb k).length + (rxM n m A B O I lb (28 - k) x).length + ((0 : Nat) : Int)) = ((mlM n m A B O I lb k).length + (rxM n m A B O I lb (28 - k) x).length : Int) by omega] at hl3
      refine V_iload dX11_blocks_16 rfl ?_
      refine V_aload_n dX11_blocks_18 rfl ?_
      refine V_getr 0 _ dX11_blocks_19 fl_RX11_7 (by first | with_reducible assumption | rfl) rfl rfl (by first | with_reducible assumption | exact hG.at rfl) ?_
      refine V_iconst dX11_blocks_22 ?_
      refine V_iald dX11_blocks_23 (by first | with_reducible assumption | rfl) (by decide) (by omega) ?_
      rw [q0]
      refine V_icmp_ge 110 dX11_blocks_24 (by decide) (by omega) (by omega) (fun h24 => absurd h24 ((by omega))) (fun _ => ?_)
      refine V_iconst dX11_blocks_27 ?_
      refine S_istore (ls' := [_, _, _, _, _, _, _]) dX11_blocks_28 ⟨Nat.le_of_ble_eq_true rfl, rfl, rfl⟩ rfl ?_
      exact hl3
set_option maxRecDepth 100000 in
set_option maxHeartbeats 1000000 in
theorem l1_X11_blocks {Q : PQ} {p : Int} (hG : Gr mr) (hR : RowM (mi 63) (n, m, A, B, Z)) (hA : NR n A) (hB : NR m B) (hM : MkM mi O I) (hlb : Z 2 = lb) (hlr : 1 ≤ lb ∧ lb ≤ 9) (hp : rng p)
    (fd : Q (some (vi (vBl (mlM n m A B O I lb 28) p))) SH mi mr) :
    ∀ (t k : Nat) (o4 o5 o6 : Option AV), k ≤ 28 → 28 - k < t → (p < 0 ∨ ((mlM n m A B O I lb k).length : Int) ≤ p) → V (RX11, cX11_blocks, 7, rm 4, false, none, (some .int)) Q 0 0 SH mi mr [some (vr 62), some (vi p), some (vi ((mlM n m A B O I lb k).length : Int)), some (vi (28 - (k : Int))), o4, o5, o6] [] 9 := by
  have hn := hA.1
  intro t
  induction t with
  | zero => intro k o4 o5 o6 a1 a2; omega
  | succ t ih =>
    intro k o4 o5 o6 a1 a2 a3
    by_cases hend : 28 ≤ k
    · have ek : k = 28 := by omega
      subst ek
      have ev := vBl_no a3
      rw [ev] at fd
      refine V_iload_n dX11_blocks_9 rfl ?_
      refine V_if_le 116 dX11_blocks_10 (by decide) (by omega) (fun _ => ?_) (fun h10 => absurd h10 ((by omega)))
      refine V_iload_n dX11_blocks_116 rfl ?_
      refine V_iret dX11_blocks_117 rfl ⟨Nat.le_of_ble_eq_true rfl, Nat.le_of_ble_eq_true rfl⟩ ?_
      exact fd
    · have hl2 := l2_X11_blocks (Q := Q) (p := p) (k := k) hG hR hA hB hM hlb hlr (by omega) hp fd (fun o4 o5 o6 hc => by
        have hgo := ih (k + 1) o4 o5 o6 (by omega) (by omega) hc
        rw [show (28 : Int) - ((k + 1 : Nat) : Int) = 28 - (k : Int) + -1 by omega] at hgo
        refine S_iinc (ls' := [_, _, _, _, _, _, _]) dX11_blocks_110 rfl ⟨rfl, rfl⟩ rfl ?_
        refine V_goto 9 dX11_blocks_113 (by decide) ?_
        exact hgo) (n.toNat + 1) 0 o5 o6 (by omega) (by omega) (by simp only [rxM, List.length_nil]; omega)
      simp only [rxM, List.length_nil] at hl2
      rw [show ((mlM n m A B O I lb k).length + ((0 : Nat) : Int)) = ((mlM n m A B O I lb k).length : Int) by omega] at hl2
      refine V_iload_n dX11_blocks_9 rfl ?_
      refine V_if_le 116 dX11_blocks_10 (by decide) (by omega) (fun h10 => absurd h10 ((by omega))) (fun _ => ?_)
      refine V_iconst dX11_blocks_13 ?_
      refine S_istore (ls' := [_, _, _, _, _, _, _]) dX11_blocks_14 ⟨Nat.le_of_ble_eq_true rfl, rfl, rfl⟩ rfl ?_
      exact hl2
set_option maxRecDepth 100000 in
set_option maxHeartbeats 1000000 in
theorem c_X11_blocks {p : Int} (hG : Gr mr) (hp : rng p) (hR : RowM (mi 63) (n, m, A, B, Z)) (hA : NR n A) (hB : NR m B) (hSt : StM mi L K X Y) (hL : 0 ≤ L ∧ L ≤ 56) (hr : ∀ i, 0 ≤ i → i < L → (0 ≤ K i ∧ K i ≤ 2) ∧ (0 ≤ X i ∧ X i ≤ 28) ∧ 0 ≤ Y i ∧ Y i ≤ 28) (hsc : Sc n m A B L K X Y) (hlr : 1 ≤ Z 2 ∧ Z 2 ≤ 9) : C1 yX11_blocks cX11_blocks 7 (some .int) 4 SH mi mr [vr 62, vi p] (fun v mi' mr' => v = vi (vBl ((bs (ball L K (ltF A B K X Y) (Z 2) L.toNat)).map (gB X Y)) p) ∧ mr' = mr ∧ ∀ z, z ≠ 72 → z ≠ 73 → mi' z = mi z) := by
  have ebs := bs_is (lb := Z 2) hL.1 hsc (mk_X hL.1 hsc) (mk_Y hL.1 hsc) 28 (Nat.le_refl _)
  unfold bs
  rw [ebs]
  refine Ct.ofV (ini := false) [some (vr 62), some (vi p), none, none, none, none, none] km_X11_blocks (by decide) rfl (Nat.le_of_ble_eq_true rfl) ?_
  refine V_aload_n dX11_blocks_0 rfl ?_
  refine V_callV0 dX11_blocks_1 ml_RX11_143 km_X11_marks kv_X11_marks (c_X11_marks hG hSt hL hr) (by first | with_reducible assumption | rfl) rfl rfl rfl (Nat.le_of_ble_eq_true rfl) ⟨Nat.le_of_ble_eq_true rfl, Nat.le_of_ble_eq_true rfl⟩ ⟨Nat.le_of_ble_eq_true rfl, Nat.le_of_ble_eq_true rfl⟩ ?_
  rintro mi2 mr2 ⟨rfl, k1, k2⟩
  have hR2 : RowM (mi2 63) (n, m, A, B, Z) := by rw [k2 63 (by decide) (by decide)]; exact hR
  refine V_iconst dX11_blocks_4 ?_
  refine S_istore_n (ls' := [_, _, _, _, _, _, _]) dX11_blocks_5 ⟨Nat.le_of_ble_eq_true rfl, rfl, rfl⟩ rfl ?_
  refine V_bipush dX11_blocks_6 (by decide) ?_
  refine S_istore_n (ls' := [_, _, _, _, _, _, _]) dX11_blocks_8 ⟨Nat.le_of_ble_eq_true rfl, rfl, rfl⟩ rfl ?_
  exact l1_X11_blocks hG hR2 hA hB k1 rfl hlr hp ⟨rfl, _, rfl, rfl, rfl, k2⟩ 29 0 none none none (by omega) (by omega) (by simp only [mlM, List.length_nil]; omega)
set_option maxRecDepth 100000 in
set_option maxHeartbeats 1000000 in
theorem c_X11_movedOf {b w : Int} (hG : Gr mr) (hD : isD n m A B D) (hb : rng b) (hw : rng w) (h : RepM mi ((n, m, A, B, Z), hs, tl, T)) : C1 yX11_movedOf cX11_movedOf 4 (some .int) 6 SH mi mr [vr 62, vi b, vi w] (PoM (opScr D n m A B Z (hs, tl, T) (0 ≤ b ∧ 0 ≤ w ∧ w ≤ 2) (vMoved D n m A B Z b w)) mi mr) := by
  have hS := h.2.1
  have hA : NR n A := hS.1
  have hB : NR m B := hS.2.1
  have hLr := sL_r hA hB hD
  have hz2 := hS.2.2.2.2
  have hsc := sc_ok hA hB hD
  have hn := hA.1
  have hm := hB.1
  have hlen := mvd_len (Z := Z) hA hB hD
  have hmem := ball_mem (K := sK A B n m D) (Lt := sLt A B n m D) (lb := Z 2) (L := sL n m D) (sL n m D).toNat (by omega)
  have hbl := bs_len (mvd D n m A B Z) (fun q hq => (hmem q hq).1)
  have hbm : ∀ q ∈ bs (mvd D n m A B Z), (1 ≤ q.1 ∧ q.1 ≤ 28) ∧ (0 ≤ q.2.1 ∧ q.2.1 < sL n m D) ∧ (0 ≤ q.2.2 ∧ q.2.2 < sL n m D) := by
    have hN : ∀ k : Nat, ∀ q ∈ bsN (mvd D n m A B Z) k, q ∈ mvd D n m A B Z := by
      intro k
      induction k with
      | zero => intro q hq; simp [bsN] at hq
      | succ k ih =>
        intro q hq
        simp only [bsN, List.mem_append] at hq
        rcases hq with hq | hq
        · exact ih q hq
        · exact (List.mem_filter.mp hq).1
    exact fun q hq => hmem q (hN 28 q hq)
  simp only at hz2
  refine Ct.ofV (ini := false) [some (vr 62), some (vi b), some (vi w), none] km_X11_movedOf (by decide) rfl (Nat.le_of_ble_eq_true rfl) ?_
  unfold opScr
  by_cases hin : 0 ≤ b ∧ 0 ≤ w ∧ w ≤ 2
  · rw [if_neg (not_not_intro hin)]
    have e1 : (if 0 ≤ w ∧ w ≤ 2 then (1 : Int) else 0) = 1 := if_pos hin.2
    refine V_iload_n dX11_movedOf_0 rfl ?_
    refine V_if_lt 13 dX11_movedOf_1 (by decide) (by omega) (fun h1 => absurd h1 ((by omega))) (fun _ => ?_)
    refine V_iload_n dX11_movedOf_4 rfl ?_
    refine V_iconst dX11_movedOf_5 ?_
    refine V_iconst dX11_movedOf_6 ?_
    refine V_callSP dX11_movedOf_7 ml_RX11_48 km_X11_in ks_X11_in (c_X11_in (v := w) (a := 0) (b := 2) (by omega) (by omega) (by omega)) rfl rfl (Nat.le_of_ble_eq_true rfl) ⟨Nat.le_of_ble_eq_true rfl, Nat.le_of_ble_eq_true rfl⟩ ⟨Nat.le_of_ble_eq_true rfl, Nat.le_of_ble_eq_true rfl⟩ ?_
    rw [e1]
    refine V_if_ne 16 dX11_movedOf_10 (by decide) (by omega) (fun _ => ?_) (fun h10 => absurd h10 ((by decide)))
    refine V_aload_n dX11_movedOf_16 rfl ?_
    refine V_callV1 dX11_movedOf_17 ml_RX11_102 km_X11_traces kv_X11_traces (c_X11_traces hG hD h) (by first | with_reducible assumption | rfl) rfl rfl rfl (Nat.le_of_ble_eq_true rfl) ⟨Nat.le_of_ble_eq_true rfl, Nat.le_of_ble_eq_true rfl⟩ ⟨Nat.le_of_ble_eq_true rfl, Nat.le_of_ble_eq_true rfl⟩ ?_
    rintro v mi2 mr2 ⟨rfl, rfl, k1, k3, k4, k5⟩
    have hfin : RepM mi2 ((n, m, A, B, Z), hs, tl, T) ∧ ∀ x, x < 62 → mi2 x = mi x := ⟨h.keep (k4 3 (by decide) (by decide)) (k4 5 (by decide) (by decide)) (fun x hx => k5 x (by omega) (by omega) (by omega)), fun x hx => k5 x (by omega) (by omega) (by omega)⟩
    refine V_if_ne 26 dX11_movedOf_20 (by decide) (by split <;> omega) (fun h20 => ?_) (fun h20 => ?_)
    · have hzd : ¬ Z 0 < D := fun hc => by rw [if_pos hc] at h20; omega
      rw [if_neg hzd]
      have hrr : ∀ i, 0 ≤ i → i < sL n m D → (0 ≤ sK A B n m D i ∧ sK A B n m D i ≤ 2) ∧ (0 ≤ sX A B n m D i ∧ sX A B n m D i ≤ 28) ∧ 0 ≤ sY A B n m D i ∧ sY A B n m D i ≤ 28 := fun i i1 i2 => by have := sc_lt hA hB hD i1 i2; omega
      refine V_aload_n dX11_movedOf_26 rfl ?_
      refine V_iload_n dX11_movedOf_27 rfl ?_
      refine V_callV1 dX11_movedOf_28 ml_RX11_149 km_X11_blocks kv_X11_blocks (c_X11_blocks (p := b) hG hb hfin.1.1 hA hB k1 ⟨hLr.1, hLr.2.1⟩ hrr hsc hz2) (by first | with_reducible assumption | rfl) rfl rfl rfl (Nat.le_of_ble_eq_true rfl) ⟨Nat.le_of_ble_eq_true rfl, Nat.le_of_ble_eq_true rfl⟩ ⟨Nat.le_of_ble_eq_true rfl, Nat.le_of_ble_eq_true rfl⟩ ?_
      rintro v mi3 mr3 ⟨rfl, rfl, j2⟩
      have hfin3 : RepM mi3 ((n, m, A, B, Z), hs, tl, T) ∧ ∀ x, x < 62 → mi3 x = mi x := ⟨hfin.1.keep (by rw [j2 62 (by decide) (by decide)]) (by rw [j2 62 (by decide) (by decide)]) (fun x hx => j2 x (by omega) (by omega)), fun x hx => by rw [j2 x (by omega) (by omega)]; exact hfin.2 x hx⟩
      rw [show ball (sL n m D) (sK A B n m D) (ltF A B (sK A B n m D) (sX A B n m D) (sY A B n m D)) (Z 2) (sL n m D).toNat = mvd D n m A B Z from rfl]
      unfold vMoved
      generalize bs (mvd D n m A B Z) = l at hbl hbm
      cases hg : l[b.toNat]? with
      | none =>
        have hle := List.getElem?_eq_none_iff.mp hg
        have ev : vBl (l.map (gB (sX A B n m D) (sY A B n m D))) b = l.length := by
          rw [vBl_no (by rw [List.length_map]; omega), List.length_map]
        rw [ev]
        refine S_istore_n (ls' := [_, _, _, _]) dX11_movedOf_31 ⟨Nat.le_of_ble_eq_true rfl, rfl, rfl⟩ rfl ?_
        refine V_iload_n dX11_movedOf_32 rfl ?_
        refine V_sipush dX11_movedOf_33 (by decide) ?_
        refine V_icmp_ge 42 dX11_movedOf_36 (by decide) (by omega) (by omega) (fun h36 => absurd h36 (by omega)) (fun _ => ?_)
        refine V_ldc (-1000004) dX11_movedOf_39 kc_RX11_70 rfl ?_
        refine V_iret dX11_movedOf_41 rfl ⟨Nat.le_of_ble_eq_true rfl, Nat.le_of_ble_eq_true rfl⟩ ?_
        exact ⟨rfl, _, rfl, rfl, rfl, hfin3⟩
      | some q =>
        have hq := hbm q (List.mem_of_getElem? hg)
        have hX := sc_lt hA hB hD hq.2.1.1 hq.2.1.2
        have hY := sc_lt hA hB hD hq.2.2.1 hq.2.2.2
        have hrX := hsc.2.2 q.2.1 hq.2.1.1 hq.2.1.2
        have ev : vBl (l.map (gB (sX A B n m D) (sY A B n m D))) b = 10000 * q.1 + 100 * sX A B n m D q.2.1 + sY A B n m D q.2.2 := vBl_at (i := b.toNat) (q := gB (sX A B n m D) (sY A B n m D) q) (by rw [List.getElem?_map, hg]; rfl) (by omega)
        rw [ev]
        refine S_istore_n (ls' := [_, _, _, _]) dX11_movedOf_31 ⟨Nat.le_of_ble_eq_true rfl, rfl, rfl⟩ rfl ?_
        refine V_iload_n dX11_movedOf_32 rfl ?_
        refine V_sipush dX11_movedOf_33 (by decide) ?_
        refine V_icmp_ge 42 dX11_movedOf_36 (by decide) (by omega) (by omega) (fun _ => ?_) (fun h36 => absurd h36 (not_not_intro (by omega)))
        refine V_iload_n dX11_movedOf_42 rfl ?_
        refine V_if_ne 54 dX11_movedOf_43 (by decide) (by omega) (fun h43 => ?_) (fun h43 => ?_)
        · refine V_iload_n dX11_movedOf_54 rfl ?_
          refine V_iconst dX11_movedOf_55 ?_
          refine V_icmp_ne 69 dX11_movedOf_56 (by decide) (by omega) (by omega) (fun h56 => ?_) (fun h56 => ?_)
          · refine V_iload_n dX11_movedOf_69 rfl ?_
            refine V_bipush dX11_movedOf_70 (by decide) ?_
            refine V_irem dX11_movedOf_72 (by omega) (by omega) ?_
            refine V_iret dX11_movedOf_73 rfl ⟨Nat.le_of_ble_eq_true rfl, Nat.le_of_ble_eq_true rfl⟩ ?_
            exact ⟨rfl, _, rfl, by simp only; first | (rw [if_pos (show w = 0 by omega)]; exact vie (by omega)) | (rw [if_neg (show ¬ w = 0 by omega), if_pos (show w = 1 by omega)]; exact vie (by omega)) | (rw [if_neg (show ¬ w = 0 by omega), if_neg (show ¬ w = 1 by omega)]; exact vie (by omega)), rfl, hfin3⟩
          · refine V_iload_n dX11_movedOf_59 rfl ?_
            refine V_bipush dX11_movedOf_60 (by decide) ?_
            refine V_idiv dX11_movedOf_62 (by omega) (by omega) ?_
            refine V_bipush dX11_movedOf_63 (by decide) ?_
            refine V_irem dX11_movedOf_65 (by omega) (by omega) ?_
            refine V_goto 73 dX11_movedOf_66 (by decide) ?_
            refine V_iret dX11_movedOf_73 rfl ⟨Nat.le_of_ble_eq_true rfl, Nat.le_of_ble_eq_true rfl⟩ ?_
            exact ⟨rfl, _, rfl, by simp only; first | (rw [if_pos (show w = 0 by omega)]; exact vie (by omega)) | (rw [if_neg (show ¬ w = 0 by omega), if_pos (show w = 1 by omega)]; exact vie (by omega)) | (rw [if_neg (show ¬ w = 0 by omega), if_neg (show ¬ w = 1 by omega)]; exact vie (by omega)), rfl, hfin3⟩
        · refine V_iload_n dX11_movedOf_46 rfl ?_
          refine V_sipush dX11_movedOf_47 (by decide) ?_
          refine V_idiv dX11_movedOf_50 (by omega) (by omega) ?_
          refine V_goto 73 dX11_movedOf_51 (by decide) ?_
          refine V_iret dX11_movedOf_73 rfl ⟨Nat.le_of_ble_eq_true rfl, Nat.le_of_ble_eq_true rfl⟩ ?_
          exact ⟨rfl, _, rfl, by simp only; first | (rw [if_pos (show w = 0 by omega)]; exact vie (by omega)) | (rw [if_neg (show ¬ w = 0 by omega), if_pos (show w = 1 by omega)]; exact vie (by omega)) | (rw [if_neg (show ¬ w = 0 by omega), if_neg (show ¬ w = 1 by omega)]; exact vie (by omega)), rfl, hfin3⟩
    · have hzd : Z 0 < D := Decidable.byContradiction fun hc => by rw [if_neg hc] at h20; omega
      refine V_ldc (-1000003) dX11_movedOf_23 kc_RX11_61 rfl ?_
      refine V_iret dX11_movedOf_25 rfl ⟨Nat.le_of_ble_eq_true rfl, Nat.le_of_ble_eq_true rfl⟩ ?_
      exact ⟨rfl, _, rfl, by rw [if_pos hzd], rfl, hfin⟩
  · rw [if_pos hin]
    refine V_iload_n dX11_movedOf_0 rfl ?_
    refine V_if_lt 13 dX11_movedOf_1 (by decide) (by omega) (fun h1 => ?_) (fun h1 => ?_)
    · refine V_ldc (-1000001) dX11_movedOf_13 kc_RX11_56 rfl ?_
      refine V_iret dX11_movedOf_15 rfl ⟨Nat.le_of_ble_eq_true rfl, Nat.le_of_ble_eq_true rfl⟩ ?_
      exact ⟨rfl, _, rfl, rfl, rfl, h, fun _ _ => rfl⟩
    · refine V_iload_n dX11_movedOf_4 rfl ?_
      refine V_iconst dX11_movedOf_5 ?_
      refine V_iconst dX11_movedOf_6 ?_
      refine V_callSP dX11_movedOf_7 ml_RX11_48 km_X11_in ks_X11_in (c_X11_in (v := w) (a := 0) (b := 2) (by omega) (by omega) (by omega)) rfl rfl (Nat.le_of_ble_eq_true rfl) ⟨Nat.le_of_ble_eq_true rfl, Nat.le_of_ble_eq_true rfl⟩ ⟨Nat.le_of_ble_eq_true rfl, Nat.le_of_ble_eq_true rfl⟩ ?_
      refine V_if_ne 16 dX11_movedOf_10 (by decide) (by split <;> omega) (fun h10 => ?_) (fun h10 => ?_)
      · exact absurd (by rw [ifz, Decidable.not_not] at h10; exact ⟨by omega, h10⟩) hin
      · refine V_ldc (-1000001) dX11_movedOf_13 kc_RX11_56 rfl ?_
        refine V_iret dX11_movedOf_15 rfl ⟨Nat.le_of_ble_eq_true rfl, Nat.le_of_ble_eq_true rfl⟩ ?_
        exact ⟨rfl, _, rfl, rfl, rfl, h, fun _ _ => rfl⟩
end MODEL17
