/-! ===== states: swapped, copied, recorded, restored ===== -/
/-- letters of both rows, settings -/
abbrev St : Type := Int × Int × (Int → Int) × (Int → Int) × (Int → Int)
def SIs (mi : MI) (f fb g gb se : Nat) (σ : St) : Prop := mi f 1 = σ.1 ∧ mi g 1 = σ.2.1 ∧ (∀ i, 0 ≤ i → i < σ.1 → mi fb i = σ.2.2.1 i) ∧ (∀ i, 0 ≤ i → i < σ.2.1 → mi gb i = σ.2.2.2.1 i) ∧ ∀ i, 0 ≤ i → i < 3 → mi se i = σ.2.2.2.2 i
def StV (σ : St) : Prop := NR σ.1 σ.2.2.1 ∧ NR σ.2.1 σ.2.2.2.1 ∧ (0 ≤ σ.2.2.2.2 0 ∧ σ.2.2.2.2 0 ≤ 56) ∧ (0 ≤ σ.2.2.2.2 1 ∧ σ.2.2.2.2 1 ≤ 5) ∧ (1 ≤ σ.2.2.2.2 2 ∧ σ.2.2.2.2 2 ≤ 9)
def Sha (mr : MR) (s f fb g gb se : Nat) : Prop := (mr s 0 = some f ∧ mr s 1 = some g ∧ mr s 2 = some se) ∧ (SH[s]? = some (.inl 9) ∧ SH[f]? = some (.inl 7) ∧ SH[g]? = some (.inl 7)) ∧ (mr f 0 = some fb ∧ mr g 0 = some gb) ∧ (SH[fb]? = some (.inr (0, 28)) ∧ SH[gb]? = some (.inr (0, 28)) ∧ SH[se]? = some (.inr (0, 3)))
def Dis (f fb g gb se f2 fb2 g2 gb2 se2 : Nat) : Prop := (f ≠ fb ∧ f ≠ g ∧ f ≠ gb ∧ f ≠ se ∧ fb ≠ g ∧ fb ≠ gb ∧ fb ≠ se ∧ g ≠ gb ∧ g ≠ se ∧ gb ≠ se) ∧ (f ≠ f2 ∧ f ≠ fb2 ∧ f ≠ g2 ∧ f ≠ gb2 ∧ f ≠ se2) ∧ (fb ≠ f2 ∧ fb ≠ fb2 ∧ fb ≠ g2 ∧ fb ≠ gb2 ∧ fb ≠ se2) ∧ (g ≠ f2 ∧ g ≠ fb2 ∧ g ≠ g2 ∧ g ≠ gb2 ∧ g ≠ se2) ∧ (gb ≠ f2 ∧ gb ≠ fb2 ∧ gb ≠ g2 ∧ gb ≠ gb2 ∧ gb ≠ se2) ∧ (se ≠ f2 ∧ se ≠ fb2 ∧ se ≠ g2 ∧ se ≠ gb2 ∧ se ≠ se2)
section HISTORY
variable {mi : MI} {mr : MR}
set_option maxRecDepth 100000 in
theorem c_X9_swapRows {f g : Nat} (h1 : mr 1 0 = some f) (h2 : mr 1 1 = some g) (hf : f < 75) (hg : g < 75) : C0 yX9_swapRows cX9_swapRows 2 none 0 SH mi mr [vr 1] (fun mi' mr' => mi' = mi ∧ mr' = up2 (up2 mr 1 0 (some g)) 1 1 (some f)) := by
  refine Ct.ofV (ini := false) [some (vr 1), none] km_X9_swapRows (by decide) rfl (Nat.le_of_ble_eq_true rfl) ?_
  refine V_aload_n dX9_swapRows_0 rfl ?_
  refine V_getr 0 _ dX9_swapRows_1 fl_RX9_14 (by first | with_reducible assumption | rfl) rfl rfl (by first | with_reducible assumption | exact hG.at rfl) ?_
  refine S_astore_n (ls' := [_, _]) dX9_swapRows_4 ⟨Nat.le_of_ble_eq_true rfl, rfl, rfl⟩ rfl ?_
  refine V_aload_n dX9_swapRows_5 rfl ?_
  refine V_aload_n dX9_swapRows_6 rfl ?_
  refine V_getr 1 _ dX9_swapRows_7 fl_RX9_20 (by first | with_reducible assumption | rfl) rfl rfl (by first | with_reducible assumption | exact hG.at rfl) ?_
  refine V_putr 0 dX9_swapRows_10 fl_RX9_14 (by first | with_reducible assumption | rfl) rfl rfl rfl (by exact hg) ?_
  refine V_aload_n dX9_swapRows_13 rfl ?_
  refine V_aload_n dX9_swapRows_14 rfl ?_
  refine V_putr 1 dX9_swapRows_15 fl_RX9_20 (by first | with_reducible assumption | rfl) rfl rfl rfl (by exact hf) ?_
  refine V_vret dX9_swapRows_18 rfl ⟨Nat.le_of_ble_eq_true rfl, Nat.le_of_ble_eq_true rfl⟩ ?_
  exact ⟨rfl, rfl, rfl, rfl⟩
set_option maxRecDepth 100000 in
set_option maxHeartbeats 1000000 in
theorem c_X9_copyFrom {s f fb g gb se s2 f2 fb2 g2 gb2 se2 : Nat} {σ : St} (k : Sha mr s f fb g gb se) (k2 : Sha mr s2 f2 fb2 g2 gb2 se2) (hd : Dis f fb g gb se f2 fb2 g2 gb2 se2) (h2 : SIs mi f2 fb2 g2 gb2 se2 σ) (hv : StV σ) : C0 yX9_copyFrom cX9_copyFrom 3 none 2 SH mi mr [vr s, vr s2] (fun mi' mr' => mr' = mr ∧ SIs mi' f fb g gb se σ ∧ ∀ x, x ≠ f → x ≠ fb → x ≠ g → x ≠ gb → x ≠ se → mi' x = mi x) := by
  obtain ⟨⟨a1, a2, a3⟩, ⟨a4, a5, a6⟩, ⟨a7, a8⟩, ⟨a9, a10, a11⟩⟩ := k
  obtain ⟨⟨b1, b2, b3⟩, ⟨b4, b5, b6⟩, ⟨b7, b8⟩, ⟨b9, b10, b11⟩⟩ := k2
  obtain ⟨⟨d1, d2, d3, d4, d5, d6, d7, d8, d9, d10⟩, ⟨d11, d12, d13, d14, d15⟩, ⟨d21, d22, d23, d24, d25⟩, ⟨d31, d32, d33, d34, d35⟩, ⟨d41, d42, d43, d44, d45⟩, ⟨d51, d52, d53, d54, d55⟩⟩ := hd
  obtain ⟨s1, s3, s4, s5, s6⟩ := h2
  have hn := hv.1.1
  have hm := hv.2.1.1
  have loop : ∀ (mi1 : MI), (∀ i, 0 ≤ i → i < 3 → mi1 se2 i = σ.2.2.2.2 i) → ∀ (t : Nat) (j : Int) (mi' : MI), 0 ≤ j → j ≤ 3 → 3 - j < t → (∀ i, 0 ≤ i → i < j → mi' se i = σ.2.2.2.2 i) → (∀ x, x ≠ se → mi' x = mi1 x) → ∀ Q : PQ, (∀ mi' : MI, (∀ i, 0 ≤ i → i < 3 → mi' se i = σ.2.2.2.2 i) → (∀ x, x ≠ se → mi' x = mi1 x) → Q none SH mi' mr) → V (RX9, cX9_copyFrom, 3, rm 2, false, none, none) Q 0 0 SH mi' mr [some (vr s), some (vr s2), some (vi j)] [] 24 := by
    intro mi1 hz t
    induction t with
    | zero => intro j mi' h1 h2 h3; omega
    | succ t ih =>
      intro j mi' h1 h2 h3 h4 h5 Q hQ
      refine V_iload_n dX9_copyFrom_24 rfl ?_
      refine V_iconst dX9_copyFrom_25 ?_
      refine V_icmp_ge 47 dX9_copyFrom_26 (by decide) (by omega) (by omega) (fun h26 => ?_) (fun h26 => ?_)
      · refine V_vret dX9_copyFrom_47 rfl ⟨Nat.le_of_ble_eq_true rfl, Nat.le_of_ble_eq_true rfl⟩ ?_
        exact hQ mi' (fun i g1 g2 => h4 i g1 (by omega)) h5
      · refine V_aload_n dX9_copyFrom_29 rfl ?_
        refine V_getr 2 _ dX9_copyFrom_30 fl_RX9_23 (by first | with_reducible assumption | rfl) rfl rfl (by first | with_reducible assumption | exact hG.at rfl) ?_
        refine V_iload_n dX9_copyFrom_33 rfl ?_
        refine V_aload_n dX9_copyFrom_34 rfl ?_
        refine V_getr 2 _ dX9_copyFrom_35 fl_RX9_23 (by first | with_reducible assumption | rfl) rfl rfl (by first | with_reducible assumption | exact hG.at rfl) ?_
        refine V_iload_n dX9_copyFrom_38 rfl ?_
        refine V_iald dX9_copyFrom_39 (by first | with_reducible assumption | rfl) (by decide) (by omega) ?_
        refine V_iast dX9_copyFrom_40 (by first | with_reducible assumption | rfl) (by decide) (by omega) ?_
        refine S_iinc (ls' := [_, _, _]) dX9_copyFrom_41 rfl ⟨rfl, rfl⟩ rfl ?_
        refine V_goto 24 dX9_copyFrom_44 (by decide) ?_
        refine ih (j + 1) _ (by omega) (by omega) (by omega) (fun i g1 g2 => ?_) (fun x hx => by rw [up2_n mi' _ _ hx]; exact h5 x hx) Q hQ
        by_cases hi : i = j
        · subst hi
          rw [up2_ss, h5 se2 (Ne.symm d55), hz i g1 (by omega)]
        · rw [up2_sn mi' se _ hi]
          exact h4 i g1 (by omega)
  refine Ct.ofV (ini := false) [some (vr s), some (vr s2), none] km_X9_copyFrom (by decide) rfl (Nat.le_of_ble_eq_true rfl) ?_
  refine V_aload_n dX9_copyFrom_0 rfl ?_
  refine V_getr 0 _ dX9_copyFrom_1 fl_RX9_14 (by first | with_reducible assumption | rfl) rfl rfl (by first | with_reducible assumption | exact hG.at rfl) ?_
  refine V_aload_n dX9_copyFrom_4 rfl ?_
  refine V_getr 0 _ dX9_copyFrom_5 fl_RX9_14 (by first | with_reducible assumption | rfl) rfl rfl (by first | with_reducible assumption | exact hG.at rfl) ?_
  refine V_callV0 dX9_copyFrom_8 ml_RX9_30 km_X7_copyFrom kv_X7_copyFrom (c_X7_copyFrom a5 a7 a9 (by decide) b5 b7 b9 (by decide) ⟨d1, d11, d12, d21, d22⟩ (by omega)) (by first | with_reducible assumption | rfl) rfl rfl rfl (Nat.le_of_ble_eq_true rfl) ⟨Nat.le_of_ble_eq_true rfl, Nat.le_of_ble_eq_true rfl⟩ ⟨Nat.le_of_ble_eq_true rfl, Nat.le_of_ble_eq_true rfl⟩ ?_
  rintro mi1 mr1 ⟨rfl, p1, p2, p3⟩
  have e1 : mi1 g2 = mi g2 := p3 g2 (Ne.symm d13) (Ne.symm d23)
  have e2 : mi1 gb2 = mi gb2 := p3 gb2 (Ne.symm d14) (Ne.symm d24)
  refine V_aload_n dX9_copyFrom_11 rfl ?_
  refine V_getr 1 _ dX9_copyFrom_12 fl_RX9_20 (by first | with_reducible assumption | rfl) rfl rfl (by first | with_reducible assumption | exact hG.at rfl) ?_
  refine V_aload_n dX9_copyFrom_15 rfl ?_
  refine V_getr 1 _ dX9_copyFrom_16 fl_RX9_20 (by first | with_reducible assumption | rfl) rfl rfl (by first | with_reducible assumption | exact hG.at rfl) ?_
  refine V_callV0 dX9_copyFrom_19 ml_RX9_30 km_X7_copyFrom kv_X7_copyFrom (c_X7_copyFrom a6 a8 a10 (by decide) b6 b8 b10 (by decide) ⟨d8, d33, d34, d43, d44⟩ (by rw [e1]; omega)) (by first | with_reducible assumption | rfl) rfl rfl rfl (Nat.le_of_ble_eq_true rfl) ⟨Nat.le_of_ble_eq_true rfl, Nat.le_of_ble_eq_true rfl⟩ ⟨Nat.le_of_ble_eq_true rfl, Nat.le_of_ble_eq_true rfl⟩ ?_
  rintro mi2 mr2 ⟨rfl, q1, q2, q3⟩
  refine V_iconst dX9_copyFrom_22 ?_
  refine S_istore_n (ls' := [_, _, _]) dX9_copyFrom_23 ⟨Nat.le_of_ble_eq_true rfl, rfl, rfl⟩ rfl ?_
  refine loop mi2 (fun i g1 g2 => by rw [q3 se2 (Ne.symm d35) (Ne.symm d45), p3 se2 (Ne.symm d15) (Ne.symm d25)]; exact s6 i g1 g2) 4 0 mi2 (by omega) (by omega) (by omega) (fun i g1 g2 => by omega) (fun _ _ => rfl) _ (fun mi' r1 r2 => ⟨rfl, rfl, rfl, ⟨?_, ?_, ?_, ?_, r1⟩, fun x x1 x2 x3 x4 x5 => ?_⟩)
  · rw [r2 f d4, q3 f d2 d3, p1, s1]
  · rw [r2 g d9, q1, e1, s3]
  · intro i g1 g2
    rw [r2 fb d7, q3 fb d5 d6, p2 i g1 (by rw [s1]; exact g2)]
    exact s4 i g1 g2
  · intro i g1 g2
    rw [r2 gb d10, q2 i g1 (by rw [e1, s3]; exact g2), e2]
    exact s5 i g1 g2
  · rw [r2 x x5, q3 x x3 x4, p3 x x1 x2]
/-- where the states of the history are, in their order -/
def HiP (mr : MR) (P : Int → Nat) : Prop := (∀ i, 0 ≤ i → i < 4 → mr 8 i = some (P i) ∧ (P i = 9 ∨ P i = 15 ∨ P i = 21 ∨ P i = 27)) ∧ ∀ i j, 0 ≤ i → i < 4 → 0 ≤ j → j < 4 → P i = P j → i = j
def SHi (mi : MI) (p : Nat) (σ : St) : Prop := SIs mi (p + 1) (p + 2) (p + 3) (p + 4) (p + 5) σ
def Hist (mi : MI) (P : Int → Nat) (hs : List St) : Prop := mi 7 1 = hs.length ∧ hs.length ≤ 4 ∧ ∀ (i : Nat) (σ : St), hs[i]? = some σ → SHi mi (P i) σ ∧ StV σ
def rotP (P : Int → Nat) : Int → Nat := fun i => if i = 3 then P 0 else P (i + 1)
theorem HiP.sha {mr : MR} {P : Int → Nat} (hG : Gr mr) (h : HiP mr P) {i : Int} (h0 : 0 ≤ i) (h1 : i < 4) : Sha mr (P i) (P i + 1) (P i + 2) (P i + 3) (P i + 4) (P i + 5) := by
  have := (h.1 i h0 h1).2
  generalize P i = p at this
  rcases this with rfl | rfl | rfl | rfl <;> exact ⟨⟨hG.at rfl, hG.at rfl, hG.at rfl⟩, ⟨rfl, rfl, rfl⟩, ⟨hG.at rfl, hG.at rfl⟩, rfl, rfl, rfl⟩
theorem Now.sha {f fb g gb : Nat} {n m : Int} {A B : Int → Int} (h : Now mi mr f fb g gb n m A B) : Sha mr 1 f fb g gb 6 := by
  obtain ⟨⟨u1, u2, hG⟩, ⟨u4, u5, u6⟩, ⟨u7, u8, u9⟩, -⟩ := h.u
  exact ⟨⟨u1, u2, hG.at rfl⟩, ⟨rfl, u4, u7⟩, ⟨u5, u8⟩, u6, u9, rfl⟩
theorem HiP.rot {mr mr' : MR} {P : Int → Nat} (h : HiP mr P) (h0 : mr' 8 0 = some (P 1)) (h1 : mr' 8 1 = some (P 2)) (h2 : mr' 8 2 = some (P 3)) (h3 : mr' 8 3 = some (P 0)) : HiP mr' (rotP P) := by
  constructor
  · intro i g0 g1
    rcases (by omega : i = 0 ∨ i = 1 ∨ i = 2 ∨ i = 3) with rfl | rfl | rfl | rfl
    · exact ⟨h0, (h.1 1 (by omega) (by omega)).2⟩
    · exact ⟨h1, (h.1 2 (by omega) (by omega)).2⟩
    · exact ⟨h2, (h.1 3 (by omega) (by omega)).2⟩
    · exact ⟨h3, (h.1 0 (by omega) (by omega)).2⟩
  · intro i j g0 g1 g2 g3 he
    unfold rotP at he
    split at he <;> split at he
    · omega
    · have := h.2 _ _ (by omega) (by omega) (by omega) (by omega) he; omega
    · have := h.2 _ _ (by omega) (by omega) (by omega) (by omega) he; omega
    · have := h.2 _ _ (by omega) (by omega) (by omega) (by omega) he; omega
set_option maxRecDepth 100000 in
theorem c_X3_dropOldest {P : Int → Nat} (hG : Gr mr) (hP : HiP mr P) : C0 yX3_dropOldest cX3_dropOldest 3 none 0 SH mi mr [vr 7] (fun mi' mr' => mi' = up2 mi 7 1 3 ∧ HiP mr' (rotP P) ∧ ∀ x, x ≠ 8 → mr' x = mr x) := by
  have p0 := (hP.1 0 (by omega) (by omega)).1
  have p1 := (hP.1 1 (by omega) (by omega)).1
  have p2 := (hP.1 2 (by omega) (by omega)).1
  have p3 := (hP.1 3 (by omega) (by omega)).1
  have q0 := (hP.sha hG (i := 0) (by omega) (by omega)).2.1.1
  have q1 := (hP.sha hG (i := 1) (by omega) (by omega)).2.1.1
  have q2 := (hP.sha hG (i := 2) (by omega) (by omega)).2.1.1
  have q3 := (hP.sha hG (i := 3) (by omega) (by omega)).2.1.1
  have hg8 : mr 7 0 = some 8 := hG.at rfl
  refine Ct.ofV (ini := false) [some (vr 7), none, none] km_X3_dropOldest (by decide) rfl (Nat.le_of_ble_eq_true rfl) ?_
  refine V_aload_n dX3_dropOldest_0 rfl ?_
  refine V_getr 0 _ dX3_dropOldest_1 fl_RX3_11 (by first | with_reducible assumption | rfl) rfl rfl (by first | with_reducible assumption | (simp [up2, up1]; with_reducible assumption)) ?_
  refine V_iconst dX3_dropOldest_4 ?_
  refine V_aald dX3_dropOldest_5 (by first | with_reducible assumption | rfl) (by decide) (by omega) (by first | with_reducible assumption | (simp [up2, up1]; with_reducible assumption)) ?_
  refine S_astore_n (ls' := [_, _, _]) dX3_dropOldest_6 ⟨Nat.le_of_ble_eq_true rfl, rfl, rfl⟩ rfl ?_
  refine V_iconst dX3_dropOldest_7 ?_
  refine S_istore_n (ls' := [_, _, _]) dX3_dropOldest_8 ⟨Nat.le_of_ble_eq_true rfl, rfl, rfl⟩ rfl ?_
  refine V_iload_n dX3_dropOldest_9 rfl ?_
  refine V_iconst dX3_dropOldest_10 ?_
  refine V_icmp_ge 34 dX3_dropOldest_11 (by decide) (by omega) (by omega) (fun h11 => absurd h11 (by omega)) (fun _ => ?_)
  refine V_aload_n dX3_dropOldest_14 rfl ?_
  refine V_getr 0 _ dX3_dropOldest_15 fl_RX3_11 (by first | with_reducible assumption | rfl) rfl rfl (by first | with_reducible assumption | (simp [up2, up1]; with_reducible assumption)) ?_
  refine V_iload_n dX3_dropOldest_18 rfl ?_
  refine V_iconst dX3_dropOldest_19 ?_
  refine V_isub dX3_dropOldest_20 ?_
  refine V_aload_n dX3_dropOldest_21 rfl ?_
  refine V_getr 0 _ dX3_dropOldest_22 fl_RX3_11 (by first | with_reducible assumption | rfl) rfl rfl (by first | with_reducible assumption | (simp [up2, up1]; with_reducible assumption)) ?_
  refine V_iload_n dX3_dropOldest_25 rfl ?_
  refine V_aald dX3_dropOldest_26 (by first | with_reducible assumption | rfl) (by decide) (by omega) (by first | with_reducible assumption | (simp [up2, up1]; with_reducible assumption)) ?_
  refine V_aast dX3_dropOldest_27 (by first | with_reducible assumption | rfl) (by decide) (by omega) (by first | with_reducible assumption | rfl) ?_
  refine S_iinc (ls' := [_, _, _]) dX3_dropOldest_28 rfl ⟨rfl, rfl⟩ rfl ?_
  refine V_goto 9 dX3_dropOldest_31 (by decide) ?_
  refine V_iload_n dX3_dropOldest_9 rfl ?_
  refine V_iconst dX3_dropOldest_10 ?_
  refine V_icmp_ge 34 dX3_dropOldest_11 (by decide) (by omega) (by omega) (fun h11 => absurd h11 (by omega)) (fun _ => ?_)
  refine V_aload_n dX3_dropOldest_14 rfl ?_
  refine V_getr 0 _ dX3_dropOldest_15 fl_RX3_11 (by first | with_reducible assumption | rfl) rfl rfl (by first | with_reducible assumption | (simp [up2, up1]; with_reducible assumption)) ?_
  refine V_iload_n dX3_dropOldest_18 rfl ?_
  refine V_iconst dX3_dropOldest_19 ?_
  refine V_isub dX3_dropOldest_20 ?_
  refine V_aload_n dX3_dropOldest_21 rfl ?_
  refine V_getr 0 _ dX3_dropOldest_22 fl_RX3_11 (by first | with_reducible assumption | rfl) rfl rfl (by first | with_reducible assumption | (simp [up2, up1]; with_reducible assumption)) ?_
  refine V_iload_n dX3_dropOldest_25 rfl ?_
  refine V_aald dX3_dropOldest_26 (by first | with_reducible assumption | rfl) (by decide) (by omega) (by first | with_reducible assumption | (simp [up2, up1]; with_reducible assumption)) ?_
  refine V_aast dX3_dropOldest_27 (by first | with_reducible assumption | rfl) (by decide) (by omega) (by first | with_reducible assumption | rfl) ?_
  refine S_iinc (ls' := [_, _, _]) dX3_dropOldest_28 rfl ⟨rfl, rfl⟩ rfl ?_
  refine V_goto 9 dX3_dropOldest_31 (by decide) ?_
  refine V_iload_n dX3_dropOldest_9 rfl ?_
  refine V_iconst dX3_dropOldest_10 ?_
  refine V_icmp_ge 34 dX3_dropOldest_11 (by decide) (by omega) (by omega) (fun h11 => absurd h11 (by omega)) (fun _ => ?_)
  refine V_aload_n dX3_dropOldest_14 rfl ?_
  refine V_getr 0 _ dX3_dropOldest_15 fl_RX3_11 (by first | with_reducible assumption | rfl) rfl rfl (by first | with_reducible assumption | (simp [up2, up1]; with_reducible assumption)) ?_
  refine V_iload_n dX3_dropOldest_18 rfl ?_
  refine V_iconst dX3_dropOldest_19 ?_
  refine V_isub dX3_dropOldest_20 ?_
  refine V_aload_n dX3_dropOldest_21 rfl ?_
  refine V_getr 0 _ dX3_dropOldest_22 fl_RX3_11 (by first | with_reducible assumption | rfl) rfl rfl (by first | with_reducible assumption | (simp [up2, up1]; with_reducible assumption)) ?_
  refine V_iload_n dX3_dropOldest_25 rfl ?_
  refine V_aald dX3_dropOldest_26 (by first | with_reducible assumption | rfl) (by decide) (by omega) (by first | with_reducible assumption | (simp [up2, up1]; with_reducible assumption)) ?_
  refine V_aast dX3_dropOldest_27 (by first | with_reducible assumption | rfl) (by decide) (by omega) (by first | with_reducible assumption | rfl) ?_
  refine S_iinc (ls' := [_, _, _]) dX3_dropOldest_28 rfl ⟨rfl, rfl⟩ rfl ?_
  refine V_goto 9 dX3_dropOldest_31 (by decide) ?_
  refine V_iload_n dX3_dropOldest_9 rfl ?_
  refine V_iconst dX3_dropOldest_10 ?_
  refine V_icmp_ge 34 dX3_dropOldest_11 (by decide) (by omega) (by omega) (fun _ => ?_) (fun h11 => absurd h11 (by omega))
  refine V_aload_n dX3_dropOldest_34 rfl ?_
  refine V_getr 0 _ dX3_dropOldest_35 fl_RX3_11 (by first | with_reducible assumption | rfl) rfl rfl (by first | with_reducible assumption | (simp [up2, up1]; with_reducible assumption)) ?_
  refine V_iconst dX3_dropOldest_38 ?_
  refine V_aload_n dX3_dropOldest_39 rfl ?_
  refine V_aast dX3_dropOldest_40 (by first | with_reducible assumption | rfl) (by decide) (by omega) (by first | with_reducible assumption | rfl) ?_
  refine V_aload_n dX3_dropOldest_41 rfl ?_
  refine V_iconst dX3_dropOldest_42 ?_
  refine V_puti 1 dX3_dropOldest_43 fl_RX3_18 (by first | with_reducible assumption | rfl) rfl rfl rfl ?_
  refine V_vret dX3_dropOldest_46 rfl ⟨Nat.le_of_ble_eq_true rfl, Nat.le_of_ble_eq_true rfl⟩ ?_
  refine ⟨rfl, rfl, rfl, hP.rot ?_ ?_ ?_ ?_, fun x hx => ?_⟩ <;> simp [up2, up1, *]
theorem SIs.keep {mi mi' : MI} {f fb g gb se : Nat} {σ : St} (h : SIs mi f fb g gb se σ) (e : mi' f = mi f ∧ mi' fb = mi fb ∧ mi' g = mi g ∧ mi' gb = mi gb ∧ mi' se = mi se) : SIs mi' f fb g gb se σ := by
  obtain ⟨e1, e2, e3, e4, e5⟩ := e
  unfold SIs
  rw [e1, e2, e3, e4, e5]
  exact h
/-- the history behind one more record -/
def hpush (hs : List St) (σ : St) : List St := (if hs.length = 4 then hs.tail else hs) ++ [σ]
set_option maxRecDepth 100000 in
set_option maxHeartbeats 1000000 in
theorem l_X3_record {Q : PQ} {f fb g gb : Nat} {n m : Int} {A B Z : Int → Int} {P : Int → Nat} {hs : List St} (hN : Now mi mr f fb g gb n m A B) (hZ : ∀ i, 0 ≤ i → i < 3 → mi 6 i = Z i) (hv : StV (n, m, A, B, Z)) (hP : HiP mr P) (hH : Hist mi P hs) (hlt : hs.length < 4)
    (kk : ∀ mi' : MI, Hist mi' P (hs ++ [(n, m, A, B, Z)]) → (∀ x, (x < 7 ∨ 33 ≤ x) → mi' x = mi x) → Q none SH mi' mr) : V (RX3, cX3_record, 2, rm 3, false, none, none) Q 0 0 SH mi mr [some (vr 7), some (vr 1)] [] 12 := by
  have hG := hN.2.2.1
  obtain ⟨h1, h2, h3⟩ := hH
  have hk4 : (0 : Int) ≤ hs.length ∧ (hs.length : Int) < 4 := by omega
  obtain ⟨pk, pv⟩ := hP.1 hs.length hk4.1 hk4.2
  have sp := hP.sha hG hk4.1 hk4.2
  have sN := hN.sha
  have hin := hN.2.1
  have hdis : Dis (P hs.length + 1) (P hs.length + 2) (P hs.length + 3) (P hs.length + 4) (P hs.length + 5) f fb g gb 6 := by unfold Dis; omega
  have q9 := sp.2.1.1
  refine V_aload_n dX3_record_12 rfl ?_
  refine V_geti 1 dX3_record_13 fl_RX3_18 (by first | with_reducible assumption | rfl) rfl rfl ?_
  refine V_if_lt 50 dX3_record_16 (by decide) (by omega) (fun h16 => ?_) (fun h16 => ?_)
  · omega
  · refine V_aload_n dX3_record_19 rfl ?_
    refine V_geti 1 dX3_record_20 fl_RX3_18 (by first | with_reducible assumption | rfl) rfl rfl ?_
    refine V_iconst dX3_record_23 ?_
    refine V_icmp_ge 50 dX3_record_24 (by decide) (by omega) (by omega) (fun h24 => ?_) (fun h24 => ?_)
    · omega
    · refine V_aload_n dX3_record_27 rfl ?_
      refine V_getr 0 _ dX3_record_28 fl_RX3_11 (by first | with_reducible assumption | rfl) rfl rfl (by first | with_reducible assumption | exact hG.at rfl) ?_
      refine V_aload_n dX3_record_31 rfl ?_
      refine V_geti 1 dX3_record_32 fl_RX3_18 (by first | with_reducible assumption | rfl) rfl rfl ?_
      refine V_aald dX3_record_35 (by first | with_reducible assumption | rfl) (by decide) (by omega) (by first | (rw [h1]; exact pk) | exact hG.at rfl) ?_
      refine V_aload_n dX3_record_36 rfl ?_
      refine V_callV0 dX3_record_37 ml_RX3_25 km_X9_copyFrom kv_X9_copyFrom (c_X9_copyFrom (σ := (n, m, A, B, Z)) sp sN hdis ⟨hN.2.2.2.1.1, hN.2.2.2.1.2, hN.2.2.2.2.1, hN.2.2.2.2.2.1, hZ⟩ hv) (by first | with_reducible assumption | rfl) rfl rfl rfl (Nat.le_of_ble_eq_true rfl) ⟨Nat.le_of_ble_eq_true rfl, Nat.le_of_ble_eq_true rfl⟩ ⟨Nat.le_of_ble_eq_true rfl, Nat.le_of_ble_eq_true rfl⟩ ?_
      rintro mi1 mr1 ⟨rfl, r1, r2⟩
      have e7 : mi1 7 = mi 7 := r2 7 (by omega) (by omega) (by omega) (by omega) (by omega)
      refine V_aload_n dX3_record_40 rfl ?_
      refine V_dup dX3_record_41 rfl ?_
      refine V_geti 1 dX3_record_42 fl_RX3_18 (by first | with_reducible assumption | rfl) rfl rfl ?_
      rw [e7, h1]
      refine V_iconst dX3_record_45 ?_
      refine V_iadd dX3_record_46 ?_
      refine V_puti 1 dX3_record_47 fl_RX3_18 (by first | with_reducible assumption | rfl) rfl rfl rfl ?_
      refine V_vret dX3_record_50 rfl ⟨Nat.le_of_ble_eq_true rfl, Nat.le_of_ble_eq_true rfl⟩ ?_
      refine kk _ ⟨?_, ?_, fun i σ hi => ?_⟩ (fun x hx => ?_)
      · rw [up2_ss]; simp
      · simp; omega
      · by_cases hil : i < hs.length
        · rw [List.getElem?_append_left hil] at hi
          have hi4 := hP.1 i (by omega) (by omega)
          have hne : P i ≠ P hs.length := fun e => by have := hP.2 i hs.length (by omega) (by omega) (by omega) (by omega) e; omega
          refine ⟨(h3 i σ hi).1.keep ?_, (h3 i σ hi).2⟩
          refine ⟨?_, ?_, ?_, ?_, ?_⟩ <;> (rw [up2_n _ _ _ (by omega)]; exact r2 _ (by omega) (by omega) (by omega) (by omega) (by omega))
        · have hie : i = hs.length := by
            have := lt_of_get hi
            simp at this
            omega
          subst hie
          have : σ = (n, m, A, B, Z) := by simpa using hi.symm
          subst this
          refine ⟨r1.keep ?_, hv⟩
          refine ⟨?_, ?_, ?_, ?_, ?_⟩ <;> exact up2_n _ _ _ (by omega)
      · rw [up2_n _ _ _ (by omega)]; exact r2 x (by omega) (by omega) (by omega) (by omega) (by omega)
end HISTORY
