/-! ===== DiagonalTexts$Reaches ===== -/
abbrev pl (d k : Int) : Int := d * (d + 1) / 2 + (d + k) / 2
def plc (d k : Int) : Int := if lat d k then pl d k else -1
def rch (mi : MI) (d k : Int) : Int := if lat d k then mi 36 (pl d k) else -1
theorem tri_r : ∀ n : Nat, n ≤ 56 → n * (n + 1) ≤ 3192 ∧ n * (n + 1) / 2 + n < 1653 := by decide +kernel
theorem tri_lt : ∀ a : Nat, a ≤ 56 → ∀ b : Nat, b ≤ 56 → a < b → a * (a + 1) / 2 + a < b * (b + 1) / 2 := by decide +kernel
theorem tri_i {d : Int} (h : 0 ≤ d ∧ d ≤ 56) : 0 ≤ d * (d + 1) ∧ d * (d + 1) ≤ 3192 ∧ 0 ≤ d * (d + 1) / 2 ∧ d * (d + 1) / 2 + d < 1653 := by
  obtain ⟨n, rfl⟩ := Int.eq_ofNat_of_zero_le h.1
  have h1 := tri_r n (by omega)
  have e : (n : Int) * ((n : Int) + 1) = ((n * (n + 1) : Nat) : Int) := by simp
  rw [e]
  omega
theorem pl_r {d k : Int} (h : lat d k) : 0 ≤ pl d k ∧ pl d k < 1653 := by
  have := tri_i ⟨h.1, h.2.1⟩
  unfold pl
  omega
theorem pl_inj {d k d' k' : Int} (h : lat d k) (h' : lat d' k') (he : pl d k = pl d' k') : d = d' ∧ k = k' := by
  have key : ∀ {d k d' k' : Int}, lat d k → lat d' k' → d < d' → pl d k < pl d' k' := by
    intro d k d' k' h h' hlt
    obtain ⟨a, ha⟩ := Int.eq_ofNat_of_zero_le h.1
    obtain ⟨b, hb⟩ := Int.eq_ofNat_of_zero_le h'.1
    have h1 := tri_lt a (by omega) b (by omega) (by omega)
    have e1 : d * (d + 1) / 2 = ((a * (a + 1) / 2 : Nat) : Int) := by rw [ha]; simp
    have e2 : d' * (d' + 1) / 2 = ((b * (b + 1) / 2 : Nat) : Int) := by rw [hb]; simp
    unfold pl
    rw [e1, e2]
    omega
  rcases Int.lt_trichotomy d d' with h1 | h1 | h1
  · have := key h h' h1; omega
  · subst h1
    unfold pl at he
    omega
  · have := key h' h h1; omega
section REACHES
variable {mi : MI} {mr : MR} {f fb g gb : Nat} {n m : Int} {A B : Int → Int}
set_option maxRecDepth 100000 in
theorem c_X5_placeOf {sh : ShT} {d k : Int} (hd : rng d) (hk : rng k) : CP yX5_placeOf cX5_placeOf 2 (some .int) 0 sh mi mr [vi d, vi k] (vi (plc d k)) := by
  refine Ct.ofV (ini := false) [some (vi d), some (vi k)] km_X5_placeOf (by decide) rfl (Nat.le_of_ble_eq_true rfl) ?_
  refine V_iload_n dX5_placeOf_0 rfl ?_
  refine V_if_lt 29 dX5_placeOf_1 (by decide) (by omega) (fun h1 => ?_) (fun h1 => ?_)
  · refine V_iconst dX5_placeOf_29 ?_
    refine V_iret dX5_placeOf_30 rfl ⟨Nat.le_of_ble_eq_true rfl, Nat.le_of_ble_eq_true rfl⟩ ?_
    exact ⟨rfl, svi (by unfold plc; rw [if_neg (by omega)]), rfl, rfl⟩
  · refine V_iload_n dX5_placeOf_4 rfl ?_
    refine V_bipush dX5_placeOf_5 (by decide) ?_
    refine V_icmp_gt 29 dX5_placeOf_7 (by decide) (by omega) (by omega) (fun h7 => ?_) (fun h7 => ?_)
    · refine V_iconst dX5_placeOf_29 ?_
      refine V_iret dX5_placeOf_30 rfl ⟨Nat.le_of_ble_eq_true rfl, Nat.le_of_ble_eq_true rfl⟩ ?_
      exact ⟨rfl, svi (by unfold plc; rw [if_neg (by omega)]), rfl, rfl⟩
    · refine V_iload_n dX5_placeOf_10 rfl ?_
      refine V_iload_n dX5_placeOf_11 rfl ?_
      refine V_ineg dX5_placeOf_12 ?_
      refine V_icmp_lt 29 dX5_placeOf_13 (by decide) (by omega) (by omega) (fun h13 => ?_) (fun h13 => ?_)
      · refine V_iconst dX5_placeOf_29 ?_
        refine V_iret dX5_placeOf_30 rfl ⟨Nat.le_of_ble_eq_true rfl, Nat.le_of_ble_eq_true rfl⟩ ?_
        exact ⟨rfl, svi (by unfold plc; rw [if_neg (by omega)]), rfl, rfl⟩
      · refine V_iload_n dX5_placeOf_16 rfl ?_
        refine V_iload_n dX5_placeOf_17 rfl ?_
        refine V_icmp_gt 29 dX5_placeOf_18 (by decide) (by omega) (by omega) (fun h18 => ?_) (fun h18 => ?_)
        · refine V_iconst dX5_placeOf_29 ?_
          refine V_iret dX5_placeOf_30 rfl ⟨Nat.le_of_ble_eq_true rfl, Nat.le_of_ble_eq_true rfl⟩ ?_
          exact ⟨rfl, svi (by unfold plc; rw [if_neg (by omega)]), rfl, rfl⟩
        · refine V_iload_n dX5_placeOf_21 rfl ?_
          refine V_iload_n dX5_placeOf_22 rfl ?_
          refine V_iadd dX5_placeOf_23 ?_
          refine V_iconst dX5_placeOf_24 ?_
          refine V_irem dX5_placeOf_25 (by omega) (by omega) ?_
          refine V_if_eq 31 dX5_placeOf_26 (by decide) (by omega) (fun h26 => ?_) (fun h26 => ?_)
          · have ht := tri_i (d := d) ⟨by omega, by omega⟩
            refine V_iload_n dX5_placeOf_31 rfl ?_
            refine V_iload_n dX5_placeOf_32 rfl ?_
            refine V_iconst dX5_placeOf_33 ?_
            refine V_iadd dX5_placeOf_34 ?_
            refine V_imul dX5_placeOf_35 ?_
            refine V_iconst dX5_placeOf_36 ?_
            refine V_idiv dX5_placeOf_37 (by omega) (by omega) ?_
            refine V_iload_n dX5_placeOf_38 rfl ?_
            refine V_iload_n dX5_placeOf_39 rfl ?_
            refine V_iadd dX5_placeOf_40 ?_
            refine V_iconst dX5_placeOf_41 ?_
            refine V_idiv dX5_placeOf_42 (by omega) (by omega) ?_
            refine V_iadd dX5_placeOf_43 ?_
            refine V_iret dX5_placeOf_44 rfl ⟨Nat.le_of_ble_eq_true rfl, Nat.le_of_ble_eq_true rfl⟩ ?_
            exact ⟨rfl, svi (by unfold plc; rw [if_pos ⟨by omega, by omega, by omega, by omega, by omega⟩]), rfl, rfl⟩
          · refine V_iconst dX5_placeOf_29 ?_
            refine V_iret dX5_placeOf_30 rfl ⟨Nat.le_of_ble_eq_true rfl, Nat.le_of_ble_eq_true rfl⟩ ?_
            exact ⟨rfl, svi (by unfold plc; rw [if_neg (by omega)]), rfl, rfl⟩
set_option maxRecDepth 100000 in
theorem c_X5_at {d k : Int} (hG : Gr mr) (hd : rng d) (hk : rng k) : CP yX5_at cX5_at 4 (some .int) 1 SH mi mr [vr 35, vi d, vi k] (vi (rch mi d k)) := by
  have hp : lat d k → 0 ≤ pl d k ∧ pl d k < 1653 := pl_r
  have hc : plc d k = -1 ∧ ¬ lat d k ∨ lat d k ∧ plc d k = pl d k := by
    unfold plc
    by_cases h : lat d k
    · right; exact ⟨h, if_pos h⟩
    · left; exact ⟨if_neg h, h⟩
  have hpr : -1 ≤ plc d k ∧ plc d k < 1653 := by
    rcases hc with h | h
    · omega
    · have := hp h.1; omega
  refine Ct.ofV (ini := false) [some (vr 35), some (vi d), some (vi k), none] km_X5_at (by decide) rfl (Nat.le_of_ble_eq_true rfl) ?_
  refine V_iload_n dX5_at_0 rfl ?_
  refine V_iload_n dX5_at_1 rfl ?_
  refine V_callSP dX5_at_2 ml_RX5_47 km_X5_placeOf ks_X5_placeOf (c_X5_placeOf hd hk) rfl rfl (Nat.le_of_ble_eq_true rfl) ⟨Nat.le_of_ble_eq_true rfl, Nat.le_of_ble_eq_true rfl⟩ ⟨Nat.le_of_ble_eq_true rfl, Nat.le_of_ble_eq_true rfl⟩ ?_
  refine S_istore_n (ls' := [_, _, _, _]) dX5_at_5 ⟨Nat.le_of_ble_eq_true rfl, rfl, rfl⟩ rfl ?_
  refine V_iload_n dX5_at_6 rfl ?_
  refine V_iconst dX5_at_7 ?_
  refine V_icmp_ne 15 dX5_at_8 (by decide) (by omega) (by omega) (fun h8 => ?_) (fun h8 => ?_)
  · refine V_aload_n dX5_at_15 rfl ?_
    refine V_getr 0 _ dX5_at_16 fl_RX5_9 (by first | with_reducible assumption | rfl) rfl rfl (by first | with_reducible assumption | exact hG.at rfl) ?_
    refine V_iload_n dX5_at_19 rfl ?_
    refine V_iald dX5_at_20 (by first | with_reducible assumption | rfl) (by decide) (by omega) ?_
    refine V_iret dX5_at_21 rfl ⟨Nat.le_of_ble_eq_true rfl, Nat.le_of_ble_eq_true rfl⟩ ?_
    refine ⟨rfl, svi ?_, rfl, rfl⟩
    unfold rch
    first | (rw [if_pos (by rcases hc with h | h; omega; exact h.1)]; congr 1; rcases hc with h | h; omega; exact h.2) | (rw [if_neg (by rcases hc with h | h; exact h.2; exact absurd (hp h.1) (by omega))])
  · refine V_iconst dX5_at_11 ?_
    refine V_goto 21 dX5_at_12 (by decide) ?_
    refine V_iret dX5_at_21 rfl ⟨Nat.le_of_ble_eq_true rfl, Nat.le_of_ble_eq_true rfl⟩ ?_
    refine ⟨rfl, svi ?_, rfl, rfl⟩
    unfold rch
    first | (rw [if_pos (by rcases hc with h | h; omega; exact h.1)]; congr 1; rcases hc with h | h; omega; exact h.2) | (rw [if_neg (by rcases hc with h | h; exact h.2; exact absurd (hp h.1) (by omega))])
set_option maxRecDepth 100000 in
theorem c_X5_put {d k v : Int} (hG : Gr mr) (hd : rng d) (hk : rng k) : C0 yX5_put cX5_put 5 none 1 SH mi mr [vr 35, vi d, vi k, vi v] (fun mi' mr' => mr' = mr ∧ mi' = if lat d k then up2 mi 36 (pl d k) v else mi) := by
  have hp : lat d k → 0 ≤ pl d k ∧ pl d k < 1653 := pl_r
  have hc : plc d k = -1 ∧ ¬ lat d k ∨ lat d k ∧ plc d k = pl d k := by
    unfold plc
    by_cases h : lat d k
    · right; exact ⟨h, if_pos h⟩
    · left; exact ⟨if_neg h, h⟩
  have hpr : -1 ≤ plc d k ∧ plc d k < 1653 := by
    rcases hc with h | h
    · omega
    · have := hp h.1; omega
  refine Ct.ofV (ini := false) [some (vr 35), some (vi d), some (vi k), some (vi v), none] km_X5_put (by decide) rfl (Nat.le_of_ble_eq_true rfl) ?_
  refine V_iload_n dX5_put_0 rfl ?_
  refine V_iload_n dX5_put_1 rfl ?_
  refine V_callSP dX5_put_2 ml_RX5_47 km_X5_placeOf ks_X5_placeOf (c_X5_placeOf hd hk) rfl rfl (Nat.le_of_ble_eq_true rfl) ⟨Nat.le_of_ble_eq_true rfl, Nat.le_of_ble_eq_true rfl⟩ ⟨Nat.le_of_ble_eq_true rfl, Nat.le_of_ble_eq_true rfl⟩ ?_
  refine S_istore (ls' := [_, _, _, _, _]) dX5_put_5 ⟨Nat.le_of_ble_eq_true rfl, rfl, rfl⟩ rfl ?_
  refine V_iload dX5_put_7 rfl ?_
  refine V_iconst dX5_put_9 ?_
  refine V_icmp_eq 21 dX5_put_10 (by decide) (by omega) (by omega) (fun h10 => ?_) (fun h10 => ?_)
  · refine V_vret dX5_put_21 rfl ⟨Nat.le_of_ble_eq_true rfl, Nat.le_of_ble_eq_true rfl⟩ ?_
    refine ⟨rfl, rfl, rfl, ?_⟩
    first | (rw [if_neg (by rcases hc with h | h; exact h.2; exact absurd (hp h.1) (by omega))]; done) | (rcases hc with h | h; exact absurd h.1 (by omega); rw [if_pos h.1, h.2])
  · refine V_aload_n dX5_put_13 rfl ?_
    refine V_getr 0 _ dX5_put_14 fl_RX5_9 (by first | with_reducible assumption | rfl) rfl rfl (by first | with_reducible assumption | exact hG.at rfl) ?_
    refine V_iload dX5_put_17 rfl ?_
    refine V_iload_n dX5_put_19 rfl ?_
    refine V_iast dX5_put_20 (by first | with_reducible assumption | rfl) (by decide) (by omega) ?_
    refine V_vret dX5_put_21 rfl ⟨Nat.le_of_ble_eq_true rfl, Nat.le_of_ble_eq_true rfl⟩ ?_
    refine ⟨rfl, rfl, rfl, ?_⟩
    first | (rw [if_neg (by rcases hc with h | h; exact h.2; exact absurd (hp h.1) (by omega))]; done) | (rcases hc with h | h; exact absurd h.1 (by omega); rw [if_pos h.1, h.2])
set_option maxRecDepth 100000 in
theorem c_X5_beginOf {d k : Int} (hG : Gr mr) (hd : -1000 ≤ d ∧ d ≤ 1000) (hk : -1000 ≤ k ∧ k ≤ 1000) (h1 : -10 ≤ rch mi (d - 1) (k - 1) ∧ rch mi (d - 1) (k - 1) ≤ 1000) (h2 : -10 ≤ rch mi (d - 1) (k + 1) ∧ rch mi (d - 1) (k + 1) ≤ 1000) : CP yX5_beginOf cX5_beginOf 3 (some .int) 2 SH mi mr [vr 35, vi d, vi k] (vi (if d ≤ 0 then 0 else max (rch mi (d - 1) (k - 1) + 1) (rch mi (d - 1) (k + 1)))) := by
  refine Ct.ofV (ini := false) [some (vr 35), some (vi d), some (vi k)] km_X5_beginOf (by decide) rfl (Nat.le_of_ble_eq_true rfl) ?_
  refine V_iload_n dX5_beginOf_0 rfl ?_
  refine V_if_gt 6 dX5_beginOf_1 (by decide) (by omega) (fun h1 => ?_) (fun h1 => ?_)
  · refine V_aload_n dX5_beginOf_6 rfl ?_
    refine V_iload_n dX5_beginOf_7 rfl ?_
    refine V_iconst dX5_beginOf_8 ?_
    refine V_isub dX5_beginOf_9 ?_
    refine V_iload_n dX5_beginOf_10 rfl ?_
    refine V_iconst dX5_beginOf_11 ?_
    refine V_isub dX5_beginOf_12 ?_
    refine V_callVP dX5_beginOf_13 ml_RX5_44 km_X5_at kv_X5_at (c_X5_at (d := d - 1) (k := k - 1) hG (by omega) (by omega)) (by first | with_reducible assumption | rfl) rfl rfl rfl (Nat.le_of_ble_eq_true rfl) ⟨Nat.le_of_ble_eq_true rfl, Nat.le_of_ble_eq_true rfl⟩ ⟨Nat.le_of_ble_eq_true rfl, Nat.le_of_ble_eq_true rfl⟩ ?_
    refine V_iconst dX5_beginOf_16 ?_
    refine V_iadd dX5_beginOf_17 ?_
    refine V_aload_n dX5_beginOf_18 rfl ?_
    refine V_iload_n dX5_beginOf_19 rfl ?_
    refine V_iconst dX5_beginOf_20 ?_
    refine V_isub dX5_beginOf_21 ?_
    refine V_iload_n dX5_beginOf_22 rfl ?_
    refine V_iconst dX5_beginOf_23 ?_
    refine V_iadd dX5_beginOf_24 ?_
    refine V_callVP dX5_beginOf_25 ml_RX5_44 km_X5_at kv_X5_at (c_X5_at (d := d - 1) (k := k + 1) hG (by omega) (by omega)) (by first | with_reducible assumption | rfl) rfl rfl rfl (Nat.le_of_ble_eq_true rfl) ⟨Nat.le_of_ble_eq_true rfl, Nat.le_of_ble_eq_true rfl⟩ ⟨Nat.le_of_ble_eq_true rfl, Nat.le_of_ble_eq_true rfl⟩ ?_
    refine V_mmax dX5_beginOf_28 ml_RX5_50 (by omega) (by omega) ⟨Nat.le_of_ble_eq_true rfl, Nat.le_of_ble_eq_true rfl, Nat.le_of_ble_eq_true rfl, Nat.le_of_ble_eq_true rfl⟩ ?_
    refine V_iret dX5_beginOf_31 rfl ⟨Nat.le_of_ble_eq_true rfl, Nat.le_of_ble_eq_true rfl⟩ ?_
    exact ⟨rfl, svi (by split <;> first | rfl | (exfalso; omega)), rfl, rfl⟩
  · refine V_iconst dX5_beginOf_4 ?_
    refine V_iret dX5_beginOf_5 rfl ⟨Nat.le_of_ble_eq_true rfl, Nat.le_of_ble_eq_true rfl⟩ ?_
    exact ⟨rfl, svi (by split <;> first | rfl | (exfalso; omega)), rfl, rfl⟩
set_option maxRecDepth 100000 in
theorem c_X5_isPutIn {d k : Int} (hG : Gr mr) (hd : -1000 ≤ d ∧ d ≤ 1000) (hk : -1000 ≤ k ∧ k ≤ 1000) (h1 : -10 ≤ rch mi (d - 1) (k - 1) ∧ rch mi (d - 1) (k - 1) ≤ 1000) (h2 : -10 ≤ rch mi (d - 1) (k + 1) ∧ rch mi (d - 1) (k + 1) ≤ 1000) : CP yX5_isPutIn cX5_isPutIn 3 (some .boolean) 2 SH mi mr [vr 35, vi d, vi k] (vi (if rch mi (d - 1) (k - 1) < rch mi (d - 1) (k + 1) then 1 else 0)) := by
  refine Ct.ofV (ini := false) [some (vr 35), some (vi d), some (vi k)] km_X5_isPutIn (by decide) rfl (Nat.le_of_ble_eq_true rfl) ?_
  refine V_aload_n dX5_isPutIn_0 rfl ?_
  refine V_iload_n dX5_isPutIn_1 rfl ?_
  refine V_iconst dX5_isPutIn_2 ?_
  refine V_isub dX5_isPutIn_3 ?_
  refine V_iload_n dX5_isPutIn_4 rfl ?_
  refine V_iconst dX5_isPutIn_5 ?_
  refine V_isub dX5_isPutIn_6 ?_
  refine V_callVP dX5_isPutIn_7 ml_RX5_44 km_X5_at kv_X5_at (c_X5_at (d := d - 1) (k := k - 1) hG (by omega) (by omega)) (by first | with_reducible assumption | rfl) rfl rfl rfl (Nat.le_of_ble_eq_true rfl) ⟨Nat.le_of_ble_eq_true rfl, Nat.le_of_ble_eq_true rfl⟩ ⟨Nat.le_of_ble_eq_true rfl, Nat.le_of_ble_eq_true rfl⟩ ?_
  refine V_aload_n dX5_isPutIn_10 rfl ?_
  refine V_iload_n dX5_isPutIn_11 rfl ?_
  refine V_iconst dX5_isPutIn_12 ?_
  refine V_isub dX5_isPutIn_13 ?_
  refine V_iload_n dX5_isPutIn_14 rfl ?_
  refine V_iconst dX5_isPutIn_15 ?_
  refine V_iadd dX5_isPutIn_16 ?_
  refine V_callVP dX5_isPutIn_17 ml_RX5_44 km_X5_at kv_X5_at (c_X5_at (d := d - 1) (k := k + 1) hG (by omega) (by omega)) (by first | with_reducible assumption | rfl) rfl rfl rfl (Nat.le_of_ble_eq_true rfl) ⟨Nat.le_of_ble_eq_true rfl, Nat.le_of_ble_eq_true rfl⟩ ⟨Nat.le_of_ble_eq_true rfl, Nat.le_of_ble_eq_true rfl⟩ ?_
  refine V_icmp_ge 27 dX5_isPutIn_20 (by decide) (by omega) (by omega) (fun h20 => ?_) (fun h20 => ?_)
  · refine V_iconst dX5_isPutIn_27 ?_
    refine V_zret dX5_isPutIn_28 rfl ⟨Nat.le_of_ble_eq_true rfl, Nat.le_of_ble_eq_true rfl⟩ (by first | exact Or.inl rfl | exact Or.inr rfl | omega) ?_
    exact ⟨rfl, svi (by split <;> first | rfl | (exfalso; omega)), rfl, rfl⟩
  · refine V_iconst dX5_isPutIn_23 ?_
    refine V_goto 28 dX5_isPutIn_24 (by decide) ?_
    refine V_zret dX5_isPutIn_28 rfl ⟨Nat.le_of_ble_eq_true rfl, Nat.le_of_ble_eq_true rfl⟩ (by first | exact Or.inl rfl | exact Or.inr rfl | omega) ?_
    exact ⟨rfl, svi (by split <;> first | rfl | (exfalso; omega)), rfl, rfl⟩
/-- what the triangle holds up to so many edits, and of the next ones up to a diagonal -/
def Rch (mi : MI) (A B : Int → Int) (d kk : Int) : Prop := ∀ d' k', lat d' k' → (d' < d ∨ (d' = d ∧ k' < kk)) → mi 36 (pl d' k') = fI A B d' k'
theorem rch_eq {A B : Int → Int} {d kk : Int} (h : Rch mi A B d kk) (d' k' : Int) (hd : d' < d) : rch mi d' k' = if lat d' k' then fI A B d' k' else -1 := by
  unfold rch
  by_cases hl : lat d' k'
  · rw [if_pos hl, if_pos hl, h d' k' hl (Or.inl hd)]
  · rw [if_neg hl, if_neg hl]
theorem rch_r (hA : NR n A) (hB : NR m B) {d kk : Int} (h : Rch mi A B d kk) (d' k' : Int) (hd : d' < d) : -1 ≤ rch mi d' k' ∧ rch mi d' k' ≤ 84 := by
  rw [rch_eq h d' k' hd]
  split
  · rename_i hl
    have := fI_rr hA hB d' k' hl.1
    omega
  · omega
/-- the greater of both is where one stands -/
theorem rch_begin (hA : NR n A) (hB : NR m B) {d kk k : Int} (h : Rch mi A B d kk) (hl : lat d k) : (if d ≤ 0 then 0 else max (rch mi (d - 1) (k - 1) + 1) (rch mi (d - 1) (k + 1))) = bI A B d k := by
  by_cases h0 : d ≤ 0
  · rw [if_pos h0]; unfold bI; rw [if_pos h0]
  · rw [if_neg h0, bI_pos (by omega), rch_eq h (d - 1) (k - 1) (by omega), rch_eq h (d - 1) (k + 1) (by omega)]
    have h1 := fI_rr hA hB (d - 1) (k - 1) (by omega)
    have h2 := fI_rr hA hB (d - 1) (k + 1) (by omega)
    by_cases e1 : k = -d
    · rw [if_neg (by omega), if_pos (by omega), if_pos (Or.inl e1)]; omega
    · by_cases e2 : k = d
      · rw [if_pos (by omega), if_neg (by omega), if_neg (by omega)]; omega
      · rw [if_pos (by omega), if_pos (by omega)]
        split <;> omega
theorem rch_put (hA : NR n A) (hB : NR m B) {d kk k : Int} (h : Rch mi A B d kk) (hl : lat d k) (h0 : 0 < d) : rch mi (d - 1) (k - 1) < rch mi (d - 1) (k + 1) ↔ (k = -d ∨ (k ≠ d ∧ fI A B (d - 1) (k - 1) < fI A B (d - 1) (k + 1))) := by
  rw [rch_eq h (d - 1) (k - 1) (by omega), rch_eq h (d - 1) (k + 1) (by omega)]
  have h1 := fI_rr hA hB (d - 1) (k - 1) (by omega)
  have h2 := fI_rr hA hB (d - 1) (k + 1) (by omega)
  by_cases e1 : k = -d
  · rw [if_neg (by omega), if_pos (by omega)]; omega
  · by_cases e2 : k = d
    · rw [if_pos (by omega), if_neg (by omega)]; omega
    · rw [if_pos (by omega), if_pos (by omega)]; omega
set_option maxRecDepth 100000 in
set_option maxHeartbeats 1000000 in
theorem l_X5_find {Q : PQ} (hA : NR n A) (hB : NR m B) (d : Int) (hd : 0 ≤ d ∧ d ≤ 56) (o5 : Option AV)
    (kk : ∀ (mi' : MI) (o4 o5 : Option AV), Rch mi' A B (d + 1) (-(d + 1)) → Now mi' mr f fb g gb n m A B → mi' 35 1 = d → (∀ x, x ≠ 35 → x ≠ 36 → mi' x = mi x) → V (RX5, cX5_find, 6, rm 3, false, none, none) Q 0 0 SH mi' mr [some (vr 35), some (vr 1), some (vi (n - m)), some (vi d), o4, o5] [] 75) :
    ∀ (t : Nat) (k : Int) (mi' : MI) (o5 : Option AV), -d ≤ k → (d + k) % 2 = 0 → k ≤ d + 2 → d + 2 - k < t → Rch mi' A B d k → Now mi' mr f fb g gb n m A B → mi' 35 1 = d → (∀ x, x ≠ 35 → x ≠ 36 → mi' x = mi x) → V (RX5, cX5_find, 6, rm 3, false, none, none) Q 0 0 SH mi' mr [some (vr 35), some (vr 1), some (vi (n - m)), some (vi d), some (vi k), o5] [] 33 := by
  intro t
  induction t with
  | zero => intro k mi' o5 h1 h2 h3 h4; omega
  | succ t ih =>
    intro k mi' o5 h1 h2 h3 h4 h5 h6 h7 h8
    have hG := h6.2.2.1
    have r1 := fun d' k' hd => rch_r hA hB h5 d' k' hd
    have r2 := r1 (d - 1) (k - 1) (by omega)
    have r3 := r1 (d - 1) (k + 1) (by omega)
    refine V_iload dX5_find_33 rfl ?_
    refine V_iload_n dX5_find_35 rfl ?_
    refine V_icmp_gt 75 dX5_find_36 (by decide) (by omega) (by omega) (fun h36 => ?_) (fun h36 => ?_)
    · refine kk mi' _ _ (fun d' k' hl hd' => ?_) h6 h7 h8
      exact h5 d' k' hl (by omega)
    · refine V_aload_n dX5_find_39 rfl ?_
      refine V_iload_n dX5_find_40 rfl ?_
      refine V_iload dX5_find_41 rfl ?_
      refine V_callVP dX5_find_43 ml_RX5_33 km_X5_beginOf kv_X5_beginOf (c_X5_beginOf (d := d) (k := k) hG (by omega) (by omega) (by omega) (by omega)) (by first | with_reducible assumption | rfl) rfl rfl rfl (Nat.le_of_ble_eq_true rfl) ⟨Nat.le_of_ble_eq_true rfl, Nat.le_of_ble_eq_true rfl⟩ ⟨Nat.le_of_ble_eq_true rfl, Nat.le_of_ble_eq_true rfl⟩ ?_
      have hl : lat d k := ⟨by omega, by omega, by omega, by omega, h2⟩
      rw [rch_begin hA hB h5 hl]
      have hb := bI_rr hA hB d k (by omega)
      refine S_istore (ls' := [_, _, _, _, _, _]) dX5_find_46 ⟨Nat.le_of_ble_eq_true rfl, rfl, rfl⟩ rfl ?_
      refine V_aload_n dX5_find_48 rfl ?_
      refine V_iload_n dX5_find_49 rfl ?_
      refine V_iload dX5_find_50 rfl ?_
      refine V_iload dX5_find_52 rfl ?_
      refine V_aload_n dX5_find_54 rfl ?_
      refine V_iload dX5_find_55 rfl ?_
      refine V_iload dX5_find_57 rfl ?_
      refine V_iload dX5_find_59 rfl ?_
      refine V_isub dX5_find_61 ?_
      refine V_callVP dX5_find_62 ml_RX5_37 km_X9_alikeFrom kv_X9_alikeFrom (c_X9_alikeFrom (x := bI A B d k) (y := bI A B d k - k) h6 (by omega) (by omega)) (by first | with_reducible assumption | rfl) rfl rfl rfl (Nat.le_of_ble_eq_true rfl) ⟨Nat.le_of_ble_eq_true rfl, Nat.le_of_ble_eq_true rfl⟩ ⟨Nat.le_of_ble_eq_true rfl, Nat.le_of_ble_eq_true rfl⟩ ?_
      refine V_iadd dX5_find_65 ?_
      refine V_callV0 dX5_find_66 ml_RX5_40 km_X5_put kv_X5_put (c_X5_put (d := d) (k := k) hG (by omega) (by omega)) (by first | with_reducible assumption | rfl) rfl rfl rfl (Nat.le_of_ble_eq_true rfl) ⟨Nat.le_of_ble_eq_true rfl, Nat.le_of_ble_eq_true rfl⟩ ⟨Nat.le_of_ble_eq_true rfl, Nat.le_of_ble_eq_true rfl⟩ ?_
      rintro mi2 mr2 ⟨rfl, rfl⟩
      rw [if_pos hl, ← fI_eq]
      refine S_iinc (ls' := [_, _, _, _, _, _]) dX5_find_69 rfl ⟨rfl, rfl⟩ rfl ?_
      refine V_goto 33 dX5_find_72 (by decide) ?_
      refine ih (k + 2) _ _ (by omega) (by omega) (by omega) (by omega) (fun d' k' hl' hd' => ?_) (h6.keep (fun x x1 x2 => up2_n _ _ _ (by omega))) (by rw [up2_n _ _ _ (by decide)]; exact h7) (fun x x1 x2 => by rw [up2_n _ _ _ x2]; exact h8 x x1 x2)
      by_cases he : d' = d ∧ k' = k
      · obtain ⟨rfl, rfl⟩ := he
        rw [up2_ss]
      · have hne : pl d' k' ≠ pl d k := fun e => he (pl_inj hl' hl e)
        rw [up2_sn _ _ _ hne]
        exact h5 d' k' hl' (by omega)
set_option maxRecDepth 100000 in
set_option maxHeartbeats 1000000 in
theorem c_X5_find {D : Int} (hN : Now mi mr f fb g gb n m A B) (hD : isD n m A B D) : C0 yX5_find cX5_find 6 none 3 SH mi mr [vr 35, vr 1] (fun mi' mr' => mr' = mr ∧ mi' 35 1 = D ∧ Rch mi' A B (D + 1) (-(D + 1)) ∧ ∀ x, x ≠ 35 → x ≠ 36 → mi' x = mi x) := by
  have hA := hN.2.2.2.2.2.2.1
  have hB := hN.2.2.2.2.2.2.2
  have hnn := isD_nn hD
  obtain ⟨⟨u1, u2, hG⟩, ⟨u4, u5, u6⟩, ⟨u7, u8, u9⟩, ⟨u10, u11, u12⟩, -⟩ := hN.u
  have loop : ∀ (t : Nat) (d : Int) (mi' : MI) (o4 o5 : Option AV), 0 ≤ d → d ≤ D → D - d < t → Rch mi' A B d (-d) → Now mi' mr f fb g gb n m A B → (∀ x, x ≠ 35 → x ≠ 36 → mi' x = mi x) → V (RX5, cX5_find, 6, rm 3, false, none, none) (fun r sh' mi' mr' => sh' = SH ∧ r = none ∧ mr' = mr ∧ mi' 35 1 = D ∧ Rch mi' A B (D + 1) (-(D + 1)) ∧ ∀ x, x ≠ 35 → x ≠ 36 → mi' x = mi x) 0 0 SH mi' mr [some (vr 35), some (vr 1), some (vi (n - m)), some (vi d), o4, o5] [] 18 := by
    intro t
    induction t with
    | zero => intro d mi' o4 o5 h1 h2 h3; omega
    | succ t ih =>
      intro d mi' o4 o5 h1 h2 h3 h4 h5 h6
      refine V_iload_n dX5_find_18 rfl ?_
      refine V_bipush dX5_find_19 (by decide) ?_
      refine V_icmp_gt 98 dX5_find_21 (by decide) (by omega) (by omega) (fun h21 => ?_) (fun h21 => ?_)
      · omega
      · refine V_aload_n dX5_find_24 rfl ?_
        refine V_iload_n dX5_find_25 rfl ?_
        refine V_puti 1 dX5_find_26 fl_RX5_30 (by first | with_reducible assumption | rfl) rfl rfl rfl ?_
        refine V_iload_n dX5_find_29 rfl ?_
        refine V_ineg dX5_find_30 ?_
        refine S_istore (ls' := [_, _, _, _, _, _]) dX5_find_31 ⟨Nat.le_of_ble_eq_true rfl, rfl, rfl⟩ rfl ?_
        refine l_X5_find (mi := mi) hA hB d (by omega) o5 (fun mi2 o4 o5 g1 g2 g3 g4 => ?_) (2 * d + 3).toNat (-d) _ o5 (by omega) (by omega) (by omega) (by omega) (fun d' k' hl hd' => ?_) (h5.keep (fun x x1 x2 => up2_n _ _ _ (by omega))) (by rw [up2_ss]) (fun x x1 x2 => by rw [up2_n _ _ _ x1]; exact h6 x x1 x2)
        · have hf := hD.2.2
          have rr := rch_r hA hB g1 d (n - m) (by omega)
          have re := rch_eq g1 d (n - m) (by omega)
          obtain ⟨⟨v1, v2, v3⟩, ⟨v4, v5, v6⟩, ⟨v7, v8, v9⟩, ⟨v10, v11, v12⟩, -⟩ := g2.u
          refine V_aload_n dX5_find_75 rfl ?_
          refine V_iload_n dX5_find_76 rfl ?_
          refine V_iload_n dX5_find_77 rfl ?_
          refine V_callVP dX5_find_78 ml_RX5_44 km_X5_at kv_X5_at (c_X5_at (d := d) (k := n - m) hG (by omega) (by omega)) (by first | with_reducible assumption | rfl) rfl rfl rfl (Nat.le_of_ble_eq_true rfl) ⟨Nat.le_of_ble_eq_true rfl, Nat.le_of_ble_eq_true rfl⟩ ⟨Nat.le_of_ble_eq_true rfl, Nat.le_of_ble_eq_true rfl⟩ ?_
          refine V_aload_n dX5_find_81 rfl ?_
          refine V_getr 0 _ dX5_find_82 fl_RX5_15 (by first | with_reducible assumption | rfl) rfl rfl (by first | with_reducible assumption | exact hG.at rfl) ?_
          refine V_geti 1 dX5_find_85 fl_RX5_21 (by first | with_reducible assumption | rfl) rfl rfl ?_
          refine V_icmp_lt 92 dX5_find_88 (by decide) (by omega) (by omega) (fun h88 => ?_) (fun h88 => ?_)
          · have hnh : d ≠ D := fun e => by
              subst e
              have hh := hD.2.1
              unfold hit at hh
              rw [if_pos ⟨by omega, by omega, by omega, by omega, by omega⟩] at re
              omega
            refine S_iinc (ls' := [_, _, _, _, _, _]) dX5_find_92 rfl ⟨rfl, rfl⟩ rfl ?_
            refine V_goto 18 dX5_find_95 (by decide) ?_
            exact ih (d + 1) mi2 _ _ (by omega) (by omega) (by omega) (fun d' k' hl hd' => g1 d' k' hl (by omega)) g2 g4
          · have he : d = D := by
              by_cases hl : lat d (n - m)
              · rw [if_pos hl] at re
                by_cases hlt : d < D
                · refine absurd ?_ (hf d hlt)
                  exact ⟨by omega, by omega, by omega, by omega, by omega⟩
                · omega
              · rw [if_neg hl] at re
                omega
            refine V_vret dX5_find_91 rfl ⟨Nat.le_of_ble_eq_true rfl, Nat.le_of_ble_eq_true rfl⟩ ?_
            exact ⟨rfl, rfl, rfl, by rw [← he]; exact g3, by rw [← he]; exact g1, g4⟩
        · rw [up2_n _ _ _ (by decide)]
          exact h4 d' k' hl hd'
  refine Ct.ofV (ini := false) [some (vr 35), some (vr 1), none, none, none, none] km_X5_find (by decide) rfl (Nat.le_of_ble_eq_true rfl) ?_
  refine V_aload_n dX5_find_0 rfl ?_
  refine V_getr 0 _ dX5_find_1 fl_RX5_15 (by first | with_reducible assumption | rfl) rfl rfl (by first | with_reducible assumption | exact hG.at rfl) ?_
  refine V_geti 1 dX5_find_4 fl_RX5_21 (by first | with_reducible assumption | rfl) rfl rfl ?_
  rw [u10]
  refine V_aload_n dX5_find_7 rfl ?_
  refine V_getr 1 _ dX5_find_8 fl_RX5_27 (by first | with_reducible assumption | rfl) rfl rfl (by first | with_reducible assumption | exact hG.at rfl) ?_
  refine V_geti 1 dX5_find_11 fl_RX5_21 (by first | with_reducible assumption | rfl) rfl rfl ?_
  rw [u11]
  refine V_isub dX5_find_14 ?_
  refine S_istore_n (ls' := [_, _, _, _, _, _]) dX5_find_15 ⟨Nat.le_of_ble_eq_true rfl, rfl, rfl⟩ rfl ?_
  refine V_iconst dX5_find_16 ?_
  refine S_istore_n (ls' := [_, _, _, _, _, _]) dX5_find_17 ⟨Nat.le_of_ble_eq_true rfl, rfl, rfl⟩ rfl ?_
  exact loop (D + 1).toNat 0 mi none none (by omega) (by omega) (by omega) (fun d' k' hl hd' => by omega) hN (fun _ _ _ => rfl)
end REACHES
