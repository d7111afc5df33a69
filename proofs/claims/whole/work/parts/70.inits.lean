/-! ===== constructors ===== -/
theorem fp_RX0_9 : Cond.fieldLink RX0 9 RX0 (TX0 0).2.1 (TX0 0).2.2.1 ∈ WS := memT 157 (by decide +kernel) (by decide +kernel)
theorem fp_RX0_15 : Cond.fieldLink RX0 15 RX0 (TX0 1).2.1 (TX0 1).2.2.1 ∈ WS := memT 158 (by decide +kernel) (by decide +kernel)
theorem fp_RX0_18 : Cond.fieldLink RX0 18 RX0 (TX0 2).2.1 (TX0 2).2.2.1 ∈ WS := memT 159 (by decide +kernel) (by decide +kernel)
theorem fp_RX10_12 : Cond.fieldLink RX10 12 RX10 (TX10 0).2.1 (TX10 0).2.2.1 ∈ WS := memT 238 (by decide +kernel) (by decide +kernel)
theorem fp_RX10_19 : Cond.fieldLink RX10 19 RX10 (TX10 1).2.1 (TX10 1).2.2.1 ∈ WS := memT 239 (by decide +kernel) (by decide +kernel)
theorem fp_RX10_28 : Cond.fieldLink RX10 28 RX10 (TX10 2).2.1 (TX10 2).2.2.1 ∈ WS := memT 240 (by decide +kernel) (by decide +kernel)
theorem fp_RX10_35 : Cond.fieldLink RX10 35 RX10 (TX10 3).2.1 (TX10 3).2.2.1 ∈ WS := memT 241 (by decide +kernel) (by decide +kernel)
theorem fp_RX10_42 : Cond.fieldLink RX10 42 RX10 (TX10 4).2.1 (TX10 4).2.2.1 ∈ WS := memT 242 (by decide +kernel) (by decide +kernel)
theorem fp_RX10_46 : Cond.fieldLink RX10 46 RX10 (TX10 5).2.1 (TX10 5).2.2.1 ∈ WS := memT 243 (by decide +kernel) (by decide +kernel)
theorem fp_RX10_52 : Cond.fieldLink RX10 52 RX10 (TX10 6).2.1 (TX10 6).2.2.1 ∈ WS := memT 244 (by decide +kernel) (by decide +kernel)
theorem fp_RX10_59 : Cond.fieldLink RX10 59 RX10 (TX10 7).2.1 (TX10 7).2.2.1 ∈ WS := memT 245 (by decide +kernel) (by decide +kernel)
theorem fp_RX10_66 : Cond.fieldLink RX10 66 RX10 (TX10 8).2.1 (TX10 8).2.2.1 ∈ WS := memT 246 (by decide +kernel) (by decide +kernel)
theorem fp_RX10_73 : Cond.fieldLink RX10 73 RX10 (TX10 9).2.1 (TX10 9).2.2.1 ∈ WS := memT 247 (by decide +kernel) (by decide +kernel)
theorem fp_RX11_7 : Cond.fieldLink RX11 7 RX11 (TX11 0).2.1 (TX11 0).2.2.1 ∈ WS := memT 668 (by decide +kernel) (by decide +kernel)
theorem fp_RX11_13 : Cond.fieldLink RX11 13 RX11 (TX11 1).2.1 (TX11 1).2.2.1 ∈ WS := memT 669 (by decide +kernel) (by decide +kernel)
theorem fp_RX11_16 : Cond.fieldLink RX11 16 RX11 (TX11 2).2.1 (TX11 2).2.2.1 ∈ WS := memT 670 (by decide +kernel) (by decide +kernel)
theorem fp_RX11_19 : Cond.fieldLink RX11 19 RX11 (TX11 4).2.1 (TX11 4).2.2.1 ∈ WS := memT 672 (by decide +kernel) (by decide +kernel)
theorem fp_RX11_23 : Cond.fieldLink RX11 23 RX11 (TX11 10).2.1 (TX11 10).2.2.1 ∈ WS := memT 678 (by decide +kernel) (by decide +kernel)
theorem fp_RX11_26 : Cond.fieldLink RX11 26 RX11 (TX11 12).2.1 (TX11 12).2.2.1 ∈ WS := memT 680 (by decide +kernel) (by decide +kernel)
theorem fp_RX11_29 : Cond.fieldLink RX11 29 RX11 (TX11 14).2.1 (TX11 14).2.2.1 ∈ WS := memT 682 (by decide +kernel) (by decide +kernel)
theorem fp_RX11_32 : Cond.fieldLink RX11 32 RX11 (TX11 15).2.1 (TX11 15).2.2.1 ∈ WS := memT 683 (by decide +kernel) (by decide +kernel)
theorem fp_RX11_36 : Cond.fieldLink RX11 36 RX11 (TX11 16).2.1 (TX11 16).2.2.1 ∈ WS := memT 684 (by decide +kernel) (by decide +kernel)
theorem fp_RX11_39 : Cond.fieldLink RX11 39 RX11 (TX11 18).2.1 (TX11 18).2.2.1 ∈ WS := memT 686 (by decide +kernel) (by decide +kernel)
theorem fp_RX11_42 : Cond.fieldLink RX11 42 RX11 (TX11 19).2.1 (TX11 19).2.2.1 ∈ WS := memT 687 (by decide +kernel) (by decide +kernel)
theorem fp_RX11_45 : Cond.fieldLink RX11 45 RX11 (TX11 22).2.1 (TX11 22).2.2.1 ∈ WS := memT 690 (by decide +kernel) (by decide +kernel)
theorem fp_RX1_12 : Cond.fieldLink RX1 12 RX1 (TX1 0).2.1 (TX1 0).2.2.1 ∈ WS := memT 188 (by decide +kernel) (by decide +kernel)
theorem fp_RX1_18 : Cond.fieldLink RX1 18 RX1 (TX1 1).2.1 (TX1 1).2.2.1 ∈ WS := memT 189 (by decide +kernel) (by decide +kernel)
theorem fp_RX1_21 : Cond.fieldLink RX1 21 RX1 (TX1 2).2.1 (TX1 2).2.2.1 ∈ WS := memT 190 (by decide +kernel) (by decide +kernel)
theorem fp_RX2_9 : Cond.fieldLink RX2 9 RX2 (TX2 0).2.1 (TX2 0).2.2.1 ∈ WS := memT 183 (by decide +kernel) (by decide +kernel)
theorem fp_RX3_11 : Cond.fieldLink RX3 11 RX3 (TX3 0).2.1 (TX3 0).2.2.1 ∈ WS := memT 81 (by decide +kernel) (by decide +kernel)
theorem fp_RX4_9 : Cond.fieldLink RX4 9 RX4 (TX4 0).2.1 (TX4 0).2.2.1 ∈ WS := memT 137 (by decide +kernel) (by decide +kernel)
theorem fp_RX4_15 : Cond.fieldLink RX4 15 RX4 (TX4 1).2.1 (TX4 1).2.2.1 ∈ WS := memT 138 (by decide +kernel) (by decide +kernel)
theorem fp_RX4_18 : Cond.fieldLink RX4 18 RX4 (TX4 2).2.1 (TX4 2).2.2.1 ∈ WS := memT 139 (by decide +kernel) (by decide +kernel)
theorem fp_RX5_9 : Cond.fieldLink RX5 9 RX5 (TX5 0).2.1 (TX5 0).2.2.1 ∈ WS := memT 97 (by decide +kernel) (by decide +kernel)
theorem fp_RX6_14 : Cond.fieldLink RX6 14 RX6 (TX6 0).2.1 (TX6 0).2.2.1 ∈ WS := memT 218 (by decide +kernel) (by decide +kernel)
theorem fp_RX7_15 : Cond.fieldLink RX7 15 RX7 (TX7 0).2.1 (TX7 0).2.2.1 ∈ WS := memT 37 (by decide +kernel) (by decide +kernel)
theorem fp_RX8_9 : Cond.fieldLink RX8 9 RX8 (TX8 0).2.1 (TX8 0).2.2.1 ∈ WS := memT 112 (by decide +kernel) (by decide +kernel)
theorem fp_RX8_15 : Cond.fieldLink RX8 15 RX8 (TX8 1).2.1 (TX8 1).2.2.1 ∈ WS := memT 113 (by decide +kernel) (by decide +kernel)
theorem fp_RX8_18 : Cond.fieldLink RX8 18 RX8 (TX8 2).2.1 (TX8 2).2.2.1 ∈ WS := memT 114 (by decide +kernel) (by decide +kernel)
theorem fp_RX8_21 : Cond.fieldLink RX8 21 RX8 (TX8 3).2.1 (TX8 3).2.2.1 ∈ WS := memT 115 (by decide +kernel) (by decide +kernel)
theorem fp_RX9_23 : Cond.fieldLink RX9 23 RX9 (TX9 2).2.1 (TX9 2).2.2.1 ∈ WS := memT 63 (by decide +kernel) (by decide +kernel)
theorem gA {α : Type} {sh l : List α} {a : Nat} {x : α} (h : sh[a]? = some x) : (sh ++ l)[a]? = some x := by
  rw [List.getElem?_append_left (lt_of_get h)]
  exact h
theorem gN {α : Type} {sh : List α} {x : α} : (sh ++ [x])[sh.length]? = some x := by simp
/-- a field with a made array; a field with a made object of one array; fields with arrays -/
def rF (a z : Nat) (j : Int) (m : MR) : MR := up2 (zm m z none) a j (some z)
def rG (a z : Nat) (j : Int) (m : MR) : MR := up2 (up2 (zm (zm m z none) (z + 1) none) z 0 (some (z + 1))) a j (some z)
def iZ (z : Nat) : Nat → MI → MI
  | 0, m => m
  | k + 1, m => zm (iZ z k m) (z + k) 0
def sState : ShT := [.inl 7, .inr (0, 28), .inl 7, .inr (0, 28), .inr (0, 3)]
def rState (a z : Nat) (m : MR) : MR := rF a (z + 4) 2 (rG a (z + 2) 1 (rG a z 0 m))
def iState (z : Nat) (m : MI) : MI := up2 (up2 (up2 (iZ z 5 m) (z + 4) 0 (svF 2 0)) (z + 4) 1 (svF 2 1)) (z + 4) 2 (svF 2 2)
def rHs (z s : Nat) (i : Int) (m : MR) : MR := up2 (rState s (s + 1) (zm m s none)) z i (some s)
def iHs (s : Nat) (m : MI) : MI := iState (s + 1) (zm m s 0)
def sHist : ShT := [.inr (3, 4), .inl 9, .inl 7, .inr (0, 28), .inl 7, .inr (0, 28), .inr (0, 3), .inl 9, .inl 7, .inr (0, 28), .inl 7, .inr (0, 28), .inr (0, 3), .inl 9, .inl 7, .inr (0, 28), .inl 7, .inr (0, 28), .inr (0, 3), .inl 9, .inl 7, .inr (0, 28), .inl 7, .inr (0, 28), .inr (0, 3)]
def rHist (a z : Nat) (m : MR) : MR := rHs z (z + 19) 3 (rHs z (z + 13) 2 (rHs z (z + 7) 1 (rHs z (z + 1) 0 (rF a z 0 m))))
def iHist (z : Nat) (m : MI) : MI := iHs (z + 19) (iHs (z + 13) (iHs (z + 7) (iHs (z + 1) (zm m z 0))))
section INITS
variable {mi : MI} {mr : MR} {sh : ShT} {a : Nat}
abbrev CI (y : MethodName) (b : ByteArray) (nL d c s : Nat) (sh : ShT) (mi : MI) (mr : MR) (As : List AV) (sh2 : ShT) (mi2 : MI) (mr2 : MR) : Prop := Ct y (wsM y b nL none) (rmc d c s) sh mi mr As (fun r sh' mi' mr' => r = none ∧ sh' = sh ++ sh2 ∧ mi' = mi2 ∧ mr' = mr2)
set_option maxRecDepth 100000 in
set_option maxHeartbeats 1000000 in
theorem c_X7_init_28 (hs : sh[a]? = some (.inl 7)) (hz : sh.length < 990) : CI yX7_init cX7_init 2 1 1 28 sh mi mr [vr a, vi 28] [.inr (0, 28)] (zm mi sh.length 0) (rF a sh.length 0 mr) := by
  have ha := lt_of_get hs
  refine Ct.ofV (ini := true) [some (vr a), some (vi 28)] km_X7_init (by decide) rfl (Nat.le_of_ble_eq_true rfl) ?_
  refine V_aload_n dX7_init_0 rfl ?_
  refine V_oinit dX7_init_1 ml_RX7_3 ⟨Nat.le_of_ble_eq_true rfl, Nat.le_of_ble_eq_true rfl⟩ ?_
  refine V_aload_n dX7_init_4 rfl ?_
  refine V_iload_n dX7_init_5 rfl ?_
  refine V_iconst dX7_init_6 ?_
  refine V_mmax dX7_init_7 ml_RX7_9 (by omega) (by omega) ⟨Nat.le_of_ble_eq_true rfl, Nat.le_of_ble_eq_true rfl, Nat.le_of_ble_eq_true rfl, Nat.le_of_ble_eq_true rfl⟩ ?_
  rw [show max (28 : Int) 0 = ((28 : Nat) : Int) by decide]
  refine V_newa dX7_init_10 (t := 0) (N := 28) ⟨rfl, Or.inl rfl⟩ ac_int (rfl) (by decide) (by (try simp [sState, sHist]) <;> omega) (by (try simp [okl, oklo, sState, sHist]) <;> omega) ⟨Nat.le_of_ble_eq_true rfl, Nat.le_of_ble_eq_true rfl⟩ ?_
  refine V_putF 0 dX7_init_12 rfl fl_RX7_15 fp_RX7_15 (by repeat first | with_reducible exact hs | with_reducible exact gN | with_reducible apply gA) rfl rfl rfl rfl (by (try simp [sState, sHist]) <;> omega) ?_
  refine V_vret dX7_init_15 rfl ⟨Nat.le_of_ble_eq_true rfl, Nat.le_of_ble_eq_true rfl⟩ ?_
  exact ⟨rfl, by simp, by simp, by simp [rF]⟩
set_option maxRecDepth 100000 in
set_option maxHeartbeats 1000000 in
theorem c_X7_init_60 (hs : sh[a]? = some (.inl 7)) (hz : sh.length < 990) : CI yX7_init cX7_init 2 1 1 60 sh mi mr [vr a, vi 60] [.inr (0, 60)] (zm mi sh.length 0) (rF a sh.length 0 mr) := by
  have ha := lt_of_get hs
  refine Ct.ofV (ini := true) [some (vr a), some (vi 60)] km_X7_init (by decide) rfl (Nat.le_of_ble_eq_true rfl) ?_
  refine V_aload_n dX7_init_0 rfl ?_
  refine V_oinit dX7_init_1 ml_RX7_3 ⟨Nat.le_of_ble_eq_true rfl, Nat.le_of_ble_eq_true rfl⟩ ?_
  refine V_aload_n dX7_init_4 rfl ?_
  refine V_iload_n dX7_init_5 rfl ?_
  refine V_iconst dX7_init_6 ?_
  refine V_mmax dX7_init_7 ml_RX7_9 (by omega) (by omega) ⟨Nat.le_of_ble_eq_true rfl, Nat.le_of_ble_eq_true rfl, Nat.le_of_ble_eq_true rfl, Nat.le_of_ble_eq_true rfl⟩ ?_
  rw [show max (60 : Int) 0 = ((60 : Nat) : Int) by decide]
  refine V_newa dX7_init_10 (t := 0) (N := 60) ⟨rfl, Or.inl rfl⟩ ac_int (rfl) (by decide) (by (try simp [sState, sHist]) <;> omega) (by (try simp [okl, oklo, sState, sHist]) <;> omega) ⟨Nat.le_of_ble_eq_true rfl, Nat.le_of_ble_eq_true rfl⟩ ?_
  refine V_putF 0 dX7_init_12 rfl fl_RX7_15 fp_RX7_15 (by repeat first | with_reducible exact hs | with_reducible exact gN | with_reducible apply gA) rfl rfl rfl rfl (by (try simp [sState, sHist]) <;> omega) ?_
  refine V_vret dX7_init_15 rfl ⟨Nat.le_of_ble_eq_true rfl, Nat.le_of_ble_eq_true rfl⟩ ?_
  exact ⟨rfl, by simp, by simp, by simp [rF]⟩
set_option maxRecDepth 100000 in
set_option maxHeartbeats 1000000 in
theorem c_X7_init_168 (hs : sh[a]? = some (.inl 7)) (hz : sh.length < 990) : CI yX7_init cX7_init 2 1 1 168 sh mi mr [vr a, vi 168] [.inr (0, 168)] (zm mi sh.length 0) (rF a sh.length 0 mr) := by
  have ha := lt_of_get hs
  refine Ct.ofV (ini := true) [some (vr a), some (vi 168)] km_X7_init (by decide) rfl (Nat.le_of_ble_eq_true rfl) ?_
  refine V_aload_n dX7_init_0 rfl ?_
  refine V_oinit dX7_init_1 ml_RX7_3 ⟨Nat.le_of_ble_eq_true rfl, Nat.le_of_ble_eq_true rfl⟩ ?_
  refine V_aload_n dX7_init_4 rfl ?_
  refine V_iload_n dX7_init_5 rfl ?_
  refine V_iconst dX7_init_6 ?_
  refine V_mmax dX7_init_7 ml_RX7_9 (by omega) (by omega) ⟨Nat.le_of_ble_eq_true rfl, Nat.le_of_ble_eq_true rfl, Nat.le_of_ble_eq_true rfl, Nat.le_of_ble_eq_true rfl⟩ ?_
  rw [show max (168 : Int) 0 = ((168 : Nat) : Int) by decide]
  refine V_newa dX7_init_10 (t := 0) (N := 168) ⟨rfl, Or.inl rfl⟩ ac_int (rfl) (by decide) (by (try simp [sState, sHist]) <;> omega) (by (try simp [okl, oklo, sState, sHist]) <;> omega) ⟨Nat.le_of_ble_eq_true rfl, Nat.le_of_ble_eq_true rfl⟩ ?_
  refine V_putF 0 dX7_init_12 rfl fl_RX7_15 fp_RX7_15 (by repeat first | with_reducible exact hs | with_reducible exact gN | with_reducible apply gA) rfl rfl rfl rfl (by (try simp [sState, sHist]) <;> omega) ?_
  refine V_vret dX7_init_15 rfl ⟨Nat.le_of_ble_eq_true rfl, Nat.le_of_ble_eq_true rfl⟩ ?_
  exact ⟨rfl, by simp, by simp, by simp [rF]⟩
set_option maxRecDepth 100000 in
set_option maxHeartbeats 1000000 in
theorem c_X9_init (hs : sh[a]? = some (.inl 9)) (hz : sh.length < 980) : CI yX9_init cX9_init 2 2 5 63 sh mi mr [vr a] sState (iState sh.length mi) (rState a sh.length mr) := by
  have ha := lt_of_get hs
  refine Ct.ofV (ini := true) [some (vr a), none] km_X9_init (by decide) rfl (Nat.le_of_ble_eq_true rfl) ?_
  refine V_aload_n dX9_init_0 rfl ?_
  refine V_oinit dX9_init_1 ml_RX9_3 ⟨Nat.le_of_ble_eq_true rfl, Nat.le_of_ble_eq_true rfl⟩ ?_
  refine V_aload_n dX9_init_4 rfl ?_
  refine V_new dX9_init_5 (ci := 7) rfl cl_RX9_9 in_RX7 it_RX7 uX7 (by (try simp [sState, sHist]) <;> omega) (by (try simp [okl, oklo, sState, sHist]) <;> omega) ⟨Nat.le_of_ble_eq_true rfl, Nat.le_of_ble_eq_true rfl⟩ ?_
  refine V_dup dX9_init_8 rfl ?_
  refine V_bipush dX9_init_9 (by decide) ?_
  refine V_callI dX9_init_11 ml_RX9_11 km_X7_init ki_X7_init (c_X7_init_28 gN (by (try simp) <;> omega)) rfl rfl (Nat.le_of_ble_eq_true rfl) (by (try simp [okn, sState, sHist]) <;> omega) ⟨Nat.le_of_ble_eq_true rfl, Nat.le_of_ble_eq_true rfl⟩ ⟨Nat.le_of_ble_eq_true rfl, Nat.le_of_ble_eq_true rfl⟩ ?_
  rintro r sh1 mi1 mr1 ⟨rfl, rfl, rfl, rfl⟩
  refine V_putr 0 dX9_init_14 fl_RX9_14 (by repeat first | with_reducible exact hs | with_reducible exact gN | with_reducible apply gA) rfl rfl rfl (by (try simp [sState, sHist]) <;> omega) ?_
  refine V_aload_n dX9_init_17 rfl ?_
  refine V_new dX9_init_18 (ci := 7) rfl cl_RX9_9 in_RX7 it_RX7 uX7 (by (try simp [sState, sHist]) <;> omega) (by (try simp [okl, oklo, sState, sHist]) <;> omega) ⟨Nat.le_of_ble_eq_true rfl, Nat.le_of_ble_eq_true rfl⟩ ?_
  refine V_dup dX9_init_21 rfl ?_
  refine V_bipush dX9_init_22 (by decide) ?_
  refine V_callI dX9_init_24 ml_RX9_11 km_X7_init ki_X7_init (c_X7_init_28 gN (by (try simp) <;> omega)) rfl rfl (Nat.le_of_ble_eq_true rfl) (by (try simp [okn, sState, sHist]) <;> omega) ⟨Nat.le_of_ble_eq_true rfl, Nat.le_of_ble_eq_true rfl⟩ ⟨Nat.le_of_ble_eq_true rfl, Nat.le_of_ble_eq_true rfl⟩ ?_
  rintro r sh1 mi1 mr1 ⟨rfl, rfl, rfl, rfl⟩
  refine V_putr 1 dX9_init_27 fl_RX9_20 (by repeat first | with_reducible exact hs | with_reducible exact gN | with_reducible apply gA) rfl rfl rfl (by (try simp [sState, sHist]) <;> omega) ?_
  refine V_aload_n dX9_init_30 rfl ?_
  refine V_iconst dX9_init_31 ?_
  refine V_newa dX9_init_32 (t := 0) (N := 3) ⟨rfl, Or.inl rfl⟩ ac_int (rfl) (by decide) (by (try simp [sState, sHist]) <;> omega) (by (try simp [okl, oklo, sState, sHist]) <;> omega) ⟨Nat.le_of_ble_eq_true rfl, Nat.le_of_ble_eq_true rfl⟩ ?_
  refine V_putF 2 dX9_init_34 rfl fl_RX9_23 fp_RX9_23 (by repeat first | with_reducible exact hs | with_reducible exact gN | with_reducible apply gA) rfl rfl rfl rfl (by (try simp [sState, sHist]) <;> omega) ?_
  refine V_iconst dX9_init_37 ?_
  refine S_istore_n (ls' := [_, _]) dX9_init_38 ⟨Nat.le_of_ble_eq_true rfl, rfl, rfl⟩ rfl ?_
  refine V_iload_n dX9_init_39 rfl ?_
  refine V_iconst dX9_init_40 ?_
  refine V_icmp_ge 61 dX9_init_41 (by decide) (by omega) (by omega) (fun h41 => absurd h41 ((by decide))) (fun _ => ?_)
  refine V_aload_n dX9_init_44 rfl ?_
  refine V_getr 2 _ dX9_init_45 fl_RX9_23 (by repeat first | with_reducible exact hs | with_reducible exact gN | with_reducible apply gA) rfl rfl (by exact up2_ss _ _ _ _) ?_
  refine V_iload_n dX9_init_48 rfl ?_
  refine V_gets 2 (by decide) dX9_init_49 (Or.inr ⟨"DiagonalTexts", sl_RX9_27⟩) ?_
  refine V_iload_n dX9_init_52 rfl ?_
  refine V_stld (by decide) dX9_init_53 (by omega) ?_
  refine V_iast dX9_init_54 (by repeat first | with_reducible exact hs | with_reducible exact gN | with_reducible apply gA) (by decide) (by omega) ?_
  refine S_iinc (ls' := [_, _]) dX9_init_55 rfl ⟨rfl, rfl⟩ rfl ?_
  refine V_goto 39 dX9_init_58 (by decide) ?_
  refine V_iload_n dX9_init_39 rfl ?_
  refine V_iconst dX9_init_40 ?_
  refine V_icmp_ge 61 dX9_init_41 (by decide) (by omega) (by omega) (fun h41 => absurd h41 ((by decide))) (fun _ => ?_)
  refine V_aload_n dX9_init_44 rfl ?_
  refine V_getr 2 _ dX9_init_45 fl_RX9_23 (by repeat first | with_reducible exact hs | with_reducible exact gN | with_reducible apply gA) rfl rfl (by exact up2_ss _ _ _ _) ?_
  refine V_iload_n dX9_init_48 rfl ?_
  refine V_gets 2 (by decide) dX9_init_49 (Or.inr ⟨"DiagonalTexts", sl_RX9_27⟩) ?_
  refine V_iload_n dX9_init_52 rfl ?_
  refine V_stld (by decide) dX9_init_53 (by omega) ?_
  refine V_iast dX9_init_54 (by repeat first | with_reducible exact hs | with_reducible exact gN | with_reducible apply gA) (by decide) (by omega) ?_
  refine S_iinc (ls' := [_, _]) dX9_init_55 rfl ⟨rfl, rfl⟩ rfl ?_
  refine V_goto 39 dX9_init_58 (by decide) ?_
  refine V_iload_n dX9_init_39 rfl ?_
  refine V_iconst dX9_init_40 ?_
  refine V_icmp_ge 61 dX9_init_41 (by decide) (by omega) (by omega) (fun h41 => absurd h41 ((by decide))) (fun _ => ?_)
  refine V_aload_n dX9_init_44 rfl ?_
  refine V_getr 2 _ dX9_init_45 fl_RX9_23 (by repeat first | with_reducible exact hs | with_reducible exact gN | with_reducible apply gA) rfl rfl (by exact up2_ss _ _ _ _) ?_
  refine V_iload_n dX9_init_48 rfl ?_
  refine V_gets 2 (by decide) dX9_init_49 (Or.inr ⟨"DiagonalTexts", sl_RX9_27⟩) ?_
  refine V_iload_n dX9_init_52 rfl ?_
  refine V_stld (by decide) dX9_init_53 (by omega) ?_
  refine V_iast dX9_init_54 (by repeat first | with_reducible exact hs | with_reducible exact gN | with_reducible apply gA) (by decide) (by omega) ?_
  refine S_iinc (ls' := [_, _]) dX9_init_55 rfl ⟨rfl, rfl⟩ rfl ?_
  refine V_goto 39 dX9_init_58 (by decide) ?_
  refine V_iload_n dX9_init_39 rfl ?_
  refine V_iconst dX9_init_40 ?_
  refine V_icmp_ge 61 dX9_init_41 (by decide) (by omega) (by omega) (fun _ => ?_) (fun h41 => absurd h41 ((by decide)))
  refine V_vret dX9_init_61 rfl ⟨Nat.le_of_ble_eq_true rfl, Nat.le_of_ble_eq_true rfl⟩ ?_
  exact ⟨rfl, by simp [sState], by simp [iState, iZ], by simp [rState, rF, rG]⟩
set_option maxRecDepth 100000 in
set_option maxHeartbeats 1000000 in
theorem c_X3_init (hs : sh[a]? = some (.inl 3)) (hz : sh.length < 800) : CI yX3_init cX3_init 2 3 25 268 sh mi mr [vr a] sHist (iHist sh.length mi) (rHist a sh.length mr) := by
  have ha := lt_of_get hs
  have hn0 : ¬ a = sh.length := by omega
  have hnk : ∀ k, ¬ a = sh.length + k := fun k => by omega
  have hmk : ∀ k, ¬ sh.length + k = a := fun k => by omega
  refine Ct.ofV (ini := true) [some (vr a), none] km_X3_init (by decide) rfl (Nat.le_of_ble_eq_true rfl) ?_
  refine V_aload_n dX3_init_0 rfl ?_
  refine V_oinit dX3_init_1 ml_RX3_3 ⟨Nat.le_of_ble_eq_true rfl, Nat.le_of_ble_eq_true rfl⟩ ?_
  refine V_aload_n dX3_init_4 rfl ?_
  refine V_iconst dX3_init_5 ?_
  refine V_newq dX3_init_6 cl_RX3_9 (N := 4) (rfl) (by decide) (by (try simp [sState, sHist]) <;> omega) (by (try simp [okl, oklo, sState, sHist]) <;> omega) ⟨Nat.le_of_ble_eq_true rfl, Nat.le_of_ble_eq_true rfl⟩ ?_
  refine V_putF 0 dX3_init_9 rfl fl_RX3_11 fp_RX3_11 (by repeat first | with_reducible exact hs | with_reducible exact gN | with_reducible apply gA) rfl rfl rfl rfl (by (try simp [sState, sHist]) <;> omega) ?_
  refine V_iconst dX3_init_12 ?_
  refine S_istore_n (ls' := [_, _]) dX3_init_13 ⟨Nat.le_of_ble_eq_true rfl, rfl, rfl⟩ rfl ?_
  refine V_iload_n dX3_init_14 rfl ?_
  refine V_iconst dX3_init_15 ?_
  refine V_icmp_ge 38 dX3_init_16 (by decide) (by omega) (by omega) (fun h16 => absurd h16 ((by decide))) (fun _ => ?_)
  refine V_aload_n dX3_init_19 rfl ?_
  refine V_getr 0 _ dX3_init_20 fl_RX3_11 (by repeat first | with_reducible exact hs | with_reducible exact gN | with_reducible apply gA) rfl rfl (by first | exact up2_ss _ _ _ _ | (simp [rState, rF, rG, up2, up1, zm, Nat.add_assoc, hn0, hnk]; rfl)) ?_
  refine V_iload_n dX3_init_23 rfl ?_
  refine V_new dX3_init_24 (ci := 9) rfl cl_RX3_9 in_RX9 it_RX9 uX9 (by (try simp [sState, sHist]) <;> omega) (by (try simp [okl, oklo, sState, sHist]) <;> omega) ⟨Nat.le_of_ble_eq_true rfl, Nat.le_of_ble_eq_true rfl⟩ ?_
  refine V_dup dX3_init_27 rfl ?_
  refine V_callI dX3_init_28 ml_RX3_17 km_X9_init ki_X9_init (c_X9_init gN (by (try simp [sState]) <;> omega)) rfl rfl (Nat.le_of_ble_eq_true rfl) (by (try simp [okn, sState, sHist]) <;> omega) ⟨Nat.le_of_ble_eq_true rfl, Nat.le_of_ble_eq_true rfl⟩ ⟨Nat.le_of_ble_eq_true rfl, Nat.le_of_ble_eq_true rfl⟩ ?_
  rintro r sh1 mi1 mr1 ⟨rfl, rfl, rfl, rfl⟩
  refine V_aast dX3_init_31 (by repeat first | with_reducible exact hs | with_reducible exact gN | with_reducible apply gA) (by decide) (by omega) (by repeat first | with_reducible exact hs | with_reducible exact gN | with_reducible apply gA) ?_
  refine S_iinc (ls' := [_, _]) dX3_init_32 rfl ⟨rfl, rfl⟩ rfl ?_
  refine V_goto 14 dX3_init_35 (by decide) ?_
  refine V_iload_n dX3_init_14 rfl ?_
  refine V_iconst dX3_init_15 ?_
  refine V_icmp_ge 38 dX3_init_16 (by decide) (by omega) (by omega) (fun h16 => absurd h16 ((by decide))) (fun _ => ?_)
  refine V_aload_n dX3_init_19 rfl ?_
  refine V_getr 0 _ dX3_init_20 fl_RX3_11 (by repeat first | with_reducible exact hs | with_reducible exact gN | with_reducible apply gA) rfl rfl (by first | exact up2_ss _ _ _ _ | (simp [rState, rF, rG, up2, up1, zm, Nat.add_assoc, hn0, hnk]; rfl)) ?_
  refine V_iload_n dX3_init_23 rfl ?_
  refine V_new dX3_init_24 (ci := 9) rfl cl_RX3_9 in_RX9 it_RX9 uX9 (by (try simp [sState, sHist]) <;> omega) (by (try simp [okl, oklo, sState, sHist]) <;> omega) ⟨Nat.le_of_ble_eq_true rfl, Nat.le_of_ble_eq_true rfl⟩ ?_
  refine V_dup dX3_init_27 rfl ?_
  refine V_callI dX3_init_28 ml_RX3_17 km_X9_init ki_X9_init (c_X9_init gN (by (try simp [sState]) <;> omega)) rfl rfl (Nat.le_of_ble_eq_true rfl) (by (try simp [okn, sState, sHist]) <;> omega) ⟨Nat.le_of_ble_eq_true rfl, Nat.le_of_ble_eq_true rfl⟩ ⟨Nat.le_of_ble_eq_true rfl, Nat.le_of_ble_eq_true rfl⟩ ?_
  rintro r sh1 mi1 mr1 ⟨rfl, rfl, rfl, rfl⟩
  refine V_aast dX3_init_31 (by repeat first | with_reducible exact hs | with_reducible exact gN | with_reducible apply gA) (by decide) (by omega) (by repeat first | with_reducible exact hs | with_reducible exact gN | with_reducible apply gA) ?_
  refine S_iinc (ls' := [_, _]) dX3_init_32 rfl ⟨rfl, rfl⟩ rfl ?_
  refine V_goto 14 dX3_init_35 (by decide) ?_
  refine V_iload_n dX3_init_14 rfl ?_
  refine V_iconst dX3_init_15 ?_
  refine V_icmp_ge 38 dX3_init_16 (by decide) (by omega) (by omega) (fun h16 => absurd h16 ((by decide))) (fun _ => ?_)
  refine V_aload_n dX3_init_19 rfl ?_
  refine V_getr 0 _ dX3_init_20 fl_RX3_11 (by repeat first | with_reducible exact hs | with_reducible exact gN | with_reducible apply gA) rfl rfl (by first | exact up2_ss _ _ _ _ | (simp [rState, rF, rG, up2, up1, zm, Nat.add_assoc, hn0, hnk]; rfl)) ?_
  refine V_iload_n dX3_init_23 rfl ?_
  refine V_new dX3_init_24 (ci := 9) rfl cl_RX3_9 in_RX9 it_RX9 uX9 (by (try simp [sState, sHist]) <;> omega) (by (try simp [okl, oklo, sState, sHist]) <;> omega) ⟨Nat.le_of_ble_eq_true rfl, Nat.le_of_ble_eq_true rfl⟩ ?_
  refine V_dup dX3_init_27 rfl ?_
  refine V_callI dX3_init_28 ml_RX3_17 km_X9_init ki_X9_init (c_X9_init gN (by (try simp [sState]) <;> omega)) rfl rfl (Nat.le_of_ble_eq_true rfl) (by (try simp [okn, sState, sHist]) <;> omega) ⟨Nat.le_of_ble_eq_true rfl, Nat.le_of_ble_eq_true rfl⟩ ⟨Nat.le_of_ble_eq_true rfl, Nat.le_of_ble_eq_true rfl⟩ ?_
  rintro r sh1 mi1 mr1 ⟨rfl, rfl, rfl, rfl⟩
  refine V_aast dX3_init_31 (by repeat first | with_reducible exact hs | with_reducible exact gN | with_reducible apply gA) (by decide) (by omega) (by repeat first | with_reducible exact hs | with_reducible exact gN | with_reducible apply gA) ?_
  refine S_iinc (ls' := [_, _]) dX3_init_32 rfl ⟨rfl, rfl⟩ rfl ?_
  refine V_goto 14 dX3_init_35 (by decide) ?_
  refine V_iload_n dX3_init_14 rfl ?_
  refine V_iconst dX3_init_15 ?_
  refine V_icmp_ge 38 dX3_init_16 (by decide) (by omega) (by omega) (fun h16 => absurd h16 ((by decide))) (fun _ => ?_)
  refine V_aload_n dX3_init_19 rfl ?_
  refine V_getr 0 _ dX3_init_20 fl_RX3_11 (by repeat first | with_reducible exact hs | with_reducible exact gN | with_reducible apply gA) rfl rfl (by first | exact up2_ss _ _ _ _ | (simp [rState, rF, rG, up2, up1, zm, Nat.add_assoc, hn0, hnk]; rfl)) ?_
  refine V_iload_n dX3_init_23 rfl ?_
  refine V_new dX3_init_24 (ci := 9) rfl cl_RX3_9 in_RX9 it_RX9 uX9 (by (try simp [sState, sHist]) <;> omega) (by (try simp [okl, oklo, sState, sHist]) <;> omega) ⟨Nat.le_of_ble_eq_true rfl, Nat.le_of_ble_eq_true rfl⟩ ?_
  refine V_dup dX3_init_27 rfl ?_
  refine V_callI dX3_init_28 ml_RX3_17 km_X9_init ki_X9_init (c_X9_init gN (by (try simp [sState]) <;> omega)) rfl rfl (Nat.le_of_ble_eq_true rfl) (by (try simp [okn, sState, sHist]) <;> omega) ⟨Nat.le_of_ble_eq_true rfl, Nat.le_of_ble_eq_true rfl⟩ ⟨Nat.le_of_ble_eq_true rfl, Nat.le_of_ble_eq_true rfl⟩ ?_
  rintro r sh1 mi1 mr1 ⟨rfl, rfl, rfl, rfl⟩
  refine V_aast dX3_init_31 (by repeat first | with_reducible exact hs | with_reducible exact gN | with_reducible apply gA) (by decide) (by omega) (by repeat first | with_reducible exact hs | with_reducible exact gN | with_reducible apply gA) ?_
  refine S_iinc (ls' := [_, _]) dX3_init_32 rfl ⟨rfl, rfl⟩ rfl ?_
  refine V_goto 14 dX3_init_35 (by decide) ?_
  refine V_iload_n dX3_init_14 rfl ?_
  refine V_iconst dX3_init_15 ?_
  refine V_icmp_ge 38 dX3_init_16 (by decide) (by omega) (by omega) (fun _ => ?_) (fun h16 => absurd h16 ((by decide)))
  refine V_vret dX3_init_38 rfl ⟨Nat.le_of_ble_eq_true rfl, Nat.le_of_ble_eq_true rfl⟩ ?_
  exact ⟨rfl, by simp [sState, sHist], by simp [iHist, iHs, sState], by simp [rHist, rHs, sState, rF]⟩
set_option maxRecDepth 100000 in
set_option maxHeartbeats 1000000 in
theorem c_X5_init (hs : sh[a]? = some (.inl 5)) (hz : sh.length < 900) : CI yX5_init cX5_init 1 1 1 1653 sh mi mr [vr a] [.inr (0, 1653)] (iZ sh.length 1 mi) (rF a sh.length 0 mr) := by
  have ha := lt_of_get hs
  refine Ct.ofV (ini := true) [some (vr a)] km_X5_init (by decide) rfl (Nat.le_of_ble_eq_true rfl) ?_
  refine V_aload_n dX5_init_0 rfl ?_
  refine V_oinit dX5_init_1 ml_RX5_3 ⟨Nat.le_of_ble_eq_true rfl, Nat.le_of_ble_eq_true rfl⟩ ?_
  refine V_aload_n dX5_init_4 rfl ?_
  refine V_sipush dX5_init_5 (by decide) ?_
  refine V_newa dX5_init_8 (t := 0) (N := 1653) ⟨rfl, Or.inl rfl⟩ ac_int (rfl) (by decide) (by (try simp [sState, sHist]) <;> omega) (by (try simp [okl, oklo, sState, sHist]) <;> omega) ⟨Nat.le_of_ble_eq_true rfl, Nat.le_of_ble_eq_true rfl⟩ ?_
  refine V_putF 0 dX5_init_10 rfl fl_RX5_9 fp_RX5_9 (by repeat first | with_reducible exact hs | with_reducible exact gN | with_reducible apply gA) rfl rfl rfl rfl (by (try simp [sState, sHist]) <;> omega) ?_
  refine V_vret dX5_init_13 rfl ⟨Nat.le_of_ble_eq_true rfl, Nat.le_of_ble_eq_true rfl⟩ ?_
  exact ⟨rfl, by simp, by simp [iZ], by simp [rF]⟩
set_option maxRecDepth 100000 in
set_option maxHeartbeats 1000000 in
theorem c_X8_init (hs : sh[a]? = some (.inl 8)) (hz : sh.length < 900) : CI yX8_init cX8_init 1 1 4 228 sh mi mr [vr a] [.inr (0, 57), .inr (0, 57), .inr (0, 57), .inr (0, 57)] (iZ sh.length 4 mi) (rF a (sh.length + 3) 3 (rF a (sh.length + 2) 2 (rF a (sh.length + 1) 1 (rF a sh.length 0 mr)))) := by
  have ha := lt_of_get hs
  refine Ct.ofV (ini := true) [some (vr a)] km_X8_init (by decide) rfl (Nat.le_of_ble_eq_true rfl) ?_
  refine V_aload_n dX8_init_0 rfl ?_
  refine V_oinit dX8_init_1 ml_RX8_3 ⟨Nat.le_of_ble_eq_true rfl, Nat.le_of_ble_eq_true rfl⟩ ?_
  refine V_aload_n dX8_init_4 rfl ?_
  refine V_bipush dX8_init_5 (by decide) ?_
  refine V_newa dX8_init_7 (t := 0) (N := 57) ⟨rfl, Or.inl rfl⟩ ac_int (rfl) (by decide) (by (try simp [sState, sHist]) <;> omega) (by (try simp [okl, oklo, sState, sHist]) <;> omega) ⟨Nat.le_of_ble_eq_true rfl, Nat.le_of_ble_eq_true rfl⟩ ?_
  refine V_putF 0 dX8_init_9 rfl fl_RX8_9 fp_RX8_9 (by repeat first | with_reducible exact hs | with_reducible exact gN | with_reducible apply gA) rfl rfl rfl rfl (by (try simp [sState, sHist]) <;> omega) ?_
  refine V_aload_n dX8_init_12 rfl ?_
  refine V_bipush dX8_init_13 (by decide) ?_
  refine V_newa dX8_init_15 (t := 0) (N := 57) ⟨rfl, Or.inl rfl⟩ ac_int (rfl) (by decide) (by (try simp [sState, sHist]) <;> omega) (by (try simp [okl, oklo, sState, sHist]) <;> omega) ⟨Nat.le_of_ble_eq_true rfl, Nat.le_of_ble_eq_true rfl⟩ ?_
  refine V_putF 1 dX8_init_17 rfl fl_RX8_15 fp_RX8_15 (by repeat first | with_reducible exact hs | with_reducible exact gN | with_reducible apply gA) rfl rfl rfl rfl (by (try simp [sState, sHist]) <;> omega) ?_
  refine V_aload_n dX8_init_20 rfl ?_
  refine V_bipush dX8_init_21 (by decide) ?_
  refine V_newa dX8_init_23 (t := 0) (N := 57) ⟨rfl, Or.inl rfl⟩ ac_int (rfl) (by decide) (by (try simp [sState, sHist]) <;> omega) (by (try simp [okl, oklo, sState, sHist]) <;> omega) ⟨Nat.le_of_ble_eq_true rfl, Nat.le_of_ble_eq_true rfl⟩ ?_
  refine V_putF 2 dX8_init_25 rfl fl_RX8_18 fp_RX8_18 (by repeat first | with_reducible exact hs | with_reducible exact gN | with_reducible apply gA) rfl rfl rfl rfl (by (try simp [sState, sHist]) <;> omega) ?_
  refine V_aload_n dX8_init_28 rfl ?_
  refine V_bipush dX8_init_29 (by decide) ?_
  refine V_newa dX8_init_31 (t := 0) (N := 57) ⟨rfl, Or.inl rfl⟩ ac_int (rfl) (by decide) (by (try simp [sState, sHist]) <;> omega) (by (try simp [okl, oklo, sState, sHist]) <;> omega) ⟨Nat.le_of_ble_eq_true rfl, Nat.le_of_ble_eq_true rfl⟩ ?_
  refine V_putF 3 dX8_init_33 rfl fl_RX8_21 fp_RX8_21 (by repeat first | with_reducible exact hs | with_reducible exact gN | with_reducible apply gA) rfl rfl rfl rfl (by (try simp [sState, sHist]) <;> omega) ?_
  refine V_vret dX8_init_36 rfl ⟨Nat.le_of_ble_eq_true rfl, Nat.le_of_ble_eq_true rfl⟩ ?_
  exact ⟨rfl, by simp, by simp [iZ], by simp [rF]⟩
set_option maxRecDepth 100000 in
set_option maxHeartbeats 1000000 in
theorem c_X4_init (hs : sh[a]? = some (.inl 4)) (hz : sh.length < 900) : CI yX4_init cX4_init 1 1 3 168 sh mi mr [vr a] [.inr (0, 56), .inr (0, 56), .inr (0, 56)] (iZ sh.length 3 mi) (rF a (sh.length + 2) 2 (rF a (sh.length + 1) 1 (rF a sh.length 0 mr))) := by
  have ha := lt_of_get hs
  refine Ct.ofV (ini := true) [some (vr a)] km_X4_init (by decide) rfl (Nat.le_of_ble_eq_true rfl) ?_
  refine V_aload_n dX4_init_0 rfl ?_
  refine V_oinit dX4_init_1 ml_RX4_3 ⟨Nat.le_of_ble_eq_true rfl, Nat.le_of_ble_eq_true rfl⟩ ?_
  refine V_aload_n dX4_init_4 rfl ?_
  refine V_bipush dX4_init_5 (by decide) ?_
  refine V_newa dX4_init_7 (t := 0) (N := 56) ⟨rfl, Or.inl rfl⟩ ac_int (rfl) (by decide) (by (try simp [sState, sHist]) <;> omega) (by (try simp [okl, oklo, sState, sHist]) <;> omega) ⟨Nat.le_of_ble_eq_true rfl, Nat.le_of_ble_eq_true rfl⟩ ?_
  refine V_putF 0 dX4_init_9 rfl fl_RX4_9 fp_RX4_9 (by repeat first | with_reducible exact hs | with_reducible exact gN | with_reducible apply gA) rfl rfl rfl rfl (by (try simp [sState, sHist]) <;> omega) ?_
  refine V_aload_n dX4_init_12 rfl ?_
  refine V_bipush dX4_init_13 (by decide) ?_
  refine V_newa dX4_init_15 (t := 0) (N := 56) ⟨rfl, Or.inl rfl⟩ ac_int (rfl) (by decide) (by (try simp [sState, sHist]) <;> omega) (by (try simp [okl, oklo, sState, sHist]) <;> omega) ⟨Nat.le_of_ble_eq_true rfl, Nat.le_of_ble_eq_true rfl⟩ ?_
  refine V_putF 1 dX4_init_17 rfl fl_RX4_15 fp_RX4_15 (by repeat first | with_reducible exact hs | with_reducible exact gN | with_reducible apply gA) rfl rfl rfl rfl (by (try simp [sState, sHist]) <;> omega) ?_
  refine V_aload_n dX4_init_20 rfl ?_
  refine V_bipush dX4_init_21 (by decide) ?_
  refine V_newa dX4_init_23 (t := 0) (N := 56) ⟨rfl, Or.inl rfl⟩ ac_int (rfl) (by decide) (by (try simp [sState, sHist]) <;> omega) (by (try simp [okl, oklo, sState, sHist]) <;> omega) ⟨Nat.le_of_ble_eq_true rfl, Nat.le_of_ble_eq_true rfl⟩ ?_
  refine V_putF 2 dX4_init_25 rfl fl_RX4_18 fp_RX4_18 (by repeat first | with_reducible exact hs | with_reducible exact gN | with_reducible apply gA) rfl rfl rfl rfl (by (try simp [sState, sHist]) <;> omega) ?_
  refine V_vret dX4_init_28 rfl ⟨Nat.le_of_ble_eq_true rfl, Nat.le_of_ble_eq_true rfl⟩ ?_
  exact ⟨rfl, by simp, by simp [iZ], by simp [rF]⟩
set_option maxRecDepth 100000 in
set_option maxHeartbeats 1000000 in
theorem c_X0_init (hs : sh[a]? = some (.inl 0)) (hz : sh.length < 900) : CI yX0_init cX0_init 1 1 3 2352 sh mi mr [vr a] [.inr (0, 784), .inr (0, 784), .inr (0, 784)] (iZ sh.length 3 mi) (rF a (sh.length + 2) 2 (rF a (sh.length + 1) 1 (rF a sh.length 0 mr))) := by
  have ha := lt_of_get hs
  refine Ct.ofV (ini := true) [some (vr a)] km_X0_init (by decide) rfl (Nat.le_of_ble_eq_true rfl) ?_
  refine V_aload_n dX0_init_0 rfl ?_
  refine V_oinit dX0_init_1 ml_RX0_3 ⟨Nat.le_of_ble_eq_true rfl, Nat.le_of_ble_eq_true rfl⟩ ?_
  refine V_aload_n dX0_init_4 rfl ?_
  refine V_sipush dX0_init_5 (by decide) ?_
  refine V_newa dX0_init_8 (t := 0) (N := 784) ⟨rfl, Or.inl rfl⟩ ac_int (rfl) (by decide) (by (try simp [sState, sHist]) <;> omega) (by (try simp [okl, oklo, sState, sHist]) <;> omega) ⟨Nat.le_of_ble_eq_true rfl, Nat.le_of_ble_eq_true rfl⟩ ?_
  refine V_putF 0 dX0_init_10 rfl fl_RX0_9 fp_RX0_9 (by repeat first | with_reducible exact hs | with_reducible exact gN | with_reducible apply gA) rfl rfl rfl rfl (by (try simp [sState, sHist]) <;> omega) ?_
  refine V_aload_n dX0_init_13 rfl ?_
  refine V_sipush dX0_init_14 (by decide) ?_
  refine V_newa dX0_init_17 (t := 0) (N := 784) ⟨rfl, Or.inl rfl⟩ ac_int (rfl) (by decide) (by (try simp [sState, sHist]) <;> omega) (by (try simp [okl, oklo, sState, sHist]) <;> omega) ⟨Nat.le_of_ble_eq_true rfl, Nat.le_of_ble_eq_true rfl⟩ ?_
  refine V_putF 1 dX0_init_19 rfl fl_RX0_15 fp_RX0_15 (by repeat first | with_reducible exact hs | with_reducible exact gN | with_reducible apply gA) rfl rfl rfl rfl (by (try simp [sState, sHist]) <;> omega) ?_
  refine V_aload_n dX0_init_22 rfl ?_
  refine V_sipush dX0_init_23 (by decide) ?_
  refine V_newa dX0_init_26 (t := 0) (N := 784) ⟨rfl, Or.inl rfl⟩ ac_int (rfl) (by decide) (by (try simp [sState, sHist]) <;> omega) (by (try simp [okl, oklo, sState, sHist]) <;> omega) ⟨Nat.le_of_ble_eq_true rfl, Nat.le_of_ble_eq_true rfl⟩ ?_
  refine V_putF 2 dX0_init_28 rfl fl_RX0_18 fp_RX0_18 (by repeat first | with_reducible exact hs | with_reducible exact gN | with_reducible apply gA) rfl rfl rfl rfl (by (try simp [sState, sHist]) <;> omega) ?_
  refine V_vret dX0_init_31 rfl ⟨Nat.le_of_ble_eq_true rfl, Nat.le_of_ble_eq_true rfl⟩ ?_
  exact ⟨rfl, by simp, by simp [iZ], by simp [rF]⟩
set_option maxRecDepth 100000 in
set_option maxHeartbeats 1000000 in
theorem c_X2_init (hs : sh[a]? = some (.inl 2)) (hz : sh.length < 990) : CI yX2_init cX2_init 1 1 1 841 sh mi mr [vr a] [.inr (1, 841)] (zm mi sh.length 0) (rF a sh.length 0 mr) := by
  have ha := lt_of_get hs
  refine Ct.ofV (ini := true) [some (vr a)] km_X2_init (by decide) rfl (Nat.le_of_ble_eq_true rfl) ?_
  refine V_aload_n dX2_init_0 rfl ?_
  refine V_oinit dX2_init_1 ml_RX2_3 ⟨Nat.le_of_ble_eq_true rfl, Nat.le_of_ble_eq_true rfl⟩ ?_
  refine V_aload_n dX2_init_4 rfl ?_
  refine V_sipush dX2_init_5 (by decide) ?_
  refine V_newa dX2_init_8 (t := 1) (N := 841) ⟨rfl, Or.inr (Or.inl rfl)⟩ ac_long (rfl) (by decide) (by (try simp [sState, sHist]) <;> omega) (by (try simp [okl, oklo, sState, sHist]) <;> omega) ⟨Nat.le_of_ble_eq_true rfl, Nat.le_of_ble_eq_true rfl⟩ ?_
  refine V_putF 0 dX2_init_10 rfl fl_RX2_9 fp_RX2_9 (by repeat first | with_reducible exact hs | with_reducible exact gN | with_reducible apply gA) rfl rfl rfl rfl (by (try simp [sState, sHist]) <;> omega) ?_
  refine V_vret dX2_init_13 rfl ⟨Nat.le_of_ble_eq_true rfl, Nat.le_of_ble_eq_true rfl⟩ ?_
  exact ⟨rfl, by simp, by simp, by simp [rF]⟩
set_option maxRecDepth 100000 in
set_option maxHeartbeats 1000000 in
theorem c_X1_init (hs : sh[a]? = some (.inl 1)) (hz : sh.length < 900) : CI yX1_init cX1_init 1 2 6 2526 sh mi mr [vr a] [.inl 2, .inr (1, 841), .inl 2, .inr (1, 841), .inl 2, .inr (1, 841)] (iZ sh.length 6 mi) (rG a (sh.length + 4) 2 (rG a (sh.length + 2) 1 (rG a sh.length 0 mr))) := by
  have ha := lt_of_get hs
  refine Ct.ofV (ini := true) [some (vr a)] km_X1_init (by decide) rfl (Nat.le_of_ble_eq_true rfl) ?_
  refine V_aload_n dX1_init_0 rfl ?_
  refine V_oinit dX1_init_1 ml_RX1_3 ⟨Nat.le_of_ble_eq_true rfl, Nat.le_of_ble_eq_true rfl⟩ ?_
  refine V_aload_n dX1_init_4 rfl ?_
  refine V_new dX1_init_5 (ci := 2) rfl cl_RX1_9 in_RX2 it_RX2 uX2 (by (try simp [sState, sHist]) <;> omega) (by (try simp [okl, oklo, sState, sHist]) <;> omega) ⟨Nat.le_of_ble_eq_true rfl, Nat.le_of_ble_eq_true rfl⟩ ?_
  refine V_dup dX1_init_8 rfl ?_
  refine V_callI dX1_init_9 ml_RX1_11 km_X2_init ki_X2_init (c_X2_init gN (by (try simp) <;> omega)) rfl rfl (Nat.le_of_ble_eq_true rfl) (by (try simp [okn, sState, sHist]) <;> omega) ⟨Nat.le_of_ble_eq_true rfl, Nat.le_of_ble_eq_true rfl⟩ ⟨Nat.le_of_ble_eq_true rfl, Nat.le_of_ble_eq_true rfl⟩ ?_
  rintro r sh1 mi1 mr1 ⟨rfl, rfl, rfl, rfl⟩
  refine V_putF 0 dX1_init_12 rfl fl_RX1_12 fp_RX1_12 (by repeat first | with_reducible exact hs | with_reducible exact gN | with_reducible apply gA) rfl rfl rfl rfl (by (try simp [sState, sHist]) <;> omega) ?_
  refine V_aload_n dX1_init_15 rfl ?_
  refine V_new dX1_init_16 (ci := 2) rfl cl_RX1_9 in_RX2 it_RX2 uX2 (by (try simp [sState, sHist]) <;> omega) (by (try simp [okl, oklo, sState, sHist]) <;> omega) ⟨Nat.le_of_ble_eq_true rfl, Nat.le_of_ble_eq_true rfl⟩ ?_
  refine V_dup dX1_init_19 rfl ?_
  refine V_callI dX1_init_20 ml_RX1_11 km_X2_init ki_X2_init (c_X2_init gN (by (try simp) <;> omega)) rfl rfl (Nat.le_of_ble_eq_true rfl) (by (try simp [okn, sState, sHist]) <;> omega) ⟨Nat.le_of_ble_eq_true rfl, Nat.le_of_ble_eq_true rfl⟩ ⟨Nat.le_of_ble_eq_true rfl, Nat.le_of_ble_eq_true rfl⟩ ?_
  rintro r sh1 mi1 mr1 ⟨rfl, rfl, rfl, rfl⟩
  refine V_putF 1 dX1_init_23 rfl fl_RX1_18 fp_RX1_18 (by repeat first | with_reducible exact hs | with_reducible exact gN | with_reducible apply gA) rfl rfl rfl rfl (by (try simp [sState, sHist]) <;> omega) ?_
  refine V_aload_n dX1_init_26 rfl ?_
  refine V_new dX1_init_27 (ci := 2) rfl cl_RX1_9 in_RX2 it_RX2 uX2 (by (try simp [sState, sHist]) <;> omega) (by (try simp [okl, oklo, sState, sHist]) <;> omega) ⟨Nat.le_of_ble_eq_true rfl, Nat.le_of_ble_eq_true rfl⟩ ?_
  refine V_dup dX1_init_30 rfl ?_
  refine V_callI dX1_init_31 ml_RX1_11 km_X2_init ki_X2_init (c_X2_init gN (by (try simp) <;> omega)) rfl rfl (Nat.le_of_ble_eq_true rfl) (by (try simp [okn, sState, sHist]) <;> omega) ⟨Nat.le_of_ble_eq_true rfl, Nat.le_of_ble_eq_true rfl⟩ ⟨Nat.le_of_ble_eq_true rfl, Nat.le_of_ble_eq_true rfl⟩ ?_
  rintro r sh1 mi1 mr1 ⟨rfl, rfl, rfl, rfl⟩
  refine V_putF 2 dX1_init_34 rfl fl_RX1_21 fp_RX1_21 (by repeat first | with_reducible exact hs | with_reducible exact gN | with_reducible apply gA) rfl rfl rfl rfl (by (try simp [sState, sHist]) <;> omega) ?_
  refine V_vret dX1_init_37 rfl ⟨Nat.le_of_ble_eq_true rfl, Nat.le_of_ble_eq_true rfl⟩ ?_
  exact ⟨rfl, by simp, by simp [iZ], by simp [rG, rF]⟩
set_option maxRecDepth 100000 in
set_option maxHeartbeats 1000000 in
theorem c_X6_init (hs : sh[a]? = some (.inl 6)) (hz : sh.length < 900) : CI yX6_init cX6_init 1 2 2 30 sh mi mr [vr a] [.inl 7, .inr (0, 28)] (iZ sh.length 2 mi) (rG a sh.length 0 mr) := by
  have ha := lt_of_get hs
  refine Ct.ofV (ini := true) [some (vr a)] km_X6_init (by decide) rfl (Nat.le_of_ble_eq_true rfl) ?_
  refine V_aload_n dX6_init_0 rfl ?_
  refine V_oinit dX6_init_1 ml_RX6_3 ⟨Nat.le_of_ble_eq_true rfl, Nat.le_of_ble_eq_true rfl⟩ ?_
  refine V_aload_n dX6_init_4 rfl ?_
  refine V_new dX6_init_5 (ci := 7) rfl cl_RX6_9 in_RX7 it_RX7 uX7 (by (try simp [sState, sHist]) <;> omega) (by (try simp [okl, oklo, sState, sHist]) <;> omega) ⟨Nat.le_of_ble_eq_true rfl, Nat.le_of_ble_eq_true rfl⟩ ?_
  refine V_dup dX6_init_8 rfl ?_
  refine V_bipush dX6_init_9 (by decide) ?_
  refine V_callI dX6_init_11 ml_RX6_11 km_X7_init ki_X7_init (c_X7_init_28 gN (by (try simp) <;> omega)) rfl rfl (Nat.le_of_ble_eq_true rfl) (by (try simp [okn, sState, sHist]) <;> omega) ⟨Nat.le_of_ble_eq_true rfl, Nat.le_of_ble_eq_true rfl⟩ ⟨Nat.le_of_ble_eq_true rfl, Nat.le_of_ble_eq_true rfl⟩ ?_
  rintro r sh1 mi1 mr1 ⟨rfl, rfl, rfl, rfl⟩
  refine V_putF 0 dX6_init_14 rfl fl_RX6_14 fp_RX6_14 (by repeat first | with_reducible exact hs | with_reducible exact gN | with_reducible apply gA) rfl rfl rfl rfl (by (try simp [sState, sHist]) <;> omega) ?_
  refine V_vret dX6_init_17 rfl ⟨Nat.le_of_ble_eq_true rfl, Nat.le_of_ble_eq_true rfl⟩ ?_
  exact ⟨rfl, by simp, by simp [iZ], by simp [rG, rF]⟩
end INITS
