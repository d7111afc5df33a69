/-! ===== constructors of the class and of the Model ===== -/
section INITS2
variable {mi : MI} {mr : MR} {sh : ShT} {a : Nat}
def sTop : ShT := [.inl 9] ++ sState ++ [.inl 3] ++ sHist ++ [.inl 7, .inr (0, 60), .inl 5, .inr (0, 1653), .inl 8, .inr (0, 57), .inr (0, 57), .inr (0, 57), .inr (0, 57), .inl 7, .inr (0, 168), .inl 4, .inr (0, 56), .inr (0, 56), .inr (0, 56), .inl 0, .inr (0, 784), .inr (0, 784), .inr (0, 784), .inl 1, .inl 2, .inr (1, 841), .inl 2, .inr (1, 841), .inl 2, .inr (1, 841), .inl 6, .inl 7, .inr (0, 28)]
def rTop (a z : Nat) (m : MR) : MR := (up2 (rG (z + 58) (z + 59) 0 (zm (up2 (rG (z + 51) (z + 56) 2 (rG (z + 51) (z + 54) 1 (rG (z + 51) (z + 52) 0 (zm (up2 (rF (z + 47) (z + 50) 2 (rF (z + 47) (z + 49) 1 (rF (z + 47) (z + 48) 0 (zm (up2 (rF (z + 43) (z + 46) 2 (rF (z + 43) (z + 45) 1 (rF (z + 43) (z + 44) 0 (zm (rG a (z + 41) 5 (up2 (rF (z + 36) (z + 40) 3 (rF (z + 36) (z + 39) 2 (rF (z + 36) (z + 38) 1 (rF (z + 36) (z + 37) 0 (zm (rG a (z + 34) 3 (rG a (z + 32) 2 (up2 (rHist (z + 6) (z + 7) (zm (up2 (rState z (z + 1) (zm m z none)) a 0 (some z)) (z + 6) none)) a 1 (some (z + 6))))) (z + 36) none))))) a 4 (some (z + 36)))) (z + 43) none)))) a 6 (some (z + 43))) (z + 47) none)))) a 7 (some (z + 47))) (z + 51) none)))) a 8 (some (z + 51))) (z + 58) none)) a 9 (some (z + 58)))
def iTop (z : Nat) (m : MI) : MI := iZ (z + 32) 29 (iHist (z + 7) (zm (iState (z + 1) (zm m z 0)) (z + 6) 0))
set_option maxRecDepth 100000 in
set_option maxHeartbeats 1000000 in
theorem c_X10_init (hs : sh[a]? = some (.inl 10)) (hz : sh.length < 700) : CI yX10_init cX10_init 1 4 61 7551 sh mi mr [vr a] sTop (iTop sh.length mi) (rTop a sh.length mr) := by
  have ha := lt_of_get hs
  refine Ct.ofV (ini := true) [some (vr a)] km_X10_init (by decide) rfl (Nat.le_of_ble_eq_true rfl) ?_
  refine V_aload_n dX10_init_0 rfl ?_
  refine V_oinit dX10_init_1 ml_RX10_3 ⟨Nat.le_of_ble_eq_true rfl, Nat.le_of_ble_eq_true rfl⟩ ?_
  refine V_aload_n dX10_init_4 rfl ?_
  refine V_new dX10_init_5 (ci := 9) rfl cl_RX10_9 in_RX9 it_RX9 uX9 (by (try simp [sState, sHist]) <;> omega) (by (try simp [okl, oklo, sState, sHist]) <;> omega) ⟨Nat.le_of_ble_eq_true rfl, Nat.le_of_ble_eq_true rfl⟩ ?_
  refine V_dup dX10_init_8 rfl ?_
  refine V_callI dX10_init_9 ml_RX10_11 km_X9_init ki_X9_init (c_X9_init gN (by (try simp [sState, sHist]) <;> omega)) rfl rfl (Nat.le_of_ble_eq_true rfl) (by (try simp [okn, sState, sHist]) <;> omega) ⟨Nat.le_of_ble_eq_true rfl, Nat.le_of_ble_eq_true rfl⟩ ⟨Nat.le_of_ble_eq_true rfl, Nat.le_of_ble_eq_true rfl⟩ ?_
  rintro r sh1 mi1 mr1 ⟨rfl, rfl, rfl, rfl⟩
  refine V_putF 0 dX10_init_12 rfl fl_RX10_12 fp_RX10_12 (by repeat first | with_reducible exact hs | with_reducible exact gN | with_reducible apply gA) rfl rfl rfl rfl (by (try simp [sState, sHist]) <;> omega) ?_
  refine V_aload_n dX10_init_15 rfl ?_
  refine V_new dX10_init_16 (ci := 3) rfl cl_RX10_16 in_RX3 it_RX3 uX3 (by (try simp [sState, sHist]) <;> omega) (by (try simp [okl, oklo, sState, sHist]) <;> omega) ⟨Nat.le_of_ble_eq_true rfl, Nat.le_of_ble_eq_true rfl⟩ ?_
  refine V_dup dX10_init_19 rfl ?_
  refine V_callI dX10_init_20 ml_RX10_18 km_X3_init ki_X3_init (c_X3_init gN (by (try simp [sState, sHist]) <;> omega)) rfl rfl (Nat.le_of_ble_eq_true rfl) (by (try simp [okn, sState, sHist]) <;> omega) ⟨Nat.le_of_ble_eq_true rfl, Nat.le_of_ble_eq_true rfl⟩ ⟨Nat.le_of_ble_eq_true rfl, Nat.le_of_ble_eq_true rfl⟩ ?_
  rintro r sh1 mi1 mr1 ⟨rfl, rfl, rfl, rfl⟩
  refine V_putF 1 dX10_init_23 rfl fl_RX10_19 fp_RX10_19 (by repeat first | with_reducible exact hs | with_reducible exact gN | with_reducible apply gA) rfl rfl rfl rfl (by (try simp [sState, sHist]) <;> omega) ?_
  refine V_aload_n dX10_init_26 rfl ?_
  refine V_new dX10_init_27 (ci := 7) rfl cl_RX10_23 in_RX7 it_RX7 uX7 (by (try simp [sState, sHist]) <;> omega) (by (try simp [okl, oklo, sState, sHist]) <;> omega) ⟨Nat.le_of_ble_eq_true rfl, Nat.le_of_ble_eq_true rfl⟩ ?_
  refine V_dup dX10_init_30 rfl ?_
  refine V_bipush dX10_init_31 (by decide) ?_
  refine V_callI dX10_init_33 ml_RX10_25 km_X7_init ki_X7_init (c_X7_init_60 gN (by (try simp [sState, sHist]) <;> omega)) rfl rfl (Nat.le_of_ble_eq_true rfl) (by (try simp [okn, sState, sHist]) <;> omega) ⟨Nat.le_of_ble_eq_true rfl, Nat.le_of_ble_eq_true rfl⟩ ⟨Nat.le_of_ble_eq_true rfl, Nat.le_of_ble_eq_true rfl⟩ ?_
  rintro r sh1 mi1 mr1 ⟨rfl, rfl, rfl, rfl⟩
  refine V_putF 2 dX10_init_36 rfl fl_RX10_28 fp_RX10_28 (by repeat first | with_reducible exact hs | with_reducible exact gN | with_reducible apply gA) rfl rfl rfl rfl (by (try simp [sState, sHist]) <;> omega) ?_
  refine V_aload_n dX10_init_39 rfl ?_
  refine V_new dX10_init_40 (ci := 5) rfl cl_RX10_32 in_RX5 it_RX5 uX5 (by (try simp [sState, sHist]) <;> omega) (by (try simp [okl, oklo, sState, sHist]) <;> omega) ⟨Nat.le_of_ble_eq_true rfl, Nat.le_of_ble_eq_true rfl⟩ ?_
  refine V_dup dX10_init_43 rfl ?_
  refine V_callI dX10_init_44 ml_RX10_34 km_X5_init ki_X5_init (c_X5_init gN (by (try simp [sState, sHist]) <;> omega)) rfl rfl (Nat.le_of_ble_eq_true rfl) (by (try simp [okn, sState, sHist]) <;> omega) ⟨Nat.le_of_ble_eq_true rfl, Nat.le_of_ble_eq_true rfl⟩ ⟨Nat.le_of_ble_eq_true rfl, Nat.le_of_ble_eq_true rfl⟩ ?_
  rintro r sh1 mi1 mr1 ⟨rfl, rfl, rfl, rfl⟩
  refine V_putF 3 dX10_init_47 rfl fl_RX10_35 fp_RX10_35 (by repeat first | with_reducible exact hs | with_reducible exact gN | with_reducible apply gA) rfl rfl rfl rfl (by (try simp [sState, sHist]) <;> omega) ?_
  refine V_aload_n dX10_init_50 rfl ?_
  refine V_new dX10_init_51 (ci := 8) rfl cl_RX10_39 in_RX8 it_RX8 uX8 (by (try simp [sState, sHist]) <;> omega) (by (try simp [okl, oklo, sState, sHist]) <;> omega) ⟨Nat.le_of_ble_eq_true rfl, Nat.le_of_ble_eq_true rfl⟩ ?_
  refine V_dup dX10_init_54 rfl ?_
  refine V_callI dX10_init_55 ml_RX10_41 km_X8_init ki_X8_init (c_X8_init gN (by (try simp [sState, sHist]) <;> omega)) rfl rfl (Nat.le_of_ble_eq_true rfl) (by (try simp [okn, sState, sHist]) <;> omega) ⟨Nat.le_of_ble_eq_true rfl, Nat.le_of_ble_eq_true rfl⟩ ⟨Nat.le_of_ble_eq_true rfl, Nat.le_of_ble_eq_true rfl⟩ ?_
  rintro r sh1 mi1 mr1 ⟨rfl, rfl, rfl, rfl⟩
  refine V_putF 4 dX10_init_58 rfl fl_RX10_42 fp_RX10_42 (by repeat first | with_reducible exact hs | with_reducible exact gN | with_reducible apply gA) rfl rfl rfl rfl (by (try simp [sState, sHist]) <;> omega) ?_
  refine V_aload_n dX10_init_61 rfl ?_
  refine V_new dX10_init_62 (ci := 7) rfl cl_RX10_23 in_RX7 it_RX7 uX7 (by (try simp [sState, sHist]) <;> omega) (by (try simp [okl, oklo, sState, sHist]) <;> omega) ⟨Nat.le_of_ble_eq_true rfl, Nat.le_of_ble_eq_true rfl⟩ ?_
  refine V_dup dX10_init_65 rfl ?_
  refine V_sipush dX10_init_66 (by decide) ?_
  refine V_callI dX10_init_69 ml_RX10_25 km_X7_init ki_X7_init (c_X7_init_168 gN (by (try simp [sState, sHist]) <;> omega)) rfl rfl (Nat.le_of_ble_eq_true rfl) (by (try simp [okn, sState, sHist]) <;> omega) ⟨Nat.le_of_ble_eq_true rfl, Nat.le_of_ble_eq_true rfl⟩ ⟨Nat.le_of_ble_eq_true rfl, Nat.le_of_ble_eq_true rfl⟩ ?_
  rintro r sh1 mi1 mr1 ⟨rfl, rfl, rfl, rfl⟩
  refine V_putF 5 dX10_init_72 rfl fl_RX10_46 fp_RX10_46 (by repeat first | with_reducible exact hs | with_reducible exact gN | with_reducible apply gA) rfl rfl rfl rfl (by (try simp [sState, sHist]) <;> omega) ?_
  refine V_aload_n dX10_init_75 rfl ?_
  refine V_new dX10_init_76 (ci := 4) rfl cl_RX10_49 in_RX4 it_RX4 uX4 (by (try simp [sState, sHist]) <;> omega) (by (try simp [okl, oklo, sState, sHist]) <;> omega) ⟨Nat.le_of_ble_eq_true rfl, Nat.le_of_ble_eq_true rfl⟩ ?_
  refine V_dup dX10_init_79 rfl ?_
  refine V_callI dX10_init_80 ml_RX10_51 km_X4_init ki_X4_init (c_X4_init gN (by (try simp [sState, sHist]) <;> omega)) rfl rfl (Nat.le_of_ble_eq_true rfl) (by (try simp [okn, sState, sHist]) <;> omega) ⟨Nat.le_of_ble_eq_true rfl, Nat.le_of_ble_eq_true rfl⟩ ⟨Nat.le_of_ble_eq_true rfl, Nat.le_of_ble_eq_true rfl⟩ ?_
  rintro r sh1 mi1 mr1 ⟨rfl, rfl, rfl, rfl⟩
  refine V_putF 6 dX10_init_83 rfl fl_RX10_52 fp_RX10_52 (by repeat first | with_reducible exact hs | with_reducible exact gN | with_reducible apply gA) rfl rfl rfl rfl (by (try simp [sState, sHist]) <;> omega) ?_
  refine V_aload_n dX10_init_86 rfl ?_
  refine V_new dX10_init_87 (ci := 0) rfl cl_RX10_56 in_RX0 it_RX0 uX0 (by (try simp [sState, sHist]) <;> omega) (by (try simp [okl, oklo, sState, sHist]) <;> omega) ⟨Nat.le_of_ble_eq_true rfl, Nat.le_of_ble_eq_true rfl⟩ ?_
  refine V_dup dX10_init_90 rfl ?_
  refine V_callI dX10_init_91 ml_RX10_58 km_X0_init ki_X0_init (c_X0_init gN (by (try simp [sState, sHist]) <;> omega)) rfl rfl (Nat.le_of_ble_eq_true rfl) (by (try simp [okn, sState, sHist]) <;> omega) ⟨Nat.le_of_ble_eq_true rfl, Nat.le_of_ble_eq_true rfl⟩ ⟨Nat.le_of_ble_eq_true rfl, Nat.le_of_ble_eq_true rfl⟩ ?_
  rintro r sh1 mi1 mr1 ⟨rfl, rfl, rfl, rfl⟩
  refine V_putF 7 dX10_init_94 rfl fl_RX10_59 fp_RX10_59 (by repeat first | with_reducible exact hs | with_reducible exact gN | with_reducible apply gA) rfl rfl rfl rfl (by (try simp [sState, sHist]) <;> omega) ?_
  refine V_aload_n dX10_init_97 rfl ?_
  refine V_new dX10_init_98 (ci := 1) rfl cl_RX10_63 in_RX1 it_RX1 uX1 (by (try simp [sState, sHist]) <;> omega) (by (try simp [okl, oklo, sState, sHist]) <;> omega) ⟨Nat.le_of_ble_eq_true rfl, Nat.le_of_ble_eq_true rfl⟩ ?_
  refine V_dup dX10_init_101 rfl ?_
  refine V_callI dX10_init_102 ml_RX10_65 km_X1_init ki_X1_init (c_X1_init gN (by (try simp [sState, sHist]) <;> omega)) rfl rfl (Nat.le_of_ble_eq_true rfl) (by (try simp [okn, sState, sHist]) <;> omega) ⟨Nat.le_of_ble_eq_true rfl, Nat.le_of_ble_eq_true rfl⟩ ⟨Nat.le_of_ble_eq_true rfl, Nat.le_of_ble_eq_true rfl⟩ ?_
  rintro r sh1 mi1 mr1 ⟨rfl, rfl, rfl, rfl⟩
  refine V_putF 8 dX10_init_105 rfl fl_RX10_66 fp_RX10_66 (by repeat first | with_reducible exact hs | with_reducible exact gN | with_reducible apply gA) rfl rfl rfl rfl (by (try simp [sState, sHist]) <;> omega) ?_
  refine V_aload_n dX10_init_108 rfl ?_
  refine V_new dX10_init_109 (ci := 6) rfl cl_RX10_70 in_RX6 it_RX6 uX6 (by (try simp [sState, sHist]) <;> omega) (by (try simp [okl, oklo, sState, sHist]) <;> omega) ⟨Nat.le_of_ble_eq_true rfl, Nat.le_of_ble_eq_true rfl⟩ ?_
  refine V_dup dX10_init_112 rfl ?_
  refine V_callI dX10_init_113 ml_RX10_72 km_X6_init ki_X6_init (c_X6_init gN (by (try simp [sState, sHist]) <;> omega)) rfl rfl (Nat.le_of_ble_eq_true rfl) (by (try simp [okn, sState, sHist]) <;> omega) ⟨Nat.le_of_ble_eq_true rfl, Nat.le_of_ble_eq_true rfl⟩ ⟨Nat.le_of_ble_eq_true rfl, Nat.le_of_ble_eq_true rfl⟩ ?_
  rintro r sh1 mi1 mr1 ⟨rfl, rfl, rfl, rfl⟩
  refine V_putF 9 dX10_init_116 rfl fl_RX10_73 fp_RX10_73 (by repeat first | with_reducible exact hs | with_reducible exact gN | with_reducible apply gA) rfl rfl rfl rfl (by (try simp [sState, sHist]) <;> omega) ?_
  refine V_vret dX10_init_119 rfl ⟨Nat.le_of_ble_eq_true rfl, Nat.le_of_ble_eq_true rfl⟩ ?_
  exact ⟨rfl, by simp [sTop], by simp [iTop, iZ, sState, sHist], by simp [rTop, rF, rG, sState, sHist]⟩
def sMod : ShT := [.inr (0, 61), .inr (0, 244), .inr (0, 61), .inr (2, 60), .inr (0, 6441), .inr (0, 168), .inr (0, 841), .inr (1, 841), .inr (2, 400), .inr (0, 29), .inr (0, 29), .inr (0, 28)]
def rMod (a z : Nat) (m : MR) : MR := (rF a (z + 11) 22 (rF a (z + 10) 19 (rF a (z + 9) 18 (rF a (z + 8) 16 (rF a (z + 7) 15 (rF a (z + 6) 14 (rF a (z + 5) 12 (rF a (z + 4) 10 (rF a (z + 3) 4 (rF a (z + 2) 2 (rF a (z + 1) 1 (rF a z 0 m))))))))))))
def iMod (z : Nat) (m : MI) : MI := up2 (up2 (up2 (iZ z 12 m) z 2 56) z 3 1) z 4 2
set_option maxRecDepth 100000 in
set_option maxHeartbeats 1000000 in
theorem c_X11_init (hs : sh[a]? = some (.inl 11)) (hz : sh.length < 800) : CI yX11_init cX11_init 1 1 12 9203 sh mi mr [vr a] sMod (iMod sh.length mi) (rMod a sh.length mr) := by
  have ha := lt_of_get hs
  have hn0 : ¬ a = sh.length := by omega
  have hnk : ∀ k, ¬ a = sh.length + k := fun k => by omega
  refine Ct.ofV (ini := true) [some (vr a)] km_X11_init (by decide) rfl (Nat.le_of_ble_eq_true rfl) ?_
  refine V_aload_n dX11_init_0 rfl ?_
  refine V_oinit dX11_init_1 ml_RX11_1 ⟨Nat.le_of_ble_eq_true rfl, Nat.le_of_ble_eq_true rfl⟩ ?_
  refine V_aload_n dX11_init_4 rfl ?_
  refine V_bipush dX11_init_5 (by decide) ?_
  refine V_newa dX11_init_7 (t := 0) (N := 61) ⟨rfl, Or.inl rfl⟩ ac_int (rfl) (by decide) (by (try simp [sState, sHist]) <;> omega) (by (try simp [okl, oklo, sState, sHist]) <;> omega) ⟨Nat.le_of_ble_eq_true rfl, Nat.le_of_ble_eq_true rfl⟩ ?_
  refine V_putF 0 dX11_init_9 rfl fl_RX11_7 fp_RX11_7 (by repeat first | with_reducible exact hs | with_reducible exact gN | with_reducible apply gA) rfl rfl rfl rfl (by (try simp [sState, sHist]) <;> omega) ?_
  refine V_aload_n dX11_init_12 rfl ?_
  refine V_sipush dX11_init_13 (by decide) ?_
  refine V_newa dX11_init_16 (t := 0) (N := 244) ⟨rfl, Or.inl rfl⟩ ac_int (rfl) (by decide) (by (try simp [sState, sHist]) <;> omega) (by (try simp [okl, oklo, sState, sHist]) <;> omega) ⟨Nat.le_of_ble_eq_true rfl, Nat.le_of_ble_eq_true rfl⟩ ?_
  refine V_putF 1 dX11_init_18 rfl fl_RX11_13 fp_RX11_13 (by repeat first | with_reducible exact hs | with_reducible exact gN | with_reducible apply gA) rfl rfl rfl rfl (by (try simp [sState, sHist]) <;> omega) ?_
  refine V_aload_n dX11_init_21 rfl ?_
  refine V_bipush dX11_init_22 (by decide) ?_
  refine V_newa dX11_init_24 (t := 0) (N := 61) ⟨rfl, Or.inl rfl⟩ ac_int (rfl) (by decide) (by (try simp [sState, sHist]) <;> omega) (by (try simp [okl, oklo, sState, sHist]) <;> omega) ⟨Nat.le_of_ble_eq_true rfl, Nat.le_of_ble_eq_true rfl⟩ ?_
  refine V_putF 2 dX11_init_26 rfl fl_RX11_16 fp_RX11_16 (by repeat first | with_reducible exact hs | with_reducible exact gN | with_reducible apply gA) rfl rfl rfl rfl (by (try simp [sState, sHist]) <;> omega) ?_
  refine V_aload_n dX11_init_29 rfl ?_
  refine V_bipush dX11_init_30 (by decide) ?_
  refine V_newa dX11_init_32 (t := 2) (N := 60) ⟨rfl, Or.inr (Or.inr rfl)⟩ ac_char (rfl) (by decide) (by (try simp [sState, sHist]) <;> omega) (by (try simp [okl, oklo, sState, sHist]) <;> omega) ⟨Nat.le_of_ble_eq_true rfl, Nat.le_of_ble_eq_true rfl⟩ ?_
  refine V_putF 4 dX11_init_34 rfl fl_RX11_19 fp_RX11_19 (by repeat first | with_reducible exact hs | with_reducible exact gN | with_reducible apply gA) rfl rfl rfl rfl (by (try simp [sState, sHist]) <;> omega) ?_
  refine V_aload_n dX11_init_37 rfl ?_
  refine V_sipush dX11_init_38 (by decide) ?_
  refine V_newa dX11_init_41 (t := 0) (N := 6441) ⟨rfl, Or.inl rfl⟩ ac_int (rfl) (by decide) (by (try simp [sState, sHist]) <;> omega) (by (try simp [okl, oklo, sState, sHist]) <;> omega) ⟨Nat.le_of_ble_eq_true rfl, Nat.le_of_ble_eq_true rfl⟩ ?_
  refine V_putF 10 dX11_init_43 rfl fl_RX11_23 fp_RX11_23 (by repeat first | with_reducible exact hs | with_reducible exact gN | with_reducible apply gA) rfl rfl rfl rfl (by (try simp [sState, sHist]) <;> omega) ?_
  refine V_aload_n dX11_init_46 rfl ?_
  refine V_sipush dX11_init_47 (by decide) ?_
  refine V_newa dX11_init_50 (t := 0) (N := 168) ⟨rfl, Or.inl rfl⟩ ac_int (rfl) (by decide) (by (try simp [sState, sHist]) <;> omega) (by (try simp [okl, oklo, sState, sHist]) <;> omega) ⟨Nat.le_of_ble_eq_true rfl, Nat.le_of_ble_eq_true rfl⟩ ?_
  refine V_putF 12 dX11_init_52 rfl fl_RX11_26 fp_RX11_26 (by repeat first | with_reducible exact hs | with_reducible exact gN | with_reducible apply gA) rfl rfl rfl rfl (by (try simp [sState, sHist]) <;> omega) ?_
  refine V_aload_n dX11_init_55 rfl ?_
  refine V_sipush dX11_init_56 (by decide) ?_
  refine V_newa dX11_init_59 (t := 0) (N := 841) ⟨rfl, Or.inl rfl⟩ ac_int (rfl) (by decide) (by (try simp [sState, sHist]) <;> omega) (by (try simp [okl, oklo, sState, sHist]) <;> omega) ⟨Nat.le_of_ble_eq_true rfl, Nat.le_of_ble_eq_true rfl⟩ ?_
  refine V_putF 14 dX11_init_61 rfl fl_RX11_29 fp_RX11_29 (by repeat first | with_reducible exact hs | with_reducible exact gN | with_reducible apply gA) rfl rfl rfl rfl (by (try simp [sState, sHist]) <;> omega) ?_
  refine V_aload_n dX11_init_64 rfl ?_
  refine V_sipush dX11_init_65 (by decide) ?_
  refine V_newa dX11_init_68 (t := 1) (N := 841) ⟨rfl, Or.inr (Or.inl rfl)⟩ ac_long (rfl) (by decide) (by (try simp [sState, sHist]) <;> omega) (by (try simp [okl, oklo, sState, sHist]) <;> omega) ⟨Nat.le_of_ble_eq_true rfl, Nat.le_of_ble_eq_true rfl⟩ ?_
  refine V_putF 15 dX11_init_70 rfl fl_RX11_32 fp_RX11_32 (by repeat first | with_reducible exact hs | with_reducible exact gN | with_reducible apply gA) rfl rfl rfl rfl (by (try simp [sState, sHist]) <;> omega) ?_
  refine V_aload_n dX11_init_73 rfl ?_
  refine V_sipush dX11_init_74 (by decide) ?_
  refine V_newa dX11_init_77 (t := 2) (N := 400) ⟨rfl, Or.inr (Or.inr rfl)⟩ ac_char (rfl) (by decide) (by (try simp [sState, sHist]) <;> omega) (by (try simp [okl, oklo, sState, sHist]) <;> omega) ⟨Nat.le_of_ble_eq_true rfl, Nat.le_of_ble_eq_true rfl⟩ ?_
  refine V_putF 16 dX11_init_79 rfl fl_RX11_36 fp_RX11_36 (by repeat first | with_reducible exact hs | with_reducible exact gN | with_reducible apply gA) rfl rfl rfl rfl (by (try simp [sState, sHist]) <;> omega) ?_
  refine V_aload_n dX11_init_82 rfl ?_
  refine V_bipush dX11_init_83 (by decide) ?_
  refine V_newa dX11_init_85 (t := 0) (N := 29) ⟨rfl, Or.inl rfl⟩ ac_int (rfl) (by decide) (by (try simp [sState, sHist]) <;> omega) (by (try simp [okl, oklo, sState, sHist]) <;> omega) ⟨Nat.le_of_ble_eq_true rfl, Nat.le_of_ble_eq_true rfl⟩ ?_
  refine V_putF 18 dX11_init_87 rfl fl_RX11_39 fp_RX11_39 (by repeat first | with_reducible exact hs | with_reducible exact gN | with_reducible apply gA) rfl rfl rfl rfl (by (try simp [sState, sHist]) <;> omega) ?_
  refine V_aload_n dX11_init_90 rfl ?_
  refine V_bipush dX11_init_91 (by decide) ?_
  refine V_newa dX11_init_93 (t := 0) (N := 29) ⟨rfl, Or.inl rfl⟩ ac_int (rfl) (by decide) (by (try simp [sState, sHist]) <;> omega) (by (try simp [okl, oklo, sState, sHist]) <;> omega) ⟨Nat.le_of_ble_eq_true rfl, Nat.le_of_ble_eq_true rfl⟩ ?_
  refine V_putF 19 dX11_init_95 rfl fl_RX11_42 fp_RX11_42 (by repeat first | with_reducible exact hs | with_reducible exact gN | with_reducible apply gA) rfl rfl rfl rfl (by (try simp [sState, sHist]) <;> omega) ?_
  refine V_aload_n dX11_init_98 rfl ?_
  refine V_bipush dX11_init_99 (by decide) ?_
  refine V_newa dX11_init_101 (t := 0) (N := 28) ⟨rfl, Or.inl rfl⟩ ac_int (rfl) (by decide) (by (try simp [sState, sHist]) <;> omega) (by (try simp [okl, oklo, sState, sHist]) <;> omega) ⟨Nat.le_of_ble_eq_true rfl, Nat.le_of_ble_eq_true rfl⟩ ?_
  refine V_putF 22 dX11_init_103 rfl fl_RX11_45 fp_RX11_45 (by repeat first | with_reducible exact hs | with_reducible exact gN | with_reducible apply gA) rfl rfl rfl rfl (by (try simp [sState, sHist]) <;> omega) ?_
  refine V_aload_n dX11_init_106 rfl ?_
  refine V_getr 0 _ dX11_init_107 fl_RX11_7 (by repeat first | with_reducible exact hs | with_reducible exact gN | with_reducible apply gA) rfl rfl (by simp [up2, up1, zm, hn0, hnk]; rfl) ?_
  refine V_iconst dX11_init_110 ?_
  refine V_bipush dX11_init_111 (by decide) ?_
  refine V_iast dX11_init_113 (by repeat first | with_reducible exact hs | with_reducible exact gN | with_reducible apply gA) (by decide) (by omega) ?_
  refine V_aload_n dX11_init_114 rfl ?_
  refine V_getr 0 _ dX11_init_115 fl_RX11_7 (by repeat first | with_reducible exact hs | with_reducible exact gN | with_reducible apply gA) rfl rfl (by simp [up2, up1, zm, hn0, hnk]; rfl) ?_
  refine V_iconst dX11_init_118 ?_
  refine V_iconst dX11_init_119 ?_
  refine V_iast dX11_init_120 (by repeat first | with_reducible exact hs | with_reducible exact gN | with_reducible apply gA) (by decide) (by omega) ?_
  refine V_aload_n dX11_init_121 rfl ?_
  refine V_getr 0 _ dX11_init_122 fl_RX11_7 (by repeat first | with_reducible exact hs | with_reducible exact gN | with_reducible apply gA) rfl rfl (by simp [up2, up1, zm, hn0, hnk]; rfl) ?_
  refine V_iconst dX11_init_125 ?_
  refine V_iconst dX11_init_126 ?_
  refine V_iast dX11_init_127 (by repeat first | with_reducible exact hs | with_reducible exact gN | with_reducible apply gA) (by decide) (by omega) ?_
  refine V_vret dX11_init_128 rfl ⟨Nat.le_of_ble_eq_true rfl, Nat.le_of_ble_eq_true rfl⟩ ?_
  exact ⟨rfl, by simp [sMod], by simp [iMod, iZ], by simp [rMod, rF]⟩
end INITS2
