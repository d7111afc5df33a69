/-! ===== DiagonalTextsModel: steps and their text ===== -/
section MODEL7
variable {mi mi1 mi2 mi3 mi4 : MI} {mr : MR} {n m n' m' tl D : Int} {A B A' B' Z T F : Int → Int} {hs hs' : List St} {u : Int × (Int → Int)} {σ : St}
theorem sc_lt (hA : NR n A) (hB : NR m B) (hD : isD n m A B D) {i : Int} (h0 : 0 ≤ i) (h1 : i < sL n m D) : (0 ≤ sK A B n m D i ∧ sK A B n m D i ≤ 2) ∧ (0 ≤ sX A B n m D i ∧ sX A B n m D i ≤ n) ∧ (0 ≤ sY A B n m D i ∧ sY A B n m D i ≤ m) ∧ (sK A B n m D i = 2 → sY A B n m D i < m) ∧ (sK A B n m D i ≠ 2 → sX A B n m D i < n) := by
  have h := sc_ok hA hB hD
  have r1 := h.2.1 i h0 (by omega)
  have r2 := h.2.1 (i + 1) (by omega) (by omega)
  have r3 := h.2.2 i h0 h1
  omega
set_option maxRecDepth 100000 in
theorem c_X11_kind {k : Int} (hG : Gr mr) (hk : 0 ≤ k ∧ k < 56) : CP yX11_kind cX11_kind 2 (some .int) 0 SH mi mr [vr 62, vi k] (vi (mi 68 (3 * k))) := by
  refine Ct.ofV (ini := false) [some (vr 62), some (vi k)] km_X11_kind (by decide) rfl (Nat.le_of_ble_eq_true rfl) ?_
  refine V_aload_n dX11_kind_0 rfl ?_
  refine V_getr 12 _ dX11_kind_1 fl_RX11_26 (by first | with_reducible assumption | rfl) rfl rfl (by first | with_reducible assumption | exact hG.at rfl) ?_
  refine V_iconst dX11_kind_4 ?_
  refine V_iload_n dX11_kind_5 rfl ?_
  refine V_imul dX11_kind_6 ?_
  refine V_iald dX11_kind_7 (by first | with_reducible assumption | rfl) (by decide) (by omega) ?_
  refine V_iret dX11_kind_8 rfl ⟨Nat.le_of_ble_eq_true rfl, Nat.le_of_ble_eq_true rfl⟩ ?_
  exact ⟨rfl, rfl, rfl, rfl⟩
set_option maxRecDepth 100000 in
set_option maxHeartbeats 1000000 in
theorem c_X11_stepOf {i w : Int} (hG : Gr mr) (hD : isD n m A B D) (hi : rng i) (hw : rng w) (h : RepM mi ((n, m, A, B, Z), hs, tl, T)) : C1 yX11_stepOf cX11_stepOf 5 (some .int) 6 SH mi mr [vr 62, vi i, vi w] (PoM (opScr D n m A B Z (hs, tl, T) (0 ≤ i ∧ 0 ≤ w ∧ w ≤ 3) (vStep D n m A B i w)) mi mr) := by
  have hS := h.2.1
  have hA : NR n A := hS.1
  have hB : NR m B := hS.2.1
  have hn := hA.1
  have hm := hB.1
  have hLr := sL_r hA hB hD
  refine Ct.ofV (ini := false) [some (vr 62), some (vi i), some (vi w), none, none] km_X11_stepOf (by decide) rfl (Nat.le_of_ble_eq_true rfl) ?_
  unfold opScr
  by_cases hin : 0 ≤ i ∧ 0 ≤ w ∧ w ≤ 3
  · rw [if_neg (not_not_intro hin)]
    have e1 : (if 0 ≤ w ∧ w ≤ 3 then (1 : Int) else 0) = 1 := if_pos hin.2
    refine V_iload_n dX11_stepOf_0 rfl ?_
    refine V_if_lt 13 dX11_stepOf_1 (by decide) (by omega) (fun h1 => absurd h1 ((by omega))) (fun _ => ?_)
    refine V_iload_n dX11_stepOf_4 rfl ?_
    refine V_iconst dX11_stepOf_5 ?_
    refine V_iconst dX11_stepOf_6 ?_
    refine V_callSP dX11_stepOf_7 ml_RX11_48 km_X11_in ks_X11_in (c_X11_in (v := w) (a := 0) (b := 3) (by omega) (by omega) (by omega)) rfl rfl (Nat.le_of_ble_eq_true rfl) ⟨Nat.le_of_ble_eq_true rfl, Nat.le_of_ble_eq_true rfl⟩ ⟨Nat.le_of_ble_eq_true rfl, Nat.le_of_ble_eq_true rfl⟩ ?_
    rw [e1]
    refine V_if_ne 16 dX11_stepOf_10 (by decide) (by omega) (fun _ => ?_) (fun h10 => absurd h10 ((by decide)))
    refine V_aload_n dX11_stepOf_16 rfl ?_
    refine V_callV1 dX11_stepOf_17 ml_RX11_102 km_X11_traces kv_X11_traces (c_X11_traces hG hD h) (by first | with_reducible assumption | rfl) rfl rfl rfl (Nat.le_of_ble_eq_true rfl) ⟨Nat.le_of_ble_eq_true rfl, Nat.le_of_ble_eq_true rfl⟩ ⟨Nat.le_of_ble_eq_true rfl, Nat.le_of_ble_eq_true rfl⟩ ?_
    rintro v mi2 mr2 ⟨rfl, rfl, ⟨k1, k2⟩, k3, k4, k5⟩
    have hfin : RepM mi2 ((n, m, A, B, Z), hs, tl, T) ∧ ∀ x, x < 62 → mi2 x = mi x := ⟨h.keep (k4 3 (by decide) (by decide)) (k4 5 (by decide) (by decide)) (fun x hx => k5 x (by omega) (by omega) (by omega)), fun x hx => k5 x (by omega) (by omega) (by omega)⟩
    have hR2 : RowM (mi2 63) (n, m, A, B, Z) := hfin.1.1
    refine V_if_ne 26 dX11_stepOf_20 (by decide) (by split <;> omega) (fun h20 => ?_) (fun h20 => ?_)
    · have hzd : ¬ Z 0 < D := fun hc => by rw [if_pos hc] at h20; omega
      refine V_iload_n dX11_stepOf_26 rfl ?_
      refine V_aload_n dX11_stepOf_27 rfl ?_
      refine V_geti 13 dX11_stepOf_28 fl_RX11_95 (by first | with_reducible assumption | rfl) rfl rfl ?_
      rw [k1]
      refine V_icmp_lt 37 dX11_stepOf_31 (by decide) (by omega) (by omega) (fun h31 => ?_) (fun h31 => ?_)
      · obtain ⟨f1, f2, f3⟩ := k2 i hin.1 (by omega)
        have hil : ¬ sL n m D ≤ i := by omega
        have hlt := sc_lt hA hB hD hin.1 (show i < sL n m D by omega)
        refine V_aload_n dX11_stepOf_37 rfl ?_
        refine V_getr 12 _ dX11_stepOf_38 fl_RX11_26 (by first | with_reducible assumption | rfl) rfl rfl (by first | with_reducible assumption | exact hG.at rfl) ?_
        refine V_iconst dX11_stepOf_41 ?_
        refine V_iload_n dX11_stepOf_42 rfl ?_
        refine V_imul dX11_stepOf_43 ?_
        refine V_iconst dX11_stepOf_44 ?_
        refine V_iadd dX11_stepOf_45 ?_
        refine V_iald dX11_stepOf_46 (by first | with_reducible assumption | rfl) (by decide) (by omega) ?_
        rw [f2]
        refine S_istore_n (ls' := [_, _, _, _, _]) dX11_stepOf_47 ⟨Nat.le_of_ble_eq_true rfl, rfl, rfl⟩ rfl ?_
        refine V_aload_n dX11_stepOf_48 rfl ?_
        refine V_getr 12 _ dX11_stepOf_49 fl_RX11_26 (by first | with_reducible assumption | rfl) rfl rfl (by first | with_reducible assumption | exact hG.at rfl) ?_
        refine V_iconst dX11_stepOf_52 ?_
        refine V_iload_n dX11_stepOf_53 rfl ?_
        refine V_imul dX11_stepOf_54 ?_
        refine V_iconst dX11_stepOf_55 ?_
        refine V_iadd dX11_stepOf_56 ?_
        refine V_iald dX11_stepOf_57 (by first | with_reducible assumption | rfl) (by decide) (by omega) ?_
        rw [f3]
        refine S_istore (ls' := [_, _, _, _, _]) dX11_stepOf_58 ⟨Nat.le_of_ble_eq_true rfl, rfl, rfl⟩ rfl ?_
        refine V_iload_n dX11_stepOf_60 rfl ?_
        refine V_if_ne 72 dX11_stepOf_61 (by decide) (by omega) (fun h61 => ?_) (fun h61 => ?_)
        · refine V_iload_n dX11_stepOf_72 rfl ?_
          refine V_iconst dX11_stepOf_73 ?_
          refine V_icmp_ne 81 dX11_stepOf_74 (by decide) (by omega) (by omega) (fun h74 => ?_) (fun h74 => ?_)
          · refine V_iload_n dX11_stepOf_81 rfl ?_
            refine V_iconst dX11_stepOf_82 ?_
            refine V_icmp_ne 91 dX11_stepOf_83 (by decide) (by omega) (by omega) (fun h83 => ?_) (fun h83 => ?_)
            · refine V_aload_n dX11_stepOf_91 rfl ?_
              refine V_iload_n dX11_stepOf_92 rfl ?_
              refine V_callVP dX11_stepOf_93 ml_RX11_106 km_X11_kind kv_X11_kind (c_X11_kind hG (by omega)) (by first | with_reducible assumption | rfl) rfl rfl rfl (Nat.le_of_ble_eq_true rfl) ⟨Nat.le_of_ble_eq_true rfl, Nat.le_of_ble_eq_true rfl⟩ ⟨Nat.le_of_ble_eq_true rfl, Nat.le_of_ble_eq_true rfl⟩ ?_
              rw [f1]
              refine V_iconst dX11_stepOf_96 ?_
              refine V_icmp_ne 110 dX11_stepOf_97 (by decide) (by omega) (by omega) (fun h97 => ?_) (fun h97 => ?_)
              · refine V_aload_n dX11_stepOf_110 rfl ?_
                refine V_iconst dX11_stepOf_111 ?_
                refine V_iload_n dX11_stepOf_112 rfl ?_
                refine V_callVP dX11_stepOf_113 ml_RX11_52 km_X11_letter kv_X11_letter (c_X11_letter (row := 0) hG (Or.inl rfl) (by omega)) (by first | with_reducible assumption | rfl) rfl rfl rfl (Nat.le_of_ble_eq_true rfl) ⟨Nat.le_of_ble_eq_true rfl, Nat.le_of_ble_eq_true rfl⟩ ⟨Nat.le_of_ble_eq_true rfl, Nat.le_of_ble_eq_true rfl⟩ ?_
                rw [letA hR2 (by omega)]
                refine V_iret dX11_stepOf_116 rfl ⟨Nat.le_of_ble_eq_true rfl, Nat.le_of_ble_eq_true rfl⟩ ?_
                refine ⟨rfl, _, rfl, ?_, rfl, hfin⟩
                rw [if_neg hzd]
                unfold vStep
                rw [if_neg hil]
                first | (rw [if_pos (show w = 0 by omega)]; done) | (rw [if_neg (show ¬ w = 0 by omega), if_neg (show ¬ w = 1 by omega), if_pos (show w = 2 by omega)]; done) | (rw [if_neg (show ¬ w = 0 by omega), if_neg (show ¬ w = 1 by omega), if_neg (show ¬ w = 2 by omega)]; done) | (rw [if_neg (show ¬ w = 0 by omega), if_pos (show w = 1 by omega)]; unfold sLt; first | (rw [if_pos (show sK A B n m D i = 2 by omega)]; done) | (rw [if_neg (show ¬ sK A B n m D i = 2 by omega)]; done))
              · refine V_aload_n dX11_stepOf_100 rfl ?_
                refine V_iconst dX11_stepOf_101 ?_
                refine V_iload dX11_stepOf_102 rfl ?_
                refine V_callVP dX11_stepOf_104 ml_RX11_52 km_X11_letter kv_X11_letter (c_X11_letter (row := 1) hG (Or.inr rfl) (by omega)) (by first | with_reducible assumption | rfl) rfl rfl rfl (Nat.le_of_ble_eq_true rfl) ⟨Nat.le_of_ble_eq_true rfl, Nat.le_of_ble_eq_true rfl⟩ ⟨Nat.le_of_ble_eq_true rfl, Nat.le_of_ble_eq_true rfl⟩ ?_
                rw [letB hR2 (by omega)]
                refine V_goto 116 dX11_stepOf_107 (by decide) ?_
                refine V_iret dX11_stepOf_116 rfl ⟨Nat.le_of_ble_eq_true rfl, Nat.le_of_ble_eq_true rfl⟩ ?_
                refine ⟨rfl, _, rfl, ?_, rfl, hfin⟩
                rw [if_neg hzd]
                unfold vStep
                rw [if_neg hil]
                first | (rw [if_pos (show w = 0 by omega)]; done) | (rw [if_neg (show ¬ w = 0 by omega), if_neg (show ¬ w = 1 by omega), if_pos (show w = 2 by omega)]; done) | (rw [if_neg (show ¬ w = 0 by omega), if_neg (show ¬ w = 1 by omega), if_neg (show ¬ w = 2 by omega)]; done) | (rw [if_neg (show ¬ w = 0 by omega), if_pos (show w = 1 by omega)]; unfold sLt; first | (rw [if_pos (show sK A B n m D i = 2 by omega)]; done) | (rw [if_neg (show ¬ sK A B n m D i = 2 by omega)]; done))
            · refine V_iload dX11_stepOf_86 rfl ?_
              refine V_goto 116 dX11_stepOf_88 (by decide) ?_
              refine V_iret dX11_stepOf_116 rfl ⟨Nat.le_of_ble_eq_true rfl, Nat.le_of_ble_eq_true rfl⟩ ?_
              refine ⟨rfl, _, rfl, ?_, rfl, hfin⟩
              rw [if_neg hzd]
              unfold vStep
              rw [if_neg hil]
              first | (rw [if_pos (show w = 0 by omega)]; done) | (rw [if_neg (show ¬ w = 0 by omega), if_neg (show ¬ w = 1 by omega), if_pos (show w = 2 by omega)]; done) | (rw [if_neg (show ¬ w = 0 by omega), if_neg (show ¬ w = 1 by omega), if_neg (show ¬ w = 2 by omega)]; done) | (rw [if_neg (show ¬ w = 0 by omega), if_pos (show w = 1 by omega)]; unfold sLt; first | (rw [if_pos (show sK A B n m D i = 2 by omega)]; done) | (rw [if_neg (show ¬ sK A B n m D i = 2 by omega)]; done))
          · refine V_iload_n dX11_stepOf_77 rfl ?_
            refine V_goto 116 dX11_stepOf_78 (by decide) ?_
            refine V_iret dX11_stepOf_116 rfl ⟨Nat.le_of_ble_eq_true rfl, Nat.le_of_ble_eq_true rfl⟩ ?_
            refine ⟨rfl, _, rfl, ?_, rfl, hfin⟩
            rw [if_neg hzd]
            unfold vStep
            rw [if_neg hil]
            first | (rw [if_pos (show w = 0 by omega)]; done) | (rw [if_neg (show ¬ w = 0 by omega), if_neg (show ¬ w = 1 by omega), if_pos (show w = 2 by omega)]; done) | (rw [if_neg (show ¬ w = 0 by omega), if_neg (show ¬ w = 1 by omega), if_neg (show ¬ w = 2 by omega)]; done) | (rw [if_neg (show ¬ w = 0 by omega), if_pos (show w = 1 by omega)]; unfold sLt; first | (rw [if_pos (show sK A B n m D i = 2 by omega)]; done) | (rw [if_neg (show ¬ sK A B n m D i = 2 by omega)]; done))
        · refine V_aload_n dX11_stepOf_64 rfl ?_
          refine V_iload_n dX11_stepOf_65 rfl ?_
          refine V_callVP dX11_stepOf_66 ml_RX11_106 km_X11_kind kv_X11_kind (c_X11_kind hG (by omega)) (by first | with_reducible assumption | rfl) rfl rfl rfl (Nat.le_of_ble_eq_true rfl) ⟨Nat.le_of_ble_eq_true rfl, Nat.le_of_ble_eq_true rfl⟩ ⟨Nat.le_of_ble_eq_true rfl, Nat.le_of_ble_eq_true rfl⟩ ?_
          rw [f1]
          refine V_goto 116 dX11_stepOf_69 (by decide) ?_
          refine V_iret dX11_stepOf_116 rfl ⟨Nat.le_of_ble_eq_true rfl, Nat.le_of_ble_eq_true rfl⟩ ?_
          refine ⟨rfl, _, rfl, ?_, rfl, hfin⟩
          rw [if_neg hzd]
          unfold vStep
          rw [if_neg hil]
          first | (rw [if_pos (show w = 0 by omega)]; done) | (rw [if_neg (show ¬ w = 0 by omega), if_neg (show ¬ w = 1 by omega), if_pos (show w = 2 by omega)]; done) | (rw [if_neg (show ¬ w = 0 by omega), if_neg (show ¬ w = 1 by omega), if_neg (show ¬ w = 2 by omega)]; done) | (rw [if_neg (show ¬ w = 0 by omega), if_pos (show w = 1 by omega)]; unfold sLt; first | (rw [if_pos (show sK A B n m D i = 2 by omega)]; done) | (rw [if_neg (show ¬ sK A B n m D i = 2 by omega)]; done))
      · refine V_ldc (-1000004) dX11_stepOf_34 kc_RX11_70 rfl ?_
        refine V_iret dX11_stepOf_36 rfl ⟨Nat.le_of_ble_eq_true rfl, Nat.le_of_ble_eq_true rfl⟩ ?_
        exact ⟨rfl, _, rfl, by rw [if_neg hzd]; unfold vStep; rw [if_pos (by omega)], rfl, hfin⟩
    · have hzd : Z 0 < D := Decidable.byContradiction fun hc => by rw [if_neg hc] at h20; omega
      refine V_ldc (-1000003) dX11_stepOf_23 kc_RX11_61 rfl ?_
      refine V_iret dX11_stepOf_25 rfl ⟨Nat.le_of_ble_eq_true rfl, Nat.le_of_ble_eq_true rfl⟩ ?_
      exact ⟨rfl, _, rfl, by rw [if_pos hzd], rfl, hfin⟩
  · rw [if_pos hin]
    refine V_iload_n dX11_stepOf_0 rfl ?_
    refine V_if_lt 13 dX11_stepOf_1 (by decide) (by omega) (fun h1 => ?_) (fun h1 => ?_)
    · refine V_ldc (-1000001) dX11_stepOf_13 kc_RX11_56 rfl ?_
      refine V_iret dX11_stepOf_15 rfl ⟨Nat.le_of_ble_eq_true rfl, Nat.le_of_ble_eq_true rfl⟩ ?_
      exact ⟨rfl, _, rfl, rfl, rfl, h, fun _ _ => rfl⟩
    · refine V_iload_n dX11_stepOf_4 rfl ?_
      refine V_iconst dX11_stepOf_5 ?_
      refine V_iconst dX11_stepOf_6 ?_
      refine V_callSP dX11_stepOf_7 ml_RX11_48 km_X11_in ks_X11_in (c_X11_in (v := w) (a := 0) (b := 3) (by omega) (by omega) (by omega)) rfl rfl (Nat.le_of_ble_eq_true rfl) ⟨Nat.le_of_ble_eq_true rfl, Nat.le_of_ble_eq_true rfl⟩ ⟨Nat.le_of_ble_eq_true rfl, Nat.le_of_ble_eq_true rfl⟩ ?_
      refine V_if_ne 16 dX11_stepOf_10 (by decide) (by split <;> omega) (fun h10 => ?_) (fun h10 => ?_)
      · exact absurd (by rw [ifz, Decidable.not_not] at h10; exact ⟨by omega, h10⟩) hin
      · refine V_ldc (-1000001) dX11_stepOf_13 kc_RX11_56 rfl ?_
        refine V_iret dX11_stepOf_15 rfl ⟨Nat.le_of_ble_eq_true rfl, Nat.le_of_ble_eq_true rfl⟩ ?_
        exact ⟨rfl, _, rfl, rfl, rfl, h, fun _ _ => rfl⟩
/-- the text in the Model -/
def MTx (mi : MI) (l : List Int) : Prop := mi 62 17 = l.length ∧ ∀ i : Nat, i < l.length → mi 71 i = l.getD i 0
/-- what writing leaves alone -/
def WKeep (mi' mi : MI) : Prop := (∀ q, q ≠ 17 → mi' 62 q = mi 62 q) ∧ ∀ z, z ≠ 62 → z ≠ 71 → mi' z = mi z
theorem WKeep.tr {a b c : MI} (h : WKeep a b) (h' : WKeep b c) : WKeep a c := ⟨fun q hq => by rw [h.1 q hq, h'.1 q hq], fun z z1 z2 => by rw [h.2 z z1 z2, h'.2 z z1 z2]⟩
set_option maxRecDepth 100000 in
theorem c_X11_writes {c : Int} {l : List Int} (hG : Gr mr) (hc : 0 ≤ c ∧ c ≤ 1000) (h : MTx mi l) (hl : l.length < 400) : C0 yX11_writes cX11_writes 2 none 0 SH mi mr [vr 62, vi c] (fun mi' mr' => mr' = mr ∧ MTx mi' (l ++ [c]) ∧ WKeep mi' mi) := by
  obtain ⟨h1, h2⟩ := h
  refine Ct.ofV (ini := false) [some (vr 62), some (vi c)] km_X11_writes (by decide) rfl (Nat.le_of_ble_eq_true rfl) ?_
  refine V_aload_n dX11_writes_0 rfl ?_
  refine V_getr 16 _ dX11_writes_1 fl_RX11_36 (by first | with_reducible assumption | rfl) rfl rfl (by exact (hG.at rfl : mr 62 16 = some 71)) ?_
  refine V_aload_n dX11_writes_4 rfl ?_
  refine V_geti 17 dX11_writes_5 fl_RX11_109 (by first | with_reducible assumption | rfl) rfl rfl ?_
  rw [h1]
  refine V_iload_n dX11_writes_8 rfl ?_
  refine V_i2c dX11_writes_9 (by omega) ?_
  refine V_cast dX11_writes_10 (by first | with_reducible assumption | rfl) (by decide) (by omega) (by omega) ?_
  refine V_aload_n dX11_writes_11 rfl ?_
  refine V_dup dX11_writes_12 rfl ?_
  refine V_geti 17 dX11_writes_13 fl_RX11_109 (by first | with_reducible assumption | rfl) rfl rfl ?_
  rw [up2_n _ _ _ (by decide), h1]
  refine V_iconst dX11_writes_16 ?_
  refine V_iadd dX11_writes_17 ?_
  refine V_puti 17 dX11_writes_18 fl_RX11_109 (by first | with_reducible assumption | rfl) rfl rfl rfl ?_
  refine V_vret dX11_writes_21 rfl ⟨Nat.le_of_ble_eq_true rfl, Nat.le_of_ble_eq_true rfl⟩ ?_
  refine ⟨rfl, rfl, rfl, ⟨?_, fun i hi => ?_⟩, fun q hq => ?_, fun z z1 z2 => ?_⟩
  · rw [up2_ss]; simp
  · rw [up2_n _ _ _ (by decide)]
    simp at hi
    by_cases he : i = l.length
    · subst he; rw [up2_ss]; simp
    · rw [up2_sn _ _ _ (by omega), h2 i (by omega)]
      simp [List.getD, List.getElem?_append_left (show i < l.length by omega)]
  · rw [up2_sn _ _ _ hq, up2_n _ _ _ (by decide)]
  · rw [up2_n _ _ _ z1, up2_n _ _ _ z2]
set_option maxRecDepth 100000 in
theorem c_X11_number {v : Int} {l : List Int} (hG : Gr mr) (hv : 1 ≤ v ∧ v ≤ 56) (h : MTx mi l) (hl : l.length + 2 < 400) : C0 yX11_number cX11_number 2 none 1 SH mi mr [vr 62, vi v] (fun mi' mr' => mr' = mr ∧ MTx mi' (l ++ num v) ∧ WKeep mi' mi) := by
  refine Ct.ofV (ini := false) [some (vr 62), some (vi v)] km_X11_number (by decide) rfl (Nat.le_of_ble_eq_true rfl) ?_
  refine V_iload_n dX11_number_0 rfl ?_
  refine V_bipush dX11_number_1 (by decide) ?_
  refine V_icmp_le 17 dX11_number_3 (by decide) (by omega) (by omega) (fun h3 => ?_) (fun h3 => ?_)
  · have e : num v = [48 + v % 10] := by unfold num; rw [if_pos (by omega)]
    rw [e]
    have h' := h
    have hw : WKeep mi mi := ⟨fun _ _ => rfl, fun _ _ _ => rfl⟩
    refine V_aload_n dX11_number_17 rfl ?_
    refine V_bipush dX11_number_18 (by decide) ?_
    refine V_iload_n dX11_number_20 rfl ?_
    refine V_bipush dX11_number_21 (by decide) ?_
    refine V_irem dX11_number_23 (by omega) (by omega) ?_
    refine V_iadd dX11_number_24 ?_
    refine V_callV0 dX11_number_25 ml_RX11_112 km_X11_writes kv_X11_writes (c_X11_writes (c := 48 + v % 10) hG (by omega) h' (by first | omega | (simp; omega))) (by first | with_reducible assumption | rfl) rfl rfl rfl (Nat.le_of_ble_eq_true rfl) ⟨Nat.le_of_ble_eq_true rfl, Nat.le_of_ble_eq_true rfl⟩ ⟨Nat.le_of_ble_eq_true rfl, Nat.le_of_ble_eq_true rfl⟩ ?_
    rintro mi3 mr3 ⟨rfl, j1, j2⟩
    refine V_vret dX11_number_28 rfl ⟨Nat.le_of_ble_eq_true rfl, Nat.le_of_ble_eq_true rfl⟩ ?_
    exact ⟨rfl, rfl, rfl, j1, j2.tr hw⟩
  · refine V_aload_n dX11_number_6 rfl ?_
    refine V_bipush dX11_number_7 (by decide) ?_
    refine V_iload_n dX11_number_9 rfl ?_
    refine V_bipush dX11_number_10 (by decide) ?_
    refine V_idiv dX11_number_12 (by omega) (by omega) ?_
    refine V_iadd dX11_number_13 ?_
    refine V_callV0 dX11_number_14 ml_RX11_112 km_X11_writes kv_X11_writes (c_X11_writes (c := 48 + v / 10) hG (by omega) h (by omega)) (by first | with_reducible assumption | rfl) rfl rfl rfl (Nat.le_of_ble_eq_true rfl) ⟨Nat.le_of_ble_eq_true rfl, Nat.le_of_ble_eq_true rfl⟩ ⟨Nat.le_of_ble_eq_true rfl, Nat.le_of_ble_eq_true rfl⟩ ?_
    rintro mi2 mr2 ⟨rfl, h', hw⟩
    have e : l ++ num v = (l ++ [48 + v / 10]) ++ [48 + v % 10] := by unfold num; rw [if_neg (by omega), List.append_assoc]; rfl
    rw [e]
    refine V_aload_n dX11_number_17 rfl ?_
    refine V_bipush dX11_number_18 (by decide) ?_
    refine V_iload_n dX11_number_20 rfl ?_
    refine V_bipush dX11_number_21 (by decide) ?_
    refine V_irem dX11_number_23 (by omega) (by omega) ?_
    refine V_iadd dX11_number_24 ?_
    refine V_callV0 dX11_number_25 ml_RX11_112 km_X11_writes kv_X11_writes (c_X11_writes (c := 48 + v % 10) hG (by omega) h' (by first | omega | (simp; omega))) (by first | with_reducible assumption | rfl) rfl rfl rfl (Nat.le_of_ble_eq_true rfl) ⟨Nat.le_of_ble_eq_true rfl, Nat.le_of_ble_eq_true rfl⟩ ⟨Nat.le_of_ble_eq_true rfl, Nat.le_of_ble_eq_true rfl⟩ ?_
    rintro mi3 mr3 ⟨rfl, j1, j2⟩
    refine V_vret dX11_number_28 rfl ⟨Nat.le_of_ble_eq_true rfl, Nat.le_of_ble_eq_true rfl⟩ ?_
    exact ⟨rfl, rfl, rfl, j1, j2.tr hw⟩
theorem tx_run {L : Int} {K Lt : Int → Int} {b e : Nat} {l : List Int} (hK : ∀ i, 0 ≤ i → i < L → 0 ≤ K i) (h0 : tx L K Lt b = ((b : Int), l)) (h1 : b < e) (h2 : (e : Int) ≤ L) (h3 : ∀ i : Int, (b : Int) ≤ i → i < e → K i = K b) (h4 : (e : Int) = L ∨ K e ≠ K b) : tx L K Lt e = ((e : Int), l ++ ptx K Lt b e) := by
  have hk : ∀ i : Int, (b : Int) ≤ i → i < e → kx L K i = K b := fun i i1 i2 => by
    unfold kx
    rw [if_pos (by omega), h3 i i1 i2]
  have hrun : ∀ r : Nat, b + r < e → tx L K Lt (b + r) = ((b : Int), l) := by
    intro r
    induction r with
    | zero => intro _; exact h0
    | succ r ih =>
      intro hr
      rw [← Nat.add_assoc]
      simp only [tx]
      rw [if_pos (by rw [hk _ (by omega) (by omega), hk _ (by omega) (by omega)])]
      exact ih (by omega)
  obtain ⟨r, hr⟩ : ∃ r, e = b + r + 1 := ⟨e - b - 1, by omega⟩
  have e1 := hrun r (by omega)
  have e2 : kx L K ((b + r : Nat) : Int) = K b := hk _ (by omega) (by omega)
  have hKb := hK b (by omega) (by omega)
  have e3 : kx L K (((b + r : Nat) : Int) + 1) ≠ K b := by
    unfold kx
    rw [show ((b + r : Nat) : Int) + 1 = e by omega]
    split
    · rcases h4 with h4 | h4
      · omega
      · exact h4
    · omega
  rw [hr]
  simp only [tx]
  rw [if_neg (by rw [e2]; exact e3), e1]
  rw [show ((b + r : Nat) : Int) + 1 = ((b + r + 1 : Nat) : Int) by omega]
set_option maxRecDepth 100000 in
set_option maxHeartbeats 1000000 in
theorem l_X11_tells {Q : PQ} (hG : Gr mr) (hR : RowM (mi 63) (n, m, A, B, Z)) (hA : NR n A) (hB : NR m B) (hD : isD n m A B D) (hSt : StM mi (sL n m D) (sK A B n m D) (sX A B n m D) (sY A B n m D)) (b : Nat) (hb : (b : Int) < sL n m D) (l : List Int) (hl : (l.length : Int) ≤ 168)
    (kk : ∀ (mi' : MI) (e : Nat), b < e → (e : Int) ≤ sL n m D → (∀ i : Int, (b : Int) ≤ i → i < e → sK A B n m D i = sK A B n m D b) → ((e : Int) = sL n m D ∨ sK A B n m D e ≠ sK A B n m D b) → MTx mi' (l ++ (if sK A B n m D b = 2 then 43 :: lts (sLt A B n m D) b (e - b) else [if sK A B n m D b = 0 then 61 else 45])) → WKeep mi' mi → V (RX11, cX11_tells, 4, rm 2, false, none, none) Q 0 0 SH mi' mr [some (vr 62), some (vi e), some (vi (sK A B n m D b)), some (vi b)] [] 98) :
    ∀ (t e : Nat) (mi' : MI), b ≤ e → (e : Int) ≤ sL n m D → sL n m D - e < t → (∀ i : Int, (b : Int) ≤ i → i < e → sK A B n m D i = sK A B n m D b) → MTx mi' (l ++ (if sK A B n m D b = 2 then 43 :: lts (sLt A B n m D) b (e - b) else [if sK A B n m D b = 0 then 61 else 45])) → WKeep mi' mi → V (RX11, cX11_tells, 4, rm 2, false, none, none) Q 0 0 SH mi' mr [some (vr 62), some (vi e), some (vi (sK A B n m D b)), some (vi b)] [] 48 := by
  have hLr := sL_r hA hB hD
  have hm := hB.1
  have hb0 := sc_lt hA hB hD (i := b) (by omega) hb
  intro t
  induction t with
  | zero => intro e mi' a1 a2 a3; omega
  | succ t ih =>
    intro e mi' a1 a2 a3 a4 a5 a6
    have k1 : mi' 62 13 = sL n m D := by rw [a6.1 13 (by decide)]; exact hSt.1
    have k2 : (e : Int) < sL n m D → mi' 68 (3 * (e : Int)) = sK A B n m D e ∧ mi' 68 (3 * (e : Int) + 2) = sY A B n m D e := fun he => by rw [a6.2 68 (by decide) (by decide)]; exact ⟨(hSt.2 e (by omega) he).1, (hSt.2 e (by omega) he).2.2⟩
    have hlt : (e : Int) < sL n m D → (0 ≤ sK A B n m D e ∧ sK A B n m D e ≤ 2) ∧ (0 ≤ sY A B n m D e) ∧ (sK A B n m D e = 2 → sY A B n m D e < m) := fun he => by have := sc_lt hA hB hD (i := e) (by omega) he; omega
    have hne : b = e → sK A B n m D e = sK A B n m D b := fun he => by rw [he]
    have hR' : RowM (mi' 63) (n, m, A, B, Z) := by rw [a6.2 63 (by decide) (by decide)]; exact hR
    have a4' : sK A B n m D e = sK A B n m D b → ∀ i : Int, (b : Int) ≤ i → i < ((e + 1 : Nat) : Int) → sK A B n m D i = sK A B n m D b := fun he i i1 i2 => by
      by_cases hi : i = e
      · rw [hi]; exact he
      · exact a4 i i1 (by omega)
    refine V_iload_n dX11_tells_48 rfl ?_
    refine V_aload_n dX11_tells_49 rfl ?_
    refine V_geti 13 dX11_tells_50 fl_RX11_95 (by first | with_reducible assumption | rfl) rfl rfl ?_
    rw [k1]
    refine V_icmp_ge 98 dX11_tells_53 (by decide) (by omega) (by omega) (fun h53 => ?_) (fun h53 => ?_)
    · exact kk mi' e (by omega) a2 a4 (Or.inl (by omega)) a5 a6
    · have k2 := k2 (by omega)
      have hlt := hlt (by omega)
      refine V_aload_n dX11_tells_56 rfl ?_
      refine V_iload_n dX11_tells_57 rfl ?_
      refine V_callVP dX11_tells_58 ml_RX11_106 km_X11_kind kv_X11_kind (c_X11_kind hG (by omega)) (by first | with_reducible assumption | rfl) rfl rfl rfl (Nat.le_of_ble_eq_true rfl) ⟨Nat.le_of_ble_eq_true rfl, Nat.le_of_ble_eq_true rfl⟩ ⟨Nat.le_of_ble_eq_true rfl, Nat.le_of_ble_eq_true rfl⟩ ?_
      rw [k2.1]
      refine V_iload_n dX11_tells_61 rfl ?_
      refine V_icmp_ne 98 dX11_tells_62 (by decide) (by omega) (by omega) (fun h62 => ?_) (fun h62 => ?_)
      · exact kk mi' e (by by_cases hbe : b = e; (exact absurd (hne hbe) h62); omega) a2 a4 (Or.inr h62) a5 a6
      · refine V_iload_n dX11_tells_65 rfl ?_
        refine V_iconst dX11_tells_66 ?_
        refine V_icmp_ne 92 dX11_tells_67 (by decide) (by omega) (by omega) (fun h67 => ?_) (fun h67 => ?_)
        · rw [if_neg h67] at a5
          refine S_iinc (ls' := [_, _, _, _]) dX11_tells_92 rfl ⟨rfl, rfl⟩ rfl ?_
          refine V_goto 48 dX11_tells_95 (by decide) ?_
          exact ih (e + 1) mi' (by omega) (by omega) (by omega) (a4' h62) (by rw [if_neg h67]; exact a5) a6
        · rw [if_pos h67] at a5
          have hy : sY A B n m D e < m := hlt.2.2 (by omega)
          have eB := letB hR' (p := sY A B n m D e) ⟨hlt.2.1, hy⟩
          have eLt : sLt A B n m D e = B (sY A B n m D e) := by unfold sLt; rw [if_pos (by omega)]
          have hBr := hB.2.1 (sY A B n m D e) hlt.2.1 hy
          refine V_aload_n dX11_tells_70 rfl ?_
          refine V_bipush dX11_tells_71 (by decide) ?_
          refine V_aload_n dX11_tells_73 rfl ?_
          refine V_iconst dX11_tells_74 ?_
          refine V_aload_n dX11_tells_75 rfl ?_
          refine V_getr 12 _ dX11_tells_76 fl_RX11_26 (by first | with_reducible assumption | rfl) rfl rfl (by first | with_reducible assumption | exact hG.at rfl) ?_
          refine V_iconst dX11_tells_79 ?_
          refine V_iload_n dX11_tells_80 rfl ?_
          refine V_imul dX11_tells_81 ?_
          refine V_iconst dX11_tells_82 ?_
          refine V_iadd dX11_tells_83 ?_
          refine V_iald dX11_tells_84 (by first | with_reducible assumption | rfl) (by decide) (by omega) ?_
          rw [k2.2]
          refine V_callVP dX11_tells_85 ml_RX11_52 km_X11_letter kv_X11_letter (c_X11_letter (row := 1) hG (Or.inr rfl) (by omega)) (by first | with_reducible assumption | rfl) rfl rfl rfl (Nat.le_of_ble_eq_true rfl) ⟨Nat.le_of_ble_eq_true rfl, Nat.le_of_ble_eq_true rfl⟩ ⟨Nat.le_of_ble_eq_true rfl, Nat.le_of_ble_eq_true rfl⟩ ?_
          rw [eB]
          refine V_iadd dX11_tells_88 ?_
          refine V_callV0 dX11_tells_89 ml_RX11_112 km_X11_writes kv_X11_writes (c_X11_writes (c := 97 + B (sY A B n m D e)) hG (by omega) a5 (by simp [lts_len]; omega)) (by first | with_reducible assumption | rfl) rfl rfl rfl (Nat.le_of_ble_eq_true rfl) ⟨Nat.le_of_ble_eq_true rfl, Nat.le_of_ble_eq_true rfl⟩ ⟨Nat.le_of_ble_eq_true rfl, Nat.le_of_ble_eq_true rfl⟩ ?_
          rintro mi2 mr2 ⟨rfl, j1, j2⟩
          refine S_iinc (ls' := [_, _, _, _]) dX11_tells_92 rfl ⟨rfl, rfl⟩ rfl ?_
          refine V_goto 48 dX11_tells_95 (by decide) ?_
          refine ih (e + 1) mi2 (by omega) (by omega) (by omega) (a4' h62) ?_ (j2.tr a6)
          rw [if_pos h67, show e + 1 - b = (e - b) + 1 by omega]
          simp only [lts]
          rw [show (b : Int) + ((e - b : Nat) : Int) = e by omega, eLt]
          rw [List.append_assoc, List.cons_append] at j1
          exact j1
set_option maxRecDepth 100000 in
set_option maxHeartbeats 1000000 in
theorem c_X11_tells (hG : Gr mr) (hR : RowM (mi 63) (n, m, A, B, Z)) (hA : NR n A) (hB : NR m B) (hD : isD n m A B D) (hSt : StM mi (sL n m D) (sK A B n m D) (sX A B n m D) (sY A B n m D)) : C0 yX11_tells cX11_tells 4 none 2 SH mi mr [vr 62] (fun mi' mr' => mr' = mr ∧ MTx mi' (tx (sL n m D) (sK A B n m D) (sLt A B n m D) (sL n m D).toNat).2 ∧ WKeep mi' mi) := by
  have hLr := sL_r hA hB hD
  have loop : ∀ (t b : Nat) (mi' : MI) (l : List Int) (o2 o3 : Option AV), (b : Int) ≤ sL n m D → sL n m D - b < t → tx (sL n m D) (sK A B n m D) (sLt A B n m D) b = ((b : Int), l) → MTx mi' l → WKeep mi' mi → V (RX11, cX11_tells, 4, rm 2, false, none, none) (fun r sh' mi' mr' => sh' = SH ∧ r = none ∧ mr' = mr ∧ MTx mi' (tx (sL n m D) (sK A B n m D) (sLt A B n m D) (sL n m D).toNat).2 ∧ WKeep mi' mi) 0 0 SH mi' mr [some (vr 62), some (vi b), o2, o3] [] 7 := by
    intro t
    induction t with
    | zero => intro b mi' l o2 o3 a1 a2; omega
    | succ t ih =>
      intro b mi' l o2 o3 a1 a2 a3 a4 a5
      have k1 : mi' 62 13 = sL n m D := by rw [a5.1 13 (by decide)]; exact hSt.1
      have k2 : (b : Int) < sL n m D → mi' 68 (3 * (b : Int)) = sK A B n m D b := fun he => by rw [a5.2 68 (by decide) (by decide)]; exact (hSt.2 b (by omega) he).1
      have hlt : (b : Int) < sL n m D → (0 ≤ sK A B n m D b ∧ sK A B n m D b ≤ 2) := fun he => (sc_lt hA hB hD (i := b) (by omega) he).1
      have hlen := (tx_r (sL n m D) (sK A B n m D) (sLt A B n m D) b).2.2
      rw [a3] at hlen
      simp only at hlen
      by_cases hend : sL n m D ≤ b
      · refine V_iload_n dX11_tells_7 rfl ?_
        refine V_aload_n dX11_tells_8 rfl ?_
        refine V_geti 13 dX11_tells_9 fl_RX11_95 (by first | with_reducible assumption | rfl) rfl rfl ?_
        rw [k1]
        refine V_icmp_ge 119 dX11_tells_12 (by decide) (by omega) (by omega) (fun _ => ?_) (fun h12 => absurd h12 ((not_not_intro hend)))
        refine V_vret dX11_tells_119 rfl ⟨Nat.le_of_ble_eq_true rfl, Nat.le_of_ble_eq_true rfl⟩ ?_
        exact ⟨rfl, rfl, rfl, by rw [show (sL n m D).toNat = b by omega, a3]; exact a4, a5⟩
      · have hbL : (b : Int) < sL n m D := by omega
        have k2 := k2 hbL
        have hlt := hlt hbL
        have after : ∀ (mi2 : MI), MTx mi2 (l ++ (if sK A B n m D b = 2 then 43 :: lts (sLt A B n m D) b 0 else [if sK A B n m D b = 0 then 61 else 45])) → WKeep mi2 mi → V (RX11, cX11_tells, 4, rm 2, false, none, none) (fun r sh' mi' mr' => sh' = SH ∧ r = none ∧ mr' = mr ∧ MTx mi' (tx (sL n m D) (sK A B n m D) (sLt A B n m D) (sL n m D).toNat).2 ∧ WKeep mi' mi) 0 0 SH mi2 mr [some (vr 62), some (vi b), some (vi (sK A B n m D b)), some (vi b)] [] 48 := by
          intro mi2 g1 g2
          refine l_X11_tells (mi := mi) hG hR hA hB hD hSt b hbL l (by omega) (fun mi3 e c1 c2 c3 c4 c5 c6 => ?_) ((sL n m D - b).toNat + 1) b mi2 (by omega) (by omega) (by omega) (fun i i1 i2 => by omega) (by rw [Nat.sub_self]; exact g1) g2
          have htx := tx_run (fun i i1 i2 => (sc_lt hA hB hD i1 i2).1.1) a3 c1 c2 c3 c4
          have hgo := fun (mi4 : MI) (g : MTx mi4 (l ++ ptx (sK A B n m D) (sLt A B n m D) b e)) (g' : WKeep mi4 mi) => ih e mi4 _ (some (vi (sK A B n m D b))) (some (vi b)) c2 (by omega) htx g g'
          have ll := lts_len (sLt A B n m D) b (e - b)
          by_cases h2 : sK A B n m D b = 2
          · rw [if_pos h2] at c5
            have ep : ptx (sK A B n m D) (sLt A B n m D) b e = (43 :: lts (sLt A B n m D) b (e - b)) ++ [59] := by unfold ptx; rw [if_pos h2, show ((e : Int) - b).toNat = e - b by omega]
            refine V_iload_n dX11_tells_98 rfl ?_
            refine V_iconst dX11_tells_99 ?_
            refine V_icmp_eq 110 dX11_tells_100 (by decide) (by omega) (by omega) (fun _ => ?_) (fun h100 => absurd h100 ((not_not_intro h2)))
            refine V_aload_n dX11_tells_110 rfl ?_
            refine V_bipush dX11_tells_111 (by decide) ?_
            refine V_callV0 dX11_tells_113 ml_RX11_112 km_X11_writes kv_X11_writes (c_X11_writes (c := 59) hG (by decide) c5 (by simp [ll]; omega)) (by first | with_reducible assumption | rfl) rfl rfl rfl (Nat.le_of_ble_eq_true rfl) ⟨Nat.le_of_ble_eq_true rfl, Nat.le_of_ble_eq_true rfl⟩ ⟨Nat.le_of_ble_eq_true rfl, Nat.le_of_ble_eq_true rfl⟩ ?_
            rintro mi4 mr4 ⟨rfl, j1, j2⟩
            refine V_goto 7 dX11_tells_116 (by decide) ?_
            exact hgo mi4 (by rw [ep, ← List.append_assoc]; exact j1) (j2.tr c6)
          · rw [if_neg h2] at c5
            have hnl := num_len ((e : Int) - b)
            have ep : ptx (sK A B n m D) (sLt A B n m D) b e = ([if sK A B n m D b = 0 then 61 else 45] ++ num ((e : Int) - b)) ++ [59] := by unfold ptx; rw [if_neg h2]; rfl
            refine V_iload_n dX11_tells_98 rfl ?_
            refine V_iconst dX11_tells_99 ?_
            refine V_icmp_eq 110 dX11_tells_100 (by decide) (by omega) (by omega) (fun h100 => absurd h100 (h2)) (fun _ => ?_)
            refine V_aload_n dX11_tells_103 rfl ?_
            refine V_iload_n dX11_tells_104 rfl ?_
            refine V_iload_n dX11_tells_105 rfl ?_
            refine V_isub dX11_tells_106 ?_
            refine V_callV0 dX11_tells_107 ml_RX11_116 km_X11_number kv_X11_number (c_X11_number (v := (e : Int) - b) hG (by omega) c5 (by simp; omega)) (by first | with_reducible assumption | rfl) rfl rfl rfl (Nat.le_of_ble_eq_true rfl) ⟨Nat.le_of_ble_eq_true rfl, Nat.le_of_ble_eq_true rfl⟩ ⟨Nat.le_of_ble_eq_true rfl, Nat.le_of_ble_eq_true rfl⟩ ?_
            rintro mi4 mr4 ⟨rfl, j1, j2⟩
            refine V_aload_n dX11_tells_110 rfl ?_
            refine V_bipush dX11_tells_111 (by decide) ?_
            refine V_callV0 dX11_tells_113 ml_RX11_112 km_X11_writes kv_X11_writes (c_X11_writes (c := 59) hG (by decide) j1 (by simp; omega)) (by first | with_reducible assumption | rfl) rfl rfl rfl (Nat.le_of_ble_eq_true rfl) ⟨Nat.le_of_ble_eq_true rfl, Nat.le_of_ble_eq_true rfl⟩ ⟨Nat.le_of_ble_eq_true rfl, Nat.le_of_ble_eq_true rfl⟩ ?_
            rintro mi5 mr5 ⟨rfl, j3, j4⟩
            refine V_goto 7 dX11_tells_116 (by decide) ?_
            exact hgo mi5 (by rw [ep, ← List.append_assoc, ← List.append_assoc]; exact j3) (j4.tr (j2.tr c6))
        refine V_iload_n dX11_tells_7 rfl ?_
        refine V_aload_n dX11_tells_8 rfl ?_
        refine V_geti 13 dX11_tells_9 fl_RX11_95 (by first | with_reducible assumption | rfl) rfl rfl ?_
        rw [k1]
        refine V_icmp_ge 119 dX11_tells_12 (by decide) (by omega) (by omega) (fun h12 => absurd h12 (hend)) (fun _ => ?_)
        refine V_aload_n dX11_tells_15 rfl ?_
        refine V_iload_n dX11_tells_16 rfl ?_
        refine V_callVP dX11_tells_17 ml_RX11_106 km_X11_kind kv_X11_kind (c_X11_kind hG (by omega)) (by first | with_reducible assumption | rfl) rfl rfl rfl (Nat.le_of_ble_eq_true rfl) ⟨Nat.le_of_ble_eq_true rfl, Nat.le_of_ble_eq_true rfl⟩ ⟨Nat.le_of_ble_eq_true rfl, Nat.le_of_ble_eq_true rfl⟩ ?_
        rw [k2]
        refine S_istore_n (ls' := [_, _, _, _]) dX11_tells_20 ⟨Nat.le_of_ble_eq_true rfl, rfl, rfl⟩ rfl ?_
        refine V_iload_n dX11_tells_21 rfl ?_
        refine S_istore_n (ls' := [_, _, _, _]) dX11_tells_22 ⟨Nat.le_of_ble_eq_true rfl, rfl, rfl⟩ rfl ?_
        refine V_aload_n dX11_tells_23 rfl ?_
        refine V_iload_n dX11_tells_24 rfl ?_
        refine V_if_ne 33 dX11_tells_25 (by decide) (by omega) (fun h25 => ?_) (fun h25 => ?_)
        · refine V_iload_n dX11_tells_33 rfl ?_
          refine V_iconst dX11_tells_34 ?_
          refine V_icmp_ne 43 dX11_tells_35 (by decide) (by omega) (by omega) (fun h35 => ?_) (fun h35 => ?_)
          · refine V_bipush dX11_tells_43 (by decide) ?_
            refine V_callV0 dX11_tells_45 ml_RX11_112 km_X11_writes kv_X11_writes (c_X11_writes hG (by decide) a4 (by omega)) (by first | with_reducible assumption | rfl) rfl rfl rfl (Nat.le_of_ble_eq_true rfl) ⟨Nat.le_of_ble_eq_true rfl, Nat.le_of_ble_eq_true rfl⟩ ⟨Nat.le_of_ble_eq_true rfl, Nat.le_of_ble_eq_true rfl⟩ ?_
            rintro mi2 mr2 ⟨rfl, j1, j2⟩
            refine after mi2 ?_ (j2.tr a5)
            first | (rw [if_neg (show ¬ sK A B n m D b = 2 by omega), if_pos (show sK A B n m D b = 0 by omega)]; exact j1) | (rw [if_neg (show ¬ sK A B n m D b = 2 by omega), if_neg (show ¬ sK A B n m D b = 0 by omega)]; exact j1) | (rw [if_pos (show sK A B n m D b = 2 by omega)]; exact j1)
          · refine V_bipush dX11_tells_38 (by decide) ?_
            refine V_goto 45 dX11_tells_40 (by decide) ?_
            refine V_callV0 dX11_tells_45 ml_RX11_112 km_X11_writes kv_X11_writes (c_X11_writes hG (by decide) a4 (by omega)) (by first | with_reducible assumption | rfl) rfl rfl rfl (Nat.le_of_ble_eq_true rfl) ⟨Nat.le_of_ble_eq_true rfl, Nat.le_of_ble_eq_true rfl⟩ ⟨Nat.le_of_ble_eq_true rfl, Nat.le_of_ble_eq_true rfl⟩ ?_
            rintro mi2 mr2 ⟨rfl, j1, j2⟩
            refine after mi2 ?_ (j2.tr a5)
            first | (rw [if_neg (show ¬ sK A B n m D b = 2 by omega), if_pos (show sK A B n m D b = 0 by omega)]; exact j1) | (rw [if_neg (show ¬ sK A B n m D b = 2 by omega), if_neg (show ¬ sK A B n m D b = 0 by omega)]; exact j1) | (rw [if_pos (show sK A B n m D b = 2 by omega)]; exact j1)
        · refine V_bipush dX11_tells_28 (by decide) ?_
          refine V_goto 45 dX11_tells_30 (by decide) ?_
          refine V_callV0 dX11_tells_45 ml_RX11_112 km_X11_writes kv_X11_writes (c_X11_writes hG (by decide) a4 (by omega)) (by first | with_reducible assumption | rfl) rfl rfl rfl (Nat.le_of_ble_eq_true rfl) ⟨Nat.le_of_ble_eq_true rfl, Nat.le_of_ble_eq_true rfl⟩ ⟨Nat.le_of_ble_eq_true rfl, Nat.le_of_ble_eq_true rfl⟩ ?_
          rintro mi2 mr2 ⟨rfl, j1, j2⟩
          refine after mi2 ?_ (j2.tr a5)
          first | (rw [if_neg (show ¬ sK A B n m D b = 2 by omega), if_pos (show sK A B n m D b = 0 by omega)]; exact j1) | (rw [if_neg (show ¬ sK A B n m D b = 2 by omega), if_neg (show ¬ sK A B n m D b = 0 by omega)]; exact j1) | (rw [if_pos (show sK A B n m D b = 2 by omega)]; exact j1)
  refine Ct.ofV (ini := false) [some (vr 62), none, none, none] km_X11_tells (by decide) rfl (Nat.le_of_ble_eq_true rfl) ?_
  refine V_aload_n dX11_tells_0 rfl ?_
  refine V_iconst dX11_tells_1 ?_
  refine V_puti 17 dX11_tells_2 fl_RX11_109 (by first | with_reducible assumption | rfl) rfl rfl rfl ?_
  refine V_iconst dX11_tells_5 ?_
  refine S_istore_n (ls' := [_, _, _, _]) dX11_tells_6 ⟨Nat.le_of_ble_eq_true rfl, rfl, rfl⟩ rfl ?_
  exact loop ((sL n m D).toNat + 1) 0 _ [] _ _ (by omega) (by omega) rfl ⟨up2_ss _ _ _ _, fun i hi => absurd hi (by simp)⟩ ⟨fun q hq => up2_sn _ _ _ hq, fun z z1 z2 => up2_n _ _ _ z1⟩
set_option maxRecDepth 100000 in
set_option maxHeartbeats 1000000 in
theorem c_X11_textAt {i : Int} (hG : Gr mr) (hD : isD n m A B D) (hi : rng i) (h : RepM mi ((n, m, A, B, Z), hs, tl, T)) : C1 yX11_textAt cX11_textAt 2 (some .int) 6 SH mi mr [vr 62, vi i] (PoM (opScr D n m A B Z (hs, tl, T) (0 ≤ i) (vText D n m A B i)) mi mr) := by
  have hS := h.2.1
  have hA : NR n A := hS.1
  have hB : NR m B := hS.2.1
  have hR := sc_R hA hB hD
  have hLr := sL_r hA hB hD
  refine Ct.ofV (ini := false) [some (vr 62), some (vi i)] km_X11_textAt (by decide) rfl (Nat.le_of_ble_eq_true rfl) ?_
  unfold opScr
  by_cases hin : 0 ≤ i
  · rw [if_neg (not_not_intro hin)]
    refine V_iload_n dX11_textAt_0 rfl ?_
    refine V_if_ge 7 dX11_textAt_1 (by decide) (by omega) (fun _ => ?_) (fun h1 => absurd h1 ((by omega)))
    refine V_aload_n dX11_textAt_7 rfl ?_
    refine V_callV1 dX11_textAt_8 ml_RX11_102 km_X11_traces kv_X11_traces (c_X11_traces hG hD h) (by first | with_reducible assumption | rfl) rfl rfl rfl (Nat.le_of_ble_eq_true rfl) ⟨Nat.le_of_ble_eq_true rfl, Nat.le_of_ble_eq_true rfl⟩ ⟨Nat.le_of_ble_eq_true rfl, Nat.le_of_ble_eq_true rfl⟩ ?_
    rintro v mi2 mr2 ⟨rfl, rfl, k1, k3, k4, k5⟩
    have hfin : RepM mi2 ((n, m, A, B, Z), hs, tl, T) ∧ ∀ x, x < 62 → mi2 x = mi x := ⟨h.keep (k4 3 (by decide) (by decide)) (k4 5 (by decide) (by decide)) (fun x hx => k5 x (by omega) (by omega) (by omega)), fun x hx => k5 x (by omega) (by omega) (by omega)⟩
    refine V_if_ne 17 dX11_textAt_11 (by decide) (by split <;> omega) (fun h11 => ?_) (fun h11 => ?_)
    · have hzd : ¬ Z 0 < D := fun hc => by rw [if_pos hc] at h11; omega
      refine V_aload_n dX11_textAt_17 rfl ?_
      refine V_callV0 dX11_textAt_18 ml_RX11_119 km_X11_tells kv_X11_tells (c_X11_tells hG hfin.1.1 hA hB hD k1) (by first | with_reducible assumption | rfl) rfl rfl rfl (Nat.le_of_ble_eq_true rfl) ⟨Nat.le_of_ble_eq_true rfl, Nat.le_of_ble_eq_true rfl⟩ ⟨Nat.le_of_ble_eq_true rfl, Nat.le_of_ble_eq_true rfl⟩ ?_
      rintro mi3 mr3 ⟨rfl, ⟨t1, t2⟩, w1, w2⟩
      have hfin3 : RepM mi3 ((n, m, A, B, Z), hs, tl, T) ∧ ∀ x, x < 62 → mi3 x = mi x := ⟨hfin.1.keep (w1 3 (by decide)) (w1 5 (by decide)) (fun x hx => w2 x (by omega) (by omega)), fun x hx => by rw [w2 x (by omega) (by omega), hfin.2 x hx]⟩
      have htr := tx_r (sL n m D) (sK A B n m D) (sLt A B n m D) (sL n m D).toNat
      have hch := tx_ch hR hLr.2.1 (sL n m D).toNat (by omega)
      have hlr := lrow_r hch i
      refine V_iload_n dX11_textAt_21 rfl ?_
      refine V_aload_n dX11_textAt_22 rfl ?_
      refine V_geti 17 dX11_textAt_23 fl_RX11_109 (by first | with_reducible assumption | rfl) rfl rfl ?_
      rw [t1]
      refine V_icmp_ge 38 dX11_textAt_26 (by decide) (by omega) (by omega) (fun h26 => ?_) (fun h26 => ?_)
      · have elr : lrow (tx (sL n m D) (sK A B n m D) (sLt A B n m D) (sL n m D).toNat).2 i = -1 := by unfold lrow; rw [if_neg (by omega)]
        refine V_ldc (-1000004) dX11_textAt_38 kc_RX11_70 rfl ?_
        refine V_iret dX11_textAt_40 rfl ⟨Nat.le_of_ble_eq_true rfl, Nat.le_of_ble_eq_true rfl⟩ ?_
        refine ⟨rfl, _, rfl, ?_, rfl, hfin3⟩
        rw [if_neg hzd]
        unfold vText nf
        first | (rw [if_pos elr]; done) | (rw [if_neg elr2]; done)
      · have elr : mi3 71 i = lrow (tx (sL n m D) (sK A B n m D) (sLt A B n m D) (sL n m D).toNat).2 i := by
          unfold lrow
          rw [if_pos (by omega)]
          have := t2 i.toNat (by omega)
          rw [show ((i.toNat : Nat) : Int) = i by omega] at this
          exact this
        have elr2 : lrow (tx (sL n m D) (sK A B n m D) (sLt A B n m D) (sL n m D).toNat).2 i ≠ -1 := by
          have hlt : i.toNat < (tx (sL n m D) (sK A B n m D) (sLt A B n m D) (sL n m D).toNat).2.length := by omega
          have e : (tx (sL n m D) (sK A B n m D) (sLt A B n m D) (sL n m D).toNat).2.getD i.toNat 0 = (tx (sL n m D) (sK A B n m D) (sLt A B n m D) (sL n m D).toNat).2[i.toNat] := by simp [List.getD, hlt]
          have := hch _ (List.getElem_mem hlt)
          unfold lrow
          rw [if_pos (by omega), e]
          omega
        refine V_aload_n dX11_textAt_29 rfl ?_
        refine V_getr 16 _ dX11_textAt_30 fl_RX11_36 (by first | with_reducible assumption | rfl) rfl rfl (by exact (hG.at rfl : mr3 62 16 = some 71)) ?_
        refine V_iload_n dX11_textAt_33 rfl ?_
        refine V_cald dX11_textAt_34 (by first | with_reducible assumption | rfl) (by decide) (by omega) ?_
        rw [elr]
        refine V_goto 40 dX11_textAt_35 (by decide) ?_
        refine V_iret dX11_textAt_40 rfl ⟨Nat.le_of_ble_eq_true rfl, Nat.le_of_ble_eq_true rfl⟩ ?_
        refine ⟨rfl, _, rfl, ?_, rfl, hfin3⟩
        rw [if_neg hzd]
        unfold vText nf
        first | (rw [if_pos elr]; done) | (rw [if_neg elr2]; done)
    · have hzd : Z 0 < D := Decidable.byContradiction fun hc => by rw [if_neg hc] at h11; omega
      refine V_ldc (-1000003) dX11_textAt_14 kc_RX11_61 rfl ?_
      refine V_iret dX11_textAt_16 rfl ⟨Nat.le_of_ble_eq_true rfl, Nat.le_of_ble_eq_true rfl⟩ ?_
      exact ⟨rfl, _, rfl, by rw [if_pos hzd], rfl, hfin⟩
  · rw [if_pos hin]
    refine V_iload_n dX11_textAt_0 rfl ?_
    refine V_if_ge 7 dX11_textAt_1 (by decide) (by omega) (fun h1 => absurd h1 ((by omega))) (fun _ => ?_)
    refine V_ldc (-1000001) dX11_textAt_4 kc_RX11_56 rfl ?_
    refine V_iret dX11_textAt_6 rfl ⟨Nat.le_of_ble_eq_true rfl, Nat.le_of_ble_eq_true rfl⟩ ?_
    exact ⟨rfl, _, rfl, rfl, rfl, h, fun _ _ => rfl⟩
end MODEL7
