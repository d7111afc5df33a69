/-! ===== DiagonalTextsModel: doesNext ===== -/
section MODEL11
variable {mi mi1 mi2 mi3 mi4 : MI} {mr : MR} {n m n' m' tl D : Int} {A B A' B' Z T F : Int → Int} {hs hs' : List St} {u : Int × (Int → Int)} {σ : St} {bt : List Int}
/-- what doesNext leaves behind -/
abbrev PoN (ps : Int × Int × Int × List Int) (e : Int) (mi : MI) (mr : MR) : AV → MI → MR → Prop := fun v mi' mr' => v = vi ps.1 ∧ mr' = mr ∧ (ps.1 ≠ 0 → mi' 62 8 = nf ps.2.1) ∧ (ps.1 = 0 → mi' 62 6 = e ∧ mi' 62 24 = ps.2.2.1 ∧ MB mi' ps.2.2.2) ∧ PKeep mi' mi
/-- behind a part's form: from 116 on -/

theorem m_X11_doesNext {i d e : Int} {o3 : Option AV} (hG : Gr mr) (hT : MTyp mi (tl, T)) (hR : RowM (mi 63) (n, m, A, B, Z)) (hA : NR n A) (hi : 0 ≤ i ∧ i < tl) (hbk : brk T i = -1) (h6 : mi1 62 6 = e - 1) (he : e = i + pn T i) (h9 : mi1 62 9 = pm T i) (hd : mi1 62 24 = d) (hd0 : 0 ≤ d ∧ d ≤ n) (hB : MB mi1 bt) (hl : bt.length ≤ 28) (hk : PKeep mi1 mi) : V (RX11, cX11_doesNext, 6, rm 2, false, none, (some .int)) (fun r sh' mi' mr' => sh' = SH ∧ ∃ v, r = some v ∧ PoN (pstep A T n i d bt) e mi mr v mi' mr') 0 0 SH mi1 mr [some (vr 62), some (vi i), some (vi (T i)), some (vi 1), some (vi (i + 1)), none] [] 116 := by
  have hn := hA.1
  have htl := hT.2.2.1
  simp only at htl
  have hok := brk_ok hT.2.2 hi.1 hbk
  have rT := hT.2.2.r i
  simp only at hok rT
  have hMT : MTyp (up2 (up2 mi1 62 6 e) 62 8 (-1000004)) (tl, T) := hT.keep (by rw [up2_sn _ _ _ (by decide), up2_sn _ _ _ (by decide)]; exact hk.1 5 (by decide) (by decide) (by decide) (by decide) (by decide) (by decide)) (by rw [up2_n _ _ _ (by decide), up2_n _ _ _ (by decide)]; exact hk.2 66 (by decide) (by decide))
  have hRR : RowM (up2 (up2 mi1 62 6 e) 62 8 (-1000004) 63) (n, m, A, B, Z) := by rw [up2_n _ _ _ (by decide), up2_n _ _ _ (by decide), hk.2 63 (by decide) (by decide)]; exact hR
  have q0 : up2 (up2 mi1 62 6 e) 62 8 (-1000004) 63 0 = n := hRR.1.1
  have g6 : up2 (up2 mi1 62 6 e) 62 8 (-1000004) 62 6 = e := by rw [up2_sn _ _ _ (by decide), up2_ss]
  have g8 : up2 (up2 mi1 62 6 e) 62 8 (-1000004) 62 8 = -1000004 := up2_ss _ _ _ _
  have g9 : up2 (up2 mi1 62 6 e) 62 8 (-1000004) 62 9 = pm T i := by rw [up2_sn _ _ _ (by decide), up2_sn _ _ _ (by decide)]; exact h9
  have g24 : up2 (up2 mi1 62 6 e) 62 8 (-1000004) 62 24 = d := by rw [up2_sn _ _ _ (by decide), up2_sn _ _ _ (by decide)]; exact hd
  have gB : MB (up2 (up2 mi1 62 6 e) 62 8 (-1000004)) bt := ⟨by rw [up2_sn _ _ _ (by decide), up2_sn _ _ _ (by decide)]; exact hB.1, by rw [up2_n _ _ _ (by decide), up2_n _ _ _ (by decide)]; exact hB.2⟩
  have gk : PKeep (up2 (up2 mi1 62 6 e) 62 8 (-1000004)) mi := ⟨fun q q1 q2 q3 q4 q5 q6 => by rw [up2_sn _ _ _ q3, up2_sn _ _ _ q1]; exact hk.1 q q1 q2 q3 q4 q5 q6, fun z z1 z2 => by rw [up2_n _ _ _ z1, up2_n _ _ _ z1]; exact hk.2 z z1 z2⟩
  have front : V (RX11, cX11_doesNext, 6, rm 2, false, none, (some .int)) (fun r sh' mi' mr' => sh' = SH ∧ ∃ v, r = some v ∧ PoN (pstep A T n i d bt) e mi mr v mi' mr') 0 0 SH (up2 (up2 mi1 62 6 e) 62 8 (-1000004)) mr [some (vr 62), some (vi i), some (vi (T i)), some (vi 1), some (vi (i + 1)), none] [] 132 := by
    generalize up2 (up2 mi1 62 6 e) 62 8 (-1000004) = mi2 at hMT hRR q0 g6 g8 g9 g24 gB gk
    have g23 : mi2 62 23 = bt.length := gB.1
    have e0 : pstep A T n i d bt = if T i ≠ 43 ∧ n - d < pm T i then (2, -1, d, bt) else if T i ≠ 45 ∧ 28 < bt.length + pm T i then (3, -1, d, bt) else (0, -1, if T i = 43 then d else d + pm T i, bt ++ padd A T i d) := by
      unfold pstep; rw [if_neg (by omega)]
    have fail : ∀ why, why ≠ 0 → pstep A T n i d bt = (why, -1, d, bt) → PoN (pstep A T n i d bt) e mi mr (vi why) mi2 mr := fun why hw hp => by
      rw [hp]
      exact ⟨rfl, rfl, fun _ => by rw [g8]; rfl, fun h => absurd h hw, gk⟩
    have good : ∀ (mi3 : MI) (d' : Int) (bt' : List Int), pstep A T n i d bt = (0, -1, d', bt') → MB mi3 bt' → (∀ q, q ≠ 23 → mi3 62 q = mi2 62 q) → (∀ z, z ≠ 62 → z ≠ 74 → mi3 z = mi2 z) → PoN (pstep A T n i d bt) e mi mr (vi 0) (up2 mi3 62 24 d') mr := fun mi3 d' bt' hp hb' hq hz => by
      rw [hp]
      refine ⟨rfl, rfl, fun h => absurd rfl h, fun _ => ⟨by rw [up2_sn _ _ _ (by decide), hq 6 (by decide), g6], up2_ss _ _ _ _, ⟨by rw [up2_sn _ _ _ (by decide)]; exact hb'.1, by rw [up2_n _ _ _ (by decide)]; exact hb'.2⟩⟩, fun q q1 q2 q3 q4 q5 q6 => by rw [up2_sn _ _ _ q6, hq q q5]; exact gk.1 q q1 q2 q3 q4 q5 q6, fun z z1 z2 => by rw [up2_n _ _ _ z1, hz z z1 z2]; exact gk.2 z z1 z2⟩
    rcases hok.1 with h43 | h61 | h45
    · have hrun : ∀ j, i + 1 ≤ j → j < i + 1 + pm T i → 97 ≤ T j ∧ T j ≤ 104 := fun j j1 j2 => by
        have h2 := (hok.2.2.2.2.2.2 h43).1
        unfold lr at h2
        have := lrun_run T 60 (i + 1) (j - (i + 1)) (by omega) (by omega)
        rw [show i + 1 + (j - (i + 1)) = j by omega] at this
        exact this
      have hpn := (hok.2.2.2.2.2.2 h43).2
      refine V_iload_n dX11_doesNext_132 rfl ?_
      refine V_bipush dX11_doesNext_133 (by decide) ?_
      refine V_icmp_eq 158 dX11_doesNext_135 (by decide) (by omega) (by omega) (fun _ => ?_) (fun h135 => absurd h135 ((not_not_intro h43)))
      refine V_iload_n dX11_doesNext_158 rfl ?_
      refine V_bipush dX11_doesNext_159 (by decide) ?_
      refine V_icmp_eq 180 dX11_doesNext_161 (by decide) (by omega) (by omega) (fun h161 => absurd h161 ((by omega))) (fun _ => ?_)
      refine V_aload_n dX11_doesNext_164 rfl ?_
      refine V_geti 23 dX11_doesNext_165 fl_RX11_181 (by first | with_reducible assumption | rfl) rfl rfl ?_
      rw [g23]
      refine V_aload_n dX11_doesNext_168 rfl ?_
      refine V_geti 9 dX11_doesNext_169 fl_RX11_164 (by first | with_reducible assumption | rfl) rfl rfl ?_
      rw [g9]
      refine V_iadd dX11_doesNext_172 ?_
      refine V_bipush dX11_doesNext_173 (by decide) ?_
      refine V_icmp_le 180 dX11_doesNext_175 (by decide) (by omega) (by omega) (fun h175 => ?_) (fun h175 => ?_)
      · refine V_iconst dX11_doesNext_180 ?_
        refine S_istore (ls' := [_, _, _, _, _, _]) dX11_doesNext_181 ⟨Nat.le_of_ble_eq_true rfl, rfl, rfl⟩ rfl ?_
        have hgo := l_X11_doesNext (mi := mi2) (i := i) (d := d) (N := pm T i) (o3 := some (vi 1)) (Q := fun r sh' mi' mr' => sh' = SH ∧ ∃ v, r = some v ∧ PoN (pstep A T n i d bt) e mi mr v mi' mr') hG hMT hRR hA (Or.inl h43) (by omega) g9 (by omega) g24 (by omega) hd0.1 (fun _ => ⟨by omega, hrun⟩) (fun h => by omega) (fun mi3 b1 b2 b3 => ?_) ((pm T i).toNat + 1) 0 mi2 (by omega) (by omega) (by rw [if_pos h43]; simpa [sgm] using gB) (fun _ _ => rfl) (fun _ _ _ => rfl)
        · exact hgo
        · rw [if_pos h43] at b1
          refine V_aload_n dX11_doesNext_257 rfl ?_
          refine V_dup dX11_doesNext_258 rfl ?_
          refine V_geti 24 dX11_doesNext_259 fl_RX11_178 (by first | with_reducible assumption | rfl) rfl rfl ?_
          rw [b2 24 (by decide), g24]
          refine V_iload_n dX11_doesNext_262 rfl ?_
          refine V_bipush dX11_doesNext_263 (by decide) ?_
          refine V_icmp_ne 272 dX11_doesNext_265 (by decide) (by omega) (by omega) (fun h265 => absurd h265 ((not_not_intro h43))) (fun _ => ?_)
          refine V_iconst dX11_doesNext_268 ?_
          refine V_goto 276 dX11_doesNext_269 (by decide) ?_
          refine V_iadd dX11_doesNext_276 ?_
          refine V_puti 24 dX11_doesNext_277 fl_RX11_178 (by first | with_reducible assumption | rfl) rfl rfl rfl ?_
          refine V_iconst dX11_doesNext_280 ?_
          refine V_iret dX11_doesNext_281 rfl ⟨Nat.le_of_ble_eq_true rfl, Nat.le_of_ble_eq_true rfl⟩ ?_
          exact ⟨rfl, _, rfl, good mi3 (d + 0) _ (by rw [e0, if_neg (by omega), if_neg (by omega), if_pos h43, Int.add_zero]; unfold padd; rw [if_pos h43]) b1 b2 b3⟩
      · refine V_iconst dX11_doesNext_178 ?_
        refine V_iret dX11_doesNext_179 rfl ⟨Nat.le_of_ble_eq_true rfl, Nat.le_of_ble_eq_true rfl⟩ ?_
        exact ⟨rfl, _, rfl, fail 3 (by decide) (by rw [e0, if_neg (by omega), if_pos (by omega)])⟩
    · refine V_iload_n dX11_doesNext_132 rfl ?_
      refine V_bipush dX11_doesNext_133 (by decide) ?_
      refine V_icmp_eq 158 dX11_doesNext_135 (by decide) (by omega) (by omega) (fun h135 => absurd h135 ((by omega))) (fun _ => ?_)
      refine V_aload_n dX11_doesNext_138 rfl ?_
      refine V_geti 9 dX11_doesNext_139 fl_RX11_164 (by first | with_reducible assumption | rfl) rfl rfl ?_
      rw [g9]
      refine V_aload_n dX11_doesNext_142 rfl ?_
      refine V_getr 0 _ dX11_doesNext_143 fl_RX11_7 (by first | with_reducible assumption | rfl) rfl rfl (by first | with_reducible assumption | exact hG.at rfl) ?_
      refine V_iconst dX11_doesNext_146 ?_
      refine V_iald dX11_doesNext_147 (by first | with_reducible assumption | rfl) (by decide) (by omega) ?_
      rw [q0]
      refine V_aload_n dX11_doesNext_148 rfl ?_
      refine V_geti 24 dX11_doesNext_149 fl_RX11_178 (by first | with_reducible assumption | rfl) rfl rfl ?_
      rw [g24]
      refine V_isub dX11_doesNext_152 ?_
      refine V_icmp_le 158 dX11_doesNext_153 (by decide) (by omega) (by omega) (fun h153 => ?_) (fun h153 => ?_)
      · refine V_iload_n dX11_doesNext_158 rfl ?_
        refine V_bipush dX11_doesNext_159 (by decide) ?_
        refine V_icmp_eq 180 dX11_doesNext_161 (by decide) (by omega) (by omega) (fun h161 => absurd h161 ((by omega))) (fun _ => ?_)
        refine V_aload_n dX11_doesNext_164 rfl ?_
        refine V_geti 23 dX11_doesNext_165 fl_RX11_181 (by first | with_reducible assumption | rfl) rfl rfl ?_
        rw [g23]
        refine V_aload_n dX11_doesNext_168 rfl ?_
        refine V_geti 9 dX11_doesNext_169 fl_RX11_164 (by first | with_reducible assumption | rfl) rfl rfl ?_
        rw [g9]
        refine V_iadd dX11_doesNext_172 ?_
        refine V_bipush dX11_doesNext_173 (by decide) ?_
        refine V_icmp_le 180 dX11_doesNext_175 (by decide) (by omega) (by omega) (fun h175 => ?_) (fun h175 => ?_)
        · refine V_iconst dX11_doesNext_180 ?_
          refine S_istore (ls' := [_, _, _, _, _, _]) dX11_doesNext_181 ⟨Nat.le_of_ble_eq_true rfl, rfl, rfl⟩ rfl ?_
          have hgo := l_X11_doesNext (mi := mi2) (i := i) (d := d) (N := pm T i) (o3 := some (vi 1)) (Q := fun r sh' mi' mr' => sh' = SH ∧ ∃ v, r = some v ∧ PoN (pstep A T n i d bt) e mi mr v mi' mr') hG hMT hRR hA (Or.inr h61) (by omega) g9 (by omega) g24 (by omega) hd0.1 (fun h => by omega) (fun _ => by omega) (fun mi3 b1 b2 b3 => ?_) ((pm T i).toNat + 1) 0 mi2 (by omega) (by omega) (by rw [if_neg (by omega)]; simpa [sgm] using gB) (fun _ _ => rfl) (fun _ _ _ => rfl)
          · exact hgo
          · rw [if_neg (by omega)] at b1
            refine V_aload_n dX11_doesNext_257 rfl ?_
            refine V_dup dX11_doesNext_258 rfl ?_
            refine V_geti 24 dX11_doesNext_259 fl_RX11_178 (by first | with_reducible assumption | rfl) rfl rfl ?_
            rw [b2 24 (by decide), g24]
            refine V_iload_n dX11_doesNext_262 rfl ?_
            refine V_bipush dX11_doesNext_263 (by decide) ?_
            refine V_icmp_ne 272 dX11_doesNext_265 (by decide) (by omega) (by omega) (fun _ => ?_) (fun h265 => absurd h265 ((by omega)))
            refine V_aload_n dX11_doesNext_272 rfl ?_
            refine V_geti 9 dX11_doesNext_273 fl_RX11_164 (by first | with_reducible assumption | rfl) rfl rfl ?_
            rw [b2 9 (by decide), g9]
            refine V_iadd dX11_doesNext_276 ?_
            refine V_puti 24 dX11_doesNext_277 fl_RX11_178 (by first | with_reducible assumption | rfl) rfl rfl rfl ?_
            refine V_iconst dX11_doesNext_280 ?_
            refine V_iret dX11_doesNext_281 rfl ⟨Nat.le_of_ble_eq_true rfl, Nat.le_of_ble_eq_true rfl⟩ ?_
            exact ⟨rfl, _, rfl, good mi3 (d + pm T i) _ (by rw [e0, if_neg (by omega), if_neg (by omega), if_neg (by omega)]; unfold padd; rw [if_neg (by omega), if_pos h61]) b1 b2 b3⟩
        · refine V_iconst dX11_doesNext_178 ?_
          refine V_iret dX11_doesNext_179 rfl ⟨Nat.le_of_ble_eq_true rfl, Nat.le_of_ble_eq_true rfl⟩ ?_
          exact ⟨rfl, _, rfl, fail 3 (by decide) (by rw [e0, if_neg (by omega), if_pos (by omega)])⟩
      · refine V_iconst dX11_doesNext_156 ?_
        refine V_iret dX11_doesNext_157 rfl ⟨Nat.le_of_ble_eq_true rfl, Nat.le_of_ble_eq_true rfl⟩ ?_
        exact ⟨rfl, _, rfl, fail 2 (by decide) (by rw [e0, if_pos (by omega)])⟩
    · refine V_iload_n dX11_doesNext_132 rfl ?_
      refine V_bipush dX11_doesNext_133 (by decide) ?_
      refine V_icmp_eq 158 dX11_doesNext_135 (by decide) (by omega) (by omega) (fun h135 => absurd h135 ((by omega))) (fun _ => ?_)
      refine V_aload_n dX11_doesNext_138 rfl ?_
      refine V_geti 9 dX11_doesNext_139 fl_RX11_164 (by first | with_reducible assumption | rfl) rfl rfl ?_
      rw [g9]
      refine V_aload_n dX11_doesNext_142 rfl ?_
      refine V_getr 0 _ dX11_doesNext_143 fl_RX11_7 (by first | with_reducible assumption | rfl) rfl rfl (by first | with_reducible assumption | exact hG.at rfl) ?_
      refine V_iconst dX11_doesNext_146 ?_
      refine V_iald dX11_doesNext_147 (by first | with_reducible assumption | rfl) (by decide) (by omega) ?_
      rw [q0]
      refine V_aload_n dX11_doesNext_148 rfl ?_
      refine V_geti 24 dX11_doesNext_149 fl_RX11_178 (by first | with_reducible assumption | rfl) rfl rfl ?_
      rw [g24]
      refine V_isub dX11_doesNext_152 ?_
      refine V_icmp_le 158 dX11_doesNext_153 (by decide) (by omega) (by omega) (fun h153 => ?_) (fun h153 => ?_)
      · refine V_iload_n dX11_doesNext_158 rfl ?_
        refine V_bipush dX11_doesNext_159 (by decide) ?_
        refine V_icmp_eq 180 dX11_doesNext_161 (by decide) (by omega) (by omega) (fun _ => ?_) (fun h161 => absurd h161 ((not_not_intro h45)))
        refine V_iconst dX11_doesNext_180 ?_
        refine S_istore (ls' := [_, _, _, _, _, _]) dX11_doesNext_181 ⟨Nat.le_of_ble_eq_true rfl, rfl, rfl⟩ rfl ?_
        refine V_iload dX11_doesNext_183 rfl ?_
        refine V_aload_n dX11_doesNext_185 rfl ?_
        refine V_geti 9 dX11_doesNext_186 fl_RX11_164 (by first | with_reducible assumption | rfl) rfl rfl ?_
        rw [g9]
        refine V_icmp_ge 257 dX11_doesNext_189 (by decide) (by omega) (by omega) (fun h189 => absurd h189 ((by omega))) (fun _ => ?_)
        refine V_iload_n dX11_doesNext_192 rfl ?_
        refine V_bipush dX11_doesNext_193 (by decide) ?_
        refine V_icmp_eq 257 dX11_doesNext_195 (by decide) (by omega) (by omega) (fun _ => ?_) (fun h195 => absurd h195 ((not_not_intro h45)))
        refine V_aload_n dX11_doesNext_257 rfl ?_
        refine V_dup dX11_doesNext_258 rfl ?_
        refine V_geti 24 dX11_doesNext_259 fl_RX11_178 (by first | with_reducible assumption | rfl) rfl rfl ?_
        rw [g24]
        refine V_iload_n dX11_doesNext_262 rfl ?_
        refine V_bipush dX11_doesNext_263 (by decide) ?_
        refine V_icmp_ne 272 dX11_doesNext_265 (by decide) (by omega) (by omega) (fun _ => ?_) (fun h265 => absurd h265 ((by omega)))
        refine V_aload_n dX11_doesNext_272 rfl ?_
        refine V_geti 9 dX11_doesNext_273 fl_RX11_164 (by first | with_reducible assumption | rfl) rfl rfl ?_
        rw [g9]
        refine V_iadd dX11_doesNext_276 ?_
        refine V_puti 24 dX11_doesNext_277 fl_RX11_178 (by first | with_reducible assumption | rfl) rfl rfl rfl ?_
        refine V_iconst dX11_doesNext_280 ?_
        refine V_iret dX11_doesNext_281 rfl ⟨Nat.le_of_ble_eq_true rfl, Nat.le_of_ble_eq_true rfl⟩ ?_
        exact ⟨rfl, _, rfl, good mi2 (d + pm T i) bt (by rw [e0, if_neg (by omega), if_neg (by omega), if_neg (by omega)]; unfold padd; rw [if_neg (by omega), if_neg (by omega), List.append_nil]) gB (fun _ _ => rfl) (fun _ _ _ => rfl)⟩
      · refine V_iconst dX11_doesNext_156 ?_
        refine V_iret dX11_doesNext_157 rfl ⟨Nat.le_of_ble_eq_true rfl, Nat.le_of_ble_eq_true rfl⟩ ?_
        exact ⟨rfl, _, rfl, fail 2 (by decide) (by rw [e0, if_pos (by omega)])⟩
  refine V_aload_n dX11_doesNext_116 rfl ?_
  refine V_dup dX11_doesNext_117 rfl ?_
  refine V_geti 6 dX11_doesNext_118 fl_RX11_161 (by first | with_reducible assumption | rfl) rfl rfl ?_
  rw [h6]
  refine V_iconst dX11_doesNext_121 ?_
  refine V_iadd dX11_doesNext_122 ?_
  refine V_puti 6 dX11_doesNext_123 fl_RX11_161 (by first | with_reducible assumption | rfl) rfl rfl rfl ?_
  refine V_aload_n dX11_doesNext_126 rfl ?_
  refine V_ldc (-1000004) dX11_doesNext_127 kc_RX11_70 rfl ?_
  refine V_puti 8 dX11_doesNext_129 fl_RX11_175 (by first | with_reducible assumption | rfl) rfl rfl rfl ?_
  rw [show e - 1 + 1 = e by omega]
  exact front
end MODEL11
