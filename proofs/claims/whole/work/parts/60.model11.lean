/-! ===== DiagonalTextsModel: doesNext ===== -/
section MODEL11
variable {mi mi1 mi2 mi3 mi4 : MI} {mr : MR} {n m n' m' tl D : Int} {A B A' B' Z T F : Int → Int} {hs hs' : List St} {u : Int × (Int → Int)} {σ : St} {bt : List Int}
/-- what doesNext leaves behind -/
abbrev PoN (ps : Int × Int × Int × List Int) (e : Int) (mi : MI) (mr : MR) : AV → MI → MR → Prop := fun v mi' mr' => v = vi ps.1 ∧ mr' = mr ∧ (ps.1 ≠ 0 → mi' 62 8 = nf ps.2.1) ∧ (ps.1 = 0 → mi' 62 6 = e ∧ mi' 62 24 = ps.2.2.1 ∧ MB mi' ps.2.2.2) ∧ PKeep mi' mi
set_option maxRecDepth 100000 in
set_option maxHeartbeats 1000000 in
/-- behind a part's form: from 116 on -/
theorem m_X11_doesNext {i d e : Int} {o3 : Option AV} (hG : Gr mr) (hT : MTyp mi (tl, T)) (hR : RowM (mi 63) (n, m, A, B, Z)) (hA : NR n A) (hi : 0 ≤ i ∧ i < tl) (hbk : brk T i = -1) (h6 : mi1 62 6 = e - 1) (he : e = i + pn T i) (h9 : mi1 62 9 = pm T i) (hd : mi1 62 24 = d) (hd0 : 0 ≤ d ∧ d ≤ n) (hB : MB mi1 bt) (hl : bt.length ≤ 28) (hk : PKeep mi1 mi) : V (RX11, cX11_doesNext, 6, rm 2, false, none, (some .int)) (fun r sh' mi' mr' => sh' = SH ∧ ∃ v, r = some v ∧ PoN (pstep A T n i d bt) e mi mr v mi' mr') 0 0 SH mi1 mr [some (vr 62), some (vi i), some (vi (T i)), some (vi 1), some (vi (i + 1)), none] [] 116 := by
  have hn := hA.1
  have htl := hT.2.2.1
  simp only at htl
  have hok := brk_ok hT.2.2 hi.1 hbk
  have rT := hT.2.2.r i
  simp only at hok rT
  sorry
end MODEL11
