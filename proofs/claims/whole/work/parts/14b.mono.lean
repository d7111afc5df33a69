/-- a contract that says less -/
theorem Ct.mono {y : MethodName} {ws : List Cond} {R : Room} {sh : ShT} {mi : MI} {mr : MR} {As : List AV} {Q Q' : PQ} (h : Ct y ws R sh mi mr As Q) (hQ : ∀ r sh' mi' mr', Q r sh' mi' mr' → Q' r sh' mi' mr') : Ct y ws R sh mi mr As Q' := by
  intro l D ρ dA sz p e a1 a2 a3 s m args below a4 a5 a6 a7
  obtain ⟨n, o, b1, b2, b3, b4, b5⟩ := h l D ρ dA sz p e a1 a2 a3 s m args below a4 a5 a6 a7
  refine ⟨n, o, b1, b2, b3, ?_, b5⟩
  obtain ⟨⟨r, sh', mi', mr', ρ', dA', c1, c2, c3⟩, c4⟩ := b4
  exact ⟨⟨r, sh', mi', mr', ρ', dA', c1, hQ _ _ _ _ c2, c3⟩, c4⟩
theorem C0.mono {y : MethodName} {b : ByteArray} {nL d : Nat} {ret : Option FieldType} {sh : ShT} {mi : MI} {mr : MR} {As : List AV} {Q Q' : MI → MR → Prop} (h : C0 y b nL ret d sh mi mr As Q) (hQ : ∀ mi' mr', Q mi' mr' → Q' mi' mr') : C0 y b nL ret d sh mi mr As Q' :=
  Ct.mono h (fun _ _ mi' mr' q => ⟨q.1, q.2.1, hQ mi' mr' q.2.2⟩)
theorem C1.mono {y : MethodName} {b : ByteArray} {nL d : Nat} {ret : Option FieldType} {sh : ShT} {mi : MI} {mr : MR} {As : List AV} {Q Q' : AV → MI → MR → Prop} (h : C1 y b nL ret d sh mi mr As Q) (hQ : ∀ v mi' mr', Q v mi' mr' → Q' v mi' mr') : C1 y b nL ret d sh mi mr As Q' :=
  Ct.mono h (fun _ _ mi' mr' q => ⟨q.1, by obtain ⟨v, e, hq⟩ := q.2; exact ⟨v, e, hQ v mi' mr' hq⟩⟩)
