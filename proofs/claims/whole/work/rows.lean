section
-- ===== PART A: goes FIRST, ahead of the names: the tables' words, and 'selects' of the private methods out of them =====
/-- a private method of a class that the tables say can be made, by its rows of tables_1 -/
def lw_okq (q : MethodName × Nat) : Prop := (q.1.cls ≠ "java/lang/invoke/MethodHandle" ∧ q.1.cls ≠ "java/lang/invoke/VarHandle") ∧ Cond.instantiable q.1.cls q.2 ∈ tables_1 ∧ Cond.privateMethod q.1 ∈ tables_1 ∧ Cond.instanceMethod q.1 ∈ tables_1
theorem lw_p0 : lw_okq (⟨"DiagonalTexts$History", "dropOldest", "()V"⟩, 2) := ⟨⟨by decide +kernel, by decide +kernel⟩, List.mem_of_getElem? (i := 73) (by decide +kernel), List.mem_of_getElem? (i := 287) (by decide +kernel), List.mem_of_getElem? (i := 288) (by decide +kernel)⟩
theorem lw_p1 : lw_okq (⟨"DiagonalTexts$Reaches", "put", "(III)V"⟩, 2) := ⟨⟨by decide +kernel, by decide +kernel⟩, List.mem_of_getElem? (i := 92) (by decide +kernel), List.mem_of_getElem? (i := 389) (by decide +kernel), List.mem_of_getElem? (i := 390) (by decide +kernel)⟩
theorem lw_p2 : lw_okq (⟨"DiagonalTexts", "isAboveLimit", "()Z"⟩, 10) := ⟨⟨by decide +kernel, by decide +kernel⟩, List.mem_of_getElem? (i := 15) (by decide +kernel), List.mem_of_getElem? (i := 398) (by decide +kernel), List.mem_of_getElem? (i := 399) (by decide +kernel)⟩
theorem lw_p3 : lw_okq (⟨"DiagonalTexts", "findScript", "()Z"⟩, 10) := ⟨⟨by decide +kernel, by decide +kernel⟩, List.mem_of_getElem? (i := 15) (by decide +kernel), List.mem_of_getElem? (i := 406) (by decide +kernel), List.mem_of_getElem? (i := 407) (by decide +kernel)⟩
theorem lw_p4 : lw_okq (⟨"DiagonalTexts$Script", "put", "(IIIII)V"⟩, 5) := ⟨⟨by decide +kernel, by decide +kernel⟩, List.mem_of_getElem? (i := 107) (by decide +kernel), List.mem_of_getElem? (i := 414) (by decide +kernel), List.mem_of_getElem? (i := 415) (by decide +kernel)⟩
theorem lw_p5 : lw_okq (⟨"DiagonalTexts$Script", "writePart", "(LDiagonalTexts$Row;II)V"⟩, 5) := ⟨⟨by decide +kernel, by decide +kernel⟩, List.mem_of_getElem? (i := 107) (by decide +kernel), List.mem_of_getElem? (i := 450) (by decide +kernel), List.mem_of_getElem? (i := 451) (by decide +kernel)⟩
theorem lw_p6 : lw_okq (⟨"DiagonalTexts$Commons", "fillBeginnings", "(LDiagonalTexts$State;)V"⟩, 6) := ⟨⟨by decide +kernel, by decide +kernel⟩, List.mem_of_getElem? (i := 172) (by decide +kernel), List.mem_of_getElem? (i := 467) (by decide +kernel), List.mem_of_getElem? (i := 468) (by decide +kernel)⟩
theorem lw_p7 : lw_okq (⟨"DiagonalTexts$Commons", "waysTo", "(LDiagonalTexts$State;II)J"⟩, 6) := ⟨⟨by decide +kernel, by decide +kernel⟩, List.mem_of_getElem? (i := 172) (by decide +kernel), List.mem_of_getElem? (i := 487) (by decide +kernel), List.mem_of_getElem? (i := 488) (by decide +kernel)⟩
theorem lw_p8 : lw_okq (⟨"DiagonalTexts$Hunks", "open", "(I)V"⟩, 4) := ⟨⟨by decide +kernel, by decide +kernel⟩, List.mem_of_getElem? (i := 132) (by decide +kernel), List.mem_of_getElem? (i := 504) (by decide +kernel), List.mem_of_getElem? (i := 505) (by decide +kernel)⟩
theorem lw_p9 : lw_okq (⟨"DiagonalTexts$Hunks", "growTo", "(I)V"⟩, 4) := ⟨⟨by decide +kernel, by decide +kernel⟩, List.mem_of_getElem? (i := 132) (by decide +kernel), List.mem_of_getElem? (i := 511) (by decide +kernel), List.mem_of_getElem? (i := 512) (by decide +kernel)⟩
theorem lw_p10 : lw_okq (⟨"DiagonalTexts$Blocks", "addIfLong", "(IIII)V"⟩, 4) := ⟨⟨by decide +kernel, by decide +kernel⟩, List.mem_of_getElem? (i := 152) (by decide +kernel), List.mem_of_getElem? (i := 542) (by decide +kernel), List.mem_of_getElem? (i := 543) (by decide +kernel)⟩
theorem lw_p11 : lw_okq (⟨"DiagonalTexts$Commons", "fillEnds", "(LDiagonalTexts$State;)V"⟩, 6) := ⟨⟨by decide +kernel, by decide +kernel⟩, List.mem_of_getElem? (i := 172) (by decide +kernel), List.mem_of_getElem? (i := 571) (by decide +kernel), List.mem_of_getElem? (i := 572) (by decide +kernel)⟩
theorem lw_p12 : lw_okq (⟨"DiagonalTexts$Commons", "commonOfEnds", "(LDiagonalTexts$State;II)J"⟩, 6) := ⟨⟨by decide +kernel, by decide +kernel⟩, List.mem_of_getElem? (i := 172) (by decide +kernel), List.mem_of_getElem? (i := 575) (by decide +kernel), List.mem_of_getElem? (i := 576) (by decide +kernel)⟩
theorem lw_p13 : lw_okq (⟨"DiagonalTexts$Commons", "commonWith", "(LDiagonalTexts$State;II)I"⟩, 6) := ⟨⟨by decide +kernel, by decide +kernel⟩, List.mem_of_getElem? (i := 172) (by decide +kernel), List.mem_of_getElem? (i := 579) (by decide +kernel), List.mem_of_getElem? (i := 580) (by decide +kernel)⟩
theorem lw_p14 : lw_okq (⟨"DiagonalTexts", "countOfScript", "(I)I"⟩, 10) := ⟨⟨by decide +kernel, by decide +kernel⟩, List.mem_of_getElem? (i := 15) (by decide +kernel), List.mem_of_getElem? (i := 588) (by decide +kernel), List.mem_of_getElem? (i := 589) (by decide +kernel)⟩
theorem lw_p15 : lw_okq (⟨"DiagonalTexts$Reader", "readPart", "(LDiagonalTexts$Row;LDiagonalTexts$Row;I)V"⟩, 5) := ⟨⟨by decide +kernel, by decide +kernel⟩, List.mem_of_getElem? (i := 211) (by decide +kernel), List.mem_of_getElem? (i := 624) (by decide +kernel), List.mem_of_getElem? (i := 625) (by decide +kernel)⟩
def lw_privs_1 : List (MethodName × Nat) := [(⟨"DiagonalTexts$History", "dropOldest", "()V"⟩, 2), (⟨"DiagonalTexts$Reaches", "put", "(III)V"⟩, 2), (⟨"DiagonalTexts", "isAboveLimit", "()Z"⟩, 10), (⟨"DiagonalTexts", "findScript", "()Z"⟩, 10), (⟨"DiagonalTexts$Script", "put", "(IIIII)V"⟩, 5), (⟨"DiagonalTexts$Script", "writePart", "(LDiagonalTexts$Row;II)V"⟩, 5), (⟨"DiagonalTexts$Commons", "fillBeginnings", "(LDiagonalTexts$State;)V"⟩, 6), (⟨"DiagonalTexts$Commons", "waysTo", "(LDiagonalTexts$State;II)J"⟩, 6), (⟨"DiagonalTexts$Hunks", "open", "(I)V"⟩, 4), (⟨"DiagonalTexts$Hunks", "growTo", "(I)V"⟩, 4), (⟨"DiagonalTexts$Blocks", "addIfLong", "(IIII)V"⟩, 4), (⟨"DiagonalTexts$Commons", "fillEnds", "(LDiagonalTexts$State;)V"⟩, 6), (⟨"DiagonalTexts$Commons", "commonOfEnds", "(LDiagonalTexts$State;II)J"⟩, 6), (⟨"DiagonalTexts$Commons", "commonWith", "(LDiagonalTexts$State;II)I"⟩, 6), (⟨"DiagonalTexts", "countOfScript", "(I)I"⟩, 10), (⟨"DiagonalTexts$Reader", "readPart", "(LDiagonalTexts$Row;LDiagonalTexts$Row;I)V"⟩, 5)]
theorem lw_r1 : ∀ q ∈ lw_privs_1, lw_okq q := List.forall_mem_cons.mpr ⟨lw_p0, List.forall_mem_cons.mpr ⟨lw_p1, List.forall_mem_cons.mpr ⟨lw_p2, List.forall_mem_cons.mpr ⟨lw_p3, List.forall_mem_cons.mpr ⟨lw_p4, List.forall_mem_cons.mpr ⟨lw_p5, List.forall_mem_cons.mpr ⟨lw_p6, List.forall_mem_cons.mpr ⟨lw_p7, List.forall_mem_cons.mpr ⟨lw_p8, List.forall_mem_cons.mpr ⟨lw_p9, List.forall_mem_cons.mpr ⟨lw_p10, List.forall_mem_cons.mpr ⟨lw_p11, List.forall_mem_cons.mpr ⟨lw_p12, List.forall_mem_cons.mpr ⟨lw_p13, List.forall_mem_cons.mpr ⟨lw_p14, List.forall_mem_cons.mpr ⟨lw_p15, fun _ h => absurd h List.not_mem_nil⟩⟩⟩⟩⟩⟩⟩⟩⟩⟩⟩⟩⟩⟩⟩⟩
theorem lw_p16 : lw_okq (⟨"DiagonalTexts$Reader", "tell", "(III)V"⟩, 5) := ⟨⟨by decide +kernel, by decide +kernel⟩, List.mem_of_getElem? (i := 211) (by decide +kernel), List.mem_of_getElem? (i := 639) (by decide +kernel), List.mem_of_getElem? (i := 640) (by decide +kernel)⟩
theorem lw_p17 : lw_okq (⟨"DiagonalTexts$Reader", "putIn", "(LDiagonalTexts$Row;II)V"⟩, 5) := ⟨⟨by decide +kernel, by decide +kernel⟩, List.mem_of_getElem? (i := 211) (by decide +kernel), List.mem_of_getElem? (i := 649) (by decide +kernel), List.mem_of_getElem? (i := 650) (by decide +kernel)⟩
theorem lw_p18 : lw_okq (⟨"DiagonalTexts$Reader", "takeOrKeep", "(LDiagonalTexts$Row;IZ)V"⟩, 5) := ⟨⟨by decide +kernel, by decide +kernel⟩, List.mem_of_getElem? (i := 211) (by decide +kernel), List.mem_of_getElem? (i := 654) (by decide +kernel), List.mem_of_getElem? (i := 655) (by decide +kernel)⟩
theorem lw_p19 : lw_okq (⟨"DiagonalTextsModel", "keeps", "()V"⟩, 25) := ⟨⟨by decide +kernel, by decide +kernel⟩, List.mem_of_getElem? (i := 663) (by decide +kernel), List.mem_of_getElem? (i := 755) (by decide +kernel), List.mem_of_getElem? (i := 756) (by decide +kernel)⟩
theorem lw_p20 : lw_okq (⟨"DiagonalTextsModel", "acted", "(I)I"⟩, 25) := ⟨⟨by decide +kernel, by decide +kernel⟩, List.mem_of_getElem? (i := 663) (by decide +kernel), List.mem_of_getElem? (i := 759) (by decide +kernel), List.mem_of_getElem? (i := 760) (by decide +kernel)⟩
theorem lw_p21 : lw_okq (⟨"DiagonalTextsModel", "letter", "(II)I"⟩, 25) := ⟨⟨by decide +kernel, by decide +kernel⟩, List.mem_of_getElem? (i := 663) (by decide +kernel), List.mem_of_getElem? (i := 768) (by decide +kernel), List.mem_of_getElem? (i := 769) (by decide +kernel)⟩
theorem lw_p22 : lw_okq (⟨"DiagonalTextsModel", "alikeFrom", "(II)I"⟩, 25) := ⟨⟨by decide +kernel, by decide +kernel⟩, List.mem_of_getElem? (i := 663) (by decide +kernel), List.mem_of_getElem? (i := 793) (by decide +kernel), List.mem_of_getElem? (i := 794) (by decide +kernel)⟩
theorem lw_p23 : lw_okq (⟨"DiagonalTextsModel", "alike", "(II)Z"⟩, 25) := ⟨⟨by decide +kernel, by decide +kernel⟩, List.mem_of_getElem? (i := 663) (by decide +kernel), List.mem_of_getElem? (i := 797) (by decide +kernel), List.mem_of_getElem? (i := 798) (by decide +kernel)⟩
theorem lw_p24 : lw_okq (⟨"DiagonalTextsModel", "finds", "()I"⟩, 25) := ⟨⟨by decide +kernel, by decide +kernel⟩, List.mem_of_getElem? (i := 663) (by decide +kernel), List.mem_of_getElem? (i := 805) (by decide +kernel), List.mem_of_getElem? (i := 806) (by decide +kernel)⟩
theorem lw_p25 : lw_okq (⟨"DiagonalTextsModel", "lays", "(II)V"⟩, 25) := ⟨⟨by decide +kernel, by decide +kernel⟩, List.mem_of_getElem? (i := 663) (by decide +kernel), List.mem_of_getElem? (i := 809) (by decide +kernel), List.mem_of_getElem? (i := 810) (by decide +kernel)⟩
theorem lw_p26 : lw_okq (⟨"DiagonalTextsModel", "putsIn", "(II)Z"⟩, 25) := ⟨⟨by decide +kernel, by decide +kernel⟩, List.mem_of_getElem? (i := 663) (by decide +kernel), List.mem_of_getElem? (i := 813) (by decide +kernel), List.mem_of_getElem? (i := 814) (by decide +kernel)⟩
theorem lw_p27 : lw_okq (⟨"DiagonalTextsModel", "reached", "(II)I"⟩, 25) := ⟨⟨by decide +kernel, by decide +kernel⟩, List.mem_of_getElem? (i := 663) (by decide +kernel), List.mem_of_getElem? (i := 817) (by decide +kernel), List.mem_of_getElem? (i := 818) (by decide +kernel)⟩
theorem lw_p28 : lw_okq (⟨"DiagonalTextsModel", "traces", "()Z"⟩, 25) := ⟨⟨by decide +kernel, by decide +kernel⟩, List.mem_of_getElem? (i := 663) (by decide +kernel), List.mem_of_getElem? (i := 829) (by decide +kernel), List.mem_of_getElem? (i := 830) (by decide +kernel)⟩
theorem lw_p29 : lw_okq (⟨"DiagonalTextsModel", "puts", "(III)V"⟩, 25) := ⟨⟨by decide +kernel, by decide +kernel⟩, List.mem_of_getElem? (i := 663) (by decide +kernel), List.mem_of_getElem? (i := 833) (by decide +kernel), List.mem_of_getElem? (i := 834) (by decide +kernel)⟩
theorem lw_p30 : lw_okq (⟨"DiagonalTextsModel", "kind", "(I)I"⟩, 25) := ⟨⟨by decide +kernel, by decide +kernel⟩, List.mem_of_getElem? (i := 663) (by decide +kernel), List.mem_of_getElem? (i := 837) (by decide +kernel), List.mem_of_getElem? (i := 838) (by decide +kernel)⟩
theorem lw_p31 : lw_okq (⟨"DiagonalTextsModel", "tells", "()V"⟩, 25) := ⟨⟨by decide +kernel, by decide +kernel⟩, List.mem_of_getElem? (i := 663) (by decide +kernel), List.mem_of_getElem? (i := 845) (by decide +kernel), List.mem_of_getElem? (i := 846) (by decide +kernel)⟩
def lw_privs_2 : List (MethodName × Nat) := [(⟨"DiagonalTexts$Reader", "tell", "(III)V"⟩, 5), (⟨"DiagonalTexts$Reader", "putIn", "(LDiagonalTexts$Row;II)V"⟩, 5), (⟨"DiagonalTexts$Reader", "takeOrKeep", "(LDiagonalTexts$Row;IZ)V"⟩, 5), (⟨"DiagonalTextsModel", "keeps", "()V"⟩, 25), (⟨"DiagonalTextsModel", "acted", "(I)I"⟩, 25), (⟨"DiagonalTextsModel", "letter", "(II)I"⟩, 25), (⟨"DiagonalTextsModel", "alikeFrom", "(II)I"⟩, 25), (⟨"DiagonalTextsModel", "alike", "(II)Z"⟩, 25), (⟨"DiagonalTextsModel", "finds", "()I"⟩, 25), (⟨"DiagonalTextsModel", "lays", "(II)V"⟩, 25), (⟨"DiagonalTextsModel", "putsIn", "(II)Z"⟩, 25), (⟨"DiagonalTextsModel", "reached", "(II)I"⟩, 25), (⟨"DiagonalTextsModel", "traces", "()Z"⟩, 25), (⟨"DiagonalTextsModel", "puts", "(III)V"⟩, 25), (⟨"DiagonalTextsModel", "kind", "(I)I"⟩, 25), (⟨"DiagonalTextsModel", "tells", "()V"⟩, 25)]
theorem lw_r2 : ∀ q ∈ lw_privs_2, lw_okq q := List.forall_mem_cons.mpr ⟨lw_p16, List.forall_mem_cons.mpr ⟨lw_p17, List.forall_mem_cons.mpr ⟨lw_p18, List.forall_mem_cons.mpr ⟨lw_p19, List.forall_mem_cons.mpr ⟨lw_p20, List.forall_mem_cons.mpr ⟨lw_p21, List.forall_mem_cons.mpr ⟨lw_p22, List.forall_mem_cons.mpr ⟨lw_p23, List.forall_mem_cons.mpr ⟨lw_p24, List.forall_mem_cons.mpr ⟨lw_p25, List.forall_mem_cons.mpr ⟨lw_p26, List.forall_mem_cons.mpr ⟨lw_p27, List.forall_mem_cons.mpr ⟨lw_p28, List.forall_mem_cons.mpr ⟨lw_p29, List.forall_mem_cons.mpr ⟨lw_p30, List.forall_mem_cons.mpr ⟨lw_p31, fun _ h => absurd h List.not_mem_nil⟩⟩⟩⟩⟩⟩⟩⟩⟩⟩⟩⟩⟩⟩⟩⟩
theorem lw_p32 : lw_okq (⟨"DiagonalTextsModel", "writes", "(I)V"⟩, 25) := ⟨⟨by decide +kernel, by decide +kernel⟩, List.mem_of_getElem? (i := 663) (by decide +kernel), List.mem_of_getElem? (i := 849) (by decide +kernel), List.mem_of_getElem? (i := 850) (by decide +kernel)⟩
theorem lw_p33 : lw_okq (⟨"DiagonalTextsModel", "number", "(I)V"⟩, 25) := ⟨⟨by decide +kernel, by decide +kernel⟩, List.mem_of_getElem? (i := 663) (by decide +kernel), List.mem_of_getElem? (i := 853) (by decide +kernel), List.mem_of_getElem? (i := 854) (by decide +kernel)⟩
theorem lw_p34 : lw_okq (⟨"DiagonalTextsModel", "counts", "()I"⟩, 25) := ⟨⟨by decide +kernel, by decide +kernel⟩, List.mem_of_getElem? (i := 663) (by decide +kernel), List.mem_of_getElem? (i := 861) (by decide +kernel), List.mem_of_getElem? (i := 862) (by decide +kernel)⟩
theorem lw_p35 : lw_okq (⟨"DiagonalTextsModel", "hunkFrom", "(I)Z"⟩, 25) := ⟨⟨by decide +kernel, by decide +kernel⟩, List.mem_of_getElem? (i := 663) (by decide +kernel), List.mem_of_getElem? (i := 869) (by decide +kernel), List.mem_of_getElem? (i := 870) (by decide +kernel)⟩
theorem lw_p36 : lw_okq (⟨"DiagonalTextsModel", "without", "(I)I"⟩, 25) := ⟨⟨by decide +kernel, by decide +kernel⟩, List.mem_of_getElem? (i := 663) (by decide +kernel), List.mem_of_getElem? (i := 873) (by decide +kernel), List.mem_of_getElem? (i := 874) (by decide +kernel)⟩
theorem lw_p37 : lw_okq (⟨"DiagonalTextsModel", "blocks", "(I)I"⟩, 25) := ⟨⟨by decide +kernel, by decide +kernel⟩, List.mem_of_getElem? (i := 663) (by decide +kernel), List.mem_of_getElem? (i := 881) (by decide +kernel), List.mem_of_getElem? (i := 882) (by decide +kernel)⟩
theorem lw_p38 : lw_okq (⟨"DiagonalTextsModel", "marks", "()V"⟩, 25) := ⟨⟨by decide +kernel, by decide +kernel⟩, List.mem_of_getElem? (i := 663) (by decide +kernel), List.mem_of_getElem? (i := 885) (by decide +kernel), List.mem_of_getElem? (i := 886) (by decide +kernel)⟩
theorem lw_p39 : lw_okq (⟨"DiagonalTextsModel", "block", "(II)I"⟩, 25) := ⟨⟨by decide +kernel, by decide +kernel⟩, List.mem_of_getElem? (i := 663) (by decide +kernel), List.mem_of_getElem? (i := 889) (by decide +kernel), List.mem_of_getElem? (i := 890) (by decide +kernel)⟩
theorem lw_p40 : lw_okq (⟨"DiagonalTextsModel", "moves", "(II)Z"⟩, 25) := ⟨⟨by decide +kernel, by decide +kernel⟩, List.mem_of_getElem? (i := 663) (by decide +kernel), List.mem_of_getElem? (i := 893) (by decide +kernel), List.mem_of_getElem? (i := 894) (by decide +kernel)⟩
theorem lw_p41 : lw_okq (⟨"DiagonalTextsModel", "goesOn", "(II)Z"⟩, 25) := ⟨⟨by decide +kernel, by decide +kernel⟩, List.mem_of_getElem? (i := 663) (by decide +kernel), List.mem_of_getElem? (i := 897) (by decide +kernel), List.mem_of_getElem? (i := 898) (by decide +kernel)⟩
theorem lw_p42 : lw_okq (⟨"DiagonalTextsModel", "hunks", "()I"⟩, 25) := ⟨⟨by decide +kernel, by decide +kernel⟩, List.mem_of_getElem? (i := 663) (by decide +kernel), List.mem_of_getElem? (i := 909) (by decide +kernel), List.mem_of_getElem? (i := 910) (by decide +kernel)⟩
theorem lw_p43 : lw_okq (⟨"DiagonalTextsModel", "longest", "()I"⟩, 25) := ⟨⟨by decide +kernel, by decide +kernel⟩, List.mem_of_getElem? (i := 663) (by decide +kernel), List.mem_of_getElem? (i := 913) (by decide +kernel), List.mem_of_getElem? (i := 914) (by decide +kernel)⟩
theorem lw_p44 : lw_okq (⟨"DiagonalTextsModel", "faulty", "()I"⟩, 25) := ⟨⟨by decide +kernel, by decide +kernel⟩, List.mem_of_getElem? (i := 663) (by decide +kernel), List.mem_of_getElem? (i := 933) (by decide +kernel), List.mem_of_getElem? (i := 934) (by decide +kernel)⟩
theorem lw_p45 : lw_okq (⟨"DiagonalTextsModel", "doesNext", "()I"⟩, 25) := ⟨⟨by decide +kernel, by decide +kernel⟩, List.mem_of_getElem? (i := 663) (by decide +kernel), List.mem_of_getElem? (i := 937) (by decide +kernel), List.mem_of_getElem? (i := 938) (by decide +kernel)⟩
theorem lw_p46 : lw_okq (⟨"DiagonalTextsModel", "sign", "()I"⟩, 25) := ⟨⟨by decide +kernel, by decide +kernel⟩, List.mem_of_getElem? (i := 663) (by decide +kernel), List.mem_of_getElem? (i := 941) (by decide +kernel), List.mem_of_getElem? (i := 942) (by decide +kernel)⟩
theorem lw_p47 : lw_okq (⟨"DiagonalTextsModel", "readsLetters", "()Z"⟩, 25) := ⟨⟨by decide +kernel, by decide +kernel⟩, List.mem_of_getElem? (i := 663) (by decide +kernel), List.mem_of_getElem? (i := 945) (by decide +kernel), List.mem_of_getElem? (i := 946) (by decide +kernel)⟩
def lw_privs_3 : List (MethodName × Nat) := [(⟨"DiagonalTextsModel", "writes", "(I)V"⟩, 25), (⟨"DiagonalTextsModel", "number", "(I)V"⟩, 25), (⟨"DiagonalTextsModel", "counts", "()I"⟩, 25), (⟨"DiagonalTextsModel", "hunkFrom", "(I)Z"⟩, 25), (⟨"DiagonalTextsModel", "without", "(I)I"⟩, 25), (⟨"DiagonalTextsModel", "blocks", "(I)I"⟩, 25), (⟨"DiagonalTextsModel", "marks", "()V"⟩, 25), (⟨"DiagonalTextsModel", "block", "(II)I"⟩, 25), (⟨"DiagonalTextsModel", "moves", "(II)Z"⟩, 25), (⟨"DiagonalTextsModel", "goesOn", "(II)Z"⟩, 25), (⟨"DiagonalTextsModel", "hunks", "()I"⟩, 25), (⟨"DiagonalTextsModel", "longest", "()I"⟩, 25), (⟨"DiagonalTextsModel", "faulty", "()I"⟩, 25), (⟨"DiagonalTextsModel", "doesNext", "()I"⟩, 25), (⟨"DiagonalTextsModel", "sign", "()I"⟩, 25), (⟨"DiagonalTextsModel", "readsLetters", "()Z"⟩, 25)]
theorem lw_r3 : ∀ q ∈ lw_privs_3, lw_okq q := List.forall_mem_cons.mpr ⟨lw_p32, List.forall_mem_cons.mpr ⟨lw_p33, List.forall_mem_cons.mpr ⟨lw_p34, List.forall_mem_cons.mpr ⟨lw_p35, List.forall_mem_cons.mpr ⟨lw_p36, List.forall_mem_cons.mpr ⟨lw_p37, List.forall_mem_cons.mpr ⟨lw_p38, List.forall_mem_cons.mpr ⟨lw_p39, List.forall_mem_cons.mpr ⟨lw_p40, List.forall_mem_cons.mpr ⟨lw_p41, List.forall_mem_cons.mpr ⟨lw_p42, List.forall_mem_cons.mpr ⟨lw_p43, List.forall_mem_cons.mpr ⟨lw_p44, List.forall_mem_cons.mpr ⟨lw_p45, List.forall_mem_cons.mpr ⟨lw_p46, List.forall_mem_cons.mpr ⟨lw_p47, fun _ h => absurd h List.not_mem_nil⟩⟩⟩⟩⟩⟩⟩⟩⟩⟩⟩⟩⟩⟩⟩⟩
theorem lw_p48 : lw_okq (⟨"DiagonalTextsModel", "readsNumber", "()Z"⟩, 25) := ⟨⟨by decide +kernel, by decide +kernel⟩, List.mem_of_getElem? (i := 663) (by decide +kernel), List.mem_of_getElem? (i := 949) (by decide +kernel), List.mem_of_getElem? (i := 950) (by decide +kernel)⟩
def lw_privs_4 : List (MethodName × Nat) := [(⟨"DiagonalTextsModel", "readsNumber", "()Z"⟩, 25)]
theorem lw_r4 : ∀ q ∈ lw_privs_4, lw_okq q := List.forall_mem_cons.mpr ⟨lw_p48, fun _ h => absurd h List.not_mem_nil⟩
def lw_privs : List (MethodName × Nat) := lw_privs_1 ++ (lw_privs_2 ++ (lw_privs_3 ++ (lw_privs_4)))
def lw_tbl : List Cond := k2_sels lw_privs ++ tables_1
theorem lw_privs_ok : ∀ q ∈ lw_privs, lw_okq q := by
  show ∀ q ∈ lw_privs_1 ++ (lw_privs_2 ++ (lw_privs_3 ++ (lw_privs_4))), lw_okq q
  exact List.forall_mem_append.mpr ⟨lw_r1, List.forall_mem_append.mpr ⟨lw_r2, List.forall_mem_append.mpr ⟨lw_r3, lw_r4⟩⟩⟩
/-- the good words of the tables; the nest mates' links -/
def WS : List Cond := lw_tbl.filter goodWord
def isNest : Cond → Bool
  | .fieldLinkNest _ _ _ _ _ _ => true
  | .methodLinkNest _ _ _ _ => true
  | _ => false
def NW : List Cond := tables_1.filter isNest
theorem memT {w : Cond} (i : Nat) (h : tables_1[i]? = some w) (hg : goodWord w = true) : w ∈ WS := List.mem_filter.mpr ⟨List.mem_append_right _ (List.mem_of_getElem? h), hg⟩
theorem memN {w : Cond} (i : Nat) (h : tables_1[i]? = some w) (hg : isNest w = true) : w ∈ NW := List.mem_filter.mpr ⟨List.mem_of_getElem? h, hg⟩
theorem memP {w : Cond} (i : Nat) (h : (k2_sels lw_privs)[i]? = some w) (hg : goodWord w = true) : w ∈ WS := List.mem_filter.mpr ⟨List.mem_append_left _ (List.mem_of_getElem? h), hg⟩
theorem memU {ws : List Cond} (h : ws.all (fun w => decide (w ∈ tables_1) && goodWord w) = true) : ∀ w ∈ ws, w ∈ WS := by
  intro w hw
  have h1 := List.all_eq_true.mp h w hw
  simp only [Bool.and_eq_true, decide_eq_true_eq] at h1
  exact List.mem_filter.mpr ⟨List.mem_append_right _ h1.1, h1.2⟩
theorem ws_lw {w : Cond} (h : w ∈ WS) : w ∈ lw_tbl := (List.mem_filter.mp h).1
theorem nw_t {w : Cond} (h : w ∈ NW) : w ∈ tables_1 := (List.mem_filter.mp h).1
/-- what a call of a method needs of the words -/
def KM (y : MethodName) (b : ByteArray) (nL : Nat) (ret : Option FieldType) (n : Nat) : Prop := Cond.code y b nL ret ∈ WS ∧ Cond.initialized y.cls ∈ WS ∧ plainName y.cls = true ∧ y.cls ≠ "java/lang/invoke/MethodHandle" ∧ y.cls ≠ "java/lang/invoke/VarHandle" ∧ (parseMethodDescriptor y.desc).map (fun d => d.parameters.length) = some n
def KV (y : MethodName) : Prop := Cond.instanceMethod y ∈ WS ∧ Cond.selects y.cls y y ∈ WS
def KI (y : MethodName) : Prop := Cond.instanceMethod y ∈ WS ∧ y.name = "<init>"
def ML (own : String) (idx : Nat) (y : MethodName) : Prop := Cond.methodLink own idx y ∈ WS ∨ ∃ host, Cond.methodLinkNest own idx y host ∈ NW
end
section
def RX0 : String := "DiagonalTexts$Blocks"
def TX0 : u_T := fun k => match k with
  | 0 => ("DiagonalTexts$Blocks", "sizes", "[I", true)
  | 1 => ("DiagonalTexts$Blocks", "outs", "[I", true)
  | 2 => ("DiagonalTexts$Blocks", "ins", "[I", true)
  | _ => ("DiagonalTexts$Blocks", "many", "I", false)
def tyX0 : Nat → FieldType := fun k => match k with
  | 0 => .array .int
  | 1 => .array .int
  | 2 => .array .int
  | _ => .int
theorem nmX0 : ∀ a, a < 4 → ∀ b, b < 4 → a ≠ b → (TX0 a).2.1 ≠ (TX0 b).2.1 := by decide +kernel
theorem tyX0_ok : ∀ k, k < 4 → parseFieldDescriptor (TX0 k).2.2.1 = some (tyX0 k) := by decide +kernel
abbrev cX0_init : ByteArray := prog_2_method_1_code
def yX0_init : MethodName := ⟨RX0, "<init>", "()V"⟩
abbrev cX0_find : ByteArray := prog_2_method_2_code
def yX0_find : MethodName := ⟨RX0, "find", "(LDiagonalTexts$Script;I)V"⟩
abbrev cX0_inOrder : ByteArray := prog_2_method_3_code
def yX0_inOrder : MethodName := ⟨RX0, "inOrder", "(I)I"⟩
abbrev cX0_sizeOf : ByteArray := prog_2_method_4_code
def yX0_sizeOf : MethodName := ⟨RX0, "sizeOf", "(I)I"⟩
abbrev cX0_outOf : ByteArray := prog_2_method_5_code
def yX0_outOf : MethodName := ⟨RX0, "outOf", "(I)I"⟩
abbrev cX0_inOf : ByteArray := prog_2_method_6_code
def yX0_inOf : MethodName := ⟨RX0, "inOf", "(I)I"⟩
abbrev cX0_sizeFrom : ByteArray := prog_2_method_7_code
def yX0_sizeFrom : MethodName := ⟨RX0, "sizeFrom", "(LDiagonalTexts$Script;II)I"⟩
abbrev cX0_addIfLong : ByteArray := prog_2_method_8_code
def yX0_addIfLong : MethodName := ⟨RX0, "addIfLong", "(IIII)V"⟩
def RX1 : String := "DiagonalTexts$Commons"
def TX1 : u_T := fun k => match k with
  | 0 => ("DiagonalTexts$Commons", "ofBeginnings", "LDiagonalTexts$Grid;", true)
  | 1 => ("DiagonalTexts$Commons", "ofEnds", "LDiagonalTexts$Grid;", true)
  | 2 => ("DiagonalTexts$Commons", "ways", "LDiagonalTexts$Grid;", true)
  | 3 => ("DiagonalTexts$Commons", "bestPlace", "I", false)
  | 4 => ("DiagonalTexts$Commons", "bestLetter", "I", false)
  | _ => ("DiagonalTexts$Commons", "bestCommon", "I", false)
def tyX1 : Nat → FieldType := fun k => match k with
  | 0 => .object "DiagonalTexts$Grid"
  | 1 => .object "DiagonalTexts$Grid"
  | 2 => .object "DiagonalTexts$Grid"
  | 3 => .int
  | 4 => .int
  | _ => .int
theorem nmX1 : ∀ a, a < 6 → ∀ b, b < 6 → a ≠ b → (TX1 a).2.1 ≠ (TX1 b).2.1 := by decide +kernel
theorem tyX1_ok : ∀ k, k < 6 → parseFieldDescriptor (TX1 k).2.2.1 = some (tyX1 k) := by decide +kernel
abbrev cX1_init : ByteArray := prog_3_method_1_code
def yX1_init : MethodName := ⟨RX1, "<init>", "()V"⟩
abbrev cX1_countWays : ByteArray := prog_3_method_2_code
def yX1_countWays : MethodName := ⟨RX1, "countWays", "(LDiagonalTexts$State;)J"⟩
abbrev cX1_findBest : ByteArray := prog_3_method_3_code
def yX1_findBest : MethodName := ⟨RX1, "findBest", "(LDiagonalTexts$State;)V"⟩
abbrev cX1_fillBeginnings : ByteArray := prog_3_method_4_code
def yX1_fillBeginnings : MethodName := ⟨RX1, "fillBeginnings", "(LDiagonalTexts$State;)V"⟩
abbrev cX1_fillEnds : ByteArray := prog_3_method_5_code
def yX1_fillEnds : MethodName := ⟨RX1, "fillEnds", "(LDiagonalTexts$State;)V"⟩
abbrev cX1_commonOfEnds : ByteArray := prog_3_method_6_code
def yX1_commonOfEnds : MethodName := ⟨RX1, "commonOfEnds", "(LDiagonalTexts$State;II)J"⟩
abbrev cX1_waysTo : ByteArray := prog_3_method_7_code
def yX1_waysTo : MethodName := ⟨RX1, "waysTo", "(LDiagonalTexts$State;II)J"⟩
abbrev cX1_commonWith : ByteArray := prog_3_method_8_code
def yX1_commonWith : MethodName := ⟨RX1, "commonWith", "(LDiagonalTexts$State;II)I"⟩
def RX2 : String := "DiagonalTexts$Grid"
def TX2 : u_T := fun k => match k with
  | _ => ("DiagonalTexts$Grid", "numbers", "[J", true)
def tyX2 : Nat → FieldType := fun k => match k with
  | _ => .array .long
theorem nmX2 : ∀ a, a < 1 → ∀ b, b < 1 → a ≠ b → (TX2 a).2.1 ≠ (TX2 b).2.1 := by decide +kernel
theorem tyX2_ok : ∀ k, k < 1 → parseFieldDescriptor (TX2 k).2.2.1 = some (tyX2 k) := by decide +kernel
abbrev cX2_init : ByteArray := prog_4_method_1_code
def yX2_init : MethodName := ⟨RX2, "<init>", "()V"⟩
abbrev cX2_at : ByteArray := prog_4_method_2_code
def yX2_at : MethodName := ⟨RX2, "at", "(II)J"⟩
abbrev cX2_put : ByteArray := prog_4_method_3_code
def yX2_put : MethodName := ⟨RX2, "put", "(IIJ)V"⟩
abbrev cX2_isInside : ByteArray := prog_4_method_4_code
def yX2_isInside : MethodName := ⟨RX2, "isInside", "(II)Z"⟩
def RX3 : String := "DiagonalTexts$History"
def TX3 : u_T := fun k => match k with
  | 0 => ("DiagonalTexts$History", "states", "[LDiagonalTexts$State;", true)
  | _ => ("DiagonalTexts$History", "many", "I", false)
def tyX3 : Nat → FieldType := fun k => match k with
  | 0 => .array (.object "DiagonalTexts$State")
  | _ => .int
theorem nmX3 : ∀ a, a < 2 → ∀ b, b < 2 → a ≠ b → (TX3 a).2.1 ≠ (TX3 b).2.1 := by decide +kernel
theorem tyX3_ok : ∀ k, k < 2 → parseFieldDescriptor (TX3 k).2.2.1 = some (tyX3 k) := by decide +kernel
abbrev cX3_init : ByteArray := prog_5_method_1_code
def yX3_init : MethodName := ⟨RX3, "<init>", "()V"⟩
abbrev cX3_record : ByteArray := prog_5_method_2_code
def yX3_record : MethodName := ⟨RX3, "record", "(LDiagonalTexts$State;)V"⟩
abbrev cX3_restoreTo : ByteArray := prog_5_method_3_code
def yX3_restoreTo : MethodName := ⟨RX3, "restoreTo", "(LDiagonalTexts$State;)V"⟩
abbrev cX3_dropOldest : ByteArray := prog_5_method_4_code
def yX3_dropOldest : MethodName := ⟨RX3, "dropOldest", "()V"⟩
def RX4 : String := "DiagonalTexts$Hunks"
def TX4 : u_T := fun k => match k with
  | 0 => ("DiagonalTexts$Hunks", "begins", "[I", true)
  | 1 => ("DiagonalTexts$Hunks", "ends", "[I", true)
  | 2 => ("DiagonalTexts$Hunks", "edits", "[I", true)
  | _ => ("DiagonalTexts$Hunks", "many", "I", false)
def tyX4 : Nat → FieldType := fun k => match k with
  | 0 => .array .int
  | 1 => .array .int
  | 2 => .array .int
  | _ => .int
theorem nmX4 : ∀ a, a < 4 → ∀ b, b < 4 → a ≠ b → (TX4 a).2.1 ≠ (TX4 b).2.1 := by decide +kernel
theorem tyX4_ok : ∀ k, k < 4 → parseFieldDescriptor (TX4 k).2.2.1 = some (tyX4 k) := by decide +kernel
abbrev cX4_init : ByteArray := prog_6_method_1_code
def yX4_init : MethodName := ⟨RX4, "<init>", "()V"⟩
abbrev cX4_find : ByteArray := prog_6_method_2_code
def yX4_find : MethodName := ⟨RX4, "find", "(LDiagonalTexts$Script;I)V"⟩
abbrev cX4_beginOf : ByteArray := prog_6_method_3_code
def yX4_beginOf : MethodName := ⟨RX4, "beginOf", "(I)I"⟩
abbrev cX4_endOf : ByteArray := prog_6_method_4_code
def yX4_endOf : MethodName := ⟨RX4, "endOf", "(I)I"⟩
abbrev cX4_editsOf : ByteArray := prog_6_method_5_code
def yX4_editsOf : MethodName := ⟨RX4, "editsOf", "(I)I"⟩
abbrev cX4_open : ByteArray := prog_6_method_6_code
def yX4_open : MethodName := ⟨RX4, "open", "(I)V"⟩
abbrev cX4_growTo : ByteArray := prog_6_method_7_code
def yX4_growTo : MethodName := ⟨RX4, "growTo", "(I)V"⟩
def RX5 : String := "DiagonalTexts$Reaches"
def TX5 : u_T := fun k => match k with
  | 0 => ("DiagonalTexts$Reaches", "reached", "[I", true)
  | _ => ("DiagonalTexts$Reaches", "fewest", "I", false)
def tyX5 : Nat → FieldType := fun k => match k with
  | 0 => .array .int
  | _ => .int
theorem nmX5 : ∀ a, a < 2 → ∀ b, b < 2 → a ≠ b → (TX5 a).2.1 ≠ (TX5 b).2.1 := by decide +kernel
theorem tyX5_ok : ∀ k, k < 2 → parseFieldDescriptor (TX5 k).2.2.1 = some (tyX5 k) := by decide +kernel
abbrev cX5_init : ByteArray := prog_7_method_1_code
def yX5_init : MethodName := ⟨RX5, "<init>", "()V"⟩
abbrev cX5_find : ByteArray := prog_7_method_2_code
def yX5_find : MethodName := ⟨RX5, "find", "(LDiagonalTexts$State;)V"⟩
abbrev cX5_at : ByteArray := prog_7_method_3_code
def yX5_at : MethodName := ⟨RX5, "at", "(II)I"⟩
abbrev cX5_beginOf : ByteArray := prog_7_method_4_code
def yX5_beginOf : MethodName := ⟨RX5, "beginOf", "(II)I"⟩
abbrev cX5_isPutIn : ByteArray := prog_7_method_5_code
def yX5_isPutIn : MethodName := ⟨RX5, "isPutIn", "(II)Z"⟩
abbrev cX5_put : ByteArray := prog_7_method_6_code
def yX5_put : MethodName := ⟨RX5, "put", "(III)V"⟩
abbrev cX5_placeOf : ByteArray := prog_7_method_7_code
def yX5_placeOf : MethodName := ⟨RX5, "placeOf", "(II)I"⟩
def RX6 : String := "DiagonalTexts$Reader"
def TX6 : u_T := fun k => match k with
  | 0 => ("DiagonalTexts$Reader", "built", "LDiagonalTexts$Row;", true)
  | 1 => ("DiagonalTexts$Reader", "done", "I", false)
  | 2 => ("DiagonalTexts$Reader", "position", "I", false)
  | 3 => ("DiagonalTexts$Reader", "reason", "I", false)
  | _ => ("DiagonalTexts$Reader", "cause", "I", false)
def tyX6 : Nat → FieldType := fun k => match k with
  | 0 => .object "DiagonalTexts$Row"
  | 1 => .int
  | 2 => .int
  | 3 => .int
  | _ => .int
theorem nmX6 : ∀ a, a < 5 → ∀ b, b < 5 → a ≠ b → (TX6 a).2.1 ≠ (TX6 b).2.1 := by decide +kernel
theorem tyX6_ok : ∀ k, k < 5 → parseFieldDescriptor (TX6 k).2.2.1 = some (tyX6 k) := by decide +kernel
abbrev cX6_init : ByteArray := prog_8_method_1_code
def yX6_init : MethodName := ⟨RX6, "<init>", "()V"⟩
abbrev cX6_read : ByteArray := prog_8_method_2_code
def yX6_read : MethodName := ⟨RX6, "read", "(LDiagonalTexts$Row;LDiagonalTexts$Row;)V"⟩
abbrev cX6_readPart : ByteArray := prog_8_method_3_code
def yX6_readPart : MethodName := ⟨RX6, "readPart", "(LDiagonalTexts$Row;LDiagonalTexts$Row;I)V"⟩
abbrev cX6_tell : ByteArray := prog_8_method_4_code
def yX6_tell : MethodName := ⟨RX6, "tell", "(III)V"⟩
abbrev cX6_putIn : ByteArray := prog_8_method_5_code
def yX6_putIn : MethodName := ⟨RX6, "putIn", "(LDiagonalTexts$Row;II)V"⟩
abbrev cX6_takeOrKeep : ByteArray := prog_8_method_6_code
def yX6_takeOrKeep : MethodName := ⟨RX6, "takeOrKeep", "(LDiagonalTexts$Row;IZ)V"⟩
abbrev cX6_endOf : ByteArray := prog_8_method_7_code
def yX6_endOf : MethodName := ⟨RX6, "endOf", "(LDiagonalTexts$Row;I)I"⟩
abbrev cX6_breakOf : ByteArray := prog_8_method_8_code
def yX6_breakOf : MethodName := ⟨RX6, "breakOf", "(LDiagonalTexts$Row;I)I"⟩
abbrev cX6_breakOfLetters : ByteArray := prog_8_method_9_code
def yX6_breakOfLetters : MethodName := ⟨RX6, "breakOfLetters", "(LDiagonalTexts$Row;I)I"⟩
abbrev cX6_breakOfNumber : ByteArray := prog_8_method_10_code
def yX6_breakOfNumber : MethodName := ⟨RX6, "breakOfNumber", "(LDiagonalTexts$Row;I)I"⟩
abbrev cX6_numberAt : ByteArray := prog_8_method_11_code
def yX6_numberAt : MethodName := ⟨RX6, "numberAt", "(LDiagonalTexts$Row;I)I"⟩
def RX7 : String := "DiagonalTexts$Row"
def TX7 : u_T := fun k => match k with
  | 0 => ("DiagonalTexts$Row", "signs", "[I", true)
  | _ => ("DiagonalTexts$Row", "length", "I", false)
def tyX7 : Nat → FieldType := fun k => match k with
  | 0 => .array .int
  | _ => .int
theorem nmX7 : ∀ a, a < 2 → ∀ b, b < 2 → a ≠ b → (TX7 a).2.1 ≠ (TX7 b).2.1 := by decide +kernel
theorem tyX7_ok : ∀ k, k < 2 → parseFieldDescriptor (TX7 k).2.2.1 = some (tyX7 k) := by decide +kernel
abbrev cX7_init : ByteArray := prog_9_method_1_code
def yX7_init : MethodName := ⟨RX7, "<init>", "(I)V"⟩
abbrev cX7_at : ByteArray := prog_9_method_2_code
def yX7_at : MethodName := ⟨RX7, "at", "(I)I"⟩
abbrev cX7_put : ByteArray := prog_9_method_3_code
def yX7_put : MethodName := ⟨RX7, "put", "(II)V"⟩
abbrev cX7_add : ByteArray := prog_9_method_4_code
def yX7_add : MethodName := ⟨RX7, "add", "(I)V"⟩
abbrev cX7_empty : ByteArray := prog_9_method_5_code
def yX7_empty : MethodName := ⟨RX7, "empty", "()V"⟩
abbrev cX7_remove : ByteArray := prog_9_method_6_code
def yX7_remove : MethodName := ⟨RX7, "remove", "(II)V"⟩
abbrev cX7_copyFrom : ByteArray := prog_9_method_7_code
def yX7_copyFrom : MethodName := ⟨RX7, "copyFrom", "(LDiagonalTexts$Row;)V"⟩
def RX8 : String := "DiagonalTexts$Script"
def TX8 : u_T := fun k => match k with
  | 0 => ("DiagonalTexts$Script", "kinds", "[I", true)
  | 1 => ("DiagonalTexts$Script", "letters", "[I", true)
  | 2 => ("DiagonalTexts$Script", "firstDone", "[I", true)
  | 3 => ("DiagonalTexts$Script", "secondDone", "[I", true)
  | _ => ("DiagonalTexts$Script", "length", "I", false)
def tyX8 : Nat → FieldType := fun k => match k with
  | 0 => .array .int
  | 1 => .array .int
  | 2 => .array .int
  | 3 => .array .int
  | _ => .int
theorem nmX8 : ∀ a, a < 5 → ∀ b, b < 5 → a ≠ b → (TX8 a).2.1 ≠ (TX8 b).2.1 := by decide +kernel
theorem tyX8_ok : ∀ k, k < 5 → parseFieldDescriptor (TX8 k).2.2.1 = some (tyX8 k) := by decide +kernel
abbrev cX8_init : ByteArray := prog_10_method_1_code
def yX8_init : MethodName := ⟨RX8, "<init>", "()V"⟩
abbrev cX8_rebuild : ByteArray := prog_10_method_2_code
def yX8_rebuild : MethodName := ⟨RX8, "rebuild", "(LDiagonalTexts$State;LDiagonalTexts$Reaches;)V"⟩
abbrev cX8_kindAt : ByteArray := prog_10_method_3_code
def yX8_kindAt : MethodName := ⟨RX8, "kindAt", "(I)I"⟩
abbrev cX8_letterOf : ByteArray := prog_10_method_4_code
def yX8_letterOf : MethodName := ⟨RX8, "letterOf", "(I)I"⟩
abbrev cX8_firstDoneAt : ByteArray := prog_10_method_5_code
def yX8_firstDoneAt : MethodName := ⟨RX8, "firstDoneAt", "(I)I"⟩
abbrev cX8_secondDoneAt : ByteArray := prog_10_method_6_code
def yX8_secondDoneAt : MethodName := ⟨RX8, "secondDoneAt", "(I)I"⟩
abbrev cX8_isEdit : ByteArray := prog_10_method_7_code
def yX8_isEdit : MethodName := ⟨RX8, "isEdit", "(I)Z"⟩
abbrev cX8_isMoved : ByteArray := prog_10_method_8_code
def yX8_isMoved : MethodName := ⟨RX8, "isMoved", "(II)Z"⟩
abbrev cX8_writeTo : ByteArray := prog_10_method_9_code
def yX8_writeTo : MethodName := ⟨RX8, "writeTo", "(LDiagonalTexts$Row;)V"⟩
abbrev cX8_writePart : ByteArray := prog_10_method_10_code
def yX8_writePart : MethodName := ⟨RX8, "writePart", "(LDiagonalTexts$Row;II)V"⟩
abbrev cX8_writeNumber : ByteArray := prog_10_method_11_code
def yX8_writeNumber : MethodName := ⟨RX8, "writeNumber", "(LDiagonalTexts$Row;I)V"⟩
abbrev cX8_put : ByteArray := prog_10_method_12_code
def yX8_put : MethodName := ⟨RX8, "put", "(IIIII)V"⟩
def RX9 : String := "DiagonalTexts$State"
def TX9 : u_T := fun k => match k with
  | 0 => ("DiagonalTexts$State", "first", "LDiagonalTexts$Row;", false)
  | 1 => ("DiagonalTexts$State", "second", "LDiagonalTexts$Row;", false)
  | _ => ("DiagonalTexts$State", "settings", "[I", true)
def tyX9 : Nat → FieldType := fun k => match k with
  | 0 => .object "DiagonalTexts$Row"
  | 1 => .object "DiagonalTexts$Row"
  | _ => .array .int
theorem nmX9 : ∀ a, a < 3 → ∀ b, b < 3 → a ≠ b → (TX9 a).2.1 ≠ (TX9 b).2.1 := by decide +kernel
theorem tyX9_ok : ∀ k, k < 3 → parseFieldDescriptor (TX9 k).2.2.1 = some (tyX9 k) := by decide +kernel
abbrev cX9_init : ByteArray := prog_11_method_1_code
def yX9_init : MethodName := ⟨RX9, "<init>", "()V"⟩
abbrev cX9_rowOf : ByteArray := prog_11_method_2_code
def yX9_rowOf : MethodName := ⟨RX9, "rowOf", "(I)LDiagonalTexts$Row;"⟩
abbrev cX9_swapRows : ByteArray := prog_11_method_3_code
def yX9_swapRows : MethodName := ⟨RX9, "swapRows", "()V"⟩
abbrev cX9_copyFrom : ByteArray := prog_11_method_4_code
def yX9_copyFrom : MethodName := ⟨RX9, "copyFrom", "(LDiagonalTexts$State;)V"⟩
abbrev cX9_isAlike : ByteArray := prog_11_method_5_code
def yX9_isAlike : MethodName := ⟨RX9, "isAlike", "(II)Z"⟩
abbrev cX9_alikeFrom : ByteArray := prog_11_method_6_code
def yX9_alikeFrom : MethodName := ⟨RX9, "alikeFrom", "(II)I"⟩
abbrev cX9_longestAlike : ByteArray := prog_11_method_7_code
def yX9_longestAlike : MethodName := ⟨RX9, "longestAlike", "()I"⟩
def RX10 : String := "DiagonalTexts"
def TX10 : u_T := fun k => match k with
  | 0 => ("DiagonalTexts", "now", "LDiagonalTexts$State;", true)
  | 1 => ("DiagonalTexts", "history", "LDiagonalTexts$History;", true)
  | 2 => ("DiagonalTexts", "typed", "LDiagonalTexts$Row;", true)
  | 3 => ("DiagonalTexts", "reaches", "LDiagonalTexts$Reaches;", true)
  | 4 => ("DiagonalTexts", "script", "LDiagonalTexts$Script;", true)
  | 5 => ("DiagonalTexts", "written", "LDiagonalTexts$Row;", true)
  | 6 => ("DiagonalTexts", "hunks", "LDiagonalTexts$Hunks;", true)
  | 7 => ("DiagonalTexts", "blocks", "LDiagonalTexts$Blocks;", true)
  | 8 => ("DiagonalTexts", "commons", "LDiagonalTexts$Commons;", true)
  | _ => ("DiagonalTexts", "reader", "LDiagonalTexts$Reader;", true)
def tyX10 : Nat → FieldType := fun k => match k with
  | 0 => .object "DiagonalTexts$State"
  | 1 => .object "DiagonalTexts$History"
  | 2 => .object "DiagonalTexts$Row"
  | 3 => .object "DiagonalTexts$Reaches"
  | 4 => .object "DiagonalTexts$Script"
  | 5 => .object "DiagonalTexts$Row"
  | 6 => .object "DiagonalTexts$Hunks"
  | 7 => .object "DiagonalTexts$Blocks"
  | 8 => .object "DiagonalTexts$Commons"
  | _ => .object "DiagonalTexts$Reader"
theorem nmX10 : ∀ a, a < 10 → ∀ b, b < 10 → a ≠ b → (TX10 a).2.1 ≠ (TX10 b).2.1 := by decide +kernel
theorem tyX10_ok : ∀ k, k < 10 → parseFieldDescriptor (TX10 k).2.2.1 = some (tyX10 k) := by decide +kernel
abbrev cX10_init : ByteArray := prog_1_method_1_code
def yX10_init : MethodName := ⟨RX10, "<init>", "()V"⟩
abbrev cX10_append : ByteArray := prog_1_method_2_code
def yX10_append : MethodName := ⟨RX10, "append", "(II)I"⟩
abbrev cX10_cut : ByteArray := prog_1_method_3_code
def yX10_cut : MethodName := ⟨RX10, "cut", "(III)I"⟩
abbrev cX10_change : ByteArray := prog_1_method_4_code
def yX10_change : MethodName := ⟨RX10, "change", "(III)I"⟩
abbrev cX10_exchange : ByteArray := prog_1_method_5_code
def yX10_exchange : MethodName := ⟨RX10, "exchange", "()I"⟩
abbrev cX10_set : ByteArray := prog_1_method_6_code
def yX10_set : MethodName := ⟨RX10, "set", "(II)I"⟩
abbrev cX10_letterAt : ByteArray := prog_1_method_7_code
def yX10_letterAt : MethodName := ⟨RX10, "letterAt", "(II)I"⟩
abbrev cX10_same : ByteArray := prog_1_method_8_code
def yX10_same : MethodName := ⟨RX10, "same", "(II)I"⟩
abbrev cX10_reach : ByteArray := prog_1_method_9_code
def yX10_reach : MethodName := ⟨RX10, "reach", "(II)I"⟩
abbrev cX10_distance : ByteArray := prog_1_method_10_code
def yX10_distance : MethodName := ⟨RX10, "distance", "()I"⟩
abbrev cX10_stepOf : ByteArray := prog_1_method_11_code
def yX10_stepOf : MethodName := ⟨RX10, "stepOf", "(II)I"⟩
abbrev cX10_textAt : ByteArray := prog_1_method_12_code
def yX10_textAt : MethodName := ⟨RX10, "textAt", "(I)I"⟩
abbrev cX10_scripts : ByteArray := prog_1_method_13_code
def yX10_scripts : MethodName := ⟨RX10, "scripts", "()J"⟩
abbrev cX10_hunkOf : ByteArray := prog_1_method_14_code
def yX10_hunkOf : MethodName := ⟨RX10, "hunkOf", "(II)I"⟩
abbrev cX10_movedOf : ByteArray := prog_1_method_15_code
def yX10_movedOf : MethodName := ⟨RX10, "movedOf", "(II)I"⟩
abbrev cX10_bestChange : ByteArray := prog_1_method_16_code
def yX10_bestChange : MethodName := ⟨RX10, "bestChange", "(I)I"⟩
abbrev cX10_count : ByteArray := prog_1_method_17_code
def yX10_count : MethodName := ⟨RX10, "count", "(I)I"⟩
abbrev cX10_undo : ByteArray := prog_1_method_18_code
def yX10_undo : MethodName := ⟨RX10, "undo", "()I"⟩
abbrev cX10_type : ByteArray := prog_1_method_19_code
def yX10_type : MethodName := ⟨RX10, "type", "(I)I"⟩
abbrev cX10_clearText : ByteArray := prog_1_method_20_code
def yX10_clearText : MethodName := ⟨RX10, "clearText", "()I"⟩
abbrev cX10_fault : ByteArray := prog_1_method_21_code
def yX10_fault : MethodName := ⟨RX10, "fault", "(I)I"⟩
abbrev cX10_apply : ByteArray := prog_1_method_22_code
def yX10_apply : MethodName := ⟨RX10, "apply", "()I"⟩
abbrev cX10_isIn : ByteArray := prog_1_method_23_code
def yX10_isIn : MethodName := ⟨RX10, "isIn", "(III)Z"⟩
abbrev cX10_orNotFound : ByteArray := prog_1_method_24_code
def yX10_orNotFound : MethodName := ⟨RX10, "orNotFound", "(I)I"⟩
abbrev cX10_isAboveLimit : ByteArray := prog_1_method_25_code
def yX10_isAboveLimit : MethodName := ⟨RX10, "isAboveLimit", "()Z"⟩
abbrev cX10_findScript : ByteArray := prog_1_method_26_code
def yX10_findScript : MethodName := ⟨RX10, "findScript", "()Z"⟩
abbrev cX10_countOfScript : ByteArray := prog_1_method_27_code
def yX10_countOfScript : MethodName := ⟨RX10, "countOfScript", "(I)I"⟩
def RX11 : String := "DiagonalTextsModel"
def TX11 : u_T := fun k => match k with
  | 0 => ("DiagonalTextsModel", "s", "[I", true)
  | 1 => ("DiagonalTextsModel", "was", "[I", true)
  | 2 => ("DiagonalTextsModel", "begun", "[I", true)
  | 3 => ("DiagonalTextsModel", "states", "I", false)
  | 4 => ("DiagonalTextsModel", "text", "[C", true)
  | 5 => ("DiagonalTextsModel", "typed", "I", false)
  | 6 => ("DiagonalTextsModel", "at", "I", false)
  | 7 => ("DiagonalTextsModel", "reason", "I", false)
  | 8 => ("DiagonalTextsModel", "cause", "I", false)
  | 9 => ("DiagonalTextsModel", "number", "I", false)
  | 10 => ("DiagonalTextsModel", "reaches", "[I", true)
  | 11 => ("DiagonalTextsModel", "edits", "I", false)
  | 12 => ("DiagonalTextsModel", "step", "[I", true)
  | 13 => ("DiagonalTextsModel", "steps", "I", false)
  | 14 => ("DiagonalTextsModel", "apart", "[I", true)
  | 15 => ("DiagonalTextsModel", "ways", "[J", true)
  | 16 => ("DiagonalTextsModel", "written", "[C", true)
  | 17 => ("DiagonalTextsModel", "length", "I", false)
  | 18 => ("DiagonalTextsModel", "outBy", "[I", true)
  | 19 => ("DiagonalTextsModel", "inBy", "[I", true)
  | 20 => ("DiagonalTextsModel", "hunkFrom", "I", false)
  | 21 => ("DiagonalTextsModel", "hunkTo", "I", false)
  | 22 => ("DiagonalTextsModel", "made", "[I", true)
  | 23 => ("DiagonalTextsModel", "many", "I", false)
  | _ => ("DiagonalTextsModel", "done", "I", false)
def tyX11 : Nat → FieldType := fun k => match k with
  | 0 => .array .int
  | 1 => .array .int
  | 2 => .array .int
  | 3 => .int
  | 4 => .array .char
  | 5 => .int
  | 6 => .int
  | 7 => .int
  | 8 => .int
  | 9 => .int
  | 10 => .array .int
  | 11 => .int
  | 12 => .array .int
  | 13 => .int
  | 14 => .array .int
  | 15 => .array .long
  | 16 => .array .char
  | 17 => .int
  | 18 => .array .int
  | 19 => .array .int
  | 20 => .int
  | 21 => .int
  | 22 => .array .int
  | 23 => .int
  | _ => .int
theorem nmX11 : ∀ a, a < 25 → ∀ b, b < 25 → a ≠ b → (TX11 a).2.1 ≠ (TX11 b).2.1 := by decide +kernel
theorem tyX11_ok : ∀ k, k < 25 → parseFieldDescriptor (TX11 k).2.2.1 = some (tyX11 k) := by decide +kernel
abbrev cX11_init : ByteArray := prog_13_method_1_code
def yX11_init : MethodName := ⟨RX11, "<init>", "()V"⟩
abbrev cX11_in : ByteArray := prog_13_method_2_code
def yX11_in : MethodName := ⟨RX11, "in", "(III)Z"⟩
abbrev cX11_letter : ByteArray := prog_13_method_3_code
def yX11_letter : MethodName := ⟨RX11, "letter", "(II)I"⟩
abbrev cX11_alike : ByteArray := prog_13_method_4_code
def yX11_alike : MethodName := ⟨RX11, "alike", "(II)Z"⟩
abbrev cX11_keeps : ByteArray := prog_13_method_5_code
def yX11_keeps : MethodName := ⟨RX11, "keeps", "()V"⟩
abbrev cX11_acted : ByteArray := prog_13_method_6_code
def yX11_acted : MethodName := ⟨RX11, "acted", "(I)I"⟩
abbrev cX11_append : ByteArray := prog_13_method_7_code
def yX11_append : MethodName := ⟨RX11, "append", "(II)I"⟩
abbrev cX11_cut : ByteArray := prog_13_method_8_code
def yX11_cut : MethodName := ⟨RX11, "cut", "(III)I"⟩
abbrev cX11_change : ByteArray := prog_13_method_9_code
def yX11_change : MethodName := ⟨RX11, "change", "(III)I"⟩
abbrev cX11_exchange : ByteArray := prog_13_method_10_code
def yX11_exchange : MethodName := ⟨RX11, "exchange", "()I"⟩
abbrev cX11_set : ByteArray := prog_13_method_11_code
def yX11_set : MethodName := ⟨RX11, "set", "(II)I"⟩
abbrev cX11_letterAt : ByteArray := prog_13_method_12_code
def yX11_letterAt : MethodName := ⟨RX11, "letterAt", "(II)I"⟩
abbrev cX11_alikeFrom : ByteArray := prog_13_method_13_code
def yX11_alikeFrom : MethodName := ⟨RX11, "alikeFrom", "(II)I"⟩
abbrev cX11_same : ByteArray := prog_13_method_14_code
def yX11_same : MethodName := ⟨RX11, "same", "(II)I"⟩
abbrev cX11_reached : ByteArray := prog_13_method_15_code
def yX11_reached : MethodName := ⟨RX11, "reached", "(II)I"⟩
abbrev cX11_putsIn : ByteArray := prog_13_method_16_code
def yX11_putsIn : MethodName := ⟨RX11, "putsIn", "(II)Z"⟩
abbrev cX11_lays : ByteArray := prog_13_method_17_code
def yX11_lays : MethodName := ⟨RX11, "lays", "(II)V"⟩
abbrev cX11_finds : ByteArray := prog_13_method_18_code
def yX11_finds : MethodName := ⟨RX11, "finds", "()I"⟩
abbrev cX11_reach : ByteArray := prog_13_method_19_code
def yX11_reach : MethodName := ⟨RX11, "reach", "(II)I"⟩
abbrev cX11_distance : ByteArray := prog_13_method_20_code
def yX11_distance : MethodName := ⟨RX11, "distance", "()I"⟩
abbrev cX11_puts : ByteArray := prog_13_method_21_code
def yX11_puts : MethodName := ⟨RX11, "puts", "(III)V"⟩
abbrev cX11_traces : ByteArray := prog_13_method_22_code
def yX11_traces : MethodName := ⟨RX11, "traces", "()Z"⟩
abbrev cX11_kind : ByteArray := prog_13_method_23_code
def yX11_kind : MethodName := ⟨RX11, "kind", "(I)I"⟩
abbrev cX11_stepOf : ByteArray := prog_13_method_24_code
def yX11_stepOf : MethodName := ⟨RX11, "stepOf", "(II)I"⟩
abbrev cX11_writes : ByteArray := prog_13_method_25_code
def yX11_writes : MethodName := ⟨RX11, "writes", "(I)V"⟩
abbrev cX11_number : ByteArray := prog_13_method_26_code
def yX11_number : MethodName := ⟨RX11, "number", "(I)V"⟩
abbrev cX11_tells : ByteArray := prog_13_method_27_code
def yX11_tells : MethodName := ⟨RX11, "tells", "()V"⟩
abbrev cX11_textAt : ByteArray := prog_13_method_28_code
def yX11_textAt : MethodName := ⟨RX11, "textAt", "(I)I"⟩
abbrev cX11_counts : ByteArray := prog_13_method_29_code
def yX11_counts : MethodName := ⟨RX11, "counts", "()I"⟩
abbrev cX11_scripts : ByteArray := prog_13_method_30_code
def yX11_scripts : MethodName := ⟨RX11, "scripts", "()J"⟩
abbrev cX11_hunkFrom : ByteArray := prog_13_method_31_code
def yX11_hunkFrom : MethodName := ⟨RX11, "hunkFrom", "(I)Z"⟩
abbrev cX11_hunks : ByteArray := prog_13_method_32_code
def yX11_hunks : MethodName := ⟨RX11, "hunks", "()I"⟩
abbrev cX11_without : ByteArray := prog_13_method_33_code
def yX11_without : MethodName := ⟨RX11, "without", "(I)I"⟩
abbrev cX11_hunkOf : ByteArray := prog_13_method_34_code
def yX11_hunkOf : MethodName := ⟨RX11, "hunkOf", "(II)I"⟩
abbrev cX11_marks : ByteArray := prog_13_method_35_code
def yX11_marks : MethodName := ⟨RX11, "marks", "()V"⟩
abbrev cX11_moves : ByteArray := prog_13_method_36_code
def yX11_moves : MethodName := ⟨RX11, "moves", "(II)Z"⟩
abbrev cX11_goesOn : ByteArray := prog_13_method_37_code
def yX11_goesOn : MethodName := ⟨RX11, "goesOn", "(II)Z"⟩
abbrev cX11_block : ByteArray := prog_13_method_38_code
def yX11_block : MethodName := ⟨RX11, "block", "(II)I"⟩
abbrev cX11_blocks : ByteArray := prog_13_method_39_code
def yX11_blocks : MethodName := ⟨RX11, "blocks", "(I)I"⟩
abbrev cX11_movedOf : ByteArray := prog_13_method_40_code
def yX11_movedOf : MethodName := ⟨RX11, "movedOf", "(II)I"⟩
abbrev cX11_bestChange : ByteArray := prog_13_method_41_code
def yX11_bestChange : MethodName := ⟨RX11, "bestChange", "(I)I"⟩
abbrev cX11_longest : ByteArray := prog_13_method_42_code
def yX11_longest : MethodName := ⟨RX11, "longest", "()I"⟩
abbrev cX11_count : ByteArray := prog_13_method_43_code
def yX11_count : MethodName := ⟨RX11, "count", "(I)I"⟩
abbrev cX11_undo : ByteArray := prog_13_method_44_code
def yX11_undo : MethodName := ⟨RX11, "undo", "()I"⟩
abbrev cX11_type : ByteArray := prog_13_method_45_code
def yX11_type : MethodName := ⟨RX11, "type", "(I)I"⟩
abbrev cX11_clearText : ByteArray := prog_13_method_46_code
def yX11_clearText : MethodName := ⟨RX11, "clearText", "()I"⟩
abbrev cX11_sign : ByteArray := prog_13_method_47_code
def yX11_sign : MethodName := ⟨RX11, "sign", "()I"⟩
abbrev cX11_readsNumber : ByteArray := prog_13_method_48_code
def yX11_readsNumber : MethodName := ⟨RX11, "readsNumber", "()Z"⟩
abbrev cX11_readsLetters : ByteArray := prog_13_method_49_code
def yX11_readsLetters : MethodName := ⟨RX11, "readsLetters", "()Z"⟩
abbrev cX11_doesNext : ByteArray := prog_13_method_50_code
def yX11_doesNext : MethodName := ⟨RX11, "doesNext", "()I"⟩
abbrev cX11_faulty : ByteArray := prog_13_method_51_code
def yX11_faulty : MethodName := ⟨RX11, "faulty", "()I"⟩
abbrev cX11_fault : ByteArray := prog_13_method_52_code
def yX11_fault : MethodName := ⟨RX11, "fault", "(I)I"⟩
abbrev cX11_apply : ByteArray := prog_13_method_53_code
def yX11_apply : MethodName := ⟨RX11, "apply", "()I"⟩
def RJ9 : String := "java/lang/Math"
def TJ9 : u_T := fun k => match k with
  | _ => ("", "", "", false)
def tyJ9 : Nat → FieldType := fun k => match k with
  | _ => .int
abbrev wsJ90 : List Cond := u_ws RJ9 TJ9 0
theorem nmJ9 : ∀ a, a < 0 → ∀ b, b < 0 → a ≠ b → (TJ9 a).2.1 ≠ (TJ9 b).2.1 := by decide +kernel
theorem tyJ9_ok : ∀ k, k < 0 → parseFieldDescriptor (TJ9 k).2.2.1 = some (tyJ9 k) := by decide +kernel
abbrev cJ9_max_7cf53 : ByteArray := prog_14_method_65_code
def yJ9_max_7cf53 : MethodName := ⟨RJ9, "max", "(II)I"⟩
abbrev cJ9_max_f86c9 : ByteArray := prog_14_method_66_code
def yJ9_max_f86c9 : MethodName := ⟨RJ9, "max", "(JJ)J"⟩
abbrev cJ9_min_7cf53 : ByteArray := prog_14_method_69_code
def yJ9_min_7cf53 : MethodName := ⟨RJ9, "min", "(II)I"⟩

def RL : String := "DiagonalTextsLaw"
abbrev cL_law : ByteArray := code
def yL_law : MethodName := ⟨RL, "law", "([I)Z"⟩
abbrev vwCl : List vw_C := [(RX0, TX0, 4), (RX1, TX1, 6), (RX2, TX2, 1), (RX3, TX3, 2), (RX4, TX4, 4), (RX5, TX5, 2), (RX6, TX6, 5), (RX7, TX7, 2), (RX8, TX8, 5), (RX9, TX9, 3), (RX10, TX10, 10), (RX11, TX11, 25)]
theorem uX0 : ∀ w ∈ u_ws RX0 TX0 4, w ∈ WS := memU (by decide +kernel)
theorem uX1 : ∀ w ∈ u_ws RX1 TX1 6, w ∈ WS := memU (by decide +kernel)
theorem uX2 : ∀ w ∈ u_ws RX2 TX2 1, w ∈ WS := memU (by decide +kernel)
theorem uX3 : ∀ w ∈ u_ws RX3 TX3 2, w ∈ WS := memU (by decide +kernel)
theorem uX4 : ∀ w ∈ u_ws RX4 TX4 4, w ∈ WS := memU (by decide +kernel)
theorem uX5 : ∀ w ∈ u_ws RX5 TX5 2, w ∈ WS := memU (by decide +kernel)
theorem uX6 : ∀ w ∈ u_ws RX6 TX6 5, w ∈ WS := memU (by decide +kernel)
theorem uX7 : ∀ w ∈ u_ws RX7 TX7 2, w ∈ WS := memU (by decide +kernel)
theorem uX8 : ∀ w ∈ u_ws RX8 TX8 5, w ∈ WS := memU (by decide +kernel)
theorem uX9 : ∀ w ∈ u_ws RX9 TX9 3, w ∈ WS := memU (by decide +kernel)
theorem uX10 : ∀ w ∈ u_ws RX10 TX10 10, w ∈ WS := memU (by decide +kernel)
theorem uX11 : ∀ w ∈ u_ws RX11 TX11 25, w ∈ WS := memU (by decide +kernel)
theorem km_X0_init : KM yX0_init cX0_init 1 none 0 := ⟨memT 155 (by decide +kernel) (by decide +kernel), memT 9 (by decide +kernel) (by decide +kernel), by decide +kernel, by decide +kernel, by decide +kernel, by decide +kernel⟩
theorem ki_X0_init : KI yX0_init := ⟨memT 154 (by decide +kernel) (by decide +kernel), rfl⟩
theorem km_X0_find : KM yX0_find cX0_find 5 none 2 := ⟨memT 533 (by decide +kernel) (by decide +kernel), memT 9 (by decide +kernel) (by decide +kernel), by decide +kernel, by decide +kernel, by decide +kernel, by decide +kernel⟩
theorem kv_X0_find : KV yX0_find := ⟨memT 531 (by decide +kernel) (by decide +kernel), memT 532 (by decide +kernel) (by decide +kernel)⟩
theorem km_X0_inOrder : KM yX0_inOrder cX0_inOrder 5 (some .int) 1 := ⟨memT 548 (by decide +kernel) (by decide +kernel), memT 9 (by decide +kernel) (by decide +kernel), by decide +kernel, by decide +kernel, by decide +kernel, by decide +kernel⟩
theorem kv_X0_inOrder : KV yX0_inOrder := ⟨memT 546 (by decide +kernel) (by decide +kernel), memT 547 (by decide +kernel) (by decide +kernel)⟩
theorem km_X0_sizeOf : KM yX0_sizeOf cX0_sizeOf 2 (some .int) 1 := ⟨memT 552 (by decide +kernel) (by decide +kernel), memT 9 (by decide +kernel) (by decide +kernel), by decide +kernel, by decide +kernel, by decide +kernel, by decide +kernel⟩
theorem kv_X0_sizeOf : KV yX0_sizeOf := ⟨memT 550 (by decide +kernel) (by decide +kernel), memT 551 (by decide +kernel) (by decide +kernel)⟩
theorem km_X0_outOf : KM yX0_outOf cX0_outOf 2 (some .int) 1 := ⟨memT 557 (by decide +kernel) (by decide +kernel), memT 9 (by decide +kernel) (by decide +kernel), by decide +kernel, by decide +kernel, by decide +kernel, by decide +kernel⟩
theorem kv_X0_outOf : KV yX0_outOf := ⟨memT 555 (by decide +kernel) (by decide +kernel), memT 556 (by decide +kernel) (by decide +kernel)⟩
theorem km_X0_inOf : KM yX0_inOf cX0_inOf 2 (some .int) 1 := ⟨memT 561 (by decide +kernel) (by decide +kernel), memT 9 (by decide +kernel) (by decide +kernel), by decide +kernel, by decide +kernel, by decide +kernel, by decide +kernel⟩
theorem kv_X0_inOf : KV yX0_inOf := ⟨memT 559 (by decide +kernel) (by decide +kernel), memT 560 (by decide +kernel) (by decide +kernel)⟩
theorem km_X0_sizeFrom : KM yX0_sizeFrom cX0_sizeFrom 4 (some .int) 3 := ⟨memT 540 (by decide +kernel) (by decide +kernel), memT 9 (by decide +kernel) (by decide +kernel), by decide +kernel, by decide +kernel, by decide +kernel, by decide +kernel⟩
theorem ks_X0_sizeFrom : Cond.static yX0_sizeFrom ∈ WS := memT 539 (by decide +kernel) (by decide +kernel)
theorem km_X0_addIfLong : KM yX0_addIfLong cX0_addIfLong 5 none 4 := ⟨memT 544 (by decide +kernel) (by decide +kernel), memT 9 (by decide +kernel) (by decide +kernel), by decide +kernel, by decide +kernel, by decide +kernel, by decide +kernel⟩
theorem kv_X0_addIfLong : KV yX0_addIfLong := ⟨memT 543 (by decide +kernel) (by decide +kernel), memP 10 (by decide +kernel) (by decide +kernel)⟩
theorem km_X1_init : KM yX1_init cX1_init 1 none 0 := ⟨memT 175 (by decide +kernel) (by decide +kernel), memT 10 (by decide +kernel) (by decide +kernel), by decide +kernel, by decide +kernel, by decide +kernel, by decide +kernel⟩
theorem ki_X1_init : KI yX1_init := ⟨memT 174 (by decide +kernel) (by decide +kernel), rfl⟩
theorem km_X1_countWays : KM yX1_countWays cX1_countWays 4 (some .long) 1 := ⟨memT 465 (by decide +kernel) (by decide +kernel), memT 10 (by decide +kernel) (by decide +kernel), by decide +kernel, by decide +kernel, by decide +kernel, by decide +kernel⟩
theorem kv_X1_countWays : KV yX1_countWays := ⟨memT 463 (by decide +kernel) (by decide +kernel), memT 464 (by decide +kernel) (by decide +kernel)⟩
theorem km_X1_findBest : KM yX1_findBest cX1_findBest 5 none 1 := ⟨memT 569 (by decide +kernel) (by decide +kernel), memT 10 (by decide +kernel) (by decide +kernel), by decide +kernel, by decide +kernel, by decide +kernel, by decide +kernel⟩
theorem kv_X1_findBest : KV yX1_findBest := ⟨memT 567 (by decide +kernel) (by decide +kernel), memT 568 (by decide +kernel) (by decide +kernel)⟩
theorem km_X1_fillBeginnings : KM yX1_fillBeginnings cX1_fillBeginnings 4 none 1 := ⟨memT 469 (by decide +kernel) (by decide +kernel), memT 10 (by decide +kernel) (by decide +kernel), by decide +kernel, by decide +kernel, by decide +kernel, by decide +kernel⟩
theorem kv_X1_fillBeginnings : KV yX1_fillBeginnings := ⟨memT 468 (by decide +kernel) (by decide +kernel), memP 6 (by decide +kernel) (by decide +kernel)⟩
theorem km_X1_fillEnds : KM yX1_fillEnds cX1_fillEnds 4 none 1 := ⟨memT 573 (by decide +kernel) (by decide +kernel), memT 10 (by decide +kernel) (by decide +kernel), by decide +kernel, by decide +kernel, by decide +kernel, by decide +kernel⟩
theorem kv_X1_fillEnds : KV yX1_fillEnds := ⟨memT 572 (by decide +kernel) (by decide +kernel), memP 11 (by decide +kernel) (by decide +kernel)⟩
theorem km_X1_commonOfEnds : KM yX1_commonOfEnds cX1_commonOfEnds 4 (some .long) 3 := ⟨memT 577 (by decide +kernel) (by decide +kernel), memT 10 (by decide +kernel) (by decide +kernel), by decide +kernel, by decide +kernel, by decide +kernel, by decide +kernel⟩
theorem kv_X1_commonOfEnds : KV yX1_commonOfEnds := ⟨memT 576 (by decide +kernel) (by decide +kernel), memP 12 (by decide +kernel) (by decide +kernel)⟩
theorem km_X1_waysTo : KM yX1_waysTo cX1_waysTo 8 (some .long) 3 := ⟨memT 489 (by decide +kernel) (by decide +kernel), memT 10 (by decide +kernel) (by decide +kernel), by decide +kernel, by decide +kernel, by decide +kernel, by decide +kernel⟩
theorem kv_X1_waysTo : KV yX1_waysTo := ⟨memT 488 (by decide +kernel) (by decide +kernel), memP 7 (by decide +kernel) (by decide +kernel)⟩
theorem km_X1_commonWith : KM yX1_commonWith cX1_commonWith 7 (some .int) 3 := ⟨memT 581 (by decide +kernel) (by decide +kernel), memT 10 (by decide +kernel) (by decide +kernel), by decide +kernel, by decide +kernel, by decide +kernel, by decide +kernel⟩
theorem kv_X1_commonWith : KV yX1_commonWith := ⟨memT 580 (by decide +kernel) (by decide +kernel), memP 13 (by decide +kernel) (by decide +kernel)⟩
theorem km_X2_init : KM yX2_init cX2_init 1 none 0 := ⟨memT 181 (by decide +kernel) (by decide +kernel), memT 11 (by decide +kernel) (by decide +kernel), by decide +kernel, by decide +kernel, by decide +kernel, by decide +kernel⟩
theorem ki_X2_init : KI yX2_init := ⟨memT 180 (by decide +kernel) (by decide +kernel), rfl⟩
theorem km_X2_at : KM yX2_at cX2_at 3 (some .long) 2 := ⟨memT 474 (by decide +kernel) (by decide +kernel), memT 11 (by decide +kernel) (by decide +kernel), by decide +kernel, by decide +kernel, by decide +kernel, by decide +kernel⟩
theorem kv_X2_at : KV yX2_at := ⟨memT 472 (by decide +kernel) (by decide +kernel), memT 473 (by decide +kernel) (by decide +kernel)⟩
theorem km_X2_put : KM yX2_put cX2_put 5 none 3 := ⟨memT 485 (by decide +kernel) (by decide +kernel), memT 11 (by decide +kernel) (by decide +kernel), by decide +kernel, by decide +kernel, by decide +kernel, by decide +kernel⟩
theorem kv_X2_put : KV yX2_put := ⟨memT 483 (by decide +kernel) (by decide +kernel), memT 484 (by decide +kernel) (by decide +kernel)⟩
theorem km_X2_isInside : KM yX2_isInside cX2_isInside 2 (some .boolean) 2 := ⟨memT 477 (by decide +kernel) (by decide +kernel), memT 11 (by decide +kernel) (by decide +kernel), by decide +kernel, by decide +kernel, by decide +kernel, by decide +kernel⟩
theorem ks_X2_isInside : Cond.static yX2_isInside ∈ WS := memT 476 (by decide +kernel) (by decide +kernel)
theorem km_X3_init : KM yX3_init cX3_init 2 none 0 := ⟨memT 76 (by decide +kernel) (by decide +kernel), memT 5 (by decide +kernel) (by decide +kernel), by decide +kernel, by decide +kernel, by decide +kernel, by decide +kernel⟩
theorem ki_X3_init : KI yX3_init := ⟨memT 75 (by decide +kernel) (by decide +kernel), rfl⟩
theorem km_X3_record : KM yX3_record cX3_record 2 none 1 := ⟨memT 285 (by decide +kernel) (by decide +kernel), memT 5 (by decide +kernel) (by decide +kernel), by decide +kernel, by decide +kernel, by decide +kernel, by decide +kernel⟩
theorem kv_X3_record : KV yX3_record := ⟨memT 283 (by decide +kernel) (by decide +kernel), memT 284 (by decide +kernel) (by decide +kernel)⟩
theorem km_X3_restoreTo : KM yX3_restoreTo cX3_restoreTo 2 none 1 := ⟨memT 604 (by decide +kernel) (by decide +kernel), memT 5 (by decide +kernel) (by decide +kernel), by decide +kernel, by decide +kernel, by decide +kernel, by decide +kernel⟩
theorem kv_X3_restoreTo : KV yX3_restoreTo := ⟨memT 602 (by decide +kernel) (by decide +kernel), memT 603 (by decide +kernel) (by decide +kernel)⟩
theorem km_X3_dropOldest : KM yX3_dropOldest cX3_dropOldest 3 none 0 := ⟨memT 289 (by decide +kernel) (by decide +kernel), memT 5 (by decide +kernel) (by decide +kernel), by decide +kernel, by decide +kernel, by decide +kernel, by decide +kernel⟩
theorem kv_X3_dropOldest : KV yX3_dropOldest := ⟨memT 288 (by decide +kernel) (by decide +kernel), memP 0 (by decide +kernel) (by decide +kernel)⟩
theorem km_X4_init : KM yX4_init cX4_init 1 none 0 := ⟨memT 135 (by decide +kernel) (by decide +kernel), memT 8 (by decide +kernel) (by decide +kernel), by decide +kernel, by decide +kernel, by decide +kernel, by decide +kernel⟩
theorem ki_X4_init : KI yX4_init := ⟨memT 134 (by decide +kernel) (by decide +kernel), rfl⟩
theorem km_X4_find : KM yX4_find cX4_find 5 none 2 := ⟨memT 497 (by decide +kernel) (by decide +kernel), memT 8 (by decide +kernel) (by decide +kernel), by decide +kernel, by decide +kernel, by decide +kernel, by decide +kernel⟩
theorem kv_X4_find : KV yX4_find := ⟨memT 495 (by decide +kernel) (by decide +kernel), memT 496 (by decide +kernel) (by decide +kernel)⟩
theorem km_X4_beginOf : KM yX4_beginOf cX4_beginOf 2 (some .int) 1 := ⟨memT 517 (by decide +kernel) (by decide +kernel), memT 8 (by decide +kernel) (by decide +kernel), by decide +kernel, by decide +kernel, by decide +kernel, by decide +kernel⟩
theorem kv_X4_beginOf : KV yX4_beginOf := ⟨memT 515 (by decide +kernel) (by decide +kernel), memT 516 (by decide +kernel) (by decide +kernel)⟩
theorem km_X4_endOf : KM yX4_endOf cX4_endOf 2 (some .int) 1 := ⟨memT 521 (by decide +kernel) (by decide +kernel), memT 8 (by decide +kernel) (by decide +kernel), by decide +kernel, by decide +kernel, by decide +kernel, by decide +kernel⟩
theorem kv_X4_endOf : KV yX4_endOf := ⟨memT 519 (by decide +kernel) (by decide +kernel), memT 520 (by decide +kernel) (by decide +kernel)⟩
theorem km_X4_editsOf : KM yX4_editsOf cX4_editsOf 2 (some .int) 1 := ⟨memT 525 (by decide +kernel) (by decide +kernel), memT 8 (by decide +kernel) (by decide +kernel), by decide +kernel, by decide +kernel, by decide +kernel, by decide +kernel⟩
theorem kv_X4_editsOf : KV yX4_editsOf := ⟨memT 523 (by decide +kernel) (by decide +kernel), memT 524 (by decide +kernel) (by decide +kernel)⟩
theorem km_X4_open : KM yX4_open cX4_open 2 none 1 := ⟨memT 506 (by decide +kernel) (by decide +kernel), memT 8 (by decide +kernel) (by decide +kernel), by decide +kernel, by decide +kernel, by decide +kernel, by decide +kernel⟩
theorem kv_X4_open : KV yX4_open := ⟨memT 505 (by decide +kernel) (by decide +kernel), memP 8 (by decide +kernel) (by decide +kernel)⟩
theorem km_X4_growTo : KM yX4_growTo cX4_growTo 3 none 1 := ⟨memT 513 (by decide +kernel) (by decide +kernel), memT 8 (by decide +kernel) (by decide +kernel), by decide +kernel, by decide +kernel, by decide +kernel, by decide +kernel⟩
theorem kv_X4_growTo : KV yX4_growTo := ⟨memT 512 (by decide +kernel) (by decide +kernel), memP 9 (by decide +kernel) (by decide +kernel)⟩
theorem km_X5_init : KM yX5_init cX5_init 1 none 0 := ⟨memT 95 (by decide +kernel) (by decide +kernel), memT 6 (by decide +kernel) (by decide +kernel), by decide +kernel, by decide +kernel, by decide +kernel, by decide +kernel⟩
theorem ki_X5_init : KI yX5_init := ⟨memT 94 (by decide +kernel) (by decide +kernel), rfl⟩
theorem km_X5_find : KM yX5_find cX5_find 6 none 1 := ⟨memT 374 (by decide +kernel) (by decide +kernel), memT 6 (by decide +kernel) (by decide +kernel), by decide +kernel, by decide +kernel, by decide +kernel, by decide +kernel⟩
theorem kv_X5_find : KV yX5_find := ⟨memT 372 (by decide +kernel) (by decide +kernel), memT 373 (by decide +kernel) (by decide +kernel)⟩
theorem km_X5_at : KM yX5_at cX5_at 4 (some .int) 2 := ⟨memT 382 (by decide +kernel) (by decide +kernel), memT 6 (by decide +kernel) (by decide +kernel), by decide +kernel, by decide +kernel, by decide +kernel, by decide +kernel⟩
theorem kv_X5_at : KV yX5_at := ⟨memT 380 (by decide +kernel) (by decide +kernel), memT 381 (by decide +kernel) (by decide +kernel)⟩
theorem km_X5_beginOf : KM yX5_beginOf cX5_beginOf 3 (some .int) 2 := ⟨memT 378 (by decide +kernel) (by decide +kernel), memT 6 (by decide +kernel) (by decide +kernel), by decide +kernel, by decide +kernel, by decide +kernel, by decide +kernel⟩
theorem kv_X5_beginOf : KV yX5_beginOf := ⟨memT 376 (by decide +kernel) (by decide +kernel), memT 377 (by decide +kernel) (by decide +kernel)⟩
theorem km_X5_isPutIn : KM yX5_isPutIn cX5_isPutIn 3 (some .boolean) 2 := ⟨memT 422 (by decide +kernel) (by decide +kernel), memT 6 (by decide +kernel) (by decide +kernel), by decide +kernel, by decide +kernel, by decide +kernel, by decide +kernel⟩
theorem kv_X5_isPutIn : KV yX5_isPutIn := ⟨memT 420 (by decide +kernel) (by decide +kernel), memT 421 (by decide +kernel) (by decide +kernel)⟩
theorem km_X5_put : KM yX5_put cX5_put 5 none 3 := ⟨memT 391 (by decide +kernel) (by decide +kernel), memT 6 (by decide +kernel) (by decide +kernel), by decide +kernel, by decide +kernel, by decide +kernel, by decide +kernel⟩
theorem kv_X5_put : KV yX5_put := ⟨memT 390 (by decide +kernel) (by decide +kernel), memP 1 (by decide +kernel) (by decide +kernel)⟩
theorem km_X5_placeOf : KM yX5_placeOf cX5_placeOf 2 (some .int) 2 := ⟨memT 385 (by decide +kernel) (by decide +kernel), memT 6 (by decide +kernel) (by decide +kernel), by decide +kernel, by decide +kernel, by decide +kernel, by decide +kernel⟩
theorem ks_X5_placeOf : Cond.static yX5_placeOf ∈ WS := memT 384 (by decide +kernel) (by decide +kernel)
theorem km_X6_init : KM yX6_init cX6_init 1 none 0 := ⟨memT 214 (by decide +kernel) (by decide +kernel), memT 12 (by decide +kernel) (by decide +kernel), by decide +kernel, by decide +kernel, by decide +kernel, by decide +kernel⟩
theorem ki_X6_init : KI yX6_init := ⟨memT 213 (by decide +kernel) (by decide +kernel), rfl⟩
theorem km_X6_read : KM yX6_read cX6_read 5 none 2 := ⟨memT 621 (by decide +kernel) (by decide +kernel), memT 12 (by decide +kernel) (by decide +kernel), by decide +kernel, by decide +kernel, by decide +kernel, by decide +kernel⟩
theorem kv_X6_read : KV yX6_read := ⟨memT 619 (by decide +kernel) (by decide +kernel), memT 620 (by decide +kernel) (by decide +kernel)⟩
theorem km_X6_readPart : KM yX6_readPart cX6_readPart 7 none 3 := ⟨memT 626 (by decide +kernel) (by decide +kernel), memT 12 (by decide +kernel) (by decide +kernel), by decide +kernel, by decide +kernel, by decide +kernel, by decide +kernel⟩
theorem kv_X6_readPart : KV yX6_readPart := ⟨memT 625 (by decide +kernel) (by decide +kernel), memP 15 (by decide +kernel) (by decide +kernel)⟩
theorem km_X6_tell : KM yX6_tell cX6_tell 4 none 3 := ⟨memT 641 (by decide +kernel) (by decide +kernel), memT 12 (by decide +kernel) (by decide +kernel), by decide +kernel, by decide +kernel, by decide +kernel, by decide +kernel⟩
theorem kv_X6_tell : KV yX6_tell := ⟨memT 640 (by decide +kernel) (by decide +kernel), memP 16 (by decide +kernel) (by decide +kernel)⟩
theorem km_X6_putIn : KM yX6_putIn cX6_putIn 5 none 3 := ⟨memT 651 (by decide +kernel) (by decide +kernel), memT 12 (by decide +kernel) (by decide +kernel), by decide +kernel, by decide +kernel, by decide +kernel, by decide +kernel⟩
theorem kv_X6_putIn : KV yX6_putIn := ⟨memT 650 (by decide +kernel) (by decide +kernel), memP 17 (by decide +kernel) (by decide +kernel)⟩
theorem km_X6_takeOrKeep : KM yX6_takeOrKeep cX6_takeOrKeep 5 none 3 := ⟨memT 656 (by decide +kernel) (by decide +kernel), memT 12 (by decide +kernel) (by decide +kernel), by decide +kernel, by decide +kernel, by decide +kernel, by decide +kernel⟩
theorem kv_X6_takeOrKeep : KV yX6_takeOrKeep := ⟨memT 655 (by decide +kernel) (by decide +kernel), memP 18 (by decide +kernel) (by decide +kernel)⟩
theorem km_X6_endOf : KM yX6_endOf cX6_endOf 3 (some .int) 2 := ⟨memT 644 (by decide +kernel) (by decide +kernel), memT 12 (by decide +kernel) (by decide +kernel), by decide +kernel, by decide +kernel, by decide +kernel, by decide +kernel⟩
theorem ks_X6_endOf : Cond.static yX6_endOf ∈ WS := memT 643 (by decide +kernel) (by decide +kernel)
theorem km_X6_breakOf : KM yX6_breakOf cX6_breakOf 3 (some .int) 2 := ⟨memT 629 (by decide +kernel) (by decide +kernel), memT 12 (by decide +kernel) (by decide +kernel), by decide +kernel, by decide +kernel, by decide +kernel, by decide +kernel⟩
theorem ks_X6_breakOf : Cond.static yX6_breakOf ∈ WS := memT 628 (by decide +kernel) (by decide +kernel)
theorem km_X6_breakOfLetters : KM yX6_breakOfLetters cX6_breakOfLetters 3 (some .int) 2 := ⟨memT 633 (by decide +kernel) (by decide +kernel), memT 12 (by decide +kernel) (by decide +kernel), by decide +kernel, by decide +kernel, by decide +kernel, by decide +kernel⟩
theorem ks_X6_breakOfLetters : Cond.static yX6_breakOfLetters ∈ WS := memT 632 (by decide +kernel) (by decide +kernel)
theorem km_X6_breakOfNumber : KM yX6_breakOfNumber cX6_breakOfNumber 3 (some .int) 2 := ⟨memT 637 (by decide +kernel) (by decide +kernel), memT 12 (by decide +kernel) (by decide +kernel), by decide +kernel, by decide +kernel, by decide +kernel, by decide +kernel⟩
theorem ks_X6_breakOfNumber : Cond.static yX6_breakOfNumber ∈ WS := memT 636 (by decide +kernel) (by decide +kernel)
theorem km_X6_numberAt : KM yX6_numberAt cX6_numberAt 4 (some .int) 2 := ⟨memT 647 (by decide +kernel) (by decide +kernel), memT 12 (by decide +kernel) (by decide +kernel), by decide +kernel, by decide +kernel, by decide +kernel, by decide +kernel⟩
theorem ks_X6_numberAt : Cond.static yX6_numberAt ∈ WS := memT 646 (by decide +kernel) (by decide +kernel)
theorem km_X7_init : KM yX7_init cX7_init 2 none 1 := ⟨memT 32 (by decide +kernel) (by decide +kernel), memT 3 (by decide +kernel) (by decide +kernel), by decide +kernel, by decide +kernel, by decide +kernel, by decide +kernel⟩
theorem ki_X7_init : KI yX7_init := ⟨memT 31 (by decide +kernel) (by decide +kernel), rfl⟩
theorem km_X7_at : KM yX7_at cX7_at 2 (some .int) 1 := ⟨memT 305 (by decide +kernel) (by decide +kernel), memT 3 (by decide +kernel) (by decide +kernel), by decide +kernel, by decide +kernel, by decide +kernel, by decide +kernel⟩
theorem kv_X7_at : KV yX7_at := ⟨memT 303 (by decide +kernel) (by decide +kernel), memT 304 (by decide +kernel) (by decide +kernel)⟩
theorem km_X7_put : KM yX7_put cX7_put 3 none 2 := ⟨memT 323 (by decide +kernel) (by decide +kernel), memT 3 (by decide +kernel) (by decide +kernel), by decide +kernel, by decide +kernel, by decide +kernel, by decide +kernel⟩
theorem kv_X7_put : KV yX7_put := ⟨memT 321 (by decide +kernel) (by decide +kernel), memT 322 (by decide +kernel) (by decide +kernel)⟩
theorem km_X7_add : KM yX7_add cX7_add 2 none 1 := ⟨memT 309 (by decide +kernel) (by decide +kernel), memT 3 (by decide +kernel) (by decide +kernel), by decide +kernel, by decide +kernel, by decide +kernel, by decide +kernel⟩
theorem kv_X7_add : KV yX7_add := ⟨memT 307 (by decide +kernel) (by decide +kernel), memT 308 (by decide +kernel) (by decide +kernel)⟩
theorem km_X7_empty : KM yX7_empty cX7_empty 1 none 0 := ⟨memT 301 (by decide +kernel) (by decide +kernel), memT 3 (by decide +kernel) (by decide +kernel), by decide +kernel, by decide +kernel, by decide +kernel, by decide +kernel⟩
theorem kv_X7_empty : KV yX7_empty := ⟨memT 299 (by decide +kernel) (by decide +kernel), memT 300 (by decide +kernel) (by decide +kernel)⟩
theorem km_X7_remove : KM yX7_remove cX7_remove 4 none 2 := ⟨memT 319 (by decide +kernel) (by decide +kernel), memT 3 (by decide +kernel) (by decide +kernel), by decide +kernel, by decide +kernel, by decide +kernel, by decide +kernel⟩
theorem kv_X7_remove : KV yX7_remove := ⟨memT 317 (by decide +kernel) (by decide +kernel), memT 318 (by decide +kernel) (by decide +kernel)⟩
theorem km_X7_copyFrom : KM yX7_copyFrom cX7_copyFrom 3 none 1 := ⟨memT 297 (by decide +kernel) (by decide +kernel), memT 3 (by decide +kernel) (by decide +kernel), by decide +kernel, by decide +kernel, by decide +kernel, by decide +kernel⟩
theorem kv_X7_copyFrom : KV yX7_copyFrom := ⟨memT 295 (by decide +kernel) (by decide +kernel), memT 296 (by decide +kernel) (by decide +kernel)⟩
theorem km_X8_init : KM yX8_init cX8_init 1 none 0 := ⟨memT 110 (by decide +kernel) (by decide +kernel), memT 7 (by decide +kernel) (by decide +kernel), by decide +kernel, by decide +kernel, by decide +kernel, by decide +kernel⟩
theorem ki_X8_init : KI yX8_init := ⟨memT 109 (by decide +kernel) (by decide +kernel), rfl⟩
theorem km_X8_rebuild : KM yX8_rebuild cX8_rebuild 9 none 2 := ⟨memT 412 (by decide +kernel) (by decide +kernel), memT 7 (by decide +kernel) (by decide +kernel), by decide +kernel, by decide +kernel, by decide +kernel, by decide +kernel⟩
theorem kv_X8_rebuild : KV yX8_rebuild := ⟨memT 410 (by decide +kernel) (by decide +kernel), memT 411 (by decide +kernel) (by decide +kernel)⟩
theorem km_X8_kindAt : KM yX8_kindAt cX8_kindAt 2 (some .int) 1 := ⟨memT 426 (by decide +kernel) (by decide +kernel), memT 7 (by decide +kernel) (by decide +kernel), by decide +kernel, by decide +kernel, by decide +kernel, by decide +kernel⟩
theorem kv_X8_kindAt : KV yX8_kindAt := ⟨memT 424 (by decide +kernel) (by decide +kernel), memT 425 (by decide +kernel) (by decide +kernel)⟩
theorem km_X8_letterOf : KM yX8_letterOf cX8_letterOf 2 (some .int) 1 := ⟨memT 430 (by decide +kernel) (by decide +kernel), memT 7 (by decide +kernel) (by decide +kernel), by decide +kernel, by decide +kernel, by decide +kernel, by decide +kernel⟩
theorem kv_X8_letterOf : KV yX8_letterOf := ⟨memT 428 (by decide +kernel) (by decide +kernel), memT 429 (by decide +kernel) (by decide +kernel)⟩
theorem km_X8_firstDoneAt : KM yX8_firstDoneAt cX8_firstDoneAt 2 (some .int) 1 := ⟨memT 434 (by decide +kernel) (by decide +kernel), memT 7 (by decide +kernel) (by decide +kernel), by decide +kernel, by decide +kernel, by decide +kernel, by decide +kernel⟩
theorem kv_X8_firstDoneAt : KV yX8_firstDoneAt := ⟨memT 432 (by decide +kernel) (by decide +kernel), memT 433 (by decide +kernel) (by decide +kernel)⟩
theorem km_X8_secondDoneAt : KM yX8_secondDoneAt cX8_secondDoneAt 2 (some .int) 1 := ⟨memT 438 (by decide +kernel) (by decide +kernel), memT 7 (by decide +kernel) (by decide +kernel), by decide +kernel, by decide +kernel, by decide +kernel, by decide +kernel⟩
theorem kv_X8_secondDoneAt : KV yX8_secondDoneAt := ⟨memT 436 (by decide +kernel) (by decide +kernel), memT 437 (by decide +kernel) (by decide +kernel)⟩
theorem km_X8_isEdit : KM yX8_isEdit cX8_isEdit 3 (some .boolean) 1 := ⟨memT 501 (by decide +kernel) (by decide +kernel), memT 7 (by decide +kernel) (by decide +kernel), by decide +kernel, by decide +kernel, by decide +kernel, by decide +kernel⟩
theorem kv_X8_isEdit : KV yX8_isEdit := ⟨memT 499 (by decide +kernel) (by decide +kernel), memT 500 (by decide +kernel) (by decide +kernel)⟩
theorem km_X8_isMoved : KM yX8_isMoved cX8_isMoved 3 (some .boolean) 2 := ⟨memT 537 (by decide +kernel) (by decide +kernel), memT 7 (by decide +kernel) (by decide +kernel), by decide +kernel, by decide +kernel, by decide +kernel, by decide +kernel⟩
theorem kv_X8_isMoved : KV yX8_isMoved := ⟨memT 535 (by decide +kernel) (by decide +kernel), memT 536 (by decide +kernel) (by decide +kernel)⟩
theorem km_X8_writeTo : KM yX8_writeTo cX8_writeTo 4 none 1 := ⟨memT 446 (by decide +kernel) (by decide +kernel), memT 7 (by decide +kernel) (by decide +kernel), by decide +kernel, by decide +kernel, by decide +kernel, by decide +kernel⟩
theorem kv_X8_writeTo : KV yX8_writeTo := ⟨memT 444 (by decide +kernel) (by decide +kernel), memT 445 (by decide +kernel) (by decide +kernel)⟩
theorem km_X8_writePart : KM yX8_writePart cX8_writePart 6 none 3 := ⟨memT 452 (by decide +kernel) (by decide +kernel), memT 7 (by decide +kernel) (by decide +kernel), by decide +kernel, by decide +kernel, by decide +kernel, by decide +kernel⟩
theorem kv_X8_writePart : KV yX8_writePart := ⟨memT 451 (by decide +kernel) (by decide +kernel), memP 5 (by decide +kernel) (by decide +kernel)⟩
theorem km_X8_writeNumber : KM yX8_writeNumber cX8_writeNumber 2 none 2 := ⟨memT 457 (by decide +kernel) (by decide +kernel), memT 7 (by decide +kernel) (by decide +kernel), by decide +kernel, by decide +kernel, by decide +kernel, by decide +kernel⟩
theorem ks_X8_writeNumber : Cond.static yX8_writeNumber ∈ WS := memT 456 (by decide +kernel) (by decide +kernel)
theorem km_X8_put : KM yX8_put cX8_put 6 none 5 := ⟨memT 416 (by decide +kernel) (by decide +kernel), memT 7 (by decide +kernel) (by decide +kernel), by decide +kernel, by decide +kernel, by decide +kernel, by decide +kernel⟩
theorem kv_X8_put : KV yX8_put := ⟨memT 415 (by decide +kernel) (by decide +kernel), memP 4 (by decide +kernel) (by decide +kernel)⟩
theorem km_X9_init : KM yX9_init cX9_init 2 none 0 := ⟨memT 26 (by decide +kernel) (by decide +kernel), memT 2 (by decide +kernel) (by decide +kernel), by decide +kernel, by decide +kernel, by decide +kernel, by decide +kernel⟩
theorem ki_X9_init : KI yX9_init := ⟨memT 25 (by decide +kernel) (by decide +kernel), rfl⟩
theorem km_X9_rowOf : KM yX9_rowOf cX9_rowOf 2 (some (.object "DiagonalTexts$Row")) 1 := ⟨memT 280 (by decide +kernel) (by decide +kernel), memT 2 (by decide +kernel) (by decide +kernel), by decide +kernel, by decide +kernel, by decide +kernel, by decide +kernel⟩
theorem kv_X9_rowOf : KV yX9_rowOf := ⟨memT 278 (by decide +kernel) (by decide +kernel), memT 279 (by decide +kernel) (by decide +kernel)⟩
theorem km_X9_swapRows : KM yX9_swapRows cX9_swapRows 2 none 0 := ⟨memT 337 (by decide +kernel) (by decide +kernel), memT 2 (by decide +kernel) (by decide +kernel), by decide +kernel, by decide +kernel, by decide +kernel, by decide +kernel⟩
theorem kv_X9_swapRows : KV yX9_swapRows := ⟨memT 335 (by decide +kernel) (by decide +kernel), memT 336 (by decide +kernel) (by decide +kernel)⟩
theorem km_X9_copyFrom : KM yX9_copyFrom cX9_copyFrom 3 none 1 := ⟨memT 293 (by decide +kernel) (by decide +kernel), memT 2 (by decide +kernel) (by decide +kernel), by decide +kernel, by decide +kernel, by decide +kernel, by decide +kernel⟩
theorem kv_X9_copyFrom : KV yX9_copyFrom := ⟨memT 291 (by decide +kernel) (by decide +kernel), memT 292 (by decide +kernel) (by decide +kernel)⟩
theorem km_X9_isAlike : KM yX9_isAlike cX9_isAlike 4 (some .boolean) 2 := ⟨memT 365 (by decide +kernel) (by decide +kernel), memT 2 (by decide +kernel) (by decide +kernel), by decide +kernel, by decide +kernel, by decide +kernel, by decide +kernel⟩
theorem kv_X9_isAlike : KV yX9_isAlike := ⟨memT 363 (by decide +kernel) (by decide +kernel), memT 364 (by decide +kernel) (by decide +kernel)⟩
theorem km_X9_alikeFrom : KM yX9_alikeFrom cX9_alikeFrom 4 (some .int) 2 := ⟨memT 361 (by decide +kernel) (by decide +kernel), memT 2 (by decide +kernel) (by decide +kernel), by decide +kernel, by decide +kernel, by decide +kernel, by decide +kernel⟩
theorem kv_X9_alikeFrom : KV yX9_alikeFrom := ⟨memT 359 (by decide +kernel) (by decide +kernel), memT 360 (by decide +kernel) (by decide +kernel)⟩
theorem km_X9_longestAlike : KM yX9_longestAlike cX9_longestAlike 4 (some .int) 0 := ⟨memT 594 (by decide +kernel) (by decide +kernel), memT 2 (by decide +kernel) (by decide +kernel), by decide +kernel, by decide +kernel, by decide +kernel, by decide +kernel⟩
theorem kv_X9_longestAlike : KV yX9_longestAlike := ⟨memT 592 (by decide +kernel) (by decide +kernel), memT 593 (by decide +kernel) (by decide +kernel)⟩
theorem km_X10_init : KM yX10_init cX10_init 1 none 0 := ⟨memT 18 (by decide +kernel) (by decide +kernel), memT 1 (by decide +kernel) (by decide +kernel), by decide +kernel, by decide +kernel, by decide +kernel, by decide +kernel⟩
theorem ki_X10_init : KI yX10_init := ⟨memT 17 (by decide +kernel) (by decide +kernel), rfl⟩
theorem km_X10_append : KM yX10_append cX10_append 4 (some .int) 2 := ⟨memT 272 (by decide +kernel) (by decide +kernel), memT 1 (by decide +kernel) (by decide +kernel), by decide +kernel, by decide +kernel, by decide +kernel, by decide +kernel⟩
theorem kv_X10_append : KV yX10_append := ⟨memT 270 (by decide +kernel) (by decide +kernel), memT 271 (by decide +kernel) (by decide +kernel)⟩
theorem km_X10_cut : KM yX10_cut cX10_cut 5 (some .int) 3 := ⟨memT 314 (by decide +kernel) (by decide +kernel), memT 1 (by decide +kernel) (by decide +kernel), by decide +kernel, by decide +kernel, by decide +kernel, by decide +kernel⟩
theorem kv_X10_cut : KV yX10_cut := ⟨memT 312 (by decide +kernel) (by decide +kernel), memT 313 (by decide +kernel) (by decide +kernel)⟩
theorem km_X10_change : KM yX10_change cX10_change 6 (some .int) 3 := ⟨memT 327 (by decide +kernel) (by decide +kernel), memT 1 (by decide +kernel) (by decide +kernel), by decide +kernel, by decide +kernel, by decide +kernel, by decide +kernel⟩
theorem kv_X10_change : KV yX10_change := ⟨memT 325 (by decide +kernel) (by decide +kernel), memT 326 (by decide +kernel) (by decide +kernel)⟩
theorem km_X10_exchange : KM yX10_exchange cX10_exchange 1 (some .int) 0 := ⟨memT 333 (by decide +kernel) (by decide +kernel), memT 1 (by decide +kernel) (by decide +kernel), by decide +kernel, by decide +kernel, by decide +kernel, by decide +kernel⟩
theorem kv_X10_exchange : KV yX10_exchange := ⟨memT 331 (by decide +kernel) (by decide +kernel), memT 332 (by decide +kernel) (by decide +kernel)⟩
theorem km_X10_set : KM yX10_set cX10_set 4 (some .int) 2 := ⟨memT 341 (by decide +kernel) (by decide +kernel), memT 1 (by decide +kernel) (by decide +kernel), by decide +kernel, by decide +kernel, by decide +kernel, by decide +kernel⟩
theorem kv_X10_set : KV yX10_set := ⟨memT 339 (by decide +kernel) (by decide +kernel), memT 340 (by decide +kernel) (by decide +kernel)⟩
theorem km_X10_letterAt : KM yX10_letterAt cX10_letterAt 3 (some .int) 2 := ⟨memT 349 (by decide +kernel) (by decide +kernel), memT 1 (by decide +kernel) (by decide +kernel), by decide +kernel, by decide +kernel, by decide +kernel, by decide +kernel⟩
theorem kv_X10_letterAt : KV yX10_letterAt := ⟨memT 347 (by decide +kernel) (by decide +kernel), memT 348 (by decide +kernel) (by decide +kernel)⟩
theorem km_X10_same : KM yX10_same cX10_same 3 (some .int) 2 := ⟨memT 357 (by decide +kernel) (by decide +kernel), memT 1 (by decide +kernel) (by decide +kernel), by decide +kernel, by decide +kernel, by decide +kernel, by decide +kernel⟩
theorem kv_X10_same : KV yX10_same := ⟨memT 355 (by decide +kernel) (by decide +kernel), memT 356 (by decide +kernel) (by decide +kernel)⟩
theorem km_X10_reach : KM yX10_reach cX10_reach 3 (some .int) 2 := ⟨memT 370 (by decide +kernel) (by decide +kernel), memT 1 (by decide +kernel) (by decide +kernel), by decide +kernel, by decide +kernel, by decide +kernel, by decide +kernel⟩
theorem kv_X10_reach : KV yX10_reach := ⟨memT 368 (by decide +kernel) (by decide +kernel), memT 369 (by decide +kernel) (by decide +kernel)⟩
theorem km_X10_distance : KM yX10_distance cX10_distance 1 (some .int) 0 := ⟨memT 396 (by decide +kernel) (by decide +kernel), memT 1 (by decide +kernel) (by decide +kernel), by decide +kernel, by decide +kernel, by decide +kernel, by decide +kernel⟩
theorem kv_X10_distance : KV yX10_distance := ⟨memT 394 (by decide +kernel) (by decide +kernel), memT 395 (by decide +kernel) (by decide +kernel)⟩
theorem km_X10_stepOf : KM yX10_stepOf cX10_stepOf 3 (some .int) 2 := ⟨memT 404 (by decide +kernel) (by decide +kernel), memT 1 (by decide +kernel) (by decide +kernel), by decide +kernel, by decide +kernel, by decide +kernel, by decide +kernel⟩
theorem kv_X10_stepOf : KV yX10_stepOf := ⟨memT 402 (by decide +kernel) (by decide +kernel), memT 403 (by decide +kernel) (by decide +kernel)⟩
theorem km_X10_textAt : KM yX10_textAt cX10_textAt 2 (some .int) 1 := ⟨memT 442 (by decide +kernel) (by decide +kernel), memT 1 (by decide +kernel) (by decide +kernel), by decide +kernel, by decide +kernel, by decide +kernel, by decide +kernel⟩
theorem kv_X10_textAt : KV yX10_textAt := ⟨memT 440 (by decide +kernel) (by decide +kernel), memT 441 (by decide +kernel) (by decide +kernel)⟩
theorem km_X10_scripts : KM yX10_scripts cX10_scripts 1 (some .long) 0 := ⟨memT 461 (by decide +kernel) (by decide +kernel), memT 1 (by decide +kernel) (by decide +kernel), by decide +kernel, by decide +kernel, by decide +kernel, by decide +kernel⟩
theorem kv_X10_scripts : KV yX10_scripts := ⟨memT 459 (by decide +kernel) (by decide +kernel), memT 460 (by decide +kernel) (by decide +kernel)⟩
theorem km_X10_hunkOf : KM yX10_hunkOf cX10_hunkOf 5 (some .int) 2 := ⟨memT 493 (by decide +kernel) (by decide +kernel), memT 1 (by decide +kernel) (by decide +kernel), by decide +kernel, by decide +kernel, by decide +kernel, by decide +kernel⟩
theorem kv_X10_hunkOf : KV yX10_hunkOf := ⟨memT 491 (by decide +kernel) (by decide +kernel), memT 492 (by decide +kernel) (by decide +kernel)⟩
theorem km_X10_movedOf : KM yX10_movedOf cX10_movedOf 4 (some .int) 2 := ⟨memT 529 (by decide +kernel) (by decide +kernel), memT 1 (by decide +kernel) (by decide +kernel), by decide +kernel, by decide +kernel, by decide +kernel, by decide +kernel⟩
theorem kv_X10_movedOf : KV yX10_movedOf := ⟨memT 527 (by decide +kernel) (by decide +kernel), memT 528 (by decide +kernel) (by decide +kernel)⟩
theorem km_X10_bestChange : KM yX10_bestChange cX10_bestChange 2 (some .int) 1 := ⟨memT 565 (by decide +kernel) (by decide +kernel), memT 1 (by decide +kernel) (by decide +kernel), by decide +kernel, by decide +kernel, by decide +kernel, by decide +kernel⟩
theorem kv_X10_bestChange : KV yX10_bestChange := ⟨memT 563 (by decide +kernel) (by decide +kernel), memT 564 (by decide +kernel) (by decide +kernel)⟩
theorem km_X10_count : KM yX10_count cX10_count 2 (some .int) 1 := ⟨memT 586 (by decide +kernel) (by decide +kernel), memT 1 (by decide +kernel) (by decide +kernel), by decide +kernel, by decide +kernel, by decide +kernel, by decide +kernel⟩
theorem kv_X10_count : KV yX10_count := ⟨memT 584 (by decide +kernel) (by decide +kernel), memT 585 (by decide +kernel) (by decide +kernel)⟩
theorem km_X10_undo : KM yX10_undo cX10_undo 1 (some .int) 0 := ⟨memT 600 (by decide +kernel) (by decide +kernel), memT 1 (by decide +kernel) (by decide +kernel), by decide +kernel, by decide +kernel, by decide +kernel, by decide +kernel⟩
theorem kv_X10_undo : KV yX10_undo := ⟨memT 598 (by decide +kernel) (by decide +kernel), memT 599 (by decide +kernel) (by decide +kernel)⟩
theorem km_X10_type : KM yX10_type cX10_type 2 (some .int) 1 := ⟨memT 608 (by decide +kernel) (by decide +kernel), memT 1 (by decide +kernel) (by decide +kernel), by decide +kernel, by decide +kernel, by decide +kernel, by decide +kernel⟩
theorem kv_X10_type : KV yX10_type := ⟨memT 606 (by decide +kernel) (by decide +kernel), memT 607 (by decide +kernel) (by decide +kernel)⟩
theorem km_X10_clearText : KM yX10_clearText cX10_clearText 2 (some .int) 0 := ⟨memT 612 (by decide +kernel) (by decide +kernel), memT 1 (by decide +kernel) (by decide +kernel), by decide +kernel, by decide +kernel, by decide +kernel, by decide +kernel⟩
theorem kv_X10_clearText : KV yX10_clearText := ⟨memT 610 (by decide +kernel) (by decide +kernel), memT 611 (by decide +kernel) (by decide +kernel)⟩
theorem km_X10_fault : KM yX10_fault cX10_fault 2 (some .int) 1 := ⟨memT 617 (by decide +kernel) (by decide +kernel), memT 1 (by decide +kernel) (by decide +kernel), by decide +kernel, by decide +kernel, by decide +kernel, by decide +kernel⟩
theorem kv_X10_fault : KV yX10_fault := ⟨memT 615 (by decide +kernel) (by decide +kernel), memT 616 (by decide +kernel) (by decide +kernel)⟩
theorem km_X10_apply : KM yX10_apply cX10_apply 1 (some .int) 0 := ⟨memT 660 (by decide +kernel) (by decide +kernel), memT 1 (by decide +kernel) (by decide +kernel), by decide +kernel, by decide +kernel, by decide +kernel, by decide +kernel⟩
theorem kv_X10_apply : KV yX10_apply := ⟨memT 658 (by decide +kernel) (by decide +kernel), memT 659 (by decide +kernel) (by decide +kernel)⟩
theorem km_X10_isIn : KM yX10_isIn cX10_isIn 3 (some .boolean) 3 := ⟨memT 275 (by decide +kernel) (by decide +kernel), memT 1 (by decide +kernel) (by decide +kernel), by decide +kernel, by decide +kernel, by decide +kernel, by decide +kernel⟩
theorem ks_X10_isIn : Cond.static yX10_isIn ∈ WS := memT 274 (by decide +kernel) (by decide +kernel)
theorem km_X10_orNotFound : KM yX10_orNotFound cX10_orNotFound 1 (some .int) 1 := ⟨memT 352 (by decide +kernel) (by decide +kernel), memT 1 (by decide +kernel) (by decide +kernel), by decide +kernel, by decide +kernel, by decide +kernel, by decide +kernel⟩
theorem ks_X10_orNotFound : Cond.static yX10_orNotFound ∈ WS := memT 351 (by decide +kernel) (by decide +kernel)
theorem km_X10_isAboveLimit : KM yX10_isAboveLimit cX10_isAboveLimit 1 (some .boolean) 0 := ⟨memT 400 (by decide +kernel) (by decide +kernel), memT 1 (by decide +kernel) (by decide +kernel), by decide +kernel, by decide +kernel, by decide +kernel, by decide +kernel⟩
theorem kv_X10_isAboveLimit : KV yX10_isAboveLimit := ⟨memT 399 (by decide +kernel) (by decide +kernel), memP 2 (by decide +kernel) (by decide +kernel)⟩
theorem km_X10_findScript : KM yX10_findScript cX10_findScript 1 (some .boolean) 0 := ⟨memT 408 (by decide +kernel) (by decide +kernel), memT 1 (by decide +kernel) (by decide +kernel), by decide +kernel, by decide +kernel, by decide +kernel, by decide +kernel⟩
theorem kv_X10_findScript : KV yX10_findScript := ⟨memT 407 (by decide +kernel) (by decide +kernel), memP 3 (by decide +kernel) (by decide +kernel)⟩
theorem km_X10_countOfScript : KM yX10_countOfScript cX10_countOfScript 2 (some .int) 1 := ⟨memT 590 (by decide +kernel) (by decide +kernel), memT 1 (by decide +kernel) (by decide +kernel), by decide +kernel, by decide +kernel, by decide +kernel, by decide +kernel⟩
theorem kv_X10_countOfScript : KV yX10_countOfScript := ⟨memT 589 (by decide +kernel) (by decide +kernel), memP 14 (by decide +kernel) (by decide +kernel)⟩
theorem km_X11_init : KM yX11_init cX11_init 1 none 0 := ⟨memT 666 (by decide +kernel) (by decide +kernel), memT 13 (by decide +kernel) (by decide +kernel), by decide +kernel, by decide +kernel, by decide +kernel, by decide +kernel⟩
theorem ki_X11_init : KI yX11_init := ⟨memT 665 (by decide +kernel) (by decide +kernel), rfl⟩
theorem km_X11_in : KM yX11_in cX11_in 3 (some .boolean) 3 := ⟨memT 751 (by decide +kernel) (by decide +kernel), memT 13 (by decide +kernel) (by decide +kernel), by decide +kernel, by decide +kernel, by decide +kernel, by decide +kernel⟩
theorem ks_X11_in : Cond.static yX11_in ∈ WS := memT 750 (by decide +kernel) (by decide +kernel)
theorem km_X11_letter : KM yX11_letter cX11_letter 3 (some .int) 2 := ⟨memT 770 (by decide +kernel) (by decide +kernel), memT 13 (by decide +kernel) (by decide +kernel), by decide +kernel, by decide +kernel, by decide +kernel, by decide +kernel⟩
theorem kv_X11_letter : KV yX11_letter := ⟨memT 769 (by decide +kernel) (by decide +kernel), memP 21 (by decide +kernel) (by decide +kernel)⟩
theorem km_X11_alike : KM yX11_alike cX11_alike 3 (some .boolean) 2 := ⟨memT 799 (by decide +kernel) (by decide +kernel), memT 13 (by decide +kernel) (by decide +kernel), by decide +kernel, by decide +kernel, by decide +kernel, by decide +kernel⟩
theorem kv_X11_alike : KV yX11_alike := ⟨memT 798 (by decide +kernel) (by decide +kernel), memP 23 (by decide +kernel) (by decide +kernel)⟩
theorem km_X11_keeps : KM yX11_keeps cX11_keeps 2 none 0 := ⟨memT 757 (by decide +kernel) (by decide +kernel), memT 13 (by decide +kernel) (by decide +kernel), by decide +kernel, by decide +kernel, by decide +kernel, by decide +kernel⟩
theorem kv_X11_keeps : KV yX11_keeps := ⟨memT 756 (by decide +kernel) (by decide +kernel), memP 19 (by decide +kernel) (by decide +kernel)⟩
theorem km_X11_acted : KM yX11_acted cX11_acted 3 (some .int) 1 := ⟨memT 761 (by decide +kernel) (by decide +kernel), memT 13 (by decide +kernel) (by decide +kernel), by decide +kernel, by decide +kernel, by decide +kernel, by decide +kernel⟩
theorem kv_X11_acted : KV yX11_acted := ⟨memT 760 (by decide +kernel) (by decide +kernel), memP 20 (by decide +kernel) (by decide +kernel)⟩
theorem km_X11_append : KM yX11_append cX11_append 3 (some .int) 2 := ⟨memT 748 (by decide +kernel) (by decide +kernel), memT 13 (by decide +kernel) (by decide +kernel), by decide +kernel, by decide +kernel, by decide +kernel, by decide +kernel⟩
theorem kv_X11_append : KV yX11_append := ⟨memT 746 (by decide +kernel) (by decide +kernel), memT 747 (by decide +kernel) (by decide +kernel)⟩
theorem km_X11_cut : KM yX11_cut cX11_cut 5 (some .int) 3 := ⟨memT 765 (by decide +kernel) (by decide +kernel), memT 13 (by decide +kernel) (by decide +kernel), by decide +kernel, by decide +kernel, by decide +kernel, by decide +kernel⟩
theorem kv_X11_cut : KV yX11_cut := ⟨memT 763 (by decide +kernel) (by decide +kernel), memT 764 (by decide +kernel) (by decide +kernel)⟩
theorem km_X11_change : KM yX11_change cX11_change 5 (some .int) 3 := ⟨memT 774 (by decide +kernel) (by decide +kernel), memT 13 (by decide +kernel) (by decide +kernel), by decide +kernel, by decide +kernel, by decide +kernel, by decide +kernel⟩
theorem kv_X11_change : KV yX11_change := ⟨memT 772 (by decide +kernel) (by decide +kernel), memT 773 (by decide +kernel) (by decide +kernel)⟩
theorem km_X11_exchange : KM yX11_exchange cX11_exchange 2 (some .int) 0 := ⟨memT 778 (by decide +kernel) (by decide +kernel), memT 13 (by decide +kernel) (by decide +kernel), by decide +kernel, by decide +kernel, by decide +kernel, by decide +kernel⟩
theorem kv_X11_exchange : KV yX11_exchange := ⟨memT 776 (by decide +kernel) (by decide +kernel), memT 777 (by decide +kernel) (by decide +kernel)⟩
theorem km_X11_set : KM yX11_set cX11_set 4 (some .int) 2 := ⟨memT 782 (by decide +kernel) (by decide +kernel), memT 13 (by decide +kernel) (by decide +kernel), by decide +kernel, by decide +kernel, by decide +kernel, by decide +kernel⟩
theorem kv_X11_set : KV yX11_set := ⟨memT 780 (by decide +kernel) (by decide +kernel), memT 781 (by decide +kernel) (by decide +kernel)⟩
theorem km_X11_letterAt : KM yX11_letterAt cX11_letterAt 3 (some .int) 2 := ⟨memT 786 (by decide +kernel) (by decide +kernel), memT 13 (by decide +kernel) (by decide +kernel), by decide +kernel, by decide +kernel, by decide +kernel, by decide +kernel⟩
theorem kv_X11_letterAt : KV yX11_letterAt := ⟨memT 784 (by decide +kernel) (by decide +kernel), memT 785 (by decide +kernel) (by decide +kernel)⟩
theorem km_X11_alikeFrom : KM yX11_alikeFrom cX11_alikeFrom 4 (some .int) 2 := ⟨memT 795 (by decide +kernel) (by decide +kernel), memT 13 (by decide +kernel) (by decide +kernel), by decide +kernel, by decide +kernel, by decide +kernel, by decide +kernel⟩
theorem kv_X11_alikeFrom : KV yX11_alikeFrom := ⟨memT 794 (by decide +kernel) (by decide +kernel), memP 22 (by decide +kernel) (by decide +kernel)⟩
theorem km_X11_same : KM yX11_same cX11_same 3 (some .int) 2 := ⟨memT 791 (by decide +kernel) (by decide +kernel), memT 13 (by decide +kernel) (by decide +kernel), by decide +kernel, by decide +kernel, by decide +kernel, by decide +kernel⟩
theorem kv_X11_same : KV yX11_same := ⟨memT 789 (by decide +kernel) (by decide +kernel), memT 790 (by decide +kernel) (by decide +kernel)⟩
theorem km_X11_reached : KM yX11_reached cX11_reached 3 (some .int) 2 := ⟨memT 819 (by decide +kernel) (by decide +kernel), memT 13 (by decide +kernel) (by decide +kernel), by decide +kernel, by decide +kernel, by decide +kernel, by decide +kernel⟩
theorem kv_X11_reached : KV yX11_reached := ⟨memT 818 (by decide +kernel) (by decide +kernel), memP 27 (by decide +kernel) (by decide +kernel)⟩
theorem km_X11_putsIn : KM yX11_putsIn cX11_putsIn 3 (some .boolean) 2 := ⟨memT 815 (by decide +kernel) (by decide +kernel), memT 13 (by decide +kernel) (by decide +kernel), by decide +kernel, by decide +kernel, by decide +kernel, by decide +kernel⟩
theorem kv_X11_putsIn : KV yX11_putsIn := ⟨memT 814 (by decide +kernel) (by decide +kernel), memP 26 (by decide +kernel) (by decide +kernel)⟩
theorem km_X11_lays : KM yX11_lays cX11_lays 4 none 2 := ⟨memT 811 (by decide +kernel) (by decide +kernel), memT 13 (by decide +kernel) (by decide +kernel), by decide +kernel, by decide +kernel, by decide +kernel, by decide +kernel⟩
theorem kv_X11_lays : KV yX11_lays := ⟨memT 810 (by decide +kernel) (by decide +kernel), memP 25 (by decide +kernel) (by decide +kernel)⟩
theorem km_X11_finds : KM yX11_finds cX11_finds 4 (some .int) 0 := ⟨memT 807 (by decide +kernel) (by decide +kernel), memT 13 (by decide +kernel) (by decide +kernel), by decide +kernel, by decide +kernel, by decide +kernel, by decide +kernel⟩
theorem kv_X11_finds : KV yX11_finds := ⟨memT 806 (by decide +kernel) (by decide +kernel), memP 24 (by decide +kernel) (by decide +kernel)⟩
theorem km_X11_reach : KM yX11_reach cX11_reach 3 (some .int) 2 := ⟨memT 803 (by decide +kernel) (by decide +kernel), memT 13 (by decide +kernel) (by decide +kernel), by decide +kernel, by decide +kernel, by decide +kernel, by decide +kernel⟩
theorem kv_X11_reach : KV yX11_reach := ⟨memT 801 (by decide +kernel) (by decide +kernel), memT 802 (by decide +kernel) (by decide +kernel)⟩
theorem km_X11_distance : KM yX11_distance cX11_distance 2 (some .int) 0 := ⟨memT 823 (by decide +kernel) (by decide +kernel), memT 13 (by decide +kernel) (by decide +kernel), by decide +kernel, by decide +kernel, by decide +kernel, by decide +kernel⟩
theorem kv_X11_distance : KV yX11_distance := ⟨memT 821 (by decide +kernel) (by decide +kernel), memT 822 (by decide +kernel) (by decide +kernel)⟩
theorem km_X11_puts : KM yX11_puts cX11_puts 4 none 3 := ⟨memT 835 (by decide +kernel) (by decide +kernel), memT 13 (by decide +kernel) (by decide +kernel), by decide +kernel, by decide +kernel, by decide +kernel, by decide +kernel⟩
theorem kv_X11_puts : KV yX11_puts := ⟨memT 834 (by decide +kernel) (by decide +kernel), memP 29 (by decide +kernel) (by decide +kernel)⟩
theorem km_X11_traces : KM yX11_traces cX11_traces 8 (some .boolean) 0 := ⟨memT 831 (by decide +kernel) (by decide +kernel), memT 13 (by decide +kernel) (by decide +kernel), by decide +kernel, by decide +kernel, by decide +kernel, by decide +kernel⟩
theorem kv_X11_traces : KV yX11_traces := ⟨memT 830 (by decide +kernel) (by decide +kernel), memP 28 (by decide +kernel) (by decide +kernel)⟩
theorem km_X11_kind : KM yX11_kind cX11_kind 2 (some .int) 1 := ⟨memT 839 (by decide +kernel) (by decide +kernel), memT 13 (by decide +kernel) (by decide +kernel), by decide +kernel, by decide +kernel, by decide +kernel, by decide +kernel⟩
theorem kv_X11_kind : KV yX11_kind := ⟨memT 838 (by decide +kernel) (by decide +kernel), memP 30 (by decide +kernel) (by decide +kernel)⟩
theorem km_X11_stepOf : KM yX11_stepOf cX11_stepOf 5 (some .int) 2 := ⟨memT 827 (by decide +kernel) (by decide +kernel), memT 13 (by decide +kernel) (by decide +kernel), by decide +kernel, by decide +kernel, by decide +kernel, by decide +kernel⟩
theorem kv_X11_stepOf : KV yX11_stepOf := ⟨memT 825 (by decide +kernel) (by decide +kernel), memT 826 (by decide +kernel) (by decide +kernel)⟩
theorem km_X11_writes : KM yX11_writes cX11_writes 2 none 1 := ⟨memT 851 (by decide +kernel) (by decide +kernel), memT 13 (by decide +kernel) (by decide +kernel), by decide +kernel, by decide +kernel, by decide +kernel, by decide +kernel⟩
theorem kv_X11_writes : KV yX11_writes := ⟨memT 850 (by decide +kernel) (by decide +kernel), memP 32 (by decide +kernel) (by decide +kernel)⟩
theorem km_X11_number : KM yX11_number cX11_number 2 none 1 := ⟨memT 855 (by decide +kernel) (by decide +kernel), memT 13 (by decide +kernel) (by decide +kernel), by decide +kernel, by decide +kernel, by decide +kernel, by decide +kernel⟩
theorem kv_X11_number : KV yX11_number := ⟨memT 854 (by decide +kernel) (by decide +kernel), memP 33 (by decide +kernel) (by decide +kernel)⟩
theorem km_X11_tells : KM yX11_tells cX11_tells 4 none 0 := ⟨memT 847 (by decide +kernel) (by decide +kernel), memT 13 (by decide +kernel) (by decide +kernel), by decide +kernel, by decide +kernel, by decide +kernel, by decide +kernel⟩
theorem kv_X11_tells : KV yX11_tells := ⟨memT 846 (by decide +kernel) (by decide +kernel), memP 31 (by decide +kernel) (by decide +kernel)⟩
theorem km_X11_textAt : KM yX11_textAt cX11_textAt 2 (some .int) 1 := ⟨memT 843 (by decide +kernel) (by decide +kernel), memT 13 (by decide +kernel) (by decide +kernel), by decide +kernel, by decide +kernel, by decide +kernel, by decide +kernel⟩
theorem kv_X11_textAt : KV yX11_textAt := ⟨memT 841 (by decide +kernel) (by decide +kernel), memT 842 (by decide +kernel) (by decide +kernel)⟩
theorem km_X11_counts : KM yX11_counts cX11_counts 10 (some .int) 0 := ⟨memT 863 (by decide +kernel) (by decide +kernel), memT 13 (by decide +kernel) (by decide +kernel), by decide +kernel, by decide +kernel, by decide +kernel, by decide +kernel⟩
theorem kv_X11_counts : KV yX11_counts := ⟨memT 862 (by decide +kernel) (by decide +kernel), memP 34 (by decide +kernel) (by decide +kernel)⟩
theorem km_X11_scripts : KM yX11_scripts cX11_scripts 1 (some .long) 0 := ⟨memT 859 (by decide +kernel) (by decide +kernel), memT 13 (by decide +kernel) (by decide +kernel), by decide +kernel, by decide +kernel, by decide +kernel, by decide +kernel⟩
theorem kv_X11_scripts : KV yX11_scripts := ⟨memT 857 (by decide +kernel) (by decide +kernel), memT 858 (by decide +kernel) (by decide +kernel)⟩
theorem km_X11_hunkFrom : KM yX11_hunkFrom cX11_hunkFrom 5 (some .boolean) 1 := ⟨memT 871 (by decide +kernel) (by decide +kernel), memT 13 (by decide +kernel) (by decide +kernel), by decide +kernel, by decide +kernel, by decide +kernel, by decide +kernel⟩
theorem kv_X11_hunkFrom : KV yX11_hunkFrom := ⟨memT 870 (by decide +kernel) (by decide +kernel), memP 35 (by decide +kernel) (by decide +kernel)⟩
theorem km_X11_hunks : KM yX11_hunks cX11_hunks 3 (some .int) 0 := ⟨memT 911 (by decide +kernel) (by decide +kernel), memT 13 (by decide +kernel) (by decide +kernel), by decide +kernel, by decide +kernel, by decide +kernel, by decide +kernel⟩
theorem kv_X11_hunks : KV yX11_hunks := ⟨memT 910 (by decide +kernel) (by decide +kernel), memP 42 (by decide +kernel) (by decide +kernel)⟩
theorem km_X11_without : KM yX11_without cX11_without 4 (some .int) 1 := ⟨memT 875 (by decide +kernel) (by decide +kernel), memT 13 (by decide +kernel) (by decide +kernel), by decide +kernel, by decide +kernel, by decide +kernel, by decide +kernel⟩
theorem kv_X11_without : KV yX11_without := ⟨memT 874 (by decide +kernel) (by decide +kernel), memP 36 (by decide +kernel) (by decide +kernel)⟩
theorem km_X11_hunkOf : KM yX11_hunkOf cX11_hunkOf 5 (some .int) 2 := ⟨memT 867 (by decide +kernel) (by decide +kernel), memT 13 (by decide +kernel) (by decide +kernel), by decide +kernel, by decide +kernel, by decide +kernel, by decide +kernel⟩
theorem kv_X11_hunkOf : KV yX11_hunkOf := ⟨memT 865 (by decide +kernel) (by decide +kernel), memT 866 (by decide +kernel) (by decide +kernel)⟩
theorem km_X11_marks : KM yX11_marks cX11_marks 2 none 0 := ⟨memT 887 (by decide +kernel) (by decide +kernel), memT 13 (by decide +kernel) (by decide +kernel), by decide +kernel, by decide +kernel, by decide +kernel, by decide +kernel⟩
theorem kv_X11_marks : KV yX11_marks := ⟨memT 886 (by decide +kernel) (by decide +kernel), memP 38 (by decide +kernel) (by decide +kernel)⟩
theorem km_X11_moves : KM yX11_moves cX11_moves 3 (some .boolean) 2 := ⟨memT 895 (by decide +kernel) (by decide +kernel), memT 13 (by decide +kernel) (by decide +kernel), by decide +kernel, by decide +kernel, by decide +kernel, by decide +kernel⟩
theorem kv_X11_moves : KV yX11_moves := ⟨memT 894 (by decide +kernel) (by decide +kernel), memP 40 (by decide +kernel) (by decide +kernel)⟩
theorem km_X11_goesOn : KM yX11_goesOn cX11_goesOn 3 (some .boolean) 2 := ⟨memT 899 (by decide +kernel) (by decide +kernel), memT 13 (by decide +kernel) (by decide +kernel), by decide +kernel, by decide +kernel, by decide +kernel, by decide +kernel⟩
theorem kv_X11_goesOn : KV yX11_goesOn := ⟨memT 898 (by decide +kernel) (by decide +kernel), memP 41 (by decide +kernel) (by decide +kernel)⟩
theorem km_X11_block : KM yX11_block cX11_block 4 (some .int) 2 := ⟨memT 891 (by decide +kernel) (by decide +kernel), memT 13 (by decide +kernel) (by decide +kernel), by decide +kernel, by decide +kernel, by decide +kernel, by decide +kernel⟩
theorem kv_X11_block : KV yX11_block := ⟨memT 890 (by decide +kernel) (by decide +kernel), memP 39 (by decide +kernel) (by decide +kernel)⟩
theorem km_X11_blocks : KM yX11_blocks cX11_blocks 7 (some .int) 1 := ⟨memT 883 (by decide +kernel) (by decide +kernel), memT 13 (by decide +kernel) (by decide +kernel), by decide +kernel, by decide +kernel, by decide +kernel, by decide +kernel⟩
theorem kv_X11_blocks : KV yX11_blocks := ⟨memT 882 (by decide +kernel) (by decide +kernel), memP 37 (by decide +kernel) (by decide +kernel)⟩
theorem km_X11_movedOf : KM yX11_movedOf cX11_movedOf 4 (some .int) 2 := ⟨memT 879 (by decide +kernel) (by decide +kernel), memT 13 (by decide +kernel) (by decide +kernel), by decide +kernel, by decide +kernel, by decide +kernel, by decide +kernel⟩
theorem kv_X11_movedOf : KV yX11_movedOf := ⟨memT 877 (by decide +kernel) (by decide +kernel), memT 878 (by decide +kernel) (by decide +kernel)⟩
theorem km_X11_bestChange : KM yX11_bestChange cX11_bestChange 8 (some .int) 1 := ⟨memT 903 (by decide +kernel) (by decide +kernel), memT 13 (by decide +kernel) (by decide +kernel), by decide +kernel, by decide +kernel, by decide +kernel, by decide +kernel⟩
theorem kv_X11_bestChange : KV yX11_bestChange := ⟨memT 901 (by decide +kernel) (by decide +kernel), memT 902 (by decide +kernel) (by decide +kernel)⟩
theorem km_X11_longest : KM yX11_longest cX11_longest 5 (some .int) 0 := ⟨memT 915 (by decide +kernel) (by decide +kernel), memT 13 (by decide +kernel) (by decide +kernel), by decide +kernel, by decide +kernel, by decide +kernel, by decide +kernel⟩
theorem kv_X11_longest : KV yX11_longest := ⟨memT 914 (by decide +kernel) (by decide +kernel), memP 43 (by decide +kernel) (by decide +kernel)⟩
theorem km_X11_count : KM yX11_count cX11_count 2 (some .int) 1 := ⟨memT 907 (by decide +kernel) (by decide +kernel), memT 13 (by decide +kernel) (by decide +kernel), by decide +kernel, by decide +kernel, by decide +kernel, by decide +kernel⟩
theorem kv_X11_count : KV yX11_count := ⟨memT 905 (by decide +kernel) (by decide +kernel), memT 906 (by decide +kernel) (by decide +kernel)⟩
theorem km_X11_undo : KM yX11_undo cX11_undo 2 (some .int) 0 := ⟨memT 919 (by decide +kernel) (by decide +kernel), memT 13 (by decide +kernel) (by decide +kernel), by decide +kernel, by decide +kernel, by decide +kernel, by decide +kernel⟩
theorem kv_X11_undo : KV yX11_undo := ⟨memT 917 (by decide +kernel) (by decide +kernel), memT 918 (by decide +kernel) (by decide +kernel)⟩
theorem km_X11_type : KM yX11_type cX11_type 2 (some .int) 1 := ⟨memT 923 (by decide +kernel) (by decide +kernel), memT 13 (by decide +kernel) (by decide +kernel), by decide +kernel, by decide +kernel, by decide +kernel, by decide +kernel⟩
theorem kv_X11_type : KV yX11_type := ⟨memT 921 (by decide +kernel) (by decide +kernel), memT 922 (by decide +kernel) (by decide +kernel)⟩
theorem km_X11_clearText : KM yX11_clearText cX11_clearText 2 (some .int) 0 := ⟨memT 927 (by decide +kernel) (by decide +kernel), memT 13 (by decide +kernel) (by decide +kernel), by decide +kernel, by decide +kernel, by decide +kernel, by decide +kernel⟩
theorem kv_X11_clearText : KV yX11_clearText := ⟨memT 925 (by decide +kernel) (by decide +kernel), memT 926 (by decide +kernel) (by decide +kernel)⟩
theorem km_X11_sign : KM yX11_sign cX11_sign 1 (some .int) 0 := ⟨memT 943 (by decide +kernel) (by decide +kernel), memT 13 (by decide +kernel) (by decide +kernel), by decide +kernel, by decide +kernel, by decide +kernel, by decide +kernel⟩
theorem kv_X11_sign : KV yX11_sign := ⟨memT 942 (by decide +kernel) (by decide +kernel), memP 46 (by decide +kernel) (by decide +kernel)⟩
theorem km_X11_readsNumber : KM yX11_readsNumber cX11_readsNumber 2 (some .boolean) 0 := ⟨memT 951 (by decide +kernel) (by decide +kernel), memT 13 (by decide +kernel) (by decide +kernel), by decide +kernel, by decide +kernel, by decide +kernel, by decide +kernel⟩
theorem kv_X11_readsNumber : KV yX11_readsNumber := ⟨memT 950 (by decide +kernel) (by decide +kernel), memP 48 (by decide +kernel) (by decide +kernel)⟩
theorem km_X11_readsLetters : KM yX11_readsLetters cX11_readsLetters 2 (some .boolean) 0 := ⟨memT 947 (by decide +kernel) (by decide +kernel), memT 13 (by decide +kernel) (by decide +kernel), by decide +kernel, by decide +kernel, by decide +kernel, by decide +kernel⟩
theorem kv_X11_readsLetters : KV yX11_readsLetters := ⟨memT 946 (by decide +kernel) (by decide +kernel), memP 47 (by decide +kernel) (by decide +kernel)⟩
theorem km_X11_doesNext : KM yX11_doesNext cX11_doesNext 6 (some .int) 0 := ⟨memT 939 (by decide +kernel) (by decide +kernel), memT 13 (by decide +kernel) (by decide +kernel), by decide +kernel, by decide +kernel, by decide +kernel, by decide +kernel⟩
theorem kv_X11_doesNext : KV yX11_doesNext := ⟨memT 938 (by decide +kernel) (by decide +kernel), memP 45 (by decide +kernel) (by decide +kernel)⟩
theorem km_X11_faulty : KM yX11_faulty cX11_faulty 2 (some .int) 0 := ⟨memT 935 (by decide +kernel) (by decide +kernel), memT 13 (by decide +kernel) (by decide +kernel), by decide +kernel, by decide +kernel, by decide +kernel, by decide +kernel⟩
theorem kv_X11_faulty : KV yX11_faulty := ⟨memT 934 (by decide +kernel) (by decide +kernel), memP 44 (by decide +kernel) (by decide +kernel)⟩
theorem km_X11_fault : KM yX11_fault cX11_fault 3 (some .int) 1 := ⟨memT 931 (by decide +kernel) (by decide +kernel), memT 13 (by decide +kernel) (by decide +kernel), by decide +kernel, by decide +kernel, by decide +kernel, by decide +kernel⟩
theorem kv_X11_fault : KV yX11_fault := ⟨memT 929 (by decide +kernel) (by decide +kernel), memT 930 (by decide +kernel) (by decide +kernel)⟩
theorem km_X11_apply : KM yX11_apply cX11_apply 2 (some .int) 0 := ⟨memT 955 (by decide +kernel) (by decide +kernel), memT 13 (by decide +kernel) (by decide +kernel), by decide +kernel, by decide +kernel, by decide +kernel, by decide +kernel⟩
theorem kv_X11_apply : KV yX11_apply := ⟨memT 953 (by decide +kernel) (by decide +kernel), memT 954 (by decide +kernel) (by decide +kernel)⟩
theorem it_RL : Cond.initialized RL ∈ WS := memT 0 (by decide +kernel) (by decide +kernel)
theorem it_RX10 : Cond.initialized RX10 ∈ WS := memT 1 (by decide +kernel) (by decide +kernel)
theorem it_RX9 : Cond.initialized RX9 ∈ WS := memT 2 (by decide +kernel) (by decide +kernel)
theorem it_RX7 : Cond.initialized RX7 ∈ WS := memT 3 (by decide +kernel) (by decide +kernel)
theorem it_java_lang_Math : Cond.initialized "java/lang/Math" ∈ WS := memT 4 (by decide +kernel) (by decide +kernel)
theorem it_RX3 : Cond.initialized RX3 ∈ WS := memT 5 (by decide +kernel) (by decide +kernel)
theorem it_RX5 : Cond.initialized RX5 ∈ WS := memT 6 (by decide +kernel) (by decide +kernel)
theorem it_RX8 : Cond.initialized RX8 ∈ WS := memT 7 (by decide +kernel) (by decide +kernel)
theorem it_RX4 : Cond.initialized RX4 ∈ WS := memT 8 (by decide +kernel) (by decide +kernel)
theorem it_RX0 : Cond.initialized RX0 ∈ WS := memT 9 (by decide +kernel) (by decide +kernel)
theorem it_RX1 : Cond.initialized RX1 ∈ WS := memT 10 (by decide +kernel) (by decide +kernel)
theorem it_RX2 : Cond.initialized RX2 ∈ WS := memT 11 (by decide +kernel) (by decide +kernel)
theorem it_RX6 : Cond.initialized RX6 ∈ WS := memT 12 (by decide +kernel) (by decide +kernel)
theorem it_RX11 : Cond.initialized RX11 ∈ WS := memT 13 (by decide +kernel) (by decide +kernel)
theorem cl_RL_7 : Cond.classLink RL 7 RX10 ∈ WS := memT 14 (by decide +kernel) (by decide +kernel)
theorem in_RX10 : Cond.instantiable RX10 10 ∈ WS := memT 15 (by decide +kernel) (by decide +kernel)
theorem ml_RL_9 : ML RL 9 yX10_init := Or.inl (memT 16 (by decide +kernel) (by decide +kernel))
theorem ml_RX10_3 : Cond.methodLink RX10 3 ⟨"java/lang/Object", "<init>", "()V"⟩ ∈ WS := memT 19 (by decide +kernel) (by decide +kernel)
theorem cl_RX10_9 : Cond.classLink RX10 9 RX9 ∈ WS := memT 22 (by decide +kernel) (by decide +kernel)
theorem in_RX9 : Cond.instantiable RX9 3 ∈ WS := memT 23 (by decide +kernel) (by decide +kernel)
theorem ml_RX10_11 : ML RX10 11 yX9_init := Or.inl (memT 24 (by decide +kernel) (by decide +kernel))
theorem ml_RX9_3 : Cond.methodLink RX9 3 ⟨"java/lang/Object", "<init>", "()V"⟩ ∈ WS := memT 27 (by decide +kernel) (by decide +kernel)
theorem cl_RX9_9 : Cond.classLink RX9 9 RX7 ∈ WS := memT 28 (by decide +kernel) (by decide +kernel)
theorem in_RX7 : Cond.instantiable RX7 2 ∈ WS := memT 29 (by decide +kernel) (by decide +kernel)
theorem ml_RX9_11 : ML RX9 11 yX7_init := Or.inl (memT 30 (by decide +kernel) (by decide +kernel))
theorem ml_RX7_3 : Cond.methodLink RX7 3 ⟨"java/lang/Object", "<init>", "()V"⟩ ∈ WS := memT 33 (by decide +kernel) (by decide +kernel)
theorem ml_RX7_9 : Cond.methodLink RX7 9 ⟨"java/lang/Math", "max", "(II)I"⟩ ∈ WS := memT 34 (by decide +kernel) (by decide +kernel)
theorem ac_int : Cond.arrayClass .int ∈ WS := memT 50 (by decide +kernel) (by decide +kernel)
theorem cl_RX10_16 : Cond.classLink RX10 16 RX3 ∈ WS := memT 72 (by decide +kernel) (by decide +kernel)
theorem in_RX3 : Cond.instantiable RX3 2 ∈ WS := memT 73 (by decide +kernel) (by decide +kernel)
theorem ml_RX10_18 : ML RX10 18 yX3_init := Or.inl (memT 74 (by decide +kernel) (by decide +kernel))
theorem ml_RX3_3 : Cond.methodLink RX3 3 ⟨"java/lang/Object", "<init>", "()V"⟩ ∈ WS := memT 77 (by decide +kernel) (by decide +kernel)
theorem cl_RX3_9 : Cond.classLink RX3 9 RX9 ∈ WS := memT 78 (by decide +kernel) (by decide +kernel)
theorem ml_RX3_17 : ML RX3 17 yX9_init := Or.inl (memT 80 (by decide +kernel) (by decide +kernel))
theorem cl_RX10_23 : Cond.classLink RX10 23 RX7 ∈ WS := memT 89 (by decide +kernel) (by decide +kernel)
theorem ml_RX10_25 : ML RX10 25 yX7_init := Or.inl (memT 90 (by decide +kernel) (by decide +kernel))
theorem cl_RX10_32 : Cond.classLink RX10 32 RX5 ∈ WS := memT 91 (by decide +kernel) (by decide +kernel)
theorem in_RX5 : Cond.instantiable RX5 2 ∈ WS := memT 92 (by decide +kernel) (by decide +kernel)
theorem ml_RX10_34 : ML RX10 34 yX5_init := Or.inl (memT 93 (by decide +kernel) (by decide +kernel))
theorem ml_RX5_3 : Cond.methodLink RX5 3 ⟨"java/lang/Object", "<init>", "()V"⟩ ∈ WS := memT 96 (by decide +kernel) (by decide +kernel)
theorem cl_RX10_39 : Cond.classLink RX10 39 RX8 ∈ WS := memT 106 (by decide +kernel) (by decide +kernel)
theorem in_RX8 : Cond.instantiable RX8 5 ∈ WS := memT 107 (by decide +kernel) (by decide +kernel)
theorem ml_RX10_41 : ML RX10 41 yX8_init := Or.inl (memT 108 (by decide +kernel) (by decide +kernel))
theorem ml_RX8_3 : Cond.methodLink RX8 3 ⟨"java/lang/Object", "<init>", "()V"⟩ ∈ WS := memT 111 (by decide +kernel) (by decide +kernel)
theorem cl_RX10_49 : Cond.classLink RX10 49 RX4 ∈ WS := memT 131 (by decide +kernel) (by decide +kernel)
theorem in_RX4 : Cond.instantiable RX4 4 ∈ WS := memT 132 (by decide +kernel) (by decide +kernel)
theorem ml_RX10_51 : ML RX10 51 yX4_init := Or.inl (memT 133 (by decide +kernel) (by decide +kernel))
theorem ml_RX4_3 : Cond.methodLink RX4 3 ⟨"java/lang/Object", "<init>", "()V"⟩ ∈ WS := memT 136 (by decide +kernel) (by decide +kernel)
theorem cl_RX10_56 : Cond.classLink RX10 56 RX0 ∈ WS := memT 151 (by decide +kernel) (by decide +kernel)
theorem in_RX0 : Cond.instantiable RX0 4 ∈ WS := memT 152 (by decide +kernel) (by decide +kernel)
theorem ml_RX10_58 : ML RX10 58 yX0_init := Or.inl (memT 153 (by decide +kernel) (by decide +kernel))
theorem ml_RX0_3 : Cond.methodLink RX0 3 ⟨"java/lang/Object", "<init>", "()V"⟩ ∈ WS := memT 156 (by decide +kernel) (by decide +kernel)
theorem cl_RX10_63 : Cond.classLink RX10 63 RX1 ∈ WS := memT 171 (by decide +kernel) (by decide +kernel)
theorem in_RX1 : Cond.instantiable RX1 6 ∈ WS := memT 172 (by decide +kernel) (by decide +kernel)
theorem ml_RX10_65 : ML RX10 65 yX1_init := Or.inl (memT 173 (by decide +kernel) (by decide +kernel))
theorem ml_RX1_3 : Cond.methodLink RX1 3 ⟨"java/lang/Object", "<init>", "()V"⟩ ∈ WS := memT 176 (by decide +kernel) (by decide +kernel)
theorem cl_RX1_9 : Cond.classLink RX1 9 RX2 ∈ WS := memT 177 (by decide +kernel) (by decide +kernel)
theorem in_RX2 : Cond.instantiable RX2 1 ∈ WS := memT 178 (by decide +kernel) (by decide +kernel)
theorem ml_RX1_11 : ML RX1 11 yX2_init := Or.inl (memT 179 (by decide +kernel) (by decide +kernel))
theorem ml_RX2_3 : Cond.methodLink RX2 3 ⟨"java/lang/Object", "<init>", "()V"⟩ ∈ WS := memT 182 (by decide +kernel) (by decide +kernel)
theorem ac_long : Cond.arrayClass .long ∈ WS := memT 187 (by decide +kernel) (by decide +kernel)
theorem cl_RX10_70 : Cond.classLink RX10 70 RX6 ∈ WS := memT 210 (by decide +kernel) (by decide +kernel)
theorem in_RX6 : Cond.instantiable RX6 5 ∈ WS := memT 211 (by decide +kernel) (by decide +kernel)
theorem ml_RX10_72 : ML RX10 72 yX6_init := Or.inl (memT 212 (by decide +kernel) (by decide +kernel))
theorem ml_RX6_3 : Cond.methodLink RX6 3 ⟨"java/lang/Object", "<init>", "()V"⟩ ∈ WS := memT 215 (by decide +kernel) (by decide +kernel)
theorem cl_RX6_9 : Cond.classLink RX6 9 RX7 ∈ WS := memT 216 (by decide +kernel) (by decide +kernel)
theorem ml_RX6_11 : ML RX6 11 yX7_init := Or.inl (memT 217 (by decide +kernel) (by decide +kernel))
theorem ml_RL_13 : ML RL 13 yX10_append := Or.inl (memT 269 (by decide +kernel) (by decide +kernel))
theorem ml_RX10_77 : ML RX10 77 yX10_isIn := Or.inl (memT 273 (by decide +kernel) (by decide +kernel))
theorem kc_RX10_81 : Cond.constant RX10 81 (-1000001) ∈ WS := memT 276 (by decide +kernel) (by decide +kernel)
theorem ml_RX10_82 : ML RX10 82 yX9_rowOf := Or.inl (memT 277 (by decide +kernel) (by decide +kernel))
theorem kc_RX10_90 : Cond.constant RX10 90 (-1000003) ∈ WS := memT 281 (by decide +kernel) (by decide +kernel)
theorem ml_RX10_91 : ML RX10 91 yX3_record := Or.inl (memT 282 (by decide +kernel) (by decide +kernel))
theorem ml_RX3_22 : ML RX3 22 yX3_dropOldest := Or.inl (memT 286 (by decide +kernel) (by decide +kernel))
theorem ml_RX3_25 : ML RX3 25 yX9_copyFrom := Or.inl (memT 290 (by decide +kernel) (by decide +kernel))
theorem ml_RX9_30 : ML RX9 30 yX7_copyFrom := Or.inl (memT 294 (by decide +kernel) (by decide +kernel))
theorem ml_RX7_33 : ML RX7 33 yX7_empty := Or.inl (memT 298 (by decide +kernel) (by decide +kernel))
theorem ml_RX7_25 : ML RX7 25 yX7_at := Or.inl (memT 302 (by decide +kernel) (by decide +kernel))
theorem ml_RX7_36 : ML RX7 36 yX7_add := Or.inl (memT 306 (by decide +kernel) (by decide +kernel))
theorem ml_RX10_95 : ML RX10 95 yX7_add := Or.inl (memT 310 (by decide +kernel) (by decide +kernel))
theorem ml_RL_18 : ML RL 18 yX10_cut := Or.inl (memT 311 (by decide +kernel) (by decide +kernel))
theorem kc_RX10_98 : Cond.constant RX10 98 (-1000002) ∈ WS := memT 315 (by decide +kernel) (by decide +kernel)
theorem ml_RX10_99 : ML RX10 99 yX7_remove := Or.inl (memT 316 (by decide +kernel) (by decide +kernel))
theorem ml_RX7_29 : ML RX7 29 yX7_put := Or.inl (memT 320 (by decide +kernel) (by decide +kernel))
theorem ml_RL_23 : ML RL 23 yX10_change := Or.inl (memT 324 (by decide +kernel) (by decide +kernel))
theorem ml_RX10_103 : ML RX10 103 yX7_at := Or.inl (memT 328 (by decide +kernel) (by decide +kernel))
theorem ml_RX10_107 : ML RX10 107 yX7_put := Or.inl (memT 329 (by decide +kernel) (by decide +kernel))
theorem ml_RL_27 : ML RL 27 yX10_exchange := Or.inl (memT 330 (by decide +kernel) (by decide +kernel))
theorem ml_RX10_110 : ML RX10 110 yX9_swapRows := Or.inl (memT 334 (by decide +kernel) (by decide +kernel))
theorem ml_RL_32 : ML RL 32 yX10_set := Or.inl (memT 338 (by decide +kernel) (by decide +kernel))
theorem ml_RL_36 : ML RL 36 yX10_letterAt := Or.inl (memT 346 (by decide +kernel) (by decide +kernel))
theorem ml_RX10_126 : ML RX10 126 yX10_orNotFound := Or.inl (memT 350 (by decide +kernel) (by decide +kernel))
theorem kc_RX10_142 : Cond.constant RX10 142 (-1000004) ∈ WS := memT 353 (by decide +kernel) (by decide +kernel)
theorem ml_RL_40 : ML RL 40 yX10_same := Or.inl (memT 354 (by decide +kernel) (by decide +kernel))
theorem ml_RX10_132 : ML RX10 132 yX9_alikeFrom := Or.inl (memT 358 (by decide +kernel) (by decide +kernel))
theorem ml_RX9_38 : ML RX9 38 yX9_isAlike := Or.inl (memT 362 (by decide +kernel) (by decide +kernel))
theorem ml_RX9_34 : ML RX9 34 yX7_at := Or.inl (memT 366 (by decide +kernel) (by decide +kernel))
theorem ml_RL_44 : ML RL 44 yX10_reach := Or.inl (memT 367 (by decide +kernel) (by decide +kernel))
theorem ml_RX10_136 : ML RX10 136 yX5_find := Or.inl (memT 371 (by decide +kernel) (by decide +kernel))
theorem ml_RX5_33 : ML RX5 33 yX5_beginOf := Or.inl (memT 375 (by decide +kernel) (by decide +kernel))
theorem ml_RX5_44 : ML RX5 44 yX5_at := Or.inl (memT 379 (by decide +kernel) (by decide +kernel))
theorem ml_RX5_47 : ML RX5 47 yX5_placeOf := Or.inl (memT 383 (by decide +kernel) (by decide +kernel))
theorem ml_RX5_50 : Cond.methodLink RX5 50 ⟨"java/lang/Math", "max", "(II)I"⟩ ∈ WS := memT 386 (by decide +kernel) (by decide +kernel)
theorem ml_RX5_37 : ML RX5 37 yX9_alikeFrom := Or.inl (memT 387 (by decide +kernel) (by decide +kernel))
theorem ml_RX5_40 : ML RX5 40 yX5_put := Or.inl (memT 388 (by decide +kernel) (by decide +kernel))
theorem ml_RX10_143 : ML RX10 143 yX5_at := Or.inl (memT 392 (by decide +kernel) (by decide +kernel))
theorem ml_RL_48 : ML RL 48 yX10_distance := Or.inl (memT 393 (by decide +kernel) (by decide +kernel))
theorem ml_RX10_145 : ML RX10 145 yX10_isAboveLimit := Or.inl (memT 397 (by decide +kernel) (by decide +kernel))
theorem ml_RL_52 : ML RL 52 yX10_stepOf := Or.inl (memT 401 (by decide +kernel) (by decide +kernel))
theorem ml_RX10_149 : ML RX10 149 yX10_findScript := Or.inl (memT 405 (by decide +kernel) (by decide +kernel))
theorem ml_RX10_246 : ML RX10 246 yX8_rebuild := Or.inl (memT 409 (by decide +kernel) (by decide +kernel))
theorem ml_RX8_45 : ML RX8 45 yX8_put := Or.inl (memT 413 (by decide +kernel) (by decide +kernel))
theorem ml_RX8_49 : ML RX8 49 yX5_beginOf := Or.inl (memT 417 (by decide +kernel) (by decide +kernel))
theorem ml_RX8_53 : ML RX8 53 yX7_at := Or.inl (memT 418 (by decide +kernel) (by decide +kernel))
theorem ml_RX8_57 : ML RX8 57 yX5_isPutIn := Or.inl (memT 419 (by decide +kernel) (by decide +kernel))
theorem ml_RX10_153 : ML RX10 153 yX8_kindAt := Or.inl (memT 423 (by decide +kernel) (by decide +kernel))
theorem ml_RX10_156 : ML RX10 156 yX8_letterOf := Or.inl (memT 427 (by decide +kernel) (by decide +kernel))
theorem ml_RX10_159 : ML RX10 159 yX8_firstDoneAt := Or.inl (memT 431 (by decide +kernel) (by decide +kernel))
theorem ml_RX10_162 : ML RX10 162 yX8_secondDoneAt := Or.inl (memT 435 (by decide +kernel) (by decide +kernel))
theorem ml_RL_56 : ML RL 56 yX10_textAt := Or.inl (memT 439 (by decide +kernel) (by decide +kernel))
theorem ml_RX10_165 : ML RX10 165 yX8_writeTo := Or.inl (memT 443 (by decide +kernel) (by decide +kernel))
theorem ml_RX8_67 : ML RX8 67 yX7_empty := Or.inl (memT 447 (by decide +kernel) (by decide +kernel))
theorem ml_RX8_61 : ML RX8 61 yX8_kindAt := Or.inl (memT 448 (by decide +kernel) (by decide +kernel))
theorem ml_RX8_70 : ML RX8 70 yX8_writePart := Or.inl (memT 449 (by decide +kernel) (by decide +kernel))
theorem ml_RX8_74 : ML RX8 74 yX7_add := Or.inl (memT 453 (by decide +kernel) (by decide +kernel))
theorem ml_RX8_64 : ML RX8 64 yX8_letterOf := Or.inl (memT 454 (by decide +kernel) (by decide +kernel))
theorem ml_RX8_78 : ML RX8 78 yX8_writeNumber := Or.inl (memT 455 (by decide +kernel) (by decide +kernel))
theorem ml_RL_61 : ML RL 61 yX10_scripts := Or.inl (memT 458 (by decide +kernel) (by decide +kernel))
theorem ml_RX10_169 : ML RX10 169 yX1_countWays := Or.inl (memT 462 (by decide +kernel) (by decide +kernel))
theorem ml_RX1_24 : ML RX1 24 yX1_fillBeginnings := Or.inl (memT 466 (by decide +kernel) (by decide +kernel))
theorem ml_RX1_71 : ML RX1 71 yX9_isAlike := Or.inl (memT 470 (by decide +kernel) (by decide +kernel))
theorem ml_RX1_51 : ML RX1 51 yX2_at := Or.inl (memT 471 (by decide +kernel) (by decide +kernel))
theorem ml_RX2_15 : ML RX2 15 yX2_isInside := Or.inl (memT 475 (by decide +kernel) (by decide +kernel))
theorem ml_RX2_19 : ML RX2 19 yX10_isIn := Or.inr ⟨"DiagonalTexts", memN 478 (by decide +kernel) (by decide +kernel)⟩
theorem ml_RX1_75 : Cond.methodLink RX1 75 ⟨"java/lang/Math", "max", "(JJ)J"⟩ ∈ WS := memT 479 (by decide +kernel) (by decide +kernel)
theorem ml_RX1_47 : ML RX1 47 yX2_put := Or.inl (memT 482 (by decide +kernel) (by decide +kernel))
theorem ml_RX1_43 : ML RX1 43 yX1_waysTo := Or.inl (memT 486 (by decide +kernel) (by decide +kernel))
theorem ml_RL_66 : ML RL 66 yX10_hunkOf := Or.inl (memT 490 (by decide +kernel) (by decide +kernel))
theorem ml_RX10_173 : ML RX10 173 yX4_find := Or.inl (memT 494 (by decide +kernel) (by decide +kernel))
theorem ml_RX4_30 : ML RX4 30 yX8_isEdit := Or.inl (memT 498 (by decide +kernel) (by decide +kernel))
theorem ml_RX4_34 : Cond.methodLink RX4 34 ⟨"java/lang/Math", "max", "(II)I"⟩ ∈ WS := memT 502 (by decide +kernel) (by decide +kernel)
theorem ml_RX4_40 : ML RX4 40 yX4_open := Or.inl (memT 503 (by decide +kernel) (by decide +kernel))
theorem ml_RX4_44 : Cond.methodLink RX4 44 ⟨"java/lang/Math", "min", "(II)I"⟩ ∈ WS := memT 507 (by decide +kernel) (by decide +kernel)
theorem ml_RX4_47 : ML RX4 47 yX4_growTo := Or.inl (memT 510 (by decide +kernel) (by decide +kernel))
theorem ml_RX10_179 : ML RX10 179 yX4_beginOf := Or.inl (memT 514 (by decide +kernel) (by decide +kernel))
theorem ml_RX10_182 : ML RX10 182 yX4_endOf := Or.inl (memT 518 (by decide +kernel) (by decide +kernel))
theorem ml_RX10_185 : ML RX10 185 yX4_editsOf := Or.inl (memT 522 (by decide +kernel) (by decide +kernel))
theorem ml_RL_70 : ML RL 70 yX10_movedOf := Or.inl (memT 526 (by decide +kernel) (by decide +kernel))
theorem ml_RX10_188 : ML RX10 188 yX0_find := Or.inl (memT 530 (by decide +kernel) (by decide +kernel))
theorem ml_RX0_30 : ML RX0 30 yX8_isMoved := Or.inl (memT 534 (by decide +kernel) (by decide +kernel))
theorem ml_RX0_34 : ML RX0 34 yX0_sizeFrom := Or.inl (memT 538 (by decide +kernel) (by decide +kernel))
theorem ml_RX0_38 : ML RX0 38 yX0_addIfLong := Or.inl (memT 541 (by decide +kernel) (by decide +kernel))
theorem ml_RX10_189 : ML RX10 189 yX0_inOrder := Or.inl (memT 545 (by decide +kernel) (by decide +kernel))
theorem ml_RX0_42 : ML RX0 42 yX0_sizeOf := Or.inl (memT 549 (by decide +kernel) (by decide +kernel))
theorem ml_RX10_192 : ML RX10 192 yX0_sizeOf := Or.inl (memT 553 (by decide +kernel) (by decide +kernel))
theorem ml_RX10_195 : ML RX10 195 yX0_outOf := Or.inl (memT 554 (by decide +kernel) (by decide +kernel))
theorem ml_RX10_198 : ML RX10 198 yX0_inOf := Or.inl (memT 558 (by decide +kernel) (by decide +kernel))
theorem ml_RL_74 : ML RL 74 yX10_bestChange := Or.inl (memT 562 (by decide +kernel) (by decide +kernel))
theorem ml_RX10_201 : ML RX10 201 yX1_findBest := Or.inl (memT 566 (by decide +kernel) (by decide +kernel))
theorem ml_RX1_55 : ML RX1 55 yX1_fillEnds := Or.inl (memT 570 (by decide +kernel) (by decide +kernel))
theorem ml_RX1_81 : ML RX1 81 yX1_commonOfEnds := Or.inl (memT 574 (by decide +kernel) (by decide +kernel))
theorem ml_RX1_67 : ML RX1 67 yX1_commonWith := Or.inl (memT 578 (by decide +kernel) (by decide +kernel))
theorem ml_RX1_84 : ML RX1 84 yX7_at := Or.inl (memT 582 (by decide +kernel) (by decide +kernel))
theorem ml_RL_78 : ML RL 78 yX10_count := Or.inl (memT 583 (by decide +kernel) (by decide +kernel))
theorem ml_RX10_213 : ML RX10 213 yX10_countOfScript := Or.inl (memT 587 (by decide +kernel) (by decide +kernel))
theorem ml_RX10_216 : ML RX10 216 yX9_longestAlike := Or.inl (memT 591 (by decide +kernel) (by decide +kernel))
theorem ml_RX9_46 : ML RX9 46 yX9_alikeFrom := Or.inl (memT 595 (by decide +kernel) (by decide +kernel))
theorem ml_RX9_50 : Cond.methodLink RX9 50 ⟨"java/lang/Math", "max", "(II)I"⟩ ∈ WS := memT 596 (by decide +kernel) (by decide +kernel)
theorem ml_RL_82 : ML RL 82 yX10_undo := Or.inl (memT 597 (by decide +kernel) (by decide +kernel))
theorem ml_RX10_221 : ML RX10 221 yX3_restoreTo := Or.inl (memT 601 (by decide +kernel) (by decide +kernel))
theorem ml_RL_86 : ML RL 86 yX10_type := Or.inl (memT 605 (by decide +kernel) (by decide +kernel))
theorem ml_RL_90 : ML RL 90 yX10_clearText := Or.inl (memT 609 (by decide +kernel) (by decide +kernel))
theorem ml_RX10_224 : ML RX10 224 yX7_empty := Or.inl (memT 613 (by decide +kernel) (by decide +kernel))
theorem ml_RL_94 : ML RL 94 yX10_fault := Or.inl (memT 614 (by decide +kernel) (by decide +kernel))
theorem ml_RX10_227 : ML RX10 227 yX6_read := Or.inl (memT 618 (by decide +kernel) (by decide +kernel))
theorem ml_RX6_20 : ML RX6 20 yX7_empty := Or.inl (memT 622 (by decide +kernel) (by decide +kernel))
theorem ml_RX6_33 : ML RX6 33 yX6_readPart := Or.inl (memT 623 (by decide +kernel) (by decide +kernel))
theorem ml_RX6_45 : ML RX6 45 yX6_breakOf := Or.inl (memT 627 (by decide +kernel) (by decide +kernel))
theorem ml_RX6_48 : ML RX6 48 yX7_at := Or.inl (memT 630 (by decide +kernel) (by decide +kernel))
theorem ml_RX6_72 : ML RX6 72 yX6_breakOfLetters := Or.inl (memT 631 (by decide +kernel) (by decide +kernel))
theorem ml_RX6_78 : ML RX6 78 yX10_isIn := Or.inr ⟨"DiagonalTexts", memN 634 (by decide +kernel) (by decide +kernel)⟩
theorem ml_RX6_75 : ML RX6 75 yX6_breakOfNumber := Or.inl (memT 635 (by decide +kernel) (by decide +kernel))
theorem ml_RX6_41 : ML RX6 41 yX6_tell := Or.inl (memT 638 (by decide +kernel) (by decide +kernel))
theorem ml_RX6_37 : ML RX6 37 yX6_endOf := Or.inl (memT 642 (by decide +kernel) (by decide +kernel))
theorem ml_RX6_52 : ML RX6 52 yX6_numberAt := Or.inl (memT 645 (by decide +kernel) (by decide +kernel))
theorem ml_RX6_55 : ML RX6 55 yX6_putIn := Or.inl (memT 648 (by decide +kernel) (by decide +kernel))
theorem ml_RX6_69 : ML RX6 69 yX7_add := Or.inl (memT 652 (by decide +kernel) (by decide +kernel))
theorem ml_RX6_59 : ML RX6 59 yX6_takeOrKeep := Or.inl (memT 653 (by decide +kernel) (by decide +kernel))
theorem ml_RL_98 : ML RL 98 yX10_apply := Or.inl (memT 657 (by decide +kernel) (by decide +kernel))
theorem ml_RX10_243 : ML RX10 243 yX7_copyFrom := Or.inl (memT 661 (by decide +kernel) (by decide +kernel))
theorem cl_RL_10 : Cond.classLink RL 10 RX11 ∈ WS := memT 662 (by decide +kernel) (by decide +kernel)
theorem in_RX11 : Cond.instantiable RX11 25 ∈ WS := memT 663 (by decide +kernel) (by decide +kernel)
theorem ml_RL_12 : ML RL 12 yX11_init := Or.inl (memT 664 (by decide +kernel) (by decide +kernel))
theorem ml_RX11_1 : Cond.methodLink RX11 1 ⟨"java/lang/Object", "<init>", "()V"⟩ ∈ WS := memT 667 (by decide +kernel) (by decide +kernel)
theorem ac_char : Cond.arrayClass .char ∈ WS := memT 744 (by decide +kernel) (by decide +kernel)
theorem ml_RL_17 : ML RL 17 yX11_append := Or.inl (memT 745 (by decide +kernel) (by decide +kernel))
theorem ml_RX11_48 : ML RX11 48 yX11_in := Or.inl (memT 749 (by decide +kernel) (by decide +kernel))
theorem kc_RX11_56 : Cond.constant RX11 56 (-1000001) ∈ WS := memT 752 (by decide +kernel) (by decide +kernel)
theorem kc_RX11_61 : Cond.constant RX11 61 (-1000003) ∈ WS := memT 753 (by decide +kernel) (by decide +kernel)
theorem ml_RX11_62 : ML RX11 62 yX11_keeps := Or.inl (memT 754 (by decide +kernel) (by decide +kernel))
theorem ml_RX11_65 : ML RX11 65 yX11_acted := Or.inl (memT 758 (by decide +kernel) (by decide +kernel))
theorem ml_RL_22 : ML RL 22 yX11_cut := Or.inl (memT 762 (by decide +kernel) (by decide +kernel))
theorem kc_RX11_69 : Cond.constant RX11 69 (-1000002) ∈ WS := memT 766 (by decide +kernel) (by decide +kernel)
theorem ml_RX11_52 : ML RX11 52 yX11_letter := Or.inl (memT 767 (by decide +kernel) (by decide +kernel))
theorem ml_RL_26 : ML RL 26 yX11_change := Or.inl (memT 771 (by decide +kernel) (by decide +kernel))
theorem ml_RL_31 : ML RL 31 yX11_exchange := Or.inl (memT 775 (by decide +kernel) (by decide +kernel))
theorem ml_RL_35 : ML RL 35 yX11_set := Or.inl (memT 779 (by decide +kernel) (by decide +kernel))
theorem ml_RL_39 : ML RL 39 yX11_letterAt := Or.inl (memT 783 (by decide +kernel) (by decide +kernel))
theorem kc_RX11_70 : Cond.constant RX11 70 (-1000004) ∈ WS := memT 787 (by decide +kernel) (by decide +kernel)
theorem ml_RL_43 : ML RL 43 yX11_same := Or.inl (memT 788 (by decide +kernel) (by decide +kernel))
theorem ml_RX11_75 : ML RX11 75 yX11_alikeFrom := Or.inl (memT 792 (by decide +kernel) (by decide +kernel))
theorem ml_RX11_71 : ML RX11 71 yX11_alike := Or.inl (memT 796 (by decide +kernel) (by decide +kernel))
theorem ml_RL_47 : ML RL 47 yX11_reach := Or.inl (memT 800 (by decide +kernel) (by decide +kernel))
theorem ml_RX11_91 : ML RX11 91 yX11_finds := Or.inl (memT 804 (by decide +kernel) (by decide +kernel))
theorem ml_RX11_87 : ML RX11 87 yX11_lays := Or.inl (memT 808 (by decide +kernel) (by decide +kernel))
theorem ml_RX11_81 : ML RX11 81 yX11_putsIn := Or.inl (memT 812 (by decide +kernel) (by decide +kernel))
theorem ml_RX11_78 : ML RX11 78 yX11_reached := Or.inl (memT 816 (by decide +kernel) (by decide +kernel))
theorem ml_RL_51 : ML RL 51 yX11_distance := Or.inl (memT 820 (by decide +kernel) (by decide +kernel))
theorem ml_RL_55 : ML RL 55 yX11_stepOf := Or.inl (memT 824 (by decide +kernel) (by decide +kernel))
theorem ml_RX11_102 : ML RX11 102 yX11_traces := Or.inl (memT 828 (by decide +kernel) (by decide +kernel))
theorem ml_RX11_98 : ML RX11 98 yX11_puts := Or.inl (memT 832 (by decide +kernel) (by decide +kernel))
theorem ml_RX11_106 : ML RX11 106 yX11_kind := Or.inl (memT 836 (by decide +kernel) (by decide +kernel))
theorem ml_RL_60 : ML RL 60 yX11_textAt := Or.inl (memT 840 (by decide +kernel) (by decide +kernel))
theorem ml_RX11_119 : ML RX11 119 yX11_tells := Or.inl (memT 844 (by decide +kernel) (by decide +kernel))
theorem ml_RX11_112 : ML RX11 112 yX11_writes := Or.inl (memT 848 (by decide +kernel) (by decide +kernel))
theorem ml_RX11_116 : ML RX11 116 yX11_number := Or.inl (memT 852 (by decide +kernel) (by decide +kernel))
theorem ml_RL_65 : ML RL 65 yX11_scripts := Or.inl (memT 856 (by decide +kernel) (by decide +kernel))
theorem ml_RX11_122 : ML RX11 122 yX11_counts := Or.inl (memT 860 (by decide +kernel) (by decide +kernel))
theorem ml_RL_69 : ML RL 69 yX11_hunkOf := Or.inl (memT 864 (by decide +kernel) (by decide +kernel))
theorem ml_RX11_131 : ML RX11 131 yX11_hunkFrom := Or.inl (memT 868 (by decide +kernel) (by decide +kernel))
theorem ml_RX11_134 : ML RX11 134 yX11_without := Or.inl (memT 872 (by decide +kernel) (by decide +kernel))
theorem ml_RL_73 : ML RL 73 yX11_movedOf := Or.inl (memT 876 (by decide +kernel) (by decide +kernel))
theorem ml_RX11_149 : ML RX11 149 yX11_blocks := Or.inl (memT 880 (by decide +kernel) (by decide +kernel))
theorem ml_RX11_143 : ML RX11 143 yX11_marks := Or.inl (memT 884 (by decide +kernel) (by decide +kernel))
theorem ml_RX11_146 : ML RX11 146 yX11_block := Or.inl (memT 888 (by decide +kernel) (by decide +kernel))
theorem ml_RX11_137 : ML RX11 137 yX11_moves := Or.inl (memT 892 (by decide +kernel) (by decide +kernel))
theorem ml_RX11_140 : ML RX11 140 yX11_goesOn := Or.inl (memT 896 (by decide +kernel) (by decide +kernel))
theorem ml_RL_77 : ML RL 77 yX11_bestChange := Or.inl (memT 900 (by decide +kernel) (by decide +kernel))
theorem ml_RL_81 : ML RL 81 yX11_count := Or.inl (memT 904 (by decide +kernel) (by decide +kernel))
theorem ml_RX11_152 : ML RX11 152 yX11_hunks := Or.inl (memT 908 (by decide +kernel) (by decide +kernel))
theorem ml_RX11_155 : ML RX11 155 yX11_longest := Or.inl (memT 912 (by decide +kernel) (by decide +kernel))
theorem ml_RL_85 : ML RL 85 yX11_undo := Or.inl (memT 916 (by decide +kernel) (by decide +kernel))
theorem ml_RL_89 : ML RL 89 yX11_type := Or.inl (memT 920 (by decide +kernel) (by decide +kernel))
theorem ml_RL_93 : ML RL 93 yX11_clearText := Or.inl (memT 924 (by decide +kernel) (by decide +kernel))
theorem ml_RL_97 : ML RL 97 yX11_fault := Or.inl (memT 928 (by decide +kernel) (by decide +kernel))
theorem ml_RX11_190 : ML RX11 190 yX11_faulty := Or.inl (memT 932 (by decide +kernel) (by decide +kernel))
theorem ml_RX11_184 : ML RX11 184 yX11_doesNext := Or.inl (memT 936 (by decide +kernel) (by decide +kernel))
theorem ml_RX11_166 : ML RX11 166 yX11_sign := Or.inl (memT 940 (by decide +kernel) (by decide +kernel))
theorem ml_RX11_169 : ML RX11 169 yX11_readsLetters := Or.inl (memT 944 (by decide +kernel) (by decide +kernel))
theorem ml_RX11_172 : ML RX11 172 yX11_readsNumber := Or.inl (memT 948 (by decide +kernel) (by decide +kernel))
theorem ml_RL_101 : ML RL 101 yX11_apply := Or.inl (memT 952 (by decide +kernel) (by decide +kernel))
/-- a field's link: object's class number, slot -/
def FLk (own : String) (idx ci k : Nat) : Prop := ∃ C T N, vwCl[ci]? = some (C, T, N) ∧ k < N ∧ (T k).1 = C ∧ (∀ w ∈ u_ws C T N, w ∈ WS) ∧ (Cond.fieldLink own idx C (T k).2.1 (T k).2.2.1 ∈ WS ∨ ∃ host, Cond.fieldLinkNest own idx C (T k).2.1 (T k).2.2.1 host ∈ NW)
theorem fl_RX7_15 : FLk RX7 15 7 0 := ⟨RX7, TX7, 2, rfl, by decide, rfl, uX7, Or.inl (memT 37 (by decide +kernel) (by decide +kernel))⟩
theorem fl_RX5_21 : FLk RX5 21 7 1 := ⟨RX7, TX7, 2, rfl, by decide, rfl, uX7, Or.inr ⟨"DiagonalTexts", memN 38 (by decide +kernel) (by decide +kernel)⟩⟩
theorem fl_RX8_30 : FLk RX8 30 7 1 := ⟨RX7, TX7, 2, rfl, by decide, rfl, uX7, Or.inr ⟨"DiagonalTexts", memN 39 (by decide +kernel) (by decide +kernel)⟩⟩
theorem fl_RX7_21 : FLk RX7 21 7 1 := ⟨RX7, TX7, 2, rfl, by decide, rfl, uX7, Or.inl (memT 40 (by decide +kernel) (by decide +kernel))⟩
theorem fl_RX1_34 : FLk RX1 34 7 1 := ⟨RX7, TX7, 2, rfl, by decide, rfl, uX7, Or.inr ⟨"DiagonalTexts", memN 41 (by decide +kernel) (by decide +kernel)⟩⟩
theorem fl_RX6_30 : FLk RX6 30 7 1 := ⟨RX7, TX7, 2, rfl, by decide, rfl, uX7, Or.inr ⟨"DiagonalTexts", memN 42 (by decide +kernel) (by decide +kernel)⟩⟩
theorem fl_RX10_86 : FLk RX10 86 7 1 := ⟨RX7, TX7, 2, rfl, by decide, rfl, uX7, Or.inr ⟨"DiagonalTexts", memN 43 (by decide +kernel) (by decide +kernel)⟩⟩
theorem fl_RX9_42 : FLk RX9 42 7 1 := ⟨RX7, TX7, 2, rfl, by decide, rfl, uX7, Or.inr ⟨"DiagonalTexts", memN 44 (by decide +kernel) (by decide +kernel)⟩⟩
theorem sl_RX9_27 : Cond.fieldLinkNest RX9 27 "DiagonalTexts" "FIRST_VALUES" "[I" "DiagonalTexts" ∈ NW := memN 51 (by decide +kernel) (by decide +kernel)
theorem fl_RX9_14 : FLk RX9 14 9 0 := ⟨RX9, TX9, 3, rfl, by decide, rfl, uX9, Or.inl (memT 53 (by decide +kernel) (by decide +kernel))⟩
theorem fl_RX5_15 : FLk RX5 15 9 0 := ⟨RX9, TX9, 3, rfl, by decide, rfl, uX9, Or.inr ⟨"DiagonalTexts", memN 54 (by decide +kernel) (by decide +kernel)⟩⟩
theorem fl_RX8_24 : FLk RX8 24 9 0 := ⟨RX9, TX9, 3, rfl, by decide, rfl, uX9, Or.inr ⟨"DiagonalTexts", memN 55 (by decide +kernel) (by decide +kernel)⟩⟩
theorem fl_RX1_28 : FLk RX1 28 9 0 := ⟨RX9, TX9, 3, rfl, by decide, rfl, uX9, Or.inr ⟨"DiagonalTexts", memN 56 (by decide +kernel) (by decide +kernel)⟩⟩
theorem fl_RX10_113 : FLk RX10 113 9 0 := ⟨RX9, TX9, 3, rfl, by decide, rfl, uX9, Or.inr ⟨"DiagonalTexts", memN 57 (by decide +kernel) (by decide +kernel)⟩⟩
theorem fl_RX9_20 : FLk RX9 20 9 1 := ⟨RX9, TX9, 3, rfl, by decide, rfl, uX9, Or.inl (memT 58 (by decide +kernel) (by decide +kernel))⟩
theorem fl_RX5_27 : FLk RX5 27 9 1 := ⟨RX9, TX9, 3, rfl, by decide, rfl, uX9, Or.inr ⟨"DiagonalTexts", memN 59 (by decide +kernel) (by decide +kernel)⟩⟩
theorem fl_RX8_36 : FLk RX8 36 9 1 := ⟨RX9, TX9, 3, rfl, by decide, rfl, uX9, Or.inr ⟨"DiagonalTexts", memN 60 (by decide +kernel) (by decide +kernel)⟩⟩
theorem fl_RX1_40 : FLk RX1 40 9 1 := ⟨RX9, TX9, 3, rfl, by decide, rfl, uX9, Or.inr ⟨"DiagonalTexts", memN 61 (by decide +kernel) (by decide +kernel)⟩⟩
theorem fl_RX10_129 : FLk RX10 129 9 1 := ⟨RX9, TX9, 3, rfl, by decide, rfl, uX9, Or.inr ⟨"DiagonalTexts", memN 62 (by decide +kernel) (by decide +kernel)⟩⟩
theorem fl_RX9_23 : FLk RX9 23 9 2 := ⟨RX9, TX9, 3, rfl, by decide, rfl, uX9, Or.inl (memT 63 (by decide +kernel) (by decide +kernel))⟩
theorem fl_RX10_123 : FLk RX10 123 9 2 := ⟨RX9, TX9, 3, rfl, by decide, rfl, uX9, Or.inr ⟨"DiagonalTexts", memN 64 (by decide +kernel) (by decide +kernel)⟩⟩
theorem fl_RX3_11 : FLk RX3 11 3 0 := ⟨RX3, TX3, 2, rfl, by decide, rfl, uX3, Or.inl (memT 81 (by decide +kernel) (by decide +kernel))⟩
theorem fl_RX3_18 : FLk RX3 18 3 1 := ⟨RX3, TX3, 2, rfl, by decide, rfl, uX3, Or.inl (memT 82 (by decide +kernel) (by decide +kernel))⟩
theorem fl_RX10_220 : FLk RX10 220 3 1 := ⟨RX3, TX3, 2, rfl, by decide, rfl, uX3, Or.inr ⟨"DiagonalTexts", memN 83 (by decide +kernel) (by decide +kernel)⟩⟩
theorem fl_RX5_9 : FLk RX5 9 5 0 := ⟨RX5, TX5, 2, rfl, by decide, rfl, uX5, Or.inl (memT 97 (by decide +kernel) (by decide +kernel))⟩
theorem fl_RX8_39 : FLk RX8 39 5 1 := ⟨RX5, TX5, 2, rfl, by decide, rfl, uX5, Or.inr ⟨"DiagonalTexts", memN 98 (by decide +kernel) (by decide +kernel)⟩⟩
theorem fl_RX5_30 : FLk RX5 30 5 1 := ⟨RX5, TX5, 2, rfl, by decide, rfl, uX5, Or.inl (memT 99 (by decide +kernel) (by decide +kernel))⟩
theorem fl_RX10_139 : FLk RX10 139 5 1 := ⟨RX5, TX5, 2, rfl, by decide, rfl, uX5, Or.inr ⟨"DiagonalTexts", memN 100 (by decide +kernel) (by decide +kernel)⟩⟩
theorem fl_RX8_9 : FLk RX8 9 8 0 := ⟨RX8, TX8, 5, rfl, by decide, rfl, uX8, Or.inl (memT 112 (by decide +kernel) (by decide +kernel))⟩
theorem fl_RX8_15 : FLk RX8 15 8 1 := ⟨RX8, TX8, 5, rfl, by decide, rfl, uX8, Or.inl (memT 113 (by decide +kernel) (by decide +kernel))⟩
theorem fl_RX8_18 : FLk RX8 18 8 2 := ⟨RX8, TX8, 5, rfl, by decide, rfl, uX8, Or.inl (memT 114 (by decide +kernel) (by decide +kernel))⟩
theorem fl_RX8_21 : FLk RX8 21 8 3 := ⟨RX8, TX8, 5, rfl, by decide, rfl, uX8, Or.inl (memT 115 (by decide +kernel) (by decide +kernel))⟩
theorem fl_RX0_25 : FLk RX0 25 8 4 := ⟨RX8, TX8, 5, rfl, by decide, rfl, uX8, Or.inr ⟨"DiagonalTexts", memN 116 (by decide +kernel) (by decide +kernel)⟩⟩
theorem fl_RX4_25 : FLk RX4 25 8 4 := ⟨RX8, TX8, 5, rfl, by decide, rfl, uX8, Or.inr ⟨"DiagonalTexts", memN 117 (by decide +kernel) (by decide +kernel)⟩⟩
theorem fl_RX8_44 : FLk RX8 44 8 4 := ⟨RX8, TX8, 5, rfl, by decide, rfl, uX8, Or.inl (memT 118 (by decide +kernel) (by decide +kernel))⟩
theorem fl_RX10_152 : FLk RX10 152 8 4 := ⟨RX8, TX8, 5, rfl, by decide, rfl, uX8, Or.inr ⟨"DiagonalTexts", memN 119 (by decide +kernel) (by decide +kernel)⟩⟩
theorem fl_RX4_9 : FLk RX4 9 4 0 := ⟨RX4, TX4, 4, rfl, by decide, rfl, uX4, Or.inl (memT 137 (by decide +kernel) (by decide +kernel))⟩
theorem fl_RX4_15 : FLk RX4 15 4 1 := ⟨RX4, TX4, 4, rfl, by decide, rfl, uX4, Or.inl (memT 138 (by decide +kernel) (by decide +kernel))⟩
theorem fl_RX4_18 : FLk RX4 18 4 2 := ⟨RX4, TX4, 4, rfl, by decide, rfl, uX4, Or.inl (memT 139 (by decide +kernel) (by decide +kernel))⟩
theorem fl_RX4_21 : FLk RX4 21 4 3 := ⟨RX4, TX4, 4, rfl, by decide, rfl, uX4, Or.inl (memT 140 (by decide +kernel) (by decide +kernel))⟩
theorem fl_RX10_176 : FLk RX10 176 4 3 := ⟨RX4, TX4, 4, rfl, by decide, rfl, uX4, Or.inr ⟨"DiagonalTexts", memN 141 (by decide +kernel) (by decide +kernel)⟩⟩
theorem fl_RX0_9 : FLk RX0 9 0 0 := ⟨RX0, TX0, 4, rfl, by decide, rfl, uX0, Or.inl (memT 157 (by decide +kernel) (by decide +kernel))⟩
theorem fl_RX0_15 : FLk RX0 15 0 1 := ⟨RX0, TX0, 4, rfl, by decide, rfl, uX0, Or.inl (memT 158 (by decide +kernel) (by decide +kernel))⟩
theorem fl_RX0_18 : FLk RX0 18 0 2 := ⟨RX0, TX0, 4, rfl, by decide, rfl, uX0, Or.inl (memT 159 (by decide +kernel) (by decide +kernel))⟩
theorem fl_RX0_21 : FLk RX0 21 0 3 := ⟨RX0, TX0, 4, rfl, by decide, rfl, uX0, Or.inl (memT 160 (by decide +kernel) (by decide +kernel))⟩
theorem fl_RX10_250 : FLk RX10 250 0 3 := ⟨RX0, TX0, 4, rfl, by decide, rfl, uX0, Or.inr ⟨"DiagonalTexts", memN 161 (by decide +kernel) (by decide +kernel)⟩⟩
theorem fl_RX2_9 : FLk RX2 9 2 0 := ⟨RX2, TX2, 1, rfl, by decide, rfl, uX2, Or.inl (memT 183 (by decide +kernel) (by decide +kernel))⟩
theorem fl_RX1_12 : FLk RX1 12 1 0 := ⟨RX1, TX1, 6, rfl, by decide, rfl, uX1, Or.inl (memT 188 (by decide +kernel) (by decide +kernel))⟩
theorem fl_RX1_18 : FLk RX1 18 1 1 := ⟨RX1, TX1, 6, rfl, by decide, rfl, uX1, Or.inl (memT 189 (by decide +kernel) (by decide +kernel))⟩
theorem fl_RX1_21 : FLk RX1 21 1 2 := ⟨RX1, TX1, 6, rfl, by decide, rfl, uX1, Or.inl (memT 190 (by decide +kernel) (by decide +kernel))⟩
theorem fl_RX1_61 : FLk RX1 61 1 3 := ⟨RX1, TX1, 6, rfl, by decide, rfl, uX1, Or.inl (memT 191 (by decide +kernel) (by decide +kernel))⟩
theorem fl_RX10_204 : FLk RX10 204 1 3 := ⟨RX1, TX1, 6, rfl, by decide, rfl, uX1, Or.inr ⟨"DiagonalTexts", memN 192 (by decide +kernel) (by decide +kernel)⟩⟩
theorem fl_RX1_64 : FLk RX1 64 1 4 := ⟨RX1, TX1, 6, rfl, by decide, rfl, uX1, Or.inl (memT 193 (by decide +kernel) (by decide +kernel))⟩
theorem fl_RX10_207 : FLk RX10 207 1 4 := ⟨RX1, TX1, 6, rfl, by decide, rfl, uX1, Or.inr ⟨"DiagonalTexts", memN 194 (by decide +kernel) (by decide +kernel)⟩⟩
theorem fl_RX1_58 : FLk RX1 58 1 5 := ⟨RX1, TX1, 6, rfl, by decide, rfl, uX1, Or.inl (memT 195 (by decide +kernel) (by decide +kernel))⟩
theorem fl_RX10_210 : FLk RX10 210 1 5 := ⟨RX1, TX1, 6, rfl, by decide, rfl, uX1, Or.inr ⟨"DiagonalTexts", memN 196 (by decide +kernel) (by decide +kernel)⟩⟩
theorem fl_RX6_14 : FLk RX6 14 6 0 := ⟨RX6, TX6, 5, rfl, by decide, rfl, uX6, Or.inl (memT 218 (by decide +kernel) (by decide +kernel))⟩
theorem fl_RX10_240 : FLk RX10 240 6 0 := ⟨RX6, TX6, 5, rfl, by decide, rfl, uX6, Or.inr ⟨"DiagonalTexts", memN 219 (by decide +kernel) (by decide +kernel)⟩⟩
theorem fl_RX6_23 : FLk RX6 23 6 1 := ⟨RX6, TX6, 5, rfl, by decide, rfl, uX6, Or.inl (memT 220 (by decide +kernel) (by decide +kernel))⟩
theorem fl_RX6_63 : FLk RX6 63 6 2 := ⟨RX6, TX6, 5, rfl, by decide, rfl, uX6, Or.inl (memT 221 (by decide +kernel) (by decide +kernel))⟩
theorem fl_RX10_234 : FLk RX10 234 6 2 := ⟨RX6, TX6, 5, rfl, by decide, rfl, uX6, Or.inr ⟨"DiagonalTexts", memN 222 (by decide +kernel) (by decide +kernel)⟩⟩
theorem fl_RX6_27 : FLk RX6 27 6 3 := ⟨RX6, TX6, 5, rfl, by decide, rfl, uX6, Or.inl (memT 223 (by decide +kernel) (by decide +kernel))⟩
theorem fl_RX10_231 : FLk RX10 231 6 3 := ⟨RX6, TX6, 5, rfl, by decide, rfl, uX6, Or.inr ⟨"DiagonalTexts", memN 224 (by decide +kernel) (by decide +kernel)⟩⟩
theorem fl_RX6_66 : FLk RX6 66 6 4 := ⟨RX6, TX6, 5, rfl, by decide, rfl, uX6, Or.inl (memT 225 (by decide +kernel) (by decide +kernel))⟩
theorem fl_RX10_237 : FLk RX10 237 6 4 := ⟨RX6, TX6, 5, rfl, by decide, rfl, uX6, Or.inr ⟨"DiagonalTexts", memN 226 (by decide +kernel) (by decide +kernel)⟩⟩
theorem fl_RX10_12 : FLk RX10 12 10 0 := ⟨RX10, TX10, 10, rfl, by decide, rfl, uX10, Or.inl (memT 238 (by decide +kernel) (by decide +kernel))⟩
theorem fl_RX10_19 : FLk RX10 19 10 1 := ⟨RX10, TX10, 10, rfl, by decide, rfl, uX10, Or.inl (memT 239 (by decide +kernel) (by decide +kernel))⟩
theorem fl_RX10_28 : FLk RX10 28 10 2 := ⟨RX10, TX10, 10, rfl, by decide, rfl, uX10, Or.inl (memT 240 (by decide +kernel) (by decide +kernel))⟩
theorem fl_RX10_35 : FLk RX10 35 10 3 := ⟨RX10, TX10, 10, rfl, by decide, rfl, uX10, Or.inl (memT 241 (by decide +kernel) (by decide +kernel))⟩
theorem fl_RX10_42 : FLk RX10 42 10 4 := ⟨RX10, TX10, 10, rfl, by decide, rfl, uX10, Or.inl (memT 242 (by decide +kernel) (by decide +kernel))⟩
theorem fl_RX10_46 : FLk RX10 46 10 5 := ⟨RX10, TX10, 10, rfl, by decide, rfl, uX10, Or.inl (memT 243 (by decide +kernel) (by decide +kernel))⟩
theorem fl_RX10_52 : FLk RX10 52 10 6 := ⟨RX10, TX10, 10, rfl, by decide, rfl, uX10, Or.inl (memT 244 (by decide +kernel) (by decide +kernel))⟩
theorem fl_RX10_59 : FLk RX10 59 10 7 := ⟨RX10, TX10, 10, rfl, by decide, rfl, uX10, Or.inl (memT 245 (by decide +kernel) (by decide +kernel))⟩
theorem fl_RX10_66 : FLk RX10 66 10 8 := ⟨RX10, TX10, 10, rfl, by decide, rfl, uX10, Or.inl (memT 246 (by decide +kernel) (by decide +kernel))⟩
theorem fl_RX10_73 : FLk RX10 73 10 9 := ⟨RX10, TX10, 10, rfl, by decide, rfl, uX10, Or.inl (memT 247 (by decide +kernel) (by decide +kernel))⟩
theorem sl_RX10_116 : Cond.fieldLink RX10 116 "DiagonalTexts" "LEAST_VALUES" "[I" ∈ WS := memT 342 (by decide +kernel) (by decide +kernel)
theorem sl_RX10_120 : Cond.fieldLink RX10 120 "DiagonalTexts" "MOST_VALUES" "[I" ∈ WS := memT 344 (by decide +kernel) (by decide +kernel)
theorem fl_RX11_7 : FLk RX11 7 11 0 := ⟨RX11, TX11, 25, rfl, by decide, rfl, uX11, Or.inl (memT 668 (by decide +kernel) (by decide +kernel))⟩
theorem fl_RX11_13 : FLk RX11 13 11 1 := ⟨RX11, TX11, 25, rfl, by decide, rfl, uX11, Or.inl (memT 669 (by decide +kernel) (by decide +kernel))⟩
theorem fl_RX11_16 : FLk RX11 16 11 2 := ⟨RX11, TX11, 25, rfl, by decide, rfl, uX11, Or.inl (memT 670 (by decide +kernel) (by decide +kernel))⟩
theorem fl_RX11_57 : FLk RX11 57 11 3 := ⟨RX11, TX11, 25, rfl, by decide, rfl, uX11, Or.inl (memT 671 (by decide +kernel) (by decide +kernel))⟩
theorem fl_RX11_19 : FLk RX11 19 11 4 := ⟨RX11, TX11, 25, rfl, by decide, rfl, uX11, Or.inl (memT 672 (by decide +kernel) (by decide +kernel))⟩
theorem fl_RX11_158 : FLk RX11 158 11 5 := ⟨RX11, TX11, 25, rfl, by decide, rfl, uX11, Or.inl (memT 673 (by decide +kernel) (by decide +kernel))⟩
theorem fl_RX11_161 : FLk RX11 161 11 6 := ⟨RX11, TX11, 25, rfl, by decide, rfl, uX11, Or.inl (memT 674 (by decide +kernel) (by decide +kernel))⟩
theorem fl_RX11_187 : FLk RX11 187 11 7 := ⟨RX11, TX11, 25, rfl, by decide, rfl, uX11, Or.inl (memT 675 (by decide +kernel) (by decide +kernel))⟩
theorem fl_RX11_175 : FLk RX11 175 11 8 := ⟨RX11, TX11, 25, rfl, by decide, rfl, uX11, Or.inl (memT 676 (by decide +kernel) (by decide +kernel))⟩
theorem fl_RX11_164 : FLk RX11 164 11 9 := ⟨RX11, TX11, 25, rfl, by decide, rfl, uX11, Or.inl (memT 677 (by decide +kernel) (by decide +kernel))⟩
theorem fl_RX11_23 : FLk RX11 23 11 10 := ⟨RX11, TX11, 25, rfl, by decide, rfl, uX11, Or.inl (memT 678 (by decide +kernel) (by decide +kernel))⟩
theorem fl_RX11_84 : FLk RX11 84 11 11 := ⟨RX11, TX11, 25, rfl, by decide, rfl, uX11, Or.inl (memT 679 (by decide +kernel) (by decide +kernel))⟩
theorem fl_RX11_26 : FLk RX11 26 11 12 := ⟨RX11, TX11, 25, rfl, by decide, rfl, uX11, Or.inl (memT 680 (by decide +kernel) (by decide +kernel))⟩
theorem fl_RX11_95 : FLk RX11 95 11 13 := ⟨RX11, TX11, 25, rfl, by decide, rfl, uX11, Or.inl (memT 681 (by decide +kernel) (by decide +kernel))⟩
theorem fl_RX11_29 : FLk RX11 29 11 14 := ⟨RX11, TX11, 25, rfl, by decide, rfl, uX11, Or.inl (memT 682 (by decide +kernel) (by decide +kernel))⟩
theorem fl_RX11_32 : FLk RX11 32 11 15 := ⟨RX11, TX11, 25, rfl, by decide, rfl, uX11, Or.inl (memT 683 (by decide +kernel) (by decide +kernel))⟩
theorem fl_RX11_36 : FLk RX11 36 11 16 := ⟨RX11, TX11, 25, rfl, by decide, rfl, uX11, Or.inl (memT 684 (by decide +kernel) (by decide +kernel))⟩
theorem fl_RX11_109 : FLk RX11 109 11 17 := ⟨RX11, TX11, 25, rfl, by decide, rfl, uX11, Or.inl (memT 685 (by decide +kernel) (by decide +kernel))⟩
theorem fl_RX11_39 : FLk RX11 39 11 18 := ⟨RX11, TX11, 25, rfl, by decide, rfl, uX11, Or.inl (memT 686 (by decide +kernel) (by decide +kernel))⟩
theorem fl_RX11_42 : FLk RX11 42 11 19 := ⟨RX11, TX11, 25, rfl, by decide, rfl, uX11, Or.inl (memT 687 (by decide +kernel) (by decide +kernel))⟩
theorem fl_RX11_125 : FLk RX11 125 11 20 := ⟨RX11, TX11, 25, rfl, by decide, rfl, uX11, Or.inl (memT 688 (by decide +kernel) (by decide +kernel))⟩
theorem fl_RX11_128 : FLk RX11 128 11 21 := ⟨RX11, TX11, 25, rfl, by decide, rfl, uX11, Or.inl (memT 689 (by decide +kernel) (by decide +kernel))⟩
theorem fl_RX11_45 : FLk RX11 45 11 22 := ⟨RX11, TX11, 25, rfl, by decide, rfl, uX11, Or.inl (memT 690 (by decide +kernel) (by decide +kernel))⟩
theorem fl_RX11_181 : FLk RX11 181 11 23 := ⟨RX11, TX11, 25, rfl, by decide, rfl, uX11, Or.inl (memT 691 (by decide +kernel) (by decide +kernel))⟩
theorem fl_RX11_178 : FLk RX11 178 11 24 := ⟨RX11, TX11, 25, rfl, by decide, rfl, uX11, Or.inl (memT 692 (by decide +kernel) (by decide +kernel))⟩
end
section
theorem dX0_init_0 : decode cX0_init 0 = .ok (.aload_n 0, 1) := by decide +kernel
theorem dX0_init_1 : decode cX0_init 1 = .ok (.invokespecial 3, 3) := by decide +kernel
theorem dX0_init_4 : decode cX0_init 4 = .ok (.aload_n 0, 1) := by decide +kernel
theorem dX0_init_5 : decode cX0_init 5 = .ok (.sipush 784, 3) := by decide +kernel
theorem dX0_init_8 : decode cX0_init 8 = .ok (.newarray .int, 2) := by decide +kernel
theorem dX0_init_10 : decode cX0_init 10 = .ok (.putfield 9, 3) := by decide +kernel
theorem dX0_init_13 : decode cX0_init 13 = .ok (.aload_n 0, 1) := by decide +kernel
theorem dX0_init_14 : decode cX0_init 14 = .ok (.sipush 784, 3) := by decide +kernel
theorem dX0_init_17 : decode cX0_init 17 = .ok (.newarray .int, 2) := by decide +kernel
theorem dX0_init_19 : decode cX0_init 19 = .ok (.putfield 15, 3) := by decide +kernel
theorem dX0_init_22 : decode cX0_init 22 = .ok (.aload_n 0, 1) := by decide +kernel
theorem dX0_init_23 : decode cX0_init 23 = .ok (.sipush 784, 3) := by decide +kernel
theorem dX0_init_26 : decode cX0_init 26 = .ok (.newarray .int, 2) := by decide +kernel
theorem dX0_init_28 : decode cX0_init 28 = .ok (.putfield 18, 3) := by decide +kernel
theorem dX0_init_31 : decode cX0_init 31 = .ok (.return_, 1) := by decide +kernel
theorem dX0_find_0 : decode cX0_find 0 = .ok (.aload_n 0, 1) := by decide +kernel
theorem dX0_find_1 : decode cX0_find 1 = .ok (.iconst 0, 1) := by decide +kernel
theorem dX0_find_2 : decode cX0_find 2 = .ok (.putfield 21, 3) := by decide +kernel
theorem dX0_find_5 : decode cX0_find 5 = .ok (.iconst 0, 1) := by decide +kernel
theorem dX0_find_6 : decode cX0_find 6 = .ok (.istore_n 3, 1) := by decide +kernel
theorem dX0_find_7 : decode cX0_find 7 = .ok (.iload_n 3, 1) := by decide +kernel
theorem dX0_find_8 : decode cX0_find 8 = .ok (.aload_n 1, 1) := by decide +kernel
theorem dX0_find_9 : decode cX0_find 9 = .ok (.getfield 25, 3) := by decide +kernel
theorem dX0_find_12 : decode cX0_find 12 = .ok (.if_icmp .ge 66, 3) := by decide +kernel
theorem dX0_find_15 : decode cX0_find 15 = .ok (.iconst 0, 1) := by decide +kernel
theorem dX0_find_16 : decode cX0_find 16 = .ok (.istore 4, 2) := by decide +kernel
theorem dX0_find_18 : decode cX0_find 18 = .ok (.iload 4, 2) := by decide +kernel
theorem dX0_find_20 : decode cX0_find 20 = .ok (.aload_n 1, 1) := by decide +kernel
theorem dX0_find_21 : decode cX0_find 21 = .ok (.getfield 25, 3) := by decide +kernel
theorem dX0_find_24 : decode cX0_find 24 = .ok (.if_icmp .ge 48, 3) := by decide +kernel
theorem dX0_find_27 : decode cX0_find 27 = .ok (.aload_n 1, 1) := by decide +kernel
theorem dX0_find_28 : decode cX0_find 28 = .ok (.iload_n 3, 1) := by decide +kernel
theorem dX0_find_29 : decode cX0_find 29 = .ok (.iload 4, 2) := by decide +kernel
theorem dX0_find_31 : decode cX0_find 31 = .ok (.invokevirtual 30, 3) := by decide +kernel
theorem dX0_find_34 : decode cX0_find 34 = .ok (.ifCond .eq 32, 3) := by decide +kernel
theorem dX0_find_37 : decode cX0_find 37 = .ok (.aload_n 1, 1) := by decide +kernel
theorem dX0_find_38 : decode cX0_find 38 = .ok (.iload_n 3, 1) := by decide +kernel
theorem dX0_find_39 : decode cX0_find 39 = .ok (.iconst 1, 1) := by decide +kernel
theorem dX0_find_40 : decode cX0_find 40 = .ok (.isub, 1) := by decide +kernel
theorem dX0_find_41 : decode cX0_find 41 = .ok (.iload 4, 2) := by decide +kernel
theorem dX0_find_43 : decode cX0_find 43 = .ok (.iconst 1, 1) := by decide +kernel
theorem dX0_find_44 : decode cX0_find 44 = .ok (.isub, 1) := by decide +kernel
theorem dX0_find_45 : decode cX0_find 45 = .ok (.invokevirtual 30, 3) := by decide +kernel
theorem dX0_find_48 : decode cX0_find 48 = .ok (.ifCond .ne 18, 3) := by decide +kernel
theorem dX0_find_51 : decode cX0_find 51 = .ok (.aload_n 0, 1) := by decide +kernel
theorem dX0_find_52 : decode cX0_find 52 = .ok (.aload_n 1, 1) := by decide +kernel
theorem dX0_find_53 : decode cX0_find 53 = .ok (.iload_n 3, 1) := by decide +kernel
theorem dX0_find_54 : decode cX0_find 54 = .ok (.iload 4, 2) := by decide +kernel
theorem dX0_find_56 : decode cX0_find 56 = .ok (.invokestatic 34, 3) := by decide +kernel
theorem dX0_find_59 : decode cX0_find 59 = .ok (.iload_n 3, 1) := by decide +kernel
theorem dX0_find_60 : decode cX0_find 60 = .ok (.iload 4, 2) := by decide +kernel
theorem dX0_find_62 : decode cX0_find 62 = .ok (.iload_n 2, 1) := by decide +kernel
theorem dX0_find_63 : decode cX0_find 63 = .ok (.invokevirtual 38, 3) := by decide +kernel
theorem dX0_find_66 : decode cX0_find 66 = .ok (.iinc 4 1, 3) := by decide +kernel
theorem dX0_find_69 : decode cX0_find 69 = .ok (.goto (-51), 3) := by decide +kernel
theorem dX0_find_72 : decode cX0_find 72 = .ok (.iinc 3 1, 3) := by decide +kernel
theorem dX0_find_75 : decode cX0_find 75 = .ok (.goto (-68), 3) := by decide +kernel
theorem dX0_find_78 : decode cX0_find 78 = .ok (.return_, 1) := by decide +kernel
theorem dX0_inOrder_0 : decode cX0_inOrder 0 = .ok (.iload_n 1, 1) := by decide +kernel
theorem dX0_inOrder_1 : decode cX0_inOrder 1 = .ok (.istore_n 2, 1) := by decide +kernel
theorem dX0_inOrder_2 : decode cX0_inOrder 2 = .ok (.bipush 28, 2) := by decide +kernel
theorem dX0_inOrder_4 : decode cX0_inOrder 4 = .ok (.istore_n 3, 1) := by decide +kernel
theorem dX0_inOrder_5 : decode cX0_inOrder 5 = .ok (.iload_n 3, 1) := by decide +kernel
theorem dX0_inOrder_6 : decode cX0_inOrder 6 = .ok (.ifCond .le 47, 3) := by decide +kernel
theorem dX0_inOrder_9 : decode cX0_inOrder 9 = .ok (.iconst 0, 1) := by decide +kernel
theorem dX0_inOrder_10 : decode cX0_inOrder 10 = .ok (.istore 4, 2) := by decide +kernel
theorem dX0_inOrder_12 : decode cX0_inOrder 12 = .ok (.iload 4, 2) := by decide +kernel
theorem dX0_inOrder_14 : decode cX0_inOrder 14 = .ok (.aload_n 0, 1) := by decide +kernel
theorem dX0_inOrder_15 : decode cX0_inOrder 15 = .ok (.getfield 21, 3) := by decide +kernel
theorem dX0_inOrder_18 : decode cX0_inOrder 18 = .ok (.if_icmp .ge 29, 3) := by decide +kernel
theorem dX0_inOrder_21 : decode cX0_inOrder 21 = .ok (.aload_n 0, 1) := by decide +kernel
theorem dX0_inOrder_22 : decode cX0_inOrder 22 = .ok (.iload 4, 2) := by decide +kernel
theorem dX0_inOrder_24 : decode cX0_inOrder 24 = .ok (.invokevirtual 42, 3) := by decide +kernel
theorem dX0_inOrder_27 : decode cX0_inOrder 27 = .ok (.iload_n 3, 1) := by decide +kernel
theorem dX0_inOrder_28 : decode cX0_inOrder 28 = .ok (.if_icmp .ne 13, 3) := by decide +kernel
theorem dX0_inOrder_31 : decode cX0_inOrder 31 = .ok (.iload_n 2, 1) := by decide +kernel
theorem dX0_inOrder_32 : decode cX0_inOrder 32 = .ok (.ifCond .ne 6, 3) := by decide +kernel
theorem dX0_inOrder_35 : decode cX0_inOrder 35 = .ok (.iload 4, 2) := by decide +kernel
theorem dX0_inOrder_37 : decode cX0_inOrder 37 = .ok (.ireturn, 1) := by decide +kernel
theorem dX0_inOrder_38 : decode cX0_inOrder 38 = .ok (.iinc 2 (-1), 3) := by decide +kernel
theorem dX0_inOrder_41 : decode cX0_inOrder 41 = .ok (.iinc 4 1, 3) := by decide +kernel
theorem dX0_inOrder_44 : decode cX0_inOrder 44 = .ok (.goto (-32), 3) := by decide +kernel
theorem dX0_inOrder_47 : decode cX0_inOrder 47 = .ok (.iinc 3 (-1), 3) := by decide +kernel
theorem dX0_inOrder_50 : decode cX0_inOrder 50 = .ok (.goto (-45), 3) := by decide +kernel
theorem dX0_inOrder_53 : decode cX0_inOrder 53 = .ok (.iconst (-1), 1) := by decide +kernel
theorem dX0_inOrder_54 : decode cX0_inOrder 54 = .ok (.ireturn, 1) := by decide +kernel
theorem dX0_sizeOf_0 : decode cX0_sizeOf 0 = .ok (.iload_n 1, 1) := by decide +kernel
theorem dX0_sizeOf_1 : decode cX0_sizeOf 1 = .ok (.ifCond .lt 29, 3) := by decide +kernel
theorem dX0_sizeOf_4 : decode cX0_sizeOf 4 = .ok (.iload_n 1, 1) := by decide +kernel
theorem dX0_sizeOf_5 : decode cX0_sizeOf 5 = .ok (.aload_n 0, 1) := by decide +kernel
theorem dX0_sizeOf_6 : decode cX0_sizeOf 6 = .ok (.getfield 21, 3) := by decide +kernel
theorem dX0_sizeOf_9 : decode cX0_sizeOf 9 = .ok (.if_icmp .ge 21, 3) := by decide +kernel
theorem dX0_sizeOf_12 : decode cX0_sizeOf 12 = .ok (.iload_n 1, 1) := by decide +kernel
theorem dX0_sizeOf_13 : decode cX0_sizeOf 13 = .ok (.aload_n 0, 1) := by decide +kernel
theorem dX0_sizeOf_14 : decode cX0_sizeOf 14 = .ok (.getfield 9, 3) := by decide +kernel
theorem dX0_sizeOf_17 : decode cX0_sizeOf 17 = .ok (.arraylength, 1) := by decide +kernel
theorem dX0_sizeOf_18 : decode cX0_sizeOf 18 = .ok (.if_icmp .ge 12, 3) := by decide +kernel
theorem dX0_sizeOf_21 : decode cX0_sizeOf 21 = .ok (.aload_n 0, 1) := by decide +kernel
theorem dX0_sizeOf_22 : decode cX0_sizeOf 22 = .ok (.getfield 9, 3) := by decide +kernel
theorem dX0_sizeOf_25 : decode cX0_sizeOf 25 = .ok (.iload_n 1, 1) := by decide +kernel
theorem dX0_sizeOf_26 : decode cX0_sizeOf 26 = .ok (.iaload, 1) := by decide +kernel
theorem dX0_sizeOf_27 : decode cX0_sizeOf 27 = .ok (.goto 4, 3) := by decide +kernel
theorem dX0_sizeOf_30 : decode cX0_sizeOf 30 = .ok (.iconst (-1), 1) := by decide +kernel
theorem dX0_sizeOf_31 : decode cX0_sizeOf 31 = .ok (.ireturn, 1) := by decide +kernel
theorem dX0_outOf_0 : decode cX0_outOf 0 = .ok (.iload_n 1, 1) := by decide +kernel
theorem dX0_outOf_1 : decode cX0_outOf 1 = .ok (.ifCond .lt 29, 3) := by decide +kernel
theorem dX0_outOf_4 : decode cX0_outOf 4 = .ok (.iload_n 1, 1) := by decide +kernel
theorem dX0_outOf_5 : decode cX0_outOf 5 = .ok (.aload_n 0, 1) := by decide +kernel
theorem dX0_outOf_6 : decode cX0_outOf 6 = .ok (.getfield 21, 3) := by decide +kernel
theorem dX0_outOf_9 : decode cX0_outOf 9 = .ok (.if_icmp .ge 21, 3) := by decide +kernel
theorem dX0_outOf_12 : decode cX0_outOf 12 = .ok (.iload_n 1, 1) := by decide +kernel
theorem dX0_outOf_13 : decode cX0_outOf 13 = .ok (.aload_n 0, 1) := by decide +kernel
theorem dX0_outOf_14 : decode cX0_outOf 14 = .ok (.getfield 15, 3) := by decide +kernel
theorem dX0_outOf_17 : decode cX0_outOf 17 = .ok (.arraylength, 1) := by decide +kernel
theorem dX0_outOf_18 : decode cX0_outOf 18 = .ok (.if_icmp .ge 12, 3) := by decide +kernel
theorem dX0_outOf_21 : decode cX0_outOf 21 = .ok (.aload_n 0, 1) := by decide +kernel
theorem dX0_outOf_22 : decode cX0_outOf 22 = .ok (.getfield 15, 3) := by decide +kernel
theorem dX0_outOf_25 : decode cX0_outOf 25 = .ok (.iload_n 1, 1) := by decide +kernel
theorem dX0_outOf_26 : decode cX0_outOf 26 = .ok (.iaload, 1) := by decide +kernel
theorem dX0_outOf_27 : decode cX0_outOf 27 = .ok (.goto 4, 3) := by decide +kernel
theorem dX0_outOf_30 : decode cX0_outOf 30 = .ok (.iconst (-1), 1) := by decide +kernel
theorem dX0_outOf_31 : decode cX0_outOf 31 = .ok (.ireturn, 1) := by decide +kernel
theorem dX0_inOf_0 : decode cX0_inOf 0 = .ok (.iload_n 1, 1) := by decide +kernel
theorem dX0_inOf_1 : decode cX0_inOf 1 = .ok (.ifCond .lt 29, 3) := by decide +kernel
theorem dX0_inOf_4 : decode cX0_inOf 4 = .ok (.iload_n 1, 1) := by decide +kernel
theorem dX0_inOf_5 : decode cX0_inOf 5 = .ok (.aload_n 0, 1) := by decide +kernel
theorem dX0_inOf_6 : decode cX0_inOf 6 = .ok (.getfield 21, 3) := by decide +kernel
theorem dX0_inOf_9 : decode cX0_inOf 9 = .ok (.if_icmp .ge 21, 3) := by decide +kernel
theorem dX0_inOf_12 : decode cX0_inOf 12 = .ok (.iload_n 1, 1) := by decide +kernel
theorem dX0_inOf_13 : decode cX0_inOf 13 = .ok (.aload_n 0, 1) := by decide +kernel
theorem dX0_inOf_14 : decode cX0_inOf 14 = .ok (.getfield 18, 3) := by decide +kernel
theorem dX0_inOf_17 : decode cX0_inOf 17 = .ok (.arraylength, 1) := by decide +kernel
theorem dX0_inOf_18 : decode cX0_inOf 18 = .ok (.if_icmp .ge 12, 3) := by decide +kernel
theorem dX0_inOf_21 : decode cX0_inOf 21 = .ok (.aload_n 0, 1) := by decide +kernel
theorem dX0_inOf_22 : decode cX0_inOf 22 = .ok (.getfield 18, 3) := by decide +kernel
theorem dX0_inOf_25 : decode cX0_inOf 25 = .ok (.iload_n 1, 1) := by decide +kernel
theorem dX0_inOf_26 : decode cX0_inOf 26 = .ok (.iaload, 1) := by decide +kernel
theorem dX0_inOf_27 : decode cX0_inOf 27 = .ok (.goto 4, 3) := by decide +kernel
theorem dX0_inOf_30 : decode cX0_inOf 30 = .ok (.iconst (-1), 1) := by decide +kernel
theorem dX0_inOf_31 : decode cX0_inOf 31 = .ok (.ireturn, 1) := by decide +kernel
theorem dX0_sizeFrom_0 : decode cX0_sizeFrom 0 = .ok (.iconst 0, 1) := by decide +kernel
theorem dX0_sizeFrom_1 : decode cX0_sizeFrom 1 = .ok (.istore_n 3, 1) := by decide +kernel
theorem dX0_sizeFrom_2 : decode cX0_sizeFrom 2 = .ok (.iload_n 3, 1) := by decide +kernel
theorem dX0_sizeFrom_3 : decode cX0_sizeFrom 3 = .ok (.bipush 28, 2) := by decide +kernel
theorem dX0_sizeFrom_5 : decode cX0_sizeFrom 5 = .ok (.if_icmp .ge 22, 3) := by decide +kernel
theorem dX0_sizeFrom_8 : decode cX0_sizeFrom 8 = .ok (.aload_n 0, 1) := by decide +kernel
theorem dX0_sizeFrom_9 : decode cX0_sizeFrom 9 = .ok (.iload_n 1, 1) := by decide +kernel
theorem dX0_sizeFrom_10 : decode cX0_sizeFrom 10 = .ok (.iload_n 3, 1) := by decide +kernel
theorem dX0_sizeFrom_11 : decode cX0_sizeFrom 11 = .ok (.iadd, 1) := by decide +kernel
theorem dX0_sizeFrom_12 : decode cX0_sizeFrom 12 = .ok (.iload_n 2, 1) := by decide +kernel
theorem dX0_sizeFrom_13 : decode cX0_sizeFrom 13 = .ok (.iload_n 3, 1) := by decide +kernel
theorem dX0_sizeFrom_14 : decode cX0_sizeFrom 14 = .ok (.iadd, 1) := by decide +kernel
theorem dX0_sizeFrom_15 : decode cX0_sizeFrom 15 = .ok (.invokevirtual 30, 3) := by decide +kernel
theorem dX0_sizeFrom_18 : decode cX0_sizeFrom 18 = .ok (.ifCond .eq 9, 3) := by decide +kernel
theorem dX0_sizeFrom_21 : decode cX0_sizeFrom 21 = .ok (.iinc 3 1, 3) := by decide +kernel
theorem dX0_sizeFrom_24 : decode cX0_sizeFrom 24 = .ok (.goto (-22), 3) := by decide +kernel
theorem dX0_sizeFrom_27 : decode cX0_sizeFrom 27 = .ok (.iload_n 3, 1) := by decide +kernel
theorem dX0_sizeFrom_28 : decode cX0_sizeFrom 28 = .ok (.ireturn, 1) := by decide +kernel
theorem dX0_addIfLong_0 : decode cX0_addIfLong 0 = .ok (.iload_n 1, 1) := by decide +kernel
theorem dX0_addIfLong_1 : decode cX0_addIfLong 1 = .ok (.iload 4, 2) := by decide +kernel
theorem dX0_addIfLong_3 : decode cX0_addIfLong 3 = .ok (.if_icmp .lt 86, 3) := by decide +kernel
theorem dX0_addIfLong_6 : decode cX0_addIfLong 6 = .ok (.aload_n 0, 1) := by decide +kernel
theorem dX0_addIfLong_7 : decode cX0_addIfLong 7 = .ok (.getfield 21, 3) := by decide +kernel
theorem dX0_addIfLong_10 : decode cX0_addIfLong 10 = .ok (.ifCond .lt 79, 3) := by decide +kernel
theorem dX0_addIfLong_13 : decode cX0_addIfLong 13 = .ok (.aload_n 0, 1) := by decide +kernel
theorem dX0_addIfLong_14 : decode cX0_addIfLong 14 = .ok (.getfield 21, 3) := by decide +kernel
theorem dX0_addIfLong_17 : decode cX0_addIfLong 17 = .ok (.aload_n 0, 1) := by decide +kernel
theorem dX0_addIfLong_18 : decode cX0_addIfLong 18 = .ok (.getfield 9, 3) := by decide +kernel
theorem dX0_addIfLong_21 : decode cX0_addIfLong 21 = .ok (.arraylength, 1) := by decide +kernel
theorem dX0_addIfLong_22 : decode cX0_addIfLong 22 = .ok (.if_icmp .ge 67, 3) := by decide +kernel
theorem dX0_addIfLong_25 : decode cX0_addIfLong 25 = .ok (.aload_n 0, 1) := by decide +kernel
theorem dX0_addIfLong_26 : decode cX0_addIfLong 26 = .ok (.getfield 21, 3) := by decide +kernel
theorem dX0_addIfLong_29 : decode cX0_addIfLong 29 = .ok (.aload_n 0, 1) := by decide +kernel
theorem dX0_addIfLong_30 : decode cX0_addIfLong 30 = .ok (.getfield 15, 3) := by decide +kernel
theorem dX0_addIfLong_33 : decode cX0_addIfLong 33 = .ok (.arraylength, 1) := by decide +kernel
theorem dX0_addIfLong_34 : decode cX0_addIfLong 34 = .ok (.if_icmp .ge 55, 3) := by decide +kernel
theorem dX0_addIfLong_37 : decode cX0_addIfLong 37 = .ok (.aload_n 0, 1) := by decide +kernel
theorem dX0_addIfLong_38 : decode cX0_addIfLong 38 = .ok (.getfield 21, 3) := by decide +kernel
theorem dX0_addIfLong_41 : decode cX0_addIfLong 41 = .ok (.aload_n 0, 1) := by decide +kernel
theorem dX0_addIfLong_42 : decode cX0_addIfLong 42 = .ok (.getfield 18, 3) := by decide +kernel
theorem dX0_addIfLong_45 : decode cX0_addIfLong 45 = .ok (.arraylength, 1) := by decide +kernel
theorem dX0_addIfLong_46 : decode cX0_addIfLong 46 = .ok (.if_icmp .ge 43, 3) := by decide +kernel
theorem dX0_addIfLong_49 : decode cX0_addIfLong 49 = .ok (.aload_n 0, 1) := by decide +kernel
theorem dX0_addIfLong_50 : decode cX0_addIfLong 50 = .ok (.getfield 9, 3) := by decide +kernel
theorem dX0_addIfLong_53 : decode cX0_addIfLong 53 = .ok (.aload_n 0, 1) := by decide +kernel
theorem dX0_addIfLong_54 : decode cX0_addIfLong 54 = .ok (.getfield 21, 3) := by decide +kernel
theorem dX0_addIfLong_57 : decode cX0_addIfLong 57 = .ok (.iload_n 1, 1) := by decide +kernel
theorem dX0_addIfLong_58 : decode cX0_addIfLong 58 = .ok (.iastore, 1) := by decide +kernel
theorem dX0_addIfLong_59 : decode cX0_addIfLong 59 = .ok (.aload_n 0, 1) := by decide +kernel
theorem dX0_addIfLong_60 : decode cX0_addIfLong 60 = .ok (.getfield 15, 3) := by decide +kernel
theorem dX0_addIfLong_63 : decode cX0_addIfLong 63 = .ok (.aload_n 0, 1) := by decide +kernel
theorem dX0_addIfLong_64 : decode cX0_addIfLong 64 = .ok (.getfield 21, 3) := by decide +kernel
theorem dX0_addIfLong_67 : decode cX0_addIfLong 67 = .ok (.iload_n 2, 1) := by decide +kernel
theorem dX0_addIfLong_68 : decode cX0_addIfLong 68 = .ok (.iastore, 1) := by decide +kernel
theorem dX0_addIfLong_69 : decode cX0_addIfLong 69 = .ok (.aload_n 0, 1) := by decide +kernel
theorem dX0_addIfLong_70 : decode cX0_addIfLong 70 = .ok (.getfield 18, 3) := by decide +kernel
theorem dX0_addIfLong_73 : decode cX0_addIfLong 73 = .ok (.aload_n 0, 1) := by decide +kernel
theorem dX0_addIfLong_74 : decode cX0_addIfLong 74 = .ok (.getfield 21, 3) := by decide +kernel
theorem dX0_addIfLong_77 : decode cX0_addIfLong 77 = .ok (.iload_n 3, 1) := by decide +kernel
theorem dX0_addIfLong_78 : decode cX0_addIfLong 78 = .ok (.iastore, 1) := by decide +kernel
theorem dX0_addIfLong_79 : decode cX0_addIfLong 79 = .ok (.aload_n 0, 1) := by decide +kernel
theorem dX0_addIfLong_80 : decode cX0_addIfLong 80 = .ok (.dup, 1) := by decide +kernel
theorem dX0_addIfLong_81 : decode cX0_addIfLong 81 = .ok (.getfield 21, 3) := by decide +kernel
theorem dX0_addIfLong_84 : decode cX0_addIfLong 84 = .ok (.iconst 1, 1) := by decide +kernel
theorem dX0_addIfLong_85 : decode cX0_addIfLong 85 = .ok (.iadd, 1) := by decide +kernel
theorem dX0_addIfLong_86 : decode cX0_addIfLong 86 = .ok (.putfield 21, 3) := by decide +kernel
theorem dX0_addIfLong_89 : decode cX0_addIfLong 89 = .ok (.return_, 1) := by decide +kernel
theorem dX1_init_0 : decode cX1_init 0 = .ok (.aload_n 0, 1) := by decide +kernel
theorem dX1_init_1 : decode cX1_init 1 = .ok (.invokespecial 3, 3) := by decide +kernel
theorem dX1_init_4 : decode cX1_init 4 = .ok (.aload_n 0, 1) := by decide +kernel
theorem dX1_init_5 : decode cX1_init 5 = .ok (.new 9, 3) := by decide +kernel
theorem dX1_init_8 : decode cX1_init 8 = .ok (.dup, 1) := by decide +kernel
theorem dX1_init_9 : decode cX1_init 9 = .ok (.invokespecial 11, 3) := by decide +kernel
theorem dX1_init_12 : decode cX1_init 12 = .ok (.putfield 12, 3) := by decide +kernel
theorem dX1_init_15 : decode cX1_init 15 = .ok (.aload_n 0, 1) := by decide +kernel
theorem dX1_init_16 : decode cX1_init 16 = .ok (.new 9, 3) := by decide +kernel
theorem dX1_init_19 : decode cX1_init 19 = .ok (.dup, 1) := by decide +kernel
theorem dX1_init_20 : decode cX1_init 20 = .ok (.invokespecial 11, 3) := by decide +kernel
theorem dX1_init_23 : decode cX1_init 23 = .ok (.putfield 18, 3) := by decide +kernel
theorem dX1_init_26 : decode cX1_init 26 = .ok (.aload_n 0, 1) := by decide +kernel
theorem dX1_init_27 : decode cX1_init 27 = .ok (.new 9, 3) := by decide +kernel
theorem dX1_init_30 : decode cX1_init 30 = .ok (.dup, 1) := by decide +kernel
theorem dX1_init_31 : decode cX1_init 31 = .ok (.invokespecial 11, 3) := by decide +kernel
theorem dX1_init_34 : decode cX1_init 34 = .ok (.putfield 21, 3) := by decide +kernel
theorem dX1_init_37 : decode cX1_init 37 = .ok (.return_, 1) := by decide +kernel
theorem dX1_countWays_0 : decode cX1_countWays 0 = .ok (.aload_n 0, 1) := by decide +kernel
theorem dX1_countWays_1 : decode cX1_countWays 1 = .ok (.aload_n 1, 1) := by decide +kernel
theorem dX1_countWays_2 : decode cX1_countWays 2 = .ok (.invokevirtual 24, 3) := by decide +kernel
theorem dX1_countWays_5 : decode cX1_countWays 5 = .ok (.iconst 0, 1) := by decide +kernel
theorem dX1_countWays_6 : decode cX1_countWays 6 = .ok (.istore_n 2, 1) := by decide +kernel
theorem dX1_countWays_7 : decode cX1_countWays 7 = .ok (.iload_n 2, 1) := by decide +kernel
theorem dX1_countWays_8 : decode cX1_countWays 8 = .ok (.aload_n 1, 1) := by decide +kernel
theorem dX1_countWays_9 : decode cX1_countWays 9 = .ok (.getfield 28, 3) := by decide +kernel
theorem dX1_countWays_12 : decode cX1_countWays 12 = .ok (.getfield 34, 3) := by decide +kernel
theorem dX1_countWays_15 : decode cX1_countWays 15 = .ok (.if_icmp .gt 56, 3) := by decide +kernel
theorem dX1_countWays_18 : decode cX1_countWays 18 = .ok (.iconst 0, 1) := by decide +kernel
theorem dX1_countWays_19 : decode cX1_countWays 19 = .ok (.istore_n 3, 1) := by decide +kernel
theorem dX1_countWays_20 : decode cX1_countWays 20 = .ok (.iload_n 3, 1) := by decide +kernel
theorem dX1_countWays_21 : decode cX1_countWays 21 = .ok (.aload_n 1, 1) := by decide +kernel
theorem dX1_countWays_22 : decode cX1_countWays 22 = .ok (.getfield 40, 3) := by decide +kernel
theorem dX1_countWays_25 : decode cX1_countWays 25 = .ok (.getfield 34, 3) := by decide +kernel
theorem dX1_countWays_28 : decode cX1_countWays 28 = .ok (.if_icmp .gt 37, 3) := by decide +kernel
theorem dX1_countWays_31 : decode cX1_countWays 31 = .ok (.aload_n 0, 1) := by decide +kernel
theorem dX1_countWays_32 : decode cX1_countWays 32 = .ok (.getfield 21, 3) := by decide +kernel
theorem dX1_countWays_35 : decode cX1_countWays 35 = .ok (.iload_n 2, 1) := by decide +kernel
theorem dX1_countWays_36 : decode cX1_countWays 36 = .ok (.iload_n 3, 1) := by decide +kernel
theorem dX1_countWays_37 : decode cX1_countWays 37 = .ok (.iload_n 2, 1) := by decide +kernel
theorem dX1_countWays_38 : decode cX1_countWays 38 = .ok (.ifCond .ne 11, 3) := by decide +kernel
theorem dX1_countWays_41 : decode cX1_countWays 41 = .ok (.iload_n 3, 1) := by decide +kernel
theorem dX1_countWays_42 : decode cX1_countWays 42 = .ok (.ifCond .ne 7, 3) := by decide +kernel
theorem dX1_countWays_45 : decode cX1_countWays 45 = .ok (.lconst 1, 1) := by decide +kernel
theorem dX1_countWays_46 : decode cX1_countWays 46 = .ok (.goto 10, 3) := by decide +kernel
theorem dX1_countWays_49 : decode cX1_countWays 49 = .ok (.aload_n 0, 1) := by decide +kernel
theorem dX1_countWays_50 : decode cX1_countWays 50 = .ok (.aload_n 1, 1) := by decide +kernel
theorem dX1_countWays_51 : decode cX1_countWays 51 = .ok (.iload_n 2, 1) := by decide +kernel
theorem dX1_countWays_52 : decode cX1_countWays 52 = .ok (.iload_n 3, 1) := by decide +kernel
theorem dX1_countWays_53 : decode cX1_countWays 53 = .ok (.invokevirtual 43, 3) := by decide +kernel
theorem dX1_countWays_56 : decode cX1_countWays 56 = .ok (.invokevirtual 47, 3) := by decide +kernel
theorem dX1_countWays_59 : decode cX1_countWays 59 = .ok (.iinc 3 1, 3) := by decide +kernel
theorem dX1_countWays_62 : decode cX1_countWays 62 = .ok (.goto (-42), 3) := by decide +kernel
theorem dX1_countWays_65 : decode cX1_countWays 65 = .ok (.iinc 2 1, 3) := by decide +kernel
theorem dX1_countWays_68 : decode cX1_countWays 68 = .ok (.goto (-61), 3) := by decide +kernel
theorem dX1_countWays_71 : decode cX1_countWays 71 = .ok (.aload_n 0, 1) := by decide +kernel
theorem dX1_countWays_72 : decode cX1_countWays 72 = .ok (.getfield 21, 3) := by decide +kernel
theorem dX1_countWays_75 : decode cX1_countWays 75 = .ok (.aload_n 1, 1) := by decide +kernel
theorem dX1_countWays_76 : decode cX1_countWays 76 = .ok (.getfield 28, 3) := by decide +kernel
theorem dX1_countWays_79 : decode cX1_countWays 79 = .ok (.getfield 34, 3) := by decide +kernel
theorem dX1_countWays_82 : decode cX1_countWays 82 = .ok (.aload_n 1, 1) := by decide +kernel
theorem dX1_countWays_83 : decode cX1_countWays 83 = .ok (.getfield 40, 3) := by decide +kernel
theorem dX1_countWays_86 : decode cX1_countWays 86 = .ok (.getfield 34, 3) := by decide +kernel
theorem dX1_countWays_89 : decode cX1_countWays 89 = .ok (.invokevirtual 51, 3) := by decide +kernel
theorem dX1_countWays_92 : decode cX1_countWays 92 = .ok (.lreturn, 1) := by decide +kernel
theorem dX1_findBest_0 : decode cX1_findBest 0 = .ok (.aload_n 0, 1) := by decide +kernel
theorem dX1_findBest_1 : decode cX1_findBest 1 = .ok (.aload_n 1, 1) := by decide +kernel
theorem dX1_findBest_2 : decode cX1_findBest 2 = .ok (.invokevirtual 24, 3) := by decide +kernel
theorem dX1_findBest_5 : decode cX1_findBest 5 = .ok (.aload_n 0, 1) := by decide +kernel
theorem dX1_findBest_6 : decode cX1_findBest 6 = .ok (.aload_n 1, 1) := by decide +kernel
theorem dX1_findBest_7 : decode cX1_findBest 7 = .ok (.invokevirtual 55, 3) := by decide +kernel
theorem dX1_findBest_10 : decode cX1_findBest 10 = .ok (.aload_n 0, 1) := by decide +kernel
theorem dX1_findBest_11 : decode cX1_findBest 11 = .ok (.aload_n 0, 1) := by decide +kernel
theorem dX1_findBest_12 : decode cX1_findBest 12 = .ok (.getfield 12, 3) := by decide +kernel
theorem dX1_findBest_15 : decode cX1_findBest 15 = .ok (.aload_n 1, 1) := by decide +kernel
theorem dX1_findBest_16 : decode cX1_findBest 16 = .ok (.getfield 28, 3) := by decide +kernel
theorem dX1_findBest_19 : decode cX1_findBest 19 = .ok (.getfield 34, 3) := by decide +kernel
theorem dX1_findBest_22 : decode cX1_findBest 22 = .ok (.aload_n 1, 1) := by decide +kernel
theorem dX1_findBest_23 : decode cX1_findBest 23 = .ok (.getfield 40, 3) := by decide +kernel
theorem dX1_findBest_26 : decode cX1_findBest 26 = .ok (.getfield 34, 3) := by decide +kernel
theorem dX1_findBest_29 : decode cX1_findBest 29 = .ok (.invokevirtual 51, 3) := by decide +kernel
theorem dX1_findBest_32 : decode cX1_findBest 32 = .ok (.l2i, 1) := by decide +kernel
theorem dX1_findBest_33 : decode cX1_findBest 33 = .ok (.putfield 58, 3) := by decide +kernel
theorem dX1_findBest_36 : decode cX1_findBest 36 = .ok (.aload_n 0, 1) := by decide +kernel
theorem dX1_findBest_37 : decode cX1_findBest 37 = .ok (.iconst (-1), 1) := by decide +kernel
theorem dX1_findBest_38 : decode cX1_findBest 38 = .ok (.putfield 61, 3) := by decide +kernel
theorem dX1_findBest_41 : decode cX1_findBest 41 = .ok (.aload_n 0, 1) := by decide +kernel
theorem dX1_findBest_42 : decode cX1_findBest 42 = .ok (.iconst (-1), 1) := by decide +kernel
theorem dX1_findBest_43 : decode cX1_findBest 43 = .ok (.putfield 64, 3) := by decide +kernel
theorem dX1_findBest_46 : decode cX1_findBest 46 = .ok (.iconst 0, 1) := by decide +kernel
theorem dX1_findBest_47 : decode cX1_findBest 47 = .ok (.istore_n 2, 1) := by decide +kernel
theorem dX1_findBest_48 : decode cX1_findBest 48 = .ok (.iload_n 2, 1) := by decide +kernel
theorem dX1_findBest_49 : decode cX1_findBest 49 = .ok (.aload_n 1, 1) := by decide +kernel
theorem dX1_findBest_50 : decode cX1_findBest 50 = .ok (.getfield 28, 3) := by decide +kernel
theorem dX1_findBest_53 : decode cX1_findBest 53 = .ok (.getfield 34, 3) := by decide +kernel
theorem dX1_findBest_56 : decode cX1_findBest 56 = .ok (.if_icmp .ge 57, 3) := by decide +kernel
theorem dX1_findBest_59 : decode cX1_findBest 59 = .ok (.iconst 0, 1) := by decide +kernel
theorem dX1_findBest_60 : decode cX1_findBest 60 = .ok (.istore_n 3, 1) := by decide +kernel
theorem dX1_findBest_61 : decode cX1_findBest 61 = .ok (.iload_n 3, 1) := by decide +kernel
theorem dX1_findBest_62 : decode cX1_findBest 62 = .ok (.bipush 8, 2) := by decide +kernel
theorem dX1_findBest_64 : decode cX1_findBest 64 = .ok (.if_icmp .ge 43, 3) := by decide +kernel
theorem dX1_findBest_67 : decode cX1_findBest 67 = .ok (.aload_n 0, 1) := by decide +kernel
theorem dX1_findBest_68 : decode cX1_findBest 68 = .ok (.aload_n 1, 1) := by decide +kernel
theorem dX1_findBest_69 : decode cX1_findBest 69 = .ok (.iload_n 2, 1) := by decide +kernel
theorem dX1_findBest_70 : decode cX1_findBest 70 = .ok (.iload_n 3, 1) := by decide +kernel
theorem dX1_findBest_71 : decode cX1_findBest 71 = .ok (.invokevirtual 67, 3) := by decide +kernel
theorem dX1_findBest_74 : decode cX1_findBest 74 = .ok (.istore 4, 2) := by decide +kernel
theorem dX1_findBest_76 : decode cX1_findBest 76 = .ok (.iload 4, 2) := by decide +kernel
theorem dX1_findBest_78 : decode cX1_findBest 78 = .ok (.aload_n 0, 1) := by decide +kernel
theorem dX1_findBest_79 : decode cX1_findBest 79 = .ok (.getfield 58, 3) := by decide +kernel
theorem dX1_findBest_82 : decode cX1_findBest 82 = .ok (.if_icmp .le 19, 3) := by decide +kernel
theorem dX1_findBest_85 : decode cX1_findBest 85 = .ok (.aload_n 0, 1) := by decide +kernel
theorem dX1_findBest_86 : decode cX1_findBest 86 = .ok (.iload 4, 2) := by decide +kernel
theorem dX1_findBest_88 : decode cX1_findBest 88 = .ok (.putfield 58, 3) := by decide +kernel
theorem dX1_findBest_91 : decode cX1_findBest 91 = .ok (.aload_n 0, 1) := by decide +kernel
theorem dX1_findBest_92 : decode cX1_findBest 92 = .ok (.iload_n 2, 1) := by decide +kernel
theorem dX1_findBest_93 : decode cX1_findBest 93 = .ok (.putfield 61, 3) := by decide +kernel
theorem dX1_findBest_96 : decode cX1_findBest 96 = .ok (.aload_n 0, 1) := by decide +kernel
theorem dX1_findBest_97 : decode cX1_findBest 97 = .ok (.iload_n 3, 1) := by decide +kernel
theorem dX1_findBest_98 : decode cX1_findBest 98 = .ok (.putfield 64, 3) := by decide +kernel
theorem dX1_findBest_101 : decode cX1_findBest 101 = .ok (.iinc 3 1, 3) := by decide +kernel
theorem dX1_findBest_104 : decode cX1_findBest 104 = .ok (.goto (-43), 3) := by decide +kernel
theorem dX1_findBest_107 : decode cX1_findBest 107 = .ok (.iinc 2 1, 3) := by decide +kernel
theorem dX1_findBest_110 : decode cX1_findBest 110 = .ok (.goto (-62), 3) := by decide +kernel
theorem dX1_findBest_113 : decode cX1_findBest 113 = .ok (.return_, 1) := by decide +kernel
theorem dX1_fillBeginnings_0 : decode cX1_fillBeginnings 0 = .ok (.iconst 0, 1) := by decide +kernel
theorem dX1_fillBeginnings_1 : decode cX1_fillBeginnings 1 = .ok (.istore_n 2, 1) := by decide +kernel
theorem dX1_fillBeginnings_2 : decode cX1_fillBeginnings 2 = .ok (.iload_n 2, 1) := by decide +kernel
theorem dX1_fillBeginnings_3 : decode cX1_fillBeginnings 3 = .ok (.aload_n 1, 1) := by decide +kernel
theorem dX1_fillBeginnings_4 : decode cX1_fillBeginnings 4 = .ok (.getfield 28, 3) := by decide +kernel
theorem dX1_fillBeginnings_7 : decode cX1_fillBeginnings 7 = .ok (.getfield 34, 3) := by decide +kernel
theorem dX1_fillBeginnings_10 : decode cX1_fillBeginnings 10 = .ok (.if_icmp .gt 93, 3) := by decide +kernel
theorem dX1_fillBeginnings_13 : decode cX1_fillBeginnings 13 = .ok (.iconst 0, 1) := by decide +kernel
theorem dX1_fillBeginnings_14 : decode cX1_fillBeginnings 14 = .ok (.istore_n 3, 1) := by decide +kernel
theorem dX1_fillBeginnings_15 : decode cX1_fillBeginnings 15 = .ok (.iload_n 3, 1) := by decide +kernel
theorem dX1_fillBeginnings_16 : decode cX1_fillBeginnings 16 = .ok (.aload_n 1, 1) := by decide +kernel
theorem dX1_fillBeginnings_17 : decode cX1_fillBeginnings 17 = .ok (.getfield 40, 3) := by decide +kernel
theorem dX1_fillBeginnings_20 : decode cX1_fillBeginnings 20 = .ok (.getfield 34, 3) := by decide +kernel
theorem dX1_fillBeginnings_23 : decode cX1_fillBeginnings 23 = .ok (.if_icmp .gt 74, 3) := by decide +kernel
theorem dX1_fillBeginnings_26 : decode cX1_fillBeginnings 26 = .ok (.aload_n 0, 1) := by decide +kernel
theorem dX1_fillBeginnings_27 : decode cX1_fillBeginnings 27 = .ok (.getfield 12, 3) := by decide +kernel
theorem dX1_fillBeginnings_30 : decode cX1_fillBeginnings 30 = .ok (.iload_n 2, 1) := by decide +kernel
theorem dX1_fillBeginnings_31 : decode cX1_fillBeginnings 31 = .ok (.iload_n 3, 1) := by decide +kernel
theorem dX1_fillBeginnings_32 : decode cX1_fillBeginnings 32 = .ok (.aload_n 1, 1) := by decide +kernel
theorem dX1_fillBeginnings_33 : decode cX1_fillBeginnings 33 = .ok (.iload_n 2, 1) := by decide +kernel
theorem dX1_fillBeginnings_34 : decode cX1_fillBeginnings 34 = .ok (.iconst 1, 1) := by decide +kernel
theorem dX1_fillBeginnings_35 : decode cX1_fillBeginnings 35 = .ok (.isub, 1) := by decide +kernel
theorem dX1_fillBeginnings_36 : decode cX1_fillBeginnings 36 = .ok (.iload_n 3, 1) := by decide +kernel
theorem dX1_fillBeginnings_37 : decode cX1_fillBeginnings 37 = .ok (.iconst 1, 1) := by decide +kernel
theorem dX1_fillBeginnings_38 : decode cX1_fillBeginnings 38 = .ok (.isub, 1) := by decide +kernel
theorem dX1_fillBeginnings_39 : decode cX1_fillBeginnings 39 = .ok (.invokevirtual 71, 3) := by decide +kernel
theorem dX1_fillBeginnings_42 : decode cX1_fillBeginnings 42 = .ok (.ifCond .eq 21, 3) := by decide +kernel
theorem dX1_fillBeginnings_45 : decode cX1_fillBeginnings 45 = .ok (.aload_n 0, 1) := by decide +kernel
theorem dX1_fillBeginnings_46 : decode cX1_fillBeginnings 46 = .ok (.getfield 12, 3) := by decide +kernel
theorem dX1_fillBeginnings_49 : decode cX1_fillBeginnings 49 = .ok (.iload_n 2, 1) := by decide +kernel
theorem dX1_fillBeginnings_50 : decode cX1_fillBeginnings 50 = .ok (.iconst 1, 1) := by decide +kernel
theorem dX1_fillBeginnings_51 : decode cX1_fillBeginnings 51 = .ok (.isub, 1) := by decide +kernel
theorem dX1_fillBeginnings_52 : decode cX1_fillBeginnings 52 = .ok (.iload_n 3, 1) := by decide +kernel
theorem dX1_fillBeginnings_53 : decode cX1_fillBeginnings 53 = .ok (.iconst 1, 1) := by decide +kernel
theorem dX1_fillBeginnings_54 : decode cX1_fillBeginnings 54 = .ok (.isub, 1) := by decide +kernel
theorem dX1_fillBeginnings_55 : decode cX1_fillBeginnings 55 = .ok (.invokevirtual 51, 3) := by decide +kernel
theorem dX1_fillBeginnings_58 : decode cX1_fillBeginnings 58 = .ok (.lconst 1, 1) := by decide +kernel
theorem dX1_fillBeginnings_59 : decode cX1_fillBeginnings 59 = .ok (.ladd, 1) := by decide +kernel
theorem dX1_fillBeginnings_60 : decode cX1_fillBeginnings 60 = .ok (.goto 28, 3) := by decide +kernel
theorem dX1_fillBeginnings_63 : decode cX1_fillBeginnings 63 = .ok (.aload_n 0, 1) := by decide +kernel
theorem dX1_fillBeginnings_64 : decode cX1_fillBeginnings 64 = .ok (.getfield 12, 3) := by decide +kernel
theorem dX1_fillBeginnings_67 : decode cX1_fillBeginnings 67 = .ok (.iload_n 2, 1) := by decide +kernel
theorem dX1_fillBeginnings_68 : decode cX1_fillBeginnings 68 = .ok (.iconst 1, 1) := by decide +kernel
theorem dX1_fillBeginnings_69 : decode cX1_fillBeginnings 69 = .ok (.isub, 1) := by decide +kernel
theorem dX1_fillBeginnings_70 : decode cX1_fillBeginnings 70 = .ok (.iload_n 3, 1) := by decide +kernel
theorem dX1_fillBeginnings_71 : decode cX1_fillBeginnings 71 = .ok (.invokevirtual 51, 3) := by decide +kernel
theorem dX1_fillBeginnings_74 : decode cX1_fillBeginnings 74 = .ok (.aload_n 0, 1) := by decide +kernel
theorem dX1_fillBeginnings_75 : decode cX1_fillBeginnings 75 = .ok (.getfield 12, 3) := by decide +kernel
theorem dX1_fillBeginnings_78 : decode cX1_fillBeginnings 78 = .ok (.iload_n 2, 1) := by decide +kernel
theorem dX1_fillBeginnings_79 : decode cX1_fillBeginnings 79 = .ok (.iload_n 3, 1) := by decide +kernel
theorem dX1_fillBeginnings_80 : decode cX1_fillBeginnings 80 = .ok (.iconst 1, 1) := by decide +kernel
theorem dX1_fillBeginnings_81 : decode cX1_fillBeginnings 81 = .ok (.isub, 1) := by decide +kernel
theorem dX1_fillBeginnings_82 : decode cX1_fillBeginnings 82 = .ok (.invokevirtual 51, 3) := by decide +kernel
theorem dX1_fillBeginnings_85 : decode cX1_fillBeginnings 85 = .ok (.invokestatic 75, 3) := by decide +kernel
theorem dX1_fillBeginnings_88 : decode cX1_fillBeginnings 88 = .ok (.invokevirtual 47, 3) := by decide +kernel
theorem dX1_fillBeginnings_91 : decode cX1_fillBeginnings 91 = .ok (.iinc 3 1, 3) := by decide +kernel
theorem dX1_fillBeginnings_94 : decode cX1_fillBeginnings 94 = .ok (.goto (-79), 3) := by decide +kernel
theorem dX1_fillBeginnings_97 : decode cX1_fillBeginnings 97 = .ok (.iinc 2 1, 3) := by decide +kernel
theorem dX1_fillBeginnings_100 : decode cX1_fillBeginnings 100 = .ok (.goto (-98), 3) := by decide +kernel
theorem dX1_fillBeginnings_103 : decode cX1_fillBeginnings 103 = .ok (.return_, 1) := by decide +kernel
theorem dX1_fillEnds_0 : decode cX1_fillEnds 0 = .ok (.aload_n 1, 1) := by decide +kernel
theorem dX1_fillEnds_1 : decode cX1_fillEnds 1 = .ok (.getfield 28, 3) := by decide +kernel
theorem dX1_fillEnds_4 : decode cX1_fillEnds 4 = .ok (.getfield 34, 3) := by decide +kernel
theorem dX1_fillEnds_7 : decode cX1_fillEnds 7 = .ok (.istore_n 2, 1) := by decide +kernel
theorem dX1_fillEnds_8 : decode cX1_fillEnds 8 = .ok (.iload_n 2, 1) := by decide +kernel
theorem dX1_fillEnds_9 : decode cX1_fillEnds 9 = .ok (.ifCond .lt 43, 3) := by decide +kernel
theorem dX1_fillEnds_12 : decode cX1_fillEnds 12 = .ok (.aload_n 1, 1) := by decide +kernel
theorem dX1_fillEnds_13 : decode cX1_fillEnds 13 = .ok (.getfield 40, 3) := by decide +kernel
theorem dX1_fillEnds_16 : decode cX1_fillEnds 16 = .ok (.getfield 34, 3) := by decide +kernel
theorem dX1_fillEnds_19 : decode cX1_fillEnds 19 = .ok (.istore_n 3, 1) := by decide +kernel
theorem dX1_fillEnds_20 : decode cX1_fillEnds 20 = .ok (.iload_n 3, 1) := by decide +kernel
theorem dX1_fillEnds_21 : decode cX1_fillEnds 21 = .ok (.ifCond .lt 25, 3) := by decide +kernel
theorem dX1_fillEnds_24 : decode cX1_fillEnds 24 = .ok (.aload_n 0, 1) := by decide +kernel
theorem dX1_fillEnds_25 : decode cX1_fillEnds 25 = .ok (.getfield 18, 3) := by decide +kernel
theorem dX1_fillEnds_28 : decode cX1_fillEnds 28 = .ok (.iload_n 2, 1) := by decide +kernel
theorem dX1_fillEnds_29 : decode cX1_fillEnds 29 = .ok (.iload_n 3, 1) := by decide +kernel
theorem dX1_fillEnds_30 : decode cX1_fillEnds 30 = .ok (.aload_n 0, 1) := by decide +kernel
theorem dX1_fillEnds_31 : decode cX1_fillEnds 31 = .ok (.aload_n 1, 1) := by decide +kernel
theorem dX1_fillEnds_32 : decode cX1_fillEnds 32 = .ok (.iload_n 2, 1) := by decide +kernel
theorem dX1_fillEnds_33 : decode cX1_fillEnds 33 = .ok (.iload_n 3, 1) := by decide +kernel
theorem dX1_fillEnds_34 : decode cX1_fillEnds 34 = .ok (.invokevirtual 81, 3) := by decide +kernel
theorem dX1_fillEnds_37 : decode cX1_fillEnds 37 = .ok (.invokevirtual 47, 3) := by decide +kernel
theorem dX1_fillEnds_40 : decode cX1_fillEnds 40 = .ok (.iinc 3 (-1), 3) := by decide +kernel
theorem dX1_fillEnds_43 : decode cX1_fillEnds 43 = .ok (.goto (-23), 3) := by decide +kernel
theorem dX1_fillEnds_46 : decode cX1_fillEnds 46 = .ok (.iinc 2 (-1), 3) := by decide +kernel
theorem dX1_fillEnds_49 : decode cX1_fillEnds 49 = .ok (.goto (-41), 3) := by decide +kernel
theorem dX1_fillEnds_52 : decode cX1_fillEnds 52 = .ok (.return_, 1) := by decide +kernel
theorem dX1_commonOfEnds_0 : decode cX1_commonOfEnds 0 = .ok (.iload_n 2, 1) := by decide +kernel
theorem dX1_commonOfEnds_1 : decode cX1_commonOfEnds 1 = .ok (.aload_n 1, 1) := by decide +kernel
theorem dX1_commonOfEnds_2 : decode cX1_commonOfEnds 2 = .ok (.getfield 28, 3) := by decide +kernel
theorem dX1_commonOfEnds_5 : decode cX1_commonOfEnds 5 = .ok (.getfield 34, 3) := by decide +kernel
theorem dX1_commonOfEnds_8 : decode cX1_commonOfEnds 8 = .ok (.if_icmp .ge 14, 3) := by decide +kernel
theorem dX1_commonOfEnds_11 : decode cX1_commonOfEnds 11 = .ok (.iload_n 3, 1) := by decide +kernel
theorem dX1_commonOfEnds_12 : decode cX1_commonOfEnds 12 = .ok (.aload_n 1, 1) := by decide +kernel
theorem dX1_commonOfEnds_13 : decode cX1_commonOfEnds 13 = .ok (.getfield 40, 3) := by decide +kernel
theorem dX1_commonOfEnds_16 : decode cX1_commonOfEnds 16 = .ok (.getfield 34, 3) := by decide +kernel
theorem dX1_commonOfEnds_19 : decode cX1_commonOfEnds 19 = .ok (.if_icmp .lt 5, 3) := by decide +kernel
theorem dX1_commonOfEnds_22 : decode cX1_commonOfEnds 22 = .ok (.lconst 0, 1) := by decide +kernel
theorem dX1_commonOfEnds_23 : decode cX1_commonOfEnds 23 = .ok (.lreturn, 1) := by decide +kernel
theorem dX1_commonOfEnds_24 : decode cX1_commonOfEnds 24 = .ok (.aload_n 1, 1) := by decide +kernel
theorem dX1_commonOfEnds_25 : decode cX1_commonOfEnds 25 = .ok (.iload_n 2, 1) := by decide +kernel
theorem dX1_commonOfEnds_26 : decode cX1_commonOfEnds 26 = .ok (.iload_n 3, 1) := by decide +kernel
theorem dX1_commonOfEnds_27 : decode cX1_commonOfEnds 27 = .ok (.invokevirtual 71, 3) := by decide +kernel
theorem dX1_commonOfEnds_30 : decode cX1_commonOfEnds 30 = .ok (.ifCond .eq 21, 3) := by decide +kernel
theorem dX1_commonOfEnds_33 : decode cX1_commonOfEnds 33 = .ok (.aload_n 0, 1) := by decide +kernel
theorem dX1_commonOfEnds_34 : decode cX1_commonOfEnds 34 = .ok (.getfield 18, 3) := by decide +kernel
theorem dX1_commonOfEnds_37 : decode cX1_commonOfEnds 37 = .ok (.iload_n 2, 1) := by decide +kernel
theorem dX1_commonOfEnds_38 : decode cX1_commonOfEnds 38 = .ok (.iconst 1, 1) := by decide +kernel
theorem dX1_commonOfEnds_39 : decode cX1_commonOfEnds 39 = .ok (.iadd, 1) := by decide +kernel
theorem dX1_commonOfEnds_40 : decode cX1_commonOfEnds 40 = .ok (.iload_n 3, 1) := by decide +kernel
theorem dX1_commonOfEnds_41 : decode cX1_commonOfEnds 41 = .ok (.iconst 1, 1) := by decide +kernel
theorem dX1_commonOfEnds_42 : decode cX1_commonOfEnds 42 = .ok (.iadd, 1) := by decide +kernel
theorem dX1_commonOfEnds_43 : decode cX1_commonOfEnds 43 = .ok (.invokevirtual 51, 3) := by decide +kernel
theorem dX1_commonOfEnds_46 : decode cX1_commonOfEnds 46 = .ok (.lconst 1, 1) := by decide +kernel
theorem dX1_commonOfEnds_47 : decode cX1_commonOfEnds 47 = .ok (.ladd, 1) := by decide +kernel
theorem dX1_commonOfEnds_48 : decode cX1_commonOfEnds 48 = .ok (.goto 28, 3) := by decide +kernel
theorem dX1_commonOfEnds_51 : decode cX1_commonOfEnds 51 = .ok (.aload_n 0, 1) := by decide +kernel
theorem dX1_commonOfEnds_52 : decode cX1_commonOfEnds 52 = .ok (.getfield 18, 3) := by decide +kernel
theorem dX1_commonOfEnds_55 : decode cX1_commonOfEnds 55 = .ok (.iload_n 2, 1) := by decide +kernel
theorem dX1_commonOfEnds_56 : decode cX1_commonOfEnds 56 = .ok (.iconst 1, 1) := by decide +kernel
theorem dX1_commonOfEnds_57 : decode cX1_commonOfEnds 57 = .ok (.iadd, 1) := by decide +kernel
theorem dX1_commonOfEnds_58 : decode cX1_commonOfEnds 58 = .ok (.iload_n 3, 1) := by decide +kernel
theorem dX1_commonOfEnds_59 : decode cX1_commonOfEnds 59 = .ok (.invokevirtual 51, 3) := by decide +kernel
theorem dX1_commonOfEnds_62 : decode cX1_commonOfEnds 62 = .ok (.aload_n 0, 1) := by decide +kernel
theorem dX1_commonOfEnds_63 : decode cX1_commonOfEnds 63 = .ok (.getfield 18, 3) := by decide +kernel
theorem dX1_commonOfEnds_66 : decode cX1_commonOfEnds 66 = .ok (.iload_n 2, 1) := by decide +kernel
theorem dX1_commonOfEnds_67 : decode cX1_commonOfEnds 67 = .ok (.iload_n 3, 1) := by decide +kernel
theorem dX1_commonOfEnds_68 : decode cX1_commonOfEnds 68 = .ok (.iconst 1, 1) := by decide +kernel
theorem dX1_commonOfEnds_69 : decode cX1_commonOfEnds 69 = .ok (.iadd, 1) := by decide +kernel
theorem dX1_commonOfEnds_70 : decode cX1_commonOfEnds 70 = .ok (.invokevirtual 51, 3) := by decide +kernel
theorem dX1_commonOfEnds_73 : decode cX1_commonOfEnds 73 = .ok (.invokestatic 75, 3) := by decide +kernel
theorem dX1_commonOfEnds_76 : decode cX1_commonOfEnds 76 = .ok (.lreturn, 1) := by decide +kernel
theorem dX1_waysTo_0 : decode cX1_waysTo 0 = .ok (.aload_n 0, 1) := by decide +kernel
theorem dX1_waysTo_1 : decode cX1_waysTo 1 = .ok (.getfield 12, 3) := by decide +kernel
theorem dX1_waysTo_4 : decode cX1_waysTo 4 = .ok (.iload_n 2, 1) := by decide +kernel
theorem dX1_waysTo_5 : decode cX1_waysTo 5 = .ok (.iload_n 3, 1) := by decide +kernel
theorem dX1_waysTo_6 : decode cX1_waysTo 6 = .ok (.invokevirtual 51, 3) := by decide +kernel
theorem dX1_waysTo_9 : decode cX1_waysTo 9 = .ok (.lstore 4, 2) := by decide +kernel
theorem dX1_waysTo_11 : decode cX1_waysTo 11 = .ok (.lconst 0, 1) := by decide +kernel
theorem dX1_waysTo_12 : decode cX1_waysTo 12 = .ok (.lstore 6, 2) := by decide +kernel
theorem dX1_waysTo_14 : decode cX1_waysTo 14 = .ok (.aload_n 0, 1) := by decide +kernel
theorem dX1_waysTo_15 : decode cX1_waysTo 15 = .ok (.getfield 12, 3) := by decide +kernel
theorem dX1_waysTo_18 : decode cX1_waysTo 18 = .ok (.iload_n 2, 1) := by decide +kernel
theorem dX1_waysTo_19 : decode cX1_waysTo 19 = .ok (.iconst 1, 1) := by decide +kernel
theorem dX1_waysTo_20 : decode cX1_waysTo 20 = .ok (.isub, 1) := by decide +kernel
theorem dX1_waysTo_21 : decode cX1_waysTo 21 = .ok (.iload_n 3, 1) := by decide +kernel
theorem dX1_waysTo_22 : decode cX1_waysTo 22 = .ok (.invokevirtual 51, 3) := by decide +kernel
theorem dX1_waysTo_25 : decode cX1_waysTo 25 = .ok (.lload 4, 2) := by decide +kernel
theorem dX1_waysTo_27 : decode cX1_waysTo 27 = .ok (.lcmp, 1) := by decide +kernel
theorem dX1_waysTo_28 : decode cX1_waysTo 28 = .ok (.ifCond .ne 19, 3) := by decide +kernel
theorem dX1_waysTo_31 : decode cX1_waysTo 31 = .ok (.lload 6, 2) := by decide +kernel
theorem dX1_waysTo_33 : decode cX1_waysTo 33 = .ok (.aload_n 0, 1) := by decide +kernel
theorem dX1_waysTo_34 : decode cX1_waysTo 34 = .ok (.getfield 21, 3) := by decide +kernel
theorem dX1_waysTo_37 : decode cX1_waysTo 37 = .ok (.iload_n 2, 1) := by decide +kernel
theorem dX1_waysTo_38 : decode cX1_waysTo 38 = .ok (.iconst 1, 1) := by decide +kernel
theorem dX1_waysTo_39 : decode cX1_waysTo 39 = .ok (.isub, 1) := by decide +kernel
theorem dX1_waysTo_40 : decode cX1_waysTo 40 = .ok (.iload_n 3, 1) := by decide +kernel
theorem dX1_waysTo_41 : decode cX1_waysTo 41 = .ok (.invokevirtual 51, 3) := by decide +kernel
theorem dX1_waysTo_44 : decode cX1_waysTo 44 = .ok (.ladd, 1) := by decide +kernel
theorem dX1_waysTo_45 : decode cX1_waysTo 45 = .ok (.lstore 6, 2) := by decide +kernel
theorem dX1_waysTo_47 : decode cX1_waysTo 47 = .ok (.aload_n 0, 1) := by decide +kernel
theorem dX1_waysTo_48 : decode cX1_waysTo 48 = .ok (.getfield 12, 3) := by decide +kernel
theorem dX1_waysTo_51 : decode cX1_waysTo 51 = .ok (.iload_n 2, 1) := by decide +kernel
theorem dX1_waysTo_52 : decode cX1_waysTo 52 = .ok (.iload_n 3, 1) := by decide +kernel
theorem dX1_waysTo_53 : decode cX1_waysTo 53 = .ok (.iconst 1, 1) := by decide +kernel
theorem dX1_waysTo_54 : decode cX1_waysTo 54 = .ok (.isub, 1) := by decide +kernel
theorem dX1_waysTo_55 : decode cX1_waysTo 55 = .ok (.invokevirtual 51, 3) := by decide +kernel
theorem dX1_waysTo_58 : decode cX1_waysTo 58 = .ok (.lload 4, 2) := by decide +kernel
theorem dX1_waysTo_60 : decode cX1_waysTo 60 = .ok (.lcmp, 1) := by decide +kernel
theorem dX1_waysTo_61 : decode cX1_waysTo 61 = .ok (.ifCond .ne 19, 3) := by decide +kernel
theorem dX1_waysTo_64 : decode cX1_waysTo 64 = .ok (.lload 6, 2) := by decide +kernel
theorem dX1_waysTo_66 : decode cX1_waysTo 66 = .ok (.aload_n 0, 1) := by decide +kernel
theorem dX1_waysTo_67 : decode cX1_waysTo 67 = .ok (.getfield 21, 3) := by decide +kernel
theorem dX1_waysTo_70 : decode cX1_waysTo 70 = .ok (.iload_n 2, 1) := by decide +kernel
theorem dX1_waysTo_71 : decode cX1_waysTo 71 = .ok (.iload_n 3, 1) := by decide +kernel
theorem dX1_waysTo_72 : decode cX1_waysTo 72 = .ok (.iconst 1, 1) := by decide +kernel
theorem dX1_waysTo_73 : decode cX1_waysTo 73 = .ok (.isub, 1) := by decide +kernel
theorem dX1_waysTo_74 : decode cX1_waysTo 74 = .ok (.invokevirtual 51, 3) := by decide +kernel
theorem dX1_waysTo_77 : decode cX1_waysTo 77 = .ok (.ladd, 1) := by decide +kernel
theorem dX1_waysTo_78 : decode cX1_waysTo 78 = .ok (.lstore 6, 2) := by decide +kernel
theorem dX1_waysTo_80 : decode cX1_waysTo 80 = .ok (.aload_n 1, 1) := by decide +kernel
theorem dX1_waysTo_81 : decode cX1_waysTo 81 = .ok (.iload_n 2, 1) := by decide +kernel
theorem dX1_waysTo_82 : decode cX1_waysTo 82 = .ok (.iconst 1, 1) := by decide +kernel
theorem dX1_waysTo_83 : decode cX1_waysTo 83 = .ok (.isub, 1) := by decide +kernel
theorem dX1_waysTo_84 : decode cX1_waysTo 84 = .ok (.iload_n 3, 1) := by decide +kernel
theorem dX1_waysTo_85 : decode cX1_waysTo 85 = .ok (.iconst 1, 1) := by decide +kernel
theorem dX1_waysTo_86 : decode cX1_waysTo 86 = .ok (.isub, 1) := by decide +kernel
theorem dX1_waysTo_87 : decode cX1_waysTo 87 = .ok (.invokevirtual 71, 3) := by decide +kernel
theorem dX1_waysTo_90 : decode cX1_waysTo 90 = .ok (.ifCond .eq 21, 3) := by decide +kernel
theorem dX1_waysTo_93 : decode cX1_waysTo 93 = .ok (.lload 6, 2) := by decide +kernel
theorem dX1_waysTo_95 : decode cX1_waysTo 95 = .ok (.aload_n 0, 1) := by decide +kernel
theorem dX1_waysTo_96 : decode cX1_waysTo 96 = .ok (.getfield 21, 3) := by decide +kernel
theorem dX1_waysTo_99 : decode cX1_waysTo 99 = .ok (.iload_n 2, 1) := by decide +kernel
theorem dX1_waysTo_100 : decode cX1_waysTo 100 = .ok (.iconst 1, 1) := by decide +kernel
theorem dX1_waysTo_101 : decode cX1_waysTo 101 = .ok (.isub, 1) := by decide +kernel
theorem dX1_waysTo_102 : decode cX1_waysTo 102 = .ok (.iload_n 3, 1) := by decide +kernel
theorem dX1_waysTo_103 : decode cX1_waysTo 103 = .ok (.iconst 1, 1) := by decide +kernel
theorem dX1_waysTo_104 : decode cX1_waysTo 104 = .ok (.isub, 1) := by decide +kernel
theorem dX1_waysTo_105 : decode cX1_waysTo 105 = .ok (.invokevirtual 51, 3) := by decide +kernel
theorem dX1_waysTo_108 : decode cX1_waysTo 108 = .ok (.ladd, 1) := by decide +kernel
theorem dX1_waysTo_109 : decode cX1_waysTo 109 = .ok (.lstore 6, 2) := by decide +kernel
theorem dX1_waysTo_111 : decode cX1_waysTo 111 = .ok (.lload 6, 2) := by decide +kernel
theorem dX1_waysTo_113 : decode cX1_waysTo 113 = .ok (.lreturn, 1) := by decide +kernel
theorem dX1_commonWith_0 : decode cX1_commonWith 0 = .ok (.lconst 0, 1) := by decide +kernel
theorem dX1_commonWith_1 : decode cX1_commonWith 1 = .ok (.lstore 4, 2) := by decide +kernel
theorem dX1_commonWith_3 : decode cX1_commonWith 3 = .ok (.iconst 0, 1) := by decide +kernel
theorem dX1_commonWith_4 : decode cX1_commonWith 4 = .ok (.istore 6, 2) := by decide +kernel
theorem dX1_commonWith_6 : decode cX1_commonWith 6 = .ok (.iload 6, 2) := by decide +kernel
theorem dX1_commonWith_8 : decode cX1_commonWith 8 = .ok (.aload_n 1, 1) := by decide +kernel
theorem dX1_commonWith_9 : decode cX1_commonWith 9 = .ok (.getfield 40, 3) := by decide +kernel
theorem dX1_commonWith_12 : decode cX1_commonWith 12 = .ok (.getfield 34, 3) := by decide +kernel
theorem dX1_commonWith_15 : decode cX1_commonWith 15 = .ok (.if_icmp .ge 56, 3) := by decide +kernel
theorem dX1_commonWith_18 : decode cX1_commonWith 18 = .ok (.aload_n 1, 1) := by decide +kernel
theorem dX1_commonWith_19 : decode cX1_commonWith 19 = .ok (.getfield 40, 3) := by decide +kernel
theorem dX1_commonWith_22 : decode cX1_commonWith 22 = .ok (.iload 6, 2) := by decide +kernel
theorem dX1_commonWith_24 : decode cX1_commonWith 24 = .ok (.invokevirtual 84, 3) := by decide +kernel
theorem dX1_commonWith_27 : decode cX1_commonWith 27 = .ok (.iload_n 3, 1) := by decide +kernel
theorem dX1_commonWith_28 : decode cX1_commonWith 28 = .ok (.if_icmp .ne 37, 3) := by decide +kernel
theorem dX1_commonWith_31 : decode cX1_commonWith 31 = .ok (.lload 4, 2) := by decide +kernel
theorem dX1_commonWith_33 : decode cX1_commonWith 33 = .ok (.aload_n 0, 1) := by decide +kernel
theorem dX1_commonWith_34 : decode cX1_commonWith 34 = .ok (.getfield 12, 3) := by decide +kernel
theorem dX1_commonWith_37 : decode cX1_commonWith 37 = .ok (.iload_n 2, 1) := by decide +kernel
theorem dX1_commonWith_38 : decode cX1_commonWith 38 = .ok (.iload 6, 2) := by decide +kernel
theorem dX1_commonWith_40 : decode cX1_commonWith 40 = .ok (.invokevirtual 51, 3) := by decide +kernel
theorem dX1_commonWith_43 : decode cX1_commonWith 43 = .ok (.lconst 1, 1) := by decide +kernel
theorem dX1_commonWith_44 : decode cX1_commonWith 44 = .ok (.ladd, 1) := by decide +kernel
theorem dX1_commonWith_45 : decode cX1_commonWith 45 = .ok (.aload_n 0, 1) := by decide +kernel
theorem dX1_commonWith_46 : decode cX1_commonWith 46 = .ok (.getfield 18, 3) := by decide +kernel
theorem dX1_commonWith_49 : decode cX1_commonWith 49 = .ok (.iload_n 2, 1) := by decide +kernel
theorem dX1_commonWith_50 : decode cX1_commonWith 50 = .ok (.iconst 1, 1) := by decide +kernel
theorem dX1_commonWith_51 : decode cX1_commonWith 51 = .ok (.iadd, 1) := by decide +kernel
theorem dX1_commonWith_52 : decode cX1_commonWith 52 = .ok (.iload 6, 2) := by decide +kernel
theorem dX1_commonWith_54 : decode cX1_commonWith 54 = .ok (.iconst 1, 1) := by decide +kernel
theorem dX1_commonWith_55 : decode cX1_commonWith 55 = .ok (.iadd, 1) := by decide +kernel
theorem dX1_commonWith_56 : decode cX1_commonWith 56 = .ok (.invokevirtual 51, 3) := by decide +kernel
theorem dX1_commonWith_59 : decode cX1_commonWith 59 = .ok (.ladd, 1) := by decide +kernel
theorem dX1_commonWith_60 : decode cX1_commonWith 60 = .ok (.invokestatic 75, 3) := by decide +kernel
theorem dX1_commonWith_63 : decode cX1_commonWith 63 = .ok (.lstore 4, 2) := by decide +kernel
theorem dX1_commonWith_65 : decode cX1_commonWith 65 = .ok (.iinc 6 1, 3) := by decide +kernel
theorem dX1_commonWith_68 : decode cX1_commonWith 68 = .ok (.goto (-62), 3) := by decide +kernel
theorem dX1_commonWith_71 : decode cX1_commonWith 71 = .ok (.lload 4, 2) := by decide +kernel
theorem dX1_commonWith_73 : decode cX1_commonWith 73 = .ok (.l2i, 1) := by decide +kernel
theorem dX1_commonWith_74 : decode cX1_commonWith 74 = .ok (.ireturn, 1) := by decide +kernel
theorem dX2_init_0 : decode cX2_init 0 = .ok (.aload_n 0, 1) := by decide +kernel
theorem dX2_init_1 : decode cX2_init 1 = .ok (.invokespecial 3, 3) := by decide +kernel
theorem dX2_init_4 : decode cX2_init 4 = .ok (.aload_n 0, 1) := by decide +kernel
theorem dX2_init_5 : decode cX2_init 5 = .ok (.sipush 841, 3) := by decide +kernel
theorem dX2_init_8 : decode cX2_init 8 = .ok (.newarray .long, 2) := by decide +kernel
theorem dX2_init_10 : decode cX2_init 10 = .ok (.putfield 9, 3) := by decide +kernel
theorem dX2_init_13 : decode cX2_init 13 = .ok (.return_, 1) := by decide +kernel
theorem dX2_at_0 : decode cX2_at 0 = .ok (.iload_n 1, 1) := by decide +kernel
theorem dX2_at_1 : decode cX2_at 1 = .ok (.iload_n 2, 1) := by decide +kernel
theorem dX2_at_2 : decode cX2_at 2 = .ok (.invokestatic 15, 3) := by decide +kernel
theorem dX2_at_5 : decode cX2_at 5 = .ok (.ifCond .eq 17, 3) := by decide +kernel
theorem dX2_at_8 : decode cX2_at 8 = .ok (.aload_n 0, 1) := by decide +kernel
theorem dX2_at_9 : decode cX2_at 9 = .ok (.getfield 9, 3) := by decide +kernel
theorem dX2_at_12 : decode cX2_at 12 = .ok (.iload_n 1, 1) := by decide +kernel
theorem dX2_at_13 : decode cX2_at 13 = .ok (.bipush 29, 2) := by decide +kernel
theorem dX2_at_15 : decode cX2_at 15 = .ok (.imul, 1) := by decide +kernel
theorem dX2_at_16 : decode cX2_at 16 = .ok (.iload_n 2, 1) := by decide +kernel
theorem dX2_at_17 : decode cX2_at 17 = .ok (.iadd, 1) := by decide +kernel
theorem dX2_at_18 : decode cX2_at 18 = .ok (.laload, 1) := by decide +kernel
theorem dX2_at_19 : decode cX2_at 19 = .ok (.goto 4, 3) := by decide +kernel
theorem dX2_at_22 : decode cX2_at 22 = .ok (.lconst 0, 1) := by decide +kernel
theorem dX2_at_23 : decode cX2_at 23 = .ok (.lreturn, 1) := by decide +kernel
theorem dX2_put_0 : decode cX2_put 0 = .ok (.iload_n 1, 1) := by decide +kernel
theorem dX2_put_1 : decode cX2_put 1 = .ok (.iload_n 2, 1) := by decide +kernel
theorem dX2_put_2 : decode cX2_put 2 = .ok (.invokestatic 15, 3) := by decide +kernel
theorem dX2_put_5 : decode cX2_put 5 = .ok (.ifCond .eq 15, 3) := by decide +kernel
theorem dX2_put_8 : decode cX2_put 8 = .ok (.aload_n 0, 1) := by decide +kernel
theorem dX2_put_9 : decode cX2_put 9 = .ok (.getfield 9, 3) := by decide +kernel
theorem dX2_put_12 : decode cX2_put 12 = .ok (.iload_n 1, 1) := by decide +kernel
theorem dX2_put_13 : decode cX2_put 13 = .ok (.bipush 29, 2) := by decide +kernel
theorem dX2_put_15 : decode cX2_put 15 = .ok (.imul, 1) := by decide +kernel
theorem dX2_put_16 : decode cX2_put 16 = .ok (.iload_n 2, 1) := by decide +kernel
theorem dX2_put_17 : decode cX2_put 17 = .ok (.iadd, 1) := by decide +kernel
theorem dX2_put_18 : decode cX2_put 18 = .ok (.lload_n 3, 1) := by decide +kernel
theorem dX2_put_19 : decode cX2_put 19 = .ok (.lastore, 1) := by decide +kernel
theorem dX2_put_20 : decode cX2_put 20 = .ok (.return_, 1) := by decide +kernel
theorem dX2_isInside_0 : decode cX2_isInside 0 = .ok (.iload_n 0, 1) := by decide +kernel
theorem dX2_isInside_1 : decode cX2_isInside 1 = .ok (.iconst 0, 1) := by decide +kernel
theorem dX2_isInside_2 : decode cX2_isInside 2 = .ok (.bipush 28, 2) := by decide +kernel
theorem dX2_isInside_4 : decode cX2_isInside 4 = .ok (.invokestatic 19, 3) := by decide +kernel
theorem dX2_isInside_7 : decode cX2_isInside 7 = .ok (.ifCond .eq 17, 3) := by decide +kernel
theorem dX2_isInside_10 : decode cX2_isInside 10 = .ok (.iload_n 1, 1) := by decide +kernel
theorem dX2_isInside_11 : decode cX2_isInside 11 = .ok (.iconst 0, 1) := by decide +kernel
theorem dX2_isInside_12 : decode cX2_isInside 12 = .ok (.bipush 28, 2) := by decide +kernel
theorem dX2_isInside_14 : decode cX2_isInside 14 = .ok (.invokestatic 19, 3) := by decide +kernel
theorem dX2_isInside_17 : decode cX2_isInside 17 = .ok (.ifCond .eq 7, 3) := by decide +kernel
theorem dX2_isInside_20 : decode cX2_isInside 20 = .ok (.iconst 1, 1) := by decide +kernel
theorem dX2_isInside_21 : decode cX2_isInside 21 = .ok (.goto 4, 3) := by decide +kernel
theorem dX2_isInside_24 : decode cX2_isInside 24 = .ok (.iconst 0, 1) := by decide +kernel
theorem dX2_isInside_25 : decode cX2_isInside 25 = .ok (.ireturn, 1) := by decide +kernel
theorem dX3_init_0 : decode cX3_init 0 = .ok (.aload_n 0, 1) := by decide +kernel
theorem dX3_init_1 : decode cX3_init 1 = .ok (.invokespecial 3, 3) := by decide +kernel
theorem dX3_init_4 : decode cX3_init 4 = .ok (.aload_n 0, 1) := by decide +kernel
theorem dX3_init_5 : decode cX3_init 5 = .ok (.iconst 4, 1) := by decide +kernel
theorem dX3_init_6 : decode cX3_init 6 = .ok (.anewarray 9, 3) := by decide +kernel
theorem dX3_init_9 : decode cX3_init 9 = .ok (.putfield 11, 3) := by decide +kernel
theorem dX3_init_12 : decode cX3_init 12 = .ok (.iconst 0, 1) := by decide +kernel
theorem dX3_init_13 : decode cX3_init 13 = .ok (.istore_n 1, 1) := by decide +kernel
theorem dX3_init_14 : decode cX3_init 14 = .ok (.iload_n 1, 1) := by decide +kernel
theorem dX3_init_15 : decode cX3_init 15 = .ok (.iconst 4, 1) := by decide +kernel
theorem dX3_init_16 : decode cX3_init 16 = .ok (.if_icmp .ge 22, 3) := by decide +kernel
theorem dX3_init_19 : decode cX3_init 19 = .ok (.aload_n 0, 1) := by decide +kernel
theorem dX3_init_20 : decode cX3_init 20 = .ok (.getfield 11, 3) := by decide +kernel
theorem dX3_init_23 : decode cX3_init 23 = .ok (.iload_n 1, 1) := by decide +kernel
theorem dX3_init_24 : decode cX3_init 24 = .ok (.new 9, 3) := by decide +kernel
theorem dX3_init_27 : decode cX3_init 27 = .ok (.dup, 1) := by decide +kernel
theorem dX3_init_28 : decode cX3_init 28 = .ok (.invokespecial 17, 3) := by decide +kernel
theorem dX3_init_31 : decode cX3_init 31 = .ok (.aastore, 1) := by decide +kernel
theorem dX3_init_32 : decode cX3_init 32 = .ok (.iinc 1 1, 3) := by decide +kernel
theorem dX3_init_35 : decode cX3_init 35 = .ok (.goto (-21), 3) := by decide +kernel
theorem dX3_init_38 : decode cX3_init 38 = .ok (.return_, 1) := by decide +kernel
theorem dX3_record_0 : decode cX3_record 0 = .ok (.aload_n 0, 1) := by decide +kernel
theorem dX3_record_1 : decode cX3_record 1 = .ok (.getfield 18, 3) := by decide +kernel
theorem dX3_record_4 : decode cX3_record 4 = .ok (.iconst 4, 1) := by decide +kernel
theorem dX3_record_5 : decode cX3_record 5 = .ok (.if_icmp .lt 7, 3) := by decide +kernel
theorem dX3_record_8 : decode cX3_record 8 = .ok (.aload_n 0, 1) := by decide +kernel
theorem dX3_record_9 : decode cX3_record 9 = .ok (.invokevirtual 22, 3) := by decide +kernel
theorem dX3_record_12 : decode cX3_record 12 = .ok (.aload_n 0, 1) := by decide +kernel
theorem dX3_record_13 : decode cX3_record 13 = .ok (.getfield 18, 3) := by decide +kernel
theorem dX3_record_16 : decode cX3_record 16 = .ok (.ifCond .lt 34, 3) := by decide +kernel
theorem dX3_record_19 : decode cX3_record 19 = .ok (.aload_n 0, 1) := by decide +kernel
theorem dX3_record_20 : decode cX3_record 20 = .ok (.getfield 18, 3) := by decide +kernel
theorem dX3_record_23 : decode cX3_record 23 = .ok (.iconst 4, 1) := by decide +kernel
theorem dX3_record_24 : decode cX3_record 24 = .ok (.if_icmp .ge 26, 3) := by decide +kernel
theorem dX3_record_27 : decode cX3_record 27 = .ok (.aload_n 0, 1) := by decide +kernel
theorem dX3_record_28 : decode cX3_record 28 = .ok (.getfield 11, 3) := by decide +kernel
theorem dX3_record_31 : decode cX3_record 31 = .ok (.aload_n 0, 1) := by decide +kernel
theorem dX3_record_32 : decode cX3_record 32 = .ok (.getfield 18, 3) := by decide +kernel
theorem dX3_record_35 : decode cX3_record 35 = .ok (.aaload, 1) := by decide +kernel
theorem dX3_record_36 : decode cX3_record 36 = .ok (.aload_n 1, 1) := by decide +kernel
theorem dX3_record_37 : decode cX3_record 37 = .ok (.invokevirtual 25, 3) := by decide +kernel
theorem dX3_record_40 : decode cX3_record 40 = .ok (.aload_n 0, 1) := by decide +kernel
theorem dX3_record_41 : decode cX3_record 41 = .ok (.dup, 1) := by decide +kernel
theorem dX3_record_42 : decode cX3_record 42 = .ok (.getfield 18, 3) := by decide +kernel
theorem dX3_record_45 : decode cX3_record 45 = .ok (.iconst 1, 1) := by decide +kernel
theorem dX3_record_46 : decode cX3_record 46 = .ok (.iadd, 1) := by decide +kernel
theorem dX3_record_47 : decode cX3_record 47 = .ok (.putfield 18, 3) := by decide +kernel
theorem dX3_record_50 : decode cX3_record 50 = .ok (.return_, 1) := by decide +kernel
theorem dX3_restoreTo_0 : decode cX3_restoreTo 0 = .ok (.aload_n 0, 1) := by decide +kernel
theorem dX3_restoreTo_1 : decode cX3_restoreTo 1 = .ok (.getfield 18, 3) := by decide +kernel
theorem dX3_restoreTo_4 : decode cX3_restoreTo 4 = .ok (.ifCond .le 34, 3) := by decide +kernel
theorem dX3_restoreTo_7 : decode cX3_restoreTo 7 = .ok (.aload_n 0, 1) := by decide +kernel
theorem dX3_restoreTo_8 : decode cX3_restoreTo 8 = .ok (.getfield 18, 3) := by decide +kernel
theorem dX3_restoreTo_11 : decode cX3_restoreTo 11 = .ok (.iconst 4, 1) := by decide +kernel
theorem dX3_restoreTo_12 : decode cX3_restoreTo 12 = .ok (.if_icmp .gt 26, 3) := by decide +kernel
theorem dX3_restoreTo_15 : decode cX3_restoreTo 15 = .ok (.aload_n 0, 1) := by decide +kernel
theorem dX3_restoreTo_16 : decode cX3_restoreTo 16 = .ok (.dup, 1) := by decide +kernel
theorem dX3_restoreTo_17 : decode cX3_restoreTo 17 = .ok (.getfield 18, 3) := by decide +kernel
theorem dX3_restoreTo_20 : decode cX3_restoreTo 20 = .ok (.iconst 1, 1) := by decide +kernel
theorem dX3_restoreTo_21 : decode cX3_restoreTo 21 = .ok (.isub, 1) := by decide +kernel
theorem dX3_restoreTo_22 : decode cX3_restoreTo 22 = .ok (.putfield 18, 3) := by decide +kernel
theorem dX3_restoreTo_25 : decode cX3_restoreTo 25 = .ok (.aload_n 1, 1) := by decide +kernel
theorem dX3_restoreTo_26 : decode cX3_restoreTo 26 = .ok (.aload_n 0, 1) := by decide +kernel
theorem dX3_restoreTo_27 : decode cX3_restoreTo 27 = .ok (.getfield 11, 3) := by decide +kernel
theorem dX3_restoreTo_30 : decode cX3_restoreTo 30 = .ok (.aload_n 0, 1) := by decide +kernel
theorem dX3_restoreTo_31 : decode cX3_restoreTo 31 = .ok (.getfield 18, 3) := by decide +kernel
theorem dX3_restoreTo_34 : decode cX3_restoreTo 34 = .ok (.aaload, 1) := by decide +kernel
theorem dX3_restoreTo_35 : decode cX3_restoreTo 35 = .ok (.invokevirtual 25, 3) := by decide +kernel
theorem dX3_restoreTo_38 : decode cX3_restoreTo 38 = .ok (.return_, 1) := by decide +kernel
theorem dX3_dropOldest_0 : decode cX3_dropOldest 0 = .ok (.aload_n 0, 1) := by decide +kernel
theorem dX3_dropOldest_1 : decode cX3_dropOldest 1 = .ok (.getfield 11, 3) := by decide +kernel
theorem dX3_dropOldest_4 : decode cX3_dropOldest 4 = .ok (.iconst 0, 1) := by decide +kernel
theorem dX3_dropOldest_5 : decode cX3_dropOldest 5 = .ok (.aaload, 1) := by decide +kernel
theorem dX3_dropOldest_6 : decode cX3_dropOldest 6 = .ok (.astore_n 1, 1) := by decide +kernel
theorem dX3_dropOldest_7 : decode cX3_dropOldest 7 = .ok (.iconst 1, 1) := by decide +kernel
theorem dX3_dropOldest_8 : decode cX3_dropOldest 8 = .ok (.istore_n 2, 1) := by decide +kernel
theorem dX3_dropOldest_9 : decode cX3_dropOldest 9 = .ok (.iload_n 2, 1) := by decide +kernel
theorem dX3_dropOldest_10 : decode cX3_dropOldest 10 = .ok (.iconst 4, 1) := by decide +kernel
theorem dX3_dropOldest_11 : decode cX3_dropOldest 11 = .ok (.if_icmp .ge 23, 3) := by decide +kernel
theorem dX3_dropOldest_14 : decode cX3_dropOldest 14 = .ok (.aload_n 0, 1) := by decide +kernel
theorem dX3_dropOldest_15 : decode cX3_dropOldest 15 = .ok (.getfield 11, 3) := by decide +kernel
theorem dX3_dropOldest_18 : decode cX3_dropOldest 18 = .ok (.iload_n 2, 1) := by decide +kernel
theorem dX3_dropOldest_19 : decode cX3_dropOldest 19 = .ok (.iconst 1, 1) := by decide +kernel
theorem dX3_dropOldest_20 : decode cX3_dropOldest 20 = .ok (.isub, 1) := by decide +kernel
theorem dX3_dropOldest_21 : decode cX3_dropOldest 21 = .ok (.aload_n 0, 1) := by decide +kernel
theorem dX3_dropOldest_22 : decode cX3_dropOldest 22 = .ok (.getfield 11, 3) := by decide +kernel
theorem dX3_dropOldest_25 : decode cX3_dropOldest 25 = .ok (.iload_n 2, 1) := by decide +kernel
theorem dX3_dropOldest_26 : decode cX3_dropOldest 26 = .ok (.aaload, 1) := by decide +kernel
theorem dX3_dropOldest_27 : decode cX3_dropOldest 27 = .ok (.aastore, 1) := by decide +kernel
theorem dX3_dropOldest_28 : decode cX3_dropOldest 28 = .ok (.iinc 2 1, 3) := by decide +kernel
theorem dX3_dropOldest_31 : decode cX3_dropOldest 31 = .ok (.goto (-22), 3) := by decide +kernel
theorem dX3_dropOldest_34 : decode cX3_dropOldest 34 = .ok (.aload_n 0, 1) := by decide +kernel
theorem dX3_dropOldest_35 : decode cX3_dropOldest 35 = .ok (.getfield 11, 3) := by decide +kernel
theorem dX3_dropOldest_38 : decode cX3_dropOldest 38 = .ok (.iconst 3, 1) := by decide +kernel
theorem dX3_dropOldest_39 : decode cX3_dropOldest 39 = .ok (.aload_n 1, 1) := by decide +kernel
theorem dX3_dropOldest_40 : decode cX3_dropOldest 40 = .ok (.aastore, 1) := by decide +kernel
theorem dX3_dropOldest_41 : decode cX3_dropOldest 41 = .ok (.aload_n 0, 1) := by decide +kernel
theorem dX3_dropOldest_42 : decode cX3_dropOldest 42 = .ok (.iconst 3, 1) := by decide +kernel
theorem dX3_dropOldest_43 : decode cX3_dropOldest 43 = .ok (.putfield 18, 3) := by decide +kernel
theorem dX3_dropOldest_46 : decode cX3_dropOldest 46 = .ok (.return_, 1) := by decide +kernel
theorem dX4_init_0 : decode cX4_init 0 = .ok (.aload_n 0, 1) := by decide +kernel
theorem dX4_init_1 : decode cX4_init 1 = .ok (.invokespecial 3, 3) := by decide +kernel
theorem dX4_init_4 : decode cX4_init 4 = .ok (.aload_n 0, 1) := by decide +kernel
theorem dX4_init_5 : decode cX4_init 5 = .ok (.bipush 56, 2) := by decide +kernel
theorem dX4_init_7 : decode cX4_init 7 = .ok (.newarray .int, 2) := by decide +kernel
theorem dX4_init_9 : decode cX4_init 9 = .ok (.putfield 9, 3) := by decide +kernel
theorem dX4_init_12 : decode cX4_init 12 = .ok (.aload_n 0, 1) := by decide +kernel
theorem dX4_init_13 : decode cX4_init 13 = .ok (.bipush 56, 2) := by decide +kernel
theorem dX4_init_15 : decode cX4_init 15 = .ok (.newarray .int, 2) := by decide +kernel
theorem dX4_init_17 : decode cX4_init 17 = .ok (.putfield 15, 3) := by decide +kernel
theorem dX4_init_20 : decode cX4_init 20 = .ok (.aload_n 0, 1) := by decide +kernel
theorem dX4_init_21 : decode cX4_init 21 = .ok (.bipush 56, 2) := by decide +kernel
theorem dX4_init_23 : decode cX4_init 23 = .ok (.newarray .int, 2) := by decide +kernel
theorem dX4_init_25 : decode cX4_init 25 = .ok (.putfield 18, 3) := by decide +kernel
theorem dX4_init_28 : decode cX4_init 28 = .ok (.return_, 1) := by decide +kernel
theorem dX4_find_0 : decode cX4_find 0 = .ok (.aload_n 0, 1) := by decide +kernel
theorem dX4_find_1 : decode cX4_find 1 = .ok (.iconst 0, 1) := by decide +kernel
theorem dX4_find_2 : decode cX4_find 2 = .ok (.putfield 21, 3) := by decide +kernel
theorem dX4_find_5 : decode cX4_find 5 = .ok (.iconst (-1), 1) := by decide +kernel
theorem dX4_find_6 : decode cX4_find 6 = .ok (.istore_n 3, 1) := by decide +kernel
theorem dX4_find_7 : decode cX4_find 7 = .ok (.iconst 0, 1) := by decide +kernel
theorem dX4_find_8 : decode cX4_find 8 = .ok (.istore 4, 2) := by decide +kernel
theorem dX4_find_10 : decode cX4_find 10 = .ok (.iload 4, 2) := by decide +kernel
theorem dX4_find_12 : decode cX4_find 12 = .ok (.aload_n 1, 1) := by decide +kernel
theorem dX4_find_13 : decode cX4_find 13 = .ok (.getfield 25, 3) := by decide +kernel
theorem dX4_find_16 : decode cX4_find 16 = .ok (.if_icmp .ge 69, 3) := by decide +kernel
theorem dX4_find_19 : decode cX4_find 19 = .ok (.aload_n 1, 1) := by decide +kernel
theorem dX4_find_20 : decode cX4_find 20 = .ok (.iload 4, 2) := by decide +kernel
theorem dX4_find_22 : decode cX4_find 22 = .ok (.invokevirtual 30, 3) := by decide +kernel
theorem dX4_find_25 : decode cX4_find 25 = .ok (.ifCond .eq 54, 3) := by decide +kernel
theorem dX4_find_28 : decode cX4_find 28 = .ok (.aload_n 0, 1) := by decide +kernel
theorem dX4_find_29 : decode cX4_find 29 = .ok (.getfield 21, 3) := by decide +kernel
theorem dX4_find_32 : decode cX4_find 32 = .ok (.ifCond .eq 15, 3) := by decide +kernel
theorem dX4_find_35 : decode cX4_find 35 = .ok (.iload 4, 2) := by decide +kernel
theorem dX4_find_37 : decode cX4_find 37 = .ok (.iload_n 3, 1) := by decide +kernel
theorem dX4_find_38 : decode cX4_find 38 = .ok (.isub, 1) := by decide +kernel
theorem dX4_find_39 : decode cX4_find 39 = .ok (.iconst 1, 1) := by decide +kernel
theorem dX4_find_40 : decode cX4_find 40 = .ok (.isub, 1) := by decide +kernel
theorem dX4_find_41 : decode cX4_find 41 = .ok (.iconst 2, 1) := by decide +kernel
theorem dX4_find_42 : decode cX4_find 42 = .ok (.iload_n 2, 1) := by decide +kernel
theorem dX4_find_43 : decode cX4_find 43 = .ok (.imul, 1) := by decide +kernel
theorem dX4_find_44 : decode cX4_find 44 = .ok (.if_icmp .le 15, 3) := by decide +kernel
theorem dX4_find_47 : decode cX4_find 47 = .ok (.aload_n 0, 1) := by decide +kernel
theorem dX4_find_48 : decode cX4_find 48 = .ok (.iload 4, 2) := by decide +kernel
theorem dX4_find_50 : decode cX4_find 50 = .ok (.iload_n 2, 1) := by decide +kernel
theorem dX4_find_51 : decode cX4_find 51 = .ok (.isub, 1) := by decide +kernel
theorem dX4_find_52 : decode cX4_find 52 = .ok (.iconst 0, 1) := by decide +kernel
theorem dX4_find_53 : decode cX4_find 53 = .ok (.invokestatic 34, 3) := by decide +kernel
theorem dX4_find_56 : decode cX4_find 56 = .ok (.invokevirtual 40, 3) := by decide +kernel
theorem dX4_find_59 : decode cX4_find 59 = .ok (.iload 4, 2) := by decide +kernel
theorem dX4_find_61 : decode cX4_find 61 = .ok (.istore_n 3, 1) := by decide +kernel
theorem dX4_find_62 : decode cX4_find 62 = .ok (.aload_n 0, 1) := by decide +kernel
theorem dX4_find_63 : decode cX4_find 63 = .ok (.iload 4, 2) := by decide +kernel
theorem dX4_find_65 : decode cX4_find 65 = .ok (.iconst 1, 1) := by decide +kernel
theorem dX4_find_66 : decode cX4_find 66 = .ok (.iadd, 1) := by decide +kernel
theorem dX4_find_67 : decode cX4_find 67 = .ok (.iload_n 2, 1) := by decide +kernel
theorem dX4_find_68 : decode cX4_find 68 = .ok (.iadd, 1) := by decide +kernel
theorem dX4_find_69 : decode cX4_find 69 = .ok (.aload_n 1, 1) := by decide +kernel
theorem dX4_find_70 : decode cX4_find 70 = .ok (.getfield 25, 3) := by decide +kernel
theorem dX4_find_73 : decode cX4_find 73 = .ok (.invokestatic 44, 3) := by decide +kernel
theorem dX4_find_76 : decode cX4_find 76 = .ok (.invokevirtual 47, 3) := by decide +kernel
theorem dX4_find_79 : decode cX4_find 79 = .ok (.iinc 4 1, 3) := by decide +kernel
theorem dX4_find_82 : decode cX4_find 82 = .ok (.goto (-72), 3) := by decide +kernel
theorem dX4_find_85 : decode cX4_find 85 = .ok (.return_, 1) := by decide +kernel
theorem dX4_beginOf_0 : decode cX4_beginOf 0 = .ok (.iload_n 1, 1) := by decide +kernel
theorem dX4_beginOf_1 : decode cX4_beginOf 1 = .ok (.ifCond .lt 29, 3) := by decide +kernel
theorem dX4_beginOf_4 : decode cX4_beginOf 4 = .ok (.iload_n 1, 1) := by decide +kernel
theorem dX4_beginOf_5 : decode cX4_beginOf 5 = .ok (.aload_n 0, 1) := by decide +kernel
theorem dX4_beginOf_6 : decode cX4_beginOf 6 = .ok (.getfield 21, 3) := by decide +kernel
theorem dX4_beginOf_9 : decode cX4_beginOf 9 = .ok (.if_icmp .ge 21, 3) := by decide +kernel
theorem dX4_beginOf_12 : decode cX4_beginOf 12 = .ok (.iload_n 1, 1) := by decide +kernel
theorem dX4_beginOf_13 : decode cX4_beginOf 13 = .ok (.aload_n 0, 1) := by decide +kernel
theorem dX4_beginOf_14 : decode cX4_beginOf 14 = .ok (.getfield 9, 3) := by decide +kernel
theorem dX4_beginOf_17 : decode cX4_beginOf 17 = .ok (.arraylength, 1) := by decide +kernel
theorem dX4_beginOf_18 : decode cX4_beginOf 18 = .ok (.if_icmp .ge 12, 3) := by decide +kernel
theorem dX4_beginOf_21 : decode cX4_beginOf 21 = .ok (.aload_n 0, 1) := by decide +kernel
theorem dX4_beginOf_22 : decode cX4_beginOf 22 = .ok (.getfield 9, 3) := by decide +kernel
theorem dX4_beginOf_25 : decode cX4_beginOf 25 = .ok (.iload_n 1, 1) := by decide +kernel
theorem dX4_beginOf_26 : decode cX4_beginOf 26 = .ok (.iaload, 1) := by decide +kernel
theorem dX4_beginOf_27 : decode cX4_beginOf 27 = .ok (.goto 4, 3) := by decide +kernel
theorem dX4_beginOf_30 : decode cX4_beginOf 30 = .ok (.iconst (-1), 1) := by decide +kernel
theorem dX4_beginOf_31 : decode cX4_beginOf 31 = .ok (.ireturn, 1) := by decide +kernel
theorem dX4_endOf_0 : decode cX4_endOf 0 = .ok (.iload_n 1, 1) := by decide +kernel
theorem dX4_endOf_1 : decode cX4_endOf 1 = .ok (.ifCond .lt 29, 3) := by decide +kernel
theorem dX4_endOf_4 : decode cX4_endOf 4 = .ok (.iload_n 1, 1) := by decide +kernel
theorem dX4_endOf_5 : decode cX4_endOf 5 = .ok (.aload_n 0, 1) := by decide +kernel
theorem dX4_endOf_6 : decode cX4_endOf 6 = .ok (.getfield 21, 3) := by decide +kernel
theorem dX4_endOf_9 : decode cX4_endOf 9 = .ok (.if_icmp .ge 21, 3) := by decide +kernel
theorem dX4_endOf_12 : decode cX4_endOf 12 = .ok (.iload_n 1, 1) := by decide +kernel
theorem dX4_endOf_13 : decode cX4_endOf 13 = .ok (.aload_n 0, 1) := by decide +kernel
theorem dX4_endOf_14 : decode cX4_endOf 14 = .ok (.getfield 15, 3) := by decide +kernel
theorem dX4_endOf_17 : decode cX4_endOf 17 = .ok (.arraylength, 1) := by decide +kernel
theorem dX4_endOf_18 : decode cX4_endOf 18 = .ok (.if_icmp .ge 12, 3) := by decide +kernel
theorem dX4_endOf_21 : decode cX4_endOf 21 = .ok (.aload_n 0, 1) := by decide +kernel
theorem dX4_endOf_22 : decode cX4_endOf 22 = .ok (.getfield 15, 3) := by decide +kernel
theorem dX4_endOf_25 : decode cX4_endOf 25 = .ok (.iload_n 1, 1) := by decide +kernel
theorem dX4_endOf_26 : decode cX4_endOf 26 = .ok (.iaload, 1) := by decide +kernel
theorem dX4_endOf_27 : decode cX4_endOf 27 = .ok (.goto 4, 3) := by decide +kernel
theorem dX4_endOf_30 : decode cX4_endOf 30 = .ok (.iconst (-1), 1) := by decide +kernel
theorem dX4_endOf_31 : decode cX4_endOf 31 = .ok (.ireturn, 1) := by decide +kernel
theorem dX4_editsOf_0 : decode cX4_editsOf 0 = .ok (.iload_n 1, 1) := by decide +kernel
theorem dX4_editsOf_1 : decode cX4_editsOf 1 = .ok (.ifCond .lt 29, 3) := by decide +kernel
theorem dX4_editsOf_4 : decode cX4_editsOf 4 = .ok (.iload_n 1, 1) := by decide +kernel
theorem dX4_editsOf_5 : decode cX4_editsOf 5 = .ok (.aload_n 0, 1) := by decide +kernel
theorem dX4_editsOf_6 : decode cX4_editsOf 6 = .ok (.getfield 21, 3) := by decide +kernel
theorem dX4_editsOf_9 : decode cX4_editsOf 9 = .ok (.if_icmp .ge 21, 3) := by decide +kernel
theorem dX4_editsOf_12 : decode cX4_editsOf 12 = .ok (.iload_n 1, 1) := by decide +kernel
theorem dX4_editsOf_13 : decode cX4_editsOf 13 = .ok (.aload_n 0, 1) := by decide +kernel
theorem dX4_editsOf_14 : decode cX4_editsOf 14 = .ok (.getfield 18, 3) := by decide +kernel
theorem dX4_editsOf_17 : decode cX4_editsOf 17 = .ok (.arraylength, 1) := by decide +kernel
theorem dX4_editsOf_18 : decode cX4_editsOf 18 = .ok (.if_icmp .ge 12, 3) := by decide +kernel
theorem dX4_editsOf_21 : decode cX4_editsOf 21 = .ok (.aload_n 0, 1) := by decide +kernel
theorem dX4_editsOf_22 : decode cX4_editsOf 22 = .ok (.getfield 18, 3) := by decide +kernel
theorem dX4_editsOf_25 : decode cX4_editsOf 25 = .ok (.iload_n 1, 1) := by decide +kernel
theorem dX4_editsOf_26 : decode cX4_editsOf 26 = .ok (.iaload, 1) := by decide +kernel
theorem dX4_editsOf_27 : decode cX4_editsOf 27 = .ok (.goto 4, 3) := by decide +kernel
theorem dX4_editsOf_30 : decode cX4_editsOf 30 = .ok (.iconst (-1), 1) := by decide +kernel
theorem dX4_editsOf_31 : decode cX4_editsOf 31 = .ok (.ireturn, 1) := by decide +kernel
theorem dX4_open_0 : decode cX4_open 0 = .ok (.aload_n 0, 1) := by decide +kernel
theorem dX4_open_1 : decode cX4_open 1 = .ok (.getfield 21, 3) := by decide +kernel
theorem dX4_open_4 : decode cX4_open 4 = .ok (.ifCond .lt 57, 3) := by decide +kernel
theorem dX4_open_7 : decode cX4_open 7 = .ok (.aload_n 0, 1) := by decide +kernel
theorem dX4_open_8 : decode cX4_open 8 = .ok (.getfield 21, 3) := by decide +kernel
theorem dX4_open_11 : decode cX4_open 11 = .ok (.aload_n 0, 1) := by decide +kernel
theorem dX4_open_12 : decode cX4_open 12 = .ok (.getfield 9, 3) := by decide +kernel
theorem dX4_open_15 : decode cX4_open 15 = .ok (.arraylength, 1) := by decide +kernel
theorem dX4_open_16 : decode cX4_open 16 = .ok (.if_icmp .ge 45, 3) := by decide +kernel
theorem dX4_open_19 : decode cX4_open 19 = .ok (.aload_n 0, 1) := by decide +kernel
theorem dX4_open_20 : decode cX4_open 20 = .ok (.getfield 21, 3) := by decide +kernel
theorem dX4_open_23 : decode cX4_open 23 = .ok (.aload_n 0, 1) := by decide +kernel
theorem dX4_open_24 : decode cX4_open 24 = .ok (.getfield 18, 3) := by decide +kernel
theorem dX4_open_27 : decode cX4_open 27 = .ok (.arraylength, 1) := by decide +kernel
theorem dX4_open_28 : decode cX4_open 28 = .ok (.if_icmp .ge 33, 3) := by decide +kernel
theorem dX4_open_31 : decode cX4_open 31 = .ok (.aload_n 0, 1) := by decide +kernel
theorem dX4_open_32 : decode cX4_open 32 = .ok (.getfield 9, 3) := by decide +kernel
theorem dX4_open_35 : decode cX4_open 35 = .ok (.aload_n 0, 1) := by decide +kernel
theorem dX4_open_36 : decode cX4_open 36 = .ok (.getfield 21, 3) := by decide +kernel
theorem dX4_open_39 : decode cX4_open 39 = .ok (.iload_n 1, 1) := by decide +kernel
theorem dX4_open_40 : decode cX4_open 40 = .ok (.iastore, 1) := by decide +kernel
theorem dX4_open_41 : decode cX4_open 41 = .ok (.aload_n 0, 1) := by decide +kernel
theorem dX4_open_42 : decode cX4_open 42 = .ok (.getfield 18, 3) := by decide +kernel
theorem dX4_open_45 : decode cX4_open 45 = .ok (.aload_n 0, 1) := by decide +kernel
theorem dX4_open_46 : decode cX4_open 46 = .ok (.getfield 21, 3) := by decide +kernel
theorem dX4_open_49 : decode cX4_open 49 = .ok (.iconst 0, 1) := by decide +kernel
theorem dX4_open_50 : decode cX4_open 50 = .ok (.iastore, 1) := by decide +kernel
theorem dX4_open_51 : decode cX4_open 51 = .ok (.aload_n 0, 1) := by decide +kernel
theorem dX4_open_52 : decode cX4_open 52 = .ok (.dup, 1) := by decide +kernel
theorem dX4_open_53 : decode cX4_open 53 = .ok (.getfield 21, 3) := by decide +kernel
theorem dX4_open_56 : decode cX4_open 56 = .ok (.iconst 1, 1) := by decide +kernel
theorem dX4_open_57 : decode cX4_open 57 = .ok (.iadd, 1) := by decide +kernel
theorem dX4_open_58 : decode cX4_open 58 = .ok (.putfield 21, 3) := by decide +kernel
theorem dX4_open_61 : decode cX4_open 61 = .ok (.return_, 1) := by decide +kernel
theorem dX4_growTo_0 : decode cX4_growTo 0 = .ok (.aload_n 0, 1) := by decide +kernel
theorem dX4_growTo_1 : decode cX4_growTo 1 = .ok (.getfield 21, 3) := by decide +kernel
theorem dX4_growTo_4 : decode cX4_growTo 4 = .ok (.iconst 1, 1) := by decide +kernel
theorem dX4_growTo_5 : decode cX4_growTo 5 = .ok (.isub, 1) := by decide +kernel
theorem dX4_growTo_6 : decode cX4_growTo 6 = .ok (.istore_n 2, 1) := by decide +kernel
theorem dX4_growTo_7 : decode cX4_growTo 7 = .ok (.iload_n 2, 1) := by decide +kernel
theorem dX4_growTo_8 : decode cX4_growTo 8 = .ok (.ifCond .lt 38, 3) := by decide +kernel
theorem dX4_growTo_11 : decode cX4_growTo 11 = .ok (.iload_n 2, 1) := by decide +kernel
theorem dX4_growTo_12 : decode cX4_growTo 12 = .ok (.aload_n 0, 1) := by decide +kernel
theorem dX4_growTo_13 : decode cX4_growTo 13 = .ok (.getfield 15, 3) := by decide +kernel
theorem dX4_growTo_16 : decode cX4_growTo 16 = .ok (.arraylength, 1) := by decide +kernel
theorem dX4_growTo_17 : decode cX4_growTo 17 = .ok (.if_icmp .ge 29, 3) := by decide +kernel
theorem dX4_growTo_20 : decode cX4_growTo 20 = .ok (.iload_n 2, 1) := by decide +kernel
theorem dX4_growTo_21 : decode cX4_growTo 21 = .ok (.aload_n 0, 1) := by decide +kernel
theorem dX4_growTo_22 : decode cX4_growTo 22 = .ok (.getfield 18, 3) := by decide +kernel
theorem dX4_growTo_25 : decode cX4_growTo 25 = .ok (.arraylength, 1) := by decide +kernel
theorem dX4_growTo_26 : decode cX4_growTo 26 = .ok (.if_icmp .ge 20, 3) := by decide +kernel
theorem dX4_growTo_29 : decode cX4_growTo 29 = .ok (.aload_n 0, 1) := by decide +kernel
theorem dX4_growTo_30 : decode cX4_growTo 30 = .ok (.getfield 15, 3) := by decide +kernel
theorem dX4_growTo_33 : decode cX4_growTo 33 = .ok (.iload_n 2, 1) := by decide +kernel
theorem dX4_growTo_34 : decode cX4_growTo 34 = .ok (.iload_n 1, 1) := by decide +kernel
theorem dX4_growTo_35 : decode cX4_growTo 35 = .ok (.iastore, 1) := by decide +kernel
theorem dX4_growTo_36 : decode cX4_growTo 36 = .ok (.aload_n 0, 1) := by decide +kernel
theorem dX4_growTo_37 : decode cX4_growTo 37 = .ok (.getfield 18, 3) := by decide +kernel
theorem dX4_growTo_40 : decode cX4_growTo 40 = .ok (.iload_n 2, 1) := by decide +kernel
theorem dX4_growTo_41 : decode cX4_growTo 41 = .ok (.dup2, 1) := by decide +kernel
theorem dX4_growTo_42 : decode cX4_growTo 42 = .ok (.iaload, 1) := by decide +kernel
theorem dX4_growTo_43 : decode cX4_growTo 43 = .ok (.iconst 1, 1) := by decide +kernel
theorem dX4_growTo_44 : decode cX4_growTo 44 = .ok (.iadd, 1) := by decide +kernel
theorem dX4_growTo_45 : decode cX4_growTo 45 = .ok (.iastore, 1) := by decide +kernel
theorem dX4_growTo_46 : decode cX4_growTo 46 = .ok (.return_, 1) := by decide +kernel
theorem dX5_init_0 : decode cX5_init 0 = .ok (.aload_n 0, 1) := by decide +kernel
theorem dX5_init_1 : decode cX5_init 1 = .ok (.invokespecial 3, 3) := by decide +kernel
theorem dX5_init_4 : decode cX5_init 4 = .ok (.aload_n 0, 1) := by decide +kernel
theorem dX5_init_5 : decode cX5_init 5 = .ok (.sipush 1653, 3) := by decide +kernel
theorem dX5_init_8 : decode cX5_init 8 = .ok (.newarray .int, 2) := by decide +kernel
theorem dX5_init_10 : decode cX5_init 10 = .ok (.putfield 9, 3) := by decide +kernel
theorem dX5_init_13 : decode cX5_init 13 = .ok (.return_, 1) := by decide +kernel
theorem dX5_find_0 : decode cX5_find 0 = .ok (.aload_n 1, 1) := by decide +kernel
theorem dX5_find_1 : decode cX5_find 1 = .ok (.getfield 15, 3) := by decide +kernel
theorem dX5_find_4 : decode cX5_find 4 = .ok (.getfield 21, 3) := by decide +kernel
theorem dX5_find_7 : decode cX5_find 7 = .ok (.aload_n 1, 1) := by decide +kernel
theorem dX5_find_8 : decode cX5_find 8 = .ok (.getfield 27, 3) := by decide +kernel
theorem dX5_find_11 : decode cX5_find 11 = .ok (.getfield 21, 3) := by decide +kernel
theorem dX5_find_14 : decode cX5_find 14 = .ok (.isub, 1) := by decide +kernel
theorem dX5_find_15 : decode cX5_find 15 = .ok (.istore_n 2, 1) := by decide +kernel
theorem dX5_find_16 : decode cX5_find 16 = .ok (.iconst 0, 1) := by decide +kernel
theorem dX5_find_17 : decode cX5_find 17 = .ok (.istore_n 3, 1) := by decide +kernel
theorem dX5_find_18 : decode cX5_find 18 = .ok (.iload_n 3, 1) := by decide +kernel
theorem dX5_find_19 : decode cX5_find 19 = .ok (.bipush 56, 2) := by decide +kernel
theorem dX5_find_21 : decode cX5_find 21 = .ok (.if_icmp .gt 77, 3) := by decide +kernel
theorem dX5_find_24 : decode cX5_find 24 = .ok (.aload_n 0, 1) := by decide +kernel
theorem dX5_find_25 : decode cX5_find 25 = .ok (.iload_n 3, 1) := by decide +kernel
theorem dX5_find_26 : decode cX5_find 26 = .ok (.putfield 30, 3) := by decide +kernel
theorem dX5_find_29 : decode cX5_find 29 = .ok (.iload_n 3, 1) := by decide +kernel
theorem dX5_find_30 : decode cX5_find 30 = .ok (.ineg, 1) := by decide +kernel
theorem dX5_find_31 : decode cX5_find 31 = .ok (.istore 4, 2) := by decide +kernel
theorem dX5_find_33 : decode cX5_find 33 = .ok (.iload 4, 2) := by decide +kernel
theorem dX5_find_35 : decode cX5_find 35 = .ok (.iload_n 3, 1) := by decide +kernel
theorem dX5_find_36 : decode cX5_find 36 = .ok (.if_icmp .gt 39, 3) := by decide +kernel
theorem dX5_find_39 : decode cX5_find 39 = .ok (.aload_n 0, 1) := by decide +kernel
theorem dX5_find_40 : decode cX5_find 40 = .ok (.iload_n 3, 1) := by decide +kernel
theorem dX5_find_41 : decode cX5_find 41 = .ok (.iload 4, 2) := by decide +kernel
theorem dX5_find_43 : decode cX5_find 43 = .ok (.invokevirtual 33, 3) := by decide +kernel
theorem dX5_find_46 : decode cX5_find 46 = .ok (.istore 5, 2) := by decide +kernel
theorem dX5_find_48 : decode cX5_find 48 = .ok (.aload_n 0, 1) := by decide +kernel
theorem dX5_find_49 : decode cX5_find 49 = .ok (.iload_n 3, 1) := by decide +kernel
theorem dX5_find_50 : decode cX5_find 50 = .ok (.iload 4, 2) := by decide +kernel
theorem dX5_find_52 : decode cX5_find 52 = .ok (.iload 5, 2) := by decide +kernel
theorem dX5_find_54 : decode cX5_find 54 = .ok (.aload_n 1, 1) := by decide +kernel
theorem dX5_find_55 : decode cX5_find 55 = .ok (.iload 5, 2) := by decide +kernel
theorem dX5_find_57 : decode cX5_find 57 = .ok (.iload 5, 2) := by decide +kernel
theorem dX5_find_59 : decode cX5_find 59 = .ok (.iload 4, 2) := by decide +kernel
theorem dX5_find_61 : decode cX5_find 61 = .ok (.isub, 1) := by decide +kernel
theorem dX5_find_62 : decode cX5_find 62 = .ok (.invokevirtual 37, 3) := by decide +kernel
theorem dX5_find_65 : decode cX5_find 65 = .ok (.iadd, 1) := by decide +kernel
theorem dX5_find_66 : decode cX5_find 66 = .ok (.invokevirtual 40, 3) := by decide +kernel
theorem dX5_find_69 : decode cX5_find 69 = .ok (.iinc 4 2, 3) := by decide +kernel
theorem dX5_find_72 : decode cX5_find 72 = .ok (.goto (-39), 3) := by decide +kernel
theorem dX5_find_75 : decode cX5_find 75 = .ok (.aload_n 0, 1) := by decide +kernel
theorem dX5_find_76 : decode cX5_find 76 = .ok (.iload_n 3, 1) := by decide +kernel
theorem dX5_find_77 : decode cX5_find 77 = .ok (.iload_n 2, 1) := by decide +kernel
theorem dX5_find_78 : decode cX5_find 78 = .ok (.invokevirtual 44, 3) := by decide +kernel
theorem dX5_find_81 : decode cX5_find 81 = .ok (.aload_n 1, 1) := by decide +kernel
theorem dX5_find_82 : decode cX5_find 82 = .ok (.getfield 15, 3) := by decide +kernel
theorem dX5_find_85 : decode cX5_find 85 = .ok (.getfield 21, 3) := by decide +kernel
theorem dX5_find_88 : decode cX5_find 88 = .ok (.if_icmp .lt 4, 3) := by decide +kernel
theorem dX5_find_91 : decode cX5_find 91 = .ok (.return_, 1) := by decide +kernel
theorem dX5_find_92 : decode cX5_find 92 = .ok (.iinc 3 1, 3) := by decide +kernel
theorem dX5_find_95 : decode cX5_find 95 = .ok (.goto (-77), 3) := by decide +kernel
theorem dX5_find_98 : decode cX5_find 98 = .ok (.return_, 1) := by decide +kernel
theorem dX5_at_0 : decode cX5_at 0 = .ok (.iload_n 1, 1) := by decide +kernel
theorem dX5_at_1 : decode cX5_at 1 = .ok (.iload_n 2, 1) := by decide +kernel
theorem dX5_at_2 : decode cX5_at 2 = .ok (.invokestatic 47, 3) := by decide +kernel
theorem dX5_at_5 : decode cX5_at 5 = .ok (.istore_n 3, 1) := by decide +kernel
theorem dX5_at_6 : decode cX5_at 6 = .ok (.iload_n 3, 1) := by decide +kernel
theorem dX5_at_7 : decode cX5_at 7 = .ok (.iconst (-1), 1) := by decide +kernel
theorem dX5_at_8 : decode cX5_at 8 = .ok (.if_icmp .ne 7, 3) := by decide +kernel
theorem dX5_at_11 : decode cX5_at 11 = .ok (.iconst (-1), 1) := by decide +kernel
theorem dX5_at_12 : decode cX5_at 12 = .ok (.goto 9, 3) := by decide +kernel
theorem dX5_at_15 : decode cX5_at 15 = .ok (.aload_n 0, 1) := by decide +kernel
theorem dX5_at_16 : decode cX5_at 16 = .ok (.getfield 9, 3) := by decide +kernel
theorem dX5_at_19 : decode cX5_at 19 = .ok (.iload_n 3, 1) := by decide +kernel
theorem dX5_at_20 : decode cX5_at 20 = .ok (.iaload, 1) := by decide +kernel
theorem dX5_at_21 : decode cX5_at 21 = .ok (.ireturn, 1) := by decide +kernel
theorem dX5_beginOf_0 : decode cX5_beginOf 0 = .ok (.iload_n 1, 1) := by decide +kernel
theorem dX5_beginOf_1 : decode cX5_beginOf 1 = .ok (.ifCond .gt 5, 3) := by decide +kernel
theorem dX5_beginOf_4 : decode cX5_beginOf 4 = .ok (.iconst 0, 1) := by decide +kernel
theorem dX5_beginOf_5 : decode cX5_beginOf 5 = .ok (.ireturn, 1) := by decide +kernel
theorem dX5_beginOf_6 : decode cX5_beginOf 6 = .ok (.aload_n 0, 1) := by decide +kernel
theorem dX5_beginOf_7 : decode cX5_beginOf 7 = .ok (.iload_n 1, 1) := by decide +kernel
theorem dX5_beginOf_8 : decode cX5_beginOf 8 = .ok (.iconst 1, 1) := by decide +kernel
theorem dX5_beginOf_9 : decode cX5_beginOf 9 = .ok (.isub, 1) := by decide +kernel
theorem dX5_beginOf_10 : decode cX5_beginOf 10 = .ok (.iload_n 2, 1) := by decide +kernel
theorem dX5_beginOf_11 : decode cX5_beginOf 11 = .ok (.iconst 1, 1) := by decide +kernel
theorem dX5_beginOf_12 : decode cX5_beginOf 12 = .ok (.isub, 1) := by decide +kernel
theorem dX5_beginOf_13 : decode cX5_beginOf 13 = .ok (.invokevirtual 44, 3) := by decide +kernel
theorem dX5_beginOf_16 : decode cX5_beginOf 16 = .ok (.iconst 1, 1) := by decide +kernel
theorem dX5_beginOf_17 : decode cX5_beginOf 17 = .ok (.iadd, 1) := by decide +kernel
theorem dX5_beginOf_18 : decode cX5_beginOf 18 = .ok (.aload_n 0, 1) := by decide +kernel
theorem dX5_beginOf_19 : decode cX5_beginOf 19 = .ok (.iload_n 1, 1) := by decide +kernel
theorem dX5_beginOf_20 : decode cX5_beginOf 20 = .ok (.iconst 1, 1) := by decide +kernel
theorem dX5_beginOf_21 : decode cX5_beginOf 21 = .ok (.isub, 1) := by decide +kernel
theorem dX5_beginOf_22 : decode cX5_beginOf 22 = .ok (.iload_n 2, 1) := by decide +kernel
theorem dX5_beginOf_23 : decode cX5_beginOf 23 = .ok (.iconst 1, 1) := by decide +kernel
theorem dX5_beginOf_24 : decode cX5_beginOf 24 = .ok (.iadd, 1) := by decide +kernel
theorem dX5_beginOf_25 : decode cX5_beginOf 25 = .ok (.invokevirtual 44, 3) := by decide +kernel
theorem dX5_beginOf_28 : decode cX5_beginOf 28 = .ok (.invokestatic 50, 3) := by decide +kernel
theorem dX5_beginOf_31 : decode cX5_beginOf 31 = .ok (.ireturn, 1) := by decide +kernel
theorem dX5_isPutIn_0 : decode cX5_isPutIn 0 = .ok (.aload_n 0, 1) := by decide +kernel
theorem dX5_isPutIn_1 : decode cX5_isPutIn 1 = .ok (.iload_n 1, 1) := by decide +kernel
theorem dX5_isPutIn_2 : decode cX5_isPutIn 2 = .ok (.iconst 1, 1) := by decide +kernel
theorem dX5_isPutIn_3 : decode cX5_isPutIn 3 = .ok (.isub, 1) := by decide +kernel
theorem dX5_isPutIn_4 : decode cX5_isPutIn 4 = .ok (.iload_n 2, 1) := by decide +kernel
theorem dX5_isPutIn_5 : decode cX5_isPutIn 5 = .ok (.iconst 1, 1) := by decide +kernel
theorem dX5_isPutIn_6 : decode cX5_isPutIn 6 = .ok (.isub, 1) := by decide +kernel
theorem dX5_isPutIn_7 : decode cX5_isPutIn 7 = .ok (.invokevirtual 44, 3) := by decide +kernel
theorem dX5_isPutIn_10 : decode cX5_isPutIn 10 = .ok (.aload_n 0, 1) := by decide +kernel
theorem dX5_isPutIn_11 : decode cX5_isPutIn 11 = .ok (.iload_n 1, 1) := by decide +kernel
theorem dX5_isPutIn_12 : decode cX5_isPutIn 12 = .ok (.iconst 1, 1) := by decide +kernel
theorem dX5_isPutIn_13 : decode cX5_isPutIn 13 = .ok (.isub, 1) := by decide +kernel
theorem dX5_isPutIn_14 : decode cX5_isPutIn 14 = .ok (.iload_n 2, 1) := by decide +kernel
theorem dX5_isPutIn_15 : decode cX5_isPutIn 15 = .ok (.iconst 1, 1) := by decide +kernel
theorem dX5_isPutIn_16 : decode cX5_isPutIn 16 = .ok (.iadd, 1) := by decide +kernel
theorem dX5_isPutIn_17 : decode cX5_isPutIn 17 = .ok (.invokevirtual 44, 3) := by decide +kernel
theorem dX5_isPutIn_20 : decode cX5_isPutIn 20 = .ok (.if_icmp .ge 7, 3) := by decide +kernel
theorem dX5_isPutIn_23 : decode cX5_isPutIn 23 = .ok (.iconst 1, 1) := by decide +kernel
theorem dX5_isPutIn_24 : decode cX5_isPutIn 24 = .ok (.goto 4, 3) := by decide +kernel
theorem dX5_isPutIn_27 : decode cX5_isPutIn 27 = .ok (.iconst 0, 1) := by decide +kernel
theorem dX5_isPutIn_28 : decode cX5_isPutIn 28 = .ok (.ireturn, 1) := by decide +kernel
theorem dX5_put_0 : decode cX5_put 0 = .ok (.iload_n 1, 1) := by decide +kernel
theorem dX5_put_1 : decode cX5_put 1 = .ok (.iload_n 2, 1) := by decide +kernel
theorem dX5_put_2 : decode cX5_put 2 = .ok (.invokestatic 47, 3) := by decide +kernel
theorem dX5_put_5 : decode cX5_put 5 = .ok (.istore 4, 2) := by decide +kernel
theorem dX5_put_7 : decode cX5_put 7 = .ok (.iload 4, 2) := by decide +kernel
theorem dX5_put_9 : decode cX5_put 9 = .ok (.iconst (-1), 1) := by decide +kernel
theorem dX5_put_10 : decode cX5_put 10 = .ok (.if_icmp .eq 11, 3) := by decide +kernel
theorem dX5_put_13 : decode cX5_put 13 = .ok (.aload_n 0, 1) := by decide +kernel
theorem dX5_put_14 : decode cX5_put 14 = .ok (.getfield 9, 3) := by decide +kernel
theorem dX5_put_17 : decode cX5_put 17 = .ok (.iload 4, 2) := by decide +kernel
theorem dX5_put_19 : decode cX5_put 19 = .ok (.iload_n 3, 1) := by decide +kernel
theorem dX5_put_20 : decode cX5_put 20 = .ok (.iastore, 1) := by decide +kernel
theorem dX5_put_21 : decode cX5_put 21 = .ok (.return_, 1) := by decide +kernel
theorem dX5_placeOf_0 : decode cX5_placeOf 0 = .ok (.iload_n 0, 1) := by decide +kernel
theorem dX5_placeOf_1 : decode cX5_placeOf 1 = .ok (.ifCond .lt 28, 3) := by decide +kernel
theorem dX5_placeOf_4 : decode cX5_placeOf 4 = .ok (.iload_n 0, 1) := by decide +kernel
theorem dX5_placeOf_5 : decode cX5_placeOf 5 = .ok (.bipush 56, 2) := by decide +kernel
theorem dX5_placeOf_7 : decode cX5_placeOf 7 = .ok (.if_icmp .gt 22, 3) := by decide +kernel
theorem dX5_placeOf_10 : decode cX5_placeOf 10 = .ok (.iload_n 1, 1) := by decide +kernel
theorem dX5_placeOf_11 : decode cX5_placeOf 11 = .ok (.iload_n 0, 1) := by decide +kernel
theorem dX5_placeOf_12 : decode cX5_placeOf 12 = .ok (.ineg, 1) := by decide +kernel
theorem dX5_placeOf_13 : decode cX5_placeOf 13 = .ok (.if_icmp .lt 16, 3) := by decide +kernel
theorem dX5_placeOf_16 : decode cX5_placeOf 16 = .ok (.iload_n 1, 1) := by decide +kernel
theorem dX5_placeOf_17 : decode cX5_placeOf 17 = .ok (.iload_n 0, 1) := by decide +kernel
theorem dX5_placeOf_18 : decode cX5_placeOf 18 = .ok (.if_icmp .gt 11, 3) := by decide +kernel
theorem dX5_placeOf_21 : decode cX5_placeOf 21 = .ok (.iload_n 0, 1) := by decide +kernel
theorem dX5_placeOf_22 : decode cX5_placeOf 22 = .ok (.iload_n 1, 1) := by decide +kernel
theorem dX5_placeOf_23 : decode cX5_placeOf 23 = .ok (.iadd, 1) := by decide +kernel
theorem dX5_placeOf_24 : decode cX5_placeOf 24 = .ok (.iconst 2, 1) := by decide +kernel
theorem dX5_placeOf_25 : decode cX5_placeOf 25 = .ok (.irem, 1) := by decide +kernel
theorem dX5_placeOf_26 : decode cX5_placeOf 26 = .ok (.ifCond .eq 5, 3) := by decide +kernel
theorem dX5_placeOf_29 : decode cX5_placeOf 29 = .ok (.iconst (-1), 1) := by decide +kernel
theorem dX5_placeOf_30 : decode cX5_placeOf 30 = .ok (.ireturn, 1) := by decide +kernel
theorem dX5_placeOf_31 : decode cX5_placeOf 31 = .ok (.iload_n 0, 1) := by decide +kernel
theorem dX5_placeOf_32 : decode cX5_placeOf 32 = .ok (.iload_n 0, 1) := by decide +kernel
theorem dX5_placeOf_33 : decode cX5_placeOf 33 = .ok (.iconst 1, 1) := by decide +kernel
theorem dX5_placeOf_34 : decode cX5_placeOf 34 = .ok (.iadd, 1) := by decide +kernel
theorem dX5_placeOf_35 : decode cX5_placeOf 35 = .ok (.imul, 1) := by decide +kernel
theorem dX5_placeOf_36 : decode cX5_placeOf 36 = .ok (.iconst 2, 1) := by decide +kernel
theorem dX5_placeOf_37 : decode cX5_placeOf 37 = .ok (.idiv, 1) := by decide +kernel
theorem dX5_placeOf_38 : decode cX5_placeOf 38 = .ok (.iload_n 0, 1) := by decide +kernel
theorem dX5_placeOf_39 : decode cX5_placeOf 39 = .ok (.iload_n 1, 1) := by decide +kernel
theorem dX5_placeOf_40 : decode cX5_placeOf 40 = .ok (.iadd, 1) := by decide +kernel
theorem dX5_placeOf_41 : decode cX5_placeOf 41 = .ok (.iconst 2, 1) := by decide +kernel
theorem dX5_placeOf_42 : decode cX5_placeOf 42 = .ok (.idiv, 1) := by decide +kernel
theorem dX5_placeOf_43 : decode cX5_placeOf 43 = .ok (.iadd, 1) := by decide +kernel
theorem dX5_placeOf_44 : decode cX5_placeOf 44 = .ok (.ireturn, 1) := by decide +kernel
theorem dX6_init_0 : decode cX6_init 0 = .ok (.aload_n 0, 1) := by decide +kernel
theorem dX6_init_1 : decode cX6_init 1 = .ok (.invokespecial 3, 3) := by decide +kernel
theorem dX6_init_4 : decode cX6_init 4 = .ok (.aload_n 0, 1) := by decide +kernel
theorem dX6_init_5 : decode cX6_init 5 = .ok (.new 9, 3) := by decide +kernel
theorem dX6_init_8 : decode cX6_init 8 = .ok (.dup, 1) := by decide +kernel
theorem dX6_init_9 : decode cX6_init 9 = .ok (.bipush 28, 2) := by decide +kernel
theorem dX6_init_11 : decode cX6_init 11 = .ok (.invokespecial 11, 3) := by decide +kernel
theorem dX6_init_14 : decode cX6_init 14 = .ok (.putfield 14, 3) := by decide +kernel
theorem dX6_init_17 : decode cX6_init 17 = .ok (.return_, 1) := by decide +kernel
theorem dX6_read_0 : decode cX6_read 0 = .ok (.aload_n 0, 1) := by decide +kernel
theorem dX6_read_1 : decode cX6_read 1 = .ok (.getfield 14, 3) := by decide +kernel
theorem dX6_read_4 : decode cX6_read 4 = .ok (.invokevirtual 20, 3) := by decide +kernel
theorem dX6_read_7 : decode cX6_read 7 = .ok (.aload_n 0, 1) := by decide +kernel
theorem dX6_read_8 : decode cX6_read 8 = .ok (.iconst 0, 1) := by decide +kernel
theorem dX6_read_9 : decode cX6_read 9 = .ok (.putfield 23, 3) := by decide +kernel
theorem dX6_read_12 : decode cX6_read 12 = .ok (.aload_n 0, 1) := by decide +kernel
theorem dX6_read_13 : decode cX6_read 13 = .ok (.iconst 0, 1) := by decide +kernel
theorem dX6_read_14 : decode cX6_read 14 = .ok (.putfield 27, 3) := by decide +kernel
theorem dX6_read_17 : decode cX6_read 17 = .ok (.iconst 0, 1) := by decide +kernel
theorem dX6_read_18 : decode cX6_read 18 = .ok (.istore_n 3, 1) := by decide +kernel
theorem dX6_read_19 : decode cX6_read 19 = .ok (.iconst 0, 1) := by decide +kernel
theorem dX6_read_20 : decode cX6_read 20 = .ok (.istore 4, 2) := by decide +kernel
theorem dX6_read_22 : decode cX6_read 22 = .ok (.iload 4, 2) := by decide +kernel
theorem dX6_read_24 : decode cX6_read 24 = .ok (.aload_n 1, 1) := by decide +kernel
theorem dX6_read_25 : decode cX6_read 25 = .ok (.getfield 30, 3) := by decide +kernel
theorem dX6_read_28 : decode cX6_read 28 = .ok (.if_icmp .ge 35, 3) := by decide +kernel
theorem dX6_read_31 : decode cX6_read 31 = .ok (.aload_n 0, 1) := by decide +kernel
theorem dX6_read_32 : decode cX6_read 32 = .ok (.getfield 27, 3) := by decide +kernel
theorem dX6_read_35 : decode cX6_read 35 = .ok (.ifCond .ne 28, 3) := by decide +kernel
theorem dX6_read_38 : decode cX6_read 38 = .ok (.iload 4, 2) := by decide +kernel
theorem dX6_read_40 : decode cX6_read 40 = .ok (.iload_n 3, 1) := by decide +kernel
theorem dX6_read_41 : decode cX6_read 41 = .ok (.if_icmp .ne 16, 3) := by decide +kernel
theorem dX6_read_44 : decode cX6_read 44 = .ok (.aload_n 0, 1) := by decide +kernel
theorem dX6_read_45 : decode cX6_read 45 = .ok (.aload_n 1, 1) := by decide +kernel
theorem dX6_read_46 : decode cX6_read 46 = .ok (.aload_n 2, 1) := by decide +kernel
theorem dX6_read_47 : decode cX6_read 47 = .ok (.iload_n 3, 1) := by decide +kernel
theorem dX6_read_48 : decode cX6_read 48 = .ok (.invokevirtual 33, 3) := by decide +kernel
theorem dX6_read_51 : decode cX6_read 51 = .ok (.aload_n 1, 1) := by decide +kernel
theorem dX6_read_52 : decode cX6_read 52 = .ok (.iload_n 3, 1) := by decide +kernel
theorem dX6_read_53 : decode cX6_read 53 = .ok (.invokestatic 37, 3) := by decide +kernel
theorem dX6_read_56 : decode cX6_read 56 = .ok (.istore_n 3, 1) := by decide +kernel
theorem dX6_read_57 : decode cX6_read 57 = .ok (.iinc 4 1, 3) := by decide +kernel
theorem dX6_read_60 : decode cX6_read 60 = .ok (.goto (-38), 3) := by decide +kernel
theorem dX6_read_63 : decode cX6_read 63 = .ok (.aload_n 0, 1) := by decide +kernel
theorem dX6_read_64 : decode cX6_read 64 = .ok (.getfield 27, 3) := by decide +kernel
theorem dX6_read_67 : decode cX6_read 67 = .ok (.ifCond .ne 32, 3) := by decide +kernel
theorem dX6_read_70 : decode cX6_read 70 = .ok (.aload_n 0, 1) := by decide +kernel
theorem dX6_read_71 : decode cX6_read 71 = .ok (.getfield 23, 3) := by decide +kernel
theorem dX6_read_74 : decode cX6_read 74 = .ok (.aload_n 2, 1) := by decide +kernel
theorem dX6_read_75 : decode cX6_read 75 = .ok (.getfield 30, 3) := by decide +kernel
theorem dX6_read_78 : decode cX6_read 78 = .ok (.if_icmp .ge 21, 3) := by decide +kernel
theorem dX6_read_81 : decode cX6_read 81 = .ok (.aload_n 0, 1) := by decide +kernel
theorem dX6_read_82 : decode cX6_read 82 = .ok (.aload_n 1, 1) := by decide +kernel
theorem dX6_read_83 : decode cX6_read 83 = .ok (.getfield 30, 3) := by decide +kernel
theorem dX6_read_86 : decode cX6_read 86 = .ok (.iconst 4, 1) := by decide +kernel
theorem dX6_read_87 : decode cX6_read 87 = .ok (.aload_n 2, 1) := by decide +kernel
theorem dX6_read_88 : decode cX6_read 88 = .ok (.getfield 30, 3) := by decide +kernel
theorem dX6_read_91 : decode cX6_read 91 = .ok (.aload_n 0, 1) := by decide +kernel
theorem dX6_read_92 : decode cX6_read 92 = .ok (.getfield 23, 3) := by decide +kernel
theorem dX6_read_95 : decode cX6_read 95 = .ok (.isub, 1) := by decide +kernel
theorem dX6_read_96 : decode cX6_read 96 = .ok (.invokevirtual 41, 3) := by decide +kernel
theorem dX6_read_99 : decode cX6_read 99 = .ok (.return_, 1) := by decide +kernel
theorem dX6_readPart_0 : decode cX6_readPart 0 = .ok (.aload_n 1, 1) := by decide +kernel
theorem dX6_readPart_1 : decode cX6_readPart 1 = .ok (.iload_n 3, 1) := by decide +kernel
theorem dX6_readPart_2 : decode cX6_readPart 2 = .ok (.invokestatic 45, 3) := by decide +kernel
theorem dX6_readPart_5 : decode cX6_readPart 5 = .ok (.istore 4, 2) := by decide +kernel
theorem dX6_readPart_7 : decode cX6_readPart 7 = .ok (.iload 4, 2) := by decide +kernel
theorem dX6_readPart_9 : decode cX6_readPart 9 = .ok (.iconst (-1), 1) := by decide +kernel
theorem dX6_readPart_10 : decode cX6_readPart 10 = .ok (.if_icmp .eq 12, 3) := by decide +kernel
theorem dX6_readPart_13 : decode cX6_readPart 13 = .ok (.aload_n 0, 1) := by decide +kernel
theorem dX6_readPart_14 : decode cX6_readPart 14 = .ok (.iload_n 3, 1) := by decide +kernel
theorem dX6_readPart_15 : decode cX6_readPart 15 = .ok (.iconst 1, 1) := by decide +kernel
theorem dX6_readPart_16 : decode cX6_readPart 16 = .ok (.iload 4, 2) := by decide +kernel
theorem dX6_readPart_18 : decode cX6_readPart 18 = .ok (.invokevirtual 41, 3) := by decide +kernel
theorem dX6_readPart_21 : decode cX6_readPart 21 = .ok (.return_, 1) := by decide +kernel
theorem dX6_readPart_22 : decode cX6_readPart 22 = .ok (.aload_n 1, 1) := by decide +kernel
end
section
theorem dX6_readPart_23 : decode cX6_readPart 23 = .ok (.iload_n 3, 1) := by decide +kernel
theorem dX6_readPart_24 : decode cX6_readPart 24 = .ok (.invokevirtual 48, 3) := by decide +kernel
theorem dX6_readPart_27 : decode cX6_readPart 27 = .ok (.istore 5, 2) := by decide +kernel
theorem dX6_readPart_29 : decode cX6_readPart 29 = .ok (.iload 5, 2) := by decide +kernel
theorem dX6_readPart_31 : decode cX6_readPart 31 = .ok (.bipush 43, 2) := by decide +kernel
theorem dX6_readPart_33 : decode cX6_readPart 33 = .ok (.if_icmp .ne 15, 3) := by decide +kernel
theorem dX6_readPart_36 : decode cX6_readPart 36 = .ok (.aload_n 1, 1) := by decide +kernel
theorem dX6_readPart_37 : decode cX6_readPart 37 = .ok (.iload_n 3, 1) := by decide +kernel
theorem dX6_readPart_38 : decode cX6_readPart 38 = .ok (.invokestatic 37, 3) := by decide +kernel
theorem dX6_readPart_41 : decode cX6_readPart 41 = .ok (.iload_n 3, 1) := by decide +kernel
theorem dX6_readPart_42 : decode cX6_readPart 42 = .ok (.isub, 1) := by decide +kernel
theorem dX6_readPart_43 : decode cX6_readPart 43 = .ok (.iconst 2, 1) := by decide +kernel
theorem dX6_readPart_44 : decode cX6_readPart 44 = .ok (.isub, 1) := by decide +kernel
theorem dX6_readPart_45 : decode cX6_readPart 45 = .ok (.goto 10, 3) := by decide +kernel
theorem dX6_readPart_48 : decode cX6_readPart 48 = .ok (.aload_n 1, 1) := by decide +kernel
theorem dX6_readPart_49 : decode cX6_readPart 49 = .ok (.iload_n 3, 1) := by decide +kernel
theorem dX6_readPart_50 : decode cX6_readPart 50 = .ok (.iconst 1, 1) := by decide +kernel
theorem dX6_readPart_51 : decode cX6_readPart 51 = .ok (.iadd, 1) := by decide +kernel
theorem dX6_readPart_52 : decode cX6_readPart 52 = .ok (.invokestatic 52, 3) := by decide +kernel
theorem dX6_readPart_55 : decode cX6_readPart 55 = .ok (.istore 6, 2) := by decide +kernel
theorem dX6_readPart_57 : decode cX6_readPart 57 = .ok (.iload 5, 2) := by decide +kernel
theorem dX6_readPart_59 : decode cX6_readPart 59 = .ok (.bipush 43, 2) := by decide +kernel
theorem dX6_readPart_61 : decode cX6_readPart 61 = .ok (.if_icmp .eq 27, 3) := by decide +kernel
theorem dX6_readPart_64 : decode cX6_readPart 64 = .ok (.iload 6, 2) := by decide +kernel
theorem dX6_readPart_66 : decode cX6_readPart 66 = .ok (.aload_n 2, 1) := by decide +kernel
theorem dX6_readPart_67 : decode cX6_readPart 67 = .ok (.getfield 30, 3) := by decide +kernel
theorem dX6_readPart_70 : decode cX6_readPart 70 = .ok (.aload_n 0, 1) := by decide +kernel
theorem dX6_readPart_71 : decode cX6_readPart 71 = .ok (.getfield 23, 3) := by decide +kernel
theorem dX6_readPart_74 : decode cX6_readPart 74 = .ok (.isub, 1) := by decide +kernel
theorem dX6_readPart_75 : decode cX6_readPart 75 = .ok (.if_icmp .le 13, 3) := by decide +kernel
theorem dX6_readPart_78 : decode cX6_readPart 78 = .ok (.aload_n 0, 1) := by decide +kernel
theorem dX6_readPart_79 : decode cX6_readPart 79 = .ok (.iload_n 3, 1) := by decide +kernel
theorem dX6_readPart_80 : decode cX6_readPart 80 = .ok (.iconst 2, 1) := by decide +kernel
theorem dX6_readPart_81 : decode cX6_readPart 81 = .ok (.iconst (-1), 1) := by decide +kernel
theorem dX6_readPart_82 : decode cX6_readPart 82 = .ok (.invokevirtual 41, 3) := by decide +kernel
theorem dX6_readPart_85 : decode cX6_readPart 85 = .ok (.goto 74, 3) := by decide +kernel
theorem dX6_readPart_88 : decode cX6_readPart 88 = .ok (.iload 5, 2) := by decide +kernel
theorem dX6_readPart_90 : decode cX6_readPart 90 = .ok (.bipush 45, 2) := by decide +kernel
theorem dX6_readPart_92 : decode cX6_readPart 92 = .ok (.if_icmp .eq 28, 3) := by decide +kernel
theorem dX6_readPart_95 : decode cX6_readPart 95 = .ok (.aload_n 0, 1) := by decide +kernel
theorem dX6_readPart_96 : decode cX6_readPart 96 = .ok (.getfield 14, 3) := by decide +kernel
theorem dX6_readPart_99 : decode cX6_readPart 99 = .ok (.getfield 30, 3) := by decide +kernel
theorem dX6_readPart_102 : decode cX6_readPart 102 = .ok (.iload 6, 2) := by decide +kernel
theorem dX6_readPart_104 : decode cX6_readPart 104 = .ok (.iadd, 1) := by decide +kernel
theorem dX6_readPart_105 : decode cX6_readPart 105 = .ok (.bipush 28, 2) := by decide +kernel
theorem dX6_readPart_107 : decode cX6_readPart 107 = .ok (.if_icmp .le 13, 3) := by decide +kernel
theorem dX6_readPart_110 : decode cX6_readPart 110 = .ok (.aload_n 0, 1) := by decide +kernel
theorem dX6_readPart_111 : decode cX6_readPart 111 = .ok (.iload_n 3, 1) := by decide +kernel
theorem dX6_readPart_112 : decode cX6_readPart 112 = .ok (.iconst 3, 1) := by decide +kernel
theorem dX6_readPart_113 : decode cX6_readPart 113 = .ok (.iconst (-1), 1) := by decide +kernel
theorem dX6_readPart_114 : decode cX6_readPart 114 = .ok (.invokevirtual 41, 3) := by decide +kernel
theorem dX6_readPart_117 : decode cX6_readPart 117 = .ok (.goto 42, 3) := by decide +kernel
theorem dX6_readPart_120 : decode cX6_readPart 120 = .ok (.iload 5, 2) := by decide +kernel
theorem dX6_readPart_122 : decode cX6_readPart 122 = .ok (.bipush 43, 2) := by decide +kernel
theorem dX6_readPart_124 : decode cX6_readPart 124 = .ok (.if_icmp .ne 16, 3) := by decide +kernel
theorem dX6_readPart_127 : decode cX6_readPart 127 = .ok (.aload_n 0, 1) := by decide +kernel
theorem dX6_readPart_128 : decode cX6_readPart 128 = .ok (.aload_n 1, 1) := by decide +kernel
theorem dX6_readPart_129 : decode cX6_readPart 129 = .ok (.iload_n 3, 1) := by decide +kernel
theorem dX6_readPart_130 : decode cX6_readPart 130 = .ok (.iconst 1, 1) := by decide +kernel
theorem dX6_readPart_131 : decode cX6_readPart 131 = .ok (.iadd, 1) := by decide +kernel
theorem dX6_readPart_132 : decode cX6_readPart 132 = .ok (.iload 6, 2) := by decide +kernel
theorem dX6_readPart_134 : decode cX6_readPart 134 = .ok (.invokevirtual 55, 3) := by decide +kernel
theorem dX6_readPart_137 : decode cX6_readPart 137 = .ok (.goto 22, 3) := by decide +kernel
theorem dX6_readPart_140 : decode cX6_readPart 140 = .ok (.aload_n 0, 1) := by decide +kernel
theorem dX6_readPart_141 : decode cX6_readPart 141 = .ok (.aload_n 2, 1) := by decide +kernel
theorem dX6_readPart_142 : decode cX6_readPart 142 = .ok (.iload 6, 2) := by decide +kernel
theorem dX6_readPart_144 : decode cX6_readPart 144 = .ok (.iload 5, 2) := by decide +kernel
theorem dX6_readPart_146 : decode cX6_readPart 146 = .ok (.bipush 61, 2) := by decide +kernel
theorem dX6_readPart_148 : decode cX6_readPart 148 = .ok (.if_icmp .ne 7, 3) := by decide +kernel
theorem dX6_readPart_151 : decode cX6_readPart 151 = .ok (.iconst 1, 1) := by decide +kernel
theorem dX6_readPart_152 : decode cX6_readPart 152 = .ok (.goto 4, 3) := by decide +kernel
theorem dX6_readPart_155 : decode cX6_readPart 155 = .ok (.iconst 0, 1) := by decide +kernel
theorem dX6_readPart_156 : decode cX6_readPart 156 = .ok (.invokevirtual 59, 3) := by decide +kernel
theorem dX6_readPart_159 : decode cX6_readPart 159 = .ok (.return_, 1) := by decide +kernel
theorem dX6_tell_0 : decode cX6_tell 0 = .ok (.aload_n 0, 1) := by decide +kernel
theorem dX6_tell_1 : decode cX6_tell 1 = .ok (.iload_n 1, 1) := by decide +kernel
theorem dX6_tell_2 : decode cX6_tell 2 = .ok (.putfield 63, 3) := by decide +kernel
theorem dX6_tell_5 : decode cX6_tell 5 = .ok (.aload_n 0, 1) := by decide +kernel
theorem dX6_tell_6 : decode cX6_tell 6 = .ok (.iload_n 2, 1) := by decide +kernel
theorem dX6_tell_7 : decode cX6_tell 7 = .ok (.putfield 27, 3) := by decide +kernel
theorem dX6_tell_10 : decode cX6_tell 10 = .ok (.aload_n 0, 1) := by decide +kernel
theorem dX6_tell_11 : decode cX6_tell 11 = .ok (.iload_n 3, 1) := by decide +kernel
theorem dX6_tell_12 : decode cX6_tell 12 = .ok (.putfield 66, 3) := by decide +kernel
theorem dX6_tell_15 : decode cX6_tell 15 = .ok (.return_, 1) := by decide +kernel
theorem dX6_putIn_0 : decode cX6_putIn 0 = .ok (.iload_n 2, 1) := by decide +kernel
theorem dX6_putIn_1 : decode cX6_putIn 1 = .ok (.istore 4, 2) := by decide +kernel
theorem dX6_putIn_3 : decode cX6_putIn 3 = .ok (.iload 4, 2) := by decide +kernel
theorem dX6_putIn_5 : decode cX6_putIn 5 = .ok (.iload_n 2, 1) := by decide +kernel
theorem dX6_putIn_6 : decode cX6_putIn 6 = .ok (.iload_n 3, 1) := by decide +kernel
theorem dX6_putIn_7 : decode cX6_putIn 7 = .ok (.iadd, 1) := by decide +kernel
theorem dX6_putIn_8 : decode cX6_putIn 8 = .ok (.if_icmp .ge 25, 3) := by decide +kernel
theorem dX6_putIn_11 : decode cX6_putIn 11 = .ok (.aload_n 0, 1) := by decide +kernel
theorem dX6_putIn_12 : decode cX6_putIn 12 = .ok (.getfield 14, 3) := by decide +kernel
theorem dX6_putIn_15 : decode cX6_putIn 15 = .ok (.aload_n 1, 1) := by decide +kernel
theorem dX6_putIn_16 : decode cX6_putIn 16 = .ok (.iload 4, 2) := by decide +kernel
theorem dX6_putIn_18 : decode cX6_putIn 18 = .ok (.invokevirtual 48, 3) := by decide +kernel
theorem dX6_putIn_21 : decode cX6_putIn 21 = .ok (.bipush 97, 2) := by decide +kernel
theorem dX6_putIn_23 : decode cX6_putIn 23 = .ok (.isub, 1) := by decide +kernel
theorem dX6_putIn_24 : decode cX6_putIn 24 = .ok (.invokevirtual 69, 3) := by decide +kernel
theorem dX6_putIn_27 : decode cX6_putIn 27 = .ok (.iinc 4 1, 3) := by decide +kernel
theorem dX6_putIn_30 : decode cX6_putIn 30 = .ok (.goto (-27), 3) := by decide +kernel
theorem dX6_putIn_33 : decode cX6_putIn 33 = .ok (.return_, 1) := by decide +kernel
theorem dX6_takeOrKeep_0 : decode cX6_takeOrKeep 0 = .ok (.iconst 0, 1) := by decide +kernel
theorem dX6_takeOrKeep_1 : decode cX6_takeOrKeep 1 = .ok (.istore 4, 2) := by decide +kernel
theorem dX6_takeOrKeep_3 : decode cX6_takeOrKeep 3 = .ok (.iload 4, 2) := by decide +kernel
theorem dX6_takeOrKeep_5 : decode cX6_takeOrKeep 5 = .ok (.iload_n 2, 1) := by decide +kernel
theorem dX6_takeOrKeep_6 : decode cX6_takeOrKeep 6 = .ok (.if_icmp .ge 38, 3) := by decide +kernel
theorem dX6_takeOrKeep_9 : decode cX6_takeOrKeep 9 = .ok (.iload_n 3, 1) := by decide +kernel
theorem dX6_takeOrKeep_10 : decode cX6_takeOrKeep 10 = .ok (.ifCond .eq 18, 3) := by decide +kernel
theorem dX6_takeOrKeep_13 : decode cX6_takeOrKeep 13 = .ok (.aload_n 0, 1) := by decide +kernel
theorem dX6_takeOrKeep_14 : decode cX6_takeOrKeep 14 = .ok (.getfield 14, 3) := by decide +kernel
theorem dX6_takeOrKeep_17 : decode cX6_takeOrKeep 17 = .ok (.aload_n 1, 1) := by decide +kernel
theorem dX6_takeOrKeep_18 : decode cX6_takeOrKeep 18 = .ok (.aload_n 0, 1) := by decide +kernel
theorem dX6_takeOrKeep_19 : decode cX6_takeOrKeep 19 = .ok (.getfield 23, 3) := by decide +kernel
theorem dX6_takeOrKeep_22 : decode cX6_takeOrKeep 22 = .ok (.invokevirtual 48, 3) := by decide +kernel
theorem dX6_takeOrKeep_25 : decode cX6_takeOrKeep 25 = .ok (.invokevirtual 69, 3) := by decide +kernel
theorem dX6_takeOrKeep_28 : decode cX6_takeOrKeep 28 = .ok (.aload_n 0, 1) := by decide +kernel
theorem dX6_takeOrKeep_29 : decode cX6_takeOrKeep 29 = .ok (.dup, 1) := by decide +kernel
theorem dX6_takeOrKeep_30 : decode cX6_takeOrKeep 30 = .ok (.getfield 23, 3) := by decide +kernel
theorem dX6_takeOrKeep_33 : decode cX6_takeOrKeep 33 = .ok (.iconst 1, 1) := by decide +kernel
theorem dX6_takeOrKeep_34 : decode cX6_takeOrKeep 34 = .ok (.iadd, 1) := by decide +kernel
theorem dX6_takeOrKeep_35 : decode cX6_takeOrKeep 35 = .ok (.putfield 23, 3) := by decide +kernel
theorem dX6_takeOrKeep_38 : decode cX6_takeOrKeep 38 = .ok (.iinc 4 1, 3) := by decide +kernel
theorem dX6_takeOrKeep_41 : decode cX6_takeOrKeep 41 = .ok (.goto (-38), 3) := by decide +kernel
theorem dX6_takeOrKeep_44 : decode cX6_takeOrKeep 44 = .ok (.return_, 1) := by decide +kernel
theorem dX6_endOf_0 : decode cX6_endOf 0 = .ok (.iload_n 1, 1) := by decide +kernel
theorem dX6_endOf_1 : decode cX6_endOf 1 = .ok (.istore_n 2, 1) := by decide +kernel
theorem dX6_endOf_2 : decode cX6_endOf 2 = .ok (.iload_n 2, 1) := by decide +kernel
theorem dX6_endOf_3 : decode cX6_endOf 3 = .ok (.aload_n 0, 1) := by decide +kernel
theorem dX6_endOf_4 : decode cX6_endOf 4 = .ok (.getfield 30, 3) := by decide +kernel
theorem dX6_endOf_7 : decode cX6_endOf 7 = .ok (.if_icmp .ge 23, 3) := by decide +kernel
theorem dX6_endOf_10 : decode cX6_endOf 10 = .ok (.aload_n 0, 1) := by decide +kernel
theorem dX6_endOf_11 : decode cX6_endOf 11 = .ok (.iload_n 2, 1) := by decide +kernel
theorem dX6_endOf_12 : decode cX6_endOf 12 = .ok (.invokevirtual 48, 3) := by decide +kernel
theorem dX6_endOf_15 : decode cX6_endOf 15 = .ok (.bipush 59, 2) := by decide +kernel
theorem dX6_endOf_17 : decode cX6_endOf 17 = .ok (.if_icmp .ne 7, 3) := by decide +kernel
theorem dX6_endOf_20 : decode cX6_endOf 20 = .ok (.iload_n 2, 1) := by decide +kernel
theorem dX6_endOf_21 : decode cX6_endOf 21 = .ok (.iconst 1, 1) := by decide +kernel
theorem dX6_endOf_22 : decode cX6_endOf 22 = .ok (.iadd, 1) := by decide +kernel
theorem dX6_endOf_23 : decode cX6_endOf 23 = .ok (.ireturn, 1) := by decide +kernel
theorem dX6_endOf_24 : decode cX6_endOf 24 = .ok (.iinc 2 1, 3) := by decide +kernel
theorem dX6_endOf_27 : decode cX6_endOf 27 = .ok (.goto (-25), 3) := by decide +kernel
theorem dX6_endOf_30 : decode cX6_endOf 30 = .ok (.aload_n 0, 1) := by decide +kernel
theorem dX6_endOf_31 : decode cX6_endOf 31 = .ok (.getfield 30, 3) := by decide +kernel
theorem dX6_endOf_34 : decode cX6_endOf 34 = .ok (.ireturn, 1) := by decide +kernel
theorem dX6_breakOf_0 : decode cX6_breakOf 0 = .ok (.aload_n 0, 1) := by decide +kernel
theorem dX6_breakOf_1 : decode cX6_breakOf 1 = .ok (.iload_n 1, 1) := by decide +kernel
theorem dX6_breakOf_2 : decode cX6_breakOf 2 = .ok (.invokevirtual 48, 3) := by decide +kernel
theorem dX6_breakOf_5 : decode cX6_breakOf 5 = .ok (.istore_n 2, 1) := by decide +kernel
theorem dX6_breakOf_6 : decode cX6_breakOf 6 = .ok (.iload_n 2, 1) := by decide +kernel
theorem dX6_breakOf_7 : decode cX6_breakOf 7 = .ok (.bipush 43, 2) := by decide +kernel
theorem dX6_breakOf_9 : decode cX6_breakOf 9 = .ok (.if_icmp .ne 9, 3) := by decide +kernel
theorem dX6_breakOf_12 : decode cX6_breakOf 12 = .ok (.aload_n 0, 1) := by decide +kernel
theorem dX6_breakOf_13 : decode cX6_breakOf 13 = .ok (.iload_n 1, 1) := by decide +kernel
theorem dX6_breakOf_14 : decode cX6_breakOf 14 = .ok (.invokestatic 72, 3) := by decide +kernel
theorem dX6_breakOf_17 : decode cX6_breakOf 17 = .ok (.ireturn, 1) := by decide +kernel
theorem dX6_breakOf_18 : decode cX6_breakOf 18 = .ok (.iload_n 2, 1) := by decide +kernel
theorem dX6_breakOf_19 : decode cX6_breakOf 19 = .ok (.bipush 61, 2) := by decide +kernel
theorem dX6_breakOf_21 : decode cX6_breakOf 21 = .ok (.if_icmp .eq 9, 3) := by decide +kernel
theorem dX6_breakOf_24 : decode cX6_breakOf 24 = .ok (.iload_n 2, 1) := by decide +kernel
theorem dX6_breakOf_25 : decode cX6_breakOf 25 = .ok (.bipush 45, 2) := by decide +kernel
theorem dX6_breakOf_27 : decode cX6_breakOf 27 = .ok (.if_icmp .ne 11, 3) := by decide +kernel
theorem dX6_breakOf_30 : decode cX6_breakOf 30 = .ok (.aload_n 0, 1) := by decide +kernel
theorem dX6_breakOf_31 : decode cX6_breakOf 31 = .ok (.iload_n 1, 1) := by decide +kernel
theorem dX6_breakOf_32 : decode cX6_breakOf 32 = .ok (.invokestatic 75, 3) := by decide +kernel
theorem dX6_breakOf_35 : decode cX6_breakOf 35 = .ok (.goto 4, 3) := by decide +kernel
theorem dX6_breakOf_38 : decode cX6_breakOf 38 = .ok (.iconst 0, 1) := by decide +kernel
theorem dX6_breakOf_39 : decode cX6_breakOf 39 = .ok (.ireturn, 1) := by decide +kernel
theorem dX6_breakOfLetters_0 : decode cX6_breakOfLetters 0 = .ok (.iconst 0, 1) := by decide +kernel
theorem dX6_breakOfLetters_1 : decode cX6_breakOfLetters 1 = .ok (.istore_n 2, 1) := by decide +kernel
theorem dX6_breakOfLetters_2 : decode cX6_breakOfLetters 2 = .ok (.iload_n 2, 1) := by decide +kernel
theorem dX6_breakOfLetters_3 : decode cX6_breakOfLetters 3 = .ok (.bipush 60, 2) := by decide +kernel
theorem dX6_breakOfLetters_5 : decode cX6_breakOfLetters 5 = .ok (.if_icmp .ge 28, 3) := by decide +kernel
theorem dX6_breakOfLetters_8 : decode cX6_breakOfLetters 8 = .ok (.aload_n 0, 1) := by decide +kernel
theorem dX6_breakOfLetters_9 : decode cX6_breakOfLetters 9 = .ok (.iload_n 1, 1) := by decide +kernel
theorem dX6_breakOfLetters_10 : decode cX6_breakOfLetters 10 = .ok (.iconst 1, 1) := by decide +kernel
theorem dX6_breakOfLetters_11 : decode cX6_breakOfLetters 11 = .ok (.iadd, 1) := by decide +kernel
theorem dX6_breakOfLetters_12 : decode cX6_breakOfLetters 12 = .ok (.iload_n 2, 1) := by decide +kernel
theorem dX6_breakOfLetters_13 : decode cX6_breakOfLetters 13 = .ok (.iadd, 1) := by decide +kernel
theorem dX6_breakOfLetters_14 : decode cX6_breakOfLetters 14 = .ok (.invokevirtual 48, 3) := by decide +kernel
theorem dX6_breakOfLetters_17 : decode cX6_breakOfLetters 17 = .ok (.bipush 97, 2) := by decide +kernel
theorem dX6_breakOfLetters_19 : decode cX6_breakOfLetters 19 = .ok (.bipush 104, 2) := by decide +kernel
theorem dX6_breakOfLetters_21 : decode cX6_breakOfLetters 21 = .ok (.invokestatic 78, 3) := by decide +kernel
theorem dX6_breakOfLetters_24 : decode cX6_breakOfLetters 24 = .ok (.ifCond .eq 9, 3) := by decide +kernel
theorem dX6_breakOfLetters_27 : decode cX6_breakOfLetters 27 = .ok (.iinc 2 1, 3) := by decide +kernel
theorem dX6_breakOfLetters_30 : decode cX6_breakOfLetters 30 = .ok (.goto (-28), 3) := by decide +kernel
theorem dX6_breakOfLetters_33 : decode cX6_breakOfLetters 33 = .ok (.iload_n 2, 1) := by decide +kernel
theorem dX6_breakOfLetters_34 : decode cX6_breakOfLetters 34 = .ok (.ifCond .le 21, 3) := by decide +kernel
theorem dX6_breakOfLetters_37 : decode cX6_breakOfLetters 37 = .ok (.aload_n 0, 1) := by decide +kernel
theorem dX6_breakOfLetters_38 : decode cX6_breakOfLetters 38 = .ok (.iload_n 1, 1) := by decide +kernel
theorem dX6_breakOfLetters_39 : decode cX6_breakOfLetters 39 = .ok (.iconst 1, 1) := by decide +kernel
theorem dX6_breakOfLetters_40 : decode cX6_breakOfLetters 40 = .ok (.iadd, 1) := by decide +kernel
theorem dX6_breakOfLetters_41 : decode cX6_breakOfLetters 41 = .ok (.iload_n 2, 1) := by decide +kernel
theorem dX6_breakOfLetters_42 : decode cX6_breakOfLetters 42 = .ok (.iadd, 1) := by decide +kernel
theorem dX6_breakOfLetters_43 : decode cX6_breakOfLetters 43 = .ok (.invokevirtual 48, 3) := by decide +kernel
theorem dX6_breakOfLetters_46 : decode cX6_breakOfLetters 46 = .ok (.bipush 59, 2) := by decide +kernel
theorem dX6_breakOfLetters_48 : decode cX6_breakOfLetters 48 = .ok (.if_icmp .ne 7, 3) := by decide +kernel
theorem dX6_breakOfLetters_51 : decode cX6_breakOfLetters 51 = .ok (.iconst (-1), 1) := by decide +kernel
theorem dX6_breakOfLetters_52 : decode cX6_breakOfLetters 52 = .ok (.goto 6, 3) := by decide +kernel
theorem dX6_breakOfLetters_55 : decode cX6_breakOfLetters 55 = .ok (.iload_n 2, 1) := by decide +kernel
theorem dX6_breakOfLetters_56 : decode cX6_breakOfLetters 56 = .ok (.iconst 1, 1) := by decide +kernel
theorem dX6_breakOfLetters_57 : decode cX6_breakOfLetters 57 = .ok (.iadd, 1) := by decide +kernel
theorem dX6_breakOfLetters_58 : decode cX6_breakOfLetters 58 = .ok (.ireturn, 1) := by decide +kernel
theorem dX6_breakOfNumber_0 : decode cX6_breakOfNumber 0 = .ok (.aload_n 0, 1) := by decide +kernel
theorem dX6_breakOfNumber_1 : decode cX6_breakOfNumber 1 = .ok (.iload_n 1, 1) := by decide +kernel
theorem dX6_breakOfNumber_2 : decode cX6_breakOfNumber 2 = .ok (.iconst 1, 1) := by decide +kernel
theorem dX6_breakOfNumber_3 : decode cX6_breakOfNumber 3 = .ok (.iadd, 1) := by decide +kernel
theorem dX6_breakOfNumber_4 : decode cX6_breakOfNumber 4 = .ok (.invokevirtual 48, 3) := by decide +kernel
theorem dX6_breakOfNumber_7 : decode cX6_breakOfNumber 7 = .ok (.bipush 49, 2) := by decide +kernel
theorem dX6_breakOfNumber_9 : decode cX6_breakOfNumber 9 = .ok (.bipush 57, 2) := by decide +kernel
theorem dX6_breakOfNumber_11 : decode cX6_breakOfNumber 11 = .ok (.invokestatic 78, 3) := by decide +kernel
theorem dX6_breakOfNumber_14 : decode cX6_breakOfNumber 14 = .ok (.ifCond .ne 5, 3) := by decide +kernel
theorem dX6_breakOfNumber_17 : decode cX6_breakOfNumber 17 = .ok (.iconst 1, 1) := by decide +kernel
theorem dX6_breakOfNumber_18 : decode cX6_breakOfNumber 18 = .ok (.ireturn, 1) := by decide +kernel
theorem dX6_breakOfNumber_19 : decode cX6_breakOfNumber 19 = .ok (.aload_n 0, 1) := by decide +kernel
theorem dX6_breakOfNumber_20 : decode cX6_breakOfNumber 20 = .ok (.iload_n 1, 1) := by decide +kernel
theorem dX6_breakOfNumber_21 : decode cX6_breakOfNumber 21 = .ok (.iconst 2, 1) := by decide +kernel
theorem dX6_breakOfNumber_22 : decode cX6_breakOfNumber 22 = .ok (.iadd, 1) := by decide +kernel
theorem dX6_breakOfNumber_23 : decode cX6_breakOfNumber 23 = .ok (.invokevirtual 48, 3) := by decide +kernel
theorem dX6_breakOfNumber_26 : decode cX6_breakOfNumber 26 = .ok (.bipush 48, 2) := by decide +kernel
theorem dX6_breakOfNumber_28 : decode cX6_breakOfNumber 28 = .ok (.bipush 57, 2) := by decide +kernel
theorem dX6_breakOfNumber_30 : decode cX6_breakOfNumber 30 = .ok (.invokestatic 78, 3) := by decide +kernel
theorem dX6_breakOfNumber_33 : decode cX6_breakOfNumber 33 = .ok (.ifCond .eq 7, 3) := by decide +kernel
theorem dX6_breakOfNumber_36 : decode cX6_breakOfNumber 36 = .ok (.iconst 2, 1) := by decide +kernel
theorem dX6_breakOfNumber_37 : decode cX6_breakOfNumber 37 = .ok (.goto 4, 3) := by decide +kernel
theorem dX6_breakOfNumber_40 : decode cX6_breakOfNumber 40 = .ok (.iconst 1, 1) := by decide +kernel
theorem dX6_breakOfNumber_41 : decode cX6_breakOfNumber 41 = .ok (.istore_n 2, 1) := by decide +kernel
theorem dX6_breakOfNumber_42 : decode cX6_breakOfNumber 42 = .ok (.aload_n 0, 1) := by decide +kernel
theorem dX6_breakOfNumber_43 : decode cX6_breakOfNumber 43 = .ok (.iload_n 1, 1) := by decide +kernel
theorem dX6_breakOfNumber_44 : decode cX6_breakOfNumber 44 = .ok (.iconst 1, 1) := by decide +kernel
theorem dX6_breakOfNumber_45 : decode cX6_breakOfNumber 45 = .ok (.iadd, 1) := by decide +kernel
theorem dX6_breakOfNumber_46 : decode cX6_breakOfNumber 46 = .ok (.iload_n 2, 1) := by decide +kernel
theorem dX6_breakOfNumber_47 : decode cX6_breakOfNumber 47 = .ok (.iadd, 1) := by decide +kernel
theorem dX6_breakOfNumber_48 : decode cX6_breakOfNumber 48 = .ok (.invokevirtual 48, 3) := by decide +kernel
theorem dX6_breakOfNumber_51 : decode cX6_breakOfNumber 51 = .ok (.bipush 59, 2) := by decide +kernel
theorem dX6_breakOfNumber_53 : decode cX6_breakOfNumber 53 = .ok (.if_icmp .ne 7, 3) := by decide +kernel
theorem dX6_breakOfNumber_56 : decode cX6_breakOfNumber 56 = .ok (.iconst (-1), 1) := by decide +kernel
theorem dX6_breakOfNumber_57 : decode cX6_breakOfNumber 57 = .ok (.goto 6, 3) := by decide +kernel
theorem dX6_breakOfNumber_60 : decode cX6_breakOfNumber 60 = .ok (.iload_n 2, 1) := by decide +kernel
theorem dX6_breakOfNumber_61 : decode cX6_breakOfNumber 61 = .ok (.iconst 1, 1) := by decide +kernel
theorem dX6_breakOfNumber_62 : decode cX6_breakOfNumber 62 = .ok (.iadd, 1) := by decide +kernel
theorem dX6_breakOfNumber_63 : decode cX6_breakOfNumber 63 = .ok (.ireturn, 1) := by decide +kernel
theorem dX6_numberAt_0 : decode cX6_numberAt 0 = .ok (.aload_n 0, 1) := by decide +kernel
theorem dX6_numberAt_1 : decode cX6_numberAt 1 = .ok (.iload_n 1, 1) := by decide +kernel
theorem dX6_numberAt_2 : decode cX6_numberAt 2 = .ok (.invokevirtual 48, 3) := by decide +kernel
theorem dX6_numberAt_5 : decode cX6_numberAt 5 = .ok (.bipush 48, 2) := by decide +kernel
theorem dX6_numberAt_7 : decode cX6_numberAt 7 = .ok (.isub, 1) := by decide +kernel
theorem dX6_numberAt_8 : decode cX6_numberAt 8 = .ok (.istore_n 2, 1) := by decide +kernel
theorem dX6_numberAt_9 : decode cX6_numberAt 9 = .ok (.aload_n 0, 1) := by decide +kernel
theorem dX6_numberAt_10 : decode cX6_numberAt 10 = .ok (.iload_n 1, 1) := by decide +kernel
theorem dX6_numberAt_11 : decode cX6_numberAt 11 = .ok (.iconst 1, 1) := by decide +kernel
theorem dX6_numberAt_12 : decode cX6_numberAt 12 = .ok (.iadd, 1) := by decide +kernel
theorem dX6_numberAt_13 : decode cX6_numberAt 13 = .ok (.invokevirtual 48, 3) := by decide +kernel
theorem dX6_numberAt_16 : decode cX6_numberAt 16 = .ok (.istore_n 3, 1) := by decide +kernel
theorem dX6_numberAt_17 : decode cX6_numberAt 17 = .ok (.iload_n 3, 1) := by decide +kernel
theorem dX6_numberAt_18 : decode cX6_numberAt 18 = .ok (.bipush 59, 2) := by decide +kernel
theorem dX6_numberAt_20 : decode cX6_numberAt 20 = .ok (.if_icmp .ne 7, 3) := by decide +kernel
theorem dX6_numberAt_23 : decode cX6_numberAt 23 = .ok (.iload_n 2, 1) := by decide +kernel
theorem dX6_numberAt_24 : decode cX6_numberAt 24 = .ok (.goto 12, 3) := by decide +kernel
theorem dX6_numberAt_27 : decode cX6_numberAt 27 = .ok (.iload_n 2, 1) := by decide +kernel
theorem dX6_numberAt_28 : decode cX6_numberAt 28 = .ok (.bipush 10, 2) := by decide +kernel
theorem dX6_numberAt_30 : decode cX6_numberAt 30 = .ok (.imul, 1) := by decide +kernel
theorem dX6_numberAt_31 : decode cX6_numberAt 31 = .ok (.iload_n 3, 1) := by decide +kernel
theorem dX6_numberAt_32 : decode cX6_numberAt 32 = .ok (.iadd, 1) := by decide +kernel
theorem dX6_numberAt_33 : decode cX6_numberAt 33 = .ok (.bipush 48, 2) := by decide +kernel
theorem dX6_numberAt_35 : decode cX6_numberAt 35 = .ok (.isub, 1) := by decide +kernel
theorem dX6_numberAt_36 : decode cX6_numberAt 36 = .ok (.ireturn, 1) := by decide +kernel
theorem dX7_init_0 : decode cX7_init 0 = .ok (.aload_n 0, 1) := by decide +kernel
theorem dX7_init_1 : decode cX7_init 1 = .ok (.invokespecial 3, 3) := by decide +kernel
theorem dX7_init_4 : decode cX7_init 4 = .ok (.aload_n 0, 1) := by decide +kernel
theorem dX7_init_5 : decode cX7_init 5 = .ok (.iload_n 1, 1) := by decide +kernel
theorem dX7_init_6 : decode cX7_init 6 = .ok (.iconst 0, 1) := by decide +kernel
theorem dX7_init_7 : decode cX7_init 7 = .ok (.invokestatic 9, 3) := by decide +kernel
theorem dX7_init_10 : decode cX7_init 10 = .ok (.newarray .int, 2) := by decide +kernel
theorem dX7_init_12 : decode cX7_init 12 = .ok (.putfield 15, 3) := by decide +kernel
theorem dX7_init_15 : decode cX7_init 15 = .ok (.return_, 1) := by decide +kernel
theorem dX7_at_0 : decode cX7_at 0 = .ok (.iload_n 1, 1) := by decide +kernel
theorem dX7_at_1 : decode cX7_at 1 = .ok (.ifCond .lt 20, 3) := by decide +kernel
theorem dX7_at_4 : decode cX7_at 4 = .ok (.iload_n 1, 1) := by decide +kernel
theorem dX7_at_5 : decode cX7_at 5 = .ok (.aload_n 0, 1) := by decide +kernel
theorem dX7_at_6 : decode cX7_at 6 = .ok (.getfield 21, 3) := by decide +kernel
theorem dX7_at_9 : decode cX7_at 9 = .ok (.if_icmp .ge 12, 3) := by decide +kernel
theorem dX7_at_12 : decode cX7_at 12 = .ok (.iload_n 1, 1) := by decide +kernel
theorem dX7_at_13 : decode cX7_at 13 = .ok (.aload_n 0, 1) := by decide +kernel
theorem dX7_at_14 : decode cX7_at 14 = .ok (.getfield 15, 3) := by decide +kernel
theorem dX7_at_17 : decode cX7_at 17 = .ok (.arraylength, 1) := by decide +kernel
theorem dX7_at_18 : decode cX7_at 18 = .ok (.if_icmp .lt 5, 3) := by decide +kernel
theorem dX7_at_21 : decode cX7_at 21 = .ok (.iconst (-1), 1) := by decide +kernel
theorem dX7_at_22 : decode cX7_at 22 = .ok (.ireturn, 1) := by decide +kernel
theorem dX7_at_23 : decode cX7_at 23 = .ok (.aload_n 0, 1) := by decide +kernel
theorem dX7_at_24 : decode cX7_at 24 = .ok (.getfield 15, 3) := by decide +kernel
theorem dX7_at_27 : decode cX7_at 27 = .ok (.iload_n 1, 1) := by decide +kernel
theorem dX7_at_28 : decode cX7_at 28 = .ok (.iaload, 1) := by decide +kernel
theorem dX7_at_29 : decode cX7_at 29 = .ok (.ireturn, 1) := by decide +kernel
theorem dX7_put_0 : decode cX7_put 0 = .ok (.iload_n 1, 1) := by decide +kernel
theorem dX7_put_1 : decode cX7_put 1 = .ok (.ifCond .lt 27, 3) := by decide +kernel
theorem dX7_put_4 : decode cX7_put 4 = .ok (.iload_n 1, 1) := by decide +kernel
theorem dX7_put_5 : decode cX7_put 5 = .ok (.aload_n 0, 1) := by decide +kernel
theorem dX7_put_6 : decode cX7_put 6 = .ok (.getfield 21, 3) := by decide +kernel
theorem dX7_put_9 : decode cX7_put 9 = .ok (.if_icmp .ge 19, 3) := by decide +kernel
theorem dX7_put_12 : decode cX7_put 12 = .ok (.iload_n 1, 1) := by decide +kernel
theorem dX7_put_13 : decode cX7_put 13 = .ok (.aload_n 0, 1) := by decide +kernel
theorem dX7_put_14 : decode cX7_put 14 = .ok (.getfield 15, 3) := by decide +kernel
theorem dX7_put_17 : decode cX7_put 17 = .ok (.arraylength, 1) := by decide +kernel
theorem dX7_put_18 : decode cX7_put 18 = .ok (.if_icmp .ge 10, 3) := by decide +kernel
theorem dX7_put_21 : decode cX7_put 21 = .ok (.aload_n 0, 1) := by decide +kernel
theorem dX7_put_22 : decode cX7_put 22 = .ok (.getfield 15, 3) := by decide +kernel
theorem dX7_put_25 : decode cX7_put 25 = .ok (.iload_n 1, 1) := by decide +kernel
theorem dX7_put_26 : decode cX7_put 26 = .ok (.iload_n 2, 1) := by decide +kernel
theorem dX7_put_27 : decode cX7_put 27 = .ok (.iastore, 1) := by decide +kernel
theorem dX7_put_28 : decode cX7_put 28 = .ok (.return_, 1) := by decide +kernel
theorem dX7_add_0 : decode cX7_add 0 = .ok (.aload_n 0, 1) := by decide +kernel
theorem dX7_add_1 : decode cX7_add 1 = .ok (.getfield 21, 3) := by decide +kernel
theorem dX7_add_4 : decode cX7_add 4 = .ok (.ifCond .lt 35, 3) := by decide +kernel
theorem dX7_add_7 : decode cX7_add 7 = .ok (.aload_n 0, 1) := by decide +kernel
theorem dX7_add_8 : decode cX7_add 8 = .ok (.getfield 21, 3) := by decide +kernel
theorem dX7_add_11 : decode cX7_add 11 = .ok (.aload_n 0, 1) := by decide +kernel
theorem dX7_add_12 : decode cX7_add 12 = .ok (.getfield 15, 3) := by decide +kernel
theorem dX7_add_15 : decode cX7_add 15 = .ok (.arraylength, 1) := by decide +kernel
theorem dX7_add_16 : decode cX7_add 16 = .ok (.if_icmp .ge 23, 3) := by decide +kernel
theorem dX7_add_19 : decode cX7_add 19 = .ok (.aload_n 0, 1) := by decide +kernel
theorem dX7_add_20 : decode cX7_add 20 = .ok (.getfield 15, 3) := by decide +kernel
theorem dX7_add_23 : decode cX7_add 23 = .ok (.aload_n 0, 1) := by decide +kernel
theorem dX7_add_24 : decode cX7_add 24 = .ok (.getfield 21, 3) := by decide +kernel
theorem dX7_add_27 : decode cX7_add 27 = .ok (.iload_n 1, 1) := by decide +kernel
theorem dX7_add_28 : decode cX7_add 28 = .ok (.iastore, 1) := by decide +kernel
theorem dX7_add_29 : decode cX7_add 29 = .ok (.aload_n 0, 1) := by decide +kernel
theorem dX7_add_30 : decode cX7_add 30 = .ok (.dup, 1) := by decide +kernel
theorem dX7_add_31 : decode cX7_add 31 = .ok (.getfield 21, 3) := by decide +kernel
theorem dX7_add_34 : decode cX7_add 34 = .ok (.iconst 1, 1) := by decide +kernel
theorem dX7_add_35 : decode cX7_add 35 = .ok (.iadd, 1) := by decide +kernel
theorem dX7_add_36 : decode cX7_add 36 = .ok (.putfield 21, 3) := by decide +kernel
theorem dX7_add_39 : decode cX7_add 39 = .ok (.return_, 1) := by decide +kernel
theorem dX7_empty_0 : decode cX7_empty 0 = .ok (.aload_n 0, 1) := by decide +kernel
theorem dX7_empty_1 : decode cX7_empty 1 = .ok (.iconst 0, 1) := by decide +kernel
theorem dX7_empty_2 : decode cX7_empty 2 = .ok (.putfield 21, 3) := by decide +kernel
theorem dX7_empty_5 : decode cX7_empty 5 = .ok (.return_, 1) := by decide +kernel
theorem dX7_remove_0 : decode cX7_remove 0 = .ok (.iload_n 1, 1) := by decide +kernel
theorem dX7_remove_1 : decode cX7_remove 1 = .ok (.iload_n 2, 1) := by decide +kernel
theorem dX7_remove_2 : decode cX7_remove 2 = .ok (.iadd, 1) := by decide +kernel
theorem dX7_remove_3 : decode cX7_remove 3 = .ok (.istore_n 3, 1) := by decide +kernel
theorem dX7_remove_4 : decode cX7_remove 4 = .ok (.iload_n 3, 1) := by decide +kernel
theorem dX7_remove_5 : decode cX7_remove 5 = .ok (.aload_n 0, 1) := by decide +kernel
theorem dX7_remove_6 : decode cX7_remove 6 = .ok (.getfield 21, 3) := by decide +kernel
theorem dX7_remove_9 : decode cX7_remove 9 = .ok (.if_icmp .ge 21, 3) := by decide +kernel
theorem dX7_remove_12 : decode cX7_remove 12 = .ok (.aload_n 0, 1) := by decide +kernel
theorem dX7_remove_13 : decode cX7_remove 13 = .ok (.iload_n 3, 1) := by decide +kernel
theorem dX7_remove_14 : decode cX7_remove 14 = .ok (.iload_n 2, 1) := by decide +kernel
theorem dX7_remove_15 : decode cX7_remove 15 = .ok (.isub, 1) := by decide +kernel
theorem dX7_remove_16 : decode cX7_remove 16 = .ok (.aload_n 0, 1) := by decide +kernel
theorem dX7_remove_17 : decode cX7_remove 17 = .ok (.iload_n 3, 1) := by decide +kernel
theorem dX7_remove_18 : decode cX7_remove 18 = .ok (.invokevirtual 25, 3) := by decide +kernel
theorem dX7_remove_21 : decode cX7_remove 21 = .ok (.invokevirtual 29, 3) := by decide +kernel
theorem dX7_remove_24 : decode cX7_remove 24 = .ok (.iinc 3 1, 3) := by decide +kernel
theorem dX7_remove_27 : decode cX7_remove 27 = .ok (.goto (-23), 3) := by decide +kernel
theorem dX7_remove_30 : decode cX7_remove 30 = .ok (.aload_n 0, 1) := by decide +kernel
theorem dX7_remove_31 : decode cX7_remove 31 = .ok (.aload_n 0, 1) := by decide +kernel
theorem dX7_remove_32 : decode cX7_remove 32 = .ok (.getfield 21, 3) := by decide +kernel
theorem dX7_remove_35 : decode cX7_remove 35 = .ok (.iload_n 2, 1) := by decide +kernel
theorem dX7_remove_36 : decode cX7_remove 36 = .ok (.isub, 1) := by decide +kernel
theorem dX7_remove_37 : decode cX7_remove 37 = .ok (.iconst 0, 1) := by decide +kernel
theorem dX7_remove_38 : decode cX7_remove 38 = .ok (.invokestatic 9, 3) := by decide +kernel
theorem dX7_remove_41 : decode cX7_remove 41 = .ok (.putfield 21, 3) := by decide +kernel
theorem dX7_remove_44 : decode cX7_remove 44 = .ok (.return_, 1) := by decide +kernel
theorem dX7_copyFrom_0 : decode cX7_copyFrom 0 = .ok (.aload_n 0, 1) := by decide +kernel
theorem dX7_copyFrom_1 : decode cX7_copyFrom 1 = .ok (.invokevirtual 33, 3) := by decide +kernel
theorem dX7_copyFrom_4 : decode cX7_copyFrom 4 = .ok (.iconst 0, 1) := by decide +kernel
theorem dX7_copyFrom_5 : decode cX7_copyFrom 5 = .ok (.istore_n 2, 1) := by decide +kernel
theorem dX7_copyFrom_6 : decode cX7_copyFrom 6 = .ok (.iload_n 2, 1) := by decide +kernel
theorem dX7_copyFrom_7 : decode cX7_copyFrom 7 = .ok (.aload_n 1, 1) := by decide +kernel
theorem dX7_copyFrom_8 : decode cX7_copyFrom 8 = .ok (.getfield 21, 3) := by decide +kernel
theorem dX7_copyFrom_11 : decode cX7_copyFrom 11 = .ok (.if_icmp .ge 18, 3) := by decide +kernel
theorem dX7_copyFrom_14 : decode cX7_copyFrom 14 = .ok (.aload_n 0, 1) := by decide +kernel
theorem dX7_copyFrom_15 : decode cX7_copyFrom 15 = .ok (.aload_n 1, 1) := by decide +kernel
theorem dX7_copyFrom_16 : decode cX7_copyFrom 16 = .ok (.iload_n 2, 1) := by decide +kernel
theorem dX7_copyFrom_17 : decode cX7_copyFrom 17 = .ok (.invokevirtual 25, 3) := by decide +kernel
theorem dX7_copyFrom_20 : decode cX7_copyFrom 20 = .ok (.invokevirtual 36, 3) := by decide +kernel
theorem dX7_copyFrom_23 : decode cX7_copyFrom 23 = .ok (.iinc 2 1, 3) := by decide +kernel
theorem dX7_copyFrom_26 : decode cX7_copyFrom 26 = .ok (.goto (-20), 3) := by decide +kernel
theorem dX7_copyFrom_29 : decode cX7_copyFrom 29 = .ok (.return_, 1) := by decide +kernel
theorem dX8_init_0 : decode cX8_init 0 = .ok (.aload_n 0, 1) := by decide +kernel
theorem dX8_init_1 : decode cX8_init 1 = .ok (.invokespecial 3, 3) := by decide +kernel
theorem dX8_init_4 : decode cX8_init 4 = .ok (.aload_n 0, 1) := by decide +kernel
theorem dX8_init_5 : decode cX8_init 5 = .ok (.bipush 57, 2) := by decide +kernel
theorem dX8_init_7 : decode cX8_init 7 = .ok (.newarray .int, 2) := by decide +kernel
theorem dX8_init_9 : decode cX8_init 9 = .ok (.putfield 9, 3) := by decide +kernel
theorem dX8_init_12 : decode cX8_init 12 = .ok (.aload_n 0, 1) := by decide +kernel
theorem dX8_init_13 : decode cX8_init 13 = .ok (.bipush 57, 2) := by decide +kernel
theorem dX8_init_15 : decode cX8_init 15 = .ok (.newarray .int, 2) := by decide +kernel
theorem dX8_init_17 : decode cX8_init 17 = .ok (.putfield 15, 3) := by decide +kernel
theorem dX8_init_20 : decode cX8_init 20 = .ok (.aload_n 0, 1) := by decide +kernel
theorem dX8_init_21 : decode cX8_init 21 = .ok (.bipush 57, 2) := by decide +kernel
theorem dX8_init_23 : decode cX8_init 23 = .ok (.newarray .int, 2) := by decide +kernel
theorem dX8_init_25 : decode cX8_init 25 = .ok (.putfield 18, 3) := by decide +kernel
theorem dX8_init_28 : decode cX8_init 28 = .ok (.aload_n 0, 1) := by decide +kernel
theorem dX8_init_29 : decode cX8_init 29 = .ok (.bipush 57, 2) := by decide +kernel
theorem dX8_init_31 : decode cX8_init 31 = .ok (.newarray .int, 2) := by decide +kernel
theorem dX8_init_33 : decode cX8_init 33 = .ok (.putfield 21, 3) := by decide +kernel
theorem dX8_init_36 : decode cX8_init 36 = .ok (.return_, 1) := by decide +kernel
theorem dX8_rebuild_0 : decode cX8_rebuild 0 = .ok (.aload_n 1, 1) := by decide +kernel
theorem dX8_rebuild_1 : decode cX8_rebuild 1 = .ok (.getfield 24, 3) := by decide +kernel
theorem dX8_rebuild_4 : decode cX8_rebuild 4 = .ok (.getfield 30, 3) := by decide +kernel
theorem dX8_rebuild_7 : decode cX8_rebuild 7 = .ok (.istore_n 3, 1) := by decide +kernel
theorem dX8_rebuild_8 : decode cX8_rebuild 8 = .ok (.aload_n 1, 1) := by decide +kernel
theorem dX8_rebuild_9 : decode cX8_rebuild 9 = .ok (.getfield 36, 3) := by decide +kernel
theorem dX8_rebuild_12 : decode cX8_rebuild 12 = .ok (.getfield 30, 3) := by decide +kernel
theorem dX8_rebuild_15 : decode cX8_rebuild 15 = .ok (.istore 4, 2) := by decide +kernel
theorem dX8_rebuild_17 : decode cX8_rebuild 17 = .ok (.aload_n 0, 1) := by decide +kernel
theorem dX8_rebuild_18 : decode cX8_rebuild 18 = .ok (.iload_n 3, 1) := by decide +kernel
theorem dX8_rebuild_19 : decode cX8_rebuild 19 = .ok (.iload 4, 2) := by decide +kernel
theorem dX8_rebuild_21 : decode cX8_rebuild 21 = .ok (.iadd, 1) := by decide +kernel
theorem dX8_rebuild_22 : decode cX8_rebuild 22 = .ok (.aload_n 2, 1) := by decide +kernel
theorem dX8_rebuild_23 : decode cX8_rebuild 23 = .ok (.getfield 39, 3) := by decide +kernel
theorem dX8_rebuild_26 : decode cX8_rebuild 26 = .ok (.iadd, 1) := by decide +kernel
theorem dX8_rebuild_27 : decode cX8_rebuild 27 = .ok (.iconst 2, 1) := by decide +kernel
theorem dX8_rebuild_28 : decode cX8_rebuild 28 = .ok (.idiv, 1) := by decide +kernel
theorem dX8_rebuild_29 : decode cX8_rebuild 29 = .ok (.putfield 44, 3) := by decide +kernel
theorem dX8_rebuild_32 : decode cX8_rebuild 32 = .ok (.aload_n 0, 1) := by decide +kernel
theorem dX8_rebuild_33 : decode cX8_rebuild 33 = .ok (.getfield 44, 3) := by decide +kernel
theorem dX8_rebuild_36 : decode cX8_rebuild 36 = .ok (.istore 5, 2) := by decide +kernel
theorem dX8_rebuild_38 : decode cX8_rebuild 38 = .ok (.aload_n 0, 1) := by decide +kernel
theorem dX8_rebuild_39 : decode cX8_rebuild 39 = .ok (.iload 5, 2) := by decide +kernel
theorem dX8_rebuild_41 : decode cX8_rebuild 41 = .ok (.iconst (-1), 1) := by decide +kernel
theorem dX8_rebuild_42 : decode cX8_rebuild 42 = .ok (.iconst (-1), 1) := by decide +kernel
theorem dX8_rebuild_43 : decode cX8_rebuild 43 = .ok (.iload_n 3, 1) := by decide +kernel
theorem dX8_rebuild_44 : decode cX8_rebuild 44 = .ok (.iload 4, 2) := by decide +kernel
theorem dX8_rebuild_46 : decode cX8_rebuild 46 = .ok (.invokevirtual 45, 3) := by decide +kernel
theorem dX8_rebuild_49 : decode cX8_rebuild 49 = .ok (.aload_n 2, 1) := by decide +kernel
theorem dX8_rebuild_50 : decode cX8_rebuild 50 = .ok (.getfield 39, 3) := by decide +kernel
theorem dX8_rebuild_53 : decode cX8_rebuild 53 = .ok (.istore 6, 2) := by decide +kernel
theorem dX8_rebuild_55 : decode cX8_rebuild 55 = .ok (.iload 6, 2) := by decide +kernel
theorem dX8_rebuild_57 : decode cX8_rebuild 57 = .ok (.ifCond .lt 149, 3) := by decide +kernel
theorem dX8_rebuild_60 : decode cX8_rebuild 60 = .ok (.aload_n 2, 1) := by decide +kernel
theorem dX8_rebuild_61 : decode cX8_rebuild 61 = .ok (.iload 6, 2) := by decide +kernel
theorem dX8_rebuild_63 : decode cX8_rebuild 63 = .ok (.iload_n 3, 1) := by decide +kernel
theorem dX8_rebuild_64 : decode cX8_rebuild 64 = .ok (.iload 4, 2) := by decide +kernel
theorem dX8_rebuild_66 : decode cX8_rebuild 66 = .ok (.isub, 1) := by decide +kernel
theorem dX8_rebuild_67 : decode cX8_rebuild 67 = .ok (.invokevirtual 49, 3) := by decide +kernel
theorem dX8_rebuild_70 : decode cX8_rebuild 70 = .ok (.istore 7, 2) := by decide +kernel
theorem dX8_rebuild_72 : decode cX8_rebuild 72 = .ok (.iload_n 3, 1) := by decide +kernel
theorem dX8_rebuild_73 : decode cX8_rebuild 73 = .ok (.iload 7, 2) := by decide +kernel
theorem dX8_rebuild_75 : decode cX8_rebuild 75 = .ok (.if_icmp .le 33, 3) := by decide +kernel
theorem dX8_rebuild_78 : decode cX8_rebuild 78 = .ok (.iinc 3 (-1), 3) := by decide +kernel
theorem dX8_rebuild_81 : decode cX8_rebuild 81 = .ok (.iinc 4 (-1), 3) := by decide +kernel
theorem dX8_rebuild_84 : decode cX8_rebuild 84 = .ok (.iinc 5 (-1), 3) := by decide +kernel
theorem dX8_rebuild_87 : decode cX8_rebuild 87 = .ok (.aload_n 0, 1) := by decide +kernel
theorem dX8_rebuild_88 : decode cX8_rebuild 88 = .ok (.iload 5, 2) := by decide +kernel
theorem dX8_rebuild_90 : decode cX8_rebuild 90 = .ok (.iconst 0, 1) := by decide +kernel
theorem dX8_rebuild_91 : decode cX8_rebuild 91 = .ok (.aload_n 1, 1) := by decide +kernel
theorem dX8_rebuild_92 : decode cX8_rebuild 92 = .ok (.getfield 24, 3) := by decide +kernel
theorem dX8_rebuild_95 : decode cX8_rebuild 95 = .ok (.iload_n 3, 1) := by decide +kernel
theorem dX8_rebuild_96 : decode cX8_rebuild 96 = .ok (.invokevirtual 53, 3) := by decide +kernel
theorem dX8_rebuild_99 : decode cX8_rebuild 99 = .ok (.iload_n 3, 1) := by decide +kernel
theorem dX8_rebuild_100 : decode cX8_rebuild 100 = .ok (.iload 4, 2) := by decide +kernel
theorem dX8_rebuild_102 : decode cX8_rebuild 102 = .ok (.invokevirtual 45, 3) := by decide +kernel
theorem dX8_rebuild_105 : decode cX8_rebuild 105 = .ok (.goto (-33), 3) := by decide +kernel
theorem dX8_rebuild_108 : decode cX8_rebuild 108 = .ok (.iload 6, 2) := by decide +kernel
theorem dX8_rebuild_110 : decode cX8_rebuild 110 = .ok (.ifCond .le 90, 3) := by decide +kernel
theorem dX8_rebuild_113 : decode cX8_rebuild 113 = .ok (.aload_n 2, 1) := by decide +kernel
theorem dX8_rebuild_114 : decode cX8_rebuild 114 = .ok (.iload 6, 2) := by decide +kernel
theorem dX8_rebuild_116 : decode cX8_rebuild 116 = .ok (.iload_n 3, 1) := by decide +kernel
theorem dX8_rebuild_117 : decode cX8_rebuild 117 = .ok (.iload 4, 2) := by decide +kernel
theorem dX8_rebuild_119 : decode cX8_rebuild 119 = .ok (.isub, 1) := by decide +kernel
theorem dX8_rebuild_120 : decode cX8_rebuild 120 = .ok (.invokevirtual 57, 3) := by decide +kernel
theorem dX8_rebuild_123 : decode cX8_rebuild 123 = .ok (.istore 8, 2) := by decide +kernel
theorem dX8_rebuild_125 : decode cX8_rebuild 125 = .ok (.iload_n 3, 1) := by decide +kernel
theorem dX8_rebuild_126 : decode cX8_rebuild 126 = .ok (.iload 8, 2) := by decide +kernel
theorem dX8_rebuild_128 : decode cX8_rebuild 128 = .ok (.ifCond .eq 7, 3) := by decide +kernel
theorem dX8_rebuild_131 : decode cX8_rebuild 131 = .ok (.iconst 0, 1) := by decide +kernel
theorem dX8_rebuild_132 : decode cX8_rebuild 132 = .ok (.goto 4, 3) := by decide +kernel
theorem dX8_rebuild_135 : decode cX8_rebuild 135 = .ok (.iconst 1, 1) := by decide +kernel
theorem dX8_rebuild_136 : decode cX8_rebuild 136 = .ok (.isub, 1) := by decide +kernel
theorem dX8_rebuild_137 : decode cX8_rebuild 137 = .ok (.istore_n 3, 1) := by decide +kernel
theorem dX8_rebuild_138 : decode cX8_rebuild 138 = .ok (.iload 4, 2) := by decide +kernel
theorem dX8_rebuild_140 : decode cX8_rebuild 140 = .ok (.iload 8, 2) := by decide +kernel
theorem dX8_rebuild_142 : decode cX8_rebuild 142 = .ok (.ifCond .eq 7, 3) := by decide +kernel
theorem dX8_rebuild_145 : decode cX8_rebuild 145 = .ok (.iconst 1, 1) := by decide +kernel
theorem dX8_rebuild_146 : decode cX8_rebuild 146 = .ok (.goto 4, 3) := by decide +kernel
theorem dX8_rebuild_149 : decode cX8_rebuild 149 = .ok (.iconst 0, 1) := by decide +kernel
theorem dX8_rebuild_150 : decode cX8_rebuild 150 = .ok (.isub, 1) := by decide +kernel
theorem dX8_rebuild_151 : decode cX8_rebuild 151 = .ok (.istore 4, 2) := by decide +kernel
theorem dX8_rebuild_153 : decode cX8_rebuild 153 = .ok (.iinc 5 (-1), 3) := by decide +kernel
theorem dX8_rebuild_156 : decode cX8_rebuild 156 = .ok (.aload_n 0, 1) := by decide +kernel
theorem dX8_rebuild_157 : decode cX8_rebuild 157 = .ok (.iload 5, 2) := by decide +kernel
theorem dX8_rebuild_159 : decode cX8_rebuild 159 = .ok (.iload 8, 2) := by decide +kernel
theorem dX8_rebuild_161 : decode cX8_rebuild 161 = .ok (.ifCond .eq 7, 3) := by decide +kernel
theorem dX8_rebuild_164 : decode cX8_rebuild 164 = .ok (.iconst 2, 1) := by decide +kernel
theorem dX8_rebuild_165 : decode cX8_rebuild 165 = .ok (.goto 4, 3) := by decide +kernel
theorem dX8_rebuild_168 : decode cX8_rebuild 168 = .ok (.iconst 1, 1) := by decide +kernel
theorem dX8_rebuild_169 : decode cX8_rebuild 169 = .ok (.iload 8, 2) := by decide +kernel
theorem dX8_rebuild_171 : decode cX8_rebuild 171 = .ok (.ifCond .eq 15, 3) := by decide +kernel
theorem dX8_rebuild_174 : decode cX8_rebuild 174 = .ok (.aload_n 1, 1) := by decide +kernel
theorem dX8_rebuild_175 : decode cX8_rebuild 175 = .ok (.getfield 36, 3) := by decide +kernel
theorem dX8_rebuild_178 : decode cX8_rebuild 178 = .ok (.iload 4, 2) := by decide +kernel
theorem dX8_rebuild_180 : decode cX8_rebuild 180 = .ok (.invokevirtual 53, 3) := by decide +kernel
theorem dX8_rebuild_183 : decode cX8_rebuild 183 = .ok (.goto 11, 3) := by decide +kernel
theorem dX8_rebuild_186 : decode cX8_rebuild 186 = .ok (.aload_n 1, 1) := by decide +kernel
theorem dX8_rebuild_187 : decode cX8_rebuild 187 = .ok (.getfield 24, 3) := by decide +kernel
theorem dX8_rebuild_190 : decode cX8_rebuild 190 = .ok (.iload_n 3, 1) := by decide +kernel
theorem dX8_rebuild_191 : decode cX8_rebuild 191 = .ok (.invokevirtual 53, 3) := by decide +kernel
theorem dX8_rebuild_194 : decode cX8_rebuild 194 = .ok (.iload_n 3, 1) := by decide +kernel
theorem dX8_rebuild_195 : decode cX8_rebuild 195 = .ok (.iload 4, 2) := by decide +kernel
theorem dX8_rebuild_197 : decode cX8_rebuild 197 = .ok (.invokevirtual 45, 3) := by decide +kernel
theorem dX8_rebuild_200 : decode cX8_rebuild 200 = .ok (.iinc 6 (-1), 3) := by decide +kernel
theorem dX8_rebuild_203 : decode cX8_rebuild 203 = .ok (.goto (-148), 3) := by decide +kernel
theorem dX8_rebuild_206 : decode cX8_rebuild 206 = .ok (.return_, 1) := by decide +kernel
theorem dX8_kindAt_0 : decode cX8_kindAt 0 = .ok (.iload_n 1, 1) := by decide +kernel
theorem dX8_kindAt_1 : decode cX8_kindAt 1 = .ok (.ifCond .lt 29, 3) := by decide +kernel
theorem dX8_kindAt_4 : decode cX8_kindAt 4 = .ok (.iload_n 1, 1) := by decide +kernel
theorem dX8_kindAt_5 : decode cX8_kindAt 5 = .ok (.aload_n 0, 1) := by decide +kernel
theorem dX8_kindAt_6 : decode cX8_kindAt 6 = .ok (.getfield 44, 3) := by decide +kernel
theorem dX8_kindAt_9 : decode cX8_kindAt 9 = .ok (.if_icmp .ge 21, 3) := by decide +kernel
theorem dX8_kindAt_12 : decode cX8_kindAt 12 = .ok (.iload_n 1, 1) := by decide +kernel
theorem dX8_kindAt_13 : decode cX8_kindAt 13 = .ok (.aload_n 0, 1) := by decide +kernel
theorem dX8_kindAt_14 : decode cX8_kindAt 14 = .ok (.getfield 9, 3) := by decide +kernel
theorem dX8_kindAt_17 : decode cX8_kindAt 17 = .ok (.arraylength, 1) := by decide +kernel
theorem dX8_kindAt_18 : decode cX8_kindAt 18 = .ok (.if_icmp .ge 12, 3) := by decide +kernel
theorem dX8_kindAt_21 : decode cX8_kindAt 21 = .ok (.aload_n 0, 1) := by decide +kernel
theorem dX8_kindAt_22 : decode cX8_kindAt 22 = .ok (.getfield 9, 3) := by decide +kernel
theorem dX8_kindAt_25 : decode cX8_kindAt 25 = .ok (.iload_n 1, 1) := by decide +kernel
theorem dX8_kindAt_26 : decode cX8_kindAt 26 = .ok (.iaload, 1) := by decide +kernel
theorem dX8_kindAt_27 : decode cX8_kindAt 27 = .ok (.goto 4, 3) := by decide +kernel
theorem dX8_kindAt_30 : decode cX8_kindAt 30 = .ok (.iconst (-1), 1) := by decide +kernel
theorem dX8_kindAt_31 : decode cX8_kindAt 31 = .ok (.ireturn, 1) := by decide +kernel
theorem dX8_letterOf_0 : decode cX8_letterOf 0 = .ok (.iload_n 1, 1) := by decide +kernel
theorem dX8_letterOf_1 : decode cX8_letterOf 1 = .ok (.ifCond .lt 29, 3) := by decide +kernel
theorem dX8_letterOf_4 : decode cX8_letterOf 4 = .ok (.iload_n 1, 1) := by decide +kernel
theorem dX8_letterOf_5 : decode cX8_letterOf 5 = .ok (.aload_n 0, 1) := by decide +kernel
theorem dX8_letterOf_6 : decode cX8_letterOf 6 = .ok (.getfield 44, 3) := by decide +kernel
theorem dX8_letterOf_9 : decode cX8_letterOf 9 = .ok (.if_icmp .ge 21, 3) := by decide +kernel
theorem dX8_letterOf_12 : decode cX8_letterOf 12 = .ok (.iload_n 1, 1) := by decide +kernel
theorem dX8_letterOf_13 : decode cX8_letterOf 13 = .ok (.aload_n 0, 1) := by decide +kernel
theorem dX8_letterOf_14 : decode cX8_letterOf 14 = .ok (.getfield 15, 3) := by decide +kernel
theorem dX8_letterOf_17 : decode cX8_letterOf 17 = .ok (.arraylength, 1) := by decide +kernel
theorem dX8_letterOf_18 : decode cX8_letterOf 18 = .ok (.if_icmp .ge 12, 3) := by decide +kernel
theorem dX8_letterOf_21 : decode cX8_letterOf 21 = .ok (.aload_n 0, 1) := by decide +kernel
theorem dX8_letterOf_22 : decode cX8_letterOf 22 = .ok (.getfield 15, 3) := by decide +kernel
theorem dX8_letterOf_25 : decode cX8_letterOf 25 = .ok (.iload_n 1, 1) := by decide +kernel
theorem dX8_letterOf_26 : decode cX8_letterOf 26 = .ok (.iaload, 1) := by decide +kernel
theorem dX8_letterOf_27 : decode cX8_letterOf 27 = .ok (.goto 4, 3) := by decide +kernel
theorem dX8_letterOf_30 : decode cX8_letterOf 30 = .ok (.iconst (-1), 1) := by decide +kernel
theorem dX8_letterOf_31 : decode cX8_letterOf 31 = .ok (.ireturn, 1) := by decide +kernel
theorem dX8_firstDoneAt_0 : decode cX8_firstDoneAt 0 = .ok (.iload_n 1, 1) := by decide +kernel
theorem dX8_firstDoneAt_1 : decode cX8_firstDoneAt 1 = .ok (.ifCond .lt 29, 3) := by decide +kernel
theorem dX8_firstDoneAt_4 : decode cX8_firstDoneAt 4 = .ok (.iload_n 1, 1) := by decide +kernel
theorem dX8_firstDoneAt_5 : decode cX8_firstDoneAt 5 = .ok (.aload_n 0, 1) := by decide +kernel
theorem dX8_firstDoneAt_6 : decode cX8_firstDoneAt 6 = .ok (.getfield 44, 3) := by decide +kernel
theorem dX8_firstDoneAt_9 : decode cX8_firstDoneAt 9 = .ok (.if_icmp .gt 21, 3) := by decide +kernel
theorem dX8_firstDoneAt_12 : decode cX8_firstDoneAt 12 = .ok (.iload_n 1, 1) := by decide +kernel
theorem dX8_firstDoneAt_13 : decode cX8_firstDoneAt 13 = .ok (.aload_n 0, 1) := by decide +kernel
theorem dX8_firstDoneAt_14 : decode cX8_firstDoneAt 14 = .ok (.getfield 18, 3) := by decide +kernel
theorem dX8_firstDoneAt_17 : decode cX8_firstDoneAt 17 = .ok (.arraylength, 1) := by decide +kernel
theorem dX8_firstDoneAt_18 : decode cX8_firstDoneAt 18 = .ok (.if_icmp .ge 12, 3) := by decide +kernel
theorem dX8_firstDoneAt_21 : decode cX8_firstDoneAt 21 = .ok (.aload_n 0, 1) := by decide +kernel
theorem dX8_firstDoneAt_22 : decode cX8_firstDoneAt 22 = .ok (.getfield 18, 3) := by decide +kernel
theorem dX8_firstDoneAt_25 : decode cX8_firstDoneAt 25 = .ok (.iload_n 1, 1) := by decide +kernel
theorem dX8_firstDoneAt_26 : decode cX8_firstDoneAt 26 = .ok (.iaload, 1) := by decide +kernel
theorem dX8_firstDoneAt_27 : decode cX8_firstDoneAt 27 = .ok (.goto 4, 3) := by decide +kernel
theorem dX8_firstDoneAt_30 : decode cX8_firstDoneAt 30 = .ok (.iconst (-1), 1) := by decide +kernel
theorem dX8_firstDoneAt_31 : decode cX8_firstDoneAt 31 = .ok (.ireturn, 1) := by decide +kernel
theorem dX8_secondDoneAt_0 : decode cX8_secondDoneAt 0 = .ok (.iload_n 1, 1) := by decide +kernel
theorem dX8_secondDoneAt_1 : decode cX8_secondDoneAt 1 = .ok (.ifCond .lt 29, 3) := by decide +kernel
theorem dX8_secondDoneAt_4 : decode cX8_secondDoneAt 4 = .ok (.iload_n 1, 1) := by decide +kernel
theorem dX8_secondDoneAt_5 : decode cX8_secondDoneAt 5 = .ok (.aload_n 0, 1) := by decide +kernel
theorem dX8_secondDoneAt_6 : decode cX8_secondDoneAt 6 = .ok (.getfield 44, 3) := by decide +kernel
theorem dX8_secondDoneAt_9 : decode cX8_secondDoneAt 9 = .ok (.if_icmp .gt 21, 3) := by decide +kernel
theorem dX8_secondDoneAt_12 : decode cX8_secondDoneAt 12 = .ok (.iload_n 1, 1) := by decide +kernel
theorem dX8_secondDoneAt_13 : decode cX8_secondDoneAt 13 = .ok (.aload_n 0, 1) := by decide +kernel
theorem dX8_secondDoneAt_14 : decode cX8_secondDoneAt 14 = .ok (.getfield 21, 3) := by decide +kernel
theorem dX8_secondDoneAt_17 : decode cX8_secondDoneAt 17 = .ok (.arraylength, 1) := by decide +kernel
theorem dX8_secondDoneAt_18 : decode cX8_secondDoneAt 18 = .ok (.if_icmp .ge 12, 3) := by decide +kernel
theorem dX8_secondDoneAt_21 : decode cX8_secondDoneAt 21 = .ok (.aload_n 0, 1) := by decide +kernel
theorem dX8_secondDoneAt_22 : decode cX8_secondDoneAt 22 = .ok (.getfield 21, 3) := by decide +kernel
theorem dX8_secondDoneAt_25 : decode cX8_secondDoneAt 25 = .ok (.iload_n 1, 1) := by decide +kernel
theorem dX8_secondDoneAt_26 : decode cX8_secondDoneAt 26 = .ok (.iaload, 1) := by decide +kernel
theorem dX8_secondDoneAt_27 : decode cX8_secondDoneAt 27 = .ok (.goto 4, 3) := by decide +kernel
theorem dX8_secondDoneAt_30 : decode cX8_secondDoneAt 30 = .ok (.iconst (-1), 1) := by decide +kernel
theorem dX8_secondDoneAt_31 : decode cX8_secondDoneAt 31 = .ok (.ireturn, 1) := by decide +kernel
theorem dX8_isEdit_0 : decode cX8_isEdit 0 = .ok (.aload_n 0, 1) := by decide +kernel
theorem dX8_isEdit_1 : decode cX8_isEdit 1 = .ok (.iload_n 1, 1) := by decide +kernel
theorem dX8_isEdit_2 : decode cX8_isEdit 2 = .ok (.invokevirtual 61, 3) := by decide +kernel
theorem dX8_isEdit_5 : decode cX8_isEdit 5 = .ok (.istore_n 2, 1) := by decide +kernel
theorem dX8_isEdit_6 : decode cX8_isEdit 6 = .ok (.iload_n 2, 1) := by decide +kernel
theorem dX8_isEdit_7 : decode cX8_isEdit 7 = .ok (.iconst 1, 1) := by decide +kernel
theorem dX8_isEdit_8 : decode cX8_isEdit 8 = .ok (.if_icmp .eq 8, 3) := by decide +kernel
theorem dX8_isEdit_11 : decode cX8_isEdit 11 = .ok (.iload_n 2, 1) := by decide +kernel
theorem dX8_isEdit_12 : decode cX8_isEdit 12 = .ok (.iconst 2, 1) := by decide +kernel
theorem dX8_isEdit_13 : decode cX8_isEdit 13 = .ok (.if_icmp .ne 7, 3) := by decide +kernel
theorem dX8_isEdit_16 : decode cX8_isEdit 16 = .ok (.iconst 1, 1) := by decide +kernel
theorem dX8_isEdit_17 : decode cX8_isEdit 17 = .ok (.goto 4, 3) := by decide +kernel
theorem dX8_isEdit_20 : decode cX8_isEdit 20 = .ok (.iconst 0, 1) := by decide +kernel
theorem dX8_isEdit_21 : decode cX8_isEdit 21 = .ok (.ireturn, 1) := by decide +kernel
theorem dX8_isMoved_0 : decode cX8_isMoved 0 = .ok (.aload_n 0, 1) := by decide +kernel
theorem dX8_isMoved_1 : decode cX8_isMoved 1 = .ok (.iload_n 1, 1) := by decide +kernel
theorem dX8_isMoved_2 : decode cX8_isMoved 2 = .ok (.invokevirtual 61, 3) := by decide +kernel
theorem dX8_isMoved_5 : decode cX8_isMoved 5 = .ok (.iconst 1, 1) := by decide +kernel
theorem dX8_isMoved_6 : decode cX8_isMoved 6 = .ok (.if_icmp .ne 29, 3) := by decide +kernel
theorem dX8_isMoved_9 : decode cX8_isMoved 9 = .ok (.aload_n 0, 1) := by decide +kernel
theorem dX8_isMoved_10 : decode cX8_isMoved 10 = .ok (.iload_n 2, 1) := by decide +kernel
theorem dX8_isMoved_11 : decode cX8_isMoved 11 = .ok (.invokevirtual 61, 3) := by decide +kernel
theorem dX8_isMoved_14 : decode cX8_isMoved 14 = .ok (.iconst 2, 1) := by decide +kernel
theorem dX8_isMoved_15 : decode cX8_isMoved 15 = .ok (.if_icmp .ne 20, 3) := by decide +kernel
theorem dX8_isMoved_18 : decode cX8_isMoved 18 = .ok (.aload_n 0, 1) := by decide +kernel
theorem dX8_isMoved_19 : decode cX8_isMoved 19 = .ok (.iload_n 1, 1) := by decide +kernel
theorem dX8_isMoved_20 : decode cX8_isMoved 20 = .ok (.invokevirtual 64, 3) := by decide +kernel
theorem dX8_isMoved_23 : decode cX8_isMoved 23 = .ok (.aload_n 0, 1) := by decide +kernel
theorem dX8_isMoved_24 : decode cX8_isMoved 24 = .ok (.iload_n 2, 1) := by decide +kernel
theorem dX8_isMoved_25 : decode cX8_isMoved 25 = .ok (.invokevirtual 64, 3) := by decide +kernel
theorem dX8_isMoved_28 : decode cX8_isMoved 28 = .ok (.if_icmp .ne 7, 3) := by decide +kernel
theorem dX8_isMoved_31 : decode cX8_isMoved 31 = .ok (.iconst 1, 1) := by decide +kernel
theorem dX8_isMoved_32 : decode cX8_isMoved 32 = .ok (.goto 4, 3) := by decide +kernel
theorem dX8_isMoved_35 : decode cX8_isMoved 35 = .ok (.iconst 0, 1) := by decide +kernel
theorem dX8_isMoved_36 : decode cX8_isMoved 36 = .ok (.ireturn, 1) := by decide +kernel
theorem dX8_writeTo_0 : decode cX8_writeTo 0 = .ok (.aload_n 1, 1) := by decide +kernel
theorem dX8_writeTo_1 : decode cX8_writeTo 1 = .ok (.invokevirtual 67, 3) := by decide +kernel
theorem dX8_writeTo_4 : decode cX8_writeTo 4 = .ok (.iconst 0, 1) := by decide +kernel
theorem dX8_writeTo_5 : decode cX8_writeTo 5 = .ok (.istore_n 2, 1) := by decide +kernel
theorem dX8_writeTo_6 : decode cX8_writeTo 6 = .ok (.iconst 0, 1) := by decide +kernel
theorem dX8_writeTo_7 : decode cX8_writeTo 7 = .ok (.istore_n 3, 1) := by decide +kernel
theorem dX8_writeTo_8 : decode cX8_writeTo 8 = .ok (.iload_n 3, 1) := by decide +kernel
theorem dX8_writeTo_9 : decode cX8_writeTo 9 = .ok (.aload_n 0, 1) := by decide +kernel
theorem dX8_writeTo_10 : decode cX8_writeTo 10 = .ok (.getfield 44, 3) := by decide +kernel
theorem dX8_writeTo_13 : decode cX8_writeTo 13 = .ok (.if_icmp .ge 37, 3) := by decide +kernel
theorem dX8_writeTo_16 : decode cX8_writeTo 16 = .ok (.aload_n 0, 1) := by decide +kernel
theorem dX8_writeTo_17 : decode cX8_writeTo 17 = .ok (.iload_n 3, 1) := by decide +kernel
theorem dX8_writeTo_18 : decode cX8_writeTo 18 = .ok (.iconst 1, 1) := by decide +kernel
theorem dX8_writeTo_19 : decode cX8_writeTo 19 = .ok (.iadd, 1) := by decide +kernel
theorem dX8_writeTo_20 : decode cX8_writeTo 20 = .ok (.invokevirtual 61, 3) := by decide +kernel
theorem dX8_writeTo_23 : decode cX8_writeTo 23 = .ok (.aload_n 0, 1) := by decide +kernel
theorem dX8_writeTo_24 : decode cX8_writeTo 24 = .ok (.iload_n 3, 1) := by decide +kernel
theorem dX8_writeTo_25 : decode cX8_writeTo 25 = .ok (.invokevirtual 61, 3) := by decide +kernel
theorem dX8_writeTo_28 : decode cX8_writeTo 28 = .ok (.if_icmp .eq 16, 3) := by decide +kernel
theorem dX8_writeTo_31 : decode cX8_writeTo 31 = .ok (.aload_n 0, 1) := by decide +kernel
theorem dX8_writeTo_32 : decode cX8_writeTo 32 = .ok (.aload_n 1, 1) := by decide +kernel
theorem dX8_writeTo_33 : decode cX8_writeTo 33 = .ok (.iload_n 2, 1) := by decide +kernel
theorem dX8_writeTo_34 : decode cX8_writeTo 34 = .ok (.iload_n 3, 1) := by decide +kernel
theorem dX8_writeTo_35 : decode cX8_writeTo 35 = .ok (.iconst 1, 1) := by decide +kernel
theorem dX8_writeTo_36 : decode cX8_writeTo 36 = .ok (.iadd, 1) := by decide +kernel
theorem dX8_writeTo_37 : decode cX8_writeTo 37 = .ok (.invokevirtual 70, 3) := by decide +kernel
theorem dX8_writeTo_40 : decode cX8_writeTo 40 = .ok (.iload_n 3, 1) := by decide +kernel
theorem dX8_writeTo_41 : decode cX8_writeTo 41 = .ok (.iconst 1, 1) := by decide +kernel
theorem dX8_writeTo_42 : decode cX8_writeTo 42 = .ok (.iadd, 1) := by decide +kernel
theorem dX8_writeTo_43 : decode cX8_writeTo 43 = .ok (.istore_n 2, 1) := by decide +kernel
theorem dX8_writeTo_44 : decode cX8_writeTo 44 = .ok (.iinc 3 1, 3) := by decide +kernel
theorem dX8_writeTo_47 : decode cX8_writeTo 47 = .ok (.goto (-39), 3) := by decide +kernel
theorem dX8_writeTo_50 : decode cX8_writeTo 50 = .ok (.return_, 1) := by decide +kernel
theorem dX8_writePart_0 : decode cX8_writePart 0 = .ok (.aload_n 0, 1) := by decide +kernel
theorem dX8_writePart_1 : decode cX8_writePart 1 = .ok (.iload_n 2, 1) := by decide +kernel
theorem dX8_writePart_2 : decode cX8_writePart 2 = .ok (.invokevirtual 61, 3) := by decide +kernel
theorem dX8_writePart_5 : decode cX8_writePart 5 = .ok (.istore 4, 2) := by decide +kernel
theorem dX8_writePart_7 : decode cX8_writePart 7 = .ok (.iload 4, 2) := by decide +kernel
theorem dX8_writePart_9 : decode cX8_writePart 9 = .ok (.iconst 2, 1) := by decide +kernel
theorem dX8_writePart_10 : decode cX8_writePart 10 = .ok (.if_icmp .ne 40, 3) := by decide +kernel
theorem dX8_writePart_13 : decode cX8_writePart 13 = .ok (.aload_n 1, 1) := by decide +kernel
theorem dX8_writePart_14 : decode cX8_writePart 14 = .ok (.bipush 43, 2) := by decide +kernel
theorem dX8_writePart_16 : decode cX8_writePart 16 = .ok (.invokevirtual 74, 3) := by decide +kernel
theorem dX8_writePart_19 : decode cX8_writePart 19 = .ok (.iload_n 2, 1) := by decide +kernel
theorem dX8_writePart_20 : decode cX8_writePart 20 = .ok (.istore 5, 2) := by decide +kernel
theorem dX8_writePart_22 : decode cX8_writePart 22 = .ok (.iload 5, 2) := by decide +kernel
theorem dX8_writePart_24 : decode cX8_writePart 24 = .ok (.iload_n 3, 1) := by decide +kernel
theorem dX8_writePart_25 : decode cX8_writePart 25 = .ok (.if_icmp .ge 22, 3) := by decide +kernel
theorem dX8_writePart_28 : decode cX8_writePart 28 = .ok (.aload_n 1, 1) := by decide +kernel
theorem dX8_writePart_29 : decode cX8_writePart 29 = .ok (.bipush 97, 2) := by decide +kernel
theorem dX8_writePart_31 : decode cX8_writePart 31 = .ok (.aload_n 0, 1) := by decide +kernel
theorem dX8_writePart_32 : decode cX8_writePart 32 = .ok (.iload 5, 2) := by decide +kernel
theorem dX8_writePart_34 : decode cX8_writePart 34 = .ok (.invokevirtual 64, 3) := by decide +kernel
theorem dX8_writePart_37 : decode cX8_writePart 37 = .ok (.iadd, 1) := by decide +kernel
theorem dX8_writePart_38 : decode cX8_writePart 38 = .ok (.invokevirtual 74, 3) := by decide +kernel
theorem dX8_writePart_41 : decode cX8_writePart 41 = .ok (.iinc 5 1, 3) := by decide +kernel
theorem dX8_writePart_44 : decode cX8_writePart 44 = .ok (.goto (-22), 3) := by decide +kernel
theorem dX8_writePart_47 : decode cX8_writePart 47 = .ok (.goto 26, 3) := by decide +kernel
theorem dX8_writePart_50 : decode cX8_writePart 50 = .ok (.aload_n 1, 1) := by decide +kernel
theorem dX8_writePart_51 : decode cX8_writePart 51 = .ok (.iload 4, 2) := by decide +kernel
theorem dX8_writePart_53 : decode cX8_writePart 53 = .ok (.ifCond .ne 8, 3) := by decide +kernel
theorem dX8_writePart_56 : decode cX8_writePart 56 = .ok (.bipush 61, 2) := by decide +kernel
theorem dX8_writePart_58 : decode cX8_writePart 58 = .ok (.goto 5, 3) := by decide +kernel
theorem dX8_writePart_61 : decode cX8_writePart 61 = .ok (.bipush 45, 2) := by decide +kernel
theorem dX8_writePart_63 : decode cX8_writePart 63 = .ok (.invokevirtual 74, 3) := by decide +kernel
theorem dX8_writePart_66 : decode cX8_writePart 66 = .ok (.aload_n 1, 1) := by decide +kernel
theorem dX8_writePart_67 : decode cX8_writePart 67 = .ok (.iload_n 3, 1) := by decide +kernel
theorem dX8_writePart_68 : decode cX8_writePart 68 = .ok (.iload_n 2, 1) := by decide +kernel
theorem dX8_writePart_69 : decode cX8_writePart 69 = .ok (.isub, 1) := by decide +kernel
theorem dX8_writePart_70 : decode cX8_writePart 70 = .ok (.invokestatic 78, 3) := by decide +kernel
theorem dX8_writePart_73 : decode cX8_writePart 73 = .ok (.aload_n 1, 1) := by decide +kernel
theorem dX8_writePart_74 : decode cX8_writePart 74 = .ok (.bipush 59, 2) := by decide +kernel
theorem dX8_writePart_76 : decode cX8_writePart 76 = .ok (.invokevirtual 74, 3) := by decide +kernel
theorem dX8_writePart_79 : decode cX8_writePart 79 = .ok (.return_, 1) := by decide +kernel
theorem dX8_writeNumber_0 : decode cX8_writeNumber 0 = .ok (.iload_n 1, 1) := by decide +kernel
theorem dX8_writeNumber_1 : decode cX8_writeNumber 1 = .ok (.bipush 10, 2) := by decide +kernel
theorem dX8_writeNumber_3 : decode cX8_writeNumber 3 = .ok (.if_icmp .lt 14, 3) := by decide +kernel
theorem dX8_writeNumber_6 : decode cX8_writeNumber 6 = .ok (.aload_n 0, 1) := by decide +kernel
theorem dX8_writeNumber_7 : decode cX8_writeNumber 7 = .ok (.bipush 48, 2) := by decide +kernel
theorem dX8_writeNumber_9 : decode cX8_writeNumber 9 = .ok (.iload_n 1, 1) := by decide +kernel
theorem dX8_writeNumber_10 : decode cX8_writeNumber 10 = .ok (.bipush 10, 2) := by decide +kernel
theorem dX8_writeNumber_12 : decode cX8_writeNumber 12 = .ok (.idiv, 1) := by decide +kernel
theorem dX8_writeNumber_13 : decode cX8_writeNumber 13 = .ok (.iadd, 1) := by decide +kernel
theorem dX8_writeNumber_14 : decode cX8_writeNumber 14 = .ok (.invokevirtual 74, 3) := by decide +kernel
theorem dX8_writeNumber_17 : decode cX8_writeNumber 17 = .ok (.aload_n 0, 1) := by decide +kernel
theorem dX8_writeNumber_18 : decode cX8_writeNumber 18 = .ok (.bipush 48, 2) := by decide +kernel
theorem dX8_writeNumber_20 : decode cX8_writeNumber 20 = .ok (.iload_n 1, 1) := by decide +kernel
theorem dX8_writeNumber_21 : decode cX8_writeNumber 21 = .ok (.bipush 10, 2) := by decide +kernel
theorem dX8_writeNumber_23 : decode cX8_writeNumber 23 = .ok (.irem, 1) := by decide +kernel
theorem dX8_writeNumber_24 : decode cX8_writeNumber 24 = .ok (.iadd, 1) := by decide +kernel
theorem dX8_writeNumber_25 : decode cX8_writeNumber 25 = .ok (.invokevirtual 74, 3) := by decide +kernel
theorem dX8_writeNumber_28 : decode cX8_writeNumber 28 = .ok (.return_, 1) := by decide +kernel
theorem dX8_put_0 : decode cX8_put 0 = .ok (.iload_n 1, 1) := by decide +kernel
theorem dX8_put_1 : decode cX8_put 1 = .ok (.ifCond .lt 69, 3) := by decide +kernel
theorem dX8_put_4 : decode cX8_put 4 = .ok (.iload_n 1, 1) := by decide +kernel
theorem dX8_put_5 : decode cX8_put 5 = .ok (.aload_n 0, 1) := by decide +kernel
theorem dX8_put_6 : decode cX8_put 6 = .ok (.getfield 9, 3) := by decide +kernel
theorem dX8_put_9 : decode cX8_put 9 = .ok (.arraylength, 1) := by decide +kernel
theorem dX8_put_10 : decode cX8_put 10 = .ok (.if_icmp .ge 60, 3) := by decide +kernel
theorem dX8_put_13 : decode cX8_put 13 = .ok (.iload_n 1, 1) := by decide +kernel
theorem dX8_put_14 : decode cX8_put 14 = .ok (.aload_n 0, 1) := by decide +kernel
theorem dX8_put_15 : decode cX8_put 15 = .ok (.getfield 15, 3) := by decide +kernel
theorem dX8_put_18 : decode cX8_put 18 = .ok (.arraylength, 1) := by decide +kernel
theorem dX8_put_19 : decode cX8_put 19 = .ok (.if_icmp .ge 51, 3) := by decide +kernel
theorem dX8_put_22 : decode cX8_put 22 = .ok (.iload_n 1, 1) := by decide +kernel
theorem dX8_put_23 : decode cX8_put 23 = .ok (.aload_n 0, 1) := by decide +kernel
theorem dX8_put_24 : decode cX8_put 24 = .ok (.getfield 18, 3) := by decide +kernel
theorem dX8_put_27 : decode cX8_put 27 = .ok (.arraylength, 1) := by decide +kernel
theorem dX8_put_28 : decode cX8_put 28 = .ok (.if_icmp .ge 42, 3) := by decide +kernel
theorem dX8_put_31 : decode cX8_put 31 = .ok (.iload_n 1, 1) := by decide +kernel
theorem dX8_put_32 : decode cX8_put 32 = .ok (.aload_n 0, 1) := by decide +kernel
theorem dX8_put_33 : decode cX8_put 33 = .ok (.getfield 21, 3) := by decide +kernel
theorem dX8_put_36 : decode cX8_put 36 = .ok (.arraylength, 1) := by decide +kernel
theorem dX8_put_37 : decode cX8_put 37 = .ok (.if_icmp .ge 33, 3) := by decide +kernel
theorem dX8_put_40 : decode cX8_put 40 = .ok (.aload_n 0, 1) := by decide +kernel
theorem dX8_put_41 : decode cX8_put 41 = .ok (.getfield 9, 3) := by decide +kernel
theorem dX8_put_44 : decode cX8_put 44 = .ok (.iload_n 1, 1) := by decide +kernel
theorem dX8_put_45 : decode cX8_put 45 = .ok (.iload_n 2, 1) := by decide +kernel
theorem dX8_put_46 : decode cX8_put 46 = .ok (.iastore, 1) := by decide +kernel
theorem dX8_put_47 : decode cX8_put 47 = .ok (.aload_n 0, 1) := by decide +kernel
theorem dX8_put_48 : decode cX8_put 48 = .ok (.getfield 15, 3) := by decide +kernel
theorem dX8_put_51 : decode cX8_put 51 = .ok (.iload_n 1, 1) := by decide +kernel
theorem dX8_put_52 : decode cX8_put 52 = .ok (.iload_n 3, 1) := by decide +kernel
theorem dX8_put_53 : decode cX8_put 53 = .ok (.iastore, 1) := by decide +kernel
theorem dX8_put_54 : decode cX8_put 54 = .ok (.aload_n 0, 1) := by decide +kernel
theorem dX8_put_55 : decode cX8_put 55 = .ok (.getfield 18, 3) := by decide +kernel
theorem dX8_put_58 : decode cX8_put 58 = .ok (.iload_n 1, 1) := by decide +kernel
theorem dX8_put_59 : decode cX8_put 59 = .ok (.iload 4, 2) := by decide +kernel
theorem dX8_put_61 : decode cX8_put 61 = .ok (.iastore, 1) := by decide +kernel
theorem dX8_put_62 : decode cX8_put 62 = .ok (.aload_n 0, 1) := by decide +kernel
theorem dX8_put_63 : decode cX8_put 63 = .ok (.getfield 21, 3) := by decide +kernel
theorem dX8_put_66 : decode cX8_put 66 = .ok (.iload_n 1, 1) := by decide +kernel
theorem dX8_put_67 : decode cX8_put 67 = .ok (.iload 5, 2) := by decide +kernel
theorem dX8_put_69 : decode cX8_put 69 = .ok (.iastore, 1) := by decide +kernel
theorem dX8_put_70 : decode cX8_put 70 = .ok (.return_, 1) := by decide +kernel
theorem dX9_init_0 : decode cX9_init 0 = .ok (.aload_n 0, 1) := by decide +kernel
theorem dX9_init_1 : decode cX9_init 1 = .ok (.invokespecial 3, 3) := by decide +kernel
theorem dX9_init_4 : decode cX9_init 4 = .ok (.aload_n 0, 1) := by decide +kernel
theorem dX9_init_5 : decode cX9_init 5 = .ok (.new 9, 3) := by decide +kernel
theorem dX9_init_8 : decode cX9_init 8 = .ok (.dup, 1) := by decide +kernel
theorem dX9_init_9 : decode cX9_init 9 = .ok (.bipush 28, 2) := by decide +kernel
theorem dX9_init_11 : decode cX9_init 11 = .ok (.invokespecial 11, 3) := by decide +kernel
theorem dX9_init_14 : decode cX9_init 14 = .ok (.putfield 14, 3) := by decide +kernel
theorem dX9_init_17 : decode cX9_init 17 = .ok (.aload_n 0, 1) := by decide +kernel
theorem dX9_init_18 : decode cX9_init 18 = .ok (.new 9, 3) := by decide +kernel
theorem dX9_init_21 : decode cX9_init 21 = .ok (.dup, 1) := by decide +kernel
theorem dX9_init_22 : decode cX9_init 22 = .ok (.bipush 28, 2) := by decide +kernel
theorem dX9_init_24 : decode cX9_init 24 = .ok (.invokespecial 11, 3) := by decide +kernel
theorem dX9_init_27 : decode cX9_init 27 = .ok (.putfield 20, 3) := by decide +kernel
theorem dX9_init_30 : decode cX9_init 30 = .ok (.aload_n 0, 1) := by decide +kernel
theorem dX9_init_31 : decode cX9_init 31 = .ok (.iconst 3, 1) := by decide +kernel
theorem dX9_init_32 : decode cX9_init 32 = .ok (.newarray .int, 2) := by decide +kernel
theorem dX9_init_34 : decode cX9_init 34 = .ok (.putfield 23, 3) := by decide +kernel
theorem dX9_init_37 : decode cX9_init 37 = .ok (.iconst 0, 1) := by decide +kernel
theorem dX9_init_38 : decode cX9_init 38 = .ok (.istore_n 1, 1) := by decide +kernel
theorem dX9_init_39 : decode cX9_init 39 = .ok (.iload_n 1, 1) := by decide +kernel
theorem dX9_init_40 : decode cX9_init 40 = .ok (.iconst 3, 1) := by decide +kernel
theorem dX9_init_41 : decode cX9_init 41 = .ok (.if_icmp .ge 20, 3) := by decide +kernel
theorem dX9_init_44 : decode cX9_init 44 = .ok (.aload_n 0, 1) := by decide +kernel
theorem dX9_init_45 : decode cX9_init 45 = .ok (.getfield 23, 3) := by decide +kernel
theorem dX9_init_48 : decode cX9_init 48 = .ok (.iload_n 1, 1) := by decide +kernel
theorem dX9_init_49 : decode cX9_init 49 = .ok (.getstatic 27, 3) := by decide +kernel
theorem dX9_init_52 : decode cX9_init 52 = .ok (.iload_n 1, 1) := by decide +kernel
theorem dX9_init_53 : decode cX9_init 53 = .ok (.iaload, 1) := by decide +kernel
theorem dX9_init_54 : decode cX9_init 54 = .ok (.iastore, 1) := by decide +kernel
theorem dX9_init_55 : decode cX9_init 55 = .ok (.iinc 1 1, 3) := by decide +kernel
theorem dX9_init_58 : decode cX9_init 58 = .ok (.goto (-19), 3) := by decide +kernel
theorem dX9_init_61 : decode cX9_init 61 = .ok (.return_, 1) := by decide +kernel
theorem dX9_rowOf_0 : decode cX9_rowOf 0 = .ok (.iload_n 1, 1) := by decide +kernel
theorem dX9_rowOf_1 : decode cX9_rowOf 1 = .ok (.ifCond .ne 10, 3) := by decide +kernel
theorem dX9_rowOf_4 : decode cX9_rowOf 4 = .ok (.aload_n 0, 1) := by decide +kernel
theorem dX9_rowOf_5 : decode cX9_rowOf 5 = .ok (.getfield 14, 3) := by decide +kernel
theorem dX9_rowOf_8 : decode cX9_rowOf 8 = .ok (.goto 7, 3) := by decide +kernel
theorem dX9_rowOf_11 : decode cX9_rowOf 11 = .ok (.aload_n 0, 1) := by decide +kernel
theorem dX9_rowOf_12 : decode cX9_rowOf 12 = .ok (.getfield 20, 3) := by decide +kernel
theorem dX9_rowOf_15 : decode cX9_rowOf 15 = .ok (.areturn, 1) := by decide +kernel
theorem dX9_swapRows_0 : decode cX9_swapRows 0 = .ok (.aload_n 0, 1) := by decide +kernel
theorem dX9_swapRows_1 : decode cX9_swapRows 1 = .ok (.getfield 14, 3) := by decide +kernel
theorem dX9_swapRows_4 : decode cX9_swapRows 4 = .ok (.astore_n 1, 1) := by decide +kernel
theorem dX9_swapRows_5 : decode cX9_swapRows 5 = .ok (.aload_n 0, 1) := by decide +kernel
theorem dX9_swapRows_6 : decode cX9_swapRows 6 = .ok (.aload_n 0, 1) := by decide +kernel
theorem dX9_swapRows_7 : decode cX9_swapRows 7 = .ok (.getfield 20, 3) := by decide +kernel
theorem dX9_swapRows_10 : decode cX9_swapRows 10 = .ok (.putfield 14, 3) := by decide +kernel
theorem dX9_swapRows_13 : decode cX9_swapRows 13 = .ok (.aload_n 0, 1) := by decide +kernel
theorem dX9_swapRows_14 : decode cX9_swapRows 14 = .ok (.aload_n 1, 1) := by decide +kernel
theorem dX9_swapRows_15 : decode cX9_swapRows 15 = .ok (.putfield 20, 3) := by decide +kernel
theorem dX9_swapRows_18 : decode cX9_swapRows 18 = .ok (.return_, 1) := by decide +kernel
theorem dX9_copyFrom_0 : decode cX9_copyFrom 0 = .ok (.aload_n 0, 1) := by decide +kernel
theorem dX9_copyFrom_1 : decode cX9_copyFrom 1 = .ok (.getfield 14, 3) := by decide +kernel
theorem dX9_copyFrom_4 : decode cX9_copyFrom 4 = .ok (.aload_n 1, 1) := by decide +kernel
theorem dX9_copyFrom_5 : decode cX9_copyFrom 5 = .ok (.getfield 14, 3) := by decide +kernel
theorem dX9_copyFrom_8 : decode cX9_copyFrom 8 = .ok (.invokevirtual 30, 3) := by decide +kernel
theorem dX9_copyFrom_11 : decode cX9_copyFrom 11 = .ok (.aload_n 0, 1) := by decide +kernel
theorem dX9_copyFrom_12 : decode cX9_copyFrom 12 = .ok (.getfield 20, 3) := by decide +kernel
theorem dX9_copyFrom_15 : decode cX9_copyFrom 15 = .ok (.aload_n 1, 1) := by decide +kernel
theorem dX9_copyFrom_16 : decode cX9_copyFrom 16 = .ok (.getfield 20, 3) := by decide +kernel
theorem dX9_copyFrom_19 : decode cX9_copyFrom 19 = .ok (.invokevirtual 30, 3) := by decide +kernel
theorem dX9_copyFrom_22 : decode cX9_copyFrom 22 = .ok (.iconst 0, 1) := by decide +kernel
theorem dX9_copyFrom_23 : decode cX9_copyFrom 23 = .ok (.istore_n 2, 1) := by decide +kernel
theorem dX9_copyFrom_24 : decode cX9_copyFrom 24 = .ok (.iload_n 2, 1) := by decide +kernel
theorem dX9_copyFrom_25 : decode cX9_copyFrom 25 = .ok (.iconst 3, 1) := by decide +kernel
theorem dX9_copyFrom_26 : decode cX9_copyFrom 26 = .ok (.if_icmp .ge 21, 3) := by decide +kernel
theorem dX9_copyFrom_29 : decode cX9_copyFrom 29 = .ok (.aload_n 0, 1) := by decide +kernel
theorem dX9_copyFrom_30 : decode cX9_copyFrom 30 = .ok (.getfield 23, 3) := by decide +kernel
theorem dX9_copyFrom_33 : decode cX9_copyFrom 33 = .ok (.iload_n 2, 1) := by decide +kernel
theorem dX9_copyFrom_34 : decode cX9_copyFrom 34 = .ok (.aload_n 1, 1) := by decide +kernel
theorem dX9_copyFrom_35 : decode cX9_copyFrom 35 = .ok (.getfield 23, 3) := by decide +kernel
theorem dX9_copyFrom_38 : decode cX9_copyFrom 38 = .ok (.iload_n 2, 1) := by decide +kernel
theorem dX9_copyFrom_39 : decode cX9_copyFrom 39 = .ok (.iaload, 1) := by decide +kernel
theorem dX9_copyFrom_40 : decode cX9_copyFrom 40 = .ok (.iastore, 1) := by decide +kernel
theorem dX9_copyFrom_41 : decode cX9_copyFrom 41 = .ok (.iinc 2 1, 3) := by decide +kernel
theorem dX9_copyFrom_44 : decode cX9_copyFrom 44 = .ok (.goto (-20), 3) := by decide +kernel
theorem dX9_copyFrom_47 : decode cX9_copyFrom 47 = .ok (.return_, 1) := by decide +kernel
theorem dX9_isAlike_0 : decode cX9_isAlike 0 = .ok (.aload_n 0, 1) := by decide +kernel
theorem dX9_isAlike_1 : decode cX9_isAlike 1 = .ok (.getfield 14, 3) := by decide +kernel
theorem dX9_isAlike_4 : decode cX9_isAlike 4 = .ok (.iload_n 1, 1) := by decide +kernel
theorem dX9_isAlike_5 : decode cX9_isAlike 5 = .ok (.invokevirtual 34, 3) := by decide +kernel
theorem dX9_isAlike_8 : decode cX9_isAlike 8 = .ok (.istore_n 3, 1) := by decide +kernel
theorem dX9_isAlike_9 : decode cX9_isAlike 9 = .ok (.iload_n 3, 1) := by decide +kernel
theorem dX9_isAlike_10 : decode cX9_isAlike 10 = .ok (.iconst (-1), 1) := by decide +kernel
theorem dX9_isAlike_11 : decode cX9_isAlike 11 = .ok (.if_icmp .eq 19, 3) := by decide +kernel
theorem dX9_isAlike_14 : decode cX9_isAlike 14 = .ok (.iload_n 3, 1) := by decide +kernel
theorem dX9_isAlike_15 : decode cX9_isAlike 15 = .ok (.aload_n 0, 1) := by decide +kernel
theorem dX9_isAlike_16 : decode cX9_isAlike 16 = .ok (.getfield 20, 3) := by decide +kernel
theorem dX9_isAlike_19 : decode cX9_isAlike 19 = .ok (.iload_n 2, 1) := by decide +kernel
theorem dX9_isAlike_20 : decode cX9_isAlike 20 = .ok (.invokevirtual 34, 3) := by decide +kernel
theorem dX9_isAlike_23 : decode cX9_isAlike 23 = .ok (.if_icmp .ne 7, 3) := by decide +kernel
theorem dX9_isAlike_26 : decode cX9_isAlike 26 = .ok (.iconst 1, 1) := by decide +kernel
theorem dX9_isAlike_27 : decode cX9_isAlike 27 = .ok (.goto 4, 3) := by decide +kernel
theorem dX9_isAlike_30 : decode cX9_isAlike 30 = .ok (.iconst 0, 1) := by decide +kernel
theorem dX9_isAlike_31 : decode cX9_isAlike 31 = .ok (.ireturn, 1) := by decide +kernel
theorem dX9_alikeFrom_0 : decode cX9_alikeFrom 0 = .ok (.iconst 0, 1) := by decide +kernel
theorem dX9_alikeFrom_1 : decode cX9_alikeFrom 1 = .ok (.istore_n 3, 1) := by decide +kernel
theorem dX9_alikeFrom_2 : decode cX9_alikeFrom 2 = .ok (.iload_n 3, 1) := by decide +kernel
theorem dX9_alikeFrom_3 : decode cX9_alikeFrom 3 = .ok (.bipush 28, 2) := by decide +kernel
theorem dX9_alikeFrom_5 : decode cX9_alikeFrom 5 = .ok (.if_icmp .ge 22, 3) := by decide +kernel
theorem dX9_alikeFrom_8 : decode cX9_alikeFrom 8 = .ok (.aload_n 0, 1) := by decide +kernel
theorem dX9_alikeFrom_9 : decode cX9_alikeFrom 9 = .ok (.iload_n 1, 1) := by decide +kernel
theorem dX9_alikeFrom_10 : decode cX9_alikeFrom 10 = .ok (.iload_n 3, 1) := by decide +kernel
theorem dX9_alikeFrom_11 : decode cX9_alikeFrom 11 = .ok (.iadd, 1) := by decide +kernel
theorem dX9_alikeFrom_12 : decode cX9_alikeFrom 12 = .ok (.iload_n 2, 1) := by decide +kernel
theorem dX9_alikeFrom_13 : decode cX9_alikeFrom 13 = .ok (.iload_n 3, 1) := by decide +kernel
theorem dX9_alikeFrom_14 : decode cX9_alikeFrom 14 = .ok (.iadd, 1) := by decide +kernel
theorem dX9_alikeFrom_15 : decode cX9_alikeFrom 15 = .ok (.invokevirtual 38, 3) := by decide +kernel
theorem dX9_alikeFrom_18 : decode cX9_alikeFrom 18 = .ok (.ifCond .eq 9, 3) := by decide +kernel
theorem dX9_alikeFrom_21 : decode cX9_alikeFrom 21 = .ok (.iinc 3 1, 3) := by decide +kernel
theorem dX9_alikeFrom_24 : decode cX9_alikeFrom 24 = .ok (.goto (-22), 3) := by decide +kernel
theorem dX9_alikeFrom_27 : decode cX9_alikeFrom 27 = .ok (.iload_n 3, 1) := by decide +kernel
theorem dX9_alikeFrom_28 : decode cX9_alikeFrom 28 = .ok (.ireturn, 1) := by decide +kernel
theorem dX9_longestAlike_0 : decode cX9_longestAlike 0 = .ok (.iconst 0, 1) := by decide +kernel
theorem dX9_longestAlike_1 : decode cX9_longestAlike 1 = .ok (.istore_n 1, 1) := by decide +kernel
theorem dX9_longestAlike_2 : decode cX9_longestAlike 2 = .ok (.iconst 0, 1) := by decide +kernel
theorem dX9_longestAlike_3 : decode cX9_longestAlike 3 = .ok (.istore_n 2, 1) := by decide +kernel
theorem dX9_longestAlike_4 : decode cX9_longestAlike 4 = .ok (.iload_n 2, 1) := by decide +kernel
theorem dX9_longestAlike_5 : decode cX9_longestAlike 5 = .ok (.aload_n 0, 1) := by decide +kernel
theorem dX9_longestAlike_6 : decode cX9_longestAlike 6 = .ok (.getfield 14, 3) := by decide +kernel
theorem dX9_longestAlike_9 : decode cX9_longestAlike 9 = .ok (.getfield 42, 3) := by decide +kernel
theorem dX9_longestAlike_12 : decode cX9_longestAlike 12 = .ok (.if_icmp .ge 52, 3) := by decide +kernel
theorem dX9_longestAlike_15 : decode cX9_longestAlike 15 = .ok (.iconst 0, 1) := by decide +kernel
theorem dX9_longestAlike_16 : decode cX9_longestAlike 16 = .ok (.istore_n 3, 1) := by decide +kernel
theorem dX9_longestAlike_17 : decode cX9_longestAlike 17 = .ok (.iload_n 3, 1) := by decide +kernel
theorem dX9_longestAlike_18 : decode cX9_longestAlike 18 = .ok (.aload_n 0, 1) := by decide +kernel
theorem dX9_longestAlike_19 : decode cX9_longestAlike 19 = .ok (.getfield 20, 3) := by decide +kernel
theorem dX9_longestAlike_22 : decode cX9_longestAlike 22 = .ok (.getfield 42, 3) := by decide +kernel
theorem dX9_longestAlike_25 : decode cX9_longestAlike 25 = .ok (.if_icmp .ge 33, 3) := by decide +kernel
theorem dX9_longestAlike_28 : decode cX9_longestAlike 28 = .ok (.aload_n 0, 1) := by decide +kernel
theorem dX9_longestAlike_29 : decode cX9_longestAlike 29 = .ok (.iload_n 2, 1) := by decide +kernel
theorem dX9_longestAlike_30 : decode cX9_longestAlike 30 = .ok (.iconst 1, 1) := by decide +kernel
theorem dX9_longestAlike_31 : decode cX9_longestAlike 31 = .ok (.isub, 1) := by decide +kernel
theorem dX9_longestAlike_32 : decode cX9_longestAlike 32 = .ok (.iload_n 3, 1) := by decide +kernel
theorem dX9_longestAlike_33 : decode cX9_longestAlike 33 = .ok (.iconst 1, 1) := by decide +kernel
theorem dX9_longestAlike_34 : decode cX9_longestAlike 34 = .ok (.isub, 1) := by decide +kernel
theorem dX9_longestAlike_35 : decode cX9_longestAlike 35 = .ok (.invokevirtual 38, 3) := by decide +kernel
theorem dX9_longestAlike_38 : decode cX9_longestAlike 38 = .ok (.ifCond .ne 14, 3) := by decide +kernel
theorem dX9_longestAlike_41 : decode cX9_longestAlike 41 = .ok (.iload_n 1, 1) := by decide +kernel
theorem dX9_longestAlike_42 : decode cX9_longestAlike 42 = .ok (.aload_n 0, 1) := by decide +kernel
theorem dX9_longestAlike_43 : decode cX9_longestAlike 43 = .ok (.iload_n 2, 1) := by decide +kernel
theorem dX9_longestAlike_44 : decode cX9_longestAlike 44 = .ok (.iload_n 3, 1) := by decide +kernel
theorem dX9_longestAlike_45 : decode cX9_longestAlike 45 = .ok (.invokevirtual 46, 3) := by decide +kernel
theorem dX9_longestAlike_48 : decode cX9_longestAlike 48 = .ok (.invokestatic 50, 3) := by decide +kernel
theorem dX9_longestAlike_51 : decode cX9_longestAlike 51 = .ok (.istore_n 1, 1) := by decide +kernel
theorem dX9_longestAlike_52 : decode cX9_longestAlike 52 = .ok (.iinc 3 1, 3) := by decide +kernel
theorem dX9_longestAlike_55 : decode cX9_longestAlike 55 = .ok (.goto (-38), 3) := by decide +kernel
theorem dX9_longestAlike_58 : decode cX9_longestAlike 58 = .ok (.iinc 2 1, 3) := by decide +kernel
theorem dX9_longestAlike_61 : decode cX9_longestAlike 61 = .ok (.goto (-57), 3) := by decide +kernel
theorem dX9_longestAlike_64 : decode cX9_longestAlike 64 = .ok (.iload_n 1, 1) := by decide +kernel
theorem dX9_longestAlike_65 : decode cX9_longestAlike 65 = .ok (.ireturn, 1) := by decide +kernel
theorem dX10_init_0 : decode cX10_init 0 = .ok (.aload_n 0, 1) := by decide +kernel
theorem dX10_init_1 : decode cX10_init 1 = .ok (.invokespecial 3, 3) := by decide +kernel
theorem dX10_init_4 : decode cX10_init 4 = .ok (.aload_n 0, 1) := by decide +kernel
theorem dX10_init_5 : decode cX10_init 5 = .ok (.new 9, 3) := by decide +kernel
theorem dX10_init_8 : decode cX10_init 8 = .ok (.dup, 1) := by decide +kernel
theorem dX10_init_9 : decode cX10_init 9 = .ok (.invokespecial 11, 3) := by decide +kernel
theorem dX10_init_12 : decode cX10_init 12 = .ok (.putfield 12, 3) := by decide +kernel
theorem dX10_init_15 : decode cX10_init 15 = .ok (.aload_n 0, 1) := by decide +kernel
theorem dX10_init_16 : decode cX10_init 16 = .ok (.new 16, 3) := by decide +kernel
theorem dX10_init_19 : decode cX10_init 19 = .ok (.dup, 1) := by decide +kernel
theorem dX10_init_20 : decode cX10_init 20 = .ok (.invokespecial 18, 3) := by decide +kernel
theorem dX10_init_23 : decode cX10_init 23 = .ok (.putfield 19, 3) := by decide +kernel
theorem dX10_init_26 : decode cX10_init 26 = .ok (.aload_n 0, 1) := by decide +kernel
theorem dX10_init_27 : decode cX10_init 27 = .ok (.new 23, 3) := by decide +kernel
theorem dX10_init_30 : decode cX10_init 30 = .ok (.dup, 1) := by decide +kernel
theorem dX10_init_31 : decode cX10_init 31 = .ok (.bipush 60, 2) := by decide +kernel
theorem dX10_init_33 : decode cX10_init 33 = .ok (.invokespecial 25, 3) := by decide +kernel
theorem dX10_init_36 : decode cX10_init 36 = .ok (.putfield 28, 3) := by decide +kernel
theorem dX10_init_39 : decode cX10_init 39 = .ok (.aload_n 0, 1) := by decide +kernel
theorem dX10_init_40 : decode cX10_init 40 = .ok (.new 32, 3) := by decide +kernel
theorem dX10_init_43 : decode cX10_init 43 = .ok (.dup, 1) := by decide +kernel
theorem dX10_init_44 : decode cX10_init 44 = .ok (.invokespecial 34, 3) := by decide +kernel
theorem dX10_init_47 : decode cX10_init 47 = .ok (.putfield 35, 3) := by decide +kernel
theorem dX10_init_50 : decode cX10_init 50 = .ok (.aload_n 0, 1) := by decide +kernel
theorem dX10_init_51 : decode cX10_init 51 = .ok (.new 39, 3) := by decide +kernel
theorem dX10_init_54 : decode cX10_init 54 = .ok (.dup, 1) := by decide +kernel
theorem dX10_init_55 : decode cX10_init 55 = .ok (.invokespecial 41, 3) := by decide +kernel
theorem dX10_init_58 : decode cX10_init 58 = .ok (.putfield 42, 3) := by decide +kernel
theorem dX10_init_61 : decode cX10_init 61 = .ok (.aload_n 0, 1) := by decide +kernel
theorem dX10_init_62 : decode cX10_init 62 = .ok (.new 23, 3) := by decide +kernel
theorem dX10_init_65 : decode cX10_init 65 = .ok (.dup, 1) := by decide +kernel
theorem dX10_init_66 : decode cX10_init 66 = .ok (.sipush 168, 3) := by decide +kernel
theorem dX10_init_69 : decode cX10_init 69 = .ok (.invokespecial 25, 3) := by decide +kernel
theorem dX10_init_72 : decode cX10_init 72 = .ok (.putfield 46, 3) := by decide +kernel
theorem dX10_init_75 : decode cX10_init 75 = .ok (.aload_n 0, 1) := by decide +kernel
theorem dX10_init_76 : decode cX10_init 76 = .ok (.new 49, 3) := by decide +kernel
theorem dX10_init_79 : decode cX10_init 79 = .ok (.dup, 1) := by decide +kernel
theorem dX10_init_80 : decode cX10_init 80 = .ok (.invokespecial 51, 3) := by decide +kernel
theorem dX10_init_83 : decode cX10_init 83 = .ok (.putfield 52, 3) := by decide +kernel
theorem dX10_init_86 : decode cX10_init 86 = .ok (.aload_n 0, 1) := by decide +kernel
theorem dX10_init_87 : decode cX10_init 87 = .ok (.new 56, 3) := by decide +kernel
theorem dX10_init_90 : decode cX10_init 90 = .ok (.dup, 1) := by decide +kernel
theorem dX10_init_91 : decode cX10_init 91 = .ok (.invokespecial 58, 3) := by decide +kernel
theorem dX10_init_94 : decode cX10_init 94 = .ok (.putfield 59, 3) := by decide +kernel
theorem dX10_init_97 : decode cX10_init 97 = .ok (.aload_n 0, 1) := by decide +kernel
theorem dX10_init_98 : decode cX10_init 98 = .ok (.new 63, 3) := by decide +kernel
theorem dX10_init_101 : decode cX10_init 101 = .ok (.dup, 1) := by decide +kernel
theorem dX10_init_102 : decode cX10_init 102 = .ok (.invokespecial 65, 3) := by decide +kernel
theorem dX10_init_105 : decode cX10_init 105 = .ok (.putfield 66, 3) := by decide +kernel
theorem dX10_init_108 : decode cX10_init 108 = .ok (.aload_n 0, 1) := by decide +kernel
theorem dX10_init_109 : decode cX10_init 109 = .ok (.new 70, 3) := by decide +kernel
theorem dX10_init_112 : decode cX10_init 112 = .ok (.dup, 1) := by decide +kernel
theorem dX10_init_113 : decode cX10_init 113 = .ok (.invokespecial 72, 3) := by decide +kernel
theorem dX10_init_116 : decode cX10_init 116 = .ok (.putfield 73, 3) := by decide +kernel
theorem dX10_init_119 : decode cX10_init 119 = .ok (.return_, 1) := by decide +kernel
theorem dX10_append_0 : decode cX10_append 0 = .ok (.iload_n 1, 1) := by decide +kernel
theorem dX10_append_1 : decode cX10_append 1 = .ok (.iconst 0, 1) := by decide +kernel
theorem dX10_append_2 : decode cX10_append 2 = .ok (.iconst 1, 1) := by decide +kernel
theorem dX10_append_3 : decode cX10_append 3 = .ok (.invokestatic 77, 3) := by decide +kernel
theorem dX10_append_6 : decode cX10_append 6 = .ok (.ifCond .eq 13, 3) := by decide +kernel
theorem dX10_append_9 : decode cX10_append 9 = .ok (.iload_n 2, 1) := by decide +kernel
theorem dX10_append_10 : decode cX10_append 10 = .ok (.iconst 0, 1) := by decide +kernel
theorem dX10_append_11 : decode cX10_append 11 = .ok (.bipush 7, 2) := by decide +kernel
theorem dX10_append_13 : decode cX10_append 13 = .ok (.invokestatic 77, 3) := by decide +kernel
theorem dX10_append_16 : decode cX10_append 16 = .ok (.ifCond .ne 6, 3) := by decide +kernel
theorem dX10_append_19 : decode cX10_append 19 = .ok (.ldc 81, 2) := by decide +kernel
theorem dX10_append_21 : decode cX10_append 21 = .ok (.ireturn, 1) := by decide +kernel
theorem dX10_append_22 : decode cX10_append 22 = .ok (.aload_n 0, 1) := by decide +kernel
theorem dX10_append_23 : decode cX10_append 23 = .ok (.getfield 12, 3) := by decide +kernel
theorem dX10_append_26 : decode cX10_append 26 = .ok (.iload_n 1, 1) := by decide +kernel
theorem dX10_append_27 : decode cX10_append 27 = .ok (.invokevirtual 82, 3) := by decide +kernel
theorem dX10_append_30 : decode cX10_append 30 = .ok (.astore_n 3, 1) := by decide +kernel
theorem dX10_append_31 : decode cX10_append 31 = .ok (.aload_n 3, 1) := by decide +kernel
theorem dX10_append_32 : decode cX10_append 32 = .ok (.getfield 86, 3) := by decide +kernel
theorem dX10_append_35 : decode cX10_append 35 = .ok (.bipush 28, 2) := by decide +kernel
theorem dX10_append_37 : decode cX10_append 37 = .ok (.if_icmp .lt 6, 3) := by decide +kernel
theorem dX10_append_40 : decode cX10_append 40 = .ok (.ldc 90, 2) := by decide +kernel
theorem dX10_append_42 : decode cX10_append 42 = .ok (.ireturn, 1) := by decide +kernel
theorem dX10_append_43 : decode cX10_append 43 = .ok (.aload_n 0, 1) := by decide +kernel
theorem dX10_append_44 : decode cX10_append 44 = .ok (.getfield 19, 3) := by decide +kernel
theorem dX10_append_47 : decode cX10_append 47 = .ok (.aload_n 0, 1) := by decide +kernel
theorem dX10_append_48 : decode cX10_append 48 = .ok (.getfield 12, 3) := by decide +kernel
theorem dX10_append_51 : decode cX10_append 51 = .ok (.invokevirtual 91, 3) := by decide +kernel
theorem dX10_append_54 : decode cX10_append 54 = .ok (.aload_n 3, 1) := by decide +kernel
theorem dX10_append_55 : decode cX10_append 55 = .ok (.iload_n 2, 1) := by decide +kernel
theorem dX10_append_56 : decode cX10_append 56 = .ok (.invokevirtual 95, 3) := by decide +kernel
theorem dX10_append_59 : decode cX10_append 59 = .ok (.aload_n 3, 1) := by decide +kernel
theorem dX10_append_60 : decode cX10_append 60 = .ok (.getfield 86, 3) := by decide +kernel
theorem dX10_append_63 : decode cX10_append 63 = .ok (.ireturn, 1) := by decide +kernel
theorem dX10_cut_0 : decode cX10_cut 0 = .ok (.iload_n 1, 1) := by decide +kernel
theorem dX10_cut_1 : decode cX10_cut 1 = .ok (.iconst 0, 1) := by decide +kernel
theorem dX10_cut_2 : decode cX10_cut 2 = .ok (.iconst 1, 1) := by decide +kernel
theorem dX10_cut_3 : decode cX10_cut 3 = .ok (.invokestatic 77, 3) := by decide +kernel
theorem dX10_cut_6 : decode cX10_cut 6 = .ok (.ifCond .eq 17, 3) := by decide +kernel
theorem dX10_cut_9 : decode cX10_cut 9 = .ok (.iload_n 2, 1) := by decide +kernel
theorem dX10_cut_10 : decode cX10_cut 10 = .ok (.ifCond .lt 13, 3) := by decide +kernel
theorem dX10_cut_13 : decode cX10_cut 13 = .ok (.iload_n 3, 1) := by decide +kernel
theorem dX10_cut_14 : decode cX10_cut 14 = .ok (.iconst 1, 1) := by decide +kernel
theorem dX10_cut_15 : decode cX10_cut 15 = .ok (.bipush 28, 2) := by decide +kernel
theorem dX10_cut_17 : decode cX10_cut 17 = .ok (.invokestatic 77, 3) := by decide +kernel
theorem dX10_cut_20 : decode cX10_cut 20 = .ok (.ifCond .ne 6, 3) := by decide +kernel
theorem dX10_cut_23 : decode cX10_cut 23 = .ok (.ldc 81, 2) := by decide +kernel
theorem dX10_cut_25 : decode cX10_cut 25 = .ok (.ireturn, 1) := by decide +kernel
theorem dX10_cut_26 : decode cX10_cut 26 = .ok (.aload_n 0, 1) := by decide +kernel
theorem dX10_cut_27 : decode cX10_cut 27 = .ok (.getfield 12, 3) := by decide +kernel
theorem dX10_cut_30 : decode cX10_cut 30 = .ok (.iload_n 1, 1) := by decide +kernel
theorem dX10_cut_31 : decode cX10_cut 31 = .ok (.invokevirtual 82, 3) := by decide +kernel
theorem dX10_cut_34 : decode cX10_cut 34 = .ok (.astore 4, 2) := by decide +kernel
theorem dX10_cut_36 : decode cX10_cut 36 = .ok (.iload_n 2, 1) := by decide +kernel
theorem dX10_cut_37 : decode cX10_cut 37 = .ok (.aload 4, 2) := by decide +kernel
theorem dX10_cut_39 : decode cX10_cut 39 = .ok (.getfield 86, 3) := by decide +kernel
theorem dX10_cut_42 : decode cX10_cut 42 = .ok (.iload_n 3, 1) := by decide +kernel
theorem dX10_cut_43 : decode cX10_cut 43 = .ok (.isub, 1) := by decide +kernel
theorem dX10_cut_44 : decode cX10_cut 44 = .ok (.if_icmp .le 6, 3) := by decide +kernel
theorem dX10_cut_47 : decode cX10_cut 47 = .ok (.ldc 98, 2) := by decide +kernel
theorem dX10_cut_49 : decode cX10_cut 49 = .ok (.ireturn, 1) := by decide +kernel
theorem dX10_cut_50 : decode cX10_cut 50 = .ok (.aload_n 0, 1) := by decide +kernel
theorem dX10_cut_51 : decode cX10_cut 51 = .ok (.getfield 19, 3) := by decide +kernel
theorem dX10_cut_54 : decode cX10_cut 54 = .ok (.aload_n 0, 1) := by decide +kernel
theorem dX10_cut_55 : decode cX10_cut 55 = .ok (.getfield 12, 3) := by decide +kernel
theorem dX10_cut_58 : decode cX10_cut 58 = .ok (.invokevirtual 91, 3) := by decide +kernel
theorem dX10_cut_61 : decode cX10_cut 61 = .ok (.aload 4, 2) := by decide +kernel
theorem dX10_cut_63 : decode cX10_cut 63 = .ok (.iload_n 2, 1) := by decide +kernel
theorem dX10_cut_64 : decode cX10_cut 64 = .ok (.iload_n 3, 1) := by decide +kernel
theorem dX10_cut_65 : decode cX10_cut 65 = .ok (.invokevirtual 99, 3) := by decide +kernel
theorem dX10_cut_68 : decode cX10_cut 68 = .ok (.aload 4, 2) := by decide +kernel
theorem dX10_cut_70 : decode cX10_cut 70 = .ok (.getfield 86, 3) := by decide +kernel
theorem dX10_cut_73 : decode cX10_cut 73 = .ok (.ireturn, 1) := by decide +kernel
theorem dX10_change_0 : decode cX10_change 0 = .ok (.iload_n 1, 1) := by decide +kernel
theorem dX10_change_1 : decode cX10_change 1 = .ok (.iconst 0, 1) := by decide +kernel
theorem dX10_change_2 : decode cX10_change 2 = .ok (.iconst 1, 1) := by decide +kernel
theorem dX10_change_3 : decode cX10_change 3 = .ok (.invokestatic 77, 3) := by decide +kernel
theorem dX10_change_6 : decode cX10_change 6 = .ok (.ifCond .eq 13, 3) := by decide +kernel
theorem dX10_change_9 : decode cX10_change 9 = .ok (.iload_n 3, 1) := by decide +kernel
theorem dX10_change_10 : decode cX10_change 10 = .ok (.iconst 0, 1) := by decide +kernel
theorem dX10_change_11 : decode cX10_change 11 = .ok (.bipush 7, 2) := by decide +kernel
theorem dX10_change_13 : decode cX10_change 13 = .ok (.invokestatic 77, 3) := by decide +kernel
theorem dX10_change_16 : decode cX10_change 16 = .ok (.ifCond .ne 6, 3) := by decide +kernel
theorem dX10_change_19 : decode cX10_change 19 = .ok (.ldc 81, 2) := by decide +kernel
theorem dX10_change_21 : decode cX10_change 21 = .ok (.ireturn, 1) := by decide +kernel
theorem dX10_change_22 : decode cX10_change 22 = .ok (.aload_n 0, 1) := by decide +kernel
theorem dX10_change_23 : decode cX10_change 23 = .ok (.getfield 12, 3) := by decide +kernel
theorem dX10_change_26 : decode cX10_change 26 = .ok (.iload_n 1, 1) := by decide +kernel
theorem dX10_change_27 : decode cX10_change 27 = .ok (.invokevirtual 82, 3) := by decide +kernel
theorem dX10_change_30 : decode cX10_change 30 = .ok (.astore 4, 2) := by decide +kernel
theorem dX10_change_32 : decode cX10_change 32 = .ok (.aload 4, 2) := by decide +kernel
theorem dX10_change_34 : decode cX10_change 34 = .ok (.iload_n 2, 1) := by decide +kernel
theorem dX10_change_35 : decode cX10_change 35 = .ok (.invokevirtual 103, 3) := by decide +kernel
theorem dX10_change_38 : decode cX10_change 38 = .ok (.istore 5, 2) := by decide +kernel
theorem dX10_change_40 : decode cX10_change 40 = .ok (.iload 5, 2) := by decide +kernel
theorem dX10_change_42 : decode cX10_change 42 = .ok (.iconst (-1), 1) := by decide +kernel
theorem dX10_change_43 : decode cX10_change 43 = .ok (.if_icmp .ne 6, 3) := by decide +kernel
theorem dX10_change_46 : decode cX10_change 46 = .ok (.ldc 81, 2) := by decide +kernel
theorem dX10_change_48 : decode cX10_change 48 = .ok (.ireturn, 1) := by decide +kernel
theorem dX10_change_49 : decode cX10_change 49 = .ok (.aload_n 0, 1) := by decide +kernel
theorem dX10_change_50 : decode cX10_change 50 = .ok (.getfield 19, 3) := by decide +kernel
theorem dX10_change_53 : decode cX10_change 53 = .ok (.aload_n 0, 1) := by decide +kernel
theorem dX10_change_54 : decode cX10_change 54 = .ok (.getfield 12, 3) := by decide +kernel
theorem dX10_change_57 : decode cX10_change 57 = .ok (.invokevirtual 91, 3) := by decide +kernel
theorem dX10_change_60 : decode cX10_change 60 = .ok (.aload 4, 2) := by decide +kernel
theorem dX10_change_62 : decode cX10_change 62 = .ok (.iload_n 2, 1) := by decide +kernel
theorem dX10_change_63 : decode cX10_change 63 = .ok (.iload_n 3, 1) := by decide +kernel
theorem dX10_change_64 : decode cX10_change 64 = .ok (.invokevirtual 107, 3) := by decide +kernel
theorem dX10_change_67 : decode cX10_change 67 = .ok (.iload 5, 2) := by decide +kernel
theorem dX10_change_69 : decode cX10_change 69 = .ok (.ireturn, 1) := by decide +kernel
theorem dX10_exchange_0 : decode cX10_exchange 0 = .ok (.aload_n 0, 1) := by decide +kernel
theorem dX10_exchange_1 : decode cX10_exchange 1 = .ok (.getfield 19, 3) := by decide +kernel
theorem dX10_exchange_4 : decode cX10_exchange 4 = .ok (.aload_n 0, 1) := by decide +kernel
theorem dX10_exchange_5 : decode cX10_exchange 5 = .ok (.getfield 12, 3) := by decide +kernel
theorem dX10_exchange_8 : decode cX10_exchange 8 = .ok (.invokevirtual 91, 3) := by decide +kernel
theorem dX10_exchange_11 : decode cX10_exchange 11 = .ok (.aload_n 0, 1) := by decide +kernel
theorem dX10_exchange_12 : decode cX10_exchange 12 = .ok (.getfield 12, 3) := by decide +kernel
theorem dX10_exchange_15 : decode cX10_exchange 15 = .ok (.invokevirtual 110, 3) := by decide +kernel
theorem dX10_exchange_18 : decode cX10_exchange 18 = .ok (.aload_n 0, 1) := by decide +kernel
theorem dX10_exchange_19 : decode cX10_exchange 19 = .ok (.getfield 12, 3) := by decide +kernel
theorem dX10_exchange_22 : decode cX10_exchange 22 = .ok (.getfield 113, 3) := by decide +kernel
theorem dX10_exchange_25 : decode cX10_exchange 25 = .ok (.getfield 86, 3) := by decide +kernel
theorem dX10_exchange_28 : decode cX10_exchange 28 = .ok (.ireturn, 1) := by decide +kernel
theorem dX10_set_0 : decode cX10_set 0 = .ok (.iload_n 1, 1) := by decide +kernel
theorem dX10_set_1 : decode cX10_set 1 = .ok (.iconst 0, 1) := by decide +kernel
theorem dX10_set_2 : decode cX10_set 2 = .ok (.iconst 2, 1) := by decide +kernel
theorem dX10_set_3 : decode cX10_set 3 = .ok (.invokestatic 77, 3) := by decide +kernel
theorem dX10_set_6 : decode cX10_set 6 = .ok (.ifCond .eq 20, 3) := by decide +kernel
theorem dX10_set_9 : decode cX10_set 9 = .ok (.iload_n 2, 1) := by decide +kernel
theorem dX10_set_10 : decode cX10_set 10 = .ok (.getstatic 116, 3) := by decide +kernel
theorem dX10_set_13 : decode cX10_set 13 = .ok (.iload_n 1, 1) := by decide +kernel
theorem dX10_set_14 : decode cX10_set 14 = .ok (.iaload, 1) := by decide +kernel
theorem dX10_set_15 : decode cX10_set 15 = .ok (.getstatic 120, 3) := by decide +kernel
theorem dX10_set_18 : decode cX10_set 18 = .ok (.iload_n 1, 1) := by decide +kernel
theorem dX10_set_19 : decode cX10_set 19 = .ok (.iaload, 1) := by decide +kernel
theorem dX10_set_20 : decode cX10_set 20 = .ok (.invokestatic 77, 3) := by decide +kernel
theorem dX10_set_23 : decode cX10_set 23 = .ok (.ifCond .ne 6, 3) := by decide +kernel
theorem dX10_set_26 : decode cX10_set 26 = .ok (.ldc 81, 2) := by decide +kernel
theorem dX10_set_28 : decode cX10_set 28 = .ok (.ireturn, 1) := by decide +kernel
theorem dX10_set_29 : decode cX10_set 29 = .ok (.aload_n 0, 1) := by decide +kernel
theorem dX10_set_30 : decode cX10_set 30 = .ok (.getfield 19, 3) := by decide +kernel
theorem dX10_set_33 : decode cX10_set 33 = .ok (.aload_n 0, 1) := by decide +kernel
theorem dX10_set_34 : decode cX10_set 34 = .ok (.getfield 12, 3) := by decide +kernel
theorem dX10_set_37 : decode cX10_set 37 = .ok (.invokevirtual 91, 3) := by decide +kernel
theorem dX10_set_40 : decode cX10_set 40 = .ok (.aload_n 0, 1) := by decide +kernel
theorem dX10_set_41 : decode cX10_set 41 = .ok (.getfield 12, 3) := by decide +kernel
theorem dX10_set_44 : decode cX10_set 44 = .ok (.getfield 123, 3) := by decide +kernel
theorem dX10_set_47 : decode cX10_set 47 = .ok (.iload_n 1, 1) := by decide +kernel
theorem dX10_set_48 : decode cX10_set 48 = .ok (.iaload, 1) := by decide +kernel
theorem dX10_set_49 : decode cX10_set 49 = .ok (.istore_n 3, 1) := by decide +kernel
theorem dX10_set_50 : decode cX10_set 50 = .ok (.aload_n 0, 1) := by decide +kernel
theorem dX10_set_51 : decode cX10_set 51 = .ok (.getfield 12, 3) := by decide +kernel
theorem dX10_set_54 : decode cX10_set 54 = .ok (.getfield 123, 3) := by decide +kernel
theorem dX10_set_57 : decode cX10_set 57 = .ok (.iload_n 1, 1) := by decide +kernel
theorem dX10_set_58 : decode cX10_set 58 = .ok (.iload_n 2, 1) := by decide +kernel
theorem dX10_set_59 : decode cX10_set 59 = .ok (.iastore, 1) := by decide +kernel
theorem dX10_set_60 : decode cX10_set 60 = .ok (.iload_n 3, 1) := by decide +kernel
theorem dX10_set_61 : decode cX10_set 61 = .ok (.ireturn, 1) := by decide +kernel
theorem dX10_letterAt_0 : decode cX10_letterAt 0 = .ok (.iload_n 1, 1) := by decide +kernel
theorem dX10_letterAt_1 : decode cX10_letterAt 1 = .ok (.iconst 0, 1) := by decide +kernel
theorem dX10_letterAt_2 : decode cX10_letterAt 2 = .ok (.iconst 1, 1) := by decide +kernel
theorem dX10_letterAt_3 : decode cX10_letterAt 3 = .ok (.invokestatic 77, 3) := by decide +kernel
theorem dX10_letterAt_6 : decode cX10_letterAt 6 = .ok (.ifCond .eq 7, 3) := by decide +kernel
theorem dX10_letterAt_9 : decode cX10_letterAt 9 = .ok (.iload_n 2, 1) := by decide +kernel
theorem dX10_letterAt_10 : decode cX10_letterAt 10 = .ok (.ifCond .ge 6, 3) := by decide +kernel
theorem dX10_letterAt_13 : decode cX10_letterAt 13 = .ok (.ldc 81, 2) := by decide +kernel
theorem dX10_letterAt_15 : decode cX10_letterAt 15 = .ok (.ireturn, 1) := by decide +kernel
theorem dX10_letterAt_16 : decode cX10_letterAt 16 = .ok (.aload_n 0, 1) := by decide +kernel
theorem dX10_letterAt_17 : decode cX10_letterAt 17 = .ok (.getfield 12, 3) := by decide +kernel
theorem dX10_letterAt_20 : decode cX10_letterAt 20 = .ok (.iload_n 1, 1) := by decide +kernel
theorem dX10_letterAt_21 : decode cX10_letterAt 21 = .ok (.invokevirtual 82, 3) := by decide +kernel
theorem dX10_letterAt_24 : decode cX10_letterAt 24 = .ok (.iload_n 2, 1) := by decide +kernel
theorem dX10_letterAt_25 : decode cX10_letterAt 25 = .ok (.invokevirtual 103, 3) := by decide +kernel
theorem dX10_letterAt_28 : decode cX10_letterAt 28 = .ok (.invokestatic 126, 3) := by decide +kernel
theorem dX10_letterAt_31 : decode cX10_letterAt 31 = .ok (.ireturn, 1) := by decide +kernel
theorem dX10_same_0 : decode cX10_same 0 = .ok (.iload_n 1, 1) := by decide +kernel
theorem dX10_same_1 : decode cX10_same 1 = .ok (.iconst 0, 1) := by decide +kernel
theorem dX10_same_2 : decode cX10_same 2 = .ok (.aload_n 0, 1) := by decide +kernel
theorem dX10_same_3 : decode cX10_same 3 = .ok (.getfield 12, 3) := by decide +kernel
theorem dX10_same_6 : decode cX10_same 6 = .ok (.getfield 113, 3) := by decide +kernel
theorem dX10_same_9 : decode cX10_same 9 = .ok (.getfield 86, 3) := by decide +kernel
theorem dX10_same_12 : decode cX10_same 12 = .ok (.invokestatic 77, 3) := by decide +kernel
theorem dX10_same_15 : decode cX10_same 15 = .ok (.ifCond .eq 21, 3) := by decide +kernel
theorem dX10_same_18 : decode cX10_same 18 = .ok (.iload_n 2, 1) := by decide +kernel
theorem dX10_same_19 : decode cX10_same 19 = .ok (.iconst 0, 1) := by decide +kernel
theorem dX10_same_20 : decode cX10_same 20 = .ok (.aload_n 0, 1) := by decide +kernel
theorem dX10_same_21 : decode cX10_same 21 = .ok (.getfield 12, 3) := by decide +kernel
theorem dX10_same_24 : decode cX10_same 24 = .ok (.getfield 129, 3) := by decide +kernel
theorem dX10_same_27 : decode cX10_same 27 = .ok (.getfield 86, 3) := by decide +kernel
theorem dX10_same_30 : decode cX10_same 30 = .ok (.invokestatic 77, 3) := by decide +kernel
theorem dX10_same_33 : decode cX10_same 33 = .ok (.ifCond .ne 6, 3) := by decide +kernel
theorem dX10_same_36 : decode cX10_same 36 = .ok (.ldc 81, 2) := by decide +kernel
theorem dX10_same_38 : decode cX10_same 38 = .ok (.ireturn, 1) := by decide +kernel
theorem dX10_same_39 : decode cX10_same 39 = .ok (.aload_n 0, 1) := by decide +kernel
theorem dX10_same_40 : decode cX10_same 40 = .ok (.getfield 12, 3) := by decide +kernel
end
section
theorem dX10_same_43 : decode cX10_same 43 = .ok (.iload_n 1, 1) := by decide +kernel
theorem dX10_same_44 : decode cX10_same 44 = .ok (.iload_n 2, 1) := by decide +kernel
theorem dX10_same_45 : decode cX10_same 45 = .ok (.invokevirtual 132, 3) := by decide +kernel
theorem dX10_same_48 : decode cX10_same 48 = .ok (.ireturn, 1) := by decide +kernel
theorem dX10_reach_0 : decode cX10_reach 0 = .ok (.iload_n 1, 1) := by decide +kernel
theorem dX10_reach_1 : decode cX10_reach 1 = .ok (.iconst 0, 1) := by decide +kernel
theorem dX10_reach_2 : decode cX10_reach 2 = .ok (.bipush 56, 2) := by decide +kernel
theorem dX10_reach_4 : decode cX10_reach 4 = .ok (.invokestatic 77, 3) := by decide +kernel
theorem dX10_reach_7 : decode cX10_reach 7 = .ok (.ifCond .eq 14, 3) := by decide +kernel
theorem dX10_reach_10 : decode cX10_reach 10 = .ok (.iload_n 2, 1) := by decide +kernel
theorem dX10_reach_11 : decode cX10_reach 11 = .ok (.bipush (-56), 2) := by decide +kernel
theorem dX10_reach_13 : decode cX10_reach 13 = .ok (.bipush 56, 2) := by decide +kernel
theorem dX10_reach_15 : decode cX10_reach 15 = .ok (.invokestatic 77, 3) := by decide +kernel
theorem dX10_reach_18 : decode cX10_reach 18 = .ok (.ifCond .ne 6, 3) := by decide +kernel
theorem dX10_reach_21 : decode cX10_reach 21 = .ok (.ldc 81, 2) := by decide +kernel
theorem dX10_reach_23 : decode cX10_reach 23 = .ok (.ireturn, 1) := by decide +kernel
theorem dX10_reach_24 : decode cX10_reach 24 = .ok (.aload_n 0, 1) := by decide +kernel
theorem dX10_reach_25 : decode cX10_reach 25 = .ok (.getfield 35, 3) := by decide +kernel
theorem dX10_reach_28 : decode cX10_reach 28 = .ok (.aload_n 0, 1) := by decide +kernel
theorem dX10_reach_29 : decode cX10_reach 29 = .ok (.getfield 12, 3) := by decide +kernel
theorem dX10_reach_32 : decode cX10_reach 32 = .ok (.invokevirtual 136, 3) := by decide +kernel
theorem dX10_reach_35 : decode cX10_reach 35 = .ok (.iload_n 1, 1) := by decide +kernel
theorem dX10_reach_36 : decode cX10_reach 36 = .ok (.aload_n 0, 1) := by decide +kernel
theorem dX10_reach_37 : decode cX10_reach 37 = .ok (.getfield 35, 3) := by decide +kernel
theorem dX10_reach_40 : decode cX10_reach 40 = .ok (.getfield 139, 3) := by decide +kernel
theorem dX10_reach_43 : decode cX10_reach 43 = .ok (.if_icmp .le 6, 3) := by decide +kernel
theorem dX10_reach_46 : decode cX10_reach 46 = .ok (.ldc 142, 2) := by decide +kernel
theorem dX10_reach_48 : decode cX10_reach 48 = .ok (.ireturn, 1) := by decide +kernel
theorem dX10_reach_49 : decode cX10_reach 49 = .ok (.aload_n 0, 1) := by decide +kernel
theorem dX10_reach_50 : decode cX10_reach 50 = .ok (.getfield 35, 3) := by decide +kernel
theorem dX10_reach_53 : decode cX10_reach 53 = .ok (.iload_n 1, 1) := by decide +kernel
theorem dX10_reach_54 : decode cX10_reach 54 = .ok (.iload_n 2, 1) := by decide +kernel
theorem dX10_reach_55 : decode cX10_reach 55 = .ok (.invokevirtual 143, 3) := by decide +kernel
theorem dX10_reach_58 : decode cX10_reach 58 = .ok (.invokestatic 126, 3) := by decide +kernel
theorem dX10_reach_61 : decode cX10_reach 61 = .ok (.ireturn, 1) := by decide +kernel
theorem dX10_distance_0 : decode cX10_distance 0 = .ok (.aload_n 0, 1) := by decide +kernel
theorem dX10_distance_1 : decode cX10_distance 1 = .ok (.getfield 35, 3) := by decide +kernel
theorem dX10_distance_4 : decode cX10_distance 4 = .ok (.aload_n 0, 1) := by decide +kernel
theorem dX10_distance_5 : decode cX10_distance 5 = .ok (.getfield 12, 3) := by decide +kernel
theorem dX10_distance_8 : decode cX10_distance 8 = .ok (.invokevirtual 136, 3) := by decide +kernel
theorem dX10_distance_11 : decode cX10_distance 11 = .ok (.aload_n 0, 1) := by decide +kernel
theorem dX10_distance_12 : decode cX10_distance 12 = .ok (.invokevirtual 145, 3) := by decide +kernel
theorem dX10_distance_15 : decode cX10_distance 15 = .ok (.ifCond .eq 8, 3) := by decide +kernel
theorem dX10_distance_18 : decode cX10_distance 18 = .ok (.ldc 90, 2) := by decide +kernel
theorem dX10_distance_20 : decode cX10_distance 20 = .ok (.goto 10, 3) := by decide +kernel
theorem dX10_distance_23 : decode cX10_distance 23 = .ok (.aload_n 0, 1) := by decide +kernel
theorem dX10_distance_24 : decode cX10_distance 24 = .ok (.getfield 35, 3) := by decide +kernel
theorem dX10_distance_27 : decode cX10_distance 27 = .ok (.getfield 139, 3) := by decide +kernel
theorem dX10_distance_30 : decode cX10_distance 30 = .ok (.ireturn, 1) := by decide +kernel
theorem dX10_stepOf_0 : decode cX10_stepOf 0 = .ok (.iload_n 1, 1) := by decide +kernel
theorem dX10_stepOf_1 : decode cX10_stepOf 1 = .ok (.ifCond .lt 12, 3) := by decide +kernel
theorem dX10_stepOf_4 : decode cX10_stepOf 4 = .ok (.iload_n 2, 1) := by decide +kernel
theorem dX10_stepOf_5 : decode cX10_stepOf 5 = .ok (.iconst 0, 1) := by decide +kernel
theorem dX10_stepOf_6 : decode cX10_stepOf 6 = .ok (.iconst 3, 1) := by decide +kernel
theorem dX10_stepOf_7 : decode cX10_stepOf 7 = .ok (.invokestatic 77, 3) := by decide +kernel
theorem dX10_stepOf_10 : decode cX10_stepOf 10 = .ok (.ifCond .ne 6, 3) := by decide +kernel
theorem dX10_stepOf_13 : decode cX10_stepOf 13 = .ok (.ldc 81, 2) := by decide +kernel
theorem dX10_stepOf_15 : decode cX10_stepOf 15 = .ok (.ireturn, 1) := by decide +kernel
theorem dX10_stepOf_16 : decode cX10_stepOf 16 = .ok (.aload_n 0, 1) := by decide +kernel
theorem dX10_stepOf_17 : decode cX10_stepOf 17 = .ok (.invokevirtual 149, 3) := by decide +kernel
theorem dX10_stepOf_20 : decode cX10_stepOf 20 = .ok (.ifCond .ne 6, 3) := by decide +kernel
theorem dX10_stepOf_23 : decode cX10_stepOf 23 = .ok (.ldc 90, 2) := by decide +kernel
theorem dX10_stepOf_25 : decode cX10_stepOf 25 = .ok (.ireturn, 1) := by decide +kernel
theorem dX10_stepOf_26 : decode cX10_stepOf 26 = .ok (.iload_n 1, 1) := by decide +kernel
theorem dX10_stepOf_27 : decode cX10_stepOf 27 = .ok (.aload_n 0, 1) := by decide +kernel
theorem dX10_stepOf_28 : decode cX10_stepOf 28 = .ok (.getfield 42, 3) := by decide +kernel
theorem dX10_stepOf_31 : decode cX10_stepOf 31 = .ok (.getfield 152, 3) := by decide +kernel
theorem dX10_stepOf_34 : decode cX10_stepOf 34 = .ok (.if_icmp .lt 6, 3) := by decide +kernel
theorem dX10_stepOf_37 : decode cX10_stepOf 37 = .ok (.ldc 142, 2) := by decide +kernel
theorem dX10_stepOf_39 : decode cX10_stepOf 39 = .ok (.ireturn, 1) := by decide +kernel
theorem dX10_stepOf_40 : decode cX10_stepOf 40 = .ok (.iload_n 2, 1) := by decide +kernel
theorem dX10_stepOf_41 : decode cX10_stepOf 41 = .ok (.tableswitch 54 0 2 #[27, 36, 45], 27) := by decide +kernel
theorem dX10_stepOf_68 : decode cX10_stepOf 68 = .ok (.aload_n 0, 1) := by decide +kernel
theorem dX10_stepOf_69 : decode cX10_stepOf 69 = .ok (.getfield 42, 3) := by decide +kernel
theorem dX10_stepOf_72 : decode cX10_stepOf 72 = .ok (.iload_n 1, 1) := by decide +kernel
theorem dX10_stepOf_73 : decode cX10_stepOf 73 = .ok (.invokevirtual 153, 3) := by decide +kernel
theorem dX10_stepOf_76 : decode cX10_stepOf 76 = .ok (.ireturn, 1) := by decide +kernel
theorem dX10_stepOf_77 : decode cX10_stepOf 77 = .ok (.aload_n 0, 1) := by decide +kernel
theorem dX10_stepOf_78 : decode cX10_stepOf 78 = .ok (.getfield 42, 3) := by decide +kernel
theorem dX10_stepOf_81 : decode cX10_stepOf 81 = .ok (.iload_n 1, 1) := by decide +kernel
theorem dX10_stepOf_82 : decode cX10_stepOf 82 = .ok (.invokevirtual 156, 3) := by decide +kernel
theorem dX10_stepOf_85 : decode cX10_stepOf 85 = .ok (.ireturn, 1) := by decide +kernel
theorem dX10_stepOf_86 : decode cX10_stepOf 86 = .ok (.aload_n 0, 1) := by decide +kernel
theorem dX10_stepOf_87 : decode cX10_stepOf 87 = .ok (.getfield 42, 3) := by decide +kernel
theorem dX10_stepOf_90 : decode cX10_stepOf 90 = .ok (.iload_n 1, 1) := by decide +kernel
theorem dX10_stepOf_91 : decode cX10_stepOf 91 = .ok (.invokevirtual 159, 3) := by decide +kernel
theorem dX10_stepOf_94 : decode cX10_stepOf 94 = .ok (.ireturn, 1) := by decide +kernel
theorem dX10_stepOf_95 : decode cX10_stepOf 95 = .ok (.aload_n 0, 1) := by decide +kernel
theorem dX10_stepOf_96 : decode cX10_stepOf 96 = .ok (.getfield 42, 3) := by decide +kernel
theorem dX10_stepOf_99 : decode cX10_stepOf 99 = .ok (.iload_n 1, 1) := by decide +kernel
theorem dX10_stepOf_100 : decode cX10_stepOf 100 = .ok (.invokevirtual 162, 3) := by decide +kernel
theorem dX10_stepOf_103 : decode cX10_stepOf 103 = .ok (.ireturn, 1) := by decide +kernel
theorem dX10_textAt_0 : decode cX10_textAt 0 = .ok (.iload_n 1, 1) := by decide +kernel
theorem dX10_textAt_1 : decode cX10_textAt 1 = .ok (.ifCond .ge 6, 3) := by decide +kernel
theorem dX10_textAt_4 : decode cX10_textAt 4 = .ok (.ldc 81, 2) := by decide +kernel
theorem dX10_textAt_6 : decode cX10_textAt 6 = .ok (.ireturn, 1) := by decide +kernel
theorem dX10_textAt_7 : decode cX10_textAt 7 = .ok (.aload_n 0, 1) := by decide +kernel
theorem dX10_textAt_8 : decode cX10_textAt 8 = .ok (.invokevirtual 149, 3) := by decide +kernel
theorem dX10_textAt_11 : decode cX10_textAt 11 = .ok (.ifCond .ne 6, 3) := by decide +kernel
theorem dX10_textAt_14 : decode cX10_textAt 14 = .ok (.ldc 90, 2) := by decide +kernel
theorem dX10_textAt_16 : decode cX10_textAt 16 = .ok (.ireturn, 1) := by decide +kernel
theorem dX10_textAt_17 : decode cX10_textAt 17 = .ok (.aload_n 0, 1) := by decide +kernel
theorem dX10_textAt_18 : decode cX10_textAt 18 = .ok (.getfield 42, 3) := by decide +kernel
theorem dX10_textAt_21 : decode cX10_textAt 21 = .ok (.aload_n 0, 1) := by decide +kernel
theorem dX10_textAt_22 : decode cX10_textAt 22 = .ok (.getfield 46, 3) := by decide +kernel
theorem dX10_textAt_25 : decode cX10_textAt 25 = .ok (.invokevirtual 165, 3) := by decide +kernel
theorem dX10_textAt_28 : decode cX10_textAt 28 = .ok (.aload_n 0, 1) := by decide +kernel
theorem dX10_textAt_29 : decode cX10_textAt 29 = .ok (.getfield 46, 3) := by decide +kernel
theorem dX10_textAt_32 : decode cX10_textAt 32 = .ok (.iload_n 1, 1) := by decide +kernel
theorem dX10_textAt_33 : decode cX10_textAt 33 = .ok (.invokevirtual 103, 3) := by decide +kernel
theorem dX10_textAt_36 : decode cX10_textAt 36 = .ok (.invokestatic 126, 3) := by decide +kernel
theorem dX10_textAt_39 : decode cX10_textAt 39 = .ok (.ireturn, 1) := by decide +kernel
theorem dX10_scripts_0 : decode cX10_scripts 0 = .ok (.aload_n 0, 1) := by decide +kernel
theorem dX10_scripts_1 : decode cX10_scripts 1 = .ok (.getfield 66, 3) := by decide +kernel
theorem dX10_scripts_4 : decode cX10_scripts 4 = .ok (.aload_n 0, 1) := by decide +kernel
theorem dX10_scripts_5 : decode cX10_scripts 5 = .ok (.getfield 12, 3) := by decide +kernel
theorem dX10_scripts_8 : decode cX10_scripts 8 = .ok (.invokevirtual 169, 3) := by decide +kernel
theorem dX10_scripts_11 : decode cX10_scripts 11 = .ok (.lreturn, 1) := by decide +kernel
theorem dX10_hunkOf_0 : decode cX10_hunkOf 0 = .ok (.iload_n 1, 1) := by decide +kernel
theorem dX10_hunkOf_1 : decode cX10_hunkOf 1 = .ok (.ifCond .lt 12, 3) := by decide +kernel
theorem dX10_hunkOf_4 : decode cX10_hunkOf 4 = .ok (.iload_n 2, 1) := by decide +kernel
theorem dX10_hunkOf_5 : decode cX10_hunkOf 5 = .ok (.iconst 0, 1) := by decide +kernel
theorem dX10_hunkOf_6 : decode cX10_hunkOf 6 = .ok (.iconst 4, 1) := by decide +kernel
theorem dX10_hunkOf_7 : decode cX10_hunkOf 7 = .ok (.invokestatic 77, 3) := by decide +kernel
theorem dX10_hunkOf_10 : decode cX10_hunkOf 10 = .ok (.ifCond .ne 6, 3) := by decide +kernel
theorem dX10_hunkOf_13 : decode cX10_hunkOf 13 = .ok (.ldc 81, 2) := by decide +kernel
theorem dX10_hunkOf_15 : decode cX10_hunkOf 15 = .ok (.ireturn, 1) := by decide +kernel
theorem dX10_hunkOf_16 : decode cX10_hunkOf 16 = .ok (.aload_n 0, 1) := by decide +kernel
theorem dX10_hunkOf_17 : decode cX10_hunkOf 17 = .ok (.invokevirtual 149, 3) := by decide +kernel
theorem dX10_hunkOf_20 : decode cX10_hunkOf 20 = .ok (.ifCond .ne 6, 3) := by decide +kernel
theorem dX10_hunkOf_23 : decode cX10_hunkOf 23 = .ok (.ldc 90, 2) := by decide +kernel
theorem dX10_hunkOf_25 : decode cX10_hunkOf 25 = .ok (.ireturn, 1) := by decide +kernel
theorem dX10_hunkOf_26 : decode cX10_hunkOf 26 = .ok (.aload_n 0, 1) := by decide +kernel
theorem dX10_hunkOf_27 : decode cX10_hunkOf 27 = .ok (.getfield 52, 3) := by decide +kernel
theorem dX10_hunkOf_30 : decode cX10_hunkOf 30 = .ok (.aload_n 0, 1) := by decide +kernel
theorem dX10_hunkOf_31 : decode cX10_hunkOf 31 = .ok (.getfield 42, 3) := by decide +kernel
theorem dX10_hunkOf_34 : decode cX10_hunkOf 34 = .ok (.aload_n 0, 1) := by decide +kernel
theorem dX10_hunkOf_35 : decode cX10_hunkOf 35 = .ok (.getfield 12, 3) := by decide +kernel
theorem dX10_hunkOf_38 : decode cX10_hunkOf 38 = .ok (.getfield 123, 3) := by decide +kernel
theorem dX10_hunkOf_41 : decode cX10_hunkOf 41 = .ok (.iconst 1, 1) := by decide +kernel
theorem dX10_hunkOf_42 : decode cX10_hunkOf 42 = .ok (.iaload, 1) := by decide +kernel
theorem dX10_hunkOf_43 : decode cX10_hunkOf 43 = .ok (.invokevirtual 173, 3) := by decide +kernel
theorem dX10_hunkOf_46 : decode cX10_hunkOf 46 = .ok (.iload_n 1, 1) := by decide +kernel
theorem dX10_hunkOf_47 : decode cX10_hunkOf 47 = .ok (.aload_n 0, 1) := by decide +kernel
theorem dX10_hunkOf_48 : decode cX10_hunkOf 48 = .ok (.getfield 52, 3) := by decide +kernel
theorem dX10_hunkOf_51 : decode cX10_hunkOf 51 = .ok (.getfield 176, 3) := by decide +kernel
theorem dX10_hunkOf_54 : decode cX10_hunkOf 54 = .ok (.if_icmp .lt 6, 3) := by decide +kernel
theorem dX10_hunkOf_57 : decode cX10_hunkOf 57 = .ok (.ldc 142, 2) := by decide +kernel
theorem dX10_hunkOf_59 : decode cX10_hunkOf 59 = .ok (.ireturn, 1) := by decide +kernel
theorem dX10_hunkOf_60 : decode cX10_hunkOf 60 = .ok (.aload_n 0, 1) := by decide +kernel
theorem dX10_hunkOf_61 : decode cX10_hunkOf 61 = .ok (.getfield 52, 3) := by decide +kernel
theorem dX10_hunkOf_64 : decode cX10_hunkOf 64 = .ok (.iload_n 1, 1) := by decide +kernel
theorem dX10_hunkOf_65 : decode cX10_hunkOf 65 = .ok (.invokevirtual 179, 3) := by decide +kernel
theorem dX10_hunkOf_68 : decode cX10_hunkOf 68 = .ok (.istore_n 3, 1) := by decide +kernel
theorem dX10_hunkOf_69 : decode cX10_hunkOf 69 = .ok (.aload_n 0, 1) := by decide +kernel
theorem dX10_hunkOf_70 : decode cX10_hunkOf 70 = .ok (.getfield 52, 3) := by decide +kernel
theorem dX10_hunkOf_73 : decode cX10_hunkOf 73 = .ok (.iload_n 1, 1) := by decide +kernel
theorem dX10_hunkOf_74 : decode cX10_hunkOf 74 = .ok (.invokevirtual 182, 3) := by decide +kernel
theorem dX10_hunkOf_77 : decode cX10_hunkOf 77 = .ok (.istore 4, 2) := by decide +kernel
theorem dX10_hunkOf_79 : decode cX10_hunkOf 79 = .ok (.iload_n 2, 1) := by decide +kernel
theorem dX10_hunkOf_80 : decode cX10_hunkOf 80 = .ok (.tableswitch 88 0 3 #[32, 41, 60, 69], 32) := by decide +kernel
theorem dX10_hunkOf_112 : decode cX10_hunkOf 112 = .ok (.aload_n 0, 1) := by decide +kernel
theorem dX10_hunkOf_113 : decode cX10_hunkOf 113 = .ok (.getfield 42, 3) := by decide +kernel
theorem dX10_hunkOf_116 : decode cX10_hunkOf 116 = .ok (.iload_n 3, 1) := by decide +kernel
theorem dX10_hunkOf_117 : decode cX10_hunkOf 117 = .ok (.invokevirtual 159, 3) := by decide +kernel
theorem dX10_hunkOf_120 : decode cX10_hunkOf 120 = .ok (.ireturn, 1) := by decide +kernel
theorem dX10_hunkOf_121 : decode cX10_hunkOf 121 = .ok (.aload_n 0, 1) := by decide +kernel
theorem dX10_hunkOf_122 : decode cX10_hunkOf 122 = .ok (.getfield 42, 3) := by decide +kernel
theorem dX10_hunkOf_125 : decode cX10_hunkOf 125 = .ok (.iload 4, 2) := by decide +kernel
theorem dX10_hunkOf_127 : decode cX10_hunkOf 127 = .ok (.invokevirtual 159, 3) := by decide +kernel
theorem dX10_hunkOf_130 : decode cX10_hunkOf 130 = .ok (.aload_n 0, 1) := by decide +kernel
theorem dX10_hunkOf_131 : decode cX10_hunkOf 131 = .ok (.getfield 42, 3) := by decide +kernel
theorem dX10_hunkOf_134 : decode cX10_hunkOf 134 = .ok (.iload_n 3, 1) := by decide +kernel
theorem dX10_hunkOf_135 : decode cX10_hunkOf 135 = .ok (.invokevirtual 159, 3) := by decide +kernel
theorem dX10_hunkOf_138 : decode cX10_hunkOf 138 = .ok (.isub, 1) := by decide +kernel
theorem dX10_hunkOf_139 : decode cX10_hunkOf 139 = .ok (.ireturn, 1) := by decide +kernel
theorem dX10_hunkOf_140 : decode cX10_hunkOf 140 = .ok (.aload_n 0, 1) := by decide +kernel
theorem dX10_hunkOf_141 : decode cX10_hunkOf 141 = .ok (.getfield 42, 3) := by decide +kernel
theorem dX10_hunkOf_144 : decode cX10_hunkOf 144 = .ok (.iload_n 3, 1) := by decide +kernel
theorem dX10_hunkOf_145 : decode cX10_hunkOf 145 = .ok (.invokevirtual 162, 3) := by decide +kernel
theorem dX10_hunkOf_148 : decode cX10_hunkOf 148 = .ok (.ireturn, 1) := by decide +kernel
theorem dX10_hunkOf_149 : decode cX10_hunkOf 149 = .ok (.aload_n 0, 1) := by decide +kernel
theorem dX10_hunkOf_150 : decode cX10_hunkOf 150 = .ok (.getfield 42, 3) := by decide +kernel
theorem dX10_hunkOf_153 : decode cX10_hunkOf 153 = .ok (.iload 4, 2) := by decide +kernel
theorem dX10_hunkOf_155 : decode cX10_hunkOf 155 = .ok (.invokevirtual 162, 3) := by decide +kernel
theorem dX10_hunkOf_158 : decode cX10_hunkOf 158 = .ok (.aload_n 0, 1) := by decide +kernel
theorem dX10_hunkOf_159 : decode cX10_hunkOf 159 = .ok (.getfield 42, 3) := by decide +kernel
theorem dX10_hunkOf_162 : decode cX10_hunkOf 162 = .ok (.iload_n 3, 1) := by decide +kernel
theorem dX10_hunkOf_163 : decode cX10_hunkOf 163 = .ok (.invokevirtual 162, 3) := by decide +kernel
theorem dX10_hunkOf_166 : decode cX10_hunkOf 166 = .ok (.isub, 1) := by decide +kernel
theorem dX10_hunkOf_167 : decode cX10_hunkOf 167 = .ok (.ireturn, 1) := by decide +kernel
theorem dX10_hunkOf_168 : decode cX10_hunkOf 168 = .ok (.aload_n 0, 1) := by decide +kernel
theorem dX10_hunkOf_169 : decode cX10_hunkOf 169 = .ok (.getfield 52, 3) := by decide +kernel
theorem dX10_hunkOf_172 : decode cX10_hunkOf 172 = .ok (.iload_n 1, 1) := by decide +kernel
theorem dX10_hunkOf_173 : decode cX10_hunkOf 173 = .ok (.invokevirtual 185, 3) := by decide +kernel
theorem dX10_hunkOf_176 : decode cX10_hunkOf 176 = .ok (.ireturn, 1) := by decide +kernel
theorem dX10_movedOf_0 : decode cX10_movedOf 0 = .ok (.iload_n 1, 1) := by decide +kernel
theorem dX10_movedOf_1 : decode cX10_movedOf 1 = .ok (.ifCond .lt 12, 3) := by decide +kernel
theorem dX10_movedOf_4 : decode cX10_movedOf 4 = .ok (.iload_n 2, 1) := by decide +kernel
theorem dX10_movedOf_5 : decode cX10_movedOf 5 = .ok (.iconst 0, 1) := by decide +kernel
theorem dX10_movedOf_6 : decode cX10_movedOf 6 = .ok (.iconst 2, 1) := by decide +kernel
theorem dX10_movedOf_7 : decode cX10_movedOf 7 = .ok (.invokestatic 77, 3) := by decide +kernel
theorem dX10_movedOf_10 : decode cX10_movedOf 10 = .ok (.ifCond .ne 6, 3) := by decide +kernel
theorem dX10_movedOf_13 : decode cX10_movedOf 13 = .ok (.ldc 81, 2) := by decide +kernel
theorem dX10_movedOf_15 : decode cX10_movedOf 15 = .ok (.ireturn, 1) := by decide +kernel
theorem dX10_movedOf_16 : decode cX10_movedOf 16 = .ok (.aload_n 0, 1) := by decide +kernel
theorem dX10_movedOf_17 : decode cX10_movedOf 17 = .ok (.invokevirtual 149, 3) := by decide +kernel
theorem dX10_movedOf_20 : decode cX10_movedOf 20 = .ok (.ifCond .ne 6, 3) := by decide +kernel
theorem dX10_movedOf_23 : decode cX10_movedOf 23 = .ok (.ldc 90, 2) := by decide +kernel
theorem dX10_movedOf_25 : decode cX10_movedOf 25 = .ok (.ireturn, 1) := by decide +kernel
theorem dX10_movedOf_26 : decode cX10_movedOf 26 = .ok (.aload_n 0, 1) := by decide +kernel
theorem dX10_movedOf_27 : decode cX10_movedOf 27 = .ok (.getfield 59, 3) := by decide +kernel
theorem dX10_movedOf_30 : decode cX10_movedOf 30 = .ok (.aload_n 0, 1) := by decide +kernel
theorem dX10_movedOf_31 : decode cX10_movedOf 31 = .ok (.getfield 42, 3) := by decide +kernel
theorem dX10_movedOf_34 : decode cX10_movedOf 34 = .ok (.aload_n 0, 1) := by decide +kernel
theorem dX10_movedOf_35 : decode cX10_movedOf 35 = .ok (.getfield 12, 3) := by decide +kernel
theorem dX10_movedOf_38 : decode cX10_movedOf 38 = .ok (.getfield 123, 3) := by decide +kernel
theorem dX10_movedOf_41 : decode cX10_movedOf 41 = .ok (.iconst 2, 1) := by decide +kernel
theorem dX10_movedOf_42 : decode cX10_movedOf 42 = .ok (.iaload, 1) := by decide +kernel
theorem dX10_movedOf_43 : decode cX10_movedOf 43 = .ok (.invokevirtual 188, 3) := by decide +kernel
theorem dX10_movedOf_46 : decode cX10_movedOf 46 = .ok (.aload_n 0, 1) := by decide +kernel
theorem dX10_movedOf_47 : decode cX10_movedOf 47 = .ok (.getfield 59, 3) := by decide +kernel
theorem dX10_movedOf_50 : decode cX10_movedOf 50 = .ok (.iload_n 1, 1) := by decide +kernel
theorem dX10_movedOf_51 : decode cX10_movedOf 51 = .ok (.invokevirtual 189, 3) := by decide +kernel
theorem dX10_movedOf_54 : decode cX10_movedOf 54 = .ok (.istore_n 3, 1) := by decide +kernel
theorem dX10_movedOf_55 : decode cX10_movedOf 55 = .ok (.iload_n 3, 1) := by decide +kernel
theorem dX10_movedOf_56 : decode cX10_movedOf 56 = .ok (.iconst (-1), 1) := by decide +kernel
theorem dX10_movedOf_57 : decode cX10_movedOf 57 = .ok (.if_icmp .ne 6, 3) := by decide +kernel
theorem dX10_movedOf_60 : decode cX10_movedOf 60 = .ok (.ldc 142, 2) := by decide +kernel
theorem dX10_movedOf_62 : decode cX10_movedOf 62 = .ok (.ireturn, 1) := by decide +kernel
theorem dX10_movedOf_63 : decode cX10_movedOf 63 = .ok (.iload_n 2, 1) := by decide +kernel
theorem dX10_movedOf_64 : decode cX10_movedOf 64 = .ok (.lookupswitch 53 #[(0, 28), (1, 37)], 28) := by decide +kernel
theorem dX10_movedOf_92 : decode cX10_movedOf 92 = .ok (.aload_n 0, 1) := by decide +kernel
theorem dX10_movedOf_93 : decode cX10_movedOf 93 = .ok (.getfield 59, 3) := by decide +kernel
theorem dX10_movedOf_96 : decode cX10_movedOf 96 = .ok (.iload_n 3, 1) := by decide +kernel
theorem dX10_movedOf_97 : decode cX10_movedOf 97 = .ok (.invokevirtual 192, 3) := by decide +kernel
theorem dX10_movedOf_100 : decode cX10_movedOf 100 = .ok (.ireturn, 1) := by decide +kernel
theorem dX10_movedOf_101 : decode cX10_movedOf 101 = .ok (.aload_n 0, 1) := by decide +kernel
theorem dX10_movedOf_102 : decode cX10_movedOf 102 = .ok (.getfield 42, 3) := by decide +kernel
theorem dX10_movedOf_105 : decode cX10_movedOf 105 = .ok (.aload_n 0, 1) := by decide +kernel
theorem dX10_movedOf_106 : decode cX10_movedOf 106 = .ok (.getfield 59, 3) := by decide +kernel
theorem dX10_movedOf_109 : decode cX10_movedOf 109 = .ok (.iload_n 3, 1) := by decide +kernel
theorem dX10_movedOf_110 : decode cX10_movedOf 110 = .ok (.invokevirtual 195, 3) := by decide +kernel
theorem dX10_movedOf_113 : decode cX10_movedOf 113 = .ok (.invokevirtual 159, 3) := by decide +kernel
theorem dX10_movedOf_116 : decode cX10_movedOf 116 = .ok (.ireturn, 1) := by decide +kernel
theorem dX10_movedOf_117 : decode cX10_movedOf 117 = .ok (.aload_n 0, 1) := by decide +kernel
theorem dX10_movedOf_118 : decode cX10_movedOf 118 = .ok (.getfield 42, 3) := by decide +kernel
theorem dX10_movedOf_121 : decode cX10_movedOf 121 = .ok (.aload_n 0, 1) := by decide +kernel
theorem dX10_movedOf_122 : decode cX10_movedOf 122 = .ok (.getfield 59, 3) := by decide +kernel
theorem dX10_movedOf_125 : decode cX10_movedOf 125 = .ok (.iload_n 3, 1) := by decide +kernel
theorem dX10_movedOf_126 : decode cX10_movedOf 126 = .ok (.invokevirtual 198, 3) := by decide +kernel
theorem dX10_movedOf_129 : decode cX10_movedOf 129 = .ok (.invokevirtual 162, 3) := by decide +kernel
theorem dX10_movedOf_132 : decode cX10_movedOf 132 = .ok (.ireturn, 1) := by decide +kernel
theorem dX10_bestChange_0 : decode cX10_bestChange 0 = .ok (.iload_n 1, 1) := by decide +kernel
theorem dX10_bestChange_1 : decode cX10_bestChange 1 = .ok (.iconst 0, 1) := by decide +kernel
theorem dX10_bestChange_2 : decode cX10_bestChange 2 = .ok (.iconst 2, 1) := by decide +kernel
theorem dX10_bestChange_3 : decode cX10_bestChange 3 = .ok (.invokestatic 77, 3) := by decide +kernel
theorem dX10_bestChange_6 : decode cX10_bestChange 6 = .ok (.ifCond .ne 6, 3) := by decide +kernel
theorem dX10_bestChange_9 : decode cX10_bestChange 9 = .ok (.ldc 81, 2) := by decide +kernel
theorem dX10_bestChange_11 : decode cX10_bestChange 11 = .ok (.ireturn, 1) := by decide +kernel
theorem dX10_bestChange_12 : decode cX10_bestChange 12 = .ok (.aload_n 0, 1) := by decide +kernel
theorem dX10_bestChange_13 : decode cX10_bestChange 13 = .ok (.getfield 66, 3) := by decide +kernel
theorem dX10_bestChange_16 : decode cX10_bestChange 16 = .ok (.aload_n 0, 1) := by decide +kernel
theorem dX10_bestChange_17 : decode cX10_bestChange 17 = .ok (.getfield 12, 3) := by decide +kernel
theorem dX10_bestChange_20 : decode cX10_bestChange 20 = .ok (.invokevirtual 201, 3) := by decide +kernel
theorem dX10_bestChange_23 : decode cX10_bestChange 23 = .ok (.aload_n 0, 1) := by decide +kernel
theorem dX10_bestChange_24 : decode cX10_bestChange 24 = .ok (.getfield 66, 3) := by decide +kernel
theorem dX10_bestChange_27 : decode cX10_bestChange 27 = .ok (.getfield 204, 3) := by decide +kernel
theorem dX10_bestChange_30 : decode cX10_bestChange 30 = .ok (.iconst (-1), 1) := by decide +kernel
theorem dX10_bestChange_31 : decode cX10_bestChange 31 = .ok (.if_icmp .ne 6, 3) := by decide +kernel
theorem dX10_bestChange_34 : decode cX10_bestChange 34 = .ok (.ldc 142, 2) := by decide +kernel
theorem dX10_bestChange_36 : decode cX10_bestChange 36 = .ok (.ireturn, 1) := by decide +kernel
theorem dX10_bestChange_37 : decode cX10_bestChange 37 = .ok (.iload_n 1, 1) := by decide +kernel
theorem dX10_bestChange_38 : decode cX10_bestChange 38 = .ok (.lookupswitch 42 #[(0, 26), (1, 34)], 26) := by decide +kernel
theorem dX10_bestChange_64 : decode cX10_bestChange 64 = .ok (.aload_n 0, 1) := by decide +kernel
theorem dX10_bestChange_65 : decode cX10_bestChange 65 = .ok (.getfield 66, 3) := by decide +kernel
theorem dX10_bestChange_68 : decode cX10_bestChange 68 = .ok (.getfield 204, 3) := by decide +kernel
theorem dX10_bestChange_71 : decode cX10_bestChange 71 = .ok (.ireturn, 1) := by decide +kernel
theorem dX10_bestChange_72 : decode cX10_bestChange 72 = .ok (.aload_n 0, 1) := by decide +kernel
theorem dX10_bestChange_73 : decode cX10_bestChange 73 = .ok (.getfield 66, 3) := by decide +kernel
theorem dX10_bestChange_76 : decode cX10_bestChange 76 = .ok (.getfield 207, 3) := by decide +kernel
theorem dX10_bestChange_79 : decode cX10_bestChange 79 = .ok (.ireturn, 1) := by decide +kernel
theorem dX10_bestChange_80 : decode cX10_bestChange 80 = .ok (.aload_n 0, 1) := by decide +kernel
theorem dX10_bestChange_81 : decode cX10_bestChange 81 = .ok (.getfield 12, 3) := by decide +kernel
theorem dX10_bestChange_84 : decode cX10_bestChange 84 = .ok (.getfield 113, 3) := by decide +kernel
theorem dX10_bestChange_87 : decode cX10_bestChange 87 = .ok (.getfield 86, 3) := by decide +kernel
theorem dX10_bestChange_90 : decode cX10_bestChange 90 = .ok (.aload_n 0, 1) := by decide +kernel
theorem dX10_bestChange_91 : decode cX10_bestChange 91 = .ok (.getfield 12, 3) := by decide +kernel
theorem dX10_bestChange_94 : decode cX10_bestChange 94 = .ok (.getfield 129, 3) := by decide +kernel
theorem dX10_bestChange_97 : decode cX10_bestChange 97 = .ok (.getfield 86, 3) := by decide +kernel
theorem dX10_bestChange_100 : decode cX10_bestChange 100 = .ok (.iadd, 1) := by decide +kernel
theorem dX10_bestChange_101 : decode cX10_bestChange 101 = .ok (.iconst 2, 1) := by decide +kernel
theorem dX10_bestChange_102 : decode cX10_bestChange 102 = .ok (.aload_n 0, 1) := by decide +kernel
theorem dX10_bestChange_103 : decode cX10_bestChange 103 = .ok (.getfield 66, 3) := by decide +kernel
theorem dX10_bestChange_106 : decode cX10_bestChange 106 = .ok (.getfield 210, 3) := by decide +kernel
theorem dX10_bestChange_109 : decode cX10_bestChange 109 = .ok (.imul, 1) := by decide +kernel
theorem dX10_bestChange_110 : decode cX10_bestChange 110 = .ok (.isub, 1) := by decide +kernel
theorem dX10_bestChange_111 : decode cX10_bestChange 111 = .ok (.ireturn, 1) := by decide +kernel
theorem dX10_count_0 : decode cX10_count 0 = .ok (.iload_n 1, 1) := by decide +kernel
theorem dX10_count_1 : decode cX10_count 1 = .ok (.bipush 20, 2) := by decide +kernel
theorem dX10_count_3 : decode cX10_count 3 = .ok (.bipush 22, 2) := by decide +kernel
theorem dX10_count_5 : decode cX10_count 5 = .ok (.invokestatic 77, 3) := by decide +kernel
theorem dX10_count_8 : decode cX10_count 8 = .ok (.ifCond .eq 16, 3) := by decide +kernel
theorem dX10_count_11 : decode cX10_count 11 = .ok (.aload_n 0, 1) := by decide +kernel
theorem dX10_count_12 : decode cX10_count 12 = .ok (.getfield 12, 3) := by decide +kernel
theorem dX10_count_15 : decode cX10_count 15 = .ok (.getfield 123, 3) := by decide +kernel
theorem dX10_count_18 : decode cX10_count 18 = .ok (.iload_n 1, 1) := by decide +kernel
theorem dX10_count_19 : decode cX10_count 19 = .ok (.bipush 20, 2) := by decide +kernel
theorem dX10_count_21 : decode cX10_count 21 = .ok (.isub, 1) := by decide +kernel
theorem dX10_count_22 : decode cX10_count 22 = .ok (.iaload, 1) := by decide +kernel
theorem dX10_count_23 : decode cX10_count 23 = .ok (.ireturn, 1) := by decide +kernel
theorem dX10_count_24 : decode cX10_count 24 = .ok (.iload_n 1, 1) := by decide +kernel
theorem dX10_count_25 : decode cX10_count 25 = .ok (.tableswitch 103 0 8 #[51, 62, 73, 73, 73, 73, 79, 87, 95], 51) := by decide +kernel
theorem dX10_count_76 : decode cX10_count 76 = .ok (.aload_n 0, 1) := by decide +kernel
theorem dX10_count_77 : decode cX10_count 77 = .ok (.getfield 12, 3) := by decide +kernel
theorem dX10_count_80 : decode cX10_count 80 = .ok (.getfield 113, 3) := by decide +kernel
theorem dX10_count_83 : decode cX10_count 83 = .ok (.getfield 86, 3) := by decide +kernel
theorem dX10_count_86 : decode cX10_count 86 = .ok (.ireturn, 1) := by decide +kernel
theorem dX10_count_87 : decode cX10_count 87 = .ok (.aload_n 0, 1) := by decide +kernel
theorem dX10_count_88 : decode cX10_count 88 = .ok (.getfield 12, 3) := by decide +kernel
theorem dX10_count_91 : decode cX10_count 91 = .ok (.getfield 129, 3) := by decide +kernel
theorem dX10_count_94 : decode cX10_count 94 = .ok (.getfield 86, 3) := by decide +kernel
theorem dX10_count_97 : decode cX10_count 97 = .ok (.ireturn, 1) := by decide +kernel
theorem dX10_count_98 : decode cX10_count 98 = .ok (.aload_n 0, 1) := by decide +kernel
theorem dX10_count_99 : decode cX10_count 99 = .ok (.iload_n 1, 1) := by decide +kernel
theorem dX10_count_100 : decode cX10_count 100 = .ok (.invokevirtual 213, 3) := by decide +kernel
theorem dX10_count_103 : decode cX10_count 103 = .ok (.ireturn, 1) := by decide +kernel
theorem dX10_count_104 : decode cX10_count 104 = .ok (.aload_n 0, 1) := by decide +kernel
theorem dX10_count_105 : decode cX10_count 105 = .ok (.getfield 12, 3) := by decide +kernel
theorem dX10_count_108 : decode cX10_count 108 = .ok (.invokevirtual 216, 3) := by decide +kernel
theorem dX10_count_111 : decode cX10_count 111 = .ok (.ireturn, 1) := by decide +kernel
theorem dX10_count_112 : decode cX10_count 112 = .ok (.aload_n 0, 1) := by decide +kernel
theorem dX10_count_113 : decode cX10_count 113 = .ok (.getfield 19, 3) := by decide +kernel
theorem dX10_count_116 : decode cX10_count 116 = .ok (.getfield 220, 3) := by decide +kernel
theorem dX10_count_119 : decode cX10_count 119 = .ok (.ireturn, 1) := by decide +kernel
theorem dX10_count_120 : decode cX10_count 120 = .ok (.aload_n 0, 1) := by decide +kernel
theorem dX10_count_121 : decode cX10_count 121 = .ok (.getfield 28, 3) := by decide +kernel
theorem dX10_count_124 : decode cX10_count 124 = .ok (.getfield 86, 3) := by decide +kernel
theorem dX10_count_127 : decode cX10_count 127 = .ok (.ireturn, 1) := by decide +kernel
theorem dX10_count_128 : decode cX10_count 128 = .ok (.ldc 81, 2) := by decide +kernel
theorem dX10_count_130 : decode cX10_count 130 = .ok (.ireturn, 1) := by decide +kernel
theorem dX10_undo_0 : decode cX10_undo 0 = .ok (.aload_n 0, 1) := by decide +kernel
theorem dX10_undo_1 : decode cX10_undo 1 = .ok (.getfield 19, 3) := by decide +kernel
theorem dX10_undo_4 : decode cX10_undo 4 = .ok (.getfield 220, 3) := by decide +kernel
theorem dX10_undo_7 : decode cX10_undo 7 = .ok (.ifCond .ne 6, 3) := by decide +kernel
theorem dX10_undo_10 : decode cX10_undo 10 = .ok (.ldc 98, 2) := by decide +kernel
theorem dX10_undo_12 : decode cX10_undo 12 = .ok (.ireturn, 1) := by decide +kernel
theorem dX10_undo_13 : decode cX10_undo 13 = .ok (.aload_n 0, 1) := by decide +kernel
theorem dX10_undo_14 : decode cX10_undo 14 = .ok (.getfield 19, 3) := by decide +kernel
theorem dX10_undo_17 : decode cX10_undo 17 = .ok (.aload_n 0, 1) := by decide +kernel
theorem dX10_undo_18 : decode cX10_undo 18 = .ok (.getfield 12, 3) := by decide +kernel
theorem dX10_undo_21 : decode cX10_undo 21 = .ok (.invokevirtual 221, 3) := by decide +kernel
theorem dX10_undo_24 : decode cX10_undo 24 = .ok (.aload_n 0, 1) := by decide +kernel
theorem dX10_undo_25 : decode cX10_undo 25 = .ok (.getfield 19, 3) := by decide +kernel
theorem dX10_undo_28 : decode cX10_undo 28 = .ok (.getfield 220, 3) := by decide +kernel
theorem dX10_undo_31 : decode cX10_undo 31 = .ok (.ireturn, 1) := by decide +kernel
theorem dX10_type_0 : decode cX10_type 0 = .ok (.iload_n 1, 1) := by decide +kernel
theorem dX10_type_1 : decode cX10_type 1 = .ok (.bipush 32, 2) := by decide +kernel
theorem dX10_type_3 : decode cX10_type 3 = .ok (.bipush 126, 2) := by decide +kernel
theorem dX10_type_5 : decode cX10_type 5 = .ok (.invokestatic 77, 3) := by decide +kernel
theorem dX10_type_8 : decode cX10_type 8 = .ok (.ifCond .ne 6, 3) := by decide +kernel
theorem dX10_type_11 : decode cX10_type 11 = .ok (.ldc 81, 2) := by decide +kernel
theorem dX10_type_13 : decode cX10_type 13 = .ok (.ireturn, 1) := by decide +kernel
theorem dX10_type_14 : decode cX10_type 14 = .ok (.aload_n 0, 1) := by decide +kernel
theorem dX10_type_15 : decode cX10_type 15 = .ok (.getfield 28, 3) := by decide +kernel
theorem dX10_type_18 : decode cX10_type 18 = .ok (.getfield 86, 3) := by decide +kernel
theorem dX10_type_21 : decode cX10_type 21 = .ok (.bipush 60, 2) := by decide +kernel
theorem dX10_type_23 : decode cX10_type 23 = .ok (.if_icmp .lt 6, 3) := by decide +kernel
theorem dX10_type_26 : decode cX10_type 26 = .ok (.ldc 90, 2) := by decide +kernel
theorem dX10_type_28 : decode cX10_type 28 = .ok (.ireturn, 1) := by decide +kernel
theorem dX10_type_29 : decode cX10_type 29 = .ok (.aload_n 0, 1) := by decide +kernel
theorem dX10_type_30 : decode cX10_type 30 = .ok (.getfield 28, 3) := by decide +kernel
theorem dX10_type_33 : decode cX10_type 33 = .ok (.iload_n 1, 1) := by decide +kernel
theorem dX10_type_34 : decode cX10_type 34 = .ok (.invokevirtual 95, 3) := by decide +kernel
theorem dX10_type_37 : decode cX10_type 37 = .ok (.aload_n 0, 1) := by decide +kernel
theorem dX10_type_38 : decode cX10_type 38 = .ok (.getfield 28, 3) := by decide +kernel
theorem dX10_type_41 : decode cX10_type 41 = .ok (.getfield 86, 3) := by decide +kernel
theorem dX10_type_44 : decode cX10_type 44 = .ok (.ireturn, 1) := by decide +kernel
theorem dX10_clearText_0 : decode cX10_clearText 0 = .ok (.aload_n 0, 1) := by decide +kernel
theorem dX10_clearText_1 : decode cX10_clearText 1 = .ok (.getfield 28, 3) := by decide +kernel
theorem dX10_clearText_4 : decode cX10_clearText 4 = .ok (.getfield 86, 3) := by decide +kernel
theorem dX10_clearText_7 : decode cX10_clearText 7 = .ok (.istore_n 1, 1) := by decide +kernel
theorem dX10_clearText_8 : decode cX10_clearText 8 = .ok (.aload_n 0, 1) := by decide +kernel
theorem dX10_clearText_9 : decode cX10_clearText 9 = .ok (.getfield 28, 3) := by decide +kernel
theorem dX10_clearText_12 : decode cX10_clearText 12 = .ok (.invokevirtual 224, 3) := by decide +kernel
theorem dX10_clearText_15 : decode cX10_clearText 15 = .ok (.iload_n 1, 1) := by decide +kernel
theorem dX10_clearText_16 : decode cX10_clearText 16 = .ok (.ireturn, 1) := by decide +kernel
theorem dX10_fault_0 : decode cX10_fault 0 = .ok (.iload_n 1, 1) := by decide +kernel
theorem dX10_fault_1 : decode cX10_fault 1 = .ok (.iconst 0, 1) := by decide +kernel
theorem dX10_fault_2 : decode cX10_fault 2 = .ok (.iconst 2, 1) := by decide +kernel
theorem dX10_fault_3 : decode cX10_fault 3 = .ok (.invokestatic 77, 3) := by decide +kernel
theorem dX10_fault_6 : decode cX10_fault 6 = .ok (.ifCond .ne 6, 3) := by decide +kernel
theorem dX10_fault_9 : decode cX10_fault 9 = .ok (.ldc 81, 2) := by decide +kernel
theorem dX10_fault_11 : decode cX10_fault 11 = .ok (.ireturn, 1) := by decide +kernel
theorem dX10_fault_12 : decode cX10_fault 12 = .ok (.aload_n 0, 1) := by decide +kernel
theorem dX10_fault_13 : decode cX10_fault 13 = .ok (.getfield 73, 3) := by decide +kernel
theorem dX10_fault_16 : decode cX10_fault 16 = .ok (.aload_n 0, 1) := by decide +kernel
theorem dX10_fault_17 : decode cX10_fault 17 = .ok (.getfield 28, 3) := by decide +kernel
theorem dX10_fault_20 : decode cX10_fault 20 = .ok (.aload_n 0, 1) := by decide +kernel
theorem dX10_fault_21 : decode cX10_fault 21 = .ok (.getfield 12, 3) := by decide +kernel
theorem dX10_fault_24 : decode cX10_fault 24 = .ok (.getfield 113, 3) := by decide +kernel
theorem dX10_fault_27 : decode cX10_fault 27 = .ok (.invokevirtual 227, 3) := by decide +kernel
theorem dX10_fault_30 : decode cX10_fault 30 = .ok (.aload_n 0, 1) := by decide +kernel
theorem dX10_fault_31 : decode cX10_fault 31 = .ok (.getfield 73, 3) := by decide +kernel
theorem dX10_fault_34 : decode cX10_fault 34 = .ok (.getfield 231, 3) := by decide +kernel
theorem dX10_fault_37 : decode cX10_fault 37 = .ok (.ifCond .ne 6, 3) := by decide +kernel
theorem dX10_fault_40 : decode cX10_fault 40 = .ok (.ldc 142, 2) := by decide +kernel
theorem dX10_fault_42 : decode cX10_fault 42 = .ok (.ireturn, 1) := by decide +kernel
theorem dX10_fault_43 : decode cX10_fault 43 = .ok (.iload_n 1, 1) := by decide +kernel
theorem dX10_fault_44 : decode cX10_fault 44 = .ok (.lookupswitch 44 #[(0, 28), (1, 36)], 28) := by decide +kernel
theorem dX10_fault_72 : decode cX10_fault 72 = .ok (.aload_n 0, 1) := by decide +kernel
theorem dX10_fault_73 : decode cX10_fault 73 = .ok (.getfield 73, 3) := by decide +kernel
theorem dX10_fault_76 : decode cX10_fault 76 = .ok (.getfield 234, 3) := by decide +kernel
theorem dX10_fault_79 : decode cX10_fault 79 = .ok (.ireturn, 1) := by decide +kernel
theorem dX10_fault_80 : decode cX10_fault 80 = .ok (.aload_n 0, 1) := by decide +kernel
theorem dX10_fault_81 : decode cX10_fault 81 = .ok (.getfield 73, 3) := by decide +kernel
theorem dX10_fault_84 : decode cX10_fault 84 = .ok (.getfield 231, 3) := by decide +kernel
theorem dX10_fault_87 : decode cX10_fault 87 = .ok (.ireturn, 1) := by decide +kernel
theorem dX10_fault_88 : decode cX10_fault 88 = .ok (.aload_n 0, 1) := by decide +kernel
theorem dX10_fault_89 : decode cX10_fault 89 = .ok (.getfield 73, 3) := by decide +kernel
theorem dX10_fault_92 : decode cX10_fault 92 = .ok (.getfield 237, 3) := by decide +kernel
theorem dX10_fault_95 : decode cX10_fault 95 = .ok (.invokestatic 126, 3) := by decide +kernel
theorem dX10_fault_98 : decode cX10_fault 98 = .ok (.ireturn, 1) := by decide +kernel
theorem dX10_apply_0 : decode cX10_apply 0 = .ok (.aload_n 0, 1) := by decide +kernel
theorem dX10_apply_1 : decode cX10_apply 1 = .ok (.getfield 73, 3) := by decide +kernel
theorem dX10_apply_4 : decode cX10_apply 4 = .ok (.aload_n 0, 1) := by decide +kernel
theorem dX10_apply_5 : decode cX10_apply 5 = .ok (.getfield 28, 3) := by decide +kernel
theorem dX10_apply_8 : decode cX10_apply 8 = .ok (.aload_n 0, 1) := by decide +kernel
theorem dX10_apply_9 : decode cX10_apply 9 = .ok (.getfield 12, 3) := by decide +kernel
theorem dX10_apply_12 : decode cX10_apply 12 = .ok (.getfield 113, 3) := by decide +kernel
theorem dX10_apply_15 : decode cX10_apply 15 = .ok (.invokevirtual 227, 3) := by decide +kernel
theorem dX10_apply_18 : decode cX10_apply 18 = .ok (.aload_n 0, 1) := by decide +kernel
theorem dX10_apply_19 : decode cX10_apply 19 = .ok (.getfield 73, 3) := by decide +kernel
theorem dX10_apply_22 : decode cX10_apply 22 = .ok (.getfield 231, 3) := by decide +kernel
theorem dX10_apply_25 : decode cX10_apply 25 = .ok (.ifCond .eq 6, 3) := by decide +kernel
theorem dX10_apply_28 : decode cX10_apply 28 = .ok (.ldc 98, 2) := by decide +kernel
theorem dX10_apply_30 : decode cX10_apply 30 = .ok (.ireturn, 1) := by decide +kernel
theorem dX10_apply_31 : decode cX10_apply 31 = .ok (.aload_n 0, 1) := by decide +kernel
theorem dX10_apply_32 : decode cX10_apply 32 = .ok (.getfield 19, 3) := by decide +kernel
theorem dX10_apply_35 : decode cX10_apply 35 = .ok (.aload_n 0, 1) := by decide +kernel
theorem dX10_apply_36 : decode cX10_apply 36 = .ok (.getfield 12, 3) := by decide +kernel
theorem dX10_apply_39 : decode cX10_apply 39 = .ok (.invokevirtual 91, 3) := by decide +kernel
theorem dX10_apply_42 : decode cX10_apply 42 = .ok (.aload_n 0, 1) := by decide +kernel
theorem dX10_apply_43 : decode cX10_apply 43 = .ok (.getfield 12, 3) := by decide +kernel
theorem dX10_apply_46 : decode cX10_apply 46 = .ok (.getfield 129, 3) := by decide +kernel
theorem dX10_apply_49 : decode cX10_apply 49 = .ok (.aload_n 0, 1) := by decide +kernel
theorem dX10_apply_50 : decode cX10_apply 50 = .ok (.getfield 73, 3) := by decide +kernel
theorem dX10_apply_53 : decode cX10_apply 53 = .ok (.getfield 240, 3) := by decide +kernel
theorem dX10_apply_56 : decode cX10_apply 56 = .ok (.invokevirtual 243, 3) := by decide +kernel
theorem dX10_apply_59 : decode cX10_apply 59 = .ok (.aload_n 0, 1) := by decide +kernel
theorem dX10_apply_60 : decode cX10_apply 60 = .ok (.getfield 12, 3) := by decide +kernel
theorem dX10_apply_63 : decode cX10_apply 63 = .ok (.getfield 129, 3) := by decide +kernel
theorem dX10_apply_66 : decode cX10_apply 66 = .ok (.getfield 86, 3) := by decide +kernel
theorem dX10_apply_69 : decode cX10_apply 69 = .ok (.ireturn, 1) := by decide +kernel
theorem dX10_isIn_0 : decode cX10_isIn 0 = .ok (.iload_n 0, 1) := by decide +kernel
theorem dX10_isIn_1 : decode cX10_isIn 1 = .ok (.iload_n 1, 1) := by decide +kernel
theorem dX10_isIn_2 : decode cX10_isIn 2 = .ok (.if_icmp .lt 12, 3) := by decide +kernel
theorem dX10_isIn_5 : decode cX10_isIn 5 = .ok (.iload_n 0, 1) := by decide +kernel
theorem dX10_isIn_6 : decode cX10_isIn 6 = .ok (.iload_n 2, 1) := by decide +kernel
theorem dX10_isIn_7 : decode cX10_isIn 7 = .ok (.if_icmp .gt 7, 3) := by decide +kernel
theorem dX10_isIn_10 : decode cX10_isIn 10 = .ok (.iconst 1, 1) := by decide +kernel
theorem dX10_isIn_11 : decode cX10_isIn 11 = .ok (.goto 4, 3) := by decide +kernel
theorem dX10_isIn_14 : decode cX10_isIn 14 = .ok (.iconst 0, 1) := by decide +kernel
theorem dX10_isIn_15 : decode cX10_isIn 15 = .ok (.ireturn, 1) := by decide +kernel
theorem dX10_orNotFound_0 : decode cX10_orNotFound 0 = .ok (.iload_n 0, 1) := by decide +kernel
theorem dX10_orNotFound_1 : decode cX10_orNotFound 1 = .ok (.iconst (-1), 1) := by decide +kernel
theorem dX10_orNotFound_2 : decode cX10_orNotFound 2 = .ok (.if_icmp .ne 8, 3) := by decide +kernel
theorem dX10_orNotFound_5 : decode cX10_orNotFound 5 = .ok (.ldc 142, 2) := by decide +kernel
theorem dX10_orNotFound_7 : decode cX10_orNotFound 7 = .ok (.goto 4, 3) := by decide +kernel
theorem dX10_orNotFound_10 : decode cX10_orNotFound 10 = .ok (.iload_n 0, 1) := by decide +kernel
theorem dX10_orNotFound_11 : decode cX10_orNotFound 11 = .ok (.ireturn, 1) := by decide +kernel
theorem dX10_isAboveLimit_0 : decode cX10_isAboveLimit 0 = .ok (.aload_n 0, 1) := by decide +kernel
theorem dX10_isAboveLimit_1 : decode cX10_isAboveLimit 1 = .ok (.getfield 35, 3) := by decide +kernel
theorem dX10_isAboveLimit_4 : decode cX10_isAboveLimit 4 = .ok (.getfield 139, 3) := by decide +kernel
theorem dX10_isAboveLimit_7 : decode cX10_isAboveLimit 7 = .ok (.aload_n 0, 1) := by decide +kernel
theorem dX10_isAboveLimit_8 : decode cX10_isAboveLimit 8 = .ok (.getfield 12, 3) := by decide +kernel
theorem dX10_isAboveLimit_11 : decode cX10_isAboveLimit 11 = .ok (.getfield 123, 3) := by decide +kernel
theorem dX10_isAboveLimit_14 : decode cX10_isAboveLimit 14 = .ok (.iconst 0, 1) := by decide +kernel
theorem dX10_isAboveLimit_15 : decode cX10_isAboveLimit 15 = .ok (.iaload, 1) := by decide +kernel
theorem dX10_isAboveLimit_16 : decode cX10_isAboveLimit 16 = .ok (.if_icmp .le 7, 3) := by decide +kernel
theorem dX10_isAboveLimit_19 : decode cX10_isAboveLimit 19 = .ok (.iconst 1, 1) := by decide +kernel
theorem dX10_isAboveLimit_20 : decode cX10_isAboveLimit 20 = .ok (.goto 4, 3) := by decide +kernel
theorem dX10_isAboveLimit_23 : decode cX10_isAboveLimit 23 = .ok (.iconst 0, 1) := by decide +kernel
theorem dX10_isAboveLimit_24 : decode cX10_isAboveLimit 24 = .ok (.ireturn, 1) := by decide +kernel
theorem dX10_findScript_0 : decode cX10_findScript 0 = .ok (.aload_n 0, 1) := by decide +kernel
theorem dX10_findScript_1 : decode cX10_findScript 1 = .ok (.getfield 35, 3) := by decide +kernel
theorem dX10_findScript_4 : decode cX10_findScript 4 = .ok (.aload_n 0, 1) := by decide +kernel
theorem dX10_findScript_5 : decode cX10_findScript 5 = .ok (.getfield 12, 3) := by decide +kernel
theorem dX10_findScript_8 : decode cX10_findScript 8 = .ok (.invokevirtual 136, 3) := by decide +kernel
theorem dX10_findScript_11 : decode cX10_findScript 11 = .ok (.aload_n 0, 1) := by decide +kernel
theorem dX10_findScript_12 : decode cX10_findScript 12 = .ok (.invokevirtual 145, 3) := by decide +kernel
theorem dX10_findScript_15 : decode cX10_findScript 15 = .ok (.ifCond .eq 5, 3) := by decide +kernel
theorem dX10_findScript_18 : decode cX10_findScript 18 = .ok (.iconst 0, 1) := by decide +kernel
theorem dX10_findScript_19 : decode cX10_findScript 19 = .ok (.ireturn, 1) := by decide +kernel
theorem dX10_findScript_20 : decode cX10_findScript 20 = .ok (.aload_n 0, 1) := by decide +kernel
theorem dX10_findScript_21 : decode cX10_findScript 21 = .ok (.getfield 42, 3) := by decide +kernel
theorem dX10_findScript_24 : decode cX10_findScript 24 = .ok (.aload_n 0, 1) := by decide +kernel
theorem dX10_findScript_25 : decode cX10_findScript 25 = .ok (.getfield 12, 3) := by decide +kernel
theorem dX10_findScript_28 : decode cX10_findScript 28 = .ok (.aload_n 0, 1) := by decide +kernel
theorem dX10_findScript_29 : decode cX10_findScript 29 = .ok (.getfield 35, 3) := by decide +kernel
theorem dX10_findScript_32 : decode cX10_findScript 32 = .ok (.invokevirtual 246, 3) := by decide +kernel
theorem dX10_findScript_35 : decode cX10_findScript 35 = .ok (.iconst 1, 1) := by decide +kernel
theorem dX10_findScript_36 : decode cX10_findScript 36 = .ok (.ireturn, 1) := by decide +kernel
theorem dX10_countOfScript_0 : decode cX10_countOfScript 0 = .ok (.aload_n 0, 1) := by decide +kernel
theorem dX10_countOfScript_1 : decode cX10_countOfScript 1 = .ok (.invokevirtual 149, 3) := by decide +kernel
theorem dX10_countOfScript_4 : decode cX10_countOfScript 4 = .ok (.ifCond .ne 6, 3) := by decide +kernel
theorem dX10_countOfScript_7 : decode cX10_countOfScript 7 = .ok (.ldc 90, 2) := by decide +kernel
theorem dX10_countOfScript_9 : decode cX10_countOfScript 9 = .ok (.ireturn, 1) := by decide +kernel
theorem dX10_countOfScript_10 : decode cX10_countOfScript 10 = .ok (.iload_n 1, 1) := by decide +kernel
theorem dX10_countOfScript_11 : decode cX10_countOfScript 11 = .ok (.tableswitch 77 2 4 #[25, 33, 49], 25) := by decide +kernel
theorem dX10_countOfScript_36 : decode cX10_countOfScript 36 = .ok (.aload_n 0, 1) := by decide +kernel
theorem dX10_countOfScript_37 : decode cX10_countOfScript 37 = .ok (.getfield 42, 3) := by decide +kernel
theorem dX10_countOfScript_40 : decode cX10_countOfScript 40 = .ok (.getfield 152, 3) := by decide +kernel
theorem dX10_countOfScript_43 : decode cX10_countOfScript 43 = .ok (.ireturn, 1) := by decide +kernel
theorem dX10_countOfScript_44 : decode cX10_countOfScript 44 = .ok (.aload_n 0, 1) := by decide +kernel
theorem dX10_countOfScript_45 : decode cX10_countOfScript 45 = .ok (.getfield 42, 3) := by decide +kernel
theorem dX10_countOfScript_48 : decode cX10_countOfScript 48 = .ok (.getfield 152, 3) := by decide +kernel
theorem dX10_countOfScript_51 : decode cX10_countOfScript 51 = .ok (.aload_n 0, 1) := by decide +kernel
theorem dX10_countOfScript_52 : decode cX10_countOfScript 52 = .ok (.getfield 35, 3) := by decide +kernel
theorem dX10_countOfScript_55 : decode cX10_countOfScript 55 = .ok (.getfield 139, 3) := by decide +kernel
theorem dX10_countOfScript_58 : decode cX10_countOfScript 58 = .ok (.isub, 1) := by decide +kernel
theorem dX10_countOfScript_59 : decode cX10_countOfScript 59 = .ok (.ireturn, 1) := by decide +kernel
theorem dX10_countOfScript_60 : decode cX10_countOfScript 60 = .ok (.aload_n 0, 1) := by decide +kernel
theorem dX10_countOfScript_61 : decode cX10_countOfScript 61 = .ok (.getfield 52, 3) := by decide +kernel
theorem dX10_countOfScript_64 : decode cX10_countOfScript 64 = .ok (.aload_n 0, 1) := by decide +kernel
theorem dX10_countOfScript_65 : decode cX10_countOfScript 65 = .ok (.getfield 42, 3) := by decide +kernel
theorem dX10_countOfScript_68 : decode cX10_countOfScript 68 = .ok (.aload_n 0, 1) := by decide +kernel
theorem dX10_countOfScript_69 : decode cX10_countOfScript 69 = .ok (.getfield 12, 3) := by decide +kernel
theorem dX10_countOfScript_72 : decode cX10_countOfScript 72 = .ok (.getfield 123, 3) := by decide +kernel
theorem dX10_countOfScript_75 : decode cX10_countOfScript 75 = .ok (.iconst 1, 1) := by decide +kernel
theorem dX10_countOfScript_76 : decode cX10_countOfScript 76 = .ok (.iaload, 1) := by decide +kernel
theorem dX10_countOfScript_77 : decode cX10_countOfScript 77 = .ok (.invokevirtual 173, 3) := by decide +kernel
theorem dX10_countOfScript_80 : decode cX10_countOfScript 80 = .ok (.aload_n 0, 1) := by decide +kernel
theorem dX10_countOfScript_81 : decode cX10_countOfScript 81 = .ok (.getfield 52, 3) := by decide +kernel
theorem dX10_countOfScript_84 : decode cX10_countOfScript 84 = .ok (.getfield 176, 3) := by decide +kernel
theorem dX10_countOfScript_87 : decode cX10_countOfScript 87 = .ok (.ireturn, 1) := by decide +kernel
theorem dX10_countOfScript_88 : decode cX10_countOfScript 88 = .ok (.aload_n 0, 1) := by decide +kernel
theorem dX10_countOfScript_89 : decode cX10_countOfScript 89 = .ok (.getfield 59, 3) := by decide +kernel
theorem dX10_countOfScript_92 : decode cX10_countOfScript 92 = .ok (.aload_n 0, 1) := by decide +kernel
theorem dX10_countOfScript_93 : decode cX10_countOfScript 93 = .ok (.getfield 42, 3) := by decide +kernel
theorem dX10_countOfScript_96 : decode cX10_countOfScript 96 = .ok (.aload_n 0, 1) := by decide +kernel
theorem dX10_countOfScript_97 : decode cX10_countOfScript 97 = .ok (.getfield 12, 3) := by decide +kernel
theorem dX10_countOfScript_100 : decode cX10_countOfScript 100 = .ok (.getfield 123, 3) := by decide +kernel
theorem dX10_countOfScript_103 : decode cX10_countOfScript 103 = .ok (.iconst 2, 1) := by decide +kernel
theorem dX10_countOfScript_104 : decode cX10_countOfScript 104 = .ok (.iaload, 1) := by decide +kernel
theorem dX10_countOfScript_105 : decode cX10_countOfScript 105 = .ok (.invokevirtual 188, 3) := by decide +kernel
theorem dX10_countOfScript_108 : decode cX10_countOfScript 108 = .ok (.aload_n 0, 1) := by decide +kernel
theorem dX10_countOfScript_109 : decode cX10_countOfScript 109 = .ok (.getfield 59, 3) := by decide +kernel
theorem dX10_countOfScript_112 : decode cX10_countOfScript 112 = .ok (.getfield 250, 3) := by decide +kernel
theorem dX10_countOfScript_115 : decode cX10_countOfScript 115 = .ok (.ireturn, 1) := by decide +kernel
theorem dX11_init_0 : decode cX11_init 0 = .ok (.aload_n 0, 1) := by decide +kernel
theorem dX11_init_1 : decode cX11_init 1 = .ok (.invokespecial 1, 3) := by decide +kernel
theorem dX11_init_4 : decode cX11_init 4 = .ok (.aload_n 0, 1) := by decide +kernel
theorem dX11_init_5 : decode cX11_init 5 = .ok (.bipush 61, 2) := by decide +kernel
theorem dX11_init_7 : decode cX11_init 7 = .ok (.newarray .int, 2) := by decide +kernel
theorem dX11_init_9 : decode cX11_init 9 = .ok (.putfield 7, 3) := by decide +kernel
theorem dX11_init_12 : decode cX11_init 12 = .ok (.aload_n 0, 1) := by decide +kernel
theorem dX11_init_13 : decode cX11_init 13 = .ok (.sipush 244, 3) := by decide +kernel
theorem dX11_init_16 : decode cX11_init 16 = .ok (.newarray .int, 2) := by decide +kernel
theorem dX11_init_18 : decode cX11_init 18 = .ok (.putfield 13, 3) := by decide +kernel
theorem dX11_init_21 : decode cX11_init 21 = .ok (.aload_n 0, 1) := by decide +kernel
theorem dX11_init_22 : decode cX11_init 22 = .ok (.bipush 61, 2) := by decide +kernel
theorem dX11_init_24 : decode cX11_init 24 = .ok (.newarray .int, 2) := by decide +kernel
theorem dX11_init_26 : decode cX11_init 26 = .ok (.putfield 16, 3) := by decide +kernel
theorem dX11_init_29 : decode cX11_init 29 = .ok (.aload_n 0, 1) := by decide +kernel
theorem dX11_init_30 : decode cX11_init 30 = .ok (.bipush 60, 2) := by decide +kernel
theorem dX11_init_32 : decode cX11_init 32 = .ok (.newarray .char, 2) := by decide +kernel
theorem dX11_init_34 : decode cX11_init 34 = .ok (.putfield 19, 3) := by decide +kernel
theorem dX11_init_37 : decode cX11_init 37 = .ok (.aload_n 0, 1) := by decide +kernel
theorem dX11_init_38 : decode cX11_init 38 = .ok (.sipush 6441, 3) := by decide +kernel
theorem dX11_init_41 : decode cX11_init 41 = .ok (.newarray .int, 2) := by decide +kernel
theorem dX11_init_43 : decode cX11_init 43 = .ok (.putfield 23, 3) := by decide +kernel
theorem dX11_init_46 : decode cX11_init 46 = .ok (.aload_n 0, 1) := by decide +kernel
theorem dX11_init_47 : decode cX11_init 47 = .ok (.sipush 168, 3) := by decide +kernel
theorem dX11_init_50 : decode cX11_init 50 = .ok (.newarray .int, 2) := by decide +kernel
theorem dX11_init_52 : decode cX11_init 52 = .ok (.putfield 26, 3) := by decide +kernel
theorem dX11_init_55 : decode cX11_init 55 = .ok (.aload_n 0, 1) := by decide +kernel
theorem dX11_init_56 : decode cX11_init 56 = .ok (.sipush 841, 3) := by decide +kernel
theorem dX11_init_59 : decode cX11_init 59 = .ok (.newarray .int, 2) := by decide +kernel
theorem dX11_init_61 : decode cX11_init 61 = .ok (.putfield 29, 3) := by decide +kernel
theorem dX11_init_64 : decode cX11_init 64 = .ok (.aload_n 0, 1) := by decide +kernel
theorem dX11_init_65 : decode cX11_init 65 = .ok (.sipush 841, 3) := by decide +kernel
theorem dX11_init_68 : decode cX11_init 68 = .ok (.newarray .long, 2) := by decide +kernel
theorem dX11_init_70 : decode cX11_init 70 = .ok (.putfield 32, 3) := by decide +kernel
theorem dX11_init_73 : decode cX11_init 73 = .ok (.aload_n 0, 1) := by decide +kernel
theorem dX11_init_74 : decode cX11_init 74 = .ok (.sipush 400, 3) := by decide +kernel
theorem dX11_init_77 : decode cX11_init 77 = .ok (.newarray .char, 2) := by decide +kernel
theorem dX11_init_79 : decode cX11_init 79 = .ok (.putfield 36, 3) := by decide +kernel
theorem dX11_init_82 : decode cX11_init 82 = .ok (.aload_n 0, 1) := by decide +kernel
theorem dX11_init_83 : decode cX11_init 83 = .ok (.bipush 29, 2) := by decide +kernel
theorem dX11_init_85 : decode cX11_init 85 = .ok (.newarray .int, 2) := by decide +kernel
theorem dX11_init_87 : decode cX11_init 87 = .ok (.putfield 39, 3) := by decide +kernel
theorem dX11_init_90 : decode cX11_init 90 = .ok (.aload_n 0, 1) := by decide +kernel
theorem dX11_init_91 : decode cX11_init 91 = .ok (.bipush 29, 2) := by decide +kernel
theorem dX11_init_93 : decode cX11_init 93 = .ok (.newarray .int, 2) := by decide +kernel
theorem dX11_init_95 : decode cX11_init 95 = .ok (.putfield 42, 3) := by decide +kernel
theorem dX11_init_98 : decode cX11_init 98 = .ok (.aload_n 0, 1) := by decide +kernel
theorem dX11_init_99 : decode cX11_init 99 = .ok (.bipush 28, 2) := by decide +kernel
theorem dX11_init_101 : decode cX11_init 101 = .ok (.newarray .int, 2) := by decide +kernel
theorem dX11_init_103 : decode cX11_init 103 = .ok (.putfield 45, 3) := by decide +kernel
theorem dX11_init_106 : decode cX11_init 106 = .ok (.aload_n 0, 1) := by decide +kernel
theorem dX11_init_107 : decode cX11_init 107 = .ok (.getfield 7, 3) := by decide +kernel
theorem dX11_init_110 : decode cX11_init 110 = .ok (.iconst 2, 1) := by decide +kernel
theorem dX11_init_111 : decode cX11_init 111 = .ok (.bipush 56, 2) := by decide +kernel
theorem dX11_init_113 : decode cX11_init 113 = .ok (.iastore, 1) := by decide +kernel
theorem dX11_init_114 : decode cX11_init 114 = .ok (.aload_n 0, 1) := by decide +kernel
theorem dX11_init_115 : decode cX11_init 115 = .ok (.getfield 7, 3) := by decide +kernel
theorem dX11_init_118 : decode cX11_init 118 = .ok (.iconst 3, 1) := by decide +kernel
theorem dX11_init_119 : decode cX11_init 119 = .ok (.iconst 1, 1) := by decide +kernel
theorem dX11_init_120 : decode cX11_init 120 = .ok (.iastore, 1) := by decide +kernel
theorem dX11_init_121 : decode cX11_init 121 = .ok (.aload_n 0, 1) := by decide +kernel
theorem dX11_init_122 : decode cX11_init 122 = .ok (.getfield 7, 3) := by decide +kernel
theorem dX11_init_125 : decode cX11_init 125 = .ok (.iconst 4, 1) := by decide +kernel
theorem dX11_init_126 : decode cX11_init 126 = .ok (.iconst 2, 1) := by decide +kernel
theorem dX11_init_127 : decode cX11_init 127 = .ok (.iastore, 1) := by decide +kernel
theorem dX11_init_128 : decode cX11_init 128 = .ok (.return_, 1) := by decide +kernel
theorem dX11_in_0 : decode cX11_in 0 = .ok (.iload_n 0, 1) := by decide +kernel
theorem dX11_in_1 : decode cX11_in 1 = .ok (.iload_n 1, 1) := by decide +kernel
theorem dX11_in_2 : decode cX11_in 2 = .ok (.if_icmp .lt 12, 3) := by decide +kernel
theorem dX11_in_5 : decode cX11_in 5 = .ok (.iload_n 0, 1) := by decide +kernel
theorem dX11_in_6 : decode cX11_in 6 = .ok (.iload_n 2, 1) := by decide +kernel
theorem dX11_in_7 : decode cX11_in 7 = .ok (.if_icmp .gt 7, 3) := by decide +kernel
theorem dX11_in_10 : decode cX11_in 10 = .ok (.iconst 1, 1) := by decide +kernel
theorem dX11_in_11 : decode cX11_in 11 = .ok (.goto 4, 3) := by decide +kernel
theorem dX11_in_14 : decode cX11_in 14 = .ok (.iconst 0, 1) := by decide +kernel
theorem dX11_in_15 : decode cX11_in 15 = .ok (.ireturn, 1) := by decide +kernel
theorem dX11_letter_0 : decode cX11_letter 0 = .ok (.aload_n 0, 1) := by decide +kernel
theorem dX11_letter_1 : decode cX11_letter 1 = .ok (.getfield 7, 3) := by decide +kernel
theorem dX11_letter_4 : decode cX11_letter 4 = .ok (.iconst 5, 1) := by decide +kernel
theorem dX11_letter_5 : decode cX11_letter 5 = .ok (.bipush 28, 2) := by decide +kernel
theorem dX11_letter_7 : decode cX11_letter 7 = .ok (.iload_n 1, 1) := by decide +kernel
theorem dX11_letter_8 : decode cX11_letter 8 = .ok (.imul, 1) := by decide +kernel
theorem dX11_letter_9 : decode cX11_letter 9 = .ok (.iadd, 1) := by decide +kernel
theorem dX11_letter_10 : decode cX11_letter 10 = .ok (.iload_n 2, 1) := by decide +kernel
theorem dX11_letter_11 : decode cX11_letter 11 = .ok (.iadd, 1) := by decide +kernel
theorem dX11_letter_12 : decode cX11_letter 12 = .ok (.iaload, 1) := by decide +kernel
theorem dX11_letter_13 : decode cX11_letter 13 = .ok (.ireturn, 1) := by decide +kernel
theorem dX11_alike_0 : decode cX11_alike 0 = .ok (.iload_n 1, 1) := by decide +kernel
theorem dX11_alike_1 : decode cX11_alike 1 = .ok (.iconst 0, 1) := by decide +kernel
theorem dX11_alike_2 : decode cX11_alike 2 = .ok (.aload_n 0, 1) := by decide +kernel
theorem dX11_alike_3 : decode cX11_alike 3 = .ok (.getfield 7, 3) := by decide +kernel
theorem dX11_alike_6 : decode cX11_alike 6 = .ok (.iconst 0, 1) := by decide +kernel
theorem dX11_alike_7 : decode cX11_alike 7 = .ok (.iaload, 1) := by decide +kernel
theorem dX11_alike_8 : decode cX11_alike 8 = .ok (.iconst 1, 1) := by decide +kernel
theorem dX11_alike_9 : decode cX11_alike 9 = .ok (.isub, 1) := by decide +kernel
theorem dX11_alike_10 : decode cX11_alike 10 = .ok (.invokestatic 48, 3) := by decide +kernel
theorem dX11_alike_13 : decode cX11_alike 13 = .ok (.ifCond .eq 38, 3) := by decide +kernel
theorem dX11_alike_16 : decode cX11_alike 16 = .ok (.iload_n 2, 1) := by decide +kernel
theorem dX11_alike_17 : decode cX11_alike 17 = .ok (.iconst 0, 1) := by decide +kernel
theorem dX11_alike_18 : decode cX11_alike 18 = .ok (.aload_n 0, 1) := by decide +kernel
theorem dX11_alike_19 : decode cX11_alike 19 = .ok (.getfield 7, 3) := by decide +kernel
theorem dX11_alike_22 : decode cX11_alike 22 = .ok (.iconst 1, 1) := by decide +kernel
theorem dX11_alike_23 : decode cX11_alike 23 = .ok (.iaload, 1) := by decide +kernel
theorem dX11_alike_24 : decode cX11_alike 24 = .ok (.iconst 1, 1) := by decide +kernel
theorem dX11_alike_25 : decode cX11_alike 25 = .ok (.isub, 1) := by decide +kernel
theorem dX11_alike_26 : decode cX11_alike 26 = .ok (.invokestatic 48, 3) := by decide +kernel
theorem dX11_alike_29 : decode cX11_alike 29 = .ok (.ifCond .eq 22, 3) := by decide +kernel
theorem dX11_alike_32 : decode cX11_alike 32 = .ok (.aload_n 0, 1) := by decide +kernel
theorem dX11_alike_33 : decode cX11_alike 33 = .ok (.iconst 0, 1) := by decide +kernel
theorem dX11_alike_34 : decode cX11_alike 34 = .ok (.iload_n 1, 1) := by decide +kernel
theorem dX11_alike_35 : decode cX11_alike 35 = .ok (.invokevirtual 52, 3) := by decide +kernel
theorem dX11_alike_38 : decode cX11_alike 38 = .ok (.aload_n 0, 1) := by decide +kernel
theorem dX11_alike_39 : decode cX11_alike 39 = .ok (.iconst 1, 1) := by decide +kernel
theorem dX11_alike_40 : decode cX11_alike 40 = .ok (.iload_n 2, 1) := by decide +kernel
theorem dX11_alike_41 : decode cX11_alike 41 = .ok (.invokevirtual 52, 3) := by decide +kernel
theorem dX11_alike_44 : decode cX11_alike 44 = .ok (.if_icmp .ne 7, 3) := by decide +kernel
theorem dX11_alike_47 : decode cX11_alike 47 = .ok (.iconst 1, 1) := by decide +kernel
theorem dX11_alike_48 : decode cX11_alike 48 = .ok (.goto 4, 3) := by decide +kernel
theorem dX11_alike_51 : decode cX11_alike 51 = .ok (.iconst 0, 1) := by decide +kernel
theorem dX11_alike_52 : decode cX11_alike 52 = .ok (.ireturn, 1) := by decide +kernel
theorem dX11_keeps_0 : decode cX11_keeps 0 = .ok (.iconst 0, 1) := by decide +kernel
theorem dX11_keeps_1 : decode cX11_keeps 1 = .ok (.istore_n 1, 1) := by decide +kernel
theorem dX11_keeps_2 : decode cX11_keeps 2 = .ok (.iload_n 1, 1) := by decide +kernel
theorem dX11_keeps_3 : decode cX11_keeps 3 = .ok (.bipush 61, 2) := by decide +kernel
theorem dX11_keeps_5 : decode cX11_keeps 5 = .ok (.if_icmp .ge 21, 3) := by decide +kernel
theorem dX11_keeps_8 : decode cX11_keeps 8 = .ok (.aload_n 0, 1) := by decide +kernel
theorem dX11_keeps_9 : decode cX11_keeps 9 = .ok (.getfield 16, 3) := by decide +kernel
theorem dX11_keeps_12 : decode cX11_keeps 12 = .ok (.iload_n 1, 1) := by decide +kernel
theorem dX11_keeps_13 : decode cX11_keeps 13 = .ok (.aload_n 0, 1) := by decide +kernel
theorem dX11_keeps_14 : decode cX11_keeps 14 = .ok (.getfield 7, 3) := by decide +kernel
theorem dX11_keeps_17 : decode cX11_keeps 17 = .ok (.iload_n 1, 1) := by decide +kernel
theorem dX11_keeps_18 : decode cX11_keeps 18 = .ok (.iaload, 1) := by decide +kernel
theorem dX11_keeps_19 : decode cX11_keeps 19 = .ok (.iastore, 1) := by decide +kernel
theorem dX11_keeps_20 : decode cX11_keeps 20 = .ok (.iinc 1 1, 3) := by decide +kernel
theorem dX11_keeps_23 : decode cX11_keeps 23 = .ok (.goto (-21), 3) := by decide +kernel
theorem dX11_keeps_26 : decode cX11_keeps 26 = .ok (.return_, 1) := by decide +kernel
theorem dX11_acted_0 : decode cX11_acted 0 = .ok (.iload_n 1, 1) := by decide +kernel
theorem dX11_acted_1 : decode cX11_acted 1 = .ok (.ldc 56, 2) := by decide +kernel
theorem dX11_acted_3 : decode cX11_acted 3 = .ok (.if_icmp .le 95, 3) := by decide +kernel
theorem dX11_acted_6 : decode cX11_acted 6 = .ok (.aload_n 0, 1) := by decide +kernel
theorem dX11_acted_7 : decode cX11_acted 7 = .ok (.getfield 57, 3) := by decide +kernel
theorem dX11_acted_10 : decode cX11_acted 10 = .ok (.iconst 4, 1) := by decide +kernel
theorem dX11_acted_11 : decode cX11_acted 11 = .ok (.if_icmp .ne 43, 3) := by decide +kernel
theorem dX11_acted_14 : decode cX11_acted 14 = .ok (.iconst 0, 1) := by decide +kernel
theorem dX11_acted_15 : decode cX11_acted 15 = .ok (.istore_n 2, 1) := by decide +kernel
theorem dX11_acted_16 : decode cX11_acted 16 = .ok (.iload_n 2, 1) := by decide +kernel
theorem dX11_acted_17 : decode cX11_acted 17 = .ok (.sipush 183, 3) := by decide +kernel
theorem dX11_acted_20 : decode cX11_acted 20 = .ok (.if_icmp .ge 24, 3) := by decide +kernel
theorem dX11_acted_23 : decode cX11_acted 23 = .ok (.aload_n 0, 1) := by decide +kernel
theorem dX11_acted_24 : decode cX11_acted 24 = .ok (.getfield 13, 3) := by decide +kernel
theorem dX11_acted_27 : decode cX11_acted 27 = .ok (.iload_n 2, 1) := by decide +kernel
theorem dX11_acted_28 : decode cX11_acted 28 = .ok (.aload_n 0, 1) := by decide +kernel
theorem dX11_acted_29 : decode cX11_acted 29 = .ok (.getfield 13, 3) := by decide +kernel
theorem dX11_acted_32 : decode cX11_acted 32 = .ok (.iload_n 2, 1) := by decide +kernel
theorem dX11_acted_33 : decode cX11_acted 33 = .ok (.bipush 61, 2) := by decide +kernel
theorem dX11_acted_35 : decode cX11_acted 35 = .ok (.iadd, 1) := by decide +kernel
theorem dX11_acted_36 : decode cX11_acted 36 = .ok (.iaload, 1) := by decide +kernel
theorem dX11_acted_37 : decode cX11_acted 37 = .ok (.iastore, 1) := by decide +kernel
theorem dX11_acted_38 : decode cX11_acted 38 = .ok (.iinc 2 1, 3) := by decide +kernel
theorem dX11_acted_41 : decode cX11_acted 41 = .ok (.goto (-25), 3) := by decide +kernel
theorem dX11_acted_44 : decode cX11_acted 44 = .ok (.aload_n 0, 1) := by decide +kernel
theorem dX11_acted_45 : decode cX11_acted 45 = .ok (.dup, 1) := by decide +kernel
theorem dX11_acted_46 : decode cX11_acted 46 = .ok (.getfield 57, 3) := by decide +kernel
theorem dX11_acted_49 : decode cX11_acted 49 = .ok (.iconst 1, 1) := by decide +kernel
theorem dX11_acted_50 : decode cX11_acted 50 = .ok (.isub, 1) := by decide +kernel
theorem dX11_acted_51 : decode cX11_acted 51 = .ok (.putfield 57, 3) := by decide +kernel
theorem dX11_acted_54 : decode cX11_acted 54 = .ok (.iconst 0, 1) := by decide +kernel
theorem dX11_acted_55 : decode cX11_acted 55 = .ok (.istore_n 2, 1) := by decide +kernel
theorem dX11_acted_56 : decode cX11_acted 56 = .ok (.iload_n 2, 1) := by decide +kernel
theorem dX11_acted_57 : decode cX11_acted 57 = .ok (.bipush 61, 2) := by decide +kernel
theorem dX11_acted_59 : decode cX11_acted 59 = .ok (.if_icmp .ge 29, 3) := by decide +kernel
theorem dX11_acted_62 : decode cX11_acted 62 = .ok (.aload_n 0, 1) := by decide +kernel
theorem dX11_acted_63 : decode cX11_acted 63 = .ok (.getfield 13, 3) := by decide +kernel
theorem dX11_acted_66 : decode cX11_acted 66 = .ok (.bipush 61, 2) := by decide +kernel
theorem dX11_acted_68 : decode cX11_acted 68 = .ok (.aload_n 0, 1) := by decide +kernel
theorem dX11_acted_69 : decode cX11_acted 69 = .ok (.getfield 57, 3) := by decide +kernel
theorem dX11_acted_72 : decode cX11_acted 72 = .ok (.imul, 1) := by decide +kernel
theorem dX11_acted_73 : decode cX11_acted 73 = .ok (.iload_n 2, 1) := by decide +kernel
theorem dX11_acted_74 : decode cX11_acted 74 = .ok (.iadd, 1) := by decide +kernel
theorem dX11_acted_75 : decode cX11_acted 75 = .ok (.aload_n 0, 1) := by decide +kernel
theorem dX11_acted_76 : decode cX11_acted 76 = .ok (.getfield 16, 3) := by decide +kernel
theorem dX11_acted_79 : decode cX11_acted 79 = .ok (.iload_n 2, 1) := by decide +kernel
theorem dX11_acted_80 : decode cX11_acted 80 = .ok (.iaload, 1) := by decide +kernel
theorem dX11_acted_81 : decode cX11_acted 81 = .ok (.iastore, 1) := by decide +kernel
theorem dX11_acted_82 : decode cX11_acted 82 = .ok (.iinc 2 1, 3) := by decide +kernel
theorem dX11_acted_85 : decode cX11_acted 85 = .ok (.goto (-29), 3) := by decide +kernel
theorem dX11_acted_88 : decode cX11_acted 88 = .ok (.aload_n 0, 1) := by decide +kernel
theorem dX11_acted_89 : decode cX11_acted 89 = .ok (.dup, 1) := by decide +kernel
theorem dX11_acted_90 : decode cX11_acted 90 = .ok (.getfield 57, 3) := by decide +kernel
theorem dX11_acted_93 : decode cX11_acted 93 = .ok (.iconst 1, 1) := by decide +kernel
theorem dX11_acted_94 : decode cX11_acted 94 = .ok (.iadd, 1) := by decide +kernel
theorem dX11_acted_95 : decode cX11_acted 95 = .ok (.putfield 57, 3) := by decide +kernel
theorem dX11_acted_98 : decode cX11_acted 98 = .ok (.iload_n 1, 1) := by decide +kernel
theorem dX11_acted_99 : decode cX11_acted 99 = .ok (.ireturn, 1) := by decide +kernel
theorem dX11_append_0 : decode cX11_append 0 = .ok (.iload_n 1, 1) := by decide +kernel
theorem dX11_append_1 : decode cX11_append 1 = .ok (.iconst 0, 1) := by decide +kernel
theorem dX11_append_2 : decode cX11_append 2 = .ok (.iconst 1, 1) := by decide +kernel
theorem dX11_append_3 : decode cX11_append 3 = .ok (.invokestatic 48, 3) := by decide +kernel
theorem dX11_append_6 : decode cX11_append 6 = .ok (.ifCond .eq 13, 3) := by decide +kernel
theorem dX11_append_9 : decode cX11_append 9 = .ok (.iload_n 2, 1) := by decide +kernel
theorem dX11_append_10 : decode cX11_append 10 = .ok (.iconst 0, 1) := by decide +kernel
theorem dX11_append_11 : decode cX11_append 11 = .ok (.bipush 7, 2) := by decide +kernel
theorem dX11_append_13 : decode cX11_append 13 = .ok (.invokestatic 48, 3) := by decide +kernel
theorem dX11_append_16 : decode cX11_append 16 = .ok (.ifCond .ne 6, 3) := by decide +kernel
theorem dX11_append_19 : decode cX11_append 19 = .ok (.ldc 56, 2) := by decide +kernel
theorem dX11_append_21 : decode cX11_append 21 = .ok (.ireturn, 1) := by decide +kernel
theorem dX11_append_22 : decode cX11_append 22 = .ok (.aload_n 0, 1) := by decide +kernel
theorem dX11_append_23 : decode cX11_append 23 = .ok (.getfield 7, 3) := by decide +kernel
theorem dX11_append_26 : decode cX11_append 26 = .ok (.iload_n 1, 1) := by decide +kernel
theorem dX11_append_27 : decode cX11_append 27 = .ok (.iaload, 1) := by decide +kernel
theorem dX11_append_28 : decode cX11_append 28 = .ok (.bipush 28, 2) := by decide +kernel
theorem dX11_append_30 : decode cX11_append 30 = .ok (.if_icmp .ne 6, 3) := by decide +kernel
theorem dX11_append_33 : decode cX11_append 33 = .ok (.ldc 61, 2) := by decide +kernel
theorem dX11_append_35 : decode cX11_append 35 = .ok (.ireturn, 1) := by decide +kernel
theorem dX11_append_36 : decode cX11_append 36 = .ok (.aload_n 0, 1) := by decide +kernel
theorem dX11_append_37 : decode cX11_append 37 = .ok (.invokevirtual 62, 3) := by decide +kernel
theorem dX11_append_40 : decode cX11_append 40 = .ok (.aload_n 0, 1) := by decide +kernel
theorem dX11_append_41 : decode cX11_append 41 = .ok (.getfield 7, 3) := by decide +kernel
theorem dX11_append_44 : decode cX11_append 44 = .ok (.iconst 5, 1) := by decide +kernel
theorem dX11_append_45 : decode cX11_append 45 = .ok (.bipush 28, 2) := by decide +kernel
theorem dX11_append_47 : decode cX11_append 47 = .ok (.iload_n 1, 1) := by decide +kernel
theorem dX11_append_48 : decode cX11_append 48 = .ok (.imul, 1) := by decide +kernel
theorem dX11_append_49 : decode cX11_append 49 = .ok (.iadd, 1) := by decide +kernel
theorem dX11_append_50 : decode cX11_append 50 = .ok (.aload_n 0, 1) := by decide +kernel
theorem dX11_append_51 : decode cX11_append 51 = .ok (.getfield 7, 3) := by decide +kernel
theorem dX11_append_54 : decode cX11_append 54 = .ok (.iload_n 1, 1) := by decide +kernel
theorem dX11_append_55 : decode cX11_append 55 = .ok (.iaload, 1) := by decide +kernel
theorem dX11_append_56 : decode cX11_append 56 = .ok (.iadd, 1) := by decide +kernel
theorem dX11_append_57 : decode cX11_append 57 = .ok (.iload_n 2, 1) := by decide +kernel
theorem dX11_append_58 : decode cX11_append 58 = .ok (.iastore, 1) := by decide +kernel
theorem dX11_append_59 : decode cX11_append 59 = .ok (.aload_n 0, 1) := by decide +kernel
theorem dX11_append_60 : decode cX11_append 60 = .ok (.getfield 7, 3) := by decide +kernel
theorem dX11_append_63 : decode cX11_append 63 = .ok (.iload_n 1, 1) := by decide +kernel
theorem dX11_append_64 : decode cX11_append 64 = .ok (.dup2, 1) := by decide +kernel
theorem dX11_append_65 : decode cX11_append 65 = .ok (.iaload, 1) := by decide +kernel
theorem dX11_append_66 : decode cX11_append 66 = .ok (.iconst 1, 1) := by decide +kernel
theorem dX11_append_67 : decode cX11_append 67 = .ok (.iadd, 1) := by decide +kernel
theorem dX11_append_68 : decode cX11_append 68 = .ok (.iastore, 1) := by decide +kernel
theorem dX11_append_69 : decode cX11_append 69 = .ok (.aload_n 0, 1) := by decide +kernel
theorem dX11_append_70 : decode cX11_append 70 = .ok (.aload_n 0, 1) := by decide +kernel
theorem dX11_append_71 : decode cX11_append 71 = .ok (.getfield 7, 3) := by decide +kernel
theorem dX11_append_74 : decode cX11_append 74 = .ok (.iload_n 1, 1) := by decide +kernel
theorem dX11_append_75 : decode cX11_append 75 = .ok (.iaload, 1) := by decide +kernel
theorem dX11_append_76 : decode cX11_append 76 = .ok (.invokevirtual 65, 3) := by decide +kernel
theorem dX11_append_79 : decode cX11_append 79 = .ok (.ireturn, 1) := by decide +kernel
theorem dX11_cut_0 : decode cX11_cut 0 = .ok (.iload_n 1, 1) := by decide +kernel
theorem dX11_cut_1 : decode cX11_cut 1 = .ok (.iconst 0, 1) := by decide +kernel
theorem dX11_cut_2 : decode cX11_cut 2 = .ok (.iconst 1, 1) := by decide +kernel
theorem dX11_cut_3 : decode cX11_cut 3 = .ok (.invokestatic 48, 3) := by decide +kernel
theorem dX11_cut_6 : decode cX11_cut 6 = .ok (.ifCond .eq 17, 3) := by decide +kernel
theorem dX11_cut_9 : decode cX11_cut 9 = .ok (.iload_n 2, 1) := by decide +kernel
theorem dX11_cut_10 : decode cX11_cut 10 = .ok (.ifCond .lt 13, 3) := by decide +kernel
theorem dX11_cut_13 : decode cX11_cut 13 = .ok (.iload_n 3, 1) := by decide +kernel
theorem dX11_cut_14 : decode cX11_cut 14 = .ok (.iconst 1, 1) := by decide +kernel
theorem dX11_cut_15 : decode cX11_cut 15 = .ok (.bipush 28, 2) := by decide +kernel
theorem dX11_cut_17 : decode cX11_cut 17 = .ok (.invokestatic 48, 3) := by decide +kernel
theorem dX11_cut_20 : decode cX11_cut 20 = .ok (.ifCond .ne 6, 3) := by decide +kernel
theorem dX11_cut_23 : decode cX11_cut 23 = .ok (.ldc 56, 2) := by decide +kernel
theorem dX11_cut_25 : decode cX11_cut 25 = .ok (.ireturn, 1) := by decide +kernel
theorem dX11_cut_26 : decode cX11_cut 26 = .ok (.iload_n 2, 1) := by decide +kernel
theorem dX11_cut_27 : decode cX11_cut 27 = .ok (.aload_n 0, 1) := by decide +kernel
theorem dX11_cut_28 : decode cX11_cut 28 = .ok (.getfield 7, 3) := by decide +kernel
theorem dX11_cut_31 : decode cX11_cut 31 = .ok (.iload_n 1, 1) := by decide +kernel
theorem dX11_cut_32 : decode cX11_cut 32 = .ok (.iaload, 1) := by decide +kernel
theorem dX11_cut_33 : decode cX11_cut 33 = .ok (.iload_n 3, 1) := by decide +kernel
theorem dX11_cut_34 : decode cX11_cut 34 = .ok (.isub, 1) := by decide +kernel
theorem dX11_cut_35 : decode cX11_cut 35 = .ok (.if_icmp .le 6, 3) := by decide +kernel
theorem dX11_cut_38 : decode cX11_cut 38 = .ok (.ldc 69, 2) := by decide +kernel
theorem dX11_cut_40 : decode cX11_cut 40 = .ok (.ireturn, 1) := by decide +kernel
theorem dX11_cut_41 : decode cX11_cut 41 = .ok (.aload_n 0, 1) := by decide +kernel
theorem dX11_cut_42 : decode cX11_cut 42 = .ok (.invokevirtual 62, 3) := by decide +kernel
theorem dX11_cut_45 : decode cX11_cut 45 = .ok (.aload_n 0, 1) := by decide +kernel
theorem dX11_cut_46 : decode cX11_cut 46 = .ok (.getfield 7, 3) := by decide +kernel
theorem dX11_cut_49 : decode cX11_cut 49 = .ok (.iload_n 1, 1) := by decide +kernel
theorem dX11_cut_50 : decode cX11_cut 50 = .ok (.dup2, 1) := by decide +kernel
theorem dX11_cut_51 : decode cX11_cut 51 = .ok (.iaload, 1) := by decide +kernel
theorem dX11_cut_52 : decode cX11_cut 52 = .ok (.iload_n 3, 1) := by decide +kernel
theorem dX11_cut_53 : decode cX11_cut 53 = .ok (.isub, 1) := by decide +kernel
theorem dX11_cut_54 : decode cX11_cut 54 = .ok (.iastore, 1) := by decide +kernel
theorem dX11_cut_55 : decode cX11_cut 55 = .ok (.iload_n 2, 1) := by decide +kernel
theorem dX11_cut_56 : decode cX11_cut 56 = .ok (.istore 4, 2) := by decide +kernel
theorem dX11_cut_58 : decode cX11_cut 58 = .ok (.iload 4, 2) := by decide +kernel
theorem dX11_cut_60 : decode cX11_cut 60 = .ok (.aload_n 0, 1) := by decide +kernel
theorem dX11_cut_61 : decode cX11_cut 61 = .ok (.getfield 7, 3) := by decide +kernel
theorem dX11_cut_64 : decode cX11_cut 64 = .ok (.iload_n 1, 1) := by decide +kernel
theorem dX11_cut_65 : decode cX11_cut 65 = .ok (.iaload, 1) := by decide +kernel
theorem dX11_cut_66 : decode cX11_cut 66 = .ok (.if_icmp .ge 32, 3) := by decide +kernel
theorem dX11_cut_69 : decode cX11_cut 69 = .ok (.aload_n 0, 1) := by decide +kernel
theorem dX11_cut_70 : decode cX11_cut 70 = .ok (.getfield 7, 3) := by decide +kernel
theorem dX11_cut_73 : decode cX11_cut 73 = .ok (.iconst 5, 1) := by decide +kernel
theorem dX11_cut_74 : decode cX11_cut 74 = .ok (.bipush 28, 2) := by decide +kernel
theorem dX11_cut_76 : decode cX11_cut 76 = .ok (.iload_n 1, 1) := by decide +kernel
theorem dX11_cut_77 : decode cX11_cut 77 = .ok (.imul, 1) := by decide +kernel
theorem dX11_cut_78 : decode cX11_cut 78 = .ok (.iadd, 1) := by decide +kernel
theorem dX11_cut_79 : decode cX11_cut 79 = .ok (.iload 4, 2) := by decide +kernel
theorem dX11_cut_81 : decode cX11_cut 81 = .ok (.iadd, 1) := by decide +kernel
theorem dX11_cut_82 : decode cX11_cut 82 = .ok (.aload_n 0, 1) := by decide +kernel
theorem dX11_cut_83 : decode cX11_cut 83 = .ok (.iload_n 1, 1) := by decide +kernel
theorem dX11_cut_84 : decode cX11_cut 84 = .ok (.iload 4, 2) := by decide +kernel
theorem dX11_cut_86 : decode cX11_cut 86 = .ok (.iload_n 3, 1) := by decide +kernel
theorem dX11_cut_87 : decode cX11_cut 87 = .ok (.iadd, 1) := by decide +kernel
theorem dX11_cut_88 : decode cX11_cut 88 = .ok (.invokevirtual 52, 3) := by decide +kernel
theorem dX11_cut_91 : decode cX11_cut 91 = .ok (.iastore, 1) := by decide +kernel
theorem dX11_cut_92 : decode cX11_cut 92 = .ok (.iinc 4 1, 3) := by decide +kernel
theorem dX11_cut_95 : decode cX11_cut 95 = .ok (.goto (-37), 3) := by decide +kernel
theorem dX11_cut_98 : decode cX11_cut 98 = .ok (.aload_n 0, 1) := by decide +kernel
theorem dX11_cut_99 : decode cX11_cut 99 = .ok (.aload_n 0, 1) := by decide +kernel
theorem dX11_cut_100 : decode cX11_cut 100 = .ok (.getfield 7, 3) := by decide +kernel
theorem dX11_cut_103 : decode cX11_cut 103 = .ok (.iload_n 1, 1) := by decide +kernel
theorem dX11_cut_104 : decode cX11_cut 104 = .ok (.iaload, 1) := by decide +kernel
theorem dX11_cut_105 : decode cX11_cut 105 = .ok (.invokevirtual 65, 3) := by decide +kernel
theorem dX11_cut_108 : decode cX11_cut 108 = .ok (.ireturn, 1) := by decide +kernel
theorem dX11_change_0 : decode cX11_change 0 = .ok (.iload_n 1, 1) := by decide +kernel
theorem dX11_change_1 : decode cX11_change 1 = .ok (.iconst 0, 1) := by decide +kernel
theorem dX11_change_2 : decode cX11_change 2 = .ok (.iconst 1, 1) := by decide +kernel
theorem dX11_change_3 : decode cX11_change 3 = .ok (.invokestatic 48, 3) := by decide +kernel
theorem dX11_change_6 : decode cX11_change 6 = .ok (.ifCond .eq 29, 3) := by decide +kernel
theorem dX11_change_9 : decode cX11_change 9 = .ok (.iload_n 3, 1) := by decide +kernel
theorem dX11_change_10 : decode cX11_change 10 = .ok (.iconst 0, 1) := by decide +kernel
theorem dX11_change_11 : decode cX11_change 11 = .ok (.bipush 7, 2) := by decide +kernel
theorem dX11_change_13 : decode cX11_change 13 = .ok (.invokestatic 48, 3) := by decide +kernel
theorem dX11_change_16 : decode cX11_change 16 = .ok (.ifCond .eq 19, 3) := by decide +kernel
theorem dX11_change_19 : decode cX11_change 19 = .ok (.iload_n 2, 1) := by decide +kernel
theorem dX11_change_20 : decode cX11_change 20 = .ok (.iconst 0, 1) := by decide +kernel
theorem dX11_change_21 : decode cX11_change 21 = .ok (.aload_n 0, 1) := by decide +kernel
theorem dX11_change_22 : decode cX11_change 22 = .ok (.getfield 7, 3) := by decide +kernel
theorem dX11_change_25 : decode cX11_change 25 = .ok (.iload_n 1, 1) := by decide +kernel
theorem dX11_change_26 : decode cX11_change 26 = .ok (.iaload, 1) := by decide +kernel
theorem dX11_change_27 : decode cX11_change 27 = .ok (.iconst 1, 1) := by decide +kernel
theorem dX11_change_28 : decode cX11_change 28 = .ok (.isub, 1) := by decide +kernel
theorem dX11_change_29 : decode cX11_change 29 = .ok (.invokestatic 48, 3) := by decide +kernel
theorem dX11_change_32 : decode cX11_change 32 = .ok (.ifCond .ne 6, 3) := by decide +kernel
theorem dX11_change_35 : decode cX11_change 35 = .ok (.ldc 56, 2) := by decide +kernel
theorem dX11_change_37 : decode cX11_change 37 = .ok (.ireturn, 1) := by decide +kernel
theorem dX11_change_38 : decode cX11_change 38 = .ok (.aload_n 0, 1) := by decide +kernel
theorem dX11_change_39 : decode cX11_change 39 = .ok (.invokevirtual 62, 3) := by decide +kernel
theorem dX11_change_42 : decode cX11_change 42 = .ok (.aload_n 0, 1) := by decide +kernel
theorem dX11_change_43 : decode cX11_change 43 = .ok (.iload_n 1, 1) := by decide +kernel
theorem dX11_change_44 : decode cX11_change 44 = .ok (.iload_n 2, 1) := by decide +kernel
theorem dX11_change_45 : decode cX11_change 45 = .ok (.invokevirtual 52, 3) := by decide +kernel
theorem dX11_change_48 : decode cX11_change 48 = .ok (.istore 4, 2) := by decide +kernel
theorem dX11_change_50 : decode cX11_change 50 = .ok (.aload_n 0, 1) := by decide +kernel
theorem dX11_change_51 : decode cX11_change 51 = .ok (.getfield 7, 3) := by decide +kernel
theorem dX11_change_54 : decode cX11_change 54 = .ok (.iconst 5, 1) := by decide +kernel
theorem dX11_change_55 : decode cX11_change 55 = .ok (.bipush 28, 2) := by decide +kernel
theorem dX11_change_57 : decode cX11_change 57 = .ok (.iload_n 1, 1) := by decide +kernel
theorem dX11_change_58 : decode cX11_change 58 = .ok (.imul, 1) := by decide +kernel
theorem dX11_change_59 : decode cX11_change 59 = .ok (.iadd, 1) := by decide +kernel
theorem dX11_change_60 : decode cX11_change 60 = .ok (.iload_n 2, 1) := by decide +kernel
theorem dX11_change_61 : decode cX11_change 61 = .ok (.iadd, 1) := by decide +kernel
theorem dX11_change_62 : decode cX11_change 62 = .ok (.iload_n 3, 1) := by decide +kernel
theorem dX11_change_63 : decode cX11_change 63 = .ok (.iastore, 1) := by decide +kernel
theorem dX11_change_64 : decode cX11_change 64 = .ok (.aload_n 0, 1) := by decide +kernel
theorem dX11_change_65 : decode cX11_change 65 = .ok (.iload 4, 2) := by decide +kernel
theorem dX11_change_67 : decode cX11_change 67 = .ok (.invokevirtual 65, 3) := by decide +kernel
theorem dX11_change_70 : decode cX11_change 70 = .ok (.ireturn, 1) := by decide +kernel
theorem dX11_exchange_0 : decode cX11_exchange 0 = .ok (.aload_n 0, 1) := by decide +kernel
theorem dX11_exchange_1 : decode cX11_exchange 1 = .ok (.invokevirtual 62, 3) := by decide +kernel
theorem dX11_exchange_4 : decode cX11_exchange 4 = .ok (.aload_n 0, 1) := by decide +kernel
theorem dX11_exchange_5 : decode cX11_exchange 5 = .ok (.getfield 7, 3) := by decide +kernel
theorem dX11_exchange_8 : decode cX11_exchange 8 = .ok (.iconst 0, 1) := by decide +kernel
theorem dX11_exchange_9 : decode cX11_exchange 9 = .ok (.aload_n 0, 1) := by decide +kernel
theorem dX11_exchange_10 : decode cX11_exchange 10 = .ok (.getfield 16, 3) := by decide +kernel
theorem dX11_exchange_13 : decode cX11_exchange 13 = .ok (.iconst 1, 1) := by decide +kernel
theorem dX11_exchange_14 : decode cX11_exchange 14 = .ok (.iaload, 1) := by decide +kernel
theorem dX11_exchange_15 : decode cX11_exchange 15 = .ok (.iastore, 1) := by decide +kernel
theorem dX11_exchange_16 : decode cX11_exchange 16 = .ok (.aload_n 0, 1) := by decide +kernel
theorem dX11_exchange_17 : decode cX11_exchange 17 = .ok (.getfield 7, 3) := by decide +kernel
theorem dX11_exchange_20 : decode cX11_exchange 20 = .ok (.iconst 1, 1) := by decide +kernel
theorem dX11_exchange_21 : decode cX11_exchange 21 = .ok (.aload_n 0, 1) := by decide +kernel
theorem dX11_exchange_22 : decode cX11_exchange 22 = .ok (.getfield 16, 3) := by decide +kernel
theorem dX11_exchange_25 : decode cX11_exchange 25 = .ok (.iconst 0, 1) := by decide +kernel
theorem dX11_exchange_26 : decode cX11_exchange 26 = .ok (.iaload, 1) := by decide +kernel
theorem dX11_exchange_27 : decode cX11_exchange 27 = .ok (.iastore, 1) := by decide +kernel
theorem dX11_exchange_28 : decode cX11_exchange 28 = .ok (.iconst 0, 1) := by decide +kernel
theorem dX11_exchange_29 : decode cX11_exchange 29 = .ok (.istore_n 1, 1) := by decide +kernel
theorem dX11_exchange_30 : decode cX11_exchange 30 = .ok (.iload_n 1, 1) := by decide +kernel
theorem dX11_exchange_31 : decode cX11_exchange 31 = .ok (.bipush 28, 2) := by decide +kernel
theorem dX11_exchange_33 : decode cX11_exchange 33 = .ok (.if_icmp .ge 43, 3) := by decide +kernel
theorem dX11_exchange_36 : decode cX11_exchange 36 = .ok (.aload_n 0, 1) := by decide +kernel
theorem dX11_exchange_37 : decode cX11_exchange 37 = .ok (.getfield 7, 3) := by decide +kernel
theorem dX11_exchange_40 : decode cX11_exchange 40 = .ok (.iconst 5, 1) := by decide +kernel
theorem dX11_exchange_41 : decode cX11_exchange 41 = .ok (.iload_n 1, 1) := by decide +kernel
theorem dX11_exchange_42 : decode cX11_exchange 42 = .ok (.iadd, 1) := by decide +kernel
theorem dX11_exchange_43 : decode cX11_exchange 43 = .ok (.aload_n 0, 1) := by decide +kernel
theorem dX11_exchange_44 : decode cX11_exchange 44 = .ok (.getfield 16, 3) := by decide +kernel
theorem dX11_exchange_47 : decode cX11_exchange 47 = .ok (.bipush 33, 2) := by decide +kernel
theorem dX11_exchange_49 : decode cX11_exchange 49 = .ok (.iload_n 1, 1) := by decide +kernel
theorem dX11_exchange_50 : decode cX11_exchange 50 = .ok (.iadd, 1) := by decide +kernel
theorem dX11_exchange_51 : decode cX11_exchange 51 = .ok (.iaload, 1) := by decide +kernel
theorem dX11_exchange_52 : decode cX11_exchange 52 = .ok (.iastore, 1) := by decide +kernel
theorem dX11_exchange_53 : decode cX11_exchange 53 = .ok (.aload_n 0, 1) := by decide +kernel
theorem dX11_exchange_54 : decode cX11_exchange 54 = .ok (.getfield 7, 3) := by decide +kernel
theorem dX11_exchange_57 : decode cX11_exchange 57 = .ok (.bipush 33, 2) := by decide +kernel
theorem dX11_exchange_59 : decode cX11_exchange 59 = .ok (.iload_n 1, 1) := by decide +kernel
theorem dX11_exchange_60 : decode cX11_exchange 60 = .ok (.iadd, 1) := by decide +kernel
theorem dX11_exchange_61 : decode cX11_exchange 61 = .ok (.aload_n 0, 1) := by decide +kernel
theorem dX11_exchange_62 : decode cX11_exchange 62 = .ok (.getfield 16, 3) := by decide +kernel
theorem dX11_exchange_65 : decode cX11_exchange 65 = .ok (.iconst 5, 1) := by decide +kernel
theorem dX11_exchange_66 : decode cX11_exchange 66 = .ok (.iload_n 1, 1) := by decide +kernel
theorem dX11_exchange_67 : decode cX11_exchange 67 = .ok (.iadd, 1) := by decide +kernel
theorem dX11_exchange_68 : decode cX11_exchange 68 = .ok (.iaload, 1) := by decide +kernel
theorem dX11_exchange_69 : decode cX11_exchange 69 = .ok (.iastore, 1) := by decide +kernel
theorem dX11_exchange_70 : decode cX11_exchange 70 = .ok (.iinc 1 1, 3) := by decide +kernel
theorem dX11_exchange_73 : decode cX11_exchange 73 = .ok (.goto (-43), 3) := by decide +kernel
theorem dX11_exchange_76 : decode cX11_exchange 76 = .ok (.aload_n 0, 1) := by decide +kernel
theorem dX11_exchange_77 : decode cX11_exchange 77 = .ok (.aload_n 0, 1) := by decide +kernel
theorem dX11_exchange_78 : decode cX11_exchange 78 = .ok (.getfield 7, 3) := by decide +kernel
theorem dX11_exchange_81 : decode cX11_exchange 81 = .ok (.iconst 0, 1) := by decide +kernel
theorem dX11_exchange_82 : decode cX11_exchange 82 = .ok (.iaload, 1) := by decide +kernel
theorem dX11_exchange_83 : decode cX11_exchange 83 = .ok (.invokevirtual 65, 3) := by decide +kernel
theorem dX11_exchange_86 : decode cX11_exchange 86 = .ok (.ireturn, 1) := by decide +kernel
theorem dX11_set_0 : decode cX11_set 0 = .ok (.iload_n 1, 1) := by decide +kernel
theorem dX11_set_1 : decode cX11_set 1 = .ok (.iconst 0, 1) := by decide +kernel
theorem dX11_set_2 : decode cX11_set 2 = .ok (.iconst 2, 1) := by decide +kernel
theorem dX11_set_3 : decode cX11_set 3 = .ok (.invokestatic 48, 3) := by decide +kernel
theorem dX11_set_6 : decode cX11_set 6 = .ok (.ifCond .eq 40, 3) := by decide +kernel
theorem dX11_set_9 : decode cX11_set 9 = .ok (.iload_n 2, 1) := by decide +kernel
theorem dX11_set_10 : decode cX11_set 10 = .ok (.iload_n 1, 1) := by decide +kernel
theorem dX11_set_11 : decode cX11_set 11 = .ok (.iconst 2, 1) := by decide +kernel
theorem dX11_set_12 : decode cX11_set 12 = .ok (.if_icmp .ne 7, 3) := by decide +kernel
theorem dX11_set_15 : decode cX11_set 15 = .ok (.iconst 1, 1) := by decide +kernel
theorem dX11_set_16 : decode cX11_set 16 = .ok (.goto 4, 3) := by decide +kernel
theorem dX11_set_19 : decode cX11_set 19 = .ok (.iconst 0, 1) := by decide +kernel
theorem dX11_set_20 : decode cX11_set 20 = .ok (.iload_n 1, 1) := by decide +kernel
theorem dX11_set_21 : decode cX11_set 21 = .ok (.ifCond .ne 8, 3) := by decide +kernel
theorem dX11_set_24 : decode cX11_set 24 = .ok (.bipush 56, 2) := by decide +kernel
theorem dX11_set_26 : decode cX11_set 26 = .ok (.goto 14, 3) := by decide +kernel
theorem dX11_set_29 : decode cX11_set 29 = .ok (.iload_n 1, 1) := by decide +kernel
theorem dX11_set_30 : decode cX11_set 30 = .ok (.iconst 1, 1) := by decide +kernel
theorem dX11_set_31 : decode cX11_set 31 = .ok (.if_icmp .ne 7, 3) := by decide +kernel
theorem dX11_set_34 : decode cX11_set 34 = .ok (.iconst 5, 1) := by decide +kernel
theorem dX11_set_35 : decode cX11_set 35 = .ok (.goto 5, 3) := by decide +kernel
theorem dX11_set_38 : decode cX11_set 38 = .ok (.bipush 9, 2) := by decide +kernel
theorem dX11_set_40 : decode cX11_set 40 = .ok (.invokestatic 48, 3) := by decide +kernel
theorem dX11_set_43 : decode cX11_set 43 = .ok (.ifCond .ne 6, 3) := by decide +kernel
theorem dX11_set_46 : decode cX11_set 46 = .ok (.ldc 56, 2) := by decide +kernel
theorem dX11_set_48 : decode cX11_set 48 = .ok (.ireturn, 1) := by decide +kernel
theorem dX11_set_49 : decode cX11_set 49 = .ok (.aload_n 0, 1) := by decide +kernel
theorem dX11_set_50 : decode cX11_set 50 = .ok (.invokevirtual 62, 3) := by decide +kernel
theorem dX11_set_53 : decode cX11_set 53 = .ok (.aload_n 0, 1) := by decide +kernel
theorem dX11_set_54 : decode cX11_set 54 = .ok (.getfield 7, 3) := by decide +kernel
theorem dX11_set_57 : decode cX11_set 57 = .ok (.iconst 2, 1) := by decide +kernel
theorem dX11_set_58 : decode cX11_set 58 = .ok (.iload_n 1, 1) := by decide +kernel
theorem dX11_set_59 : decode cX11_set 59 = .ok (.iadd, 1) := by decide +kernel
theorem dX11_set_60 : decode cX11_set 60 = .ok (.iaload, 1) := by decide +kernel
theorem dX11_set_61 : decode cX11_set 61 = .ok (.istore_n 3, 1) := by decide +kernel
theorem dX11_set_62 : decode cX11_set 62 = .ok (.aload_n 0, 1) := by decide +kernel
theorem dX11_set_63 : decode cX11_set 63 = .ok (.getfield 7, 3) := by decide +kernel
theorem dX11_set_66 : decode cX11_set 66 = .ok (.iconst 2, 1) := by decide +kernel
theorem dX11_set_67 : decode cX11_set 67 = .ok (.iload_n 1, 1) := by decide +kernel
theorem dX11_set_68 : decode cX11_set 68 = .ok (.iadd, 1) := by decide +kernel
theorem dX11_set_69 : decode cX11_set 69 = .ok (.iload_n 2, 1) := by decide +kernel
theorem dX11_set_70 : decode cX11_set 70 = .ok (.iastore, 1) := by decide +kernel
theorem dX11_set_71 : decode cX11_set 71 = .ok (.aload_n 0, 1) := by decide +kernel
theorem dX11_set_72 : decode cX11_set 72 = .ok (.iload_n 3, 1) := by decide +kernel
theorem dX11_set_73 : decode cX11_set 73 = .ok (.invokevirtual 65, 3) := by decide +kernel
theorem dX11_set_76 : decode cX11_set 76 = .ok (.ireturn, 1) := by decide +kernel
theorem dX11_letterAt_0 : decode cX11_letterAt 0 = .ok (.iload_n 1, 1) := by decide +kernel
theorem dX11_letterAt_1 : decode cX11_letterAt 1 = .ok (.iconst 0, 1) := by decide +kernel
theorem dX11_letterAt_2 : decode cX11_letterAt 2 = .ok (.iconst 1, 1) := by decide +kernel
theorem dX11_letterAt_3 : decode cX11_letterAt 3 = .ok (.invokestatic 48, 3) := by decide +kernel
theorem dX11_letterAt_6 : decode cX11_letterAt 6 = .ok (.ifCond .eq 7, 3) := by decide +kernel
theorem dX11_letterAt_9 : decode cX11_letterAt 9 = .ok (.iload_n 2, 1) := by decide +kernel
theorem dX11_letterAt_10 : decode cX11_letterAt 10 = .ok (.ifCond .ge 6, 3) := by decide +kernel
theorem dX11_letterAt_13 : decode cX11_letterAt 13 = .ok (.ldc 56, 2) := by decide +kernel
theorem dX11_letterAt_15 : decode cX11_letterAt 15 = .ok (.ireturn, 1) := by decide +kernel
theorem dX11_letterAt_16 : decode cX11_letterAt 16 = .ok (.iload_n 2, 1) := by decide +kernel
theorem dX11_letterAt_17 : decode cX11_letterAt 17 = .ok (.aload_n 0, 1) := by decide +kernel
theorem dX11_letterAt_18 : decode cX11_letterAt 18 = .ok (.getfield 7, 3) := by decide +kernel
theorem dX11_letterAt_21 : decode cX11_letterAt 21 = .ok (.iload_n 1, 1) := by decide +kernel
theorem dX11_letterAt_22 : decode cX11_letterAt 22 = .ok (.iaload, 1) := by decide +kernel
theorem dX11_letterAt_23 : decode cX11_letterAt 23 = .ok (.if_icmp .ge 12, 3) := by decide +kernel
theorem dX11_letterAt_26 : decode cX11_letterAt 26 = .ok (.aload_n 0, 1) := by decide +kernel
theorem dX11_letterAt_27 : decode cX11_letterAt 27 = .ok (.iload_n 1, 1) := by decide +kernel
theorem dX11_letterAt_28 : decode cX11_letterAt 28 = .ok (.iload_n 2, 1) := by decide +kernel
theorem dX11_letterAt_29 : decode cX11_letterAt 29 = .ok (.invokevirtual 52, 3) := by decide +kernel
theorem dX11_letterAt_32 : decode cX11_letterAt 32 = .ok (.goto 5, 3) := by decide +kernel
theorem dX11_letterAt_35 : decode cX11_letterAt 35 = .ok (.ldc 70, 2) := by decide +kernel
theorem dX11_letterAt_37 : decode cX11_letterAt 37 = .ok (.ireturn, 1) := by decide +kernel
theorem dX11_alikeFrom_0 : decode cX11_alikeFrom 0 = .ok (.iconst 0, 1) := by decide +kernel
theorem dX11_alikeFrom_1 : decode cX11_alikeFrom 1 = .ok (.istore_n 3, 1) := by decide +kernel
theorem dX11_alikeFrom_2 : decode cX11_alikeFrom 2 = .ok (.aload_n 0, 1) := by decide +kernel
theorem dX11_alikeFrom_3 : decode cX11_alikeFrom 3 = .ok (.iload_n 1, 1) := by decide +kernel
theorem dX11_alikeFrom_4 : decode cX11_alikeFrom 4 = .ok (.iload_n 3, 1) := by decide +kernel
theorem dX11_alikeFrom_5 : decode cX11_alikeFrom 5 = .ok (.iadd, 1) := by decide +kernel
theorem dX11_alikeFrom_6 : decode cX11_alikeFrom 6 = .ok (.iload_n 2, 1) := by decide +kernel
theorem dX11_alikeFrom_7 : decode cX11_alikeFrom 7 = .ok (.iload_n 3, 1) := by decide +kernel
theorem dX11_alikeFrom_8 : decode cX11_alikeFrom 8 = .ok (.iadd, 1) := by decide +kernel
theorem dX11_alikeFrom_9 : decode cX11_alikeFrom 9 = .ok (.invokevirtual 71, 3) := by decide +kernel
theorem dX11_alikeFrom_12 : decode cX11_alikeFrom 12 = .ok (.ifCond .eq 9, 3) := by decide +kernel
theorem dX11_alikeFrom_15 : decode cX11_alikeFrom 15 = .ok (.iinc 3 1, 3) := by decide +kernel
theorem dX11_alikeFrom_18 : decode cX11_alikeFrom 18 = .ok (.goto (-16), 3) := by decide +kernel
theorem dX11_alikeFrom_21 : decode cX11_alikeFrom 21 = .ok (.iload_n 3, 1) := by decide +kernel
theorem dX11_alikeFrom_22 : decode cX11_alikeFrom 22 = .ok (.ireturn, 1) := by decide +kernel
theorem dX11_same_0 : decode cX11_same 0 = .ok (.iload_n 1, 1) := by decide +kernel
theorem dX11_same_1 : decode cX11_same 1 = .ok (.iconst 0, 1) := by decide +kernel
theorem dX11_same_2 : decode cX11_same 2 = .ok (.aload_n 0, 1) := by decide +kernel
theorem dX11_same_3 : decode cX11_same 3 = .ok (.getfield 7, 3) := by decide +kernel
theorem dX11_same_6 : decode cX11_same 6 = .ok (.iconst 0, 1) := by decide +kernel
theorem dX11_same_7 : decode cX11_same 7 = .ok (.iaload, 1) := by decide +kernel
theorem dX11_same_8 : decode cX11_same 8 = .ok (.invokestatic 48, 3) := by decide +kernel
theorem dX11_same_11 : decode cX11_same 11 = .ok (.ifCond .eq 26, 3) := by decide +kernel
theorem dX11_same_14 : decode cX11_same 14 = .ok (.iload_n 2, 1) := by decide +kernel
theorem dX11_same_15 : decode cX11_same 15 = .ok (.iconst 0, 1) := by decide +kernel
theorem dX11_same_16 : decode cX11_same 16 = .ok (.aload_n 0, 1) := by decide +kernel
theorem dX11_same_17 : decode cX11_same 17 = .ok (.getfield 7, 3) := by decide +kernel
theorem dX11_same_20 : decode cX11_same 20 = .ok (.iconst 1, 1) := by decide +kernel
theorem dX11_same_21 : decode cX11_same 21 = .ok (.iaload, 1) := by decide +kernel
theorem dX11_same_22 : decode cX11_same 22 = .ok (.invokestatic 48, 3) := by decide +kernel
theorem dX11_same_25 : decode cX11_same 25 = .ok (.ifCond .eq 12, 3) := by decide +kernel
theorem dX11_same_28 : decode cX11_same 28 = .ok (.aload_n 0, 1) := by decide +kernel
theorem dX11_same_29 : decode cX11_same 29 = .ok (.iload_n 1, 1) := by decide +kernel
theorem dX11_same_30 : decode cX11_same 30 = .ok (.iload_n 2, 1) := by decide +kernel
theorem dX11_same_31 : decode cX11_same 31 = .ok (.invokevirtual 75, 3) := by decide +kernel
theorem dX11_same_34 : decode cX11_same 34 = .ok (.goto 5, 3) := by decide +kernel
theorem dX11_same_37 : decode cX11_same 37 = .ok (.ldc 56, 2) := by decide +kernel
theorem dX11_same_39 : decode cX11_same 39 = .ok (.ireturn, 1) := by decide +kernel
theorem dX11_reached_0 : decode cX11_reached 0 = .ok (.aload_n 0, 1) := by decide +kernel
theorem dX11_reached_1 : decode cX11_reached 1 = .ok (.getfield 23, 3) := by decide +kernel
theorem dX11_reached_4 : decode cX11_reached 4 = .ok (.bipush 113, 2) := by decide +kernel
theorem dX11_reached_6 : decode cX11_reached 6 = .ok (.iload_n 1, 1) := by decide +kernel
theorem dX11_reached_7 : decode cX11_reached 7 = .ok (.imul, 1) := by decide +kernel
theorem dX11_reached_8 : decode cX11_reached 8 = .ok (.iload_n 2, 1) := by decide +kernel
theorem dX11_reached_9 : decode cX11_reached 9 = .ok (.iadd, 1) := by decide +kernel
theorem dX11_reached_10 : decode cX11_reached 10 = .ok (.bipush 56, 2) := by decide +kernel
theorem dX11_reached_12 : decode cX11_reached 12 = .ok (.iadd, 1) := by decide +kernel
theorem dX11_reached_13 : decode cX11_reached 13 = .ok (.iaload, 1) := by decide +kernel
theorem dX11_reached_14 : decode cX11_reached 14 = .ok (.ireturn, 1) := by decide +kernel
theorem dX11_putsIn_0 : decode cX11_putsIn 0 = .ok (.iload_n 2, 1) := by decide +kernel
theorem dX11_putsIn_1 : decode cX11_putsIn 1 = .ok (.iload_n 1, 1) := by decide +kernel
theorem dX11_putsIn_2 : decode cX11_putsIn 2 = .ok (.ineg, 1) := by decide +kernel
theorem dX11_putsIn_3 : decode cX11_putsIn 3 = .ok (.if_icmp .eq 31, 3) := by decide +kernel
theorem dX11_putsIn_6 : decode cX11_putsIn 6 = .ok (.iload_n 2, 1) := by decide +kernel
theorem dX11_putsIn_7 : decode cX11_putsIn 7 = .ok (.iload_n 1, 1) := by decide +kernel
theorem dX11_putsIn_8 : decode cX11_putsIn 8 = .ok (.if_icmp .eq 30, 3) := by decide +kernel
theorem dX11_putsIn_11 : decode cX11_putsIn 11 = .ok (.aload_n 0, 1) := by decide +kernel
theorem dX11_putsIn_12 : decode cX11_putsIn 12 = .ok (.iload_n 1, 1) := by decide +kernel
theorem dX11_putsIn_13 : decode cX11_putsIn 13 = .ok (.iconst 1, 1) := by decide +kernel
theorem dX11_putsIn_14 : decode cX11_putsIn 14 = .ok (.isub, 1) := by decide +kernel
theorem dX11_putsIn_15 : decode cX11_putsIn 15 = .ok (.iload_n 2, 1) := by decide +kernel
theorem dX11_putsIn_16 : decode cX11_putsIn 16 = .ok (.iconst 1, 1) := by decide +kernel
theorem dX11_putsIn_17 : decode cX11_putsIn 17 = .ok (.isub, 1) := by decide +kernel
theorem dX11_putsIn_18 : decode cX11_putsIn 18 = .ok (.invokevirtual 78, 3) := by decide +kernel
theorem dX11_putsIn_21 : decode cX11_putsIn 21 = .ok (.aload_n 0, 1) := by decide +kernel
theorem dX11_putsIn_22 : decode cX11_putsIn 22 = .ok (.iload_n 1, 1) := by decide +kernel
theorem dX11_putsIn_23 : decode cX11_putsIn 23 = .ok (.iconst 1, 1) := by decide +kernel
theorem dX11_putsIn_24 : decode cX11_putsIn 24 = .ok (.isub, 1) := by decide +kernel
theorem dX11_putsIn_25 : decode cX11_putsIn 25 = .ok (.iload_n 2, 1) := by decide +kernel
theorem dX11_putsIn_26 : decode cX11_putsIn 26 = .ok (.iconst 1, 1) := by decide +kernel
theorem dX11_putsIn_27 : decode cX11_putsIn 27 = .ok (.iadd, 1) := by decide +kernel
theorem dX11_putsIn_28 : decode cX11_putsIn 28 = .ok (.invokevirtual 78, 3) := by decide +kernel
theorem dX11_putsIn_31 : decode cX11_putsIn 31 = .ok (.if_icmp .ge 7, 3) := by decide +kernel
theorem dX11_putsIn_34 : decode cX11_putsIn 34 = .ok (.iconst 1, 1) := by decide +kernel
theorem dX11_putsIn_35 : decode cX11_putsIn 35 = .ok (.goto 4, 3) := by decide +kernel
theorem dX11_putsIn_38 : decode cX11_putsIn 38 = .ok (.iconst 0, 1) := by decide +kernel
theorem dX11_putsIn_39 : decode cX11_putsIn 39 = .ok (.ireturn, 1) := by decide +kernel
theorem dX11_lays_0 : decode cX11_lays 0 = .ok (.iload_n 1, 1) := by decide +kernel
theorem dX11_lays_1 : decode cX11_lays 1 = .ok (.ifCond .ne 7, 3) := by decide +kernel
theorem dX11_lays_4 : decode cX11_lays 4 = .ok (.iconst 0, 1) := by decide +kernel
theorem dX11_lays_5 : decode cX11_lays 5 = .ok (.goto 37, 3) := by decide +kernel
theorem dX11_lays_8 : decode cX11_lays 8 = .ok (.aload_n 0, 1) := by decide +kernel
theorem dX11_lays_9 : decode cX11_lays 9 = .ok (.iload_n 1, 1) := by decide +kernel
theorem dX11_lays_10 : decode cX11_lays 10 = .ok (.iload_n 2, 1) := by decide +kernel
theorem dX11_lays_11 : decode cX11_lays 11 = .ok (.invokevirtual 81, 3) := by decide +kernel
theorem dX11_lays_14 : decode cX11_lays 14 = .ok (.ifCond .eq 16, 3) := by decide +kernel
theorem dX11_lays_17 : decode cX11_lays 17 = .ok (.aload_n 0, 1) := by decide +kernel
theorem dX11_lays_18 : decode cX11_lays 18 = .ok (.iload_n 1, 1) := by decide +kernel
theorem dX11_lays_19 : decode cX11_lays 19 = .ok (.iconst 1, 1) := by decide +kernel
theorem dX11_lays_20 : decode cX11_lays 20 = .ok (.isub, 1) := by decide +kernel
theorem dX11_lays_21 : decode cX11_lays 21 = .ok (.iload_n 2, 1) := by decide +kernel
theorem dX11_lays_22 : decode cX11_lays 22 = .ok (.iconst 1, 1) := by decide +kernel
theorem dX11_lays_23 : decode cX11_lays 23 = .ok (.iadd, 1) := by decide +kernel
theorem dX11_lays_24 : decode cX11_lays 24 = .ok (.invokevirtual 78, 3) := by decide +kernel
theorem dX11_lays_27 : decode cX11_lays 27 = .ok (.goto 15, 3) := by decide +kernel
theorem dX11_lays_30 : decode cX11_lays 30 = .ok (.aload_n 0, 1) := by decide +kernel
theorem dX11_lays_31 : decode cX11_lays 31 = .ok (.iload_n 1, 1) := by decide +kernel
theorem dX11_lays_32 : decode cX11_lays 32 = .ok (.iconst 1, 1) := by decide +kernel
theorem dX11_lays_33 : decode cX11_lays 33 = .ok (.isub, 1) := by decide +kernel
theorem dX11_lays_34 : decode cX11_lays 34 = .ok (.iload_n 2, 1) := by decide +kernel
theorem dX11_lays_35 : decode cX11_lays 35 = .ok (.iconst 1, 1) := by decide +kernel
theorem dX11_lays_36 : decode cX11_lays 36 = .ok (.isub, 1) := by decide +kernel
theorem dX11_lays_37 : decode cX11_lays 37 = .ok (.invokevirtual 78, 3) := by decide +kernel
theorem dX11_lays_40 : decode cX11_lays 40 = .ok (.iconst 1, 1) := by decide +kernel
theorem dX11_lays_41 : decode cX11_lays 41 = .ok (.iadd, 1) := by decide +kernel
theorem dX11_lays_42 : decode cX11_lays 42 = .ok (.istore_n 3, 1) := by decide +kernel
theorem dX11_lays_43 : decode cX11_lays 43 = .ok (.aload_n 0, 1) := by decide +kernel
theorem dX11_lays_44 : decode cX11_lays 44 = .ok (.getfield 23, 3) := by decide +kernel
theorem dX11_lays_47 : decode cX11_lays 47 = .ok (.bipush 113, 2) := by decide +kernel
theorem dX11_lays_49 : decode cX11_lays 49 = .ok (.iload_n 1, 1) := by decide +kernel
theorem dX11_lays_50 : decode cX11_lays 50 = .ok (.imul, 1) := by decide +kernel
theorem dX11_lays_51 : decode cX11_lays 51 = .ok (.iload_n 2, 1) := by decide +kernel
theorem dX11_lays_52 : decode cX11_lays 52 = .ok (.iadd, 1) := by decide +kernel
theorem dX11_lays_53 : decode cX11_lays 53 = .ok (.bipush 56, 2) := by decide +kernel
theorem dX11_lays_55 : decode cX11_lays 55 = .ok (.iadd, 1) := by decide +kernel
theorem dX11_lays_56 : decode cX11_lays 56 = .ok (.iload_n 3, 1) := by decide +kernel
theorem dX11_lays_57 : decode cX11_lays 57 = .ok (.aload_n 0, 1) := by decide +kernel
theorem dX11_lays_58 : decode cX11_lays 58 = .ok (.iload_n 3, 1) := by decide +kernel
theorem dX11_lays_59 : decode cX11_lays 59 = .ok (.iload_n 3, 1) := by decide +kernel
theorem dX11_lays_60 : decode cX11_lays 60 = .ok (.iload_n 2, 1) := by decide +kernel
end
section
theorem dX11_lays_61 : decode cX11_lays 61 = .ok (.isub, 1) := by decide +kernel
theorem dX11_lays_62 : decode cX11_lays 62 = .ok (.invokevirtual 75, 3) := by decide +kernel
theorem dX11_lays_65 : decode cX11_lays 65 = .ok (.iadd, 1) := by decide +kernel
theorem dX11_lays_66 : decode cX11_lays 66 = .ok (.iastore, 1) := by decide +kernel
theorem dX11_lays_67 : decode cX11_lays 67 = .ok (.return_, 1) := by decide +kernel
theorem dX11_finds_0 : decode cX11_finds 0 = .ok (.aload_n 0, 1) := by decide +kernel
theorem dX11_finds_1 : decode cX11_finds 1 = .ok (.getfield 7, 3) := by decide +kernel
theorem dX11_finds_4 : decode cX11_finds 4 = .ok (.iconst 0, 1) := by decide +kernel
theorem dX11_finds_5 : decode cX11_finds 5 = .ok (.iaload, 1) := by decide +kernel
theorem dX11_finds_6 : decode cX11_finds 6 = .ok (.aload_n 0, 1) := by decide +kernel
theorem dX11_finds_7 : decode cX11_finds 7 = .ok (.getfield 7, 3) := by decide +kernel
theorem dX11_finds_10 : decode cX11_finds 10 = .ok (.iconst 1, 1) := by decide +kernel
theorem dX11_finds_11 : decode cX11_finds 11 = .ok (.iaload, 1) := by decide +kernel
theorem dX11_finds_12 : decode cX11_finds 12 = .ok (.isub, 1) := by decide +kernel
theorem dX11_finds_13 : decode cX11_finds 13 = .ok (.istore_n 1, 1) := by decide +kernel
theorem dX11_finds_14 : decode cX11_finds 14 = .ok (.aload_n 0, 1) := by decide +kernel
theorem dX11_finds_15 : decode cX11_finds 15 = .ok (.iconst (-1), 1) := by decide +kernel
theorem dX11_finds_16 : decode cX11_finds 16 = .ok (.putfield 84, 3) := by decide +kernel
theorem dX11_finds_19 : decode cX11_finds 19 = .ok (.iconst 0, 1) := by decide +kernel
theorem dX11_finds_20 : decode cX11_finds 20 = .ok (.istore_n 2, 1) := by decide +kernel
theorem dX11_finds_21 : decode cX11_finds 21 = .ok (.iload_n 2, 1) := by decide +kernel
theorem dX11_finds_22 : decode cX11_finds 22 = .ok (.ifCond .ne 96, 3) := by decide +kernel
theorem dX11_finds_25 : decode cX11_finds 25 = .ok (.aload_n 0, 1) := by decide +kernel
theorem dX11_finds_26 : decode cX11_finds 26 = .ok (.dup, 1) := by decide +kernel
theorem dX11_finds_27 : decode cX11_finds 27 = .ok (.getfield 84, 3) := by decide +kernel
theorem dX11_finds_30 : decode cX11_finds 30 = .ok (.iconst 1, 1) := by decide +kernel
theorem dX11_finds_31 : decode cX11_finds 31 = .ok (.iadd, 1) := by decide +kernel
theorem dX11_finds_32 : decode cX11_finds 32 = .ok (.putfield 84, 3) := by decide +kernel
theorem dX11_finds_35 : decode cX11_finds 35 = .ok (.aload_n 0, 1) := by decide +kernel
theorem dX11_finds_36 : decode cX11_finds 36 = .ok (.getfield 84, 3) := by decide +kernel
theorem dX11_finds_39 : decode cX11_finds 39 = .ok (.ineg, 1) := by decide +kernel
theorem dX11_finds_40 : decode cX11_finds 40 = .ok (.istore_n 3, 1) := by decide +kernel
theorem dX11_finds_41 : decode cX11_finds 41 = .ok (.iload_n 3, 1) := by decide +kernel
theorem dX11_finds_42 : decode cX11_finds 42 = .ok (.aload_n 0, 1) := by decide +kernel
theorem dX11_finds_43 : decode cX11_finds 43 = .ok (.getfield 84, 3) := by decide +kernel
theorem dX11_finds_46 : decode cX11_finds 46 = .ok (.if_icmp .gt 18, 3) := by decide +kernel
theorem dX11_finds_49 : decode cX11_finds 49 = .ok (.aload_n 0, 1) := by decide +kernel
theorem dX11_finds_50 : decode cX11_finds 50 = .ok (.aload_n 0, 1) := by decide +kernel
theorem dX11_finds_51 : decode cX11_finds 51 = .ok (.getfield 84, 3) := by decide +kernel
theorem dX11_finds_54 : decode cX11_finds 54 = .ok (.iload_n 3, 1) := by decide +kernel
theorem dX11_finds_55 : decode cX11_finds 55 = .ok (.invokevirtual 87, 3) := by decide +kernel
theorem dX11_finds_58 : decode cX11_finds 58 = .ok (.iinc 3 2, 3) := by decide +kernel
theorem dX11_finds_61 : decode cX11_finds 61 = .ok (.goto (-20), 3) := by decide +kernel
theorem dX11_finds_64 : decode cX11_finds 64 = .ok (.iload_n 1, 1) := by decide +kernel
theorem dX11_finds_65 : decode cX11_finds 65 = .ok (.aload_n 0, 1) := by decide +kernel
theorem dX11_finds_66 : decode cX11_finds 66 = .ok (.getfield 84, 3) := by decide +kernel
theorem dX11_finds_69 : decode cX11_finds 69 = .ok (.ineg, 1) := by decide +kernel
theorem dX11_finds_70 : decode cX11_finds 70 = .ok (.aload_n 0, 1) := by decide +kernel
theorem dX11_finds_71 : decode cX11_finds 71 = .ok (.getfield 84, 3) := by decide +kernel
theorem dX11_finds_74 : decode cX11_finds 74 = .ok (.invokestatic 48, 3) := by decide +kernel
theorem dX11_finds_77 : decode cX11_finds 77 = .ok (.ifCond .eq 36, 3) := by decide +kernel
theorem dX11_finds_80 : decode cX11_finds 80 = .ok (.iload_n 1, 1) := by decide +kernel
theorem dX11_finds_81 : decode cX11_finds 81 = .ok (.aload_n 0, 1) := by decide +kernel
theorem dX11_finds_82 : decode cX11_finds 82 = .ok (.getfield 84, 3) := by decide +kernel
theorem dX11_finds_85 : decode cX11_finds 85 = .ok (.iadd, 1) := by decide +kernel
theorem dX11_finds_86 : decode cX11_finds 86 = .ok (.iconst 2, 1) := by decide +kernel
theorem dX11_finds_87 : decode cX11_finds 87 = .ok (.irem, 1) := by decide +kernel
theorem dX11_finds_88 : decode cX11_finds 88 = .ok (.ifCond .ne 25, 3) := by decide +kernel
theorem dX11_finds_91 : decode cX11_finds 91 = .ok (.aload_n 0, 1) := by decide +kernel
theorem dX11_finds_92 : decode cX11_finds 92 = .ok (.aload_n 0, 1) := by decide +kernel
theorem dX11_finds_93 : decode cX11_finds 93 = .ok (.getfield 84, 3) := by decide +kernel
theorem dX11_finds_96 : decode cX11_finds 96 = .ok (.iload_n 1, 1) := by decide +kernel
theorem dX11_finds_97 : decode cX11_finds 97 = .ok (.invokevirtual 78, 3) := by decide +kernel
theorem dX11_finds_100 : decode cX11_finds 100 = .ok (.aload_n 0, 1) := by decide +kernel
theorem dX11_finds_101 : decode cX11_finds 101 = .ok (.getfield 7, 3) := by decide +kernel
theorem dX11_finds_104 : decode cX11_finds 104 = .ok (.iconst 0, 1) := by decide +kernel
theorem dX11_finds_105 : decode cX11_finds 105 = .ok (.iaload, 1) := by decide +kernel
theorem dX11_finds_106 : decode cX11_finds 106 = .ok (.if_icmp .lt 7, 3) := by decide +kernel
theorem dX11_finds_109 : decode cX11_finds 109 = .ok (.iconst 1, 1) := by decide +kernel
theorem dX11_finds_110 : decode cX11_finds 110 = .ok (.goto 4, 3) := by decide +kernel
theorem dX11_finds_113 : decode cX11_finds 113 = .ok (.iconst 0, 1) := by decide +kernel
theorem dX11_finds_114 : decode cX11_finds 114 = .ok (.istore_n 2, 1) := by decide +kernel
theorem dX11_finds_115 : decode cX11_finds 115 = .ok (.goto (-94), 3) := by decide +kernel
theorem dX11_finds_118 : decode cX11_finds 118 = .ok (.aload_n 0, 1) := by decide +kernel
theorem dX11_finds_119 : decode cX11_finds 119 = .ok (.getfield 84, 3) := by decide +kernel
theorem dX11_finds_122 : decode cX11_finds 122 = .ok (.ireturn, 1) := by decide +kernel
theorem dX11_reach_0 : decode cX11_reach 0 = .ok (.iload_n 1, 1) := by decide +kernel
theorem dX11_reach_1 : decode cX11_reach 1 = .ok (.iconst 0, 1) := by decide +kernel
theorem dX11_reach_2 : decode cX11_reach 2 = .ok (.bipush 56, 2) := by decide +kernel
theorem dX11_reach_4 : decode cX11_reach 4 = .ok (.invokestatic 48, 3) := by decide +kernel
theorem dX11_reach_7 : decode cX11_reach 7 = .ok (.ifCond .eq 14, 3) := by decide +kernel
theorem dX11_reach_10 : decode cX11_reach 10 = .ok (.iload_n 2, 1) := by decide +kernel
theorem dX11_reach_11 : decode cX11_reach 11 = .ok (.bipush (-56), 2) := by decide +kernel
theorem dX11_reach_13 : decode cX11_reach 13 = .ok (.bipush 56, 2) := by decide +kernel
theorem dX11_reach_15 : decode cX11_reach 15 = .ok (.invokestatic 48, 3) := by decide +kernel
theorem dX11_reach_18 : decode cX11_reach 18 = .ok (.ifCond .ne 6, 3) := by decide +kernel
theorem dX11_reach_21 : decode cX11_reach 21 = .ok (.ldc 56, 2) := by decide +kernel
theorem dX11_reach_23 : decode cX11_reach 23 = .ok (.ireturn, 1) := by decide +kernel
theorem dX11_reach_24 : decode cX11_reach 24 = .ok (.iload_n 2, 1) := by decide +kernel
theorem dX11_reach_25 : decode cX11_reach 25 = .ok (.iload_n 1, 1) := by decide +kernel
theorem dX11_reach_26 : decode cX11_reach 26 = .ok (.ineg, 1) := by decide +kernel
theorem dX11_reach_27 : decode cX11_reach 27 = .ok (.iload_n 1, 1) := by decide +kernel
theorem dX11_reach_28 : decode cX11_reach 28 = .ok (.invokestatic 48, 3) := by decide +kernel
theorem dX11_reach_31 : decode cX11_reach 31 = .ok (.ifCond .eq 19, 3) := by decide +kernel
theorem dX11_reach_34 : decode cX11_reach 34 = .ok (.iload_n 2, 1) := by decide +kernel
theorem dX11_reach_35 : decode cX11_reach 35 = .ok (.iload_n 1, 1) := by decide +kernel
theorem dX11_reach_36 : decode cX11_reach 36 = .ok (.iadd, 1) := by decide +kernel
theorem dX11_reach_37 : decode cX11_reach 37 = .ok (.iconst 2, 1) := by decide +kernel
theorem dX11_reach_38 : decode cX11_reach 38 = .ok (.irem, 1) := by decide +kernel
theorem dX11_reach_39 : decode cX11_reach 39 = .ok (.ifCond .ne 11, 3) := by decide +kernel
theorem dX11_reach_42 : decode cX11_reach 42 = .ok (.iload_n 1, 1) := by decide +kernel
theorem dX11_reach_43 : decode cX11_reach 43 = .ok (.aload_n 0, 1) := by decide +kernel
theorem dX11_reach_44 : decode cX11_reach 44 = .ok (.invokevirtual 91, 3) := by decide +kernel
theorem dX11_reach_47 : decode cX11_reach 47 = .ok (.if_icmp .le 6, 3) := by decide +kernel
theorem dX11_reach_50 : decode cX11_reach 50 = .ok (.ldc 70, 2) := by decide +kernel
theorem dX11_reach_52 : decode cX11_reach 52 = .ok (.ireturn, 1) := by decide +kernel
theorem dX11_reach_53 : decode cX11_reach 53 = .ok (.aload_n 0, 1) := by decide +kernel
theorem dX11_reach_54 : decode cX11_reach 54 = .ok (.iload_n 1, 1) := by decide +kernel
theorem dX11_reach_55 : decode cX11_reach 55 = .ok (.iload_n 2, 1) := by decide +kernel
theorem dX11_reach_56 : decode cX11_reach 56 = .ok (.invokevirtual 78, 3) := by decide +kernel
theorem dX11_reach_59 : decode cX11_reach 59 = .ok (.ireturn, 1) := by decide +kernel
theorem dX11_distance_0 : decode cX11_distance 0 = .ok (.aload_n 0, 1) := by decide +kernel
theorem dX11_distance_1 : decode cX11_distance 1 = .ok (.invokevirtual 91, 3) := by decide +kernel
theorem dX11_distance_4 : decode cX11_distance 4 = .ok (.istore_n 1, 1) := by decide +kernel
theorem dX11_distance_5 : decode cX11_distance 5 = .ok (.iload_n 1, 1) := by decide +kernel
theorem dX11_distance_6 : decode cX11_distance 6 = .ok (.aload_n 0, 1) := by decide +kernel
theorem dX11_distance_7 : decode cX11_distance 7 = .ok (.getfield 7, 3) := by decide +kernel
theorem dX11_distance_10 : decode cX11_distance 10 = .ok (.iconst 2, 1) := by decide +kernel
theorem dX11_distance_11 : decode cX11_distance 11 = .ok (.iaload, 1) := by decide +kernel
theorem dX11_distance_12 : decode cX11_distance 12 = .ok (.if_icmp .le 8, 3) := by decide +kernel
theorem dX11_distance_15 : decode cX11_distance 15 = .ok (.ldc 61, 2) := by decide +kernel
theorem dX11_distance_17 : decode cX11_distance 17 = .ok (.goto 4, 3) := by decide +kernel
theorem dX11_distance_20 : decode cX11_distance 20 = .ok (.iload_n 1, 1) := by decide +kernel
theorem dX11_distance_21 : decode cX11_distance 21 = .ok (.ireturn, 1) := by decide +kernel
theorem dX11_puts_0 : decode cX11_puts 0 = .ok (.aload_n 0, 1) := by decide +kernel
theorem dX11_puts_1 : decode cX11_puts 1 = .ok (.dup, 1) := by decide +kernel
theorem dX11_puts_2 : decode cX11_puts 2 = .ok (.getfield 95, 3) := by decide +kernel
theorem dX11_puts_5 : decode cX11_puts 5 = .ok (.iconst 1, 1) := by decide +kernel
theorem dX11_puts_6 : decode cX11_puts 6 = .ok (.isub, 1) := by decide +kernel
theorem dX11_puts_7 : decode cX11_puts 7 = .ok (.putfield 95, 3) := by decide +kernel
theorem dX11_puts_10 : decode cX11_puts 10 = .ok (.aload_n 0, 1) := by decide +kernel
theorem dX11_puts_11 : decode cX11_puts 11 = .ok (.getfield 26, 3) := by decide +kernel
theorem dX11_puts_14 : decode cX11_puts 14 = .ok (.iconst 3, 1) := by decide +kernel
theorem dX11_puts_15 : decode cX11_puts 15 = .ok (.aload_n 0, 1) := by decide +kernel
theorem dX11_puts_16 : decode cX11_puts 16 = .ok (.getfield 95, 3) := by decide +kernel
theorem dX11_puts_19 : decode cX11_puts 19 = .ok (.imul, 1) := by decide +kernel
theorem dX11_puts_20 : decode cX11_puts 20 = .ok (.iload_n 1, 1) := by decide +kernel
theorem dX11_puts_21 : decode cX11_puts 21 = .ok (.iastore, 1) := by decide +kernel
theorem dX11_puts_22 : decode cX11_puts 22 = .ok (.aload_n 0, 1) := by decide +kernel
theorem dX11_puts_23 : decode cX11_puts 23 = .ok (.getfield 26, 3) := by decide +kernel
theorem dX11_puts_26 : decode cX11_puts 26 = .ok (.iconst 3, 1) := by decide +kernel
theorem dX11_puts_27 : decode cX11_puts 27 = .ok (.aload_n 0, 1) := by decide +kernel
theorem dX11_puts_28 : decode cX11_puts 28 = .ok (.getfield 95, 3) := by decide +kernel
theorem dX11_puts_31 : decode cX11_puts 31 = .ok (.imul, 1) := by decide +kernel
theorem dX11_puts_32 : decode cX11_puts 32 = .ok (.iconst 1, 1) := by decide +kernel
theorem dX11_puts_33 : decode cX11_puts 33 = .ok (.iadd, 1) := by decide +kernel
theorem dX11_puts_34 : decode cX11_puts 34 = .ok (.iload_n 2, 1) := by decide +kernel
theorem dX11_puts_35 : decode cX11_puts 35 = .ok (.iastore, 1) := by decide +kernel
theorem dX11_puts_36 : decode cX11_puts 36 = .ok (.aload_n 0, 1) := by decide +kernel
theorem dX11_puts_37 : decode cX11_puts 37 = .ok (.getfield 26, 3) := by decide +kernel
theorem dX11_puts_40 : decode cX11_puts 40 = .ok (.iconst 3, 1) := by decide +kernel
theorem dX11_puts_41 : decode cX11_puts 41 = .ok (.aload_n 0, 1) := by decide +kernel
theorem dX11_puts_42 : decode cX11_puts 42 = .ok (.getfield 95, 3) := by decide +kernel
theorem dX11_puts_45 : decode cX11_puts 45 = .ok (.imul, 1) := by decide +kernel
theorem dX11_puts_46 : decode cX11_puts 46 = .ok (.iconst 2, 1) := by decide +kernel
theorem dX11_puts_47 : decode cX11_puts 47 = .ok (.iadd, 1) := by decide +kernel
theorem dX11_puts_48 : decode cX11_puts 48 = .ok (.iload_n 3, 1) := by decide +kernel
theorem dX11_puts_49 : decode cX11_puts 49 = .ok (.iastore, 1) := by decide +kernel
theorem dX11_puts_50 : decode cX11_puts 50 = .ok (.return_, 1) := by decide +kernel
theorem dX11_traces_0 : decode cX11_traces 0 = .ok (.aload_n 0, 1) := by decide +kernel
theorem dX11_traces_1 : decode cX11_traces 1 = .ok (.invokevirtual 91, 3) := by decide +kernel
theorem dX11_traces_4 : decode cX11_traces 4 = .ok (.istore_n 1, 1) := by decide +kernel
theorem dX11_traces_5 : decode cX11_traces 5 = .ok (.aload_n 0, 1) := by decide +kernel
theorem dX11_traces_6 : decode cX11_traces 6 = .ok (.getfield 7, 3) := by decide +kernel
theorem dX11_traces_9 : decode cX11_traces 9 = .ok (.iconst 0, 1) := by decide +kernel
theorem dX11_traces_10 : decode cX11_traces 10 = .ok (.iaload, 1) := by decide +kernel
theorem dX11_traces_11 : decode cX11_traces 11 = .ok (.aload_n 0, 1) := by decide +kernel
theorem dX11_traces_12 : decode cX11_traces 12 = .ok (.getfield 7, 3) := by decide +kernel
theorem dX11_traces_15 : decode cX11_traces 15 = .ok (.iconst 1, 1) := by decide +kernel
theorem dX11_traces_16 : decode cX11_traces 16 = .ok (.iaload, 1) := by decide +kernel
theorem dX11_traces_17 : decode cX11_traces 17 = .ok (.iadd, 1) := by decide +kernel
theorem dX11_traces_18 : decode cX11_traces 18 = .ok (.iload_n 1, 1) := by decide +kernel
theorem dX11_traces_19 : decode cX11_traces 19 = .ok (.iadd, 1) := by decide +kernel
theorem dX11_traces_20 : decode cX11_traces 20 = .ok (.iconst 2, 1) := by decide +kernel
theorem dX11_traces_21 : decode cX11_traces 21 = .ok (.idiv, 1) := by decide +kernel
theorem dX11_traces_22 : decode cX11_traces 22 = .ok (.istore_n 2, 1) := by decide +kernel
theorem dX11_traces_23 : decode cX11_traces 23 = .ok (.aload_n 0, 1) := by decide +kernel
theorem dX11_traces_24 : decode cX11_traces 24 = .ok (.getfield 7, 3) := by decide +kernel
theorem dX11_traces_27 : decode cX11_traces 27 = .ok (.iconst 0, 1) := by decide +kernel
theorem dX11_traces_28 : decode cX11_traces 28 = .ok (.iaload, 1) := by decide +kernel
theorem dX11_traces_29 : decode cX11_traces 29 = .ok (.aload_n 0, 1) := by decide +kernel
theorem dX11_traces_30 : decode cX11_traces 30 = .ok (.getfield 7, 3) := by decide +kernel
theorem dX11_traces_33 : decode cX11_traces 33 = .ok (.iconst 1, 1) := by decide +kernel
theorem dX11_traces_34 : decode cX11_traces 34 = .ok (.iaload, 1) := by decide +kernel
theorem dX11_traces_35 : decode cX11_traces 35 = .ok (.isub, 1) := by decide +kernel
theorem dX11_traces_36 : decode cX11_traces 36 = .ok (.istore_n 3, 1) := by decide +kernel
theorem dX11_traces_37 : decode cX11_traces 37 = .ok (.aload_n 0, 1) := by decide +kernel
theorem dX11_traces_38 : decode cX11_traces 38 = .ok (.getfield 7, 3) := by decide +kernel
theorem dX11_traces_41 : decode cX11_traces 41 = .ok (.iconst 0, 1) := by decide +kernel
theorem dX11_traces_42 : decode cX11_traces 42 = .ok (.iaload, 1) := by decide +kernel
theorem dX11_traces_43 : decode cX11_traces 43 = .ok (.istore 4, 2) := by decide +kernel
theorem dX11_traces_45 : decode cX11_traces 45 = .ok (.aload_n 0, 1) := by decide +kernel
theorem dX11_traces_46 : decode cX11_traces 46 = .ok (.iload_n 2, 1) := by decide +kernel
theorem dX11_traces_47 : decode cX11_traces 47 = .ok (.putfield 95, 3) := by decide +kernel
theorem dX11_traces_50 : decode cX11_traces 50 = .ok (.iload_n 1, 1) := by decide +kernel
theorem dX11_traces_51 : decode cX11_traces 51 = .ok (.ifCond .lt 152, 3) := by decide +kernel
theorem dX11_traces_54 : decode cX11_traces 54 = .ok (.iload_n 1, 1) := by decide +kernel
theorem dX11_traces_55 : decode cX11_traces 55 = .ok (.ifCond .le 16, 3) := by decide +kernel
theorem dX11_traces_58 : decode cX11_traces 58 = .ok (.aload_n 0, 1) := by decide +kernel
theorem dX11_traces_59 : decode cX11_traces 59 = .ok (.iload_n 1, 1) := by decide +kernel
theorem dX11_traces_60 : decode cX11_traces 60 = .ok (.iload_n 3, 1) := by decide +kernel
theorem dX11_traces_61 : decode cX11_traces 61 = .ok (.invokevirtual 81, 3) := by decide +kernel
theorem dX11_traces_64 : decode cX11_traces 64 = .ok (.ifCond .eq 7, 3) := by decide +kernel
theorem dX11_traces_67 : decode cX11_traces 67 = .ok (.iconst 1, 1) := by decide +kernel
theorem dX11_traces_68 : decode cX11_traces 68 = .ok (.goto 4, 3) := by decide +kernel
theorem dX11_traces_71 : decode cX11_traces 71 = .ok (.iconst 0, 1) := by decide +kernel
theorem dX11_traces_72 : decode cX11_traces 72 = .ok (.istore 5, 2) := by decide +kernel
theorem dX11_traces_74 : decode cX11_traces 74 = .ok (.iload_n 1, 1) := by decide +kernel
theorem dX11_traces_75 : decode cX11_traces 75 = .ok (.ifCond .ne 7, 3) := by decide +kernel
theorem dX11_traces_78 : decode cX11_traces 78 = .ok (.iconst 0, 1) := by decide +kernel
theorem dX11_traces_79 : decode cX11_traces 79 = .ok (.goto 31, 3) := by decide +kernel
theorem dX11_traces_82 : decode cX11_traces 82 = .ok (.iload 5, 2) := by decide +kernel
theorem dX11_traces_84 : decode cX11_traces 84 = .ok (.ifCond .eq 16, 3) := by decide +kernel
theorem dX11_traces_87 : decode cX11_traces 87 = .ok (.aload_n 0, 1) := by decide +kernel
theorem dX11_traces_88 : decode cX11_traces 88 = .ok (.iload_n 1, 1) := by decide +kernel
theorem dX11_traces_89 : decode cX11_traces 89 = .ok (.iconst 1, 1) := by decide +kernel
theorem dX11_traces_90 : decode cX11_traces 90 = .ok (.isub, 1) := by decide +kernel
theorem dX11_traces_91 : decode cX11_traces 91 = .ok (.iload_n 3, 1) := by decide +kernel
theorem dX11_traces_92 : decode cX11_traces 92 = .ok (.iconst 1, 1) := by decide +kernel
theorem dX11_traces_93 : decode cX11_traces 93 = .ok (.iadd, 1) := by decide +kernel
theorem dX11_traces_94 : decode cX11_traces 94 = .ok (.invokevirtual 78, 3) := by decide +kernel
theorem dX11_traces_97 : decode cX11_traces 97 = .ok (.goto 13, 3) := by decide +kernel
theorem dX11_traces_100 : decode cX11_traces 100 = .ok (.aload_n 0, 1) := by decide +kernel
theorem dX11_traces_101 : decode cX11_traces 101 = .ok (.iload_n 1, 1) := by decide +kernel
theorem dX11_traces_102 : decode cX11_traces 102 = .ok (.iconst 1, 1) := by decide +kernel
theorem dX11_traces_103 : decode cX11_traces 103 = .ok (.isub, 1) := by decide +kernel
theorem dX11_traces_104 : decode cX11_traces 104 = .ok (.iload_n 3, 1) := by decide +kernel
theorem dX11_traces_105 : decode cX11_traces 105 = .ok (.iconst 1, 1) := by decide +kernel
theorem dX11_traces_106 : decode cX11_traces 106 = .ok (.isub, 1) := by decide +kernel
theorem dX11_traces_107 : decode cX11_traces 107 = .ok (.invokevirtual 78, 3) := by decide +kernel
theorem dX11_traces_110 : decode cX11_traces 110 = .ok (.istore 6, 2) := by decide +kernel
theorem dX11_traces_112 : decode cX11_traces 112 = .ok (.iload_n 1, 1) := by decide +kernel
theorem dX11_traces_113 : decode cX11_traces 113 = .ok (.ifCond .le 15, 3) := by decide +kernel
theorem dX11_traces_116 : decode cX11_traces 116 = .ok (.iload 5, 2) := by decide +kernel
theorem dX11_traces_118 : decode cX11_traces 118 = .ok (.ifCond .ne 10, 3) := by decide +kernel
theorem dX11_traces_121 : decode cX11_traces 121 = .ok (.iload 6, 2) := by decide +kernel
theorem dX11_traces_123 : decode cX11_traces 123 = .ok (.iconst 1, 1) := by decide +kernel
theorem dX11_traces_124 : decode cX11_traces 124 = .ok (.iadd, 1) := by decide +kernel
theorem dX11_traces_125 : decode cX11_traces 125 = .ok (.goto 5, 3) := by decide +kernel
theorem dX11_traces_128 : decode cX11_traces 128 = .ok (.iload 6, 2) := by decide +kernel
theorem dX11_traces_130 : decode cX11_traces 130 = .ok (.istore 7, 2) := by decide +kernel
theorem dX11_traces_132 : decode cX11_traces 132 = .ok (.iload 4, 2) := by decide +kernel
theorem dX11_traces_134 : decode cX11_traces 134 = .ok (.iload 7, 2) := by decide +kernel
theorem dX11_traces_136 : decode cX11_traces 136 = .ok (.if_icmp .le 20, 3) := by decide +kernel
theorem dX11_traces_139 : decode cX11_traces 139 = .ok (.iinc 4 (-1), 3) := by decide +kernel
theorem dX11_traces_142 : decode cX11_traces 142 = .ok (.aload_n 0, 1) := by decide +kernel
theorem dX11_traces_143 : decode cX11_traces 143 = .ok (.iconst 0, 1) := by decide +kernel
theorem dX11_traces_144 : decode cX11_traces 144 = .ok (.iload 4, 2) := by decide +kernel
theorem dX11_traces_146 : decode cX11_traces 146 = .ok (.iload 4, 2) := by decide +kernel
theorem dX11_traces_148 : decode cX11_traces 148 = .ok (.iload_n 3, 1) := by decide +kernel
theorem dX11_traces_149 : decode cX11_traces 149 = .ok (.isub, 1) := by decide +kernel
theorem dX11_traces_150 : decode cX11_traces 150 = .ok (.invokevirtual 98, 3) := by decide +kernel
theorem dX11_traces_153 : decode cX11_traces 153 = .ok (.goto (-21), 3) := by decide +kernel
theorem dX11_traces_156 : decode cX11_traces 156 = .ok (.iload_n 1, 1) := by decide +kernel
theorem dX11_traces_157 : decode cX11_traces 157 = .ok (.ifCond .le 40, 3) := by decide +kernel
theorem dX11_traces_160 : decode cX11_traces 160 = .ok (.iload_n 3, 1) := by decide +kernel
theorem dX11_traces_161 : decode cX11_traces 161 = .ok (.iload 5, 2) := by decide +kernel
theorem dX11_traces_163 : decode cX11_traces 163 = .ok (.ifCond .eq 7, 3) := by decide +kernel
theorem dX11_traces_166 : decode cX11_traces 166 = .ok (.iconst 1, 1) := by decide +kernel
theorem dX11_traces_167 : decode cX11_traces 167 = .ok (.goto 4, 3) := by decide +kernel
theorem dX11_traces_170 : decode cX11_traces 170 = .ok (.iconst (-1), 1) := by decide +kernel
theorem dX11_traces_171 : decode cX11_traces 171 = .ok (.iadd, 1) := by decide +kernel
theorem dX11_traces_172 : decode cX11_traces 172 = .ok (.istore_n 3, 1) := by decide +kernel
theorem dX11_traces_173 : decode cX11_traces 173 = .ok (.iload 6, 2) := by decide +kernel
theorem dX11_traces_175 : decode cX11_traces 175 = .ok (.istore 4, 2) := by decide +kernel
theorem dX11_traces_177 : decode cX11_traces 177 = .ok (.aload_n 0, 1) := by decide +kernel
theorem dX11_traces_178 : decode cX11_traces 178 = .ok (.iload 5, 2) := by decide +kernel
theorem dX11_traces_180 : decode cX11_traces 180 = .ok (.ifCond .eq 7, 3) := by decide +kernel
theorem dX11_traces_183 : decode cX11_traces 183 = .ok (.iconst 2, 1) := by decide +kernel
theorem dX11_traces_184 : decode cX11_traces 184 = .ok (.goto 4, 3) := by decide +kernel
theorem dX11_traces_187 : decode cX11_traces 187 = .ok (.iconst 1, 1) := by decide +kernel
theorem dX11_traces_188 : decode cX11_traces 188 = .ok (.iload 4, 2) := by decide +kernel
theorem dX11_traces_190 : decode cX11_traces 190 = .ok (.iload 4, 2) := by decide +kernel
theorem dX11_traces_192 : decode cX11_traces 192 = .ok (.iload_n 3, 1) := by decide +kernel
theorem dX11_traces_193 : decode cX11_traces 193 = .ok (.isub, 1) := by decide +kernel
theorem dX11_traces_194 : decode cX11_traces 194 = .ok (.invokevirtual 98, 3) := by decide +kernel
theorem dX11_traces_197 : decode cX11_traces 197 = .ok (.iinc 1 (-1), 3) := by decide +kernel
theorem dX11_traces_200 : decode cX11_traces 200 = .ok (.goto (-150), 3) := by decide +kernel
theorem dX11_traces_203 : decode cX11_traces 203 = .ok (.aload_n 0, 1) := by decide +kernel
theorem dX11_traces_204 : decode cX11_traces 204 = .ok (.iload_n 2, 1) := by decide +kernel
theorem dX11_traces_205 : decode cX11_traces 205 = .ok (.putfield 95, 3) := by decide +kernel
theorem dX11_traces_208 : decode cX11_traces 208 = .ok (.aload_n 0, 1) := by decide +kernel
theorem dX11_traces_209 : decode cX11_traces 209 = .ok (.getfield 84, 3) := by decide +kernel
theorem dX11_traces_212 : decode cX11_traces 212 = .ok (.aload_n 0, 1) := by decide +kernel
theorem dX11_traces_213 : decode cX11_traces 213 = .ok (.getfield 7, 3) := by decide +kernel
theorem dX11_traces_216 : decode cX11_traces 216 = .ok (.iconst 2, 1) := by decide +kernel
theorem dX11_traces_217 : decode cX11_traces 217 = .ok (.iaload, 1) := by decide +kernel
theorem dX11_traces_218 : decode cX11_traces 218 = .ok (.if_icmp .gt 7, 3) := by decide +kernel
theorem dX11_traces_221 : decode cX11_traces 221 = .ok (.iconst 1, 1) := by decide +kernel
theorem dX11_traces_222 : decode cX11_traces 222 = .ok (.goto 4, 3) := by decide +kernel
theorem dX11_traces_225 : decode cX11_traces 225 = .ok (.iconst 0, 1) := by decide +kernel
theorem dX11_traces_226 : decode cX11_traces 226 = .ok (.ireturn, 1) := by decide +kernel
theorem dX11_kind_0 : decode cX11_kind 0 = .ok (.aload_n 0, 1) := by decide +kernel
theorem dX11_kind_1 : decode cX11_kind 1 = .ok (.getfield 26, 3) := by decide +kernel
theorem dX11_kind_4 : decode cX11_kind 4 = .ok (.iconst 3, 1) := by decide +kernel
theorem dX11_kind_5 : decode cX11_kind 5 = .ok (.iload_n 1, 1) := by decide +kernel
theorem dX11_kind_6 : decode cX11_kind 6 = .ok (.imul, 1) := by decide +kernel
theorem dX11_kind_7 : decode cX11_kind 7 = .ok (.iaload, 1) := by decide +kernel
theorem dX11_kind_8 : decode cX11_kind 8 = .ok (.ireturn, 1) := by decide +kernel
theorem dX11_stepOf_0 : decode cX11_stepOf 0 = .ok (.iload_n 1, 1) := by decide +kernel
theorem dX11_stepOf_1 : decode cX11_stepOf 1 = .ok (.ifCond .lt 12, 3) := by decide +kernel
theorem dX11_stepOf_4 : decode cX11_stepOf 4 = .ok (.iload_n 2, 1) := by decide +kernel
theorem dX11_stepOf_5 : decode cX11_stepOf 5 = .ok (.iconst 0, 1) := by decide +kernel
theorem dX11_stepOf_6 : decode cX11_stepOf 6 = .ok (.iconst 3, 1) := by decide +kernel
theorem dX11_stepOf_7 : decode cX11_stepOf 7 = .ok (.invokestatic 48, 3) := by decide +kernel
theorem dX11_stepOf_10 : decode cX11_stepOf 10 = .ok (.ifCond .ne 6, 3) := by decide +kernel
theorem dX11_stepOf_13 : decode cX11_stepOf 13 = .ok (.ldc 56, 2) := by decide +kernel
theorem dX11_stepOf_15 : decode cX11_stepOf 15 = .ok (.ireturn, 1) := by decide +kernel
theorem dX11_stepOf_16 : decode cX11_stepOf 16 = .ok (.aload_n 0, 1) := by decide +kernel
theorem dX11_stepOf_17 : decode cX11_stepOf 17 = .ok (.invokevirtual 102, 3) := by decide +kernel
theorem dX11_stepOf_20 : decode cX11_stepOf 20 = .ok (.ifCond .ne 6, 3) := by decide +kernel
theorem dX11_stepOf_23 : decode cX11_stepOf 23 = .ok (.ldc 61, 2) := by decide +kernel
theorem dX11_stepOf_25 : decode cX11_stepOf 25 = .ok (.ireturn, 1) := by decide +kernel
theorem dX11_stepOf_26 : decode cX11_stepOf 26 = .ok (.iload_n 1, 1) := by decide +kernel
theorem dX11_stepOf_27 : decode cX11_stepOf 27 = .ok (.aload_n 0, 1) := by decide +kernel
theorem dX11_stepOf_28 : decode cX11_stepOf 28 = .ok (.getfield 95, 3) := by decide +kernel
theorem dX11_stepOf_31 : decode cX11_stepOf 31 = .ok (.if_icmp .lt 6, 3) := by decide +kernel
theorem dX11_stepOf_34 : decode cX11_stepOf 34 = .ok (.ldc 70, 2) := by decide +kernel
theorem dX11_stepOf_36 : decode cX11_stepOf 36 = .ok (.ireturn, 1) := by decide +kernel
theorem dX11_stepOf_37 : decode cX11_stepOf 37 = .ok (.aload_n 0, 1) := by decide +kernel
theorem dX11_stepOf_38 : decode cX11_stepOf 38 = .ok (.getfield 26, 3) := by decide +kernel
theorem dX11_stepOf_41 : decode cX11_stepOf 41 = .ok (.iconst 3, 1) := by decide +kernel
theorem dX11_stepOf_42 : decode cX11_stepOf 42 = .ok (.iload_n 1, 1) := by decide +kernel
theorem dX11_stepOf_43 : decode cX11_stepOf 43 = .ok (.imul, 1) := by decide +kernel
theorem dX11_stepOf_44 : decode cX11_stepOf 44 = .ok (.iconst 1, 1) := by decide +kernel
theorem dX11_stepOf_45 : decode cX11_stepOf 45 = .ok (.iadd, 1) := by decide +kernel
theorem dX11_stepOf_46 : decode cX11_stepOf 46 = .ok (.iaload, 1) := by decide +kernel
theorem dX11_stepOf_47 : decode cX11_stepOf 47 = .ok (.istore_n 3, 1) := by decide +kernel
theorem dX11_stepOf_48 : decode cX11_stepOf 48 = .ok (.aload_n 0, 1) := by decide +kernel
theorem dX11_stepOf_49 : decode cX11_stepOf 49 = .ok (.getfield 26, 3) := by decide +kernel
theorem dX11_stepOf_52 : decode cX11_stepOf 52 = .ok (.iconst 3, 1) := by decide +kernel
theorem dX11_stepOf_53 : decode cX11_stepOf 53 = .ok (.iload_n 1, 1) := by decide +kernel
theorem dX11_stepOf_54 : decode cX11_stepOf 54 = .ok (.imul, 1) := by decide +kernel
theorem dX11_stepOf_55 : decode cX11_stepOf 55 = .ok (.iconst 2, 1) := by decide +kernel
theorem dX11_stepOf_56 : decode cX11_stepOf 56 = .ok (.iadd, 1) := by decide +kernel
theorem dX11_stepOf_57 : decode cX11_stepOf 57 = .ok (.iaload, 1) := by decide +kernel
theorem dX11_stepOf_58 : decode cX11_stepOf 58 = .ok (.istore 4, 2) := by decide +kernel
theorem dX11_stepOf_60 : decode cX11_stepOf 60 = .ok (.iload_n 2, 1) := by decide +kernel
theorem dX11_stepOf_61 : decode cX11_stepOf 61 = .ok (.ifCond .ne 11, 3) := by decide +kernel
theorem dX11_stepOf_64 : decode cX11_stepOf 64 = .ok (.aload_n 0, 1) := by decide +kernel
theorem dX11_stepOf_65 : decode cX11_stepOf 65 = .ok (.iload_n 1, 1) := by decide +kernel
theorem dX11_stepOf_66 : decode cX11_stepOf 66 = .ok (.invokevirtual 106, 3) := by decide +kernel
theorem dX11_stepOf_69 : decode cX11_stepOf 69 = .ok (.goto 47, 3) := by decide +kernel
theorem dX11_stepOf_72 : decode cX11_stepOf 72 = .ok (.iload_n 2, 1) := by decide +kernel
theorem dX11_stepOf_73 : decode cX11_stepOf 73 = .ok (.iconst 2, 1) := by decide +kernel
theorem dX11_stepOf_74 : decode cX11_stepOf 74 = .ok (.if_icmp .ne 7, 3) := by decide +kernel
theorem dX11_stepOf_77 : decode cX11_stepOf 77 = .ok (.iload_n 3, 1) := by decide +kernel
theorem dX11_stepOf_78 : decode cX11_stepOf 78 = .ok (.goto 38, 3) := by decide +kernel
theorem dX11_stepOf_81 : decode cX11_stepOf 81 = .ok (.iload_n 2, 1) := by decide +kernel
theorem dX11_stepOf_82 : decode cX11_stepOf 82 = .ok (.iconst 3, 1) := by decide +kernel
theorem dX11_stepOf_83 : decode cX11_stepOf 83 = .ok (.if_icmp .ne 8, 3) := by decide +kernel
theorem dX11_stepOf_86 : decode cX11_stepOf 86 = .ok (.iload 4, 2) := by decide +kernel
theorem dX11_stepOf_88 : decode cX11_stepOf 88 = .ok (.goto 28, 3) := by decide +kernel
theorem dX11_stepOf_91 : decode cX11_stepOf 91 = .ok (.aload_n 0, 1) := by decide +kernel
theorem dX11_stepOf_92 : decode cX11_stepOf 92 = .ok (.iload_n 1, 1) := by decide +kernel
theorem dX11_stepOf_93 : decode cX11_stepOf 93 = .ok (.invokevirtual 106, 3) := by decide +kernel
theorem dX11_stepOf_96 : decode cX11_stepOf 96 = .ok (.iconst 2, 1) := by decide +kernel
theorem dX11_stepOf_97 : decode cX11_stepOf 97 = .ok (.if_icmp .ne 13, 3) := by decide +kernel
theorem dX11_stepOf_100 : decode cX11_stepOf 100 = .ok (.aload_n 0, 1) := by decide +kernel
theorem dX11_stepOf_101 : decode cX11_stepOf 101 = .ok (.iconst 1, 1) := by decide +kernel
theorem dX11_stepOf_102 : decode cX11_stepOf 102 = .ok (.iload 4, 2) := by decide +kernel
theorem dX11_stepOf_104 : decode cX11_stepOf 104 = .ok (.invokevirtual 52, 3) := by decide +kernel
theorem dX11_stepOf_107 : decode cX11_stepOf 107 = .ok (.goto 9, 3) := by decide +kernel
theorem dX11_stepOf_110 : decode cX11_stepOf 110 = .ok (.aload_n 0, 1) := by decide +kernel
theorem dX11_stepOf_111 : decode cX11_stepOf 111 = .ok (.iconst 0, 1) := by decide +kernel
theorem dX11_stepOf_112 : decode cX11_stepOf 112 = .ok (.iload_n 3, 1) := by decide +kernel
theorem dX11_stepOf_113 : decode cX11_stepOf 113 = .ok (.invokevirtual 52, 3) := by decide +kernel
theorem dX11_stepOf_116 : decode cX11_stepOf 116 = .ok (.ireturn, 1) := by decide +kernel
theorem dX11_writes_0 : decode cX11_writes 0 = .ok (.aload_n 0, 1) := by decide +kernel
theorem dX11_writes_1 : decode cX11_writes 1 = .ok (.getfield 36, 3) := by decide +kernel
theorem dX11_writes_4 : decode cX11_writes 4 = .ok (.aload_n 0, 1) := by decide +kernel
theorem dX11_writes_5 : decode cX11_writes 5 = .ok (.getfield 109, 3) := by decide +kernel
theorem dX11_writes_8 : decode cX11_writes 8 = .ok (.iload_n 1, 1) := by decide +kernel
theorem dX11_writes_9 : decode cX11_writes 9 = .ok (.i2c, 1) := by decide +kernel
theorem dX11_writes_10 : decode cX11_writes 10 = .ok (.castore, 1) := by decide +kernel
theorem dX11_writes_11 : decode cX11_writes 11 = .ok (.aload_n 0, 1) := by decide +kernel
theorem dX11_writes_12 : decode cX11_writes 12 = .ok (.dup, 1) := by decide +kernel
theorem dX11_writes_13 : decode cX11_writes 13 = .ok (.getfield 109, 3) := by decide +kernel
theorem dX11_writes_16 : decode cX11_writes 16 = .ok (.iconst 1, 1) := by decide +kernel
theorem dX11_writes_17 : decode cX11_writes 17 = .ok (.iadd, 1) := by decide +kernel
theorem dX11_writes_18 : decode cX11_writes 18 = .ok (.putfield 109, 3) := by decide +kernel
theorem dX11_writes_21 : decode cX11_writes 21 = .ok (.return_, 1) := by decide +kernel
theorem dX11_number_0 : decode cX11_number 0 = .ok (.iload_n 1, 1) := by decide +kernel
theorem dX11_number_1 : decode cX11_number 1 = .ok (.bipush 9, 2) := by decide +kernel
theorem dX11_number_3 : decode cX11_number 3 = .ok (.if_icmp .le 14, 3) := by decide +kernel
theorem dX11_number_6 : decode cX11_number 6 = .ok (.aload_n 0, 1) := by decide +kernel
theorem dX11_number_7 : decode cX11_number 7 = .ok (.bipush 48, 2) := by decide +kernel
theorem dX11_number_9 : decode cX11_number 9 = .ok (.iload_n 1, 1) := by decide +kernel
theorem dX11_number_10 : decode cX11_number 10 = .ok (.bipush 10, 2) := by decide +kernel
theorem dX11_number_12 : decode cX11_number 12 = .ok (.idiv, 1) := by decide +kernel
theorem dX11_number_13 : decode cX11_number 13 = .ok (.iadd, 1) := by decide +kernel
theorem dX11_number_14 : decode cX11_number 14 = .ok (.invokevirtual 112, 3) := by decide +kernel
theorem dX11_number_17 : decode cX11_number 17 = .ok (.aload_n 0, 1) := by decide +kernel
theorem dX11_number_18 : decode cX11_number 18 = .ok (.bipush 48, 2) := by decide +kernel
theorem dX11_number_20 : decode cX11_number 20 = .ok (.iload_n 1, 1) := by decide +kernel
theorem dX11_number_21 : decode cX11_number 21 = .ok (.bipush 10, 2) := by decide +kernel
theorem dX11_number_23 : decode cX11_number 23 = .ok (.irem, 1) := by decide +kernel
theorem dX11_number_24 : decode cX11_number 24 = .ok (.iadd, 1) := by decide +kernel
theorem dX11_number_25 : decode cX11_number 25 = .ok (.invokevirtual 112, 3) := by decide +kernel
theorem dX11_number_28 : decode cX11_number 28 = .ok (.return_, 1) := by decide +kernel
theorem dX11_tells_0 : decode cX11_tells 0 = .ok (.aload_n 0, 1) := by decide +kernel
theorem dX11_tells_1 : decode cX11_tells 1 = .ok (.iconst 0, 1) := by decide +kernel
theorem dX11_tells_2 : decode cX11_tells 2 = .ok (.putfield 109, 3) := by decide +kernel
theorem dX11_tells_5 : decode cX11_tells 5 = .ok (.iconst 0, 1) := by decide +kernel
theorem dX11_tells_6 : decode cX11_tells 6 = .ok (.istore_n 1, 1) := by decide +kernel
theorem dX11_tells_7 : decode cX11_tells 7 = .ok (.iload_n 1, 1) := by decide +kernel
theorem dX11_tells_8 : decode cX11_tells 8 = .ok (.aload_n 0, 1) := by decide +kernel
theorem dX11_tells_9 : decode cX11_tells 9 = .ok (.getfield 95, 3) := by decide +kernel
theorem dX11_tells_12 : decode cX11_tells 12 = .ok (.if_icmp .ge 107, 3) := by decide +kernel
theorem dX11_tells_15 : decode cX11_tells 15 = .ok (.aload_n 0, 1) := by decide +kernel
theorem dX11_tells_16 : decode cX11_tells 16 = .ok (.iload_n 1, 1) := by decide +kernel
theorem dX11_tells_17 : decode cX11_tells 17 = .ok (.invokevirtual 106, 3) := by decide +kernel
theorem dX11_tells_20 : decode cX11_tells 20 = .ok (.istore_n 2, 1) := by decide +kernel
theorem dX11_tells_21 : decode cX11_tells 21 = .ok (.iload_n 1, 1) := by decide +kernel
theorem dX11_tells_22 : decode cX11_tells 22 = .ok (.istore_n 3, 1) := by decide +kernel
theorem dX11_tells_23 : decode cX11_tells 23 = .ok (.aload_n 0, 1) := by decide +kernel
theorem dX11_tells_24 : decode cX11_tells 24 = .ok (.iload_n 2, 1) := by decide +kernel
theorem dX11_tells_25 : decode cX11_tells 25 = .ok (.ifCond .ne 8, 3) := by decide +kernel
theorem dX11_tells_28 : decode cX11_tells 28 = .ok (.bipush 61, 2) := by decide +kernel
theorem dX11_tells_30 : decode cX11_tells 30 = .ok (.goto 15, 3) := by decide +kernel
theorem dX11_tells_33 : decode cX11_tells 33 = .ok (.iload_n 2, 1) := by decide +kernel
theorem dX11_tells_34 : decode cX11_tells 34 = .ok (.iconst 1, 1) := by decide +kernel
theorem dX11_tells_35 : decode cX11_tells 35 = .ok (.if_icmp .ne 8, 3) := by decide +kernel
theorem dX11_tells_38 : decode cX11_tells 38 = .ok (.bipush 45, 2) := by decide +kernel
theorem dX11_tells_40 : decode cX11_tells 40 = .ok (.goto 5, 3) := by decide +kernel
theorem dX11_tells_43 : decode cX11_tells 43 = .ok (.bipush 43, 2) := by decide +kernel
theorem dX11_tells_45 : decode cX11_tells 45 = .ok (.invokevirtual 112, 3) := by decide +kernel
theorem dX11_tells_48 : decode cX11_tells 48 = .ok (.iload_n 1, 1) := by decide +kernel
theorem dX11_tells_49 : decode cX11_tells 49 = .ok (.aload_n 0, 1) := by decide +kernel
theorem dX11_tells_50 : decode cX11_tells 50 = .ok (.getfield 95, 3) := by decide +kernel
theorem dX11_tells_53 : decode cX11_tells 53 = .ok (.if_icmp .ge 45, 3) := by decide +kernel
theorem dX11_tells_56 : decode cX11_tells 56 = .ok (.aload_n 0, 1) := by decide +kernel
theorem dX11_tells_57 : decode cX11_tells 57 = .ok (.iload_n 1, 1) := by decide +kernel
theorem dX11_tells_58 : decode cX11_tells 58 = .ok (.invokevirtual 106, 3) := by decide +kernel
theorem dX11_tells_61 : decode cX11_tells 61 = .ok (.iload_n 2, 1) := by decide +kernel
theorem dX11_tells_62 : decode cX11_tells 62 = .ok (.if_icmp .ne 36, 3) := by decide +kernel
theorem dX11_tells_65 : decode cX11_tells 65 = .ok (.iload_n 2, 1) := by decide +kernel
theorem dX11_tells_66 : decode cX11_tells 66 = .ok (.iconst 2, 1) := by decide +kernel
theorem dX11_tells_67 : decode cX11_tells 67 = .ok (.if_icmp .ne 25, 3) := by decide +kernel
theorem dX11_tells_70 : decode cX11_tells 70 = .ok (.aload_n 0, 1) := by decide +kernel
theorem dX11_tells_71 : decode cX11_tells 71 = .ok (.bipush 97, 2) := by decide +kernel
theorem dX11_tells_73 : decode cX11_tells 73 = .ok (.aload_n 0, 1) := by decide +kernel
theorem dX11_tells_74 : decode cX11_tells 74 = .ok (.iconst 1, 1) := by decide +kernel
theorem dX11_tells_75 : decode cX11_tells 75 = .ok (.aload_n 0, 1) := by decide +kernel
theorem dX11_tells_76 : decode cX11_tells 76 = .ok (.getfield 26, 3) := by decide +kernel
theorem dX11_tells_79 : decode cX11_tells 79 = .ok (.iconst 3, 1) := by decide +kernel
theorem dX11_tells_80 : decode cX11_tells 80 = .ok (.iload_n 1, 1) := by decide +kernel
theorem dX11_tells_81 : decode cX11_tells 81 = .ok (.imul, 1) := by decide +kernel
theorem dX11_tells_82 : decode cX11_tells 82 = .ok (.iconst 2, 1) := by decide +kernel
theorem dX11_tells_83 : decode cX11_tells 83 = .ok (.iadd, 1) := by decide +kernel
theorem dX11_tells_84 : decode cX11_tells 84 = .ok (.iaload, 1) := by decide +kernel
theorem dX11_tells_85 : decode cX11_tells 85 = .ok (.invokevirtual 52, 3) := by decide +kernel
theorem dX11_tells_88 : decode cX11_tells 88 = .ok (.iadd, 1) := by decide +kernel
theorem dX11_tells_89 : decode cX11_tells 89 = .ok (.invokevirtual 112, 3) := by decide +kernel
theorem dX11_tells_92 : decode cX11_tells 92 = .ok (.iinc 1 1, 3) := by decide +kernel
theorem dX11_tells_95 : decode cX11_tells 95 = .ok (.goto (-47), 3) := by decide +kernel
theorem dX11_tells_98 : decode cX11_tells 98 = .ok (.iload_n 2, 1) := by decide +kernel
theorem dX11_tells_99 : decode cX11_tells 99 = .ok (.iconst 2, 1) := by decide +kernel
theorem dX11_tells_100 : decode cX11_tells 100 = .ok (.if_icmp .eq 10, 3) := by decide +kernel
theorem dX11_tells_103 : decode cX11_tells 103 = .ok (.aload_n 0, 1) := by decide +kernel
theorem dX11_tells_104 : decode cX11_tells 104 = .ok (.iload_n 1, 1) := by decide +kernel
theorem dX11_tells_105 : decode cX11_tells 105 = .ok (.iload_n 3, 1) := by decide +kernel
theorem dX11_tells_106 : decode cX11_tells 106 = .ok (.isub, 1) := by decide +kernel
theorem dX11_tells_107 : decode cX11_tells 107 = .ok (.invokevirtual 116, 3) := by decide +kernel
theorem dX11_tells_110 : decode cX11_tells 110 = .ok (.aload_n 0, 1) := by decide +kernel
theorem dX11_tells_111 : decode cX11_tells 111 = .ok (.bipush 59, 2) := by decide +kernel
theorem dX11_tells_113 : decode cX11_tells 113 = .ok (.invokevirtual 112, 3) := by decide +kernel
theorem dX11_tells_116 : decode cX11_tells 116 = .ok (.goto (-109), 3) := by decide +kernel
theorem dX11_tells_119 : decode cX11_tells 119 = .ok (.return_, 1) := by decide +kernel
theorem dX11_textAt_0 : decode cX11_textAt 0 = .ok (.iload_n 1, 1) := by decide +kernel
theorem dX11_textAt_1 : decode cX11_textAt 1 = .ok (.ifCond .ge 6, 3) := by decide +kernel
theorem dX11_textAt_4 : decode cX11_textAt 4 = .ok (.ldc 56, 2) := by decide +kernel
theorem dX11_textAt_6 : decode cX11_textAt 6 = .ok (.ireturn, 1) := by decide +kernel
theorem dX11_textAt_7 : decode cX11_textAt 7 = .ok (.aload_n 0, 1) := by decide +kernel
theorem dX11_textAt_8 : decode cX11_textAt 8 = .ok (.invokevirtual 102, 3) := by decide +kernel
theorem dX11_textAt_11 : decode cX11_textAt 11 = .ok (.ifCond .ne 6, 3) := by decide +kernel
theorem dX11_textAt_14 : decode cX11_textAt 14 = .ok (.ldc 61, 2) := by decide +kernel
theorem dX11_textAt_16 : decode cX11_textAt 16 = .ok (.ireturn, 1) := by decide +kernel
theorem dX11_textAt_17 : decode cX11_textAt 17 = .ok (.aload_n 0, 1) := by decide +kernel
theorem dX11_textAt_18 : decode cX11_textAt 18 = .ok (.invokevirtual 119, 3) := by decide +kernel
theorem dX11_textAt_21 : decode cX11_textAt 21 = .ok (.iload_n 1, 1) := by decide +kernel
theorem dX11_textAt_22 : decode cX11_textAt 22 = .ok (.aload_n 0, 1) := by decide +kernel
theorem dX11_textAt_23 : decode cX11_textAt 23 = .ok (.getfield 109, 3) := by decide +kernel
theorem dX11_textAt_26 : decode cX11_textAt 26 = .ok (.if_icmp .ge 12, 3) := by decide +kernel
theorem dX11_textAt_29 : decode cX11_textAt 29 = .ok (.aload_n 0, 1) := by decide +kernel
theorem dX11_textAt_30 : decode cX11_textAt 30 = .ok (.getfield 36, 3) := by decide +kernel
theorem dX11_textAt_33 : decode cX11_textAt 33 = .ok (.iload_n 1, 1) := by decide +kernel
theorem dX11_textAt_34 : decode cX11_textAt 34 = .ok (.caload, 1) := by decide +kernel
theorem dX11_textAt_35 : decode cX11_textAt 35 = .ok (.goto 5, 3) := by decide +kernel
theorem dX11_textAt_38 : decode cX11_textAt 38 = .ok (.ldc 70, 2) := by decide +kernel
theorem dX11_textAt_40 : decode cX11_textAt 40 = .ok (.ireturn, 1) := by decide +kernel
theorem dX11_counts_0 : decode cX11_counts 0 = .ok (.iconst 0, 1) := by decide +kernel
theorem dX11_counts_1 : decode cX11_counts 1 = .ok (.istore_n 1, 1) := by decide +kernel
theorem dX11_counts_2 : decode cX11_counts 2 = .ok (.iload_n 1, 1) := by decide +kernel
theorem dX11_counts_3 : decode cX11_counts 3 = .ok (.aload_n 0, 1) := by decide +kernel
theorem dX11_counts_4 : decode cX11_counts 4 = .ok (.getfield 7, 3) := by decide +kernel
theorem dX11_counts_7 : decode cX11_counts 7 = .ok (.iconst 0, 1) := by decide +kernel
theorem dX11_counts_8 : decode cX11_counts 8 = .ok (.iaload, 1) := by decide +kernel
theorem dX11_counts_9 : decode cX11_counts 9 = .ok (.if_icmp .gt 246, 3) := by decide +kernel
theorem dX11_counts_12 : decode cX11_counts 12 = .ok (.iconst 0, 1) := by decide +kernel
theorem dX11_counts_13 : decode cX11_counts 13 = .ok (.istore_n 2, 1) := by decide +kernel
theorem dX11_counts_14 : decode cX11_counts 14 = .ok (.iload_n 2, 1) := by decide +kernel
theorem dX11_counts_15 : decode cX11_counts 15 = .ok (.aload_n 0, 1) := by decide +kernel
theorem dX11_counts_16 : decode cX11_counts 16 = .ok (.getfield 7, 3) := by decide +kernel
theorem dX11_counts_19 : decode cX11_counts 19 = .ok (.iconst 1, 1) := by decide +kernel
theorem dX11_counts_20 : decode cX11_counts 20 = .ok (.iaload, 1) := by decide +kernel
theorem dX11_counts_21 : decode cX11_counts 21 = .ok (.if_icmp .gt 228, 3) := by decide +kernel
theorem dX11_counts_24 : decode cX11_counts 24 = .ok (.bipush 29, 2) := by decide +kernel
theorem dX11_counts_26 : decode cX11_counts 26 = .ok (.iload_n 1, 1) := by decide +kernel
theorem dX11_counts_27 : decode cX11_counts 27 = .ok (.imul, 1) := by decide +kernel
theorem dX11_counts_28 : decode cX11_counts 28 = .ok (.iload_n 2, 1) := by decide +kernel
theorem dX11_counts_29 : decode cX11_counts 29 = .ok (.iadd, 1) := by decide +kernel
theorem dX11_counts_30 : decode cX11_counts 30 = .ok (.istore_n 3, 1) := by decide +kernel
theorem dX11_counts_31 : decode cX11_counts 31 = .ok (.iload_n 1, 1) := by decide +kernel
theorem dX11_counts_32 : decode cX11_counts 32 = .ok (.iload_n 2, 1) := by decide +kernel
theorem dX11_counts_33 : decode cX11_counts 33 = .ok (.iadd, 1) := by decide +kernel
theorem dX11_counts_34 : decode cX11_counts 34 = .ok (.istore 4, 2) := by decide +kernel
theorem dX11_counts_36 : decode cX11_counts 36 = .ok (.iload_n 1, 1) := by decide +kernel
theorem dX11_counts_37 : decode cX11_counts 37 = .ok (.iload_n 2, 1) := by decide +kernel
theorem dX11_counts_38 : decode cX11_counts 38 = .ok (.iadd, 1) := by decide +kernel
theorem dX11_counts_39 : decode cX11_counts 39 = .ok (.ifCond .eq 11, 3) := by decide +kernel
theorem dX11_counts_42 : decode cX11_counts 42 = .ok (.iload_n 1, 1) := by decide +kernel
theorem dX11_counts_43 : decode cX11_counts 43 = .ok (.ifCond .eq 7, 3) := by decide +kernel
theorem dX11_counts_46 : decode cX11_counts 46 = .ok (.iload_n 2, 1) := by decide +kernel
theorem dX11_counts_47 : decode cX11_counts 47 = .ok (.ifCond .ne 7, 3) := by decide +kernel
theorem dX11_counts_50 : decode cX11_counts 50 = .ok (.lconst 1, 1) := by decide +kernel
theorem dX11_counts_51 : decode cX11_counts 51 = .ok (.goto 4, 3) := by decide +kernel
theorem dX11_counts_54 : decode cX11_counts 54 = .ok (.lconst 0, 1) := by decide +kernel
theorem dX11_counts_55 : decode cX11_counts 55 = .ok (.lstore 5, 2) := by decide +kernel
theorem dX11_counts_57 : decode cX11_counts 57 = .ok (.iload_n 1, 1) := by decide +kernel
theorem dX11_counts_58 : decode cX11_counts 58 = .ok (.ifCond .le 169, 3) := by decide +kernel
theorem dX11_counts_61 : decode cX11_counts 61 = .ok (.iload_n 2, 1) := by decide +kernel
theorem dX11_counts_62 : decode cX11_counts 62 = .ok (.ifCond .le 165, 3) := by decide +kernel
theorem dX11_counts_65 : decode cX11_counts 65 = .ok (.aload_n 0, 1) := by decide +kernel
theorem dX11_counts_66 : decode cX11_counts 66 = .ok (.getfield 29, 3) := by decide +kernel
theorem dX11_counts_69 : decode cX11_counts 69 = .ok (.iload_n 3, 1) := by decide +kernel
theorem dX11_counts_70 : decode cX11_counts 70 = .ok (.bipush 29, 2) := by decide +kernel
theorem dX11_counts_72 : decode cX11_counts 72 = .ok (.isub, 1) := by decide +kernel
theorem dX11_counts_73 : decode cX11_counts 73 = .ok (.iaload, 1) := by decide +kernel
theorem dX11_counts_74 : decode cX11_counts 74 = .ok (.iconst 1, 1) := by decide +kernel
theorem dX11_counts_75 : decode cX11_counts 75 = .ok (.iadd, 1) := by decide +kernel
theorem dX11_counts_76 : decode cX11_counts 76 = .ok (.istore 7, 2) := by decide +kernel
theorem dX11_counts_78 : decode cX11_counts 78 = .ok (.aload_n 0, 1) := by decide +kernel
theorem dX11_counts_79 : decode cX11_counts 79 = .ok (.getfield 29, 3) := by decide +kernel
theorem dX11_counts_82 : decode cX11_counts 82 = .ok (.iload_n 3, 1) := by decide +kernel
theorem dX11_counts_83 : decode cX11_counts 83 = .ok (.iconst 1, 1) := by decide +kernel
theorem dX11_counts_84 : decode cX11_counts 84 = .ok (.isub, 1) := by decide +kernel
theorem dX11_counts_85 : decode cX11_counts 85 = .ok (.iaload, 1) := by decide +kernel
theorem dX11_counts_86 : decode cX11_counts 86 = .ok (.iconst 1, 1) := by decide +kernel
theorem dX11_counts_87 : decode cX11_counts 87 = .ok (.iadd, 1) := by decide +kernel
theorem dX11_counts_88 : decode cX11_counts 88 = .ok (.istore 8, 2) := by decide +kernel
theorem dX11_counts_90 : decode cX11_counts 90 = .ok (.aload_n 0, 1) := by decide +kernel
theorem dX11_counts_91 : decode cX11_counts 91 = .ok (.iload_n 1, 1) := by decide +kernel
theorem dX11_counts_92 : decode cX11_counts 92 = .ok (.iconst 1, 1) := by decide +kernel
theorem dX11_counts_93 : decode cX11_counts 93 = .ok (.isub, 1) := by decide +kernel
theorem dX11_counts_94 : decode cX11_counts 94 = .ok (.iload_n 2, 1) := by decide +kernel
theorem dX11_counts_95 : decode cX11_counts 95 = .ok (.iconst 1, 1) := by decide +kernel
theorem dX11_counts_96 : decode cX11_counts 96 = .ok (.isub, 1) := by decide +kernel
theorem dX11_counts_97 : decode cX11_counts 97 = .ok (.invokevirtual 71, 3) := by decide +kernel
theorem dX11_counts_100 : decode cX11_counts 100 = .ok (.ifCond .eq 15, 3) := by decide +kernel
theorem dX11_counts_103 : decode cX11_counts 103 = .ok (.aload_n 0, 1) := by decide +kernel
theorem dX11_counts_104 : decode cX11_counts 104 = .ok (.getfield 29, 3) := by decide +kernel
theorem dX11_counts_107 : decode cX11_counts 107 = .ok (.iload_n 3, 1) := by decide +kernel
theorem dX11_counts_108 : decode cX11_counts 108 = .ok (.bipush 30, 2) := by decide +kernel
theorem dX11_counts_110 : decode cX11_counts 110 = .ok (.isub, 1) := by decide +kernel
theorem dX11_counts_111 : decode cX11_counts 111 = .ok (.iaload, 1) := by decide +kernel
theorem dX11_counts_112 : decode cX11_counts 112 = .ok (.goto 5, 3) := by decide +kernel
theorem dX11_counts_115 : decode cX11_counts 115 = .ok (.iload 4, 2) := by decide +kernel
theorem dX11_counts_117 : decode cX11_counts 117 = .ok (.istore 9, 2) := by decide +kernel
theorem dX11_counts_119 : decode cX11_counts 119 = .ok (.iload 7, 2) := by decide +kernel
theorem dX11_counts_121 : decode cX11_counts 121 = .ok (.iload 8, 2) := by decide +kernel
theorem dX11_counts_123 : decode cX11_counts 123 = .ok (.if_icmp .ge 8, 3) := by decide +kernel
theorem dX11_counts_126 : decode cX11_counts 126 = .ok (.iload 7, 2) := by decide +kernel
theorem dX11_counts_128 : decode cX11_counts 128 = .ok (.goto 5, 3) := by decide +kernel
theorem dX11_counts_131 : decode cX11_counts 131 = .ok (.iload 8, 2) := by decide +kernel
theorem dX11_counts_133 : decode cX11_counts 133 = .ok (.istore 4, 2) := by decide +kernel
theorem dX11_counts_135 : decode cX11_counts 135 = .ok (.iload 9, 2) := by decide +kernel
theorem dX11_counts_137 : decode cX11_counts 137 = .ok (.iload 4, 2) := by decide +kernel
theorem dX11_counts_139 : decode cX11_counts 139 = .ok (.if_icmp .ge 8, 3) := by decide +kernel
theorem dX11_counts_142 : decode cX11_counts 142 = .ok (.iload 9, 2) := by decide +kernel
theorem dX11_counts_144 : decode cX11_counts 144 = .ok (.goto 5, 3) := by decide +kernel
theorem dX11_counts_147 : decode cX11_counts 147 = .ok (.iload 4, 2) := by decide +kernel
theorem dX11_counts_149 : decode cX11_counts 149 = .ok (.istore 4, 2) := by decide +kernel
theorem dX11_counts_151 : decode cX11_counts 151 = .ok (.iload 7, 2) := by decide +kernel
theorem dX11_counts_153 : decode cX11_counts 153 = .ok (.iload 4, 2) := by decide +kernel
theorem dX11_counts_155 : decode cX11_counts 155 = .ok (.if_icmp .ne 15, 3) := by decide +kernel
theorem dX11_counts_158 : decode cX11_counts 158 = .ok (.aload_n 0, 1) := by decide +kernel
theorem dX11_counts_159 : decode cX11_counts 159 = .ok (.getfield 32, 3) := by decide +kernel
theorem dX11_counts_162 : decode cX11_counts 162 = .ok (.iload_n 3, 1) := by decide +kernel
theorem dX11_counts_163 : decode cX11_counts 163 = .ok (.bipush 29, 2) := by decide +kernel
theorem dX11_counts_165 : decode cX11_counts 165 = .ok (.isub, 1) := by decide +kernel
theorem dX11_counts_166 : decode cX11_counts 166 = .ok (.laload, 1) := by decide +kernel
theorem dX11_counts_167 : decode cX11_counts 167 = .ok (.goto 4, 3) := by decide +kernel
theorem dX11_counts_170 : decode cX11_counts 170 = .ok (.lconst 0, 1) := by decide +kernel
theorem dX11_counts_171 : decode cX11_counts 171 = .ok (.iload 8, 2) := by decide +kernel
theorem dX11_counts_173 : decode cX11_counts 173 = .ok (.iload 4, 2) := by decide +kernel
theorem dX11_counts_175 : decode cX11_counts 175 = .ok (.if_icmp .ne 14, 3) := by decide +kernel
theorem dX11_counts_178 : decode cX11_counts 178 = .ok (.aload_n 0, 1) := by decide +kernel
theorem dX11_counts_179 : decode cX11_counts 179 = .ok (.getfield 32, 3) := by decide +kernel
theorem dX11_counts_182 : decode cX11_counts 182 = .ok (.iload_n 3, 1) := by decide +kernel
theorem dX11_counts_183 : decode cX11_counts 183 = .ok (.iconst 1, 1) := by decide +kernel
theorem dX11_counts_184 : decode cX11_counts 184 = .ok (.isub, 1) := by decide +kernel
theorem dX11_counts_185 : decode cX11_counts 185 = .ok (.laload, 1) := by decide +kernel
theorem dX11_counts_186 : decode cX11_counts 186 = .ok (.goto 4, 3) := by decide +kernel
theorem dX11_counts_189 : decode cX11_counts 189 = .ok (.lconst 0, 1) := by decide +kernel
theorem dX11_counts_190 : decode cX11_counts 190 = .ok (.ladd, 1) := by decide +kernel
theorem dX11_counts_191 : decode cX11_counts 191 = .ok (.aload_n 0, 1) := by decide +kernel
theorem dX11_counts_192 : decode cX11_counts 192 = .ok (.iload_n 1, 1) := by decide +kernel
theorem dX11_counts_193 : decode cX11_counts 193 = .ok (.iconst 1, 1) := by decide +kernel
theorem dX11_counts_194 : decode cX11_counts 194 = .ok (.isub, 1) := by decide +kernel
theorem dX11_counts_195 : decode cX11_counts 195 = .ok (.iload_n 2, 1) := by decide +kernel
theorem dX11_counts_196 : decode cX11_counts 196 = .ok (.iconst 1, 1) := by decide +kernel
theorem dX11_counts_197 : decode cX11_counts 197 = .ok (.isub, 1) := by decide +kernel
theorem dX11_counts_198 : decode cX11_counts 198 = .ok (.invokevirtual 71, 3) := by decide +kernel
theorem dX11_counts_201 : decode cX11_counts 201 = .ok (.ifCond .eq 22, 3) := by decide +kernel
theorem dX11_counts_204 : decode cX11_counts 204 = .ok (.iload 9, 2) := by decide +kernel
theorem dX11_counts_206 : decode cX11_counts 206 = .ok (.iload 4, 2) := by decide +kernel
theorem dX11_counts_208 : decode cX11_counts 208 = .ok (.if_icmp .ne 15, 3) := by decide +kernel
theorem dX11_counts_211 : decode cX11_counts 211 = .ok (.aload_n 0, 1) := by decide +kernel
theorem dX11_counts_212 : decode cX11_counts 212 = .ok (.getfield 32, 3) := by decide +kernel
theorem dX11_counts_215 : decode cX11_counts 215 = .ok (.iload_n 3, 1) := by decide +kernel
theorem dX11_counts_216 : decode cX11_counts 216 = .ok (.bipush 30, 2) := by decide +kernel
theorem dX11_counts_218 : decode cX11_counts 218 = .ok (.isub, 1) := by decide +kernel
theorem dX11_counts_219 : decode cX11_counts 219 = .ok (.laload, 1) := by decide +kernel
theorem dX11_counts_220 : decode cX11_counts 220 = .ok (.goto 4, 3) := by decide +kernel
theorem dX11_counts_223 : decode cX11_counts 223 = .ok (.lconst 0, 1) := by decide +kernel
theorem dX11_counts_224 : decode cX11_counts 224 = .ok (.ladd, 1) := by decide +kernel
theorem dX11_counts_225 : decode cX11_counts 225 = .ok (.lstore 5, 2) := by decide +kernel
theorem dX11_counts_227 : decode cX11_counts 227 = .ok (.aload_n 0, 1) := by decide +kernel
theorem dX11_counts_228 : decode cX11_counts 228 = .ok (.getfield 29, 3) := by decide +kernel
theorem dX11_counts_231 : decode cX11_counts 231 = .ok (.iload_n 3, 1) := by decide +kernel
theorem dX11_counts_232 : decode cX11_counts 232 = .ok (.iload 4, 2) := by decide +kernel
theorem dX11_counts_234 : decode cX11_counts 234 = .ok (.iastore, 1) := by decide +kernel
theorem dX11_counts_235 : decode cX11_counts 235 = .ok (.aload_n 0, 1) := by decide +kernel
theorem dX11_counts_236 : decode cX11_counts 236 = .ok (.getfield 32, 3) := by decide +kernel
theorem dX11_counts_239 : decode cX11_counts 239 = .ok (.iload_n 3, 1) := by decide +kernel
theorem dX11_counts_240 : decode cX11_counts 240 = .ok (.lload 5, 2) := by decide +kernel
theorem dX11_counts_242 : decode cX11_counts 242 = .ok (.lastore, 1) := by decide +kernel
theorem dX11_counts_243 : decode cX11_counts 243 = .ok (.iinc 2 1, 3) := by decide +kernel
theorem dX11_counts_246 : decode cX11_counts 246 = .ok (.goto (-232), 3) := by decide +kernel
theorem dX11_counts_249 : decode cX11_counts 249 = .ok (.iinc 1 1, 3) := by decide +kernel
theorem dX11_counts_252 : decode cX11_counts 252 = .ok (.goto (-250), 3) := by decide +kernel
theorem dX11_counts_255 : decode cX11_counts 255 = .ok (.aload_n 0, 1) := by decide +kernel
theorem dX11_counts_256 : decode cX11_counts 256 = .ok (.getfield 29, 3) := by decide +kernel
theorem dX11_counts_259 : decode cX11_counts 259 = .ok (.bipush 29, 2) := by decide +kernel
theorem dX11_counts_261 : decode cX11_counts 261 = .ok (.aload_n 0, 1) := by decide +kernel
theorem dX11_counts_262 : decode cX11_counts 262 = .ok (.getfield 7, 3) := by decide +kernel
theorem dX11_counts_265 : decode cX11_counts 265 = .ok (.iconst 0, 1) := by decide +kernel
theorem dX11_counts_266 : decode cX11_counts 266 = .ok (.iaload, 1) := by decide +kernel
theorem dX11_counts_267 : decode cX11_counts 267 = .ok (.imul, 1) := by decide +kernel
theorem dX11_counts_268 : decode cX11_counts 268 = .ok (.aload_n 0, 1) := by decide +kernel
theorem dX11_counts_269 : decode cX11_counts 269 = .ok (.getfield 7, 3) := by decide +kernel
theorem dX11_counts_272 : decode cX11_counts 272 = .ok (.iconst 1, 1) := by decide +kernel
theorem dX11_counts_273 : decode cX11_counts 273 = .ok (.iaload, 1) := by decide +kernel
theorem dX11_counts_274 : decode cX11_counts 274 = .ok (.iadd, 1) := by decide +kernel
theorem dX11_counts_275 : decode cX11_counts 275 = .ok (.iaload, 1) := by decide +kernel
theorem dX11_counts_276 : decode cX11_counts 276 = .ok (.ireturn, 1) := by decide +kernel
theorem dX11_scripts_0 : decode cX11_scripts 0 = .ok (.aload_n 0, 1) := by decide +kernel
theorem dX11_scripts_1 : decode cX11_scripts 1 = .ok (.invokevirtual 122, 3) := by decide +kernel
theorem dX11_scripts_4 : decode cX11_scripts 4 = .ok (.pop, 1) := by decide +kernel
theorem dX11_scripts_5 : decode cX11_scripts 5 = .ok (.aload_n 0, 1) := by decide +kernel
theorem dX11_scripts_6 : decode cX11_scripts 6 = .ok (.getfield 32, 3) := by decide +kernel
theorem dX11_scripts_9 : decode cX11_scripts 9 = .ok (.bipush 29, 2) := by decide +kernel
theorem dX11_scripts_11 : decode cX11_scripts 11 = .ok (.aload_n 0, 1) := by decide +kernel
theorem dX11_scripts_12 : decode cX11_scripts 12 = .ok (.getfield 7, 3) := by decide +kernel
theorem dX11_scripts_15 : decode cX11_scripts 15 = .ok (.iconst 0, 1) := by decide +kernel
theorem dX11_scripts_16 : decode cX11_scripts 16 = .ok (.iaload, 1) := by decide +kernel
theorem dX11_scripts_17 : decode cX11_scripts 17 = .ok (.imul, 1) := by decide +kernel
theorem dX11_scripts_18 : decode cX11_scripts 18 = .ok (.aload_n 0, 1) := by decide +kernel
theorem dX11_scripts_19 : decode cX11_scripts 19 = .ok (.getfield 7, 3) := by decide +kernel
theorem dX11_scripts_22 : decode cX11_scripts 22 = .ok (.iconst 1, 1) := by decide +kernel
theorem dX11_scripts_23 : decode cX11_scripts 23 = .ok (.iaload, 1) := by decide +kernel
theorem dX11_scripts_24 : decode cX11_scripts 24 = .ok (.iadd, 1) := by decide +kernel
theorem dX11_scripts_25 : decode cX11_scripts 25 = .ok (.laload, 1) := by decide +kernel
theorem dX11_scripts_26 : decode cX11_scripts 26 = .ok (.lreturn, 1) := by decide +kernel
theorem dX11_hunkFrom_0 : decode cX11_hunkFrom 0 = .ok (.iload_n 1, 1) := by decide +kernel
theorem dX11_hunkFrom_1 : decode cX11_hunkFrom 1 = .ok (.istore_n 2, 1) := by decide +kernel
theorem dX11_hunkFrom_2 : decode cX11_hunkFrom 2 = .ok (.iload_n 2, 1) := by decide +kernel
theorem dX11_hunkFrom_3 : decode cX11_hunkFrom 3 = .ok (.aload_n 0, 1) := by decide +kernel
theorem dX11_hunkFrom_4 : decode cX11_hunkFrom 4 = .ok (.getfield 95, 3) := by decide +kernel
theorem dX11_hunkFrom_7 : decode cX11_hunkFrom 7 = .ok (.if_icmp .ge 17, 3) := by decide +kernel
theorem dX11_hunkFrom_10 : decode cX11_hunkFrom 10 = .ok (.aload_n 0, 1) := by decide +kernel
theorem dX11_hunkFrom_11 : decode cX11_hunkFrom 11 = .ok (.iload_n 2, 1) := by decide +kernel
theorem dX11_hunkFrom_12 : decode cX11_hunkFrom 12 = .ok (.invokevirtual 106, 3) := by decide +kernel
theorem dX11_hunkFrom_15 : decode cX11_hunkFrom 15 = .ok (.ifCond .ne 9, 3) := by decide +kernel
theorem dX11_hunkFrom_18 : decode cX11_hunkFrom 18 = .ok (.iinc 2 1, 3) := by decide +kernel
theorem dX11_hunkFrom_21 : decode cX11_hunkFrom 21 = .ok (.goto (-19), 3) := by decide +kernel
theorem dX11_hunkFrom_24 : decode cX11_hunkFrom 24 = .ok (.iload_n 2, 1) := by decide +kernel
theorem dX11_hunkFrom_25 : decode cX11_hunkFrom 25 = .ok (.aload_n 0, 1) := by decide +kernel
theorem dX11_hunkFrom_26 : decode cX11_hunkFrom 26 = .ok (.getfield 95, 3) := by decide +kernel
theorem dX11_hunkFrom_29 : decode cX11_hunkFrom 29 = .ok (.if_icmp .lt 5, 3) := by decide +kernel
theorem dX11_hunkFrom_32 : decode cX11_hunkFrom 32 = .ok (.iconst 0, 1) := by decide +kernel
theorem dX11_hunkFrom_33 : decode cX11_hunkFrom 33 = .ok (.ireturn, 1) := by decide +kernel
theorem dX11_hunkFrom_34 : decode cX11_hunkFrom 34 = .ok (.aload_n 0, 1) := by decide +kernel
theorem dX11_hunkFrom_35 : decode cX11_hunkFrom 35 = .ok (.iload_n 2, 1) := by decide +kernel
theorem dX11_hunkFrom_36 : decode cX11_hunkFrom 36 = .ok (.iload_n 1, 1) := by decide +kernel
theorem dX11_hunkFrom_37 : decode cX11_hunkFrom 37 = .ok (.isub, 1) := by decide +kernel
theorem dX11_hunkFrom_38 : decode cX11_hunkFrom 38 = .ok (.aload_n 0, 1) := by decide +kernel
theorem dX11_hunkFrom_39 : decode cX11_hunkFrom 39 = .ok (.getfield 7, 3) := by decide +kernel
theorem dX11_hunkFrom_42 : decode cX11_hunkFrom 42 = .ok (.iconst 3, 1) := by decide +kernel
theorem dX11_hunkFrom_43 : decode cX11_hunkFrom 43 = .ok (.iaload, 1) := by decide +kernel
theorem dX11_hunkFrom_44 : decode cX11_hunkFrom 44 = .ok (.if_icmp .ge 7, 3) := by decide +kernel
theorem dX11_hunkFrom_47 : decode cX11_hunkFrom 47 = .ok (.iload_n 1, 1) := by decide +kernel
theorem dX11_hunkFrom_48 : decode cX11_hunkFrom 48 = .ok (.goto 11, 3) := by decide +kernel
theorem dX11_hunkFrom_51 : decode cX11_hunkFrom 51 = .ok (.iload_n 2, 1) := by decide +kernel
theorem dX11_hunkFrom_52 : decode cX11_hunkFrom 52 = .ok (.aload_n 0, 1) := by decide +kernel
theorem dX11_hunkFrom_53 : decode cX11_hunkFrom 53 = .ok (.getfield 7, 3) := by decide +kernel
theorem dX11_hunkFrom_56 : decode cX11_hunkFrom 56 = .ok (.iconst 3, 1) := by decide +kernel
theorem dX11_hunkFrom_57 : decode cX11_hunkFrom 57 = .ok (.iaload, 1) := by decide +kernel
theorem dX11_hunkFrom_58 : decode cX11_hunkFrom 58 = .ok (.isub, 1) := by decide +kernel
theorem dX11_hunkFrom_59 : decode cX11_hunkFrom 59 = .ok (.putfield 125, 3) := by decide +kernel
theorem dX11_hunkFrom_62 : decode cX11_hunkFrom 62 = .ok (.iload_n 2, 1) := by decide +kernel
theorem dX11_hunkFrom_63 : decode cX11_hunkFrom 63 = .ok (.istore_n 3, 1) := by decide +kernel
theorem dX11_hunkFrom_64 : decode cX11_hunkFrom 64 = .ok (.iload_n 2, 1) := by decide +kernel
theorem dX11_hunkFrom_65 : decode cX11_hunkFrom 65 = .ok (.aload_n 0, 1) := by decide +kernel
theorem dX11_hunkFrom_66 : decode cX11_hunkFrom 66 = .ok (.getfield 95, 3) := by decide +kernel
theorem dX11_hunkFrom_69 : decode cX11_hunkFrom 69 = .ok (.if_icmp .ge 39, 3) := by decide +kernel
theorem dX11_hunkFrom_72 : decode cX11_hunkFrom 72 = .ok (.iload_n 2, 1) := by decide +kernel
theorem dX11_hunkFrom_73 : decode cX11_hunkFrom 73 = .ok (.iload_n 3, 1) := by decide +kernel
theorem dX11_hunkFrom_74 : decode cX11_hunkFrom 74 = .ok (.isub, 1) := by decide +kernel
theorem dX11_hunkFrom_75 : decode cX11_hunkFrom 75 = .ok (.iconst 2, 1) := by decide +kernel
theorem dX11_hunkFrom_76 : decode cX11_hunkFrom 76 = .ok (.aload_n 0, 1) := by decide +kernel
theorem dX11_hunkFrom_77 : decode cX11_hunkFrom 77 = .ok (.getfield 7, 3) := by decide +kernel
theorem dX11_hunkFrom_80 : decode cX11_hunkFrom 80 = .ok (.iconst 3, 1) := by decide +kernel
theorem dX11_hunkFrom_81 : decode cX11_hunkFrom 81 = .ok (.iaload, 1) := by decide +kernel
theorem dX11_hunkFrom_82 : decode cX11_hunkFrom 82 = .ok (.imul, 1) := by decide +kernel
theorem dX11_hunkFrom_83 : decode cX11_hunkFrom 83 = .ok (.iconst 1, 1) := by decide +kernel
theorem dX11_hunkFrom_84 : decode cX11_hunkFrom 84 = .ok (.iadd, 1) := by decide +kernel
theorem dX11_hunkFrom_85 : decode cX11_hunkFrom 85 = .ok (.if_icmp .gt 23, 3) := by decide +kernel
theorem dX11_hunkFrom_88 : decode cX11_hunkFrom 88 = .ok (.aload_n 0, 1) := by decide +kernel
theorem dX11_hunkFrom_89 : decode cX11_hunkFrom 89 = .ok (.iload_n 2, 1) := by decide +kernel
theorem dX11_hunkFrom_90 : decode cX11_hunkFrom 90 = .ok (.invokevirtual 106, 3) := by decide +kernel
theorem dX11_hunkFrom_93 : decode cX11_hunkFrom 93 = .ok (.ifCond .ne 7, 3) := by decide +kernel
theorem dX11_hunkFrom_96 : decode cX11_hunkFrom 96 = .ok (.iload_n 3, 1) := by decide +kernel
theorem dX11_hunkFrom_97 : decode cX11_hunkFrom 97 = .ok (.goto 4, 3) := by decide +kernel
theorem dX11_hunkFrom_100 : decode cX11_hunkFrom 100 = .ok (.iload_n 2, 1) := by decide +kernel
theorem dX11_hunkFrom_101 : decode cX11_hunkFrom 101 = .ok (.istore_n 3, 1) := by decide +kernel
theorem dX11_hunkFrom_102 : decode cX11_hunkFrom 102 = .ok (.iinc 2 1, 3) := by decide +kernel
theorem dX11_hunkFrom_105 : decode cX11_hunkFrom 105 = .ok (.goto (-41), 3) := by decide +kernel
theorem dX11_hunkFrom_108 : decode cX11_hunkFrom 108 = .ok (.iload_n 3, 1) := by decide +kernel
theorem dX11_hunkFrom_109 : decode cX11_hunkFrom 109 = .ok (.iconst 1, 1) := by decide +kernel
theorem dX11_hunkFrom_110 : decode cX11_hunkFrom 110 = .ok (.iadd, 1) := by decide +kernel
theorem dX11_hunkFrom_111 : decode cX11_hunkFrom 111 = .ok (.aload_n 0, 1) := by decide +kernel
theorem dX11_hunkFrom_112 : decode cX11_hunkFrom 112 = .ok (.getfield 7, 3) := by decide +kernel
theorem dX11_hunkFrom_115 : decode cX11_hunkFrom 115 = .ok (.iconst 3, 1) := by decide +kernel
theorem dX11_hunkFrom_116 : decode cX11_hunkFrom 116 = .ok (.iaload, 1) := by decide +kernel
theorem dX11_hunkFrom_117 : decode cX11_hunkFrom 117 = .ok (.iadd, 1) := by decide +kernel
theorem dX11_hunkFrom_118 : decode cX11_hunkFrom 118 = .ok (.istore 4, 2) := by decide +kernel
theorem dX11_hunkFrom_120 : decode cX11_hunkFrom 120 = .ok (.aload_n 0, 1) := by decide +kernel
theorem dX11_hunkFrom_121 : decode cX11_hunkFrom 121 = .ok (.iload 4, 2) := by decide +kernel
theorem dX11_hunkFrom_123 : decode cX11_hunkFrom 123 = .ok (.aload_n 0, 1) := by decide +kernel
theorem dX11_hunkFrom_124 : decode cX11_hunkFrom 124 = .ok (.getfield 95, 3) := by decide +kernel
theorem dX11_hunkFrom_127 : decode cX11_hunkFrom 127 = .ok (.if_icmp .ge 8, 3) := by decide +kernel
theorem dX11_hunkFrom_130 : decode cX11_hunkFrom 130 = .ok (.iload 4, 2) := by decide +kernel
theorem dX11_hunkFrom_132 : decode cX11_hunkFrom 132 = .ok (.goto 7, 3) := by decide +kernel
theorem dX11_hunkFrom_135 : decode cX11_hunkFrom 135 = .ok (.aload_n 0, 1) := by decide +kernel
theorem dX11_hunkFrom_136 : decode cX11_hunkFrom 136 = .ok (.getfield 95, 3) := by decide +kernel
theorem dX11_hunkFrom_139 : decode cX11_hunkFrom 139 = .ok (.putfield 128, 3) := by decide +kernel
theorem dX11_hunkFrom_142 : decode cX11_hunkFrom 142 = .ok (.iconst 1, 1) := by decide +kernel
theorem dX11_hunkFrom_143 : decode cX11_hunkFrom 143 = .ok (.ireturn, 1) := by decide +kernel
theorem dX11_hunks_0 : decode cX11_hunks 0 = .ok (.iconst 0, 1) := by decide +kernel
theorem dX11_hunks_1 : decode cX11_hunks 1 = .ok (.istore_n 1, 1) := by decide +kernel
theorem dX11_hunks_2 : decode cX11_hunks 2 = .ok (.iconst 0, 1) := by decide +kernel
theorem dX11_hunks_3 : decode cX11_hunks 3 = .ok (.istore_n 2, 1) := by decide +kernel
theorem dX11_hunks_4 : decode cX11_hunks 4 = .ok (.aload_n 0, 1) := by decide +kernel
theorem dX11_hunks_5 : decode cX11_hunks 5 = .ok (.iload_n 2, 1) := by decide +kernel
theorem dX11_hunks_6 : decode cX11_hunks 6 = .ok (.invokevirtual 131, 3) := by decide +kernel
theorem dX11_hunks_9 : decode cX11_hunks 9 = .ok (.ifCond .eq 14, 3) := by decide +kernel
theorem dX11_hunks_12 : decode cX11_hunks 12 = .ok (.aload_n 0, 1) := by decide +kernel
theorem dX11_hunks_13 : decode cX11_hunks 13 = .ok (.getfield 128, 3) := by decide +kernel
theorem dX11_hunks_16 : decode cX11_hunks 16 = .ok (.istore_n 2, 1) := by decide +kernel
theorem dX11_hunks_17 : decode cX11_hunks 17 = .ok (.iinc 1 1, 3) := by decide +kernel
theorem dX11_hunks_20 : decode cX11_hunks 20 = .ok (.goto (-16), 3) := by decide +kernel
theorem dX11_hunks_23 : decode cX11_hunks 23 = .ok (.iload_n 1, 1) := by decide +kernel
theorem dX11_hunks_24 : decode cX11_hunks 24 = .ok (.ireturn, 1) := by decide +kernel
theorem dX11_without_0 : decode cX11_without 0 = .ok (.iconst 0, 1) := by decide +kernel
theorem dX11_without_1 : decode cX11_without 1 = .ok (.istore_n 2, 1) := by decide +kernel
theorem dX11_without_2 : decode cX11_without 2 = .ok (.aload_n 0, 1) := by decide +kernel
theorem dX11_without_3 : decode cX11_without 3 = .ok (.getfield 125, 3) := by decide +kernel
theorem dX11_without_6 : decode cX11_without 6 = .ok (.istore_n 3, 1) := by decide +kernel
theorem dX11_without_7 : decode cX11_without 7 = .ok (.iload_n 3, 1) := by decide +kernel
theorem dX11_without_8 : decode cX11_without 8 = .ok (.aload_n 0, 1) := by decide +kernel
theorem dX11_without_9 : decode cX11_without 9 = .ok (.getfield 128, 3) := by decide +kernel
theorem dX11_without_12 : decode cX11_without 12 = .ok (.if_icmp .ge 26, 3) := by decide +kernel
theorem dX11_without_15 : decode cX11_without 15 = .ok (.iload_n 2, 1) := by decide +kernel
theorem dX11_without_16 : decode cX11_without 16 = .ok (.aload_n 0, 1) := by decide +kernel
theorem dX11_without_17 : decode cX11_without 17 = .ok (.iload_n 3, 1) := by decide +kernel
theorem dX11_without_18 : decode cX11_without 18 = .ok (.invokevirtual 106, 3) := by decide +kernel
theorem dX11_without_21 : decode cX11_without 21 = .ok (.iload_n 1, 1) := by decide +kernel
theorem dX11_without_22 : decode cX11_without 22 = .ok (.if_icmp .eq 7, 3) := by decide +kernel
theorem dX11_without_25 : decode cX11_without 25 = .ok (.iconst 1, 1) := by decide +kernel
theorem dX11_without_26 : decode cX11_without 26 = .ok (.goto 4, 3) := by decide +kernel
theorem dX11_without_29 : decode cX11_without 29 = .ok (.iconst 0, 1) := by decide +kernel
theorem dX11_without_30 : decode cX11_without 30 = .ok (.iadd, 1) := by decide +kernel
theorem dX11_without_31 : decode cX11_without 31 = .ok (.istore_n 2, 1) := by decide +kernel
theorem dX11_without_32 : decode cX11_without 32 = .ok (.iinc 3 1, 3) := by decide +kernel
theorem dX11_without_35 : decode cX11_without 35 = .ok (.goto (-28), 3) := by decide +kernel
theorem dX11_without_38 : decode cX11_without 38 = .ok (.iload_n 2, 1) := by decide +kernel
theorem dX11_without_39 : decode cX11_without 39 = .ok (.ireturn, 1) := by decide +kernel
theorem dX11_hunkOf_0 : decode cX11_hunkOf 0 = .ok (.iload_n 1, 1) := by decide +kernel
theorem dX11_hunkOf_1 : decode cX11_hunkOf 1 = .ok (.ifCond .lt 12, 3) := by decide +kernel
theorem dX11_hunkOf_4 : decode cX11_hunkOf 4 = .ok (.iload_n 2, 1) := by decide +kernel
theorem dX11_hunkOf_5 : decode cX11_hunkOf 5 = .ok (.iconst 0, 1) := by decide +kernel
theorem dX11_hunkOf_6 : decode cX11_hunkOf 6 = .ok (.iconst 4, 1) := by decide +kernel
theorem dX11_hunkOf_7 : decode cX11_hunkOf 7 = .ok (.invokestatic 48, 3) := by decide +kernel
theorem dX11_hunkOf_10 : decode cX11_hunkOf 10 = .ok (.ifCond .ne 6, 3) := by decide +kernel
theorem dX11_hunkOf_13 : decode cX11_hunkOf 13 = .ok (.ldc 56, 2) := by decide +kernel
theorem dX11_hunkOf_15 : decode cX11_hunkOf 15 = .ok (.ireturn, 1) := by decide +kernel
theorem dX11_hunkOf_16 : decode cX11_hunkOf 16 = .ok (.aload_n 0, 1) := by decide +kernel
theorem dX11_hunkOf_17 : decode cX11_hunkOf 17 = .ok (.invokevirtual 102, 3) := by decide +kernel
theorem dX11_hunkOf_20 : decode cX11_hunkOf 20 = .ok (.ifCond .ne 6, 3) := by decide +kernel
theorem dX11_hunkOf_23 : decode cX11_hunkOf 23 = .ok (.ldc 61, 2) := by decide +kernel
theorem dX11_hunkOf_25 : decode cX11_hunkOf 25 = .ok (.ireturn, 1) := by decide +kernel
theorem dX11_hunkOf_26 : decode cX11_hunkOf 26 = .ok (.iconst 0, 1) := by decide +kernel
theorem dX11_hunkOf_27 : decode cX11_hunkOf 27 = .ok (.istore_n 3, 1) := by decide +kernel
theorem dX11_hunkOf_28 : decode cX11_hunkOf 28 = .ok (.iconst 0, 1) := by decide +kernel
theorem dX11_hunkOf_29 : decode cX11_hunkOf 29 = .ok (.istore 4, 2) := by decide +kernel
theorem dX11_hunkOf_31 : decode cX11_hunkOf 31 = .ok (.iload 4, 2) := by decide +kernel
theorem dX11_hunkOf_33 : decode cX11_hunkOf 33 = .ok (.iload_n 1, 1) := by decide +kernel
theorem dX11_hunkOf_34 : decode cX11_hunkOf 34 = .ok (.if_icmp .gt 25, 3) := by decide +kernel
theorem dX11_hunkOf_37 : decode cX11_hunkOf 37 = .ok (.aload_n 0, 1) := by decide +kernel
theorem dX11_hunkOf_38 : decode cX11_hunkOf 38 = .ok (.iload_n 3, 1) := by decide +kernel
theorem dX11_hunkOf_39 : decode cX11_hunkOf 39 = .ok (.invokevirtual 131, 3) := by decide +kernel
theorem dX11_hunkOf_42 : decode cX11_hunkOf 42 = .ok (.ifCond .ne 6, 3) := by decide +kernel
theorem dX11_hunkOf_45 : decode cX11_hunkOf 45 = .ok (.ldc 70, 2) := by decide +kernel
theorem dX11_hunkOf_47 : decode cX11_hunkOf 47 = .ok (.ireturn, 1) := by decide +kernel
theorem dX11_hunkOf_48 : decode cX11_hunkOf 48 = .ok (.aload_n 0, 1) := by decide +kernel
theorem dX11_hunkOf_49 : decode cX11_hunkOf 49 = .ok (.getfield 128, 3) := by decide +kernel
theorem dX11_hunkOf_52 : decode cX11_hunkOf 52 = .ok (.istore_n 3, 1) := by decide +kernel
theorem dX11_hunkOf_53 : decode cX11_hunkOf 53 = .ok (.iinc 4 1, 3) := by decide +kernel
theorem dX11_hunkOf_56 : decode cX11_hunkOf 56 = .ok (.goto (-25), 3) := by decide +kernel
theorem dX11_hunkOf_59 : decode cX11_hunkOf 59 = .ok (.iload_n 2, 1) := by decide +kernel
theorem dX11_hunkOf_60 : decode cX11_hunkOf 60 = .ok (.tableswitch 66 0 3 #[32, 54, 32, 60], 32) := by decide +kernel
theorem dX11_hunkOf_92 : decode cX11_hunkOf 92 = .ok (.aload_n 0, 1) := by decide +kernel
theorem dX11_hunkOf_93 : decode cX11_hunkOf 93 = .ok (.getfield 26, 3) := by decide +kernel
theorem dX11_hunkOf_96 : decode cX11_hunkOf 96 = .ok (.iconst 3, 1) := by decide +kernel
theorem dX11_hunkOf_97 : decode cX11_hunkOf 97 = .ok (.aload_n 0, 1) := by decide +kernel
theorem dX11_hunkOf_98 : decode cX11_hunkOf 98 = .ok (.getfield 125, 3) := by decide +kernel
theorem dX11_hunkOf_101 : decode cX11_hunkOf 101 = .ok (.imul, 1) := by decide +kernel
theorem dX11_hunkOf_102 : decode cX11_hunkOf 102 = .ok (.iload_n 2, 1) := by decide +kernel
theorem dX11_hunkOf_103 : decode cX11_hunkOf 103 = .ok (.ifCond .ne 7, 3) := by decide +kernel
theorem dX11_hunkOf_106 : decode cX11_hunkOf 106 = .ok (.iconst 1, 1) := by decide +kernel
theorem dX11_hunkOf_107 : decode cX11_hunkOf 107 = .ok (.goto 4, 3) := by decide +kernel
theorem dX11_hunkOf_110 : decode cX11_hunkOf 110 = .ok (.iconst 2, 1) := by decide +kernel
theorem dX11_hunkOf_111 : decode cX11_hunkOf 111 = .ok (.iadd, 1) := by decide +kernel
theorem dX11_hunkOf_112 : decode cX11_hunkOf 112 = .ok (.iaload, 1) := by decide +kernel
theorem dX11_hunkOf_113 : decode cX11_hunkOf 113 = .ok (.ireturn, 1) := by decide +kernel
theorem dX11_hunkOf_114 : decode cX11_hunkOf 114 = .ok (.aload_n 0, 1) := by decide +kernel
theorem dX11_hunkOf_115 : decode cX11_hunkOf 115 = .ok (.iconst 2, 1) := by decide +kernel
theorem dX11_hunkOf_116 : decode cX11_hunkOf 116 = .ok (.invokevirtual 134, 3) := by decide +kernel
theorem dX11_hunkOf_119 : decode cX11_hunkOf 119 = .ok (.ireturn, 1) := by decide +kernel
theorem dX11_hunkOf_120 : decode cX11_hunkOf 120 = .ok (.aload_n 0, 1) := by decide +kernel
theorem dX11_hunkOf_121 : decode cX11_hunkOf 121 = .ok (.iconst 1, 1) := by decide +kernel
theorem dX11_hunkOf_122 : decode cX11_hunkOf 122 = .ok (.invokevirtual 134, 3) := by decide +kernel
theorem dX11_hunkOf_125 : decode cX11_hunkOf 125 = .ok (.ireturn, 1) := by decide +kernel
theorem dX11_hunkOf_126 : decode cX11_hunkOf 126 = .ok (.aload_n 0, 1) := by decide +kernel
theorem dX11_hunkOf_127 : decode cX11_hunkOf 127 = .ok (.iconst 0, 1) := by decide +kernel
theorem dX11_hunkOf_128 : decode cX11_hunkOf 128 = .ok (.invokevirtual 134, 3) := by decide +kernel
theorem dX11_hunkOf_131 : decode cX11_hunkOf 131 = .ok (.ireturn, 1) := by decide +kernel
theorem dX11_marks_0 : decode cX11_marks 0 = .ok (.iconst 0, 1) := by decide +kernel
theorem dX11_marks_1 : decode cX11_marks 1 = .ok (.istore_n 1, 1) := by decide +kernel
theorem dX11_marks_2 : decode cX11_marks 2 = .ok (.iload_n 1, 1) := by decide +kernel
theorem dX11_marks_3 : decode cX11_marks 3 = .ok (.bipush 29, 2) := by decide +kernel
theorem dX11_marks_5 : decode cX11_marks 5 = .ok (.if_icmp .ge 23, 3) := by decide +kernel
theorem dX11_marks_8 : decode cX11_marks 8 = .ok (.aload_n 0, 1) := by decide +kernel
theorem dX11_marks_9 : decode cX11_marks 9 = .ok (.getfield 39, 3) := by decide +kernel
theorem dX11_marks_12 : decode cX11_marks 12 = .ok (.iload_n 1, 1) := by decide +kernel
theorem dX11_marks_13 : decode cX11_marks 13 = .ok (.iconst (-1), 1) := by decide +kernel
theorem dX11_marks_14 : decode cX11_marks 14 = .ok (.iastore, 1) := by decide +kernel
theorem dX11_marks_15 : decode cX11_marks 15 = .ok (.aload_n 0, 1) := by decide +kernel
theorem dX11_marks_16 : decode cX11_marks 16 = .ok (.getfield 42, 3) := by decide +kernel
theorem dX11_marks_19 : decode cX11_marks 19 = .ok (.iload_n 1, 1) := by decide +kernel
theorem dX11_marks_20 : decode cX11_marks 20 = .ok (.iconst (-1), 1) := by decide +kernel
theorem dX11_marks_21 : decode cX11_marks 21 = .ok (.iastore, 1) := by decide +kernel
theorem dX11_marks_22 : decode cX11_marks 22 = .ok (.iinc 1 1, 3) := by decide +kernel
theorem dX11_marks_25 : decode cX11_marks 25 = .ok (.goto (-23), 3) := by decide +kernel
theorem dX11_marks_28 : decode cX11_marks 28 = .ok (.iconst 0, 1) := by decide +kernel
theorem dX11_marks_29 : decode cX11_marks 29 = .ok (.istore_n 1, 1) := by decide +kernel
theorem dX11_marks_30 : decode cX11_marks 30 = .ok (.iload_n 1, 1) := by decide +kernel
theorem dX11_marks_31 : decode cX11_marks 31 = .ok (.aload_n 0, 1) := by decide +kernel
theorem dX11_marks_32 : decode cX11_marks 32 = .ok (.getfield 95, 3) := by decide +kernel
theorem dX11_marks_35 : decode cX11_marks 35 = .ok (.if_icmp .ge 59, 3) := by decide +kernel
theorem dX11_marks_38 : decode cX11_marks 38 = .ok (.aload_n 0, 1) := by decide +kernel
theorem dX11_marks_39 : decode cX11_marks 39 = .ok (.iload_n 1, 1) := by decide +kernel
theorem dX11_marks_40 : decode cX11_marks 40 = .ok (.invokevirtual 106, 3) := by decide +kernel
theorem dX11_marks_43 : decode cX11_marks 43 = .ok (.iconst 1, 1) := by decide +kernel
theorem dX11_marks_44 : decode cX11_marks 44 = .ok (.if_icmp .ne 19, 3) := by decide +kernel
theorem dX11_marks_47 : decode cX11_marks 47 = .ok (.aload_n 0, 1) := by decide +kernel
theorem dX11_marks_48 : decode cX11_marks 48 = .ok (.getfield 39, 3) := by decide +kernel
theorem dX11_marks_51 : decode cX11_marks 51 = .ok (.aload_n 0, 1) := by decide +kernel
theorem dX11_marks_52 : decode cX11_marks 52 = .ok (.getfield 26, 3) := by decide +kernel
theorem dX11_marks_55 : decode cX11_marks 55 = .ok (.iconst 3, 1) := by decide +kernel
theorem dX11_marks_56 : decode cX11_marks 56 = .ok (.iload_n 1, 1) := by decide +kernel
theorem dX11_marks_57 : decode cX11_marks 57 = .ok (.imul, 1) := by decide +kernel
theorem dX11_marks_58 : decode cX11_marks 58 = .ok (.iconst 1, 1) := by decide +kernel
theorem dX11_marks_59 : decode cX11_marks 59 = .ok (.iadd, 1) := by decide +kernel
theorem dX11_marks_60 : decode cX11_marks 60 = .ok (.iaload, 1) := by decide +kernel
theorem dX11_marks_61 : decode cX11_marks 61 = .ok (.iload_n 1, 1) := by decide +kernel
theorem dX11_marks_62 : decode cX11_marks 62 = .ok (.iastore, 1) := by decide +kernel
theorem dX11_marks_63 : decode cX11_marks 63 = .ok (.aload_n 0, 1) := by decide +kernel
theorem dX11_marks_64 : decode cX11_marks 64 = .ok (.iload_n 1, 1) := by decide +kernel
theorem dX11_marks_65 : decode cX11_marks 65 = .ok (.invokevirtual 106, 3) := by decide +kernel
theorem dX11_marks_68 : decode cX11_marks 68 = .ok (.iconst 2, 1) := by decide +kernel
theorem dX11_marks_69 : decode cX11_marks 69 = .ok (.if_icmp .ne 19, 3) := by decide +kernel
theorem dX11_marks_72 : decode cX11_marks 72 = .ok (.aload_n 0, 1) := by decide +kernel
theorem dX11_marks_73 : decode cX11_marks 73 = .ok (.getfield 42, 3) := by decide +kernel
theorem dX11_marks_76 : decode cX11_marks 76 = .ok (.aload_n 0, 1) := by decide +kernel
theorem dX11_marks_77 : decode cX11_marks 77 = .ok (.getfield 26, 3) := by decide +kernel
theorem dX11_marks_80 : decode cX11_marks 80 = .ok (.iconst 3, 1) := by decide +kernel
theorem dX11_marks_81 : decode cX11_marks 81 = .ok (.iload_n 1, 1) := by decide +kernel
theorem dX11_marks_82 : decode cX11_marks 82 = .ok (.imul, 1) := by decide +kernel
theorem dX11_marks_83 : decode cX11_marks 83 = .ok (.iconst 2, 1) := by decide +kernel
theorem dX11_marks_84 : decode cX11_marks 84 = .ok (.iadd, 1) := by decide +kernel
theorem dX11_marks_85 : decode cX11_marks 85 = .ok (.iaload, 1) := by decide +kernel
theorem dX11_marks_86 : decode cX11_marks 86 = .ok (.iload_n 1, 1) := by decide +kernel
theorem dX11_marks_87 : decode cX11_marks 87 = .ok (.iastore, 1) := by decide +kernel
theorem dX11_marks_88 : decode cX11_marks 88 = .ok (.iinc 1 1, 3) := by decide +kernel
theorem dX11_marks_91 : decode cX11_marks 91 = .ok (.goto (-61), 3) := by decide +kernel
theorem dX11_marks_94 : decode cX11_marks 94 = .ok (.return_, 1) := by decide +kernel
theorem dX11_moves_0 : decode cX11_moves 0 = .ok (.iload_n 1, 1) := by decide +kernel
theorem dX11_moves_1 : decode cX11_moves 1 = .ok (.ifCond .lt 64, 3) := by decide +kernel
theorem dX11_moves_4 : decode cX11_moves 4 = .ok (.iload_n 2, 1) := by decide +kernel
theorem dX11_moves_5 : decode cX11_moves 5 = .ok (.ifCond .lt 60, 3) := by decide +kernel
theorem dX11_moves_8 : decode cX11_moves 8 = .ok (.iload_n 1, 1) := by decide +kernel
theorem dX11_moves_9 : decode cX11_moves 9 = .ok (.aload_n 0, 1) := by decide +kernel
theorem dX11_moves_10 : decode cX11_moves 10 = .ok (.getfield 7, 3) := by decide +kernel
theorem dX11_moves_13 : decode cX11_moves 13 = .ok (.iconst 0, 1) := by decide +kernel
theorem dX11_moves_14 : decode cX11_moves 14 = .ok (.iaload, 1) := by decide +kernel
theorem dX11_moves_15 : decode cX11_moves 15 = .ok (.if_icmp .ge 50, 3) := by decide +kernel
theorem dX11_moves_18 : decode cX11_moves 18 = .ok (.iload_n 2, 1) := by decide +kernel
theorem dX11_moves_19 : decode cX11_moves 19 = .ok (.aload_n 0, 1) := by decide +kernel
theorem dX11_moves_20 : decode cX11_moves 20 = .ok (.getfield 7, 3) := by decide +kernel
theorem dX11_moves_23 : decode cX11_moves 23 = .ok (.iconst 1, 1) := by decide +kernel
theorem dX11_moves_24 : decode cX11_moves 24 = .ok (.iaload, 1) := by decide +kernel
theorem dX11_moves_25 : decode cX11_moves 25 = .ok (.if_icmp .ge 40, 3) := by decide +kernel
theorem dX11_moves_28 : decode cX11_moves 28 = .ok (.aload_n 0, 1) := by decide +kernel
theorem dX11_moves_29 : decode cX11_moves 29 = .ok (.getfield 39, 3) := by decide +kernel
theorem dX11_moves_32 : decode cX11_moves 32 = .ok (.iload_n 1, 1) := by decide +kernel
theorem dX11_moves_33 : decode cX11_moves 33 = .ok (.iaload, 1) := by decide +kernel
theorem dX11_moves_34 : decode cX11_moves 34 = .ok (.ifCond .lt 31, 3) := by decide +kernel
theorem dX11_moves_37 : decode cX11_moves 37 = .ok (.aload_n 0, 1) := by decide +kernel
theorem dX11_moves_38 : decode cX11_moves 38 = .ok (.getfield 42, 3) := by decide +kernel
theorem dX11_moves_41 : decode cX11_moves 41 = .ok (.iload_n 2, 1) := by decide +kernel
theorem dX11_moves_42 : decode cX11_moves 42 = .ok (.iaload, 1) := by decide +kernel
theorem dX11_moves_43 : decode cX11_moves 43 = .ok (.ifCond .lt 22, 3) := by decide +kernel
theorem dX11_moves_46 : decode cX11_moves 46 = .ok (.aload_n 0, 1) := by decide +kernel
theorem dX11_moves_47 : decode cX11_moves 47 = .ok (.iconst 0, 1) := by decide +kernel
theorem dX11_moves_48 : decode cX11_moves 48 = .ok (.iload_n 1, 1) := by decide +kernel
theorem dX11_moves_49 : decode cX11_moves 49 = .ok (.invokevirtual 52, 3) := by decide +kernel
theorem dX11_moves_52 : decode cX11_moves 52 = .ok (.aload_n 0, 1) := by decide +kernel
theorem dX11_moves_53 : decode cX11_moves 53 = .ok (.iconst 1, 1) := by decide +kernel
theorem dX11_moves_54 : decode cX11_moves 54 = .ok (.iload_n 2, 1) := by decide +kernel
theorem dX11_moves_55 : decode cX11_moves 55 = .ok (.invokevirtual 52, 3) := by decide +kernel
theorem dX11_moves_58 : decode cX11_moves 58 = .ok (.if_icmp .ne 7, 3) := by decide +kernel
theorem dX11_moves_61 : decode cX11_moves 61 = .ok (.iconst 1, 1) := by decide +kernel
theorem dX11_moves_62 : decode cX11_moves 62 = .ok (.goto 4, 3) := by decide +kernel
theorem dX11_moves_65 : decode cX11_moves 65 = .ok (.iconst 0, 1) := by decide +kernel
theorem dX11_moves_66 : decode cX11_moves 66 = .ok (.ireturn, 1) := by decide +kernel
theorem dX11_goesOn_0 : decode cX11_goesOn 0 = .ok (.aload_n 0, 1) := by decide +kernel
theorem dX11_goesOn_1 : decode cX11_goesOn 1 = .ok (.iload_n 1, 1) := by decide +kernel
theorem dX11_goesOn_2 : decode cX11_goesOn 2 = .ok (.iload_n 2, 1) := by decide +kernel
theorem dX11_goesOn_3 : decode cX11_goesOn 3 = .ok (.invokevirtual 137, 3) := by decide +kernel
theorem dX11_goesOn_6 : decode cX11_goesOn 6 = .ok (.ifCond .eq 58, 3) := by decide +kernel
theorem dX11_goesOn_9 : decode cX11_goesOn 9 = .ok (.aload_n 0, 1) := by decide +kernel
theorem dX11_goesOn_10 : decode cX11_goesOn 10 = .ok (.iload_n 1, 1) := by decide +kernel
theorem dX11_goesOn_11 : decode cX11_goesOn 11 = .ok (.iconst 1, 1) := by decide +kernel
theorem dX11_goesOn_12 : decode cX11_goesOn 12 = .ok (.isub, 1) := by decide +kernel
theorem dX11_goesOn_13 : decode cX11_goesOn 13 = .ok (.iload_n 2, 1) := by decide +kernel
theorem dX11_goesOn_14 : decode cX11_goesOn 14 = .ok (.iconst 1, 1) := by decide +kernel
theorem dX11_goesOn_15 : decode cX11_goesOn 15 = .ok (.isub, 1) := by decide +kernel
theorem dX11_goesOn_16 : decode cX11_goesOn 16 = .ok (.invokevirtual 137, 3) := by decide +kernel
theorem dX11_goesOn_19 : decode cX11_goesOn 19 = .ok (.ifCond .eq 45, 3) := by decide +kernel
theorem dX11_goesOn_22 : decode cX11_goesOn 22 = .ok (.aload_n 0, 1) := by decide +kernel
theorem dX11_goesOn_23 : decode cX11_goesOn 23 = .ok (.getfield 39, 3) := by decide +kernel
theorem dX11_goesOn_26 : decode cX11_goesOn 26 = .ok (.iload_n 1, 1) := by decide +kernel
theorem dX11_goesOn_27 : decode cX11_goesOn 27 = .ok (.iaload, 1) := by decide +kernel
theorem dX11_goesOn_28 : decode cX11_goesOn 28 = .ok (.aload_n 0, 1) := by decide +kernel
theorem dX11_goesOn_29 : decode cX11_goesOn 29 = .ok (.getfield 39, 3) := by decide +kernel
theorem dX11_goesOn_32 : decode cX11_goesOn 32 = .ok (.iload_n 1, 1) := by decide +kernel
theorem dX11_goesOn_33 : decode cX11_goesOn 33 = .ok (.iconst 1, 1) := by decide +kernel
theorem dX11_goesOn_34 : decode cX11_goesOn 34 = .ok (.isub, 1) := by decide +kernel
theorem dX11_goesOn_35 : decode cX11_goesOn 35 = .ok (.iaload, 1) := by decide +kernel
theorem dX11_goesOn_36 : decode cX11_goesOn 36 = .ok (.iconst 1, 1) := by decide +kernel
theorem dX11_goesOn_37 : decode cX11_goesOn 37 = .ok (.iadd, 1) := by decide +kernel
theorem dX11_goesOn_38 : decode cX11_goesOn 38 = .ok (.if_icmp .ne 26, 3) := by decide +kernel
theorem dX11_goesOn_41 : decode cX11_goesOn 41 = .ok (.aload_n 0, 1) := by decide +kernel
theorem dX11_goesOn_42 : decode cX11_goesOn 42 = .ok (.getfield 42, 3) := by decide +kernel
theorem dX11_goesOn_45 : decode cX11_goesOn 45 = .ok (.iload_n 2, 1) := by decide +kernel
theorem dX11_goesOn_46 : decode cX11_goesOn 46 = .ok (.iaload, 1) := by decide +kernel
theorem dX11_goesOn_47 : decode cX11_goesOn 47 = .ok (.aload_n 0, 1) := by decide +kernel
theorem dX11_goesOn_48 : decode cX11_goesOn 48 = .ok (.getfield 42, 3) := by decide +kernel
theorem dX11_goesOn_51 : decode cX11_goesOn 51 = .ok (.iload_n 2, 1) := by decide +kernel
theorem dX11_goesOn_52 : decode cX11_goesOn 52 = .ok (.iconst 1, 1) := by decide +kernel
theorem dX11_goesOn_53 : decode cX11_goesOn 53 = .ok (.isub, 1) := by decide +kernel
theorem dX11_goesOn_54 : decode cX11_goesOn 54 = .ok (.iaload, 1) := by decide +kernel
theorem dX11_goesOn_55 : decode cX11_goesOn 55 = .ok (.iconst 1, 1) := by decide +kernel
theorem dX11_goesOn_56 : decode cX11_goesOn 56 = .ok (.iadd, 1) := by decide +kernel
theorem dX11_goesOn_57 : decode cX11_goesOn 57 = .ok (.if_icmp .ne 7, 3) := by decide +kernel
theorem dX11_goesOn_60 : decode cX11_goesOn 60 = .ok (.iconst 1, 1) := by decide +kernel
theorem dX11_goesOn_61 : decode cX11_goesOn 61 = .ok (.goto 4, 3) := by decide +kernel
theorem dX11_goesOn_64 : decode cX11_goesOn 64 = .ok (.iconst 0, 1) := by decide +kernel
theorem dX11_goesOn_65 : decode cX11_goesOn 65 = .ok (.ireturn, 1) := by decide +kernel
theorem dX11_block_0 : decode cX11_block 0 = .ok (.aload_n 0, 1) := by decide +kernel
theorem dX11_block_1 : decode cX11_block 1 = .ok (.iload_n 1, 1) := by decide +kernel
theorem dX11_block_2 : decode cX11_block 2 = .ok (.iload_n 2, 1) := by decide +kernel
theorem dX11_block_3 : decode cX11_block 3 = .ok (.invokevirtual 137, 3) := by decide +kernel
theorem dX11_block_6 : decode cX11_block 6 = .ok (.ifCond .eq 12, 3) := by decide +kernel
theorem dX11_block_9 : decode cX11_block 9 = .ok (.aload_n 0, 1) := by decide +kernel
theorem dX11_block_10 : decode cX11_block 10 = .ok (.iload_n 1, 1) := by decide +kernel
theorem dX11_block_11 : decode cX11_block 11 = .ok (.iload_n 2, 1) := by decide +kernel
theorem dX11_block_12 : decode cX11_block 12 = .ok (.invokevirtual 140, 3) := by decide +kernel
theorem dX11_block_15 : decode cX11_block 15 = .ok (.ifCond .eq 5, 3) := by decide +kernel
theorem dX11_block_18 : decode cX11_block 18 = .ok (.iconst 0, 1) := by decide +kernel
theorem dX11_block_19 : decode cX11_block 19 = .ok (.ireturn, 1) := by decide +kernel
theorem dX11_block_20 : decode cX11_block 20 = .ok (.iconst 1, 1) := by decide +kernel
theorem dX11_block_21 : decode cX11_block 21 = .ok (.istore_n 3, 1) := by decide +kernel
theorem dX11_block_22 : decode cX11_block 22 = .ok (.aload_n 0, 1) := by decide +kernel
theorem dX11_block_23 : decode cX11_block 23 = .ok (.iload_n 1, 1) := by decide +kernel
theorem dX11_block_24 : decode cX11_block 24 = .ok (.iload_n 3, 1) := by decide +kernel
theorem dX11_block_25 : decode cX11_block 25 = .ok (.iadd, 1) := by decide +kernel
theorem dX11_block_26 : decode cX11_block 26 = .ok (.iload_n 2, 1) := by decide +kernel
theorem dX11_block_27 : decode cX11_block 27 = .ok (.iload_n 3, 1) := by decide +kernel
theorem dX11_block_28 : decode cX11_block 28 = .ok (.iadd, 1) := by decide +kernel
theorem dX11_block_29 : decode cX11_block 29 = .ok (.invokevirtual 140, 3) := by decide +kernel
theorem dX11_block_32 : decode cX11_block 32 = .ok (.ifCond .eq 9, 3) := by decide +kernel
theorem dX11_block_35 : decode cX11_block 35 = .ok (.iinc 3 1, 3) := by decide +kernel
theorem dX11_block_38 : decode cX11_block 38 = .ok (.goto (-16), 3) := by decide +kernel
theorem dX11_block_41 : decode cX11_block 41 = .ok (.iload_n 3, 1) := by decide +kernel
theorem dX11_block_42 : decode cX11_block 42 = .ok (.aload_n 0, 1) := by decide +kernel
theorem dX11_block_43 : decode cX11_block 43 = .ok (.getfield 7, 3) := by decide +kernel
theorem dX11_block_46 : decode cX11_block 46 = .ok (.iconst 4, 1) := by decide +kernel
theorem dX11_block_47 : decode cX11_block 47 = .ok (.iaload, 1) := by decide +kernel
theorem dX11_block_48 : decode cX11_block 48 = .ok (.if_icmp .ge 7, 3) := by decide +kernel
theorem dX11_block_51 : decode cX11_block 51 = .ok (.iconst 0, 1) := by decide +kernel
theorem dX11_block_52 : decode cX11_block 52 = .ok (.goto 4, 3) := by decide +kernel
theorem dX11_block_55 : decode cX11_block 55 = .ok (.iload_n 3, 1) := by decide +kernel
theorem dX11_block_56 : decode cX11_block 56 = .ok (.ireturn, 1) := by decide +kernel
theorem dX11_blocks_0 : decode cX11_blocks 0 = .ok (.aload_n 0, 1) := by decide +kernel
theorem dX11_blocks_1 : decode cX11_blocks 1 = .ok (.invokevirtual 143, 3) := by decide +kernel
theorem dX11_blocks_4 : decode cX11_blocks 4 = .ok (.iconst 0, 1) := by decide +kernel
theorem dX11_blocks_5 : decode cX11_blocks 5 = .ok (.istore_n 2, 1) := by decide +kernel
theorem dX11_blocks_6 : decode cX11_blocks 6 = .ok (.bipush 28, 2) := by decide +kernel
theorem dX11_blocks_8 : decode cX11_blocks 8 = .ok (.istore_n 3, 1) := by decide +kernel
theorem dX11_blocks_9 : decode cX11_blocks 9 = .ok (.iload_n 3, 1) := by decide +kernel
theorem dX11_blocks_10 : decode cX11_blocks 10 = .ok (.ifCond .le 106, 3) := by decide +kernel
theorem dX11_blocks_13 : decode cX11_blocks 13 = .ok (.iconst 0, 1) := by decide +kernel
theorem dX11_blocks_14 : decode cX11_blocks 14 = .ok (.istore 4, 2) := by decide +kernel
theorem dX11_blocks_16 : decode cX11_blocks 16 = .ok (.iload 4, 2) := by decide +kernel
theorem dX11_blocks_18 : decode cX11_blocks 18 = .ok (.aload_n 0, 1) := by decide +kernel
theorem dX11_blocks_19 : decode cX11_blocks 19 = .ok (.getfield 7, 3) := by decide +kernel
theorem dX11_blocks_22 : decode cX11_blocks 22 = .ok (.iconst 0, 1) := by decide +kernel
theorem dX11_blocks_23 : decode cX11_blocks 23 = .ok (.iaload, 1) := by decide +kernel
theorem dX11_blocks_24 : decode cX11_blocks 24 = .ok (.if_icmp .ge 86, 3) := by decide +kernel
theorem dX11_blocks_27 : decode cX11_blocks 27 = .ok (.iconst 0, 1) := by decide +kernel
theorem dX11_blocks_28 : decode cX11_blocks 28 = .ok (.istore 5, 2) := by decide +kernel
theorem dX11_blocks_30 : decode cX11_blocks 30 = .ok (.iload 5, 2) := by decide +kernel
theorem dX11_blocks_32 : decode cX11_blocks 32 = .ok (.aload_n 0, 1) := by decide +kernel
theorem dX11_blocks_33 : decode cX11_blocks 33 = .ok (.getfield 7, 3) := by decide +kernel
theorem dX11_blocks_36 : decode cX11_blocks 36 = .ok (.iconst 1, 1) := by decide +kernel
theorem dX11_blocks_37 : decode cX11_blocks 37 = .ok (.iaload, 1) := by decide +kernel
theorem dX11_blocks_38 : decode cX11_blocks 38 = .ok (.if_icmp .ge 66, 3) := by decide +kernel
theorem dX11_blocks_41 : decode cX11_blocks 41 = .ok (.aload_n 0, 1) := by decide +kernel
theorem dX11_blocks_42 : decode cX11_blocks 42 = .ok (.iload 4, 2) := by decide +kernel
theorem dX11_blocks_44 : decode cX11_blocks 44 = .ok (.iload 5, 2) := by decide +kernel
theorem dX11_blocks_46 : decode cX11_blocks 46 = .ok (.invokevirtual 146, 3) := by decide +kernel
theorem dX11_blocks_49 : decode cX11_blocks 49 = .ok (.iload_n 3, 1) := by decide +kernel
theorem dX11_blocks_50 : decode cX11_blocks 50 = .ok (.if_icmp .ne 7, 3) := by decide +kernel
theorem dX11_blocks_53 : decode cX11_blocks 53 = .ok (.iconst 1, 1) := by decide +kernel
theorem dX11_blocks_54 : decode cX11_blocks 54 = .ok (.goto 4, 3) := by decide +kernel
theorem dX11_blocks_57 : decode cX11_blocks 57 = .ok (.iconst 0, 1) := by decide +kernel
theorem dX11_blocks_58 : decode cX11_blocks 58 = .ok (.istore 6, 2) := by decide +kernel
theorem dX11_blocks_60 : decode cX11_blocks 60 = .ok (.iload 6, 2) := by decide +kernel
theorem dX11_blocks_62 : decode cX11_blocks 62 = .ok (.ifCond .eq 23, 3) := by decide +kernel
theorem dX11_blocks_65 : decode cX11_blocks 65 = .ok (.iload_n 2, 1) := by decide +kernel
theorem dX11_blocks_66 : decode cX11_blocks 66 = .ok (.iload_n 1, 1) := by decide +kernel
theorem dX11_blocks_67 : decode cX11_blocks 67 = .ok (.if_icmp .ne 18, 3) := by decide +kernel
theorem dX11_blocks_70 : decode cX11_blocks 70 = .ok (.sipush 10000, 3) := by decide +kernel
theorem dX11_blocks_73 : decode cX11_blocks 73 = .ok (.iload_n 3, 1) := by decide +kernel
theorem dX11_blocks_74 : decode cX11_blocks 74 = .ok (.imul, 1) := by decide +kernel
theorem dX11_blocks_75 : decode cX11_blocks 75 = .ok (.bipush 100, 2) := by decide +kernel
theorem dX11_blocks_77 : decode cX11_blocks 77 = .ok (.iload 4, 2) := by decide +kernel
theorem dX11_blocks_79 : decode cX11_blocks 79 = .ok (.imul, 1) := by decide +kernel
theorem dX11_blocks_80 : decode cX11_blocks 80 = .ok (.iadd, 1) := by decide +kernel
theorem dX11_blocks_81 : decode cX11_blocks 81 = .ok (.iload 5, 2) := by decide +kernel
theorem dX11_blocks_83 : decode cX11_blocks 83 = .ok (.iadd, 1) := by decide +kernel
theorem dX11_blocks_84 : decode cX11_blocks 84 = .ok (.ireturn, 1) := by decide +kernel
theorem dX11_blocks_85 : decode cX11_blocks 85 = .ok (.iload_n 2, 1) := by decide +kernel
theorem dX11_blocks_86 : decode cX11_blocks 86 = .ok (.iload 6, 2) := by decide +kernel
theorem dX11_blocks_88 : decode cX11_blocks 88 = .ok (.ifCond .eq 7, 3) := by decide +kernel
theorem dX11_blocks_91 : decode cX11_blocks 91 = .ok (.iconst 1, 1) := by decide +kernel
theorem dX11_blocks_92 : decode cX11_blocks 92 = .ok (.goto 4, 3) := by decide +kernel
theorem dX11_blocks_95 : decode cX11_blocks 95 = .ok (.iconst 0, 1) := by decide +kernel
theorem dX11_blocks_96 : decode cX11_blocks 96 = .ok (.iadd, 1) := by decide +kernel
theorem dX11_blocks_97 : decode cX11_blocks 97 = .ok (.istore_n 2, 1) := by decide +kernel
theorem dX11_blocks_98 : decode cX11_blocks 98 = .ok (.iinc 5 1, 3) := by decide +kernel
theorem dX11_blocks_101 : decode cX11_blocks 101 = .ok (.goto (-71), 3) := by decide +kernel
theorem dX11_blocks_104 : decode cX11_blocks 104 = .ok (.iinc 4 1, 3) := by decide +kernel
theorem dX11_blocks_107 : decode cX11_blocks 107 = .ok (.goto (-91), 3) := by decide +kernel
theorem dX11_blocks_110 : decode cX11_blocks 110 = .ok (.iinc 3 (-1), 3) := by decide +kernel
theorem dX11_blocks_113 : decode cX11_blocks 113 = .ok (.goto (-104), 3) := by decide +kernel
theorem dX11_blocks_116 : decode cX11_blocks 116 = .ok (.iload_n 2, 1) := by decide +kernel
theorem dX11_blocks_117 : decode cX11_blocks 117 = .ok (.ireturn, 1) := by decide +kernel
theorem dX11_movedOf_0 : decode cX11_movedOf 0 = .ok (.iload_n 1, 1) := by decide +kernel
theorem dX11_movedOf_1 : decode cX11_movedOf 1 = .ok (.ifCond .lt 12, 3) := by decide +kernel
theorem dX11_movedOf_4 : decode cX11_movedOf 4 = .ok (.iload_n 2, 1) := by decide +kernel
theorem dX11_movedOf_5 : decode cX11_movedOf 5 = .ok (.iconst 0, 1) := by decide +kernel
theorem dX11_movedOf_6 : decode cX11_movedOf 6 = .ok (.iconst 2, 1) := by decide +kernel
theorem dX11_movedOf_7 : decode cX11_movedOf 7 = .ok (.invokestatic 48, 3) := by decide +kernel
theorem dX11_movedOf_10 : decode cX11_movedOf 10 = .ok (.ifCond .ne 6, 3) := by decide +kernel
theorem dX11_movedOf_13 : decode cX11_movedOf 13 = .ok (.ldc 56, 2) := by decide +kernel
theorem dX11_movedOf_15 : decode cX11_movedOf 15 = .ok (.ireturn, 1) := by decide +kernel
theorem dX11_movedOf_16 : decode cX11_movedOf 16 = .ok (.aload_n 0, 1) := by decide +kernel
theorem dX11_movedOf_17 : decode cX11_movedOf 17 = .ok (.invokevirtual 102, 3) := by decide +kernel
theorem dX11_movedOf_20 : decode cX11_movedOf 20 = .ok (.ifCond .ne 6, 3) := by decide +kernel
theorem dX11_movedOf_23 : decode cX11_movedOf 23 = .ok (.ldc 61, 2) := by decide +kernel
theorem dX11_movedOf_25 : decode cX11_movedOf 25 = .ok (.ireturn, 1) := by decide +kernel
theorem dX11_movedOf_26 : decode cX11_movedOf 26 = .ok (.aload_n 0, 1) := by decide +kernel
theorem dX11_movedOf_27 : decode cX11_movedOf 27 = .ok (.iload_n 1, 1) := by decide +kernel
theorem dX11_movedOf_28 : decode cX11_movedOf 28 = .ok (.invokevirtual 149, 3) := by decide +kernel
theorem dX11_movedOf_31 : decode cX11_movedOf 31 = .ok (.istore_n 3, 1) := by decide +kernel
theorem dX11_movedOf_32 : decode cX11_movedOf 32 = .ok (.iload_n 3, 1) := by decide +kernel
theorem dX11_movedOf_33 : decode cX11_movedOf 33 = .ok (.sipush 10000, 3) := by decide +kernel
theorem dX11_movedOf_36 : decode cX11_movedOf 36 = .ok (.if_icmp .ge 6, 3) := by decide +kernel
theorem dX11_movedOf_39 : decode cX11_movedOf 39 = .ok (.ldc 70, 2) := by decide +kernel
theorem dX11_movedOf_41 : decode cX11_movedOf 41 = .ok (.ireturn, 1) := by decide +kernel
theorem dX11_movedOf_42 : decode cX11_movedOf 42 = .ok (.iload_n 2, 1) := by decide +kernel
theorem dX11_movedOf_43 : decode cX11_movedOf 43 = .ok (.ifCond .ne 11, 3) := by decide +kernel
theorem dX11_movedOf_46 : decode cX11_movedOf 46 = .ok (.iload_n 3, 1) := by decide +kernel
theorem dX11_movedOf_47 : decode cX11_movedOf 47 = .ok (.sipush 10000, 3) := by decide +kernel
theorem dX11_movedOf_50 : decode cX11_movedOf 50 = .ok (.idiv, 1) := by decide +kernel
theorem dX11_movedOf_51 : decode cX11_movedOf 51 = .ok (.goto 22, 3) := by decide +kernel
theorem dX11_movedOf_54 : decode cX11_movedOf 54 = .ok (.iload_n 2, 1) := by decide +kernel
theorem dX11_movedOf_55 : decode cX11_movedOf 55 = .ok (.iconst 1, 1) := by decide +kernel
theorem dX11_movedOf_56 : decode cX11_movedOf 56 = .ok (.if_icmp .ne 13, 3) := by decide +kernel
theorem dX11_movedOf_59 : decode cX11_movedOf 59 = .ok (.iload_n 3, 1) := by decide +kernel
theorem dX11_movedOf_60 : decode cX11_movedOf 60 = .ok (.bipush 100, 2) := by decide +kernel
theorem dX11_movedOf_62 : decode cX11_movedOf 62 = .ok (.idiv, 1) := by decide +kernel
theorem dX11_movedOf_63 : decode cX11_movedOf 63 = .ok (.bipush 100, 2) := by decide +kernel
theorem dX11_movedOf_65 : decode cX11_movedOf 65 = .ok (.irem, 1) := by decide +kernel
theorem dX11_movedOf_66 : decode cX11_movedOf 66 = .ok (.goto 7, 3) := by decide +kernel
theorem dX11_movedOf_69 : decode cX11_movedOf 69 = .ok (.iload_n 3, 1) := by decide +kernel
theorem dX11_movedOf_70 : decode cX11_movedOf 70 = .ok (.bipush 100, 2) := by decide +kernel
theorem dX11_movedOf_72 : decode cX11_movedOf 72 = .ok (.irem, 1) := by decide +kernel
theorem dX11_movedOf_73 : decode cX11_movedOf 73 = .ok (.ireturn, 1) := by decide +kernel
theorem dX11_bestChange_0 : decode cX11_bestChange 0 = .ok (.iload_n 1, 1) := by decide +kernel
theorem dX11_bestChange_1 : decode cX11_bestChange 1 = .ok (.iconst 0, 1) := by decide +kernel
theorem dX11_bestChange_2 : decode cX11_bestChange 2 = .ok (.iconst 2, 1) := by decide +kernel
theorem dX11_bestChange_3 : decode cX11_bestChange 3 = .ok (.invokestatic 48, 3) := by decide +kernel
theorem dX11_bestChange_6 : decode cX11_bestChange 6 = .ok (.ifCond .ne 6, 3) := by decide +kernel
theorem dX11_bestChange_9 : decode cX11_bestChange 9 = .ok (.ldc 56, 2) := by decide +kernel
end
section
theorem dX11_bestChange_11 : decode cX11_bestChange 11 = .ok (.ireturn, 1) := by decide +kernel
theorem dX11_bestChange_12 : decode cX11_bestChange 12 = .ok (.aload_n 0, 1) := by decide +kernel
theorem dX11_bestChange_13 : decode cX11_bestChange 13 = .ok (.invokevirtual 122, 3) := by decide +kernel
theorem dX11_bestChange_16 : decode cX11_bestChange 16 = .ok (.istore_n 2, 1) := by decide +kernel
theorem dX11_bestChange_17 : decode cX11_bestChange 17 = .ok (.ldc 70, 2) := by decide +kernel
theorem dX11_bestChange_19 : decode cX11_bestChange 19 = .ok (.istore_n 3, 1) := by decide +kernel
theorem dX11_bestChange_20 : decode cX11_bestChange 20 = .ok (.iconst 0, 1) := by decide +kernel
theorem dX11_bestChange_21 : decode cX11_bestChange 21 = .ok (.istore 4, 2) := by decide +kernel
theorem dX11_bestChange_23 : decode cX11_bestChange 23 = .ok (.iload 4, 2) := by decide +kernel
theorem dX11_bestChange_25 : decode cX11_bestChange 25 = .ok (.aload_n 0, 1) := by decide +kernel
theorem dX11_bestChange_26 : decode cX11_bestChange 26 = .ok (.getfield 7, 3) := by decide +kernel
theorem dX11_bestChange_29 : decode cX11_bestChange 29 = .ok (.iconst 0, 1) := by decide +kernel
theorem dX11_bestChange_30 : decode cX11_bestChange 30 = .ok (.iaload, 1) := by decide +kernel
theorem dX11_bestChange_31 : decode cX11_bestChange 31 = .ok (.if_icmp .ge 94, 3) := by decide +kernel
theorem dX11_bestChange_34 : decode cX11_bestChange 34 = .ok (.aload_n 0, 1) := by decide +kernel
theorem dX11_bestChange_35 : decode cX11_bestChange 35 = .ok (.iconst 0, 1) := by decide +kernel
theorem dX11_bestChange_36 : decode cX11_bestChange 36 = .ok (.iload 4, 2) := by decide +kernel
theorem dX11_bestChange_38 : decode cX11_bestChange 38 = .ok (.invokevirtual 52, 3) := by decide +kernel
theorem dX11_bestChange_41 : decode cX11_bestChange 41 = .ok (.istore 5, 2) := by decide +kernel
theorem dX11_bestChange_43 : decode cX11_bestChange 43 = .ok (.iconst 0, 1) := by decide +kernel
theorem dX11_bestChange_44 : decode cX11_bestChange 44 = .ok (.istore 6, 2) := by decide +kernel
theorem dX11_bestChange_46 : decode cX11_bestChange 46 = .ok (.iload 6, 2) := by decide +kernel
theorem dX11_bestChange_48 : decode cX11_bestChange 48 = .ok (.bipush 8, 2) := by decide +kernel
theorem dX11_bestChange_50 : decode cX11_bestChange 50 = .ok (.if_icmp .ge 58, 3) := by decide +kernel
theorem dX11_bestChange_53 : decode cX11_bestChange 53 = .ok (.aload_n 0, 1) := by decide +kernel
theorem dX11_bestChange_54 : decode cX11_bestChange 54 = .ok (.getfield 7, 3) := by decide +kernel
theorem dX11_bestChange_57 : decode cX11_bestChange 57 = .ok (.iconst 5, 1) := by decide +kernel
theorem dX11_bestChange_58 : decode cX11_bestChange 58 = .ok (.iload 4, 2) := by decide +kernel
theorem dX11_bestChange_60 : decode cX11_bestChange 60 = .ok (.iadd, 1) := by decide +kernel
theorem dX11_bestChange_61 : decode cX11_bestChange 61 = .ok (.iload 6, 2) := by decide +kernel
theorem dX11_bestChange_63 : decode cX11_bestChange 63 = .ok (.iastore, 1) := by decide +kernel
theorem dX11_bestChange_64 : decode cX11_bestChange 64 = .ok (.aload_n 0, 1) := by decide +kernel
theorem dX11_bestChange_65 : decode cX11_bestChange 65 = .ok (.invokevirtual 122, 3) := by decide +kernel
theorem dX11_bestChange_68 : decode cX11_bestChange 68 = .ok (.istore 7, 2) := by decide +kernel
theorem dX11_bestChange_70 : decode cX11_bestChange 70 = .ok (.iload 7, 2) := by decide +kernel
theorem dX11_bestChange_72 : decode cX11_bestChange 72 = .ok (.iload_n 2, 1) := by decide +kernel
theorem dX11_bestChange_73 : decode cX11_bestChange 73 = .ok (.if_icmp .ge 14, 3) := by decide +kernel
theorem dX11_bestChange_76 : decode cX11_bestChange 76 = .ok (.bipush 8, 2) := by decide +kernel
theorem dX11_bestChange_78 : decode cX11_bestChange 78 = .ok (.iload 4, 2) := by decide +kernel
theorem dX11_bestChange_80 : decode cX11_bestChange 80 = .ok (.imul, 1) := by decide +kernel
theorem dX11_bestChange_81 : decode cX11_bestChange 81 = .ok (.iload 6, 2) := by decide +kernel
theorem dX11_bestChange_83 : decode cX11_bestChange 83 = .ok (.iadd, 1) := by decide +kernel
theorem dX11_bestChange_84 : decode cX11_bestChange 84 = .ok (.goto 4, 3) := by decide +kernel
theorem dX11_bestChange_87 : decode cX11_bestChange 87 = .ok (.iload_n 3, 1) := by decide +kernel
theorem dX11_bestChange_88 : decode cX11_bestChange 88 = .ok (.istore_n 3, 1) := by decide +kernel
theorem dX11_bestChange_89 : decode cX11_bestChange 89 = .ok (.iload 7, 2) := by decide +kernel
theorem dX11_bestChange_91 : decode cX11_bestChange 91 = .ok (.iload_n 2, 1) := by decide +kernel
theorem dX11_bestChange_92 : decode cX11_bestChange 92 = .ok (.if_icmp .ge 8, 3) := by decide +kernel
theorem dX11_bestChange_95 : decode cX11_bestChange 95 = .ok (.iload 7, 2) := by decide +kernel
theorem dX11_bestChange_97 : decode cX11_bestChange 97 = .ok (.goto 4, 3) := by decide +kernel
theorem dX11_bestChange_100 : decode cX11_bestChange 100 = .ok (.iload_n 2, 1) := by decide +kernel
theorem dX11_bestChange_101 : decode cX11_bestChange 101 = .ok (.istore_n 2, 1) := by decide +kernel
theorem dX11_bestChange_102 : decode cX11_bestChange 102 = .ok (.iinc 6 1, 3) := by decide +kernel
theorem dX11_bestChange_105 : decode cX11_bestChange 105 = .ok (.goto (-59), 3) := by decide +kernel
theorem dX11_bestChange_108 : decode cX11_bestChange 108 = .ok (.aload_n 0, 1) := by decide +kernel
theorem dX11_bestChange_109 : decode cX11_bestChange 109 = .ok (.getfield 7, 3) := by decide +kernel
theorem dX11_bestChange_112 : decode cX11_bestChange 112 = .ok (.iconst 5, 1) := by decide +kernel
theorem dX11_bestChange_113 : decode cX11_bestChange 113 = .ok (.iload 4, 2) := by decide +kernel
theorem dX11_bestChange_115 : decode cX11_bestChange 115 = .ok (.iadd, 1) := by decide +kernel
theorem dX11_bestChange_116 : decode cX11_bestChange 116 = .ok (.iload 5, 2) := by decide +kernel
theorem dX11_bestChange_118 : decode cX11_bestChange 118 = .ok (.iastore, 1) := by decide +kernel
theorem dX11_bestChange_119 : decode cX11_bestChange 119 = .ok (.iinc 4 1, 3) := by decide +kernel
theorem dX11_bestChange_122 : decode cX11_bestChange 122 = .ok (.goto (-99), 3) := by decide +kernel
theorem dX11_bestChange_125 : decode cX11_bestChange 125 = .ok (.iload_n 3, 1) := by decide +kernel
theorem dX11_bestChange_126 : decode cX11_bestChange 126 = .ok (.ifCond .ge 8, 3) := by decide +kernel
theorem dX11_bestChange_129 : decode cX11_bestChange 129 = .ok (.ldc 70, 2) := by decide +kernel
theorem dX11_bestChange_131 : decode cX11_bestChange 131 = .ok (.goto 27, 3) := by decide +kernel
theorem dX11_bestChange_134 : decode cX11_bestChange 134 = .ok (.iload_n 1, 1) := by decide +kernel
theorem dX11_bestChange_135 : decode cX11_bestChange 135 = .ok (.ifCond .ne 10, 3) := by decide +kernel
theorem dX11_bestChange_138 : decode cX11_bestChange 138 = .ok (.iload_n 3, 1) := by decide +kernel
theorem dX11_bestChange_139 : decode cX11_bestChange 139 = .ok (.bipush 8, 2) := by decide +kernel
theorem dX11_bestChange_141 : decode cX11_bestChange 141 = .ok (.idiv, 1) := by decide +kernel
theorem dX11_bestChange_142 : decode cX11_bestChange 142 = .ok (.goto 16, 3) := by decide +kernel
theorem dX11_bestChange_145 : decode cX11_bestChange 145 = .ok (.iload_n 1, 1) := by decide +kernel
theorem dX11_bestChange_146 : decode cX11_bestChange 146 = .ok (.iconst 1, 1) := by decide +kernel
theorem dX11_bestChange_147 : decode cX11_bestChange 147 = .ok (.if_icmp .ne 10, 3) := by decide +kernel
theorem dX11_bestChange_150 : decode cX11_bestChange 150 = .ok (.iload_n 3, 1) := by decide +kernel
theorem dX11_bestChange_151 : decode cX11_bestChange 151 = .ok (.bipush 8, 2) := by decide +kernel
theorem dX11_bestChange_153 : decode cX11_bestChange 153 = .ok (.irem, 1) := by decide +kernel
theorem dX11_bestChange_154 : decode cX11_bestChange 154 = .ok (.goto 4, 3) := by decide +kernel
theorem dX11_bestChange_157 : decode cX11_bestChange 157 = .ok (.iload_n 2, 1) := by decide +kernel
theorem dX11_bestChange_158 : decode cX11_bestChange 158 = .ok (.ireturn, 1) := by decide +kernel
theorem dX11_longest_0 : decode cX11_longest 0 = .ok (.iconst 0, 1) := by decide +kernel
theorem dX11_longest_1 : decode cX11_longest 1 = .ok (.istore_n 1, 1) := by decide +kernel
theorem dX11_longest_2 : decode cX11_longest 2 = .ok (.iconst 0, 1) := by decide +kernel
theorem dX11_longest_3 : decode cX11_longest 3 = .ok (.istore_n 2, 1) := by decide +kernel
theorem dX11_longest_4 : decode cX11_longest 4 = .ok (.iload_n 2, 1) := by decide +kernel
theorem dX11_longest_5 : decode cX11_longest 5 = .ok (.aload_n 0, 1) := by decide +kernel
theorem dX11_longest_6 : decode cX11_longest 6 = .ok (.getfield 7, 3) := by decide +kernel
theorem dX11_longest_9 : decode cX11_longest 9 = .ok (.iconst 0, 1) := by decide +kernel
theorem dX11_longest_10 : decode cX11_longest 10 = .ok (.iaload, 1) := by decide +kernel
theorem dX11_longest_11 : decode cX11_longest 11 = .ok (.if_icmp .ge 48, 3) := by decide +kernel
theorem dX11_longest_14 : decode cX11_longest 14 = .ok (.iconst 0, 1) := by decide +kernel
theorem dX11_longest_15 : decode cX11_longest 15 = .ok (.istore_n 3, 1) := by decide +kernel
theorem dX11_longest_16 : decode cX11_longest 16 = .ok (.iload_n 3, 1) := by decide +kernel
theorem dX11_longest_17 : decode cX11_longest 17 = .ok (.aload_n 0, 1) := by decide +kernel
theorem dX11_longest_18 : decode cX11_longest 18 = .ok (.getfield 7, 3) := by decide +kernel
theorem dX11_longest_21 : decode cX11_longest 21 = .ok (.iconst 1, 1) := by decide +kernel
theorem dX11_longest_22 : decode cX11_longest 22 = .ok (.iaload, 1) := by decide +kernel
theorem dX11_longest_23 : decode cX11_longest 23 = .ok (.if_icmp .ge 30, 3) := by decide +kernel
theorem dX11_longest_26 : decode cX11_longest 26 = .ok (.aload_n 0, 1) := by decide +kernel
theorem dX11_longest_27 : decode cX11_longest 27 = .ok (.iload_n 2, 1) := by decide +kernel
theorem dX11_longest_28 : decode cX11_longest 28 = .ok (.iload_n 3, 1) := by decide +kernel
theorem dX11_longest_29 : decode cX11_longest 29 = .ok (.invokevirtual 75, 3) := by decide +kernel
theorem dX11_longest_32 : decode cX11_longest 32 = .ok (.istore 4, 2) := by decide +kernel
theorem dX11_longest_34 : decode cX11_longest 34 = .ok (.iload 4, 2) := by decide +kernel
theorem dX11_longest_36 : decode cX11_longest 36 = .ok (.iload_n 1, 1) := by decide +kernel
theorem dX11_longest_37 : decode cX11_longest 37 = .ok (.if_icmp .le 8, 3) := by decide +kernel
theorem dX11_longest_40 : decode cX11_longest 40 = .ok (.iload 4, 2) := by decide +kernel
theorem dX11_longest_42 : decode cX11_longest 42 = .ok (.goto 4, 3) := by decide +kernel
theorem dX11_longest_45 : decode cX11_longest 45 = .ok (.iload_n 1, 1) := by decide +kernel
theorem dX11_longest_46 : decode cX11_longest 46 = .ok (.istore_n 1, 1) := by decide +kernel
theorem dX11_longest_47 : decode cX11_longest 47 = .ok (.iinc 3 1, 3) := by decide +kernel
theorem dX11_longest_50 : decode cX11_longest 50 = .ok (.goto (-34), 3) := by decide +kernel
theorem dX11_longest_53 : decode cX11_longest 53 = .ok (.iinc 2 1, 3) := by decide +kernel
theorem dX11_longest_56 : decode cX11_longest 56 = .ok (.goto (-52), 3) := by decide +kernel
theorem dX11_longest_59 : decode cX11_longest 59 = .ok (.iload_n 1, 1) := by decide +kernel
theorem dX11_longest_60 : decode cX11_longest 60 = .ok (.ireturn, 1) := by decide +kernel
theorem dX11_count_0 : decode cX11_count 0 = .ok (.iload_n 1, 1) := by decide +kernel
theorem dX11_count_1 : decode cX11_count 1 = .ok (.iconst 2, 1) := by decide +kernel
theorem dX11_count_2 : decode cX11_count 2 = .ok (.iconst 5, 1) := by decide +kernel
theorem dX11_count_3 : decode cX11_count 3 = .ok (.invokestatic 48, 3) := by decide +kernel
theorem dX11_count_6 : decode cX11_count 6 = .ok (.ifCond .eq 13, 3) := by decide +kernel
theorem dX11_count_9 : decode cX11_count 9 = .ok (.aload_n 0, 1) := by decide +kernel
theorem dX11_count_10 : decode cX11_count 10 = .ok (.invokevirtual 102, 3) := by decide +kernel
theorem dX11_count_13 : decode cX11_count 13 = .ok (.ifCond .ne 6, 3) := by decide +kernel
theorem dX11_count_16 : decode cX11_count 16 = .ok (.ldc 61, 2) := by decide +kernel
theorem dX11_count_18 : decode cX11_count 18 = .ok (.ireturn, 1) := by decide +kernel
theorem dX11_count_19 : decode cX11_count 19 = .ok (.iload_n 1, 1) := by decide +kernel
theorem dX11_count_20 : decode cX11_count 20 = .ok (.tableswitch 100 0 8 #[52, 52, 59, 64, 74, 79, 85, 90, 95], 52) := by decide +kernel
theorem dX11_count_72 : decode cX11_count 72 = .ok (.aload_n 0, 1) := by decide +kernel
theorem dX11_count_73 : decode cX11_count 73 = .ok (.getfield 7, 3) := by decide +kernel
theorem dX11_count_76 : decode cX11_count 76 = .ok (.iload_n 1, 1) := by decide +kernel
theorem dX11_count_77 : decode cX11_count 77 = .ok (.iaload, 1) := by decide +kernel
theorem dX11_count_78 : decode cX11_count 78 = .ok (.ireturn, 1) := by decide +kernel
theorem dX11_count_79 : decode cX11_count 79 = .ok (.aload_n 0, 1) := by decide +kernel
theorem dX11_count_80 : decode cX11_count 80 = .ok (.getfield 95, 3) := by decide +kernel
theorem dX11_count_83 : decode cX11_count 83 = .ok (.ireturn, 1) := by decide +kernel
theorem dX11_count_84 : decode cX11_count 84 = .ok (.aload_n 0, 1) := by decide +kernel
theorem dX11_count_85 : decode cX11_count 85 = .ok (.getfield 95, 3) := by decide +kernel
theorem dX11_count_88 : decode cX11_count 88 = .ok (.aload_n 0, 1) := by decide +kernel
theorem dX11_count_89 : decode cX11_count 89 = .ok (.getfield 84, 3) := by decide +kernel
theorem dX11_count_92 : decode cX11_count 92 = .ok (.isub, 1) := by decide +kernel
theorem dX11_count_93 : decode cX11_count 93 = .ok (.ireturn, 1) := by decide +kernel
theorem dX11_count_94 : decode cX11_count 94 = .ok (.aload_n 0, 1) := by decide +kernel
theorem dX11_count_95 : decode cX11_count 95 = .ok (.invokevirtual 152, 3) := by decide +kernel
theorem dX11_count_98 : decode cX11_count 98 = .ok (.ireturn, 1) := by decide +kernel
theorem dX11_count_99 : decode cX11_count 99 = .ok (.aload_n 0, 1) := by decide +kernel
theorem dX11_count_100 : decode cX11_count 100 = .ok (.iconst (-1), 1) := by decide +kernel
theorem dX11_count_101 : decode cX11_count 101 = .ok (.invokevirtual 149, 3) := by decide +kernel
theorem dX11_count_104 : decode cX11_count 104 = .ok (.ireturn, 1) := by decide +kernel
theorem dX11_count_105 : decode cX11_count 105 = .ok (.aload_n 0, 1) := by decide +kernel
theorem dX11_count_106 : decode cX11_count 106 = .ok (.invokevirtual 155, 3) := by decide +kernel
theorem dX11_count_109 : decode cX11_count 109 = .ok (.ireturn, 1) := by decide +kernel
theorem dX11_count_110 : decode cX11_count 110 = .ok (.aload_n 0, 1) := by decide +kernel
theorem dX11_count_111 : decode cX11_count 111 = .ok (.getfield 57, 3) := by decide +kernel
theorem dX11_count_114 : decode cX11_count 114 = .ok (.ireturn, 1) := by decide +kernel
theorem dX11_count_115 : decode cX11_count 115 = .ok (.aload_n 0, 1) := by decide +kernel
theorem dX11_count_116 : decode cX11_count 116 = .ok (.getfield 158, 3) := by decide +kernel
theorem dX11_count_119 : decode cX11_count 119 = .ok (.ireturn, 1) := by decide +kernel
theorem dX11_count_120 : decode cX11_count 120 = .ok (.iload_n 1, 1) := by decide +kernel
theorem dX11_count_121 : decode cX11_count 121 = .ok (.bipush 20, 2) := by decide +kernel
theorem dX11_count_123 : decode cX11_count 123 = .ok (.bipush 22, 2) := by decide +kernel
theorem dX11_count_125 : decode cX11_count 125 = .ok (.invokestatic 48, 3) := by decide +kernel
theorem dX11_count_128 : decode cX11_count 128 = .ok (.ifCond .eq 17, 3) := by decide +kernel
theorem dX11_count_131 : decode cX11_count 131 = .ok (.aload_n 0, 1) := by decide +kernel
theorem dX11_count_132 : decode cX11_count 132 = .ok (.getfield 7, 3) := by decide +kernel
theorem dX11_count_135 : decode cX11_count 135 = .ok (.iconst 2, 1) := by decide +kernel
theorem dX11_count_136 : decode cX11_count 136 = .ok (.iload_n 1, 1) := by decide +kernel
theorem dX11_count_137 : decode cX11_count 137 = .ok (.iadd, 1) := by decide +kernel
theorem dX11_count_138 : decode cX11_count 138 = .ok (.bipush 20, 2) := by decide +kernel
theorem dX11_count_140 : decode cX11_count 140 = .ok (.isub, 1) := by decide +kernel
theorem dX11_count_141 : decode cX11_count 141 = .ok (.iaload, 1) := by decide +kernel
theorem dX11_count_142 : decode cX11_count 142 = .ok (.goto 5, 3) := by decide +kernel
theorem dX11_count_145 : decode cX11_count 145 = .ok (.ldc 56, 2) := by decide +kernel
theorem dX11_count_147 : decode cX11_count 147 = .ok (.ireturn, 1) := by decide +kernel
theorem dX11_undo_0 : decode cX11_undo 0 = .ok (.aload_n 0, 1) := by decide +kernel
theorem dX11_undo_1 : decode cX11_undo 1 = .ok (.getfield 57, 3) := by decide +kernel
theorem dX11_undo_4 : decode cX11_undo 4 = .ok (.ifCond .ne 6, 3) := by decide +kernel
theorem dX11_undo_7 : decode cX11_undo 7 = .ok (.ldc 69, 2) := by decide +kernel
theorem dX11_undo_9 : decode cX11_undo 9 = .ok (.ireturn, 1) := by decide +kernel
theorem dX11_undo_10 : decode cX11_undo 10 = .ok (.aload_n 0, 1) := by decide +kernel
theorem dX11_undo_11 : decode cX11_undo 11 = .ok (.dup, 1) := by decide +kernel
theorem dX11_undo_12 : decode cX11_undo 12 = .ok (.getfield 57, 3) := by decide +kernel
theorem dX11_undo_15 : decode cX11_undo 15 = .ok (.iconst 1, 1) := by decide +kernel
theorem dX11_undo_16 : decode cX11_undo 16 = .ok (.isub, 1) := by decide +kernel
theorem dX11_undo_17 : decode cX11_undo 17 = .ok (.putfield 57, 3) := by decide +kernel
theorem dX11_undo_20 : decode cX11_undo 20 = .ok (.iconst 0, 1) := by decide +kernel
theorem dX11_undo_21 : decode cX11_undo 21 = .ok (.istore_n 1, 1) := by decide +kernel
theorem dX11_undo_22 : decode cX11_undo 22 = .ok (.iload_n 1, 1) := by decide +kernel
theorem dX11_undo_23 : decode cX11_undo 23 = .ok (.bipush 61, 2) := by decide +kernel
theorem dX11_undo_25 : decode cX11_undo 25 = .ok (.if_icmp .ge 29, 3) := by decide +kernel
theorem dX11_undo_28 : decode cX11_undo 28 = .ok (.aload_n 0, 1) := by decide +kernel
theorem dX11_undo_29 : decode cX11_undo 29 = .ok (.getfield 7, 3) := by decide +kernel
theorem dX11_undo_32 : decode cX11_undo 32 = .ok (.iload_n 1, 1) := by decide +kernel
theorem dX11_undo_33 : decode cX11_undo 33 = .ok (.aload_n 0, 1) := by decide +kernel
theorem dX11_undo_34 : decode cX11_undo 34 = .ok (.getfield 13, 3) := by decide +kernel
theorem dX11_undo_37 : decode cX11_undo 37 = .ok (.bipush 61, 2) := by decide +kernel
theorem dX11_undo_39 : decode cX11_undo 39 = .ok (.aload_n 0, 1) := by decide +kernel
theorem dX11_undo_40 : decode cX11_undo 40 = .ok (.getfield 57, 3) := by decide +kernel
theorem dX11_undo_43 : decode cX11_undo 43 = .ok (.imul, 1) := by decide +kernel
theorem dX11_undo_44 : decode cX11_undo 44 = .ok (.iload_n 1, 1) := by decide +kernel
theorem dX11_undo_45 : decode cX11_undo 45 = .ok (.iadd, 1) := by decide +kernel
theorem dX11_undo_46 : decode cX11_undo 46 = .ok (.iaload, 1) := by decide +kernel
theorem dX11_undo_47 : decode cX11_undo 47 = .ok (.iastore, 1) := by decide +kernel
theorem dX11_undo_48 : decode cX11_undo 48 = .ok (.iinc 1 1, 3) := by decide +kernel
theorem dX11_undo_51 : decode cX11_undo 51 = .ok (.goto (-29), 3) := by decide +kernel
theorem dX11_undo_54 : decode cX11_undo 54 = .ok (.aload_n 0, 1) := by decide +kernel
theorem dX11_undo_55 : decode cX11_undo 55 = .ok (.getfield 57, 3) := by decide +kernel
theorem dX11_undo_58 : decode cX11_undo 58 = .ok (.ireturn, 1) := by decide +kernel
theorem dX11_type_0 : decode cX11_type 0 = .ok (.iload_n 1, 1) := by decide +kernel
theorem dX11_type_1 : decode cX11_type 1 = .ok (.bipush 32, 2) := by decide +kernel
theorem dX11_type_3 : decode cX11_type 3 = .ok (.bipush 126, 2) := by decide +kernel
theorem dX11_type_5 : decode cX11_type 5 = .ok (.invokestatic 48, 3) := by decide +kernel
theorem dX11_type_8 : decode cX11_type 8 = .ok (.ifCond .ne 6, 3) := by decide +kernel
theorem dX11_type_11 : decode cX11_type 11 = .ok (.ldc 56, 2) := by decide +kernel
theorem dX11_type_13 : decode cX11_type 13 = .ok (.ireturn, 1) := by decide +kernel
theorem dX11_type_14 : decode cX11_type 14 = .ok (.aload_n 0, 1) := by decide +kernel
theorem dX11_type_15 : decode cX11_type 15 = .ok (.getfield 158, 3) := by decide +kernel
theorem dX11_type_18 : decode cX11_type 18 = .ok (.bipush 60, 2) := by decide +kernel
theorem dX11_type_20 : decode cX11_type 20 = .ok (.if_icmp .ne 6, 3) := by decide +kernel
theorem dX11_type_23 : decode cX11_type 23 = .ok (.ldc 61, 2) := by decide +kernel
theorem dX11_type_25 : decode cX11_type 25 = .ok (.ireturn, 1) := by decide +kernel
theorem dX11_type_26 : decode cX11_type 26 = .ok (.aload_n 0, 1) := by decide +kernel
theorem dX11_type_27 : decode cX11_type 27 = .ok (.getfield 19, 3) := by decide +kernel
theorem dX11_type_30 : decode cX11_type 30 = .ok (.aload_n 0, 1) := by decide +kernel
theorem dX11_type_31 : decode cX11_type 31 = .ok (.getfield 158, 3) := by decide +kernel
theorem dX11_type_34 : decode cX11_type 34 = .ok (.iload_n 1, 1) := by decide +kernel
theorem dX11_type_35 : decode cX11_type 35 = .ok (.i2c, 1) := by decide +kernel
theorem dX11_type_36 : decode cX11_type 36 = .ok (.castore, 1) := by decide +kernel
theorem dX11_type_37 : decode cX11_type 37 = .ok (.aload_n 0, 1) := by decide +kernel
theorem dX11_type_38 : decode cX11_type 38 = .ok (.dup, 1) := by decide +kernel
theorem dX11_type_39 : decode cX11_type 39 = .ok (.getfield 158, 3) := by decide +kernel
theorem dX11_type_42 : decode cX11_type 42 = .ok (.iconst 1, 1) := by decide +kernel
theorem dX11_type_43 : decode cX11_type 43 = .ok (.iadd, 1) := by decide +kernel
theorem dX11_type_44 : decode cX11_type 44 = .ok (.putfield 158, 3) := by decide +kernel
theorem dX11_type_47 : decode cX11_type 47 = .ok (.aload_n 0, 1) := by decide +kernel
theorem dX11_type_48 : decode cX11_type 48 = .ok (.getfield 158, 3) := by decide +kernel
theorem dX11_type_51 : decode cX11_type 51 = .ok (.ireturn, 1) := by decide +kernel
theorem dX11_clearText_0 : decode cX11_clearText 0 = .ok (.aload_n 0, 1) := by decide +kernel
theorem dX11_clearText_1 : decode cX11_clearText 1 = .ok (.getfield 158, 3) := by decide +kernel
theorem dX11_clearText_4 : decode cX11_clearText 4 = .ok (.istore_n 1, 1) := by decide +kernel
theorem dX11_clearText_5 : decode cX11_clearText 5 = .ok (.aload_n 0, 1) := by decide +kernel
theorem dX11_clearText_6 : decode cX11_clearText 6 = .ok (.iconst 0, 1) := by decide +kernel
theorem dX11_clearText_7 : decode cX11_clearText 7 = .ok (.putfield 158, 3) := by decide +kernel
theorem dX11_clearText_10 : decode cX11_clearText 10 = .ok (.iload_n 1, 1) := by decide +kernel
theorem dX11_clearText_11 : decode cX11_clearText 11 = .ok (.ireturn, 1) := by decide +kernel
theorem dX11_sign_0 : decode cX11_sign 0 = .ok (.aload_n 0, 1) := by decide +kernel
theorem dX11_sign_1 : decode cX11_sign 1 = .ok (.getfield 161, 3) := by decide +kernel
theorem dX11_sign_4 : decode cX11_sign 4 = .ok (.aload_n 0, 1) := by decide +kernel
theorem dX11_sign_5 : decode cX11_sign 5 = .ok (.getfield 158, 3) := by decide +kernel
theorem dX11_sign_8 : decode cX11_sign 8 = .ok (.if_icmp .ge 15, 3) := by decide +kernel
theorem dX11_sign_11 : decode cX11_sign 11 = .ok (.aload_n 0, 1) := by decide +kernel
theorem dX11_sign_12 : decode cX11_sign 12 = .ok (.getfield 19, 3) := by decide +kernel
theorem dX11_sign_15 : decode cX11_sign 15 = .ok (.aload_n 0, 1) := by decide +kernel
theorem dX11_sign_16 : decode cX11_sign 16 = .ok (.getfield 161, 3) := by decide +kernel
theorem dX11_sign_19 : decode cX11_sign 19 = .ok (.caload, 1) := by decide +kernel
theorem dX11_sign_20 : decode cX11_sign 20 = .ok (.goto 4, 3) := by decide +kernel
theorem dX11_sign_23 : decode cX11_sign 23 = .ok (.iconst (-1), 1) := by decide +kernel
theorem dX11_sign_24 : decode cX11_sign 24 = .ok (.ireturn, 1) := by decide +kernel
theorem dX11_readsNumber_0 : decode cX11_readsNumber 0 = .ok (.aload_n 0, 1) := by decide +kernel
theorem dX11_readsNumber_1 : decode cX11_readsNumber 1 = .ok (.iconst 0, 1) := by decide +kernel
theorem dX11_readsNumber_2 : decode cX11_readsNumber 2 = .ok (.putfield 164, 3) := by decide +kernel
theorem dX11_readsNumber_5 : decode cX11_readsNumber 5 = .ok (.aload_n 0, 1) := by decide +kernel
theorem dX11_readsNumber_6 : decode cX11_readsNumber 6 = .ok (.getfield 161, 3) := by decide +kernel
theorem dX11_readsNumber_9 : decode cX11_readsNumber 9 = .ok (.istore_n 1, 1) := by decide +kernel
theorem dX11_readsNumber_10 : decode cX11_readsNumber 10 = .ok (.aload_n 0, 1) := by decide +kernel
theorem dX11_readsNumber_11 : decode cX11_readsNumber 11 = .ok (.invokevirtual 166, 3) := by decide +kernel
theorem dX11_readsNumber_14 : decode cX11_readsNumber 14 = .ok (.aload_n 0, 1) := by decide +kernel
theorem dX11_readsNumber_15 : decode cX11_readsNumber 15 = .ok (.getfield 161, 3) := by decide +kernel
theorem dX11_readsNumber_18 : decode cX11_readsNumber 18 = .ok (.iload_n 1, 1) := by decide +kernel
theorem dX11_readsNumber_19 : decode cX11_readsNumber 19 = .ok (.if_icmp .ne 8, 3) := by decide +kernel
theorem dX11_readsNumber_22 : decode cX11_readsNumber 22 = .ok (.bipush 49, 2) := by decide +kernel
theorem dX11_readsNumber_24 : decode cX11_readsNumber 24 = .ok (.goto 5, 3) := by decide +kernel
theorem dX11_readsNumber_27 : decode cX11_readsNumber 27 = .ok (.bipush 48, 2) := by decide +kernel
theorem dX11_readsNumber_29 : decode cX11_readsNumber 29 = .ok (.bipush 57, 2) := by decide +kernel
theorem dX11_readsNumber_31 : decode cX11_readsNumber 31 = .ok (.invokestatic 48, 3) := by decide +kernel
theorem dX11_readsNumber_34 : decode cX11_readsNumber 34 = .ok (.ifCond .eq 45, 3) := by decide +kernel
theorem dX11_readsNumber_37 : decode cX11_readsNumber 37 = .ok (.aload_n 0, 1) := by decide +kernel
theorem dX11_readsNumber_38 : decode cX11_readsNumber 38 = .ok (.getfield 161, 3) := by decide +kernel
theorem dX11_readsNumber_41 : decode cX11_readsNumber 41 = .ok (.iload_n 1, 1) := by decide +kernel
theorem dX11_readsNumber_42 : decode cX11_readsNumber 42 = .ok (.iconst 2, 1) := by decide +kernel
theorem dX11_readsNumber_43 : decode cX11_readsNumber 43 = .ok (.iadd, 1) := by decide +kernel
theorem dX11_readsNumber_44 : decode cX11_readsNumber 44 = .ok (.if_icmp .ge 35, 3) := by decide +kernel
theorem dX11_readsNumber_47 : decode cX11_readsNumber 47 = .ok (.aload_n 0, 1) := by decide +kernel
theorem dX11_readsNumber_48 : decode cX11_readsNumber 48 = .ok (.bipush 10, 2) := by decide +kernel
theorem dX11_readsNumber_50 : decode cX11_readsNumber 50 = .ok (.aload_n 0, 1) := by decide +kernel
theorem dX11_readsNumber_51 : decode cX11_readsNumber 51 = .ok (.getfield 164, 3) := by decide +kernel
theorem dX11_readsNumber_54 : decode cX11_readsNumber 54 = .ok (.imul, 1) := by decide +kernel
theorem dX11_readsNumber_55 : decode cX11_readsNumber 55 = .ok (.aload_n 0, 1) := by decide +kernel
theorem dX11_readsNumber_56 : decode cX11_readsNumber 56 = .ok (.invokevirtual 166, 3) := by decide +kernel
theorem dX11_readsNumber_59 : decode cX11_readsNumber 59 = .ok (.iadd, 1) := by decide +kernel
theorem dX11_readsNumber_60 : decode cX11_readsNumber 60 = .ok (.bipush 48, 2) := by decide +kernel
theorem dX11_readsNumber_62 : decode cX11_readsNumber 62 = .ok (.isub, 1) := by decide +kernel
theorem dX11_readsNumber_63 : decode cX11_readsNumber 63 = .ok (.putfield 164, 3) := by decide +kernel
theorem dX11_readsNumber_66 : decode cX11_readsNumber 66 = .ok (.aload_n 0, 1) := by decide +kernel
theorem dX11_readsNumber_67 : decode cX11_readsNumber 67 = .ok (.dup, 1) := by decide +kernel
theorem dX11_readsNumber_68 : decode cX11_readsNumber 68 = .ok (.getfield 161, 3) := by decide +kernel
theorem dX11_readsNumber_71 : decode cX11_readsNumber 71 = .ok (.iconst 1, 1) := by decide +kernel
theorem dX11_readsNumber_72 : decode cX11_readsNumber 72 = .ok (.iadd, 1) := by decide +kernel
theorem dX11_readsNumber_73 : decode cX11_readsNumber 73 = .ok (.putfield 161, 3) := by decide +kernel
theorem dX11_readsNumber_76 : decode cX11_readsNumber 76 = .ok (.goto (-66), 3) := by decide +kernel
theorem dX11_readsNumber_79 : decode cX11_readsNumber 79 = .ok (.aload_n 0, 1) := by decide +kernel
theorem dX11_readsNumber_80 : decode cX11_readsNumber 80 = .ok (.getfield 161, 3) := by decide +kernel
theorem dX11_readsNumber_83 : decode cX11_readsNumber 83 = .ok (.iload_n 1, 1) := by decide +kernel
theorem dX11_readsNumber_84 : decode cX11_readsNumber 84 = .ok (.if_icmp .le 7, 3) := by decide +kernel
theorem dX11_readsNumber_87 : decode cX11_readsNumber 87 = .ok (.iconst 1, 1) := by decide +kernel
theorem dX11_readsNumber_88 : decode cX11_readsNumber 88 = .ok (.goto 4, 3) := by decide +kernel
theorem dX11_readsNumber_91 : decode cX11_readsNumber 91 = .ok (.iconst 0, 1) := by decide +kernel
theorem dX11_readsNumber_92 : decode cX11_readsNumber 92 = .ok (.ireturn, 1) := by decide +kernel
theorem dX11_readsLetters_0 : decode cX11_readsLetters 0 = .ok (.aload_n 0, 1) := by decide +kernel
theorem dX11_readsLetters_1 : decode cX11_readsLetters 1 = .ok (.getfield 161, 3) := by decide +kernel
theorem dX11_readsLetters_4 : decode cX11_readsLetters 4 = .ok (.istore_n 1, 1) := by decide +kernel
theorem dX11_readsLetters_5 : decode cX11_readsLetters 5 = .ok (.aload_n 0, 1) := by decide +kernel
theorem dX11_readsLetters_6 : decode cX11_readsLetters 6 = .ok (.invokevirtual 166, 3) := by decide +kernel
theorem dX11_readsLetters_9 : decode cX11_readsLetters 9 = .ok (.bipush 97, 2) := by decide +kernel
theorem dX11_readsLetters_11 : decode cX11_readsLetters 11 = .ok (.bipush 104, 2) := by decide +kernel
theorem dX11_readsLetters_13 : decode cX11_readsLetters 13 = .ok (.invokestatic 48, 3) := by decide +kernel
theorem dX11_readsLetters_16 : decode cX11_readsLetters 16 = .ok (.ifCond .eq 16, 3) := by decide +kernel
theorem dX11_readsLetters_19 : decode cX11_readsLetters 19 = .ok (.aload_n 0, 1) := by decide +kernel
theorem dX11_readsLetters_20 : decode cX11_readsLetters 20 = .ok (.dup, 1) := by decide +kernel
theorem dX11_readsLetters_21 : decode cX11_readsLetters 21 = .ok (.getfield 161, 3) := by decide +kernel
theorem dX11_readsLetters_24 : decode cX11_readsLetters 24 = .ok (.iconst 1, 1) := by decide +kernel
theorem dX11_readsLetters_25 : decode cX11_readsLetters 25 = .ok (.iadd, 1) := by decide +kernel
theorem dX11_readsLetters_26 : decode cX11_readsLetters 26 = .ok (.putfield 161, 3) := by decide +kernel
theorem dX11_readsLetters_29 : decode cX11_readsLetters 29 = .ok (.goto (-24), 3) := by decide +kernel
theorem dX11_readsLetters_32 : decode cX11_readsLetters 32 = .ok (.aload_n 0, 1) := by decide +kernel
theorem dX11_readsLetters_33 : decode cX11_readsLetters 33 = .ok (.aload_n 0, 1) := by decide +kernel
theorem dX11_readsLetters_34 : decode cX11_readsLetters 34 = .ok (.getfield 161, 3) := by decide +kernel
theorem dX11_readsLetters_37 : decode cX11_readsLetters 37 = .ok (.iload_n 1, 1) := by decide +kernel
theorem dX11_readsLetters_38 : decode cX11_readsLetters 38 = .ok (.isub, 1) := by decide +kernel
theorem dX11_readsLetters_39 : decode cX11_readsLetters 39 = .ok (.putfield 164, 3) := by decide +kernel
theorem dX11_readsLetters_42 : decode cX11_readsLetters 42 = .ok (.aload_n 0, 1) := by decide +kernel
theorem dX11_readsLetters_43 : decode cX11_readsLetters 43 = .ok (.getfield 164, 3) := by decide +kernel
theorem dX11_readsLetters_46 : decode cX11_readsLetters 46 = .ok (.ifCond .le 7, 3) := by decide +kernel
theorem dX11_readsLetters_49 : decode cX11_readsLetters 49 = .ok (.iconst 1, 1) := by decide +kernel
theorem dX11_readsLetters_50 : decode cX11_readsLetters 50 = .ok (.goto 4, 3) := by decide +kernel
theorem dX11_readsLetters_53 : decode cX11_readsLetters 53 = .ok (.iconst 0, 1) := by decide +kernel
theorem dX11_readsLetters_54 : decode cX11_readsLetters 54 = .ok (.ireturn, 1) := by decide +kernel
theorem dX11_doesNext_0 : decode cX11_doesNext 0 = .ok (.aload_n 0, 1) := by decide +kernel
theorem dX11_doesNext_1 : decode cX11_doesNext 1 = .ok (.getfield 161, 3) := by decide +kernel
theorem dX11_doesNext_4 : decode cX11_doesNext 4 = .ok (.istore_n 1, 1) := by decide +kernel
theorem dX11_doesNext_5 : decode cX11_doesNext 5 = .ok (.aload_n 0, 1) := by decide +kernel
theorem dX11_doesNext_6 : decode cX11_doesNext 6 = .ok (.invokevirtual 166, 3) := by decide +kernel
theorem dX11_doesNext_9 : decode cX11_doesNext 9 = .ok (.istore_n 2, 1) := by decide +kernel
theorem dX11_doesNext_10 : decode cX11_doesNext 10 = .ok (.iload_n 2, 1) := by decide +kernel
theorem dX11_doesNext_11 : decode cX11_doesNext 11 = .ok (.bipush 61, 2) := by decide +kernel
theorem dX11_doesNext_13 : decode cX11_doesNext 13 = .ok (.if_icmp .eq 15, 3) := by decide +kernel
theorem dX11_doesNext_16 : decode cX11_doesNext 16 = .ok (.iload_n 2, 1) := by decide +kernel
theorem dX11_doesNext_17 : decode cX11_doesNext 17 = .ok (.bipush 45, 2) := by decide +kernel
theorem dX11_doesNext_19 : decode cX11_doesNext 19 = .ok (.if_icmp .eq 9, 3) := by decide +kernel
theorem dX11_doesNext_22 : decode cX11_doesNext 22 = .ok (.iload_n 2, 1) := by decide +kernel
theorem dX11_doesNext_23 : decode cX11_doesNext 23 = .ok (.bipush 43, 2) := by decide +kernel
theorem dX11_doesNext_25 : decode cX11_doesNext 25 = .ok (.if_icmp .ne 7, 3) := by decide +kernel
theorem dX11_doesNext_28 : decode cX11_doesNext 28 = .ok (.iconst 1, 1) := by decide +kernel
theorem dX11_doesNext_29 : decode cX11_doesNext 29 = .ok (.goto 4, 3) := by decide +kernel
theorem dX11_doesNext_32 : decode cX11_doesNext 32 = .ok (.iconst 0, 1) := by decide +kernel
theorem dX11_doesNext_33 : decode cX11_doesNext 33 = .ok (.istore_n 3, 1) := by decide +kernel
theorem dX11_doesNext_34 : decode cX11_doesNext 34 = .ok (.aload_n 0, 1) := by decide +kernel
theorem dX11_doesNext_35 : decode cX11_doesNext 35 = .ok (.dup, 1) := by decide +kernel
theorem dX11_doesNext_36 : decode cX11_doesNext 36 = .ok (.getfield 161, 3) := by decide +kernel
theorem dX11_doesNext_39 : decode cX11_doesNext 39 = .ok (.iload_n 3, 1) := by decide +kernel
theorem dX11_doesNext_40 : decode cX11_doesNext 40 = .ok (.ifCond .eq 7, 3) := by decide +kernel
theorem dX11_doesNext_43 : decode cX11_doesNext 43 = .ok (.iconst 1, 1) := by decide +kernel
theorem dX11_doesNext_44 : decode cX11_doesNext 44 = .ok (.goto 4, 3) := by decide +kernel
theorem dX11_doesNext_47 : decode cX11_doesNext 47 = .ok (.iconst 0, 1) := by decide +kernel
theorem dX11_doesNext_48 : decode cX11_doesNext 48 = .ok (.iadd, 1) := by decide +kernel
theorem dX11_doesNext_49 : decode cX11_doesNext 49 = .ok (.putfield 161, 3) := by decide +kernel
theorem dX11_doesNext_52 : decode cX11_doesNext 52 = .ok (.aload_n 0, 1) := by decide +kernel
theorem dX11_doesNext_53 : decode cX11_doesNext 53 = .ok (.getfield 161, 3) := by decide +kernel
theorem dX11_doesNext_56 : decode cX11_doesNext 56 = .ok (.istore 4, 2) := by decide +kernel
theorem dX11_doesNext_58 : decode cX11_doesNext 58 = .ok (.iload_n 3, 1) := by decide +kernel
theorem dX11_doesNext_59 : decode cX11_doesNext 59 = .ok (.ifCond .eq 30, 3) := by decide +kernel
theorem dX11_doesNext_62 : decode cX11_doesNext 62 = .ok (.iload_n 2, 1) := by decide +kernel
theorem dX11_doesNext_63 : decode cX11_doesNext 63 = .ok (.bipush 43, 2) := by decide +kernel
theorem dX11_doesNext_65 : decode cX11_doesNext 65 = .ok (.if_icmp .ne 13, 3) := by decide +kernel
theorem dX11_doesNext_68 : decode cX11_doesNext 68 = .ok (.aload_n 0, 1) := by decide +kernel
theorem dX11_doesNext_69 : decode cX11_doesNext 69 = .ok (.invokevirtual 169, 3) := by decide +kernel
theorem dX11_doesNext_72 : decode cX11_doesNext 72 = .ok (.ifCond .eq 17, 3) := by decide +kernel
theorem dX11_doesNext_75 : decode cX11_doesNext 75 = .ok (.goto 10, 3) := by decide +kernel
theorem dX11_doesNext_78 : decode cX11_doesNext 78 = .ok (.aload_n 0, 1) := by decide +kernel
theorem dX11_doesNext_79 : decode cX11_doesNext 79 = .ok (.invokevirtual 172, 3) := by decide +kernel
theorem dX11_doesNext_82 : decode cX11_doesNext 82 = .ok (.ifCond .eq 7, 3) := by decide +kernel
theorem dX11_doesNext_85 : decode cX11_doesNext 85 = .ok (.iconst 1, 1) := by decide +kernel
theorem dX11_doesNext_86 : decode cX11_doesNext 86 = .ok (.goto 4, 3) := by decide +kernel
theorem dX11_doesNext_89 : decode cX11_doesNext 89 = .ok (.iconst 0, 1) := by decide +kernel
theorem dX11_doesNext_90 : decode cX11_doesNext 90 = .ok (.istore_n 3, 1) := by decide +kernel
theorem dX11_doesNext_91 : decode cX11_doesNext 91 = .ok (.iload_n 3, 1) := by decide +kernel
theorem dX11_doesNext_92 : decode cX11_doesNext 92 = .ok (.ifCond .eq 12, 3) := by decide +kernel
theorem dX11_doesNext_95 : decode cX11_doesNext 95 = .ok (.aload_n 0, 1) := by decide +kernel
theorem dX11_doesNext_96 : decode cX11_doesNext 96 = .ok (.invokevirtual 166, 3) := by decide +kernel
theorem dX11_doesNext_99 : decode cX11_doesNext 99 = .ok (.bipush 59, 2) := by decide +kernel
theorem dX11_doesNext_101 : decode cX11_doesNext 101 = .ok (.if_icmp .eq 15, 3) := by decide +kernel
theorem dX11_doesNext_104 : decode cX11_doesNext 104 = .ok (.aload_n 0, 1) := by decide +kernel
theorem dX11_doesNext_105 : decode cX11_doesNext 105 = .ok (.aload_n 0, 1) := by decide +kernel
theorem dX11_doesNext_106 : decode cX11_doesNext 106 = .ok (.getfield 161, 3) := by decide +kernel
theorem dX11_doesNext_109 : decode cX11_doesNext 109 = .ok (.iload_n 1, 1) := by decide +kernel
theorem dX11_doesNext_110 : decode cX11_doesNext 110 = .ok (.isub, 1) := by decide +kernel
theorem dX11_doesNext_111 : decode cX11_doesNext 111 = .ok (.putfield 175, 3) := by decide +kernel
theorem dX11_doesNext_114 : decode cX11_doesNext 114 = .ok (.iconst 1, 1) := by decide +kernel
theorem dX11_doesNext_115 : decode cX11_doesNext 115 = .ok (.ireturn, 1) := by decide +kernel
theorem dX11_doesNext_116 : decode cX11_doesNext 116 = .ok (.aload_n 0, 1) := by decide +kernel
theorem dX11_doesNext_117 : decode cX11_doesNext 117 = .ok (.dup, 1) := by decide +kernel
theorem dX11_doesNext_118 : decode cX11_doesNext 118 = .ok (.getfield 161, 3) := by decide +kernel
theorem dX11_doesNext_121 : decode cX11_doesNext 121 = .ok (.iconst 1, 1) := by decide +kernel
theorem dX11_doesNext_122 : decode cX11_doesNext 122 = .ok (.iadd, 1) := by decide +kernel
theorem dX11_doesNext_123 : decode cX11_doesNext 123 = .ok (.putfield 161, 3) := by decide +kernel
theorem dX11_doesNext_126 : decode cX11_doesNext 126 = .ok (.aload_n 0, 1) := by decide +kernel
theorem dX11_doesNext_127 : decode cX11_doesNext 127 = .ok (.ldc 70, 2) := by decide +kernel
theorem dX11_doesNext_129 : decode cX11_doesNext 129 = .ok (.putfield 175, 3) := by decide +kernel
theorem dX11_doesNext_132 : decode cX11_doesNext 132 = .ok (.iload_n 2, 1) := by decide +kernel
theorem dX11_doesNext_133 : decode cX11_doesNext 133 = .ok (.bipush 43, 2) := by decide +kernel
theorem dX11_doesNext_135 : decode cX11_doesNext 135 = .ok (.if_icmp .eq 23, 3) := by decide +kernel
theorem dX11_doesNext_138 : decode cX11_doesNext 138 = .ok (.aload_n 0, 1) := by decide +kernel
theorem dX11_doesNext_139 : decode cX11_doesNext 139 = .ok (.getfield 164, 3) := by decide +kernel
theorem dX11_doesNext_142 : decode cX11_doesNext 142 = .ok (.aload_n 0, 1) := by decide +kernel
theorem dX11_doesNext_143 : decode cX11_doesNext 143 = .ok (.getfield 7, 3) := by decide +kernel
theorem dX11_doesNext_146 : decode cX11_doesNext 146 = .ok (.iconst 0, 1) := by decide +kernel
theorem dX11_doesNext_147 : decode cX11_doesNext 147 = .ok (.iaload, 1) := by decide +kernel
theorem dX11_doesNext_148 : decode cX11_doesNext 148 = .ok (.aload_n 0, 1) := by decide +kernel
theorem dX11_doesNext_149 : decode cX11_doesNext 149 = .ok (.getfield 178, 3) := by decide +kernel
theorem dX11_doesNext_152 : decode cX11_doesNext 152 = .ok (.isub, 1) := by decide +kernel
theorem dX11_doesNext_153 : decode cX11_doesNext 153 = .ok (.if_icmp .le 5, 3) := by decide +kernel
theorem dX11_doesNext_156 : decode cX11_doesNext 156 = .ok (.iconst 2, 1) := by decide +kernel
theorem dX11_doesNext_157 : decode cX11_doesNext 157 = .ok (.ireturn, 1) := by decide +kernel
theorem dX11_doesNext_158 : decode cX11_doesNext 158 = .ok (.iload_n 2, 1) := by decide +kernel
theorem dX11_doesNext_159 : decode cX11_doesNext 159 = .ok (.bipush 45, 2) := by decide +kernel
theorem dX11_doesNext_161 : decode cX11_doesNext 161 = .ok (.if_icmp .eq 19, 3) := by decide +kernel
theorem dX11_doesNext_164 : decode cX11_doesNext 164 = .ok (.aload_n 0, 1) := by decide +kernel
theorem dX11_doesNext_165 : decode cX11_doesNext 165 = .ok (.getfield 181, 3) := by decide +kernel
theorem dX11_doesNext_168 : decode cX11_doesNext 168 = .ok (.aload_n 0, 1) := by decide +kernel
theorem dX11_doesNext_169 : decode cX11_doesNext 169 = .ok (.getfield 164, 3) := by decide +kernel
theorem dX11_doesNext_172 : decode cX11_doesNext 172 = .ok (.iadd, 1) := by decide +kernel
theorem dX11_doesNext_173 : decode cX11_doesNext 173 = .ok (.bipush 28, 2) := by decide +kernel
theorem dX11_doesNext_175 : decode cX11_doesNext 175 = .ok (.if_icmp .le 5, 3) := by decide +kernel
theorem dX11_doesNext_178 : decode cX11_doesNext 178 = .ok (.iconst 3, 1) := by decide +kernel
theorem dX11_doesNext_179 : decode cX11_doesNext 179 = .ok (.ireturn, 1) := by decide +kernel
theorem dX11_doesNext_180 : decode cX11_doesNext 180 = .ok (.iconst 0, 1) := by decide +kernel
theorem dX11_doesNext_181 : decode cX11_doesNext 181 = .ok (.istore 5, 2) := by decide +kernel
theorem dX11_doesNext_183 : decode cX11_doesNext 183 = .ok (.iload 5, 2) := by decide +kernel
theorem dX11_doesNext_185 : decode cX11_doesNext 185 = .ok (.aload_n 0, 1) := by decide +kernel
theorem dX11_doesNext_186 : decode cX11_doesNext 186 = .ok (.getfield 164, 3) := by decide +kernel
theorem dX11_doesNext_189 : decode cX11_doesNext 189 = .ok (.if_icmp .ge 68, 3) := by decide +kernel
theorem dX11_doesNext_192 : decode cX11_doesNext 192 = .ok (.iload_n 2, 1) := by decide +kernel
theorem dX11_doesNext_193 : decode cX11_doesNext 193 = .ok (.bipush 45, 2) := by decide +kernel
theorem dX11_doesNext_195 : decode cX11_doesNext 195 = .ok (.if_icmp .eq 62, 3) := by decide +kernel
theorem dX11_doesNext_198 : decode cX11_doesNext 198 = .ok (.aload_n 0, 1) := by decide +kernel
theorem dX11_doesNext_199 : decode cX11_doesNext 199 = .ok (.getfield 45, 3) := by decide +kernel
theorem dX11_doesNext_202 : decode cX11_doesNext 202 = .ok (.aload_n 0, 1) := by decide +kernel
theorem dX11_doesNext_203 : decode cX11_doesNext 203 = .ok (.getfield 181, 3) := by decide +kernel
theorem dX11_doesNext_206 : decode cX11_doesNext 206 = .ok (.iload_n 2, 1) := by decide +kernel
theorem dX11_doesNext_207 : decode cX11_doesNext 207 = .ok (.bipush 43, 2) := by decide +kernel
theorem dX11_doesNext_209 : decode cX11_doesNext 209 = .ok (.if_icmp .ne 19, 3) := by decide +kernel
theorem dX11_doesNext_212 : decode cX11_doesNext 212 = .ok (.aload_n 0, 1) := by decide +kernel
theorem dX11_doesNext_213 : decode cX11_doesNext 213 = .ok (.getfield 19, 3) := by decide +kernel
theorem dX11_doesNext_216 : decode cX11_doesNext 216 = .ok (.iload 4, 2) := by decide +kernel
theorem dX11_doesNext_218 : decode cX11_doesNext 218 = .ok (.iload 5, 2) := by decide +kernel
theorem dX11_doesNext_220 : decode cX11_doesNext 220 = .ok (.iadd, 1) := by decide +kernel
theorem dX11_doesNext_221 : decode cX11_doesNext 221 = .ok (.caload, 1) := by decide +kernel
theorem dX11_doesNext_222 : decode cX11_doesNext 222 = .ok (.bipush 97, 2) := by decide +kernel
theorem dX11_doesNext_224 : decode cX11_doesNext 224 = .ok (.isub, 1) := by decide +kernel
theorem dX11_doesNext_225 : decode cX11_doesNext 225 = .ok (.goto 15, 3) := by decide +kernel
theorem dX11_doesNext_228 : decode cX11_doesNext 228 = .ok (.aload_n 0, 1) := by decide +kernel
theorem dX11_doesNext_229 : decode cX11_doesNext 229 = .ok (.iconst 0, 1) := by decide +kernel
theorem dX11_doesNext_230 : decode cX11_doesNext 230 = .ok (.aload_n 0, 1) := by decide +kernel
theorem dX11_doesNext_231 : decode cX11_doesNext 231 = .ok (.getfield 178, 3) := by decide +kernel
theorem dX11_doesNext_234 : decode cX11_doesNext 234 = .ok (.iload 5, 2) := by decide +kernel
theorem dX11_doesNext_236 : decode cX11_doesNext 236 = .ok (.iadd, 1) := by decide +kernel
theorem dX11_doesNext_237 : decode cX11_doesNext 237 = .ok (.invokevirtual 52, 3) := by decide +kernel
theorem dX11_doesNext_240 : decode cX11_doesNext 240 = .ok (.iastore, 1) := by decide +kernel
theorem dX11_doesNext_241 : decode cX11_doesNext 241 = .ok (.aload_n 0, 1) := by decide +kernel
theorem dX11_doesNext_242 : decode cX11_doesNext 242 = .ok (.dup, 1) := by decide +kernel
theorem dX11_doesNext_243 : decode cX11_doesNext 243 = .ok (.getfield 181, 3) := by decide +kernel
theorem dX11_doesNext_246 : decode cX11_doesNext 246 = .ok (.iconst 1, 1) := by decide +kernel
theorem dX11_doesNext_247 : decode cX11_doesNext 247 = .ok (.iadd, 1) := by decide +kernel
theorem dX11_doesNext_248 : decode cX11_doesNext 248 = .ok (.putfield 181, 3) := by decide +kernel
theorem dX11_doesNext_251 : decode cX11_doesNext 251 = .ok (.iinc 5 1, 3) := by decide +kernel
theorem dX11_doesNext_254 : decode cX11_doesNext 254 = .ok (.goto (-71), 3) := by decide +kernel
theorem dX11_doesNext_257 : decode cX11_doesNext 257 = .ok (.aload_n 0, 1) := by decide +kernel
theorem dX11_doesNext_258 : decode cX11_doesNext 258 = .ok (.dup, 1) := by decide +kernel
theorem dX11_doesNext_259 : decode cX11_doesNext 259 = .ok (.getfield 178, 3) := by decide +kernel
theorem dX11_doesNext_262 : decode cX11_doesNext 262 = .ok (.iload_n 2, 1) := by decide +kernel
theorem dX11_doesNext_263 : decode cX11_doesNext 263 = .ok (.bipush 43, 2) := by decide +kernel
theorem dX11_doesNext_265 : decode cX11_doesNext 265 = .ok (.if_icmp .ne 7, 3) := by decide +kernel
theorem dX11_doesNext_268 : decode cX11_doesNext 268 = .ok (.iconst 0, 1) := by decide +kernel
theorem dX11_doesNext_269 : decode cX11_doesNext 269 = .ok (.goto 7, 3) := by decide +kernel
theorem dX11_doesNext_272 : decode cX11_doesNext 272 = .ok (.aload_n 0, 1) := by decide +kernel
theorem dX11_doesNext_273 : decode cX11_doesNext 273 = .ok (.getfield 164, 3) := by decide +kernel
theorem dX11_doesNext_276 : decode cX11_doesNext 276 = .ok (.iadd, 1) := by decide +kernel
theorem dX11_doesNext_277 : decode cX11_doesNext 277 = .ok (.putfield 178, 3) := by decide +kernel
theorem dX11_doesNext_280 : decode cX11_doesNext 280 = .ok (.iconst 0, 1) := by decide +kernel
theorem dX11_doesNext_281 : decode cX11_doesNext 281 = .ok (.ireturn, 1) := by decide +kernel
theorem dX11_faulty_0 : decode cX11_faulty 0 = .ok (.aload_n 0, 1) := by decide +kernel
theorem dX11_faulty_1 : decode cX11_faulty 1 = .ok (.iconst 0, 1) := by decide +kernel
theorem dX11_faulty_2 : decode cX11_faulty 2 = .ok (.putfield 161, 3) := by decide +kernel
theorem dX11_faulty_5 : decode cX11_faulty 5 = .ok (.aload_n 0, 1) := by decide +kernel
theorem dX11_faulty_6 : decode cX11_faulty 6 = .ok (.iconst 0, 1) := by decide +kernel
theorem dX11_faulty_7 : decode cX11_faulty 7 = .ok (.putfield 181, 3) := by decide +kernel
theorem dX11_faulty_10 : decode cX11_faulty 10 = .ok (.aload_n 0, 1) := by decide +kernel
theorem dX11_faulty_11 : decode cX11_faulty 11 = .ok (.iconst 0, 1) := by decide +kernel
theorem dX11_faulty_12 : decode cX11_faulty 12 = .ok (.putfield 178, 3) := by decide +kernel
theorem dX11_faulty_15 : decode cX11_faulty 15 = .ok (.aload_n 0, 1) := by decide +kernel
theorem dX11_faulty_16 : decode cX11_faulty 16 = .ok (.getfield 161, 3) := by decide +kernel
theorem dX11_faulty_19 : decode cX11_faulty 19 = .ok (.aload_n 0, 1) := by decide +kernel
theorem dX11_faulty_20 : decode cX11_faulty 20 = .ok (.getfield 158, 3) := by decide +kernel
theorem dX11_faulty_23 : decode cX11_faulty 23 = .ok (.if_icmp .ge 28, 3) := by decide +kernel
theorem dX11_faulty_26 : decode cX11_faulty 26 = .ok (.aload_n 0, 1) := by decide +kernel
theorem dX11_faulty_27 : decode cX11_faulty 27 = .ok (.getfield 161, 3) := by decide +kernel
theorem dX11_faulty_30 : decode cX11_faulty 30 = .ok (.istore_n 1, 1) := by decide +kernel
theorem dX11_faulty_31 : decode cX11_faulty 31 = .ok (.aload_n 0, 1) := by decide +kernel
theorem dX11_faulty_32 : decode cX11_faulty 32 = .ok (.aload_n 0, 1) := by decide +kernel
theorem dX11_faulty_33 : decode cX11_faulty 33 = .ok (.invokevirtual 184, 3) := by decide +kernel
theorem dX11_faulty_36 : decode cX11_faulty 36 = .ok (.putfield 187, 3) := by decide +kernel
theorem dX11_faulty_39 : decode cX11_faulty 39 = .ok (.aload_n 0, 1) := by decide +kernel
theorem dX11_faulty_40 : decode cX11_faulty 40 = .ok (.getfield 187, 3) := by decide +kernel
theorem dX11_faulty_43 : decode cX11_faulty 43 = .ok (.ifCond .le 5, 3) := by decide +kernel
theorem dX11_faulty_46 : decode cX11_faulty 46 = .ok (.iload_n 1, 1) := by decide +kernel
theorem dX11_faulty_47 : decode cX11_faulty 47 = .ok (.ireturn, 1) := by decide +kernel
theorem dX11_faulty_48 : decode cX11_faulty 48 = .ok (.goto (-33), 3) := by decide +kernel
theorem dX11_faulty_51 : decode cX11_faulty 51 = .ok (.aload_n 0, 1) := by decide +kernel
theorem dX11_faulty_52 : decode cX11_faulty 52 = .ok (.getfield 178, 3) := by decide +kernel
theorem dX11_faulty_55 : decode cX11_faulty 55 = .ok (.aload_n 0, 1) := by decide +kernel
theorem dX11_faulty_56 : decode cX11_faulty 56 = .ok (.getfield 7, 3) := by decide +kernel
theorem dX11_faulty_59 : decode cX11_faulty 59 = .ok (.iconst 0, 1) := by decide +kernel
theorem dX11_faulty_60 : decode cX11_faulty 60 = .ok (.iaload, 1) := by decide +kernel
theorem dX11_faulty_61 : decode cX11_faulty 61 = .ok (.if_icmp .ge 28, 3) := by decide +kernel
theorem dX11_faulty_64 : decode cX11_faulty 64 = .ok (.aload_n 0, 1) := by decide +kernel
theorem dX11_faulty_65 : decode cX11_faulty 65 = .ok (.iconst 4, 1) := by decide +kernel
theorem dX11_faulty_66 : decode cX11_faulty 66 = .ok (.putfield 187, 3) := by decide +kernel
theorem dX11_faulty_69 : decode cX11_faulty 69 = .ok (.aload_n 0, 1) := by decide +kernel
theorem dX11_faulty_70 : decode cX11_faulty 70 = .ok (.aload_n 0, 1) := by decide +kernel
theorem dX11_faulty_71 : decode cX11_faulty 71 = .ok (.getfield 7, 3) := by decide +kernel
theorem dX11_faulty_74 : decode cX11_faulty 74 = .ok (.iconst 0, 1) := by decide +kernel
theorem dX11_faulty_75 : decode cX11_faulty 75 = .ok (.iaload, 1) := by decide +kernel
theorem dX11_faulty_76 : decode cX11_faulty 76 = .ok (.aload_n 0, 1) := by decide +kernel
theorem dX11_faulty_77 : decode cX11_faulty 77 = .ok (.getfield 178, 3) := by decide +kernel
theorem dX11_faulty_80 : decode cX11_faulty 80 = .ok (.isub, 1) := by decide +kernel
theorem dX11_faulty_81 : decode cX11_faulty 81 = .ok (.putfield 175, 3) := by decide +kernel
theorem dX11_faulty_84 : decode cX11_faulty 84 = .ok (.aload_n 0, 1) := by decide +kernel
theorem dX11_faulty_85 : decode cX11_faulty 85 = .ok (.getfield 158, 3) := by decide +kernel
theorem dX11_faulty_88 : decode cX11_faulty 88 = .ok (.ireturn, 1) := by decide +kernel
theorem dX11_faulty_89 : decode cX11_faulty 89 = .ok (.ldc 70, 2) := by decide +kernel
theorem dX11_faulty_91 : decode cX11_faulty 91 = .ok (.ireturn, 1) := by decide +kernel
theorem dX11_fault_0 : decode cX11_fault 0 = .ok (.iload_n 1, 1) := by decide +kernel
theorem dX11_fault_1 : decode cX11_fault 1 = .ok (.iconst 0, 1) := by decide +kernel
theorem dX11_fault_2 : decode cX11_fault 2 = .ok (.iconst 2, 1) := by decide +kernel
theorem dX11_fault_3 : decode cX11_fault 3 = .ok (.invokestatic 48, 3) := by decide +kernel
theorem dX11_fault_6 : decode cX11_fault 6 = .ok (.ifCond .ne 6, 3) := by decide +kernel
theorem dX11_fault_9 : decode cX11_fault 9 = .ok (.ldc 56, 2) := by decide +kernel
theorem dX11_fault_11 : decode cX11_fault 11 = .ok (.ireturn, 1) := by decide +kernel
theorem dX11_fault_12 : decode cX11_fault 12 = .ok (.aload_n 0, 1) := by decide +kernel
theorem dX11_fault_13 : decode cX11_fault 13 = .ok (.invokevirtual 190, 3) := by decide +kernel
theorem dX11_fault_16 : decode cX11_fault 16 = .ok (.istore_n 2, 1) := by decide +kernel
theorem dX11_fault_17 : decode cX11_fault 17 = .ok (.iload_n 2, 1) := by decide +kernel
theorem dX11_fault_18 : decode cX11_fault 18 = .ok (.ldc 70, 2) := by decide +kernel
theorem dX11_fault_20 : decode cX11_fault 20 = .ok (.if_icmp .eq 7, 3) := by decide +kernel
theorem dX11_fault_23 : decode cX11_fault 23 = .ok (.iload_n 1, 1) := by decide +kernel
theorem dX11_fault_24 : decode cX11_fault 24 = .ok (.ifCond .ne 7, 3) := by decide +kernel
theorem dX11_fault_27 : decode cX11_fault 27 = .ok (.iload_n 2, 1) := by decide +kernel
theorem dX11_fault_28 : decode cX11_fault 28 = .ok (.goto 19, 3) := by decide +kernel
theorem dX11_fault_31 : decode cX11_fault 31 = .ok (.iload_n 1, 1) := by decide +kernel
theorem dX11_fault_32 : decode cX11_fault 32 = .ok (.iconst 1, 1) := by decide +kernel
theorem dX11_fault_33 : decode cX11_fault 33 = .ok (.if_icmp .ne 10, 3) := by decide +kernel
theorem dX11_fault_36 : decode cX11_fault 36 = .ok (.aload_n 0, 1) := by decide +kernel
theorem dX11_fault_37 : decode cX11_fault 37 = .ok (.getfield 187, 3) := by decide +kernel
theorem dX11_fault_40 : decode cX11_fault 40 = .ok (.goto 7, 3) := by decide +kernel
theorem dX11_fault_43 : decode cX11_fault 43 = .ok (.aload_n 0, 1) := by decide +kernel
theorem dX11_fault_44 : decode cX11_fault 44 = .ok (.getfield 175, 3) := by decide +kernel
theorem dX11_fault_47 : decode cX11_fault 47 = .ok (.ireturn, 1) := by decide +kernel
theorem dX11_apply_0 : decode cX11_apply 0 = .ok (.aload_n 0, 1) := by decide +kernel
theorem dX11_apply_1 : decode cX11_apply 1 = .ok (.invokevirtual 190, 3) := by decide +kernel
theorem dX11_apply_4 : decode cX11_apply 4 = .ok (.ldc 70, 2) := by decide +kernel
theorem dX11_apply_6 : decode cX11_apply 6 = .ok (.if_icmp .eq 6, 3) := by decide +kernel
theorem dX11_apply_9 : decode cX11_apply 9 = .ok (.ldc 69, 2) := by decide +kernel
theorem dX11_apply_11 : decode cX11_apply 11 = .ok (.ireturn, 1) := by decide +kernel
theorem dX11_apply_12 : decode cX11_apply 12 = .ok (.aload_n 0, 1) := by decide +kernel
theorem dX11_apply_13 : decode cX11_apply 13 = .ok (.invokevirtual 62, 3) := by decide +kernel
theorem dX11_apply_16 : decode cX11_apply 16 = .ok (.iconst 0, 1) := by decide +kernel
theorem dX11_apply_17 : decode cX11_apply 17 = .ok (.istore_n 1, 1) := by decide +kernel
theorem dX11_apply_18 : decode cX11_apply 18 = .ok (.iload_n 1, 1) := by decide +kernel
theorem dX11_apply_19 : decode cX11_apply 19 = .ok (.aload_n 0, 1) := by decide +kernel
theorem dX11_apply_20 : decode cX11_apply 20 = .ok (.getfield 181, 3) := by decide +kernel
theorem dX11_apply_23 : decode cX11_apply 23 = .ok (.if_icmp .ge 24, 3) := by decide +kernel
theorem dX11_apply_26 : decode cX11_apply 26 = .ok (.aload_n 0, 1) := by decide +kernel
theorem dX11_apply_27 : decode cX11_apply 27 = .ok (.getfield 7, 3) := by decide +kernel
theorem dX11_apply_30 : decode cX11_apply 30 = .ok (.bipush 33, 2) := by decide +kernel
theorem dX11_apply_32 : decode cX11_apply 32 = .ok (.iload_n 1, 1) := by decide +kernel
theorem dX11_apply_33 : decode cX11_apply 33 = .ok (.iadd, 1) := by decide +kernel
theorem dX11_apply_34 : decode cX11_apply 34 = .ok (.aload_n 0, 1) := by decide +kernel
theorem dX11_apply_35 : decode cX11_apply 35 = .ok (.getfield 45, 3) := by decide +kernel
theorem dX11_apply_38 : decode cX11_apply 38 = .ok (.iload_n 1, 1) := by decide +kernel
theorem dX11_apply_39 : decode cX11_apply 39 = .ok (.iaload, 1) := by decide +kernel
theorem dX11_apply_40 : decode cX11_apply 40 = .ok (.iastore, 1) := by decide +kernel
theorem dX11_apply_41 : decode cX11_apply 41 = .ok (.iinc 1 1, 3) := by decide +kernel
theorem dX11_apply_44 : decode cX11_apply 44 = .ok (.goto (-26), 3) := by decide +kernel
theorem dX11_apply_47 : decode cX11_apply 47 = .ok (.aload_n 0, 1) := by decide +kernel
theorem dX11_apply_48 : decode cX11_apply 48 = .ok (.getfield 7, 3) := by decide +kernel
theorem dX11_apply_51 : decode cX11_apply 51 = .ok (.iconst 1, 1) := by decide +kernel
theorem dX11_apply_52 : decode cX11_apply 52 = .ok (.aload_n 0, 1) := by decide +kernel
theorem dX11_apply_53 : decode cX11_apply 53 = .ok (.getfield 181, 3) := by decide +kernel
theorem dX11_apply_56 : decode cX11_apply 56 = .ok (.iastore, 1) := by decide +kernel
theorem dX11_apply_57 : decode cX11_apply 57 = .ok (.aload_n 0, 1) := by decide +kernel
theorem dX11_apply_58 : decode cX11_apply 58 = .ok (.aload_n 0, 1) := by decide +kernel
theorem dX11_apply_59 : decode cX11_apply 59 = .ok (.getfield 181, 3) := by decide +kernel
theorem dX11_apply_62 : decode cX11_apply 62 = .ok (.invokevirtual 65, 3) := by decide +kernel
theorem dX11_apply_65 : decode cX11_apply 65 = .ok (.ireturn, 1) := by decide +kernel
theorem dL_law_0 : decode cL_law 0 = .ok (.new 7, 3) := by decide +kernel
theorem dL_law_3 : decode cL_law 3 = .ok (.dup, 1) := by decide +kernel
theorem dL_law_4 : decode cL_law 4 = .ok (.invokespecial 9, 3) := by decide +kernel
theorem dL_law_7 : decode cL_law 7 = .ok (.astore_n 1, 1) := by decide +kernel
theorem dL_law_8 : decode cL_law 8 = .ok (.new 10, 3) := by decide +kernel
theorem dL_law_11 : decode cL_law 11 = .ok (.dup, 1) := by decide +kernel
theorem dL_law_12 : decode cL_law 12 = .ok (.invokespecial 12, 3) := by decide +kernel
theorem dL_law_15 : decode cL_law 15 = .ok (.astore_n 2, 1) := by decide +kernel
theorem dL_law_16 : decode cL_law 16 = .ok (.iconst 0, 1) := by decide +kernel
theorem dL_law_17 : decode cL_law 17 = .ok (.istore_n 3, 1) := by decide +kernel
theorem dL_law_18 : decode cL_law 18 = .ok (.iload_n 3, 1) := by decide +kernel
theorem dL_law_19 : decode cL_law 19 = .ok (.aload_n 0, 1) := by decide +kernel
theorem dL_law_20 : decode cL_law 20 = .ok (.arraylength, 1) := by decide +kernel
theorem dL_law_21 : decode cL_law 21 = .ok (.iconst 4, 1) := by decide +kernel
theorem dL_law_22 : decode cL_law 22 = .ok (.isub, 1) := by decide +kernel
theorem dL_law_23 : decode cL_law 23 = .ok (.if_icmp .gt 659, 3) := by decide +kernel
theorem dL_law_26 : decode cL_law 26 = .ok (.aload_n 0, 1) := by decide +kernel
theorem dL_law_27 : decode cL_law 27 = .ok (.iload_n 3, 1) := by decide +kernel
theorem dL_law_28 : decode cL_law 28 = .ok (.iaload, 1) := by decide +kernel
theorem dL_law_29 : decode cL_law 29 = .ok (.bipush 31, 2) := by decide +kernel
theorem dL_law_31 : decode cL_law 31 = .ok (.iand, 1) := by decide +kernel
theorem dL_law_32 : decode cL_law 32 = .ok (.tableswitch 644 0 20 #[100, 133, 176, 219, 232, 265, 298, 331, 364, 377, 410, 433, 447, 480, 513, 536, 559, 572, 595, 608, 631], 100) := by decide +kernel
theorem dL_law_132 : decode cL_law 132 = .ok (.aload_n 1, 1) := by decide +kernel
theorem dL_law_133 : decode cL_law 133 = .ok (.aload_n 0, 1) := by decide +kernel
theorem dL_law_134 : decode cL_law 134 = .ok (.iload_n 3, 1) := by decide +kernel
theorem dL_law_135 : decode cL_law 135 = .ok (.iconst 1, 1) := by decide +kernel
theorem dL_law_136 : decode cL_law 136 = .ok (.iadd, 1) := by decide +kernel
theorem dL_law_137 : decode cL_law 137 = .ok (.iaload, 1) := by decide +kernel
theorem dL_law_138 : decode cL_law 138 = .ok (.aload_n 0, 1) := by decide +kernel
theorem dL_law_139 : decode cL_law 139 = .ok (.iload_n 3, 1) := by decide +kernel
theorem dL_law_140 : decode cL_law 140 = .ok (.iconst 2, 1) := by decide +kernel
theorem dL_law_141 : decode cL_law 141 = .ok (.iadd, 1) := by decide +kernel
theorem dL_law_142 : decode cL_law 142 = .ok (.iaload, 1) := by decide +kernel
theorem dL_law_143 : decode cL_law 143 = .ok (.invokevirtual 13, 3) := by decide +kernel
theorem dL_law_146 : decode cL_law 146 = .ok (.aload_n 2, 1) := by decide +kernel
theorem dL_law_147 : decode cL_law 147 = .ok (.aload_n 0, 1) := by decide +kernel
theorem dL_law_148 : decode cL_law 148 = .ok (.iload_n 3, 1) := by decide +kernel
theorem dL_law_149 : decode cL_law 149 = .ok (.iconst 1, 1) := by decide +kernel
theorem dL_law_150 : decode cL_law 150 = .ok (.iadd, 1) := by decide +kernel
theorem dL_law_151 : decode cL_law 151 = .ok (.iaload, 1) := by decide +kernel
theorem dL_law_152 : decode cL_law 152 = .ok (.aload_n 0, 1) := by decide +kernel
theorem dL_law_153 : decode cL_law 153 = .ok (.iload_n 3, 1) := by decide +kernel
theorem dL_law_154 : decode cL_law 154 = .ok (.iconst 2, 1) := by decide +kernel
theorem dL_law_155 : decode cL_law 155 = .ok (.iadd, 1) := by decide +kernel
theorem dL_law_156 : decode cL_law 156 = .ok (.iaload, 1) := by decide +kernel
theorem dL_law_157 : decode cL_law 157 = .ok (.invokevirtual 17, 3) := by decide +kernel
theorem dL_law_160 : decode cL_law 160 = .ok (.if_icmp .eq 516, 3) := by decide +kernel
theorem dL_law_163 : decode cL_law 163 = .ok (.iconst 0, 1) := by decide +kernel
theorem dL_law_164 : decode cL_law 164 = .ok (.ireturn, 1) := by decide +kernel
theorem dL_law_165 : decode cL_law 165 = .ok (.aload_n 1, 1) := by decide +kernel
theorem dL_law_166 : decode cL_law 166 = .ok (.aload_n 0, 1) := by decide +kernel
theorem dL_law_167 : decode cL_law 167 = .ok (.iload_n 3, 1) := by decide +kernel
theorem dL_law_168 : decode cL_law 168 = .ok (.iconst 1, 1) := by decide +kernel
theorem dL_law_169 : decode cL_law 169 = .ok (.iadd, 1) := by decide +kernel
theorem dL_law_170 : decode cL_law 170 = .ok (.iaload, 1) := by decide +kernel
theorem dL_law_171 : decode cL_law 171 = .ok (.aload_n 0, 1) := by decide +kernel
theorem dL_law_172 : decode cL_law 172 = .ok (.iload_n 3, 1) := by decide +kernel
theorem dL_law_173 : decode cL_law 173 = .ok (.iconst 2, 1) := by decide +kernel
theorem dL_law_174 : decode cL_law 174 = .ok (.iadd, 1) := by decide +kernel
theorem dL_law_175 : decode cL_law 175 = .ok (.iaload, 1) := by decide +kernel
theorem dL_law_176 : decode cL_law 176 = .ok (.aload_n 0, 1) := by decide +kernel
theorem dL_law_177 : decode cL_law 177 = .ok (.iload_n 3, 1) := by decide +kernel
theorem dL_law_178 : decode cL_law 178 = .ok (.iconst 3, 1) := by decide +kernel
theorem dL_law_179 : decode cL_law 179 = .ok (.iadd, 1) := by decide +kernel
theorem dL_law_180 : decode cL_law 180 = .ok (.iaload, 1) := by decide +kernel
theorem dL_law_181 : decode cL_law 181 = .ok (.invokevirtual 18, 3) := by decide +kernel
theorem dL_law_184 : decode cL_law 184 = .ok (.aload_n 2, 1) := by decide +kernel
theorem dL_law_185 : decode cL_law 185 = .ok (.aload_n 0, 1) := by decide +kernel
theorem dL_law_186 : decode cL_law 186 = .ok (.iload_n 3, 1) := by decide +kernel
theorem dL_law_187 : decode cL_law 187 = .ok (.iconst 1, 1) := by decide +kernel
theorem dL_law_188 : decode cL_law 188 = .ok (.iadd, 1) := by decide +kernel
theorem dL_law_189 : decode cL_law 189 = .ok (.iaload, 1) := by decide +kernel
theorem dL_law_190 : decode cL_law 190 = .ok (.aload_n 0, 1) := by decide +kernel
theorem dL_law_191 : decode cL_law 191 = .ok (.iload_n 3, 1) := by decide +kernel
theorem dL_law_192 : decode cL_law 192 = .ok (.iconst 2, 1) := by decide +kernel
theorem dL_law_193 : decode cL_law 193 = .ok (.iadd, 1) := by decide +kernel
theorem dL_law_194 : decode cL_law 194 = .ok (.iaload, 1) := by decide +kernel
theorem dL_law_195 : decode cL_law 195 = .ok (.aload_n 0, 1) := by decide +kernel
theorem dL_law_196 : decode cL_law 196 = .ok (.iload_n 3, 1) := by decide +kernel
theorem dL_law_197 : decode cL_law 197 = .ok (.iconst 3, 1) := by decide +kernel
theorem dL_law_198 : decode cL_law 198 = .ok (.iadd, 1) := by decide +kernel
theorem dL_law_199 : decode cL_law 199 = .ok (.iaload, 1) := by decide +kernel
theorem dL_law_200 : decode cL_law 200 = .ok (.invokevirtual 22, 3) := by decide +kernel
theorem dL_law_203 : decode cL_law 203 = .ok (.if_icmp .eq 473, 3) := by decide +kernel
theorem dL_law_206 : decode cL_law 206 = .ok (.iconst 0, 1) := by decide +kernel
theorem dL_law_207 : decode cL_law 207 = .ok (.ireturn, 1) := by decide +kernel
theorem dL_law_208 : decode cL_law 208 = .ok (.aload_n 1, 1) := by decide +kernel
theorem dL_law_209 : decode cL_law 209 = .ok (.aload_n 0, 1) := by decide +kernel
theorem dL_law_210 : decode cL_law 210 = .ok (.iload_n 3, 1) := by decide +kernel
theorem dL_law_211 : decode cL_law 211 = .ok (.iconst 1, 1) := by decide +kernel
theorem dL_law_212 : decode cL_law 212 = .ok (.iadd, 1) := by decide +kernel
theorem dL_law_213 : decode cL_law 213 = .ok (.iaload, 1) := by decide +kernel
theorem dL_law_214 : decode cL_law 214 = .ok (.aload_n 0, 1) := by decide +kernel
theorem dL_law_215 : decode cL_law 215 = .ok (.iload_n 3, 1) := by decide +kernel
theorem dL_law_216 : decode cL_law 216 = .ok (.iconst 2, 1) := by decide +kernel
theorem dL_law_217 : decode cL_law 217 = .ok (.iadd, 1) := by decide +kernel
theorem dL_law_218 : decode cL_law 218 = .ok (.iaload, 1) := by decide +kernel
theorem dL_law_219 : decode cL_law 219 = .ok (.aload_n 0, 1) := by decide +kernel
theorem dL_law_220 : decode cL_law 220 = .ok (.iload_n 3, 1) := by decide +kernel
theorem dL_law_221 : decode cL_law 221 = .ok (.iconst 3, 1) := by decide +kernel
theorem dL_law_222 : decode cL_law 222 = .ok (.iadd, 1) := by decide +kernel
theorem dL_law_223 : decode cL_law 223 = .ok (.iaload, 1) := by decide +kernel
theorem dL_law_224 : decode cL_law 224 = .ok (.invokevirtual 23, 3) := by decide +kernel
theorem dL_law_227 : decode cL_law 227 = .ok (.aload_n 2, 1) := by decide +kernel
theorem dL_law_228 : decode cL_law 228 = .ok (.aload_n 0, 1) := by decide +kernel
theorem dL_law_229 : decode cL_law 229 = .ok (.iload_n 3, 1) := by decide +kernel
theorem dL_law_230 : decode cL_law 230 = .ok (.iconst 1, 1) := by decide +kernel
theorem dL_law_231 : decode cL_law 231 = .ok (.iadd, 1) := by decide +kernel
theorem dL_law_232 : decode cL_law 232 = .ok (.iaload, 1) := by decide +kernel
theorem dL_law_233 : decode cL_law 233 = .ok (.aload_n 0, 1) := by decide +kernel
theorem dL_law_234 : decode cL_law 234 = .ok (.iload_n 3, 1) := by decide +kernel
theorem dL_law_235 : decode cL_law 235 = .ok (.iconst 2, 1) := by decide +kernel
theorem dL_law_236 : decode cL_law 236 = .ok (.iadd, 1) := by decide +kernel
theorem dL_law_237 : decode cL_law 237 = .ok (.iaload, 1) := by decide +kernel
theorem dL_law_238 : decode cL_law 238 = .ok (.aload_n 0, 1) := by decide +kernel
theorem dL_law_239 : decode cL_law 239 = .ok (.iload_n 3, 1) := by decide +kernel
theorem dL_law_240 : decode cL_law 240 = .ok (.iconst 3, 1) := by decide +kernel
theorem dL_law_241 : decode cL_law 241 = .ok (.iadd, 1) := by decide +kernel
theorem dL_law_242 : decode cL_law 242 = .ok (.iaload, 1) := by decide +kernel
theorem dL_law_243 : decode cL_law 243 = .ok (.invokevirtual 26, 3) := by decide +kernel
theorem dL_law_246 : decode cL_law 246 = .ok (.if_icmp .eq 430, 3) := by decide +kernel
theorem dL_law_249 : decode cL_law 249 = .ok (.iconst 0, 1) := by decide +kernel
theorem dL_law_250 : decode cL_law 250 = .ok (.ireturn, 1) := by decide +kernel
theorem dL_law_251 : decode cL_law 251 = .ok (.aload_n 1, 1) := by decide +kernel
theorem dL_law_252 : decode cL_law 252 = .ok (.invokevirtual 27, 3) := by decide +kernel
theorem dL_law_255 : decode cL_law 255 = .ok (.aload_n 2, 1) := by decide +kernel
theorem dL_law_256 : decode cL_law 256 = .ok (.invokevirtual 31, 3) := by decide +kernel
theorem dL_law_259 : decode cL_law 259 = .ok (.if_icmp .eq 417, 3) := by decide +kernel
theorem dL_law_262 : decode cL_law 262 = .ok (.iconst 0, 1) := by decide +kernel
theorem dL_law_263 : decode cL_law 263 = .ok (.ireturn, 1) := by decide +kernel
theorem dL_law_264 : decode cL_law 264 = .ok (.aload_n 1, 1) := by decide +kernel
theorem dL_law_265 : decode cL_law 265 = .ok (.aload_n 0, 1) := by decide +kernel
theorem dL_law_266 : decode cL_law 266 = .ok (.iload_n 3, 1) := by decide +kernel
theorem dL_law_267 : decode cL_law 267 = .ok (.iconst 1, 1) := by decide +kernel
theorem dL_law_268 : decode cL_law 268 = .ok (.iadd, 1) := by decide +kernel
theorem dL_law_269 : decode cL_law 269 = .ok (.iaload, 1) := by decide +kernel
theorem dL_law_270 : decode cL_law 270 = .ok (.aload_n 0, 1) := by decide +kernel
theorem dL_law_271 : decode cL_law 271 = .ok (.iload_n 3, 1) := by decide +kernel
theorem dL_law_272 : decode cL_law 272 = .ok (.iconst 2, 1) := by decide +kernel
theorem dL_law_273 : decode cL_law 273 = .ok (.iadd, 1) := by decide +kernel
theorem dL_law_274 : decode cL_law 274 = .ok (.iaload, 1) := by decide +kernel
theorem dL_law_275 : decode cL_law 275 = .ok (.invokevirtual 32, 3) := by decide +kernel
theorem dL_law_278 : decode cL_law 278 = .ok (.aload_n 2, 1) := by decide +kernel
theorem dL_law_279 : decode cL_law 279 = .ok (.aload_n 0, 1) := by decide +kernel
theorem dL_law_280 : decode cL_law 280 = .ok (.iload_n 3, 1) := by decide +kernel
theorem dL_law_281 : decode cL_law 281 = .ok (.iconst 1, 1) := by decide +kernel
theorem dL_law_282 : decode cL_law 282 = .ok (.iadd, 1) := by decide +kernel
theorem dL_law_283 : decode cL_law 283 = .ok (.iaload, 1) := by decide +kernel
theorem dL_law_284 : decode cL_law 284 = .ok (.aload_n 0, 1) := by decide +kernel
theorem dL_law_285 : decode cL_law 285 = .ok (.iload_n 3, 1) := by decide +kernel
theorem dL_law_286 : decode cL_law 286 = .ok (.iconst 2, 1) := by decide +kernel
theorem dL_law_287 : decode cL_law 287 = .ok (.iadd, 1) := by decide +kernel
theorem dL_law_288 : decode cL_law 288 = .ok (.iaload, 1) := by decide +kernel
theorem dL_law_289 : decode cL_law 289 = .ok (.invokevirtual 35, 3) := by decide +kernel
theorem dL_law_292 : decode cL_law 292 = .ok (.if_icmp .eq 384, 3) := by decide +kernel
theorem dL_law_295 : decode cL_law 295 = .ok (.iconst 0, 1) := by decide +kernel
theorem dL_law_296 : decode cL_law 296 = .ok (.ireturn, 1) := by decide +kernel
theorem dL_law_297 : decode cL_law 297 = .ok (.aload_n 1, 1) := by decide +kernel
theorem dL_law_298 : decode cL_law 298 = .ok (.aload_n 0, 1) := by decide +kernel
theorem dL_law_299 : decode cL_law 299 = .ok (.iload_n 3, 1) := by decide +kernel
theorem dL_law_300 : decode cL_law 300 = .ok (.iconst 1, 1) := by decide +kernel
theorem dL_law_301 : decode cL_law 301 = .ok (.iadd, 1) := by decide +kernel
theorem dL_law_302 : decode cL_law 302 = .ok (.iaload, 1) := by decide +kernel
theorem dL_law_303 : decode cL_law 303 = .ok (.aload_n 0, 1) := by decide +kernel
theorem dL_law_304 : decode cL_law 304 = .ok (.iload_n 3, 1) := by decide +kernel
theorem dL_law_305 : decode cL_law 305 = .ok (.iconst 2, 1) := by decide +kernel
theorem dL_law_306 : decode cL_law 306 = .ok (.iadd, 1) := by decide +kernel
theorem dL_law_307 : decode cL_law 307 = .ok (.iaload, 1) := by decide +kernel
theorem dL_law_308 : decode cL_law 308 = .ok (.invokevirtual 36, 3) := by decide +kernel
theorem dL_law_311 : decode cL_law 311 = .ok (.aload_n 2, 1) := by decide +kernel
theorem dL_law_312 : decode cL_law 312 = .ok (.aload_n 0, 1) := by decide +kernel
theorem dL_law_313 : decode cL_law 313 = .ok (.iload_n 3, 1) := by decide +kernel
theorem dL_law_314 : decode cL_law 314 = .ok (.iconst 1, 1) := by decide +kernel
theorem dL_law_315 : decode cL_law 315 = .ok (.iadd, 1) := by decide +kernel
theorem dL_law_316 : decode cL_law 316 = .ok (.iaload, 1) := by decide +kernel
theorem dL_law_317 : decode cL_law 317 = .ok (.aload_n 0, 1) := by decide +kernel
theorem dL_law_318 : decode cL_law 318 = .ok (.iload_n 3, 1) := by decide +kernel
theorem dL_law_319 : decode cL_law 319 = .ok (.iconst 2, 1) := by decide +kernel
theorem dL_law_320 : decode cL_law 320 = .ok (.iadd, 1) := by decide +kernel
theorem dL_law_321 : decode cL_law 321 = .ok (.iaload, 1) := by decide +kernel
theorem dL_law_322 : decode cL_law 322 = .ok (.invokevirtual 39, 3) := by decide +kernel
theorem dL_law_325 : decode cL_law 325 = .ok (.if_icmp .eq 351, 3) := by decide +kernel
theorem dL_law_328 : decode cL_law 328 = .ok (.iconst 0, 1) := by decide +kernel
theorem dL_law_329 : decode cL_law 329 = .ok (.ireturn, 1) := by decide +kernel
theorem dL_law_330 : decode cL_law 330 = .ok (.aload_n 1, 1) := by decide +kernel
theorem dL_law_331 : decode cL_law 331 = .ok (.aload_n 0, 1) := by decide +kernel
theorem dL_law_332 : decode cL_law 332 = .ok (.iload_n 3, 1) := by decide +kernel
theorem dL_law_333 : decode cL_law 333 = .ok (.iconst 1, 1) := by decide +kernel
theorem dL_law_334 : decode cL_law 334 = .ok (.iadd, 1) := by decide +kernel
theorem dL_law_335 : decode cL_law 335 = .ok (.iaload, 1) := by decide +kernel
theorem dL_law_336 : decode cL_law 336 = .ok (.aload_n 0, 1) := by decide +kernel
theorem dL_law_337 : decode cL_law 337 = .ok (.iload_n 3, 1) := by decide +kernel
theorem dL_law_338 : decode cL_law 338 = .ok (.iconst 2, 1) := by decide +kernel
theorem dL_law_339 : decode cL_law 339 = .ok (.iadd, 1) := by decide +kernel
theorem dL_law_340 : decode cL_law 340 = .ok (.iaload, 1) := by decide +kernel
theorem dL_law_341 : decode cL_law 341 = .ok (.invokevirtual 40, 3) := by decide +kernel
theorem dL_law_344 : decode cL_law 344 = .ok (.aload_n 2, 1) := by decide +kernel
theorem dL_law_345 : decode cL_law 345 = .ok (.aload_n 0, 1) := by decide +kernel
theorem dL_law_346 : decode cL_law 346 = .ok (.iload_n 3, 1) := by decide +kernel
theorem dL_law_347 : decode cL_law 347 = .ok (.iconst 1, 1) := by decide +kernel
theorem dL_law_348 : decode cL_law 348 = .ok (.iadd, 1) := by decide +kernel
theorem dL_law_349 : decode cL_law 349 = .ok (.iaload, 1) := by decide +kernel
theorem dL_law_350 : decode cL_law 350 = .ok (.aload_n 0, 1) := by decide +kernel
theorem dL_law_351 : decode cL_law 351 = .ok (.iload_n 3, 1) := by decide +kernel
theorem dL_law_352 : decode cL_law 352 = .ok (.iconst 2, 1) := by decide +kernel
theorem dL_law_353 : decode cL_law 353 = .ok (.iadd, 1) := by decide +kernel
theorem dL_law_354 : decode cL_law 354 = .ok (.iaload, 1) := by decide +kernel
theorem dL_law_355 : decode cL_law 355 = .ok (.invokevirtual 43, 3) := by decide +kernel
theorem dL_law_358 : decode cL_law 358 = .ok (.if_icmp .eq 318, 3) := by decide +kernel
theorem dL_law_361 : decode cL_law 361 = .ok (.iconst 0, 1) := by decide +kernel
theorem dL_law_362 : decode cL_law 362 = .ok (.ireturn, 1) := by decide +kernel
theorem dL_law_363 : decode cL_law 363 = .ok (.aload_n 1, 1) := by decide +kernel
theorem dL_law_364 : decode cL_law 364 = .ok (.aload_n 0, 1) := by decide +kernel
theorem dL_law_365 : decode cL_law 365 = .ok (.iload_n 3, 1) := by decide +kernel
theorem dL_law_366 : decode cL_law 366 = .ok (.iconst 1, 1) := by decide +kernel
theorem dL_law_367 : decode cL_law 367 = .ok (.iadd, 1) := by decide +kernel
theorem dL_law_368 : decode cL_law 368 = .ok (.iaload, 1) := by decide +kernel
theorem dL_law_369 : decode cL_law 369 = .ok (.aload_n 0, 1) := by decide +kernel
theorem dL_law_370 : decode cL_law 370 = .ok (.iload_n 3, 1) := by decide +kernel
theorem dL_law_371 : decode cL_law 371 = .ok (.iconst 2, 1) := by decide +kernel
theorem dL_law_372 : decode cL_law 372 = .ok (.iadd, 1) := by decide +kernel
theorem dL_law_373 : decode cL_law 373 = .ok (.iaload, 1) := by decide +kernel
theorem dL_law_374 : decode cL_law 374 = .ok (.invokevirtual 44, 3) := by decide +kernel
theorem dL_law_377 : decode cL_law 377 = .ok (.aload_n 2, 1) := by decide +kernel
theorem dL_law_378 : decode cL_law 378 = .ok (.aload_n 0, 1) := by decide +kernel
theorem dL_law_379 : decode cL_law 379 = .ok (.iload_n 3, 1) := by decide +kernel
theorem dL_law_380 : decode cL_law 380 = .ok (.iconst 1, 1) := by decide +kernel
theorem dL_law_381 : decode cL_law 381 = .ok (.iadd, 1) := by decide +kernel
theorem dL_law_382 : decode cL_law 382 = .ok (.iaload, 1) := by decide +kernel
theorem dL_law_383 : decode cL_law 383 = .ok (.aload_n 0, 1) := by decide +kernel
theorem dL_law_384 : decode cL_law 384 = .ok (.iload_n 3, 1) := by decide +kernel
theorem dL_law_385 : decode cL_law 385 = .ok (.iconst 2, 1) := by decide +kernel
theorem dL_law_386 : decode cL_law 386 = .ok (.iadd, 1) := by decide +kernel
theorem dL_law_387 : decode cL_law 387 = .ok (.iaload, 1) := by decide +kernel
theorem dL_law_388 : decode cL_law 388 = .ok (.invokevirtual 47, 3) := by decide +kernel
theorem dL_law_391 : decode cL_law 391 = .ok (.if_icmp .eq 285, 3) := by decide +kernel
theorem dL_law_394 : decode cL_law 394 = .ok (.iconst 0, 1) := by decide +kernel
theorem dL_law_395 : decode cL_law 395 = .ok (.ireturn, 1) := by decide +kernel
theorem dL_law_396 : decode cL_law 396 = .ok (.aload_n 1, 1) := by decide +kernel
theorem dL_law_397 : decode cL_law 397 = .ok (.invokevirtual 48, 3) := by decide +kernel
theorem dL_law_400 : decode cL_law 400 = .ok (.aload_n 2, 1) := by decide +kernel
theorem dL_law_401 : decode cL_law 401 = .ok (.invokevirtual 51, 3) := by decide +kernel
theorem dL_law_404 : decode cL_law 404 = .ok (.if_icmp .eq 272, 3) := by decide +kernel
theorem dL_law_407 : decode cL_law 407 = .ok (.iconst 0, 1) := by decide +kernel
theorem dL_law_408 : decode cL_law 408 = .ok (.ireturn, 1) := by decide +kernel
theorem dL_law_409 : decode cL_law 409 = .ok (.aload_n 1, 1) := by decide +kernel
theorem dL_law_410 : decode cL_law 410 = .ok (.aload_n 0, 1) := by decide +kernel
theorem dL_law_411 : decode cL_law 411 = .ok (.iload_n 3, 1) := by decide +kernel
theorem dL_law_412 : decode cL_law 412 = .ok (.iconst 1, 1) := by decide +kernel
theorem dL_law_413 : decode cL_law 413 = .ok (.iadd, 1) := by decide +kernel
theorem dL_law_414 : decode cL_law 414 = .ok (.iaload, 1) := by decide +kernel
theorem dL_law_415 : decode cL_law 415 = .ok (.aload_n 0, 1) := by decide +kernel
theorem dL_law_416 : decode cL_law 416 = .ok (.iload_n 3, 1) := by decide +kernel
theorem dL_law_417 : decode cL_law 417 = .ok (.iconst 2, 1) := by decide +kernel
theorem dL_law_418 : decode cL_law 418 = .ok (.iadd, 1) := by decide +kernel
theorem dL_law_419 : decode cL_law 419 = .ok (.iaload, 1) := by decide +kernel
theorem dL_law_420 : decode cL_law 420 = .ok (.invokevirtual 52, 3) := by decide +kernel
theorem dL_law_423 : decode cL_law 423 = .ok (.aload_n 2, 1) := by decide +kernel
theorem dL_law_424 : decode cL_law 424 = .ok (.aload_n 0, 1) := by decide +kernel
theorem dL_law_425 : decode cL_law 425 = .ok (.iload_n 3, 1) := by decide +kernel
theorem dL_law_426 : decode cL_law 426 = .ok (.iconst 1, 1) := by decide +kernel
theorem dL_law_427 : decode cL_law 427 = .ok (.iadd, 1) := by decide +kernel
theorem dL_law_428 : decode cL_law 428 = .ok (.iaload, 1) := by decide +kernel
theorem dL_law_429 : decode cL_law 429 = .ok (.aload_n 0, 1) := by decide +kernel
theorem dL_law_430 : decode cL_law 430 = .ok (.iload_n 3, 1) := by decide +kernel
theorem dL_law_431 : decode cL_law 431 = .ok (.iconst 2, 1) := by decide +kernel
theorem dL_law_432 : decode cL_law 432 = .ok (.iadd, 1) := by decide +kernel
theorem dL_law_433 : decode cL_law 433 = .ok (.iaload, 1) := by decide +kernel
theorem dL_law_434 : decode cL_law 434 = .ok (.invokevirtual 55, 3) := by decide +kernel
theorem dL_law_437 : decode cL_law 437 = .ok (.if_icmp .eq 239, 3) := by decide +kernel
theorem dL_law_440 : decode cL_law 440 = .ok (.iconst 0, 1) := by decide +kernel
theorem dL_law_441 : decode cL_law 441 = .ok (.ireturn, 1) := by decide +kernel
theorem dL_law_442 : decode cL_law 442 = .ok (.aload_n 1, 1) := by decide +kernel
theorem dL_law_443 : decode cL_law 443 = .ok (.aload_n 0, 1) := by decide +kernel
theorem dL_law_444 : decode cL_law 444 = .ok (.iload_n 3, 1) := by decide +kernel
theorem dL_law_445 : decode cL_law 445 = .ok (.iconst 1, 1) := by decide +kernel
theorem dL_law_446 : decode cL_law 446 = .ok (.iadd, 1) := by decide +kernel
theorem dL_law_447 : decode cL_law 447 = .ok (.iaload, 1) := by decide +kernel
theorem dL_law_448 : decode cL_law 448 = .ok (.invokevirtual 56, 3) := by decide +kernel
theorem dL_law_451 : decode cL_law 451 = .ok (.aload_n 2, 1) := by decide +kernel
theorem dL_law_452 : decode cL_law 452 = .ok (.aload_n 0, 1) := by decide +kernel
theorem dL_law_453 : decode cL_law 453 = .ok (.iload_n 3, 1) := by decide +kernel
theorem dL_law_454 : decode cL_law 454 = .ok (.iconst 1, 1) := by decide +kernel
theorem dL_law_455 : decode cL_law 455 = .ok (.iadd, 1) := by decide +kernel
theorem dL_law_456 : decode cL_law 456 = .ok (.iaload, 1) := by decide +kernel
theorem dL_law_457 : decode cL_law 457 = .ok (.invokevirtual 60, 3) := by decide +kernel
theorem dL_law_460 : decode cL_law 460 = .ok (.if_icmp .eq 216, 3) := by decide +kernel
theorem dL_law_463 : decode cL_law 463 = .ok (.iconst 0, 1) := by decide +kernel
theorem dL_law_464 : decode cL_law 464 = .ok (.ireturn, 1) := by decide +kernel
theorem dL_law_465 : decode cL_law 465 = .ok (.aload_n 1, 1) := by decide +kernel
theorem dL_law_466 : decode cL_law 466 = .ok (.invokevirtual 61, 3) := by decide +kernel
theorem dL_law_469 : decode cL_law 469 = .ok (.aload_n 2, 1) := by decide +kernel
theorem dL_law_470 : decode cL_law 470 = .ok (.invokevirtual 65, 3) := by decide +kernel
theorem dL_law_473 : decode cL_law 473 = .ok (.lcmp, 1) := by decide +kernel
theorem dL_law_474 : decode cL_law 474 = .ok (.ifCond .eq 202, 3) := by decide +kernel
theorem dL_law_477 : decode cL_law 477 = .ok (.iconst 0, 1) := by decide +kernel
theorem dL_law_478 : decode cL_law 478 = .ok (.ireturn, 1) := by decide +kernel
theorem dL_law_479 : decode cL_law 479 = .ok (.aload_n 1, 1) := by decide +kernel
theorem dL_law_480 : decode cL_law 480 = .ok (.aload_n 0, 1) := by decide +kernel
theorem dL_law_481 : decode cL_law 481 = .ok (.iload_n 3, 1) := by decide +kernel
theorem dL_law_482 : decode cL_law 482 = .ok (.iconst 1, 1) := by decide +kernel
theorem dL_law_483 : decode cL_law 483 = .ok (.iadd, 1) := by decide +kernel
theorem dL_law_484 : decode cL_law 484 = .ok (.iaload, 1) := by decide +kernel
theorem dL_law_485 : decode cL_law 485 = .ok (.aload_n 0, 1) := by decide +kernel
theorem dL_law_486 : decode cL_law 486 = .ok (.iload_n 3, 1) := by decide +kernel
theorem dL_law_487 : decode cL_law 487 = .ok (.iconst 2, 1) := by decide +kernel
theorem dL_law_488 : decode cL_law 488 = .ok (.iadd, 1) := by decide +kernel
theorem dL_law_489 : decode cL_law 489 = .ok (.iaload, 1) := by decide +kernel
theorem dL_law_490 : decode cL_law 490 = .ok (.invokevirtual 66, 3) := by decide +kernel
theorem dL_law_493 : decode cL_law 493 = .ok (.aload_n 2, 1) := by decide +kernel
theorem dL_law_494 : decode cL_law 494 = .ok (.aload_n 0, 1) := by decide +kernel
theorem dL_law_495 : decode cL_law 495 = .ok (.iload_n 3, 1) := by decide +kernel
theorem dL_law_496 : decode cL_law 496 = .ok (.iconst 1, 1) := by decide +kernel
theorem dL_law_497 : decode cL_law 497 = .ok (.iadd, 1) := by decide +kernel
theorem dL_law_498 : decode cL_law 498 = .ok (.iaload, 1) := by decide +kernel
theorem dL_law_499 : decode cL_law 499 = .ok (.aload_n 0, 1) := by decide +kernel
theorem dL_law_500 : decode cL_law 500 = .ok (.iload_n 3, 1) := by decide +kernel
theorem dL_law_501 : decode cL_law 501 = .ok (.iconst 2, 1) := by decide +kernel
theorem dL_law_502 : decode cL_law 502 = .ok (.iadd, 1) := by decide +kernel
theorem dL_law_503 : decode cL_law 503 = .ok (.iaload, 1) := by decide +kernel
theorem dL_law_504 : decode cL_law 504 = .ok (.invokevirtual 69, 3) := by decide +kernel
theorem dL_law_507 : decode cL_law 507 = .ok (.if_icmp .eq 169, 3) := by decide +kernel
theorem dL_law_510 : decode cL_law 510 = .ok (.iconst 0, 1) := by decide +kernel
theorem dL_law_511 : decode cL_law 511 = .ok (.ireturn, 1) := by decide +kernel
theorem dL_law_512 : decode cL_law 512 = .ok (.aload_n 1, 1) := by decide +kernel
theorem dL_law_513 : decode cL_law 513 = .ok (.aload_n 0, 1) := by decide +kernel
theorem dL_law_514 : decode cL_law 514 = .ok (.iload_n 3, 1) := by decide +kernel
theorem dL_law_515 : decode cL_law 515 = .ok (.iconst 1, 1) := by decide +kernel
theorem dL_law_516 : decode cL_law 516 = .ok (.iadd, 1) := by decide +kernel
theorem dL_law_517 : decode cL_law 517 = .ok (.iaload, 1) := by decide +kernel
theorem dL_law_518 : decode cL_law 518 = .ok (.aload_n 0, 1) := by decide +kernel
theorem dL_law_519 : decode cL_law 519 = .ok (.iload_n 3, 1) := by decide +kernel
theorem dL_law_520 : decode cL_law 520 = .ok (.iconst 2, 1) := by decide +kernel
theorem dL_law_521 : decode cL_law 521 = .ok (.iadd, 1) := by decide +kernel
theorem dL_law_522 : decode cL_law 522 = .ok (.iaload, 1) := by decide +kernel
theorem dL_law_523 : decode cL_law 523 = .ok (.invokevirtual 70, 3) := by decide +kernel
theorem dL_law_526 : decode cL_law 526 = .ok (.aload_n 2, 1) := by decide +kernel
theorem dL_law_527 : decode cL_law 527 = .ok (.aload_n 0, 1) := by decide +kernel
theorem dL_law_528 : decode cL_law 528 = .ok (.iload_n 3, 1) := by decide +kernel
theorem dL_law_529 : decode cL_law 529 = .ok (.iconst 1, 1) := by decide +kernel
theorem dL_law_530 : decode cL_law 530 = .ok (.iadd, 1) := by decide +kernel
theorem dL_law_531 : decode cL_law 531 = .ok (.iaload, 1) := by decide +kernel
theorem dL_law_532 : decode cL_law 532 = .ok (.aload_n 0, 1) := by decide +kernel
theorem dL_law_533 : decode cL_law 533 = .ok (.iload_n 3, 1) := by decide +kernel
theorem dL_law_534 : decode cL_law 534 = .ok (.iconst 2, 1) := by decide +kernel
theorem dL_law_535 : decode cL_law 535 = .ok (.iadd, 1) := by decide +kernel
theorem dL_law_536 : decode cL_law 536 = .ok (.iaload, 1) := by decide +kernel
theorem dL_law_537 : decode cL_law 537 = .ok (.invokevirtual 73, 3) := by decide +kernel
theorem dL_law_540 : decode cL_law 540 = .ok (.if_icmp .eq 136, 3) := by decide +kernel
theorem dL_law_543 : decode cL_law 543 = .ok (.iconst 0, 1) := by decide +kernel
theorem dL_law_544 : decode cL_law 544 = .ok (.ireturn, 1) := by decide +kernel
theorem dL_law_545 : decode cL_law 545 = .ok (.aload_n 1, 1) := by decide +kernel
theorem dL_law_546 : decode cL_law 546 = .ok (.aload_n 0, 1) := by decide +kernel
theorem dL_law_547 : decode cL_law 547 = .ok (.iload_n 3, 1) := by decide +kernel
theorem dL_law_548 : decode cL_law 548 = .ok (.iconst 1, 1) := by decide +kernel
theorem dL_law_549 : decode cL_law 549 = .ok (.iadd, 1) := by decide +kernel
theorem dL_law_550 : decode cL_law 550 = .ok (.iaload, 1) := by decide +kernel
theorem dL_law_551 : decode cL_law 551 = .ok (.invokevirtual 74, 3) := by decide +kernel
theorem dL_law_554 : decode cL_law 554 = .ok (.aload_n 2, 1) := by decide +kernel
theorem dL_law_555 : decode cL_law 555 = .ok (.aload_n 0, 1) := by decide +kernel
theorem dL_law_556 : decode cL_law 556 = .ok (.iload_n 3, 1) := by decide +kernel
theorem dL_law_557 : decode cL_law 557 = .ok (.iconst 1, 1) := by decide +kernel
theorem dL_law_558 : decode cL_law 558 = .ok (.iadd, 1) := by decide +kernel
theorem dL_law_559 : decode cL_law 559 = .ok (.iaload, 1) := by decide +kernel
theorem dL_law_560 : decode cL_law 560 = .ok (.invokevirtual 77, 3) := by decide +kernel
theorem dL_law_563 : decode cL_law 563 = .ok (.if_icmp .eq 113, 3) := by decide +kernel
theorem dL_law_566 : decode cL_law 566 = .ok (.iconst 0, 1) := by decide +kernel
theorem dL_law_567 : decode cL_law 567 = .ok (.ireturn, 1) := by decide +kernel
theorem dL_law_568 : decode cL_law 568 = .ok (.aload_n 1, 1) := by decide +kernel
theorem dL_law_569 : decode cL_law 569 = .ok (.aload_n 0, 1) := by decide +kernel
theorem dL_law_570 : decode cL_law 570 = .ok (.iload_n 3, 1) := by decide +kernel
theorem dL_law_571 : decode cL_law 571 = .ok (.iconst 1, 1) := by decide +kernel
theorem dL_law_572 : decode cL_law 572 = .ok (.iadd, 1) := by decide +kernel
theorem dL_law_573 : decode cL_law 573 = .ok (.iaload, 1) := by decide +kernel
theorem dL_law_574 : decode cL_law 574 = .ok (.invokevirtual 78, 3) := by decide +kernel
theorem dL_law_577 : decode cL_law 577 = .ok (.aload_n 2, 1) := by decide +kernel
theorem dL_law_578 : decode cL_law 578 = .ok (.aload_n 0, 1) := by decide +kernel
theorem dL_law_579 : decode cL_law 579 = .ok (.iload_n 3, 1) := by decide +kernel
theorem dL_law_580 : decode cL_law 580 = .ok (.iconst 1, 1) := by decide +kernel
theorem dL_law_581 : decode cL_law 581 = .ok (.iadd, 1) := by decide +kernel
theorem dL_law_582 : decode cL_law 582 = .ok (.iaload, 1) := by decide +kernel
theorem dL_law_583 : decode cL_law 583 = .ok (.invokevirtual 81, 3) := by decide +kernel
theorem dL_law_586 : decode cL_law 586 = .ok (.if_icmp .eq 90, 3) := by decide +kernel
theorem dL_law_589 : decode cL_law 589 = .ok (.iconst 0, 1) := by decide +kernel
theorem dL_law_590 : decode cL_law 590 = .ok (.ireturn, 1) := by decide +kernel
theorem dL_law_591 : decode cL_law 591 = .ok (.aload_n 1, 1) := by decide +kernel
theorem dL_law_592 : decode cL_law 592 = .ok (.invokevirtual 82, 3) := by decide +kernel
theorem dL_law_595 : decode cL_law 595 = .ok (.aload_n 2, 1) := by decide +kernel
theorem dL_law_596 : decode cL_law 596 = .ok (.invokevirtual 85, 3) := by decide +kernel
theorem dL_law_599 : decode cL_law 599 = .ok (.if_icmp .eq 77, 3) := by decide +kernel
theorem dL_law_602 : decode cL_law 602 = .ok (.iconst 0, 1) := by decide +kernel
theorem dL_law_603 : decode cL_law 603 = .ok (.ireturn, 1) := by decide +kernel
theorem dL_law_604 : decode cL_law 604 = .ok (.aload_n 1, 1) := by decide +kernel
theorem dL_law_605 : decode cL_law 605 = .ok (.aload_n 0, 1) := by decide +kernel
theorem dL_law_606 : decode cL_law 606 = .ok (.iload_n 3, 1) := by decide +kernel
theorem dL_law_607 : decode cL_law 607 = .ok (.iconst 1, 1) := by decide +kernel
theorem dL_law_608 : decode cL_law 608 = .ok (.iadd, 1) := by decide +kernel
theorem dL_law_609 : decode cL_law 609 = .ok (.iaload, 1) := by decide +kernel
theorem dL_law_610 : decode cL_law 610 = .ok (.invokevirtual 86, 3) := by decide +kernel
theorem dL_law_613 : decode cL_law 613 = .ok (.aload_n 2, 1) := by decide +kernel
theorem dL_law_614 : decode cL_law 614 = .ok (.aload_n 0, 1) := by decide +kernel
theorem dL_law_615 : decode cL_law 615 = .ok (.iload_n 3, 1) := by decide +kernel
theorem dL_law_616 : decode cL_law 616 = .ok (.iconst 1, 1) := by decide +kernel
theorem dL_law_617 : decode cL_law 617 = .ok (.iadd, 1) := by decide +kernel
theorem dL_law_618 : decode cL_law 618 = .ok (.iaload, 1) := by decide +kernel
theorem dL_law_619 : decode cL_law 619 = .ok (.invokevirtual 89, 3) := by decide +kernel
theorem dL_law_622 : decode cL_law 622 = .ok (.if_icmp .eq 54, 3) := by decide +kernel
theorem dL_law_625 : decode cL_law 625 = .ok (.iconst 0, 1) := by decide +kernel
theorem dL_law_626 : decode cL_law 626 = .ok (.ireturn, 1) := by decide +kernel
theorem dL_law_627 : decode cL_law 627 = .ok (.aload_n 1, 1) := by decide +kernel
theorem dL_law_628 : decode cL_law 628 = .ok (.invokevirtual 90, 3) := by decide +kernel
theorem dL_law_631 : decode cL_law 631 = .ok (.aload_n 2, 1) := by decide +kernel
theorem dL_law_632 : decode cL_law 632 = .ok (.invokevirtual 93, 3) := by decide +kernel
theorem dL_law_635 : decode cL_law 635 = .ok (.if_icmp .eq 41, 3) := by decide +kernel
theorem dL_law_638 : decode cL_law 638 = .ok (.iconst 0, 1) := by decide +kernel
theorem dL_law_639 : decode cL_law 639 = .ok (.ireturn, 1) := by decide +kernel
theorem dL_law_640 : decode cL_law 640 = .ok (.aload_n 1, 1) := by decide +kernel
theorem dL_law_641 : decode cL_law 641 = .ok (.aload_n 0, 1) := by decide +kernel
theorem dL_law_642 : decode cL_law 642 = .ok (.iload_n 3, 1) := by decide +kernel
theorem dL_law_643 : decode cL_law 643 = .ok (.iconst 1, 1) := by decide +kernel
theorem dL_law_644 : decode cL_law 644 = .ok (.iadd, 1) := by decide +kernel
theorem dL_law_645 : decode cL_law 645 = .ok (.iaload, 1) := by decide +kernel
theorem dL_law_646 : decode cL_law 646 = .ok (.invokevirtual 94, 3) := by decide +kernel
theorem dL_law_649 : decode cL_law 649 = .ok (.aload_n 2, 1) := by decide +kernel
theorem dL_law_650 : decode cL_law 650 = .ok (.aload_n 0, 1) := by decide +kernel
theorem dL_law_651 : decode cL_law 651 = .ok (.iload_n 3, 1) := by decide +kernel
theorem dL_law_652 : decode cL_law 652 = .ok (.iconst 1, 1) := by decide +kernel
theorem dL_law_653 : decode cL_law 653 = .ok (.iadd, 1) := by decide +kernel
theorem dL_law_654 : decode cL_law 654 = .ok (.iaload, 1) := by decide +kernel
theorem dL_law_655 : decode cL_law 655 = .ok (.invokevirtual 97, 3) := by decide +kernel
theorem dL_law_658 : decode cL_law 658 = .ok (.if_icmp .eq 18, 3) := by decide +kernel
theorem dL_law_661 : decode cL_law 661 = .ok (.iconst 0, 1) := by decide +kernel
theorem dL_law_662 : decode cL_law 662 = .ok (.ireturn, 1) := by decide +kernel
theorem dL_law_663 : decode cL_law 663 = .ok (.aload_n 1, 1) := by decide +kernel
theorem dL_law_664 : decode cL_law 664 = .ok (.invokevirtual 98, 3) := by decide +kernel
theorem dL_law_667 : decode cL_law 667 = .ok (.aload_n 2, 1) := by decide +kernel
theorem dL_law_668 : decode cL_law 668 = .ok (.invokevirtual 101, 3) := by decide +kernel
theorem dL_law_671 : decode cL_law 671 = .ok (.if_icmp .eq 5, 3) := by decide +kernel
theorem dL_law_674 : decode cL_law 674 = .ok (.iconst 0, 1) := by decide +kernel
theorem dL_law_675 : decode cL_law 675 = .ok (.ireturn, 1) := by decide +kernel
theorem dL_law_676 : decode cL_law 676 = .ok (.iinc 3 4, 3) := by decide +kernel
theorem dL_law_679 : decode cL_law 679 = .ok (.goto (-661), 3) := by decide +kernel
theorem dL_law_682 : decode cL_law 682 = .ok (.iconst 1, 1) := by decide +kernel
theorem dL_law_683 : decode cL_law 683 = .ok (.ireturn, 1) := by decide +kernel
end
section
/-! ===== plain numbers: values, memory, worlds ===== -/
abbrev AV : Type := Int ⊕ (Int ⊕ Option Nat)
abbrev vi (a : Int) : AV := Sum.inl a
abbrev vl (a : Int) : AV := Sum.inr (Sum.inl a)
abbrev vr (k : Nat) : AV := Sum.inr (Sum.inr (some k))
/-- the shape: an object of a class, or an array of a kind (0 int, 1 long, 2 char, 3 references to states) and a length -/
abbrev ShT : Type := List (Nat ⊕ (Nat × Nat))
abbrev MI : Type := Nat → Int → Int
abbrev MR : Type := Nat → Int → Option Nat
def rv (ρ : Nat → Nat) : AV → Value
  | .inl a => .int (Int32.ofInt a)
  | .inr (.inl a) => .long (Int64.ofInt a)
  | .inr (.inr r) => va_rf (r.map ρ)
def up1 {α : Type} (f : Int → α) (k : Int) (v : α) : Int → α := fun y => if y = k then v else f y
def up2 {α : Type} (f : Nat → Int → α) (a : Nat) (k : Int) (v : α) : Nat → Int → α := fun x => if x = a then up1 (f a) k v else f x
theorem up1_s {α : Type} (f : Int → α) (k : Int) (v : α) : up1 f k v k = v := by simp [up1]
theorem up1_n {α : Type} (f : Int → α) {k y : Int} (v : α) (h : y ≠ k) : up1 f k v y = f y := by simp [up1, h]
theorem up2_s {α : Type} (f : Nat → Int → α) (a : Nat) (k : Int) (v : α) : up2 f a k v a = up1 (f a) k v := by simp [up2]
theorem up2_n {α : Type} (f : Nat → Int → α) {a x : Nat} (k : Int) (v : α) (h : x ≠ a) : up2 f a k v x = f x := by simp [up2, h]
theorem up2_ss {α : Type} (f : Nat → Int → α) (a : Nat) (k : Int) (v : α) : up2 f a k v a k = v := by simp [up2, up1]
theorem up2_sn {α : Type} (f : Nat → Int → α) (a : Nat) {k y : Int} (v : α) (h : y ≠ k) : up2 f a k v a y = f a y := by simp [up2, up1, h]
def zm {α : Type} (f : Nat → Int → α) (z : Nat) (v : α) : Nat → Int → α := fun x => if x = z then fun _ => v else f x
theorem zm_s {α : Type} (f : Nat → Int → α) (z : Nat) (v : α) : zm f z v z = fun _ => v := by simp [zm]
theorem zm_n {α : Type} (f : Nat → Int → α) {z x : Nat} (v : α) (h : x ≠ z) : zm f z v x = f x := by simp [zm, h]
def fl : Nat → List Bool
  | 0 => [true, true, true, false]
  | 1 => [true, true, true, false, false, false]
  | 2 => [true]
  | 3 => [true, false]
  | 4 => [true, true, true, false]
  | 5 => [true, false]
  | 6 => [true, false, false, false, false]
  | 7 => [true, false]
  | 8 => [true, true, true, true, false]
  | 9 => [true, true, true]
  | 10 => [true, true, true, true, true, true, true, true, true, true]
  | 11 => [true, true, true, false, true, false, false, false, false, false, true, false, true, false, true, true, true, false, true, true, false, false, true, false, false]
  | _ => []
def tyOf : Nat → FieldType
  | 0 => .int
  | 1 => .long
  | 2 => .char
  | _ => .object "DiagonalTexts$State"
def fls (ρ : Nat → Nat) (fi : Int → Int) (fr : Int → Option Nat) (ci : Nat) : List Value := (fl ci).mapIdx fun j b => if b = true then va_rf ((fr j).map ρ) else .int (Int32.ofInt (fi j))
def cont (ρ : Nat → Nat) (fi : Int → Int) (fr : Int → Option Nat) : Nat → ((Nat → Int32) ⊕ (Nat → Int64) ⊕ (Nat → UInt32) ⊕ (Nat → UInt64) ⊕ (Nat → Option Nat))
  | 0 => .inl fun j => Int32.ofInt (fi j)
  | 1 => .inr (.inl fun j => Int64.ofInt (fi j))
  | 2 => .inl fun j => Int32.ofInt (fi j)
  | _ => .inr (.inr (.inr (.inr fun j => (fr j).map ρ)))
def cel (ρ : Nat → Nat) (cA : ClassId) (fi : Int → Int) (fr : Int → Option Nat) : (Nat ⊕ (Nat × Nat)) → va_E
  | .inl ci => .inr (ci, fls ρ fi fr ci)
  | .inr (t, n) => .inl (cA, n, cont ρ fi fr t)
def wld (ρ : Nat → Nat) (dA : Nat → ClassId) (sh : ShT) (mi : MI) (mr : MR) : va_W := sh.mapIdx fun k x => (ρ k, cel ρ (dA k) (mi k) (mr k) x)
theorem wld_len {ρ dA sh mi mr} : (wld ρ dA sh mi mr).length = sh.length := by simp [wld]
theorem wld_get {ρ dA sh mi mr k x} (h : sh[k]? = some x) : (wld ρ dA sh mi mr)[k]? = some (ρ k, cel ρ (dA k) (mi k) (mr k) x) := by
  simp [wld, List.getElem?_mapIdx, h]
theorem wld_inv {ρ dA sh mi mr} {k : Nat} {q : Nat × va_E} (h : (wld ρ dA sh mi mr)[k]? = some q) : ∃ x, sh[k]? = some x ∧ q = (ρ k, cel ρ (dA k) (mi k) (mr k) x) := by
  simp only [wld, List.getElem?_mapIdx] at h
  cases hx : sh[k]? with
  | none => rw [hx] at h; cases h
  | some x => rw [hx] at h; exact ⟨x, rfl, (Option.some.inj h).symm⟩
theorem lt_of_get {α : Type} {l : List α} {k : Nat} {x : α} (h : l[k]? = some x) : k < l.length := (List.getElem?_eq_some_iff.mp h).1
/-- one row of a world written anew -/
theorem wld_set {ρ dA sh mi mr mi' mr'} {a : Nat} {x : Nat ⊕ (Nat × Nat)} {e : va_E} (hs : sh[a]? = some x) (he : e = cel ρ (dA a) (mi' a) (mr' a) x) (hi : ∀ k, k ≠ a → mi' k = mi k) (hr : ∀ k, k ≠ a → mr' k = mr k) :
    (wld ρ dA sh mi mr).set a (ρ a, e) = wld ρ dA sh mi' mr' := by
  apply List.ext_getElem?
  intro k
  by_cases hk : k = a
  · subst hk
    rw [List.getElem?_set_self (by rw [wld_len]; exact lt_of_get hs), wld_get hs, he]
  · rw [List.getElem?_set_ne (Ne.symm hk)]
    simp only [wld, List.getElem?_mapIdx, hi k hk, hr k hk]
theorem fls_len {ρ fi fr ci} : (fls ρ fi fr ci).length = (fl ci).length := by simp [fls]
theorem fls_geti {ρ fi fr ci} {k : Nat} (h : (fl ci)[k]? = some false) : (fls ρ fi fr ci)[k]? = some (.int (Int32.ofInt (fi k))) := by
  simp [fls, List.getElem?_mapIdx, h]
theorem fls_getr {ρ fi fr ci} {k : Nat} (h : (fl ci)[k]? = some true) : (fls ρ fi fr ci)[k]? = some (va_rf ((fr k).map ρ)) := by
  simp [fls, List.getElem?_mapIdx, h]
theorem fls_seti {ρ fi fr ci} {k : Nat} (v : Int) (h : (fl ci)[k]? = some false) : (fls ρ fi fr ci).set k (.int (Int32.ofInt v)) = fls ρ (up1 fi k v) fr ci := by
  apply List.ext_getElem?
  intro j
  by_cases hj : j = k
  · subst hj
    rw [List.getElem?_set_self (by rw [fls_len]; exact lt_of_get h), fls_geti h, up1_s]
  · rw [List.getElem?_set_ne (Ne.symm hj)]
    have e : up1 fi k v j = fi j := up1_n fi v (by omega)
    simp only [fls, List.getElem?_mapIdx]
    cases hx : (fl ci)[j]? with
    | none => rfl
    | some b => simp [e]
theorem fls_setr {ρ fi fr ci} {k : Nat} (v : Option Nat) (h : (fl ci)[k]? = some true) : (fls ρ fi fr ci).set k (va_rf (v.map ρ)) = fls ρ fi (up1 fr k v) ci := by
  apply List.ext_getElem?
  intro j
  by_cases hj : j = k
  · subst hj
    rw [List.getElem?_set_self (by rw [fls_len]; exact lt_of_get h), fls_getr h, up1_s]
  · rw [List.getElem?_set_ne (Ne.symm hj)]
    have e : up1 fr k v j = fr j := up1_n fr v (by omega)
    simp only [fls, List.getElem?_mapIdx]
    cases hx : (fl ci)[j]? with
    | none => rfl
    | some b => simp [e]
/-! ===== what the heap holds ===== -/
def KK (D : va_G) (s : State) : Prop := ∀ (c : Nat) (q : vw_C), vwCl[c]? = some q → u_Kn s q.1 q.2.1 q.2.2 (D.1 c) (D.2 c)
def Rep (D : va_G) (A : Nat → Prop) (ρ : Nat → Nat) (dA : Nat → ClassId) (s : State) (sh : ShT) (mi : MI) (mr : MR) (H : Heap) : Prop :=
  va_P D vwCl (wld ρ dA sh mi mr) H ∧ va_D A (wld ρ dA sh mi mr) ∧ (∀ k t n, sh[k]? = some (.inr (t, n)) → ArrOfT s (dA k) (tyOf t) ∧ va_RA s (dA k) (tyOf t)) ∧ KK D s ∧ sh.length ≤ 1000 ∧ ∀ (a : Nat) (j : Int) (k : Nat), a < sh.length → mr a j = some k → k < sh.length
theorem KK.moved {D : va_G} {u U : State} (hvm : u.vm.Alike U.vm) (h : KK D u) : KK D U := fun c q hq => u_Kn_moved hvm (h c q hq)
theorem Rep.moved {D A ρ dA u U sh mi mr H} (hvm : u.vm.Alike U.vm) (h : Rep D A ρ dA u sh mi mr H) : Rep D A ρ dA U sh mi mr H :=
  ⟨h.1, h.2.1, fun k t n hk => ⟨arrOfT_moved hvm (h.2.2.1 k t n hk).1, (h.2.2.1 k t n hk).2.moved hvm⟩, h.2.2.2.1.moved hvm, h.2.2.2.2⟩
/-- a set of addresses by another -/
theorem Rep.weaken {D A B ρ dA s sh mi mr H} (h : Rep D A ρ dA s sh mi mr H) (hAB : ∀ q, A q → B q) : Rep D B ρ dA s sh mi mr H :=
  ⟨h.1, h.2.1.weaken (fun _ q _ hq => hAB q.1 hq), h.2.2⟩
theorem Rep.tys {D A ρ dA s sh mi mr H} (h : Rep D A ρ dA s sh mi mr H) {k t n : Nat} (hk : sh[k]? = some (.inr (t, n))) : va_K D vwCl [(dA k, tyOf t)] s := by
  refine ⟨h.2.2.2.1, fun j q hj => ?_⟩
  have hz : j < 1 := (List.getElem?_eq_some_iff.mp hj).1
  rw [show j = 0 by omega] at hj
  cases hj
  exact h.2.2.1 k t n hk
theorem Rep.ks {D A ρ dA s sh mi mr H} (h : Rep D A ρ dA s sh mi mr H) : va_K D vwCl [] s := ⟨h.2.2.2.1, fun j q hj => by simp at hj⟩
/-- the same shape, another memory -/
theorem Rep.store {D A ρ dA s sh mi mr mi' mr' H H1} (h : Rep D A ρ dA s sh mi mr H) (hP : va_P D vwCl (wld ρ dA sh mi' mr') H1) (hD : va_D A (wld ρ dA sh mi' mr')) (hr : ∀ (a : Nat) (j : Int) (k : Nat), a < sh.length → mr' a j = some k → k < sh.length) : Rep D A ρ dA s sh mi' mr' H1 :=
  ⟨hP, hD, h.2.2.1, h.2.2.2.1, h.2.2.2.2.1, hr⟩
/-! ===== statics ===== -/
def snm : Nat → String
  | 0 => "LEAST_VALUES"
  | 1 => "MOST_VALUES"
  | _ => "FIRST_VALUES"
def svF : Nat → Int → Int
  | 0, i => if i = 2 then 1 else 0
  | 1, i => if i = 0 then 56 else if i = 1 then 5 else 9
  | _, i => if i = 0 then 56 else if i = 1 then 1 else 2
def Sx (A : Nat → Prop) (ρ : Nat → Nat) (U : State) : Prop := (∀ w ∈ NW, va_Nw w U) ∧ va_AO "DiagonalTexts$State" U ∧
  ∀ j : Nat, j < 3 → va_Z "DiagonalTexts" (snm j) "[I" (.ref (ρ (1000 + j))) A U U.heap ∧ va_T .int (ρ (1000 + j)) 3 (fun i => .int (Int32.ofInt (svF j i))) A U U.heap
/-! ===== a method's fixed words: class, code, locals, room, constructor, script, return type ===== -/
abbrev Mt : Type := String × ByteArray × Nat × Room × Bool × Option (Nat × (Nat → Int)) × Option FieldType
def Cx (μ : Mt) (p : Program) (s : State) (m : MethodId) (args : Array Value) (meth : Method) (c : Code) (A : Nat → Prop) (ρ : Nat → Nat) : Prop :=
  p.tables.exec = Jvm.exec ∧ c.code = μ.2.1 ∧ c.maxLocals = μ.2.2.1 ∧ s.vm.findClass μ.1 = some m.cls ∧ (∀ w ∈ WS, w.before args s = true) ∧ (μ.2.2.2.2.1 = true → meth.name = "<init>") ∧ (∀ q : Nat, s.heap.size ≤ q → A q) ∧ Sx A ρ s ∧
  ∀ L xs, μ.2.2.2.2.2.1 = some (L, xs) → va_X (ρ 1003) L (fun j => Int32.ofInt (xs j)) s s.heap ∧ ρ 1003 < s.heap.size ∧ ¬ A (ρ 1003)
def RetI (ret : Option FieldType) (cc : ByteArray) (pc : Nat) (r : Option AV) : Prop :=
  (r = none ∧ ret = none ∧ decode cc pc = .ok (.return_, 1)) ∨ (∃ a, r = some (vi a) ∧ ret = some .int ∧ decode cc pc = .ok (.ireturn, 1)) ∨
  (∃ a, r = some (vi a) ∧ ret = some .boolean ∧ (a = 0 ∨ a = 1) ∧ decode cc pc = .ok (.ireturn, 1)) ∨ (∃ a, r = some (vl a) ∧ ret = some .long ∧ decode cc pc = .ok (.lreturn, 1)) ∨
  (∃ k c, r = some (vr k) ∧ ret = some (.object c) ∧ decode cc pc = .ok (.areturn, 1))
def ext (n n' : Nat) (ρ : Nat → Nat) (dA : Nat → ClassId) (ρ' : Nat → Nat) (dA' : Nat → ClassId) : Prop := ∀ a, a < n ∨ n' ≤ a → ρ' a = ρ a ∧ dA' a = dA a
theorem ext.rf {n n' ρ dA} : ext n n' ρ dA ρ dA := fun _ _ => ⟨rfl, rfl⟩
theorem ext.tr {n n1 n' ρ dA ρ1 dA1 ρ' dA'} (h : ext n n1 ρ dA ρ1 dA1) (h' : ext n1 n' ρ1 dA1 ρ' dA') (h1 : n ≤ n1) (h2 : n1 ≤ n') : ext n n' ρ dA ρ' dA' := by
  intro a ha
  have e1 := h a (by omega)
  have e2 := h' a (by omega)
  exact ⟨e2.1.trans e1.1, e2.2.trans e1.2⟩
abbrev PQ : Type := Option AV → ShT → MI → MR → Prop
def Hd (μ : Mt) (Q : PQ) (p : Program) (l : Launch) (e : Env) (s : State) (m : MethodId) (args : Array Value) (below : List Frame) (meth : Method) (c : Code) (D : va_G) (A : Nat → Prop) (ρ : Nat → Nat) (dA : Nat → ClassId) (n0 : Nat) (Qm : State → Prop) : Prop :=
  ∀ (r : Option AV) (sh : ShT) (mi : MI) (mr : MR) (ρ' : Nat → Nat) (dA' : Nat → ClassId) (H : Heap) (locs : List Loc) (k n pc : Nat) (la : Array Slot), ext n0 sh.length ρ dA ρ' dA' → n0 ≤ sh.length → Q r sh mi mr → Rep D A ρ' dA' s sh mi mr H → va_S A s.heap H locs → k ≤ μ.2.2.2.1.cells → n ≤ μ.2.2.2.1.slots → RetI μ.2.2.2.2.2.2 μ.2.1 pc r →
    W p l e μ.2.2.2.1 s m args below meth c H locs k n Qm (F0 m pc la (r.map (rv ρ')).toList)
def lok (ρ : Nat → Nat) (la : Array Slot) (nL : Nat) (ls : List (Option AV)) : Prop := la.size = nL ∧ lv_wf la ∧ ∀ (i : Nat) (v : AV), ls[i]? = some (some v) → la[i]? = some (.val (rv ρ v))
/-- from here, with this memory, these locals and this stack, the method comes to its end with Q -/
def V (μ : Mt) (Q : PQ) (k n : Nat) (sh : ShT) (mi : MI) (mr : MR) (ls : List (Option AV)) (st : List AV) (pc : Nat) : Prop :=
  ∀ (p : Program) (l : Launch) (e : Env) (s : State) (m : MethodId) (args : Array Value) (below : List Frame) (meth : Method) (c : Code) (D : va_G) (A : Nat → Prop) (ρ : Nat → Nat) (dA : Nat → ClassId) (H : Heap) (locs : List Loc) (la : Array Slot) (Qm : State → Prop),
    Cx μ p s m args meth c A ρ → Rep D A ρ dA s sh mi mr H → va_S A s.heap H locs → lok ρ la μ.2.2.1 ls → Hd μ Q p l e s m args below meth c D A ρ dA sh.length Qm →
    W p l e μ.2.2.2.1 s m args below meth c H locs k n Qm (F0 m pc la (st.map (rv ρ)))
abbrev rng (a : Int) : Prop := -2147483648 ≤ a ∧ a < 2147483648
abbrev lrng (a : Int) : Prop := -9223372036854775808 ≤ a ∧ a < 9223372036854775808
theorem rng_toInt {a : Int} (h : rng a) : (Int32.ofInt a).toInt = a := Int32.toInt_ofInt_of_le (by omega) (by omega)
theorem lrng_toInt {a : Int} (h : lrng a) : (Int64.ofInt a).toInt = a := Int64.toInt_ofInt_of_le (by omega) (by omega)
theorem i_lt {a b : Int} (ha : rng a) (hb : rng b) : Int32.ofInt a < Int32.ofInt b ↔ a < b := by rw [Int32.lt_iff_toInt_lt, rng_toInt ha, rng_toInt hb]
theorem i_le {a b : Int} (ha : rng a) (hb : rng b) : Int32.ofInt a ≤ Int32.ofInt b ↔ a ≤ b := by rw [Int32.le_iff_toInt_le, rng_toInt ha, rng_toInt hb]
theorem i_eq {a b : Int} (ha : rng a) (hb : rng b) : Int32.ofInt a = Int32.ofInt b ↔ a = b := by rw [← Int32.toInt_inj, rng_toInt ha, rng_toInt hb]
theorem l_lt {a b : Int} (ha : lrng a) (hb : lrng b) : Int64.ofInt a < Int64.ofInt b ↔ a < b := by rw [Int64.lt_iff_toInt_lt, lrng_toInt ha, lrng_toInt hb]
theorem l_eq {a b : Int} (ha : lrng a) (hb : lrng b) : Int64.ofInt a = Int64.ofInt b ↔ a = b := by rw [← Int64.toInt_inj, lrng_toInt ha, lrng_toInt hb]
theorem i_in {a : Int} {n : Nat} (h : 0 ≤ a ∧ a < n) (hn : n ≤ 2147483648) : vp_in (Int32.ofInt a) n ∧ (Int32.ofInt a).toNatClampNeg = a.toNat := by
  have hr : rng a := ⟨by omega, by omega⟩
  refine ⟨vp_in_iff.mpr (by rw [rng_toInt hr]; exact h), Int32.toNatClampNeg_ofInt_of_le (by omega) (by omega)⟩
theorem rng0 : rng 0 := by decide
end
section
section VR
variable {μ : Mt} {Q : PQ} {k n : Nat} {sh : ShT} {mi : MI} {mr : MR} {ls : List (Option AV)} {st : List AV} {pc : Nat}
theorem V_iconst {x : Int} (hd : decode μ.2.1 pc = .ok (.iconst x, 1)) (kk : V μ Q k n sh mi mr ls (vi x :: st) (pc + 1)) : V μ Q k n sh mi mr ls (st) (pc) := by
  intro p l e s m args below meth c D A ρ dA H locs la Qm hC hR hS hL hH
  exact lv_iconst hC.1 hC.2.1 hd rfl (kk p l e s m args below meth c D A ρ dA H locs la Qm hC hR hS hL hH)
theorem V_bipush {x : Int} (hd : decode μ.2.1 pc = .ok (.bipush x, 2)) (hv : (Int8.ofInt x).toInt32 = Int32.ofInt x) (kk : V μ Q k n sh mi mr ls (vi x :: st) (pc + 2)) : V μ Q k n sh mi mr ls (st) (pc) := by
  intro p l e s m args below meth c D A ρ dA H locs la Qm hC hR hS hL hH
  exact lv_bipush hC.1 hC.2.1 hd hv (kk p l e s m args below meth c D A ρ dA H locs la Qm hC hR hS hL hH)
theorem V_sipush {x : Int} (hd : decode μ.2.1 pc = .ok (.sipush x, 3)) (hv : (Int16.ofInt x).toInt32 = Int32.ofInt x) (kk : V μ Q k n sh mi mr ls (vi x :: st) (pc + 3)) : V μ Q k n sh mi mr ls (st) (pc) := by
  intro p l e s m args below meth c D A ρ dA H locs la Qm hC hR hS hL hH
  exact lv_sipush hC.1 hC.2.1 hd hv (kk p l e s m args below meth c D A ρ dA H locs la Qm hC hR hS hL hH)
theorem V_lconst {x : Fin 2} (y : Int) (hd : decode μ.2.1 pc = .ok (.lconst x, 1)) (hv : Int64.ofNat (x : Nat) = Int64.ofInt y) (kk : V μ Q k n sh mi mr ls (vl y :: st) (pc + 1)) : V μ Q k n sh mi mr ls (st) (pc) := by
  intro p l e s m args below meth c D A ρ dA H locs la Qm hC hR hS hL hH
  exact lv_lconst hC.1 hC.2.1 hd hv (kk p l e s m args below meth c D A ρ dA H locs la Qm hC hR hS hL hH)
theorem V_ldc {i : Nat} (x : Int) {v : Int32} (hd : decode μ.2.1 pc = .ok (.ldc i, 2)) (hw : Cond.constant μ.1 i v ∈ WS) (hv : v = Int32.ofInt x) (kk : V μ Q k n sh mi mr ls (vi x :: st) (pc + 2)) : V μ Q k n sh mi mr ls (st) (pc) := by
  intro p l e s m args below meth c D A ρ dA H locs la Qm hC hR hS hL hH
  refine lv_ldc (v := v) hC.1 hC.2.1 hC.2.2.2.1 (hC.2.2.2.2.1 _ hw) hd ?_
  rw [hv]
  exact kk p l e s m args below meth c D A ρ dA H locs la Qm hC hR hS hL hH
theorem V_iload_n {k0 : Fin 4} {a : Int} (hd : decode μ.2.1 pc = .ok (.iload_n k0, 1)) (hl : ls[(k0 : Nat)]? = some (some (vi a))) (kk : V μ Q k n sh mi mr ls (vi a :: st) (pc + 1)) : V μ Q k n sh mi mr ls (st) (pc) := by
  intro p l e s m args below meth c D A ρ dA H locs la Qm hC hR hS hL hH
  exact lv_iload_n hC.1 hC.2.1 hd rfl (hL.2.2 _ _ hl) (kk p l e s m args below meth c D A ρ dA H locs la Qm hC hR hS hL hH)
theorem V_iload {i : Nat} {a : Int} (hd : decode μ.2.1 pc = .ok (.iload i, 2)) (hl : ls[i]? = some (some (vi a))) (kk : V μ Q k n sh mi mr ls (vi a :: st) (pc + 2)) : V μ Q k n sh mi mr ls (st) (pc) := by
  intro p l e s m args below meth c D A ρ dA H locs la Qm hC hR hS hL hH
  exact lv_iload hC.1 hC.2.1 hd (hL.2.2 _ _ hl) (kk p l e s m args below meth c D A ρ dA H locs la Qm hC hR hS hL hH)
theorem V_lload_n {k0 : Fin 4} {a : Int} (hd : decode μ.2.1 pc = .ok (.lload_n k0, 1)) (hl : ls[(k0 : Nat)]? = some (some (vl a))) (kk : V μ Q k n sh mi mr ls (vl a :: st) (pc + 1)) : V μ Q k n sh mi mr ls (st) (pc) := by
  intro p l e s m args below meth c D A ρ dA H locs la Qm hC hR hS hL hH
  exact lv_lload_n hC.1 hC.2.1 hd rfl (hL.2.2 _ _ hl) (kk p l e s m args below meth c D A ρ dA H locs la Qm hC hR hS hL hH)
theorem V_lload {i : Nat} {a : Int} (hd : decode μ.2.1 pc = .ok (.lload i, 2)) (hl : ls[i]? = some (some (vl a))) (kk : V μ Q k n sh mi mr ls (vl a :: st) (pc + 2)) : V μ Q k n sh mi mr ls (st) (pc) := by
  intro p l e s m args below meth c D A ρ dA H locs la Qm hC hR hS hL hH
  exact lv_lload hC.1 hC.2.1 hd (hL.2.2 _ _ hl) (kk p l e s m args below meth c D A ρ dA H locs la Qm hC hR hS hL hH)
theorem V_aload_n {k0 : Fin 4} {a : Nat} (hd : decode μ.2.1 pc = .ok (.aload_n k0, 1)) (hl : ls[(k0 : Nat)]? = some (some (vr a))) (kk : V μ Q k n sh mi mr ls (vr a :: st) (pc + 1)) : V μ Q k n sh mi mr ls (st) (pc) := by
  intro p l e s m args below meth c D A ρ dA H locs la Qm hC hR hS hL hH
  exact lv_aload_n hC.1 hC.2.1 hd rfl (hL.2.2 _ _ hl) (kk p l e s m args below meth c D A ρ dA H locs la Qm hC hR hS hL hH)
theorem V_aload {i : Nat} {a : Nat} (hd : decode μ.2.1 pc = .ok (.aload i, 2)) (hl : ls[i]? = some (some (vr a))) (kk : V μ Q k n sh mi mr ls (vr a :: st) (pc + 2)) : V μ Q k n sh mi mr ls (st) (pc) := by
  intro p l e s m args below meth c D A ρ dA H locs la Qm hC hR hS hL hH
  exact lv_aload hC.1 hC.2.1 hd (hL.2.2 _ _ hl) (kk p l e s m args below meth c D A ρ dA H locs la Qm hC hR hS hL hH)
def lvl (ρ : Nat → Nat) (ls : List (Option AV)) : List (Nat × Value) := (List.range ls.length).filterMap fun i => match ls[i]? with
  | some (some v) => some (i, rv ρ v)
  | _ => none
theorem lvl_mem {ρ ls} {q : Nat × Value} : q ∈ lvl ρ ls ↔ ∃ v, ls[q.1]? = some (some v) ∧ q.2 = rv ρ v := by
  constructor
  · intro h
    obtain ⟨i, hi, h⟩ := List.mem_filterMap.mp h
    cases hx : ls[i]? with
    | none => rw [hx] at h; cases h
    | some o =>
      cases o with
      | none => rw [hx] at h; cases h
      | some v => rw [hx] at h; cases h; exact ⟨v, hx, rfl⟩
  · rintro ⟨v, h1, h2⟩
    refine List.mem_filterMap.mpr ⟨q.1, List.mem_range.mpr (lt_of_get h1), ?_⟩
    rw [h1]
    show some (q.1, rv ρ v) = some q
    rw [← h2]
theorem lok.has {ρ la nL ls} (h : lok ρ la nL ls) : lv_has la nL (lvl ρ ls) := ⟨h.1, h.2.1, fun q hq => by
  obtain ⟨v, h1, h2⟩ := lvl_mem.mp hq
  rw [h2]
  exact h.2.2 _ _ h1⟩
/-- the place ahead holds no long -/
def nlg (ls : List (Option AV)) : Nat → Bool
  | 0 => true
  | j + 1 => match ls[j]? with
    | some (some (.inr (.inl _))) => false
    | _ => true
def acat : AV → Nat
  | .inr (.inl _) => 2
  | _ => 1
theorem acat_eq (ρ : Nat → Nat) (v : AV) : (rv ρ v).category = acat v := by
  rcases v with a | a | r
  · rfl
  · rfl
  · cases r <;> rfl
theorem nlg_spec {ρ ls i j} {v : AV} (h : nlg ls i = true) (hj : ls[j]? = some (some v)) (hi : j + 1 = i) : ((rv ρ v).category == 2) = false := by
  subst hi
  rw [acat_eq]
  simp only [nlg, hj] at h
  rcases v with a | a | r
  · rfl
  · cases h
  · rfl
theorem lok_set1 {ρ la nL ls i} {v : AV} {lv' : List (Nat × Value)} (hn : nlg ls i = true) (hi : i < ls.length) (hl : (i, rv ρ v) :: (lvl ρ ls).filter (fun q => !(q.1 == i) && !(q.1 + 1 == i && q.2.category == 2)) = lv') (h : lv_has la nL lv') : lok ρ la nL (ls.set i (some v)) := by
  refine ⟨h.1, h.2.1, fun j w hj => ?_⟩
  subst hl
  by_cases hij : j = i
  · subst hij
    rw [List.getElem?_set_self hi] at hj
    cases hj
    exact h.2.2 _ List.mem_cons_self
  · rw [List.getElem?_set_ne (Ne.symm hij)] at hj
    refine h.2.2 (j, rv ρ w) (List.mem_cons_of_mem _ (List.mem_filter.mpr ⟨lvl_mem.mpr ⟨w, hj, rfl⟩, ?_⟩))
    by_cases hc : j + 1 = i
    · simp [hij, nlg_spec (ρ := ρ) hn hj hc]
    · simp [hij, hc]
theorem lok_set2 {ρ la nL ls i} {v : AV} {lv' : List (Nat × Value)} (hn : nlg ls i = true) (hi : i + 1 < ls.length) (hl : (i, rv ρ v) :: (lvl ρ ls).filter (fun q => !(q.1 == i) && (!(q.1 == i + 1) && !(q.1 + 1 == i && q.2.category == 2))) = lv') (h : lv_has la nL lv') : lok ρ la nL ((ls.set i (some v)).set (i + 1) none) := by
  refine ⟨h.1, h.2.1, fun j w hj => ?_⟩
  subst hl
  by_cases hij1 : j = i + 1
  · subst hij1
    rw [List.getElem?_set_self (by simp; exact hi)] at hj
    cases hj
  rw [List.getElem?_set_ne (Ne.symm hij1)] at hj
  by_cases hij : j = i
  · subst hij
    rw [List.getElem?_set_self (by omega)] at hj
    cases hj
    exact h.2.2 _ List.mem_cons_self
  · rw [List.getElem?_set_ne (Ne.symm hij)] at hj
    refine h.2.2 (j, rv ρ w) (List.mem_cons_of_mem _ (List.mem_filter.mpr ⟨lvl_mem.mpr ⟨w, hj, rfl⟩, ?_⟩))
    by_cases hc : j + 1 = i
    · simp [hij, hij1, nlg_spec (ρ := ρ) hn hj hc]
    · simp [hij, hij1, hc]
theorem V_istore_n {k0 : Fin 4} {a : Int} (hd : decode μ.2.1 pc = .ok (.istore_n k0, 1)) (hn : (k0 : Nat) < ls.length ∧ ls.length = μ.2.2.1 ∧ nlg ls (k0 : Nat) = true) (kk : V μ Q k n sh mi mr (ls.set (k0 : Nat) (some (vi a))) (st) (pc + 1)) : V μ Q k n sh mi mr ls (vi a :: st) (pc) := by
  intro p l e s m args below meth c D A ρ dA H locs la Qm hC hR hS hL hH
  exact lv_istore_n hC.1 hC.2.1 hd rfl hL.has (by rw [← hn.2.1]; exact hn.1) rfl (fun la' hl' => kk p l e s m args below meth c D A ρ dA H locs la' Qm hC hR hS (lok_set1 hn.2.2 hn.1 (v := vi a) rfl hl') hH)
theorem V_istore {i : Nat} {a : Int} (hd : decode μ.2.1 pc = .ok (.istore i, 2)) (hn : i < ls.length ∧ ls.length = μ.2.2.1 ∧ nlg ls i = true) (kk : V μ Q k n sh mi mr (ls.set i (some (vi a))) (st) (pc + 2)) : V μ Q k n sh mi mr ls (vi a :: st) (pc) := by
  intro p l e s m args below meth c D A ρ dA H locs la Qm hC hR hS hL hH
  exact lv_istore hC.1 hC.2.1 hd hL.has (by rw [← hn.2.1]; exact hn.1) rfl (fun la' hl' => kk p l e s m args below meth c D A ρ dA H locs la' Qm hC hR hS (lok_set1 hn.2.2 hn.1 (v := vi a) rfl hl') hH)
theorem V_astore_n {k0 : Fin 4} {a : Nat} (hd : decode μ.2.1 pc = .ok (.astore_n k0, 1)) (hn : (k0 : Nat) < ls.length ∧ ls.length = μ.2.2.1 ∧ nlg ls (k0 : Nat) = true) (kk : V μ Q k n sh mi mr (ls.set (k0 : Nat) (some (vr a))) (st) (pc + 1)) : V μ Q k n sh mi mr ls (vr a :: st) (pc) := by
  intro p l e s m args below meth c D A ρ dA H locs la Qm hC hR hS hL hH
  exact lv_astore_n hC.1 hC.2.1 hd rfl hL.has (by rw [← hn.2.1]; exact hn.1) rfl (fun la' hl' => kk p l e s m args below meth c D A ρ dA H locs la' Qm hC hR hS (lok_set1 hn.2.2 hn.1 (v := vr a) rfl hl') hH)
theorem V_astore {i : Nat} {a : Nat} (hd : decode μ.2.1 pc = .ok (.astore i, 2)) (hn : i < ls.length ∧ ls.length = μ.2.2.1 ∧ nlg ls i = true) (kk : V μ Q k n sh mi mr (ls.set i (some (vr a))) (st) (pc + 2)) : V μ Q k n sh mi mr ls (vr a :: st) (pc) := by
  intro p l e s m args below meth c D A ρ dA H locs la Qm hC hR hS hL hH
  exact lv_astore hC.1 hC.2.1 hd hL.has (by rw [← hn.2.1]; exact hn.1) rfl (fun la' hl' => kk p l e s m args below meth c D A ρ dA H locs la' Qm hC hR hS (lok_set1 hn.2.2 hn.1 (v := vr a) rfl hl') hH)
theorem V_lstore {i : Nat} {a : Int} (hd : decode μ.2.1 pc = .ok (.lstore i, 2)) (hn : i + 1 < ls.length ∧ ls.length = μ.2.2.1 ∧ nlg ls i = true) (kk : V μ Q k n sh mi mr ((ls.set i (some (vl a))).set (i + 1) none) (st) (pc + 2)) : V μ Q k n sh mi mr ls (vl a :: st) (pc) := by
  intro p l e s m args below meth c D A ρ dA H locs la Qm hC hR hS hL hH
  exact lv_lstore hC.1 hC.2.1 hd hL.has (by rw [← hn.2.1]; exact hn.1) rfl (fun la' hl' => kk p l e s m args below meth c D A ρ dA H locs la' Qm hC hR hS (lok_set2 hn.2.2 hn.1 (v := vl a) rfl hl') hH)
theorem V_iinc {i : Nat} {d a : Int} (hd : decode μ.2.1 pc = .ok (.iinc i d, 3)) (hl : ls[i]? = some (some (vi a))) (hn : ls.length = μ.2.2.1 ∧ nlg ls i = true) (kk : V μ Q k n sh mi mr (ls.set i (some (vi (a + d)))) (st) (pc + 3)) : V μ Q k n sh mi mr ls (st) (pc) := by
  intro p l e s m args below meth c D A ρ dA H locs la Qm hC hR hS hL hH
  obtain ⟨j, hj⟩ := List.getElem?_of_mem (lvl_mem (ρ := ρ) (ls := ls) (q := (i, .int (Int32.ofInt a))) |>.mpr ⟨vi a, hl, rfl⟩)
  exact lv_iinc (v := Int32.ofInt (a + d)) hC.1 hC.2.1 hd hL.has hj (Int32.ofInt_add a d).symm (by rw [← hn.1]; exact lt_of_get hl) rfl (fun la' hl' => kk p l e s m args below meth c D A ρ dA H locs la' Qm hC hR hS (lok_set1 hn.2 (lt_of_get hl) (v := vi (a + d)) rfl hl') hH)
theorem V_iadd {a b : Int} (hd : decode μ.2.1 pc = .ok (.iadd, 1)) (kk : V μ Q k n sh mi mr ls (vi (a + b) :: st) (pc + 1)) : V μ Q k n sh mi mr ls (vi b :: vi a :: st) (pc) := by
  intro p l e s m args below meth c D A ρ dA H locs la Qm hC hR hS hL hH
  refine lv_iadd hC.1 hC.2.1 hd ?_
  rw [← Int32.ofInt_add a b]
  exact kk p l e s m args below meth c D A ρ dA H locs la Qm hC hR hS hL hH
theorem V_isub {a b : Int} (hd : decode μ.2.1 pc = .ok (.isub, 1)) (kk : V μ Q k n sh mi mr ls (vi (a - b) :: st) (pc + 1)) : V μ Q k n sh mi mr ls (vi b :: vi a :: st) (pc) := by
  intro p l e s m args below meth c D A ρ dA H locs la Qm hC hR hS hL hH
  refine lv_isub hC.1 hC.2.1 hd ?_
  rw [← Int32.ofInt_sub a b]
  exact kk p l e s m args below meth c D A ρ dA H locs la Qm hC hR hS hL hH
theorem V_imul {a b : Int} (hd : decode μ.2.1 pc = .ok (.imul, 1)) (kk : V μ Q k n sh mi mr ls (vi (a * b) :: st) (pc + 1)) : V μ Q k n sh mi mr ls (vi b :: vi a :: st) (pc) := by
  intro p l e s m args below meth c D A ρ dA H locs la Qm hC hR hS hL hH
  refine lv_imul hC.1 hC.2.1 hd ?_
  rw [← Int32.ofInt_mul a b]
  exact kk p l e s m args below meth c D A ρ dA H locs la Qm hC hR hS hL hH
theorem V_ineg {a : Int} (hd : decode μ.2.1 pc = .ok (.ineg, 1)) (kk : V μ Q k n sh mi mr ls (vi (-a) :: st) (pc + 1)) : V μ Q k n sh mi mr ls (vi a :: st) (pc) := by
  intro p l e s m args below meth c D A ρ dA H locs la Qm hC hR hS hL hH
  refine lv_ineg hC.1 hC.2.1 hd ?_
  rw [← Int32.ofInt_neg a]
  exact kk p l e s m args below meth c D A ρ dA H locs la Qm hC hR hS hL hH
theorem V_ladd {a b : Int} (hd : decode μ.2.1 pc = .ok (.ladd, 1)) (kk : V μ Q k n sh mi mr ls (vl (a + b) :: st) (pc + 1)) : V μ Q k n sh mi mr ls (vl b :: vl a :: st) (pc) := by
  intro p l e s m args below meth c D A ρ dA H locs la Qm hC hR hS hL hH
  refine lv_ladd hC.1 hC.2.1 hd ?_
  rw [← Int64.ofInt_add a b]
  exact kk p l e s m args below meth c D A ρ dA H locs la Qm hC hR hS hL hH
theorem i_div {a b : Int} (ha : 0 ≤ a ∧ a < 2147483648) (hb : 0 < b ∧ b < 2147483648) : Int32.ofInt a / Int32.ofInt b = Int32.ofInt (a / b) := by
  have h0 : a / b ≤ a := Int.ediv_le_self b ha.1
  have h1 : 0 ≤ a / b := Int.ediv_nonneg ha.1 (by omega)
  rw [← Int32.toInt_inj, Int32.toInt_div_of_ne_right _ _ (fun h => by
    have := congrArg Int32.toInt h
    rw [rng_toInt ⟨by omega, by omega⟩] at this
    have e : (-1 : Int32).toInt = -1 := rfl
    omega), rng_toInt ⟨by omega, by omega⟩, rng_toInt ⟨by omega, by omega⟩, rng_toInt ⟨by omega, by omega⟩, Int.tdiv_eq_ediv_of_nonneg ha.1]
theorem i_ne0 {b : Int} (hb : 0 < b ∧ b < 2147483648) : ¬ Int32.ofInt b = 0 := fun h => by
  have := (i_eq (a := b) (b := 0) ⟨by omega, by omega⟩ rng0).mp h
  omega
theorem V_idiv {a b : Int} (hd : decode μ.2.1 pc = .ok (.idiv, 1)) (ha : 0 ≤ a ∧ a < 2147483648) (hb : 0 < b ∧ b < 2147483648) (kk : V μ Q k n sh mi mr ls (vi (a / b) :: st) (pc + 1)) : V μ Q k n sh mi mr ls (vi b :: vi a :: st) (pc) := by
  intro p l e s m args below meth c D A ρ dA H locs la Qm hC hR hS hL hH
  refine lv_idiv hC.1 hC.2.1 hd (i_ne0 hb) ?_
  rw [i_div ha hb]
  exact kk p l e s m args below meth c D A ρ dA H locs la Qm hC hR hS hL hH
theorem V_irem {a b : Int} (hd : decode μ.2.1 pc = .ok (.irem, 1)) (ha : 0 ≤ a ∧ a < 2147483648) (hb : 0 < b ∧ b < 2147483648) (kk : V μ Q k n sh mi mr ls (vi (a % b) :: st) (pc + 1)) : V μ Q k n sh mi mr ls (vi b :: vi a :: st) (pc) := by
  intro p l e s m args below meth c D A ρ dA H locs la Qm hC hR hS hL hH
  refine lv_irem hC.1 hC.2.1 hd (i_ne0 hb) ?_
  rw [i_div ha hb, ← Int32.ofInt_mul, ← Int32.ofInt_sub, show a - a / b * b = a % b by rw [Int.emod_def, Int.mul_comm]]
  exact kk p l e s m args below meth c D A ρ dA H locs la Qm hC hR hS hL hH
theorem V_i2c {a : Int} (hd : decode μ.2.1 pc = .ok (.i2c, 1)) (ha : 0 ≤ a ∧ a < 65536) (kk : V μ Q k n sh mi mr ls (vi a :: st) (pc + 1)) : V μ Q k n sh mi mr ls (vi a :: st) (pc) := by
  intro p l e s m args below meth c D A ρ dA H locs la Qm hC hR hS hL hH
  refine lv_i2c (v := Int32.ofInt a) hC.1 hC.2.1 hd ?_ (kk p l e s m args below meth c D A ρ dA H locs la Qm hC hR hS hL hH)
  obtain ⟨j, rfl⟩ := Int.eq_ofNat_of_zero_le ha.1
  rw [pk_char]
  have e : Int32.ofInt (j : Int) = nI j := by rw [Int32.ofInt_eq_ofNat]; rfl
  rw [e, pk_tn (by omega), Nat.mod_eq_of_lt (by omega)]
theorem V_l2i {a : Int} (hd : decode μ.2.1 pc = .ok (.l2i, 1)) (kk : V μ Q k n sh mi mr ls (vi a :: st) (pc + 1)) : V μ Q k n sh mi mr ls (vl a :: st) (pc) := by
  intro p l e s m args below meth c D A ρ dA H locs la Qm hC hR hS hL hH
  exact lv_l2i (v := Int32.ofInt a) hC.1 hC.2.1 hd Int64.toInt32_ofInt (kk p l e s m args below meth c D A ρ dA H locs la Qm hC hR hS hL hH)
theorem V_lcmp {a b : Int} (hd : decode μ.2.1 pc = .ok (.lcmp, 1)) (ha : lrng a) (hb : lrng b) (kk : V μ Q k n sh mi mr ls (vi (if a > b then 1 else if a = b then 0 else -1) :: st) (pc + 1)) : V μ Q k n sh mi mr ls (vl b :: vl a :: st) (pc) := by
  intro p l e s m args below meth c D A ρ dA H locs la Qm hC hR hS hL hH
  refine W.lcmp hC.1 hC.2.1 hd ?_
  have ec : lg_cmp (Int64.ofInt a) (Int64.ofInt b) = Int32.ofInt (if a > b then 1 else if a = b then 0 else -1) := by
    unfold lg_cmp
    simp only [gt_iff_lt, l_lt hb ha, l_eq ha hb]
    split
    · rfl
    · split <;> rfl
  rw [ec]
  exact kk p l e s m args below meth c D A ρ dA H locs la Qm hC hR hS hL hH
theorem V_lcmp_same {a : Int} (hd : decode μ.2.1 pc = .ok (.lcmp, 1)) (kk : V μ Q k n sh mi mr ls (vi 0 :: st) (pc + 1)) : V μ Q k n sh mi mr ls (vl a :: vl a :: st) (pc) := by
  intro p l e s m args below meth c D A ρ dA H locs la Qm hC hR hS hL hH
  refine W.lcmp hC.1 hC.2.1 hd ?_
  have ec : lg_cmp (Int64.ofInt a) (Int64.ofInt a) = Int32.ofInt 0 := by
    unfold lg_cmp
    simp [Int64.lt_irrefl]
  rw [ec]
  exact kk p l e s m args below meth c D A ρ dA H locs la Qm hC hR hS hL hH
theorem V_dup {v : AV} (hd : decode μ.2.1 pc = .ok (.dup, 1)) (hv : acat v = 1) (kk : V μ Q k n sh mi mr ls (v :: v :: st) (pc + 1)) : V μ Q k n sh mi mr ls (v :: st) (pc) := by
  intro p l e s m args below meth c D A ρ dA H locs la Qm hC hR hS hL hH
  exact lv_dup hC.1 hC.2.1 hd (by rw [acat_eq]; exact hv) (kk p l e s m args below meth c D A ρ dA H locs la Qm hC hR hS hL hH)
theorem V_pop {v : AV} (hd : decode μ.2.1 pc = .ok (.pop, 1)) (hv : acat v = 1) (kk : V μ Q k n sh mi mr ls (st) (pc + 1)) : V μ Q k n sh mi mr ls (v :: st) (pc) := by
  intro p l e s m args below meth c D A ρ dA H locs la Qm hC hR hS hL hH
  exact lv_pop hC.1 hC.2.1 hd (by rw [acat_eq]; exact hv) (kk p l e s m args below meth c D A ρ dA H locs la Qm hC hR hS hL hH)
theorem V_dup2 {v w : AV} (hd : decode μ.2.1 pc = .ok (.dup2, 1)) (hv : acat v = 1) (hw : acat w = 1) (kk : V μ Q k n sh mi mr ls (v :: w :: v :: w :: st) (pc + 1)) : V μ Q k n sh mi mr ls (v :: w :: st) (pc) := by
  intro p l e s m args below meth c D A ρ dA H locs la Qm hC hR hS hL hH
  exact lv_dup2_11 hC.1 hC.2.1 hd (by rw [acat_eq]; exact hv) (by rw [acat_eq]; exact hw) (kk p l e s m args below meth c D A ρ dA H locs la Qm hC hR hS hL hH)
theorem V_goto {off : Int} (tgt : Nat) (hd : decode μ.2.1 pc = .ok (.goto off, 3)) (ht : (pc : Int) + off = (tgt : Int)) (kk : V μ Q k n sh mi mr ls (st) (tgt)) : V μ Q k n sh mi mr ls (st) (pc) := by
  intro p l e s m args below meth c D A ρ dA H locs la Qm hC hR hS hL hH
  exact lv_goto hC.1 hC.2.1 hd ht (kk p l e s m args below meth c D A ρ dA H locs la Qm hC hR hS hL hH)
theorem V_icmp_eq {a b off : Int} (tgt : Nat) (hd : decode μ.2.1 pc = .ok (.if_icmp .eq off, 3)) (ht : (pc : Int) + off = (tgt : Int)) (ha : rng a) (hb : rng b) (kt : a = b → V μ Q k n sh mi mr ls (st) (tgt)) (kf : ¬ (a = b) → V μ Q k n sh mi mr ls (st) (pc + 3)) : V μ Q k n sh mi mr ls (vi b :: vi a :: st) (pc) := by
  intro p l e s m args below meth c D A ρ dA H locs la Qm hC hR hS hL hH
  refine lv_icmp_eq hC.1 hC.2.1 hd ht (fun h => ?_) (fun h => ?_)
  · have h := (show _ ↔ a = b from i_eq ha hb).mp h
    exact kt h p l e s m args below meth c D A ρ dA H locs la Qm hC hR hS hL hH
  · have h : ¬ (a = b) := fun g => h ((show _ ↔ a = b from i_eq ha hb).mpr g)
    exact kf h p l e s m args below meth c D A ρ dA H locs la Qm hC hR hS hL hH
theorem V_if_eq {a off : Int} (tgt : Nat) (hd : decode μ.2.1 pc = .ok (.ifCond .eq off, 3)) (ht : (pc : Int) + off = (tgt : Int)) (ha : rng a) (kt : a = 0 → V μ Q k n sh mi mr ls (st) (tgt)) (kf : ¬ (a = 0) → V μ Q k n sh mi mr ls (st) (pc + 3)) : V μ Q k n sh mi mr ls (vi a :: st) (pc) := by
  intro p l e s m args below meth c D A ρ dA H locs la Qm hC hR hS hL hH
  refine lv_if_eq hC.1 hC.2.1 hd ht (fun h => ?_) (fun h => ?_)
  · have h := (show _ ↔ a = 0 from i_eq ha rng0).mp h
    exact kt h p l e s m args below meth c D A ρ dA H locs la Qm hC hR hS hL hH
  · have h : ¬ (a = 0) := fun g => h ((show _ ↔ a = 0 from i_eq ha rng0).mpr g)
    exact kf h p l e s m args below meth c D A ρ dA H locs la Qm hC hR hS hL hH
theorem V_icmp_lt {a b off : Int} (tgt : Nat) (hd : decode μ.2.1 pc = .ok (.if_icmp .lt off, 3)) (ht : (pc : Int) + off = (tgt : Int)) (ha : rng a) (hb : rng b) (kt : a < b → V μ Q k n sh mi mr ls (st) (tgt)) (kf : ¬ (a < b) → V μ Q k n sh mi mr ls (st) (pc + 3)) : V μ Q k n sh mi mr ls (vi b :: vi a :: st) (pc) := by
  intro p l e s m args below meth c D A ρ dA H locs la Qm hC hR hS hL hH
  refine lv_icmp_lt hC.1 hC.2.1 hd ht (fun h => ?_) (fun h => ?_)
  · have h := (show _ ↔ a < b from i_lt ha hb).mp h
    exact kt h p l e s m args below meth c D A ρ dA H locs la Qm hC hR hS hL hH
  · have h : ¬ (a < b) := fun g => h ((show _ ↔ a < b from i_lt ha hb).mpr g)
    exact kf h p l e s m args below meth c D A ρ dA H locs la Qm hC hR hS hL hH
theorem V_if_lt {a off : Int} (tgt : Nat) (hd : decode μ.2.1 pc = .ok (.ifCond .lt off, 3)) (ht : (pc : Int) + off = (tgt : Int)) (ha : rng a) (kt : a < 0 → V μ Q k n sh mi mr ls (st) (tgt)) (kf : ¬ (a < 0) → V μ Q k n sh mi mr ls (st) (pc + 3)) : V μ Q k n sh mi mr ls (vi a :: st) (pc) := by
  intro p l e s m args below meth c D A ρ dA H locs la Qm hC hR hS hL hH
  refine lv_if_lt hC.1 hC.2.1 hd ht (fun h => ?_) (fun h => ?_)
  · have h := (show _ ↔ a < 0 from i_lt ha rng0).mp h
    exact kt h p l e s m args below meth c D A ρ dA H locs la Qm hC hR hS hL hH
  · have h : ¬ (a < 0) := fun g => h ((show _ ↔ a < 0 from i_lt ha rng0).mpr g)
    exact kf h p l e s m args below meth c D A ρ dA H locs la Qm hC hR hS hL hH
theorem V_icmp_ge {a b off : Int} (tgt : Nat) (hd : decode μ.2.1 pc = .ok (.if_icmp .ge off, 3)) (ht : (pc : Int) + off = (tgt : Int)) (ha : rng a) (hb : rng b) (kt : b ≤ a → V μ Q k n sh mi mr ls (st) (tgt)) (kf : ¬ (b ≤ a) → V μ Q k n sh mi mr ls (st) (pc + 3)) : V μ Q k n sh mi mr ls (vi b :: vi a :: st) (pc) := by
  intro p l e s m args below meth c D A ρ dA H locs la Qm hC hR hS hL hH
  refine lv_icmp_ge hC.1 hC.2.1 hd ht (fun h => ?_) (fun h => ?_)
  · have h := (show _ ↔ b ≤ a from i_le hb ha).mp h
    exact kt h p l e s m args below meth c D A ρ dA H locs la Qm hC hR hS hL hH
  · have h : ¬ (b ≤ a) := fun g => h ((show _ ↔ b ≤ a from i_le hb ha).mpr g)
    exact kf h p l e s m args below meth c D A ρ dA H locs la Qm hC hR hS hL hH
theorem V_if_ge {a off : Int} (tgt : Nat) (hd : decode μ.2.1 pc = .ok (.ifCond .ge off, 3)) (ht : (pc : Int) + off = (tgt : Int)) (ha : rng a) (kt : 0 ≤ a → V μ Q k n sh mi mr ls (st) (tgt)) (kf : ¬ (0 ≤ a) → V μ Q k n sh mi mr ls (st) (pc + 3)) : V μ Q k n sh mi mr ls (vi a :: st) (pc) := by
  intro p l e s m args below meth c D A ρ dA H locs la Qm hC hR hS hL hH
  refine lv_if_ge hC.1 hC.2.1 hd ht (fun h => ?_) (fun h => ?_)
  · have h := (show _ ↔ 0 ≤ a from i_le rng0 ha).mp h
    exact kt h p l e s m args below meth c D A ρ dA H locs la Qm hC hR hS hL hH
  · have h : ¬ (0 ≤ a) := fun g => h ((show _ ↔ 0 ≤ a from i_le rng0 ha).mpr g)
    exact kf h p l e s m args below meth c D A ρ dA H locs la Qm hC hR hS hL hH
theorem V_icmp_gt {a b off : Int} (tgt : Nat) (hd : decode μ.2.1 pc = .ok (.if_icmp .gt off, 3)) (ht : (pc : Int) + off = (tgt : Int)) (ha : rng a) (hb : rng b) (kt : b < a → V μ Q k n sh mi mr ls (st) (tgt)) (kf : ¬ (b < a) → V μ Q k n sh mi mr ls (st) (pc + 3)) : V μ Q k n sh mi mr ls (vi b :: vi a :: st) (pc) := by
  intro p l e s m args below meth c D A ρ dA H locs la Qm hC hR hS hL hH
  refine lv_icmp_gt hC.1 hC.2.1 hd ht (fun h => ?_) (fun h => ?_)
  · have h := (show _ ↔ b < a from i_lt hb ha).mp h
    exact kt h p l e s m args below meth c D A ρ dA H locs la Qm hC hR hS hL hH
  · have h : ¬ (b < a) := fun g => h ((show _ ↔ b < a from i_lt hb ha).mpr g)
    exact kf h p l e s m args below meth c D A ρ dA H locs la Qm hC hR hS hL hH
theorem V_if_gt {a off : Int} (tgt : Nat) (hd : decode μ.2.1 pc = .ok (.ifCond .gt off, 3)) (ht : (pc : Int) + off = (tgt : Int)) (ha : rng a) (kt : 0 < a → V μ Q k n sh mi mr ls (st) (tgt)) (kf : ¬ (0 < a) → V μ Q k n sh mi mr ls (st) (pc + 3)) : V μ Q k n sh mi mr ls (vi a :: st) (pc) := by
  intro p l e s m args below meth c D A ρ dA H locs la Qm hC hR hS hL hH
  refine lv_if_gt hC.1 hC.2.1 hd ht (fun h => ?_) (fun h => ?_)
  · have h := (show _ ↔ 0 < a from i_lt rng0 ha).mp h
    exact kt h p l e s m args below meth c D A ρ dA H locs la Qm hC hR hS hL hH
  · have h : ¬ (0 < a) := fun g => h ((show _ ↔ 0 < a from i_lt rng0 ha).mpr g)
    exact kf h p l e s m args below meth c D A ρ dA H locs la Qm hC hR hS hL hH
theorem V_icmp_le {a b off : Int} (tgt : Nat) (hd : decode μ.2.1 pc = .ok (.if_icmp .le off, 3)) (ht : (pc : Int) + off = (tgt : Int)) (ha : rng a) (hb : rng b) (kt : a ≤ b → V μ Q k n sh mi mr ls (st) (tgt)) (kf : ¬ (a ≤ b) → V μ Q k n sh mi mr ls (st) (pc + 3)) : V μ Q k n sh mi mr ls (vi b :: vi a :: st) (pc) := by
  intro p l e s m args below meth c D A ρ dA H locs la Qm hC hR hS hL hH
  refine lv_icmp_le hC.1 hC.2.1 hd ht (fun h => ?_) (fun h => ?_)
  · have h := (show _ ↔ a ≤ b from i_le ha hb).mp h
    exact kt h p l e s m args below meth c D A ρ dA H locs la Qm hC hR hS hL hH
  · have h : ¬ (a ≤ b) := fun g => h ((show _ ↔ a ≤ b from i_le ha hb).mpr g)
    exact kf h p l e s m args below meth c D A ρ dA H locs la Qm hC hR hS hL hH
theorem V_if_le {a off : Int} (tgt : Nat) (hd : decode μ.2.1 pc = .ok (.ifCond .le off, 3)) (ht : (pc : Int) + off = (tgt : Int)) (ha : rng a) (kt : a ≤ 0 → V μ Q k n sh mi mr ls (st) (tgt)) (kf : ¬ (a ≤ 0) → V μ Q k n sh mi mr ls (st) (pc + 3)) : V μ Q k n sh mi mr ls (vi a :: st) (pc) := by
  intro p l e s m args below meth c D A ρ dA H locs la Qm hC hR hS hL hH
  refine lv_if_le hC.1 hC.2.1 hd ht (fun h => ?_) (fun h => ?_)
  · have h := (show _ ↔ a ≤ 0 from i_le ha rng0).mp h
    exact kt h p l e s m args below meth c D A ρ dA H locs la Qm hC hR hS hL hH
  · have h : ¬ (a ≤ 0) := fun g => h ((show _ ↔ a ≤ 0 from i_le ha rng0).mpr g)
    exact kf h p l e s m args below meth c D A ρ dA H locs la Qm hC hR hS hL hH
theorem V_icmp_ne {a b off : Int} (tgt : Nat) (hd : decode μ.2.1 pc = .ok (.if_icmp .ne off, 3)) (ht : (pc : Int) + off = (tgt : Int)) (ha : rng a) (hb : rng b) (kt : ¬ (a = b) → V μ Q k n sh mi mr ls (st) (tgt)) (kf : a = b → V μ Q k n sh mi mr ls (st) (pc + 3)) : V μ Q k n sh mi mr ls (vi b :: vi a :: st) (pc) := by
  intro p l e s m args below meth c D A ρ dA H locs la Qm hC hR hS hL hH
  refine lv_icmp_ne hC.1 hC.2.1 hd ht (fun h => ?_) (fun h => ?_)
  · have h : ¬ (a = b) := fun g => h ((i_eq ha hb).mpr g)
    exact kt h p l e s m args below meth c D A ρ dA H locs la Qm hC hR hS hL hH
  · have h := (i_eq ha hb).mp h
    exact kf h p l e s m args below meth c D A ρ dA H locs la Qm hC hR hS hL hH
theorem V_if_ne {a off : Int} (tgt : Nat) (hd : decode μ.2.1 pc = .ok (.ifCond .ne off, 3)) (ht : (pc : Int) + off = (tgt : Int)) (ha : rng a) (kt : ¬ (a = 0) → V μ Q k n sh mi mr ls (st) (tgt)) (kf : a = 0 → V μ Q k n sh mi mr ls (st) (pc + 3)) : V μ Q k n sh mi mr ls (vi a :: st) (pc) := by
  intro p l e s m args below meth c D A ρ dA H locs la Qm hC hR hS hL hH
  refine lv_if_ne hC.1 hC.2.1 hd ht (fun h => ?_) (fun h => ?_)
  · have h : ¬ (a = 0) := fun g => h ((i_eq ha rng0).mpr g)
    exact kt h p l e s m args below meth c D A ρ dA H locs la Qm hC hR hS hL hH
  · have h := (i_eq ha rng0).mp h
    exact kf h p l e s m args below meth c D A ρ dA H locs la Qm hC hR hS hL hH
theorem V_icmp_same {a off : Int} (tgt : Nat) (hd : decode μ.2.1 pc = .ok (.if_icmp .eq off, 3)) (ht : (pc : Int) + off = (tgt : Int)) (kt : V μ Q k n sh mi mr ls (st) (tgt)) : V μ Q k n sh mi mr ls (vi a :: vi a :: st) (pc) := by
  intro p l e s m args below meth c D A ρ dA H locs la Qm hC hR hS hL hH
  exact lv_icmp_eq hC.1 hC.2.1 hd ht (fun _ => kt p l e s m args below meth c D A ρ dA H locs la Qm hC hR hS hL hH) (fun h => absurd rfl h)
theorem V_tsw {dflt lo hi : Int} {offs : Array Int} {len : Nat} {a : Int} (off : Int) (tgt : Nat) (hd : decode μ.2.1 pc = .ok (.tableswitch dflt lo hi offs, len)) (ha : rng a) (ho : (lo ≤ a ∧ a ≤ hi ∧ offs[(a - lo).toNat]? = some off) ∨ ((a < lo ∨ hi < a) ∧ off = dflt)) (ht : (pc : Int) + off = (tgt : Int)) (kk : V μ Q k n sh mi mr ls (st) (tgt)) : V μ Q k n sh mi mr ls (vi a :: st) (pc) := by
  intro p l e s m args below meth c D A ρ dA H locs la Qm hC hR hS hL hH
  rcases ho with ⟨h1, h2, h3⟩ | ⟨h1, h2⟩
  · exact lv_tableIn hC.1 hC.2.1 hd (by rw [rng_toInt ha]; omega) (by rw [rng_toInt ha]; omega) (by rw [rng_toInt ha]; exact h3) ht (kk p l e s m args below meth c D A ρ dA H locs la Qm hC hR hS hL hH)
  · subst h2
    exact lv_tableOut hC.1 hC.2.1 hd (by rw [rng_toInt ha]; exact h1) ht (kk p l e s m args below meth c D A ρ dA H locs la Qm hC hR hS hL hH)
theorem V_lsw {dflt : Int} {ps : Array (Int × Int)} {len : Nat} {a : Int} (off : Int) (tgt : Nat) (hd : decode μ.2.1 pc = .ok (.lookupswitch dflt ps, len)) (ha : rng a) (hp : (ps.toList.zip (ps.toList.drop 1)).all (fun (a, next) => a.1 < next.1) = true) (ho : Op.lookupswitch.offset ps.toList dflt a = off) (ht : (pc : Int) + off = (tgt : Int)) (kk : V μ Q k n sh mi mr ls (st) (tgt)) : V μ Q k n sh mi mr ls (vi a :: st) (pc) := by
  intro p l e s m args below meth c D A ρ dA H locs la Qm hC hR hS hL hH
  exact lv_lookup hC.1 hC.2.1 hd hp (by rw [rng_toInt ha]; exact ho) ht (kk p l e s m args below meth c D A ρ dA H locs la Qm hC hR hS hL hH)
end VR
end
section
/-! ===== memory rows ===== -/
def refTy : FieldType → Bool
  | .object _ => true
  | .array _ => true
  | _ => false
theorem ref_nf {t : FieldType} (h : refTy t = true) (a : Nat) : narrow t (.ref a) = .ref a ∧ fits t (.ref a) = true := by
  cases t <;> first | (exact ⟨rfl, rfl⟩) | cases h
def FTb (ci : Nat) : Prop := ∃ (C : String) (T : u_T) (N : Nat) (ty : Nat → FieldType), vwCl[ci]? = some (C, T, N) ∧ (∀ k, k < N → parseFieldDescriptor (T k).2.2.1 = some (ty k)) ∧ (∀ a, a < N → ∀ b, b < N → a ≠ b → (T a).2.1 ≠ (T b).2.1) ∧ (fl ci).length = N ∧ ∀ k, k < N → (fl ci)[k]? = some (refTy (ty k)) ∧ (refTy (ty k) = false → ty k = .int)
theorem ftb_0 : FTb 0 := ⟨RX0, TX0, 4, tyX0, rfl, tyX0_ok, nmX0, rfl, by decide +kernel⟩
theorem ftb_1 : FTb 1 := ⟨RX1, TX1, 6, tyX1, rfl, tyX1_ok, nmX1, rfl, by decide +kernel⟩
theorem ftb_2 : FTb 2 := ⟨RX2, TX2, 1, tyX2, rfl, tyX2_ok, nmX2, rfl, by decide +kernel⟩
theorem ftb_3 : FTb 3 := ⟨RX3, TX3, 2, tyX3, rfl, tyX3_ok, nmX3, rfl, by decide +kernel⟩
theorem ftb_4 : FTb 4 := ⟨RX4, TX4, 4, tyX4, rfl, tyX4_ok, nmX4, rfl, by decide +kernel⟩
theorem ftb_5 : FTb 5 := ⟨RX5, TX5, 2, tyX5, rfl, tyX5_ok, nmX5, rfl, by decide +kernel⟩
theorem ftb_6 : FTb 6 := ⟨RX6, TX6, 5, tyX6, rfl, tyX6_ok, nmX6, rfl, by decide +kernel⟩
theorem ftb_7 : FTb 7 := ⟨RX7, TX7, 2, tyX7, rfl, tyX7_ok, nmX7, rfl, by decide +kernel⟩
theorem ftb_8 : FTb 8 := ⟨RX8, TX8, 5, tyX8, rfl, tyX8_ok, nmX8, rfl, by decide +kernel⟩
theorem ftb_9 : FTb 9 := ⟨RX9, TX9, 3, tyX9, rfl, tyX9_ok, nmX9, rfl, by decide +kernel⟩
theorem ftb_10 : FTb 10 := ⟨RX10, TX10, 10, tyX10, rfl, tyX10_ok, nmX10, rfl, by decide +kernel⟩
theorem ftb_11 : FTb 11 := ⟨RX11, TX11, 25, tyX11, rfl, tyX11_ok, nmX11, rfl, by decide +kernel⟩
theorem ftb : ∀ {ci : Nat} {q : vw_C}, vwCl[ci]? = some q → FTb ci
  | 0, _, _ => ftb_0
  | 1, _, _ => ftb_1
  | 2, _, _ => ftb_2
  | 3, _, _ => ftb_3
  | 4, _, _ => ftb_4
  | 5, _, _ => ftb_5
  | 6, _, _ => ftb_6
  | 7, _, _ => ftb_7
  | 8, _, _ => ftb_8
  | 9, _, _ => ftb_9
  | 10, _, _ => ftb_10
  | 11, _, _ => ftb_11
  | k + 12, _, h => by simp [vwCl] at h
def fnl (ci k : Nat) : Bool := match vwCl[ci]? with
  | some (_, T, _) => (T k).2.2.2
  | none => false
theorem mx_code : Cond.code Lib.Math.max.name Lib.Math.max.code 2 (some .int) ∈ WS := memT 36 (by decide +kernel) (by decide +kernel)
theorem mx_stat : Cond.static Lib.Math.max.name ∈ WS := memT 35 (by decide +kernel) (by decide +kernel)
theorem mn_code : Cond.code Lib.Math.min.name Lib.Math.min.code 2 (some .int) ∈ WS := memT 509 (by decide +kernel) (by decide +kernel)
theorem mn_stat : Cond.static Lib.Math.min.name ∈ WS := memT 508 (by decide +kernel) (by decide +kernel)
theorem ml_code : Cond.code Lib.MathLoose.max_long.x Lib.MathLoose.max_long.code 4 (some .long) ∈ WS := memT 481 (by decide +kernel) (by decide +kernel)
theorem ml_stat : Cond.static Lib.MathLoose.max_long.x ∈ WS := memT 480 (by decide +kernel) (by decide +kernel)
theorem ma_init : Cond.initialized "java/lang/Math" ∈ WS := memT 4 (by decide +kernel) (by decide +kernel)
theorem oi_inst : Cond.instanceMethod Lib.objectInit ∈ WS := memT 20 (by decide +kernel) (by decide +kernel)
theorem oi_code : Cond.code Lib.objectInit ⟨#[0xb1]⟩ 1 none ∈ WS := memT 21 (by decide +kernel) (by decide +kernel)
section VM
variable {μ : Mt} {Q : PQ} {k n : Nat} {sh : ShT} {mi : MI} {mr : MR} {ls : List (Option AV)} {st : List AV} {pc : Nat}
theorem V_geti {idx ci kf : Nat} {a : Nat} (j : Int) (hd : decode μ.2.1 pc = .ok (.getfield idx, 3)) (hf : FLk μ.1 idx ci kf) (hs : sh[a]? = some (.inl ci)) (hb : (fl ci)[kf]? = some false) (hj : (kf : Int) = j) (kk : V μ Q k n sh mi mr ls (vi (mi a j) :: st) (pc + 3)) : V μ Q k n sh mi mr ls (vr a :: st) (pc) := by
  intro p l e s m args below meth c D A ρ dA H locs la Qm hC hR hS hL hH
  obtain ⟨C, T, N, hc, hk, hT, hin, hw⟩ := hf
  subst hj
  have hsame : ∀ x, s.fieldFound? (T kf).1 (T kf).2.1 (T kf).2.2.1 = some x → s.fieldFound? C (T kf).2.1 (T kf).2.2.1 = some x := fun x h => by rw [hT] at h; exact h
  rcases hw with hw | ⟨host, hw⟩
  · exact va_get hC.1 hC.2.1 hC.2.2.2.2.1 hin hC.2.2.2.1 hR.ks hR.1 a (wld_get hs) hc kf hk (hC.2.2.2.2.1 _ hw) hsame (fls_geti hb) hd (kk p l e s m args below meth c D A ρ dA H locs la Qm hC hR hS hL hH)
  · exact va_getN hC.1 hC.2.1 hC.2.2.2.2.1 hin hC.2.2.2.1 hR.ks hR.1 a (wld_get hs) hc kf hk (va_Nw.use rfl (hC.2.2.2.2.2.2.2.1.1 _ hw)) hsame (fls_geti hb) hd (kk p l e s m args below meth c D A ρ dA H locs la Qm hC hR hS hL hH)
theorem V_getr {idx ci kf : Nat} {a : Nat} (j : Int) (b : Nat) (hd : decode μ.2.1 pc = .ok (.getfield idx, 3)) (hf : FLk μ.1 idx ci kf) (hs : sh[a]? = some (.inl ci)) (hb : (fl ci)[kf]? = some true) (hj : (kf : Int) = j) (hr : mr a j = some b) (kk : V μ Q k n sh mi mr ls (vr b :: st) (pc + 3)) : V μ Q k n sh mi mr ls (vr a :: st) (pc) := by
  intro p l e s m args below meth c D A ρ dA H locs la Qm hC hR hS hL hH
  obtain ⟨C, T, N, hc, hk, hT, hin, hw⟩ := hf
  subst hj
  have hsame : ∀ x, s.fieldFound? (T kf).1 (T kf).2.1 (T kf).2.2.1 = some x → s.fieldFound? C (T kf).2.1 (T kf).2.2.1 = some x := fun x h => by rw [hT] at h; exact h
  have hv := fls_getr (ρ := ρ) (fi := mi a) (fr := mr a) hb
  rw [hr] at hv
  rcases hw with hw | ⟨host, hw⟩
  · exact va_get hC.1 hC.2.1 hC.2.2.2.2.1 hin hC.2.2.2.1 hR.ks hR.1 a (wld_get hs) hc kf hk (hC.2.2.2.2.1 _ hw) hsame hv hd (kk p l e s m args below meth c D A ρ dA H locs la Qm hC hR hS hL hH)
  · exact va_getN hC.1 hC.2.1 hC.2.2.2.2.1 hin hC.2.2.2.1 hR.ks hR.1 a (wld_get hs) hc kf hk (va_Nw.use rfl (hC.2.2.2.2.2.2.2.1.1 _ hw)) hsame hv hd (kk p l e s m args below meth c D A ρ dA H locs la Qm hC hR hS hL hH)
theorem V_puti {idx ci kf : Nat} {a : Nat} {v : Int} (j : Int) (hd : decode μ.2.1 pc = .ok (.putfield idx, 3)) (hf : FLk μ.1 idx ci kf) (hs : sh[a]? = some (.inl ci)) (hb : (fl ci)[kf]? = some false) (hfin : fnl ci kf = false) (hj : (kf : Int) = j) (kk : V μ Q k n sh (up2 mi a j v) mr ls (st) (pc + 3)) : V μ Q k n sh mi mr ls (vi v :: vr a :: st) (pc) := by
  intro p l e s m args below meth c D A ρ dA H locs la Qm hC hR hS hL hH
  obtain ⟨C, T, N, hc, hk, hT, hin, hw⟩ := hf
  subst hj
  obtain ⟨C', T', N', ty, hc', hty, hnm, hlen, hfl⟩ := ftb hc
  obtain ⟨rfl, rfl, rfl⟩ : C' = C ∧ T' = T ∧ N' = N := by
    have h9 := Option.some.inj (hc'.symm.trans hc)
    exact ⟨congrArg (fun q => q.1) h9, congrArg (fun q => q.2.1) h9, congrArg (fun q => q.2.2) h9⟩
  have hfin0 : (T' kf).2.2.2 = false := by
    have h9 := hfin
    simp only [fnl, hc] at h9
    exact h9
  have hk2 := hfl kf hk
  have hrt := Option.some.inj (hk2.1.symm.trans hb)
  have hkl : kf < (fls ρ (mi a) (mr a) ci).length := by rw [fls_len]; exact lt_of_get hb
  have hsame : ∀ x, s.fieldFound? (T' kf).1 (T' kf).2.1 (T' kf).2.2.1 = some x → s.fieldFound? C' (T' kf).2.1 (T' kf).2.2.1 = some x := fun x h => by rw [hT] at h; exact h
  have hint : ty kf = .int := hk2.2 hrt
  rcases hw with hw | ⟨host, hw⟩
  · exact va_put (v := .int (Int32.ofInt v)) hC.1 hC.2.1 hC.2.2.2.2.1 hin ty hty hnm hC.2.2.2.1 hR.ks hR.1 hR.2.1 hS a (wld_get hs) hc kf hk (hC.2.2.2.2.1 _ hw) hsame hfin0 (hty kf hk) (by rw [hint]; rfl) (by rw [hint]; rfl) hkl hd (fun H1 locs1 hP hD hS1 => by
      have hw : (wld ρ dA sh mi mr).set a (ρ a, .inr (ci, (fls ρ (mi a) (mr a) ci).set kf (.int (Int32.ofInt v)))) = wld ρ dA sh (up2 mi a (kf : Int) v) mr := wld_set hs (by rw [fls_seti v hb]; simp [cel, up2_s]) (fun x hx => up2_n mi _ v hx) (fun _ _ => rfl)
      rw [hw] at hP hD
      exact kk p l e s m args below meth c D A ρ dA H1 locs1 la Qm hC (hR.store hP hD hR.2.2.2.2.2) hS1 hL hH)
  · exact va_putN (v := .int (Int32.ofInt v)) hC.1 hC.2.1 hC.2.2.2.2.1 hin ty hty hnm hC.2.2.2.1 hR.ks hR.1 hR.2.1 hS a (wld_get hs) hc kf hk (va_Nw.use rfl (hC.2.2.2.2.2.2.2.1.1 _ hw)) hsame hfin0 (hty kf hk) (by rw [hint]; rfl) (by rw [hint]; rfl) hkl hd (fun H1 locs1 hP hD hS1 => by
      have hw : (wld ρ dA sh mi mr).set a (ρ a, .inr (ci, (fls ρ (mi a) (mr a) ci).set kf (.int (Int32.ofInt v)))) = wld ρ dA sh (up2 mi a (kf : Int) v) mr := wld_set hs (by rw [fls_seti v hb]; simp [cel, up2_s]) (fun x hx => up2_n mi _ v hx) (fun _ _ => rfl)
      rw [hw] at hP hD
      exact kk p l e s m args below meth c D A ρ dA H1 locs1 la Qm hC (hR.store hP hD hR.2.2.2.2.2) hS1 hL hH)
theorem V_putr {idx ci kf : Nat} {a b : Nat} (j : Int) (hd : decode μ.2.1 pc = .ok (.putfield idx, 3)) (hf : FLk μ.1 idx ci kf) (hs : sh[a]? = some (.inl ci)) (hb : (fl ci)[kf]? = some true) (hfin : fnl ci kf = false) (hj : (kf : Int) = j) (hbl : b < sh.length) (kk : V μ Q k n sh mi (up2 mr a j (some b)) ls (st) (pc + 3)) : V μ Q k n sh mi mr ls (vr b :: vr a :: st) (pc) := by
  intro p l e s m args below meth c D A ρ dA H locs la Qm hC hR hS hL hH
  obtain ⟨C, T, N, hc, hk, hT, hin, hw⟩ := hf
  subst hj
  obtain ⟨C', T', N', ty, hc', hty, hnm, hlen, hfl⟩ := ftb hc
  obtain ⟨rfl, rfl, rfl⟩ : C' = C ∧ T' = T ∧ N' = N := by
    have h9 := Option.some.inj (hc'.symm.trans hc)
    exact ⟨congrArg (fun q => q.1) h9, congrArg (fun q => q.2.1) h9, congrArg (fun q => q.2.2) h9⟩
  have hfin0 : (T' kf).2.2.2 = false := by
    have h9 := hfin
    simp only [fnl, hc] at h9
    exact h9
  have hk2 := hfl kf hk
  have hrt := Option.some.inj (hk2.1.symm.trans hb)
  have hkl : kf < (fls ρ (mi a) (mr a) ci).length := by rw [fls_len]; exact lt_of_get hb
  have hsame : ∀ x, s.fieldFound? (T' kf).1 (T' kf).2.1 (T' kf).2.2.1 = some x → s.fieldFound? C' (T' kf).2.1 (T' kf).2.2.1 = some x := fun x h => by rw [hT] at h; exact h
  have hnf := ref_nf hrt (ρ b)
  rcases hw with hw | ⟨host, hw⟩
  · exact va_put (v := .ref (ρ b)) hC.1 hC.2.1 hC.2.2.2.2.1 hin ty hty hnm hC.2.2.2.1 hR.ks hR.1 hR.2.1 hS a (wld_get hs) hc kf hk (hC.2.2.2.2.1 _ hw) hsame hfin0 (hty kf hk) hnf.1 hnf.2 hkl hd (fun H1 locs1 hP hD hS1 => by
      have hw : (wld ρ dA sh mi mr).set a (ρ a, .inr (ci, (fls ρ (mi a) (mr a) ci).set kf (.ref (ρ b)))) = wld ρ dA sh mi (up2 mr a (kf : Int) (some b)) := wld_set hs (by rw [show (Value.ref (ρ b)) = va_rf ((some b).map ρ) from rfl, fls_setr (some b) hb]; simp [cel, up2_s]) (fun _ _ => rfl) (fun x hx => up2_n mr _ _ hx)
      rw [hw] at hP hD
      exact kk p l e s m args below meth c D A ρ dA H1 locs1 la Qm hC (hR.store hP hD (fun x j y hx hy => by
        by_cases hxa : x = a
        · subst hxa
          by_cases hj : j = (kf : Int)
          · subst hj
            rw [up2_ss] at hy
            cases hy
            exact hbl
          · rw [up2_sn mr x _ hj] at hy
            exact hR.2.2.2.2.2 x j y hx hy
        · rw [up2_n mr _ _ hxa] at hy
          exact hR.2.2.2.2.2 x j y hx hy)) hS1 hL hH)
  · exact va_putN (v := .ref (ρ b)) hC.1 hC.2.1 hC.2.2.2.2.1 hin ty hty hnm hC.2.2.2.1 hR.ks hR.1 hR.2.1 hS a (wld_get hs) hc kf hk (va_Nw.use rfl (hC.2.2.2.2.2.2.2.1.1 _ hw)) hsame hfin0 (hty kf hk) hnf.1 hnf.2 hkl hd (fun H1 locs1 hP hD hS1 => by
      have hw : (wld ρ dA sh mi mr).set a (ρ a, .inr (ci, (fls ρ (mi a) (mr a) ci).set kf (.ref (ρ b)))) = wld ρ dA sh mi (up2 mr a (kf : Int) (some b)) := wld_set hs (by rw [show (Value.ref (ρ b)) = va_rf ((some b).map ρ) from rfl, fls_setr (some b) hb]; simp [cel, up2_s]) (fun _ _ => rfl) (fun x hx => up2_n mr _ _ hx)
      rw [hw] at hP hD
      exact kk p l e s m args below meth c D A ρ dA H1 locs1 la Qm hC (hR.store hP hD (fun x j y hx hy => by
        by_cases hxa : x = a
        · subst hxa
          by_cases hj : j = (kf : Int)
          · subst hj
            rw [up2_ss] at hy
            cases hy
            exact hbl
          · rw [up2_sn mr x _ hj] at hy
            exact hR.2.2.2.2.2 x j y hx hy
        · rw [up2_n mr _ _ hxa] at hy
          exact hR.2.2.2.2.2 x j y hx hy)) hS1 hL hH)
/-- a final field, in its constructor -/
theorem V_putF {idx ci kf : Nat} {a b : Nat} {T : u_T} {N : Nat} (j : Int) (hd : decode μ.2.1 pc = .ok (.putfield idx, 3)) (hc : vwCl[ci]? = some (μ.1, T, N)) (hf : FLk μ.1 idx ci kf) (hpl : Cond.fieldLink μ.1 idx μ.1 (T kf).2.1 (T kf).2.2.1 ∈ WS) (hs : sh[a]? = some (.inl ci)) (hb : (fl ci)[kf]? = some true) (hfin : fnl ci kf = true) (hj : (kf : Int) = j) (hini : μ.2.2.2.2.1 = true) (hbl : b < sh.length) (kk : V μ Q k n sh mi (up2 mr a j (some b)) ls (st) (pc + 3)) : V μ Q k n sh mi mr ls (vr b :: vr a :: st) (pc) := by
  intro p l e s m args below meth c D A ρ dA H locs la Qm hC hR hS hL hH
  obtain ⟨C1, T1, N1, hc1, hk, hT, hin, -⟩ := hf
  obtain ⟨rfl, rfl, rfl⟩ : C1 = μ.1 ∧ T1 = T ∧ N1 = N := by
    have h9 := Option.some.inj (hc1.symm.trans hc)
    exact ⟨congrArg (fun q => q.1) h9, congrArg (fun q => q.2.1) h9, congrArg (fun q => q.2.2) h9⟩
  subst hj
  obtain ⟨C', T', N', ty, hc', hty, hnm, hlen, hfl⟩ := ftb hc
  have h9 := Option.some.inj (hc'.symm.trans hc)
  have e1 : C' = μ.1 := congrArg (fun q => q.1) h9
  have e2 : T' = T1 := congrArg (fun q => q.2.1) h9
  have e3 : N' = N1 := congrArg (fun q => q.2.2) h9
  subst e1 e2 e3
  have hfin0 : (T' kf).2.2.2 = true := by
    have h9 := hfin
    simp only [fnl, hc] at h9
    exact h9
  have hk2 := hfl kf hk
  have hrt := Option.some.inj (hk2.1.symm.trans hb)
  have hkl : kf < (fls ρ (mi a) (mr a) ci).length := by rw [fls_len]; exact lt_of_get hb
  have hsame : ∀ x, s.fieldFound? (T' kf).1 (T' kf).2.1 (T' kf).2.2.1 = some x → s.fieldFound? μ.1 (T' kf).2.1 (T' kf).2.2.1 = some x := fun x h => by rw [hT] at h; exact h
  have hnf := ref_nf hrt (ρ b)
  exact va_putF (v := .ref (ρ b)) hC.1 hC.2.1 hC.2.2.2.2.1 hin ty hty hnm hC.2.2.2.1 hR.ks hR.1 hR.2.1 hS a (wld_get hs) hc kf hk (hC.2.2.2.2.1 _ hpl) hsame hfin0 (hC.2.2.2.2.2.1 hini) hT (hty kf hk) hnf.1 hnf.2 hkl hd (fun H1 locs1 hP hD hS1 => by
      have hw : (wld ρ dA sh mi mr).set a (ρ a, .inr (ci, (fls ρ (mi a) (mr a) ci).set kf (.ref (ρ b)))) = wld ρ dA sh mi (up2 mr a (kf : Int) (some b)) := wld_set hs (by rw [show (Value.ref (ρ b)) = va_rf ((some b).map ρ) from rfl, fls_setr (some b) hb]; simp [cel, up2_s]) (fun _ _ => rfl) (fun x hx => up2_n mr _ _ hx)
      rw [hw] at hP hD
      exact kk p l e s m args below meth c D A ρ dA H1 locs1 la Qm hC (hR.store hP hD (fun x j y hx hy => by
        by_cases hxa : x = a
        · subst hxa
          by_cases hj : j = (kf : Int)
          · subst hj
            rw [up2_ss] at hy
            cases hy
            exact hbl
          · rw [up2_sn mr x _ hj] at hy
            exact hR.2.2.2.2.2 x j y hx hy
        · rw [up2_n mr _ _ hxa] at hy
          exact hR.2.2.2.2.2 x j y hx hy)) hS1 hL hH)
theorem up_cont {f : Int → Int} {i v : Int} (h0 : 0 ≤ i) (e : (Int32.ofInt i).toNatClampNeg = i.toNat) : upd (fun j => Int32.ofInt (f j)) (Int32.ofInt i).toNatClampNeg (Int32.ofInt v) = fun j : Nat => Int32.ofInt (up1 f i v j) := by
  funext j
  rw [e]
  by_cases hj : j = i.toNat
  · have : (j : Int) = i := by omega
    simp [upd, up1, hj, this, Int.max_eq_left h0]
  · have : ¬ (j : Int) = i := by omega
    simp [upd, up1, hj, this]
theorem up_contL {f : Int → Int} {i v : Int} (h0 : 0 ≤ i) (e : (Int32.ofInt i).toNatClampNeg = i.toNat) : vp_updL (fun j => Int64.ofInt (f j)) (Int32.ofInt i).toNatClampNeg (Int64.ofInt v) = fun j : Nat => Int64.ofInt (up1 f i v j) := by
  funext j
  rw [e]
  by_cases hj : j = i.toNat
  · have : (j : Int) = i := by omega
    simp [vp_updL, up1, hj, this, Int.max_eq_left h0]
  · have : ¬ (j : Int) = i := by omega
    simp [vp_updL, up1, hj, this]
theorem up_contQ {ρ : Nat → Nat} {f : Int → Option Nat} {i : Int} {b : Nat} (h0 : 0 ≤ i) (e : (Int32.ofInt i).toNatClampNeg = i.toNat) : va_up (fun j : Nat => (f j).map ρ) (Int32.ofInt i).toNatClampNeg (some (ρ b)) = fun j : Nat => (up1 f i (some b) j).map ρ := by
  funext j
  rw [e]
  by_cases hj : j = i.toNat
  · have : (j : Int) = i := by omega
    simp [va_up, up1, hj, this, Int.max_eq_left h0]
  · have : ¬ (j : Int) = i := by omega
    simp [va_up, up1, hj, this]
theorem V_iald {a N : Nat} {i : Int} (hd : decode μ.2.1 pc = .ok (.iaload, 1)) (hs : sh[a]? = some (.inr (0, N))) (hN : N ≤ 2147483648) (hi : 0 ≤ i ∧ i < N) (kk : V μ Q k n sh mi mr ls (vi (mi a i) :: st) (pc + 1)) : V μ Q k n sh mi mr ls (vi i :: vr a :: st) (pc) := by
  intro p l e s m args below meth c D A ρ dA H locs la Qm hC hR hS hL hH
  obtain ⟨h1, h2⟩ := i_in hi hN
  refine va_iald hC.1 hC.2.1 (hR.tys hs) hR.1 a 0 (wld_get hs) rfl h1 hd ?_
  rw [h2, show ((i.toNat : Nat) : Int) = i from Int.toNat_of_nonneg hi.1]
  exact kk p l e s m args below meth c D A ρ dA H locs la Qm hC hR hS hL hH
theorem V_cald {a N : Nat} {i : Int} (hd : decode μ.2.1 pc = .ok (.caload, 1)) (hs : sh[a]? = some (.inr (2, N))) (hN : N ≤ 2147483648) (hi : 0 ≤ i ∧ i < N) (kk : V μ Q k n sh mi mr ls (vi (mi a i) :: st) (pc + 1)) : V μ Q k n sh mi mr ls (vi i :: vr a :: st) (pc) := by
  intro p l e s m args below meth c D A ρ dA H locs la Qm hC hR hS hL hH
  obtain ⟨h1, h2⟩ := i_in hi hN
  refine va_cald hC.1 hC.2.1 (hR.tys hs) hR.1 a 0 (wld_get hs) rfl h1 hd ?_
  rw [h2, show ((i.toNat : Nat) : Int) = i from Int.toNat_of_nonneg hi.1]
  exact kk p l e s m args below meth c D A ρ dA H locs la Qm hC hR hS hL hH
theorem V_lald {a N : Nat} {i : Int} (hd : decode μ.2.1 pc = .ok (.laload, 1)) (hs : sh[a]? = some (.inr (1, N))) (hN : N ≤ 2147483648) (hi : 0 ≤ i ∧ i < N) (kk : V μ Q k n sh mi mr ls (vl (mi a i) :: st) (pc + 1)) : V μ Q k n sh mi mr ls (vi i :: vr a :: st) (pc) := by
  intro p l e s m args below meth c D A ρ dA H locs la Qm hC hR hS hL hH
  obtain ⟨h1, h2⟩ := i_in hi hN
  refine va_lald hC.1 hC.2.1 (hR.tys hs) hR.1 a 0 (wld_get hs) rfl h1 hd ?_
  rw [h2, show ((i.toNat : Nat) : Int) = i from Int.toNat_of_nonneg hi.1]
  exact kk p l e s m args below meth c D A ρ dA H locs la Qm hC hR hS hL hH
theorem V_aald {a N b : Nat} {i : Int} (hd : decode μ.2.1 pc = .ok (.aaload, 1)) (hs : sh[a]? = some (.inr (3, N))) (hN : N ≤ 2147483648) (hi : 0 ≤ i ∧ i < N) (hr : mr a i = some b) (kk : V μ Q k n sh mi mr ls (vr b :: st) (pc + 1)) : V μ Q k n sh mi mr ls (vi i :: vr a :: st) (pc) := by
  intro p l e s m args below meth c D A ρ dA H locs la Qm hC hR hS hL hH
  obtain ⟨h1, h2⟩ := i_in hi hN
  refine va_aldq hC.1 hC.2.1 (hR.tys hs) hR.1 a 0 (wld_get hs) rfl h1 hd ?_
  rw [h2, show ((i.toNat : Nat) : Int) = i from Int.toNat_of_nonneg hi.1, hr]
  exact kk p l e s m args below meth c D A ρ dA H locs la Qm hC hR hS hL hH
theorem V_alen {a N t : Nat} (hd : decode μ.2.1 pc = .ok (.arraylength, 1)) (hs : sh[a]? = some (.inr (t, N))) (kk : V μ Q k n sh mi mr ls (vi (N : Int) :: st) (pc + 1)) : V μ Q k n sh mi mr ls (vr a :: st) (pc) := by
  intro p l e s m args below meth c D A ρ dA H locs la Qm hC hR hS hL hH
  exact va_alen (v := Int32.ofInt (N : Int)) hC.1 hC.2.1 (hR.tys hs) hR.1 a 0 (wld_get hs) rfl Int32.ofInt_eq_ofNat.symm hd (kk p l e s m args below meth c D A ρ dA H locs la Qm hC hR hS hL hH)
theorem V_iast {a N : Nat} {i v : Int} (hd : decode μ.2.1 pc = .ok (.iastore, 1)) (hs : sh[a]? = some (.inr (0, N))) (hN : N ≤ 2147483648) (hi : 0 ≤ i ∧ i < N) (kk : V μ Q k n sh (up2 mi a i v) mr ls (st) (pc + 1)) : V μ Q k n sh mi mr ls (vi v :: vi i :: vr a :: st) (pc) := by
  intro p l e s m args below meth c D A ρ dA H locs la Qm hC hR hS hL hH
  obtain ⟨h1, h2⟩ := i_in hi hN
  refine va_iast hC.1 hC.2.1 (hR.tys hs) hR.1 hR.2.1 hS a 0 (wld_get hs) rfl h1 hd (fun H1 locs1 hP hD hS1 => ?_)
  have hw : (wld ρ dA sh mi mr).set a (ρ a, .inl (dA a, N, .inl (upd (fun j => Int32.ofInt (mi a j)) (Int32.ofInt i).toNatClampNeg (Int32.ofInt v)))) = wld ρ dA sh (up2 mi a i v) mr := wld_set hs (by rw [up_cont hi.1 h2]; simp [cel, cont, up2_s]) (fun x hx => up2_n mi _ v hx) (fun _ _ => rfl)
  rw [hw] at hP hD
  exact kk p l e s m args below meth c D A ρ dA H1 locs1 la Qm hC (hR.store hP hD hR.2.2.2.2.2) hS1 hL hH
theorem V_last {a N : Nat} {i v : Int} (hd : decode μ.2.1 pc = .ok (.lastore, 1)) (hs : sh[a]? = some (.inr (1, N))) (hN : N ≤ 2147483648) (hi : 0 ≤ i ∧ i < N) (kk : V μ Q k n sh (up2 mi a i v) mr ls (st) (pc + 1)) : V μ Q k n sh mi mr ls (vl v :: vi i :: vr a :: st) (pc) := by
  intro p l e s m args below meth c D A ρ dA H locs la Qm hC hR hS hL hH
  obtain ⟨h1, h2⟩ := i_in hi hN
  refine va_last hC.1 hC.2.1 (hR.tys hs) hR.1 hR.2.1 hS a 0 (wld_get hs) rfl h1 hd (fun H1 locs1 hP hD hS1 => ?_)
  have hw : (wld ρ dA sh mi mr).set a (ρ a, .inl (dA a, N, .inr (.inl (vp_updL (fun j => Int64.ofInt (mi a j)) (Int32.ofInt i).toNatClampNeg (Int64.ofInt v))))) = wld ρ dA sh (up2 mi a i v) mr := wld_set hs (by rw [up_contL hi.1 h2]; simp [cel, cont, up2_s]) (fun x hx => up2_n mi _ v hx) (fun _ _ => rfl)
  rw [hw] at hP hD
  exact kk p l e s m args below meth c D A ρ dA H1 locs1 la Qm hC (hR.store hP hD hR.2.2.2.2.2) hS1 hL hH
theorem V_cast {a N : Nat} {i v : Int} (hd : decode μ.2.1 pc = .ok (.castore, 1)) (hs : sh[a]? = some (.inr (2, N))) (hN : N ≤ 2147483648) (hi : 0 ≤ i ∧ i < N) (hv : 0 ≤ v ∧ v < 65536) (kk : V μ Q k n sh (up2 mi a i v) mr ls (st) (pc + 1)) : V μ Q k n sh mi mr ls (vi v :: vi i :: vr a :: st) (pc) := by
  intro p l e s m args below meth c D A ρ dA H locs la Qm hC hR hS hL hH
  obtain ⟨h1, h2⟩ := i_in hi hN
  refine va_cast hC.1 hC.2.1 (hR.tys hs) hR.1 hR.2.1 hS a 0 (wld_get hs) rfl h1 hd (fun H1 locs1 hP hD hS1 => ?_)
  rw [show vp_nar .char (Int32.ofInt v) = Int32.ofInt v by
    obtain ⟨j, rfl⟩ := Int.eq_ofNat_of_zero_le hv.1
    rw [show Int32.ofInt (j : Int) = nI j by rw [Int32.ofInt_eq_ofNat]; rfl]
    have h9 := (pk_charN (q := j) (by omega)).1
    simp only [vp_nar, h9]] at hP hD
  have hw : (wld ρ dA sh mi mr).set a (ρ a, .inl (dA a, N, .inl (upd (fun j => Int32.ofInt (mi a j)) (Int32.ofInt i).toNatClampNeg (Int32.ofInt v)))) = wld ρ dA sh (up2 mi a i v) mr := wld_set hs (by rw [up_cont hi.1 h2]; simp [cel, cont, up2_s]) (fun x hx => up2_n mi _ v hx) (fun _ _ => rfl)
  rw [hw] at hP hD
  exact kk p l e s m args below meth c D A ρ dA H1 locs1 la Qm hC (hR.store hP hD hR.2.2.2.2.2) hS1 hL hH
theorem V_aast {a N b : Nat} {i : Int} (hd : decode μ.2.1 pc = .ok (.aastore, 1)) (hs : sh[a]? = some (.inr (3, N))) (hN : N ≤ 2147483648) (hi : 0 ≤ i ∧ i < N) (hb : sh[b]? = some (.inl 9)) (kk : V μ Q k n sh mi (up2 mr a i (some b)) ls (st) (pc + 1)) : V μ Q k n sh mi mr ls (vr b :: vi i :: vr a :: st) (pc) := by
  intro p l e s m args below meth c D A ρ dA H locs la Qm hC hR hS hL hH
  obtain ⟨h1, h2⟩ := i_in hi hN
  refine va_astq (r := (RX9, TX9, 3)) hC.1 hC.2.1 (hR.tys hs) hR.1 hR.2.1 hS a 0 b 9 (wld_get hs) rfl (wld_get hb) rfl h1 hd (fun H1 locs1 hP hD hS1 => ?_)
  have hw : (wld ρ dA sh mi mr).set a (ρ a, .inl (dA a, N, .inr (.inr (.inr (.inr (va_up (fun j : Nat => (mr a j).map ρ) (Int32.ofInt i).toNatClampNeg (some (ρ b)))))))) = wld ρ dA sh mi (up2 mr a i (some b)) := wld_set hs (by rw [up_contQ hi.1 h2]; simp [cel, cont, up2_s]) (fun _ _ => rfl) (fun x hx => up2_n mr _ _ hx)
  rw [hw] at hP hD
  exact kk p l e s m args below meth c D A ρ dA H1 locs1 la Qm hC (hR.store hP hD (fun x j y hx hy => by
    by_cases hxa : x = a
    · subst hxa
      by_cases hj : j = i
      · subst hj
        rw [up2_ss] at hy
        cases hy
        exact lt_of_get hb
      · rw [up2_sn mr x _ hj] at hy
        exact hR.2.2.2.2.2 x j y hx hy
    · rw [up2_n mr _ _ hxa] at hy
      exact hR.2.2.2.2.2 x j y hx hy)) hS1 hL hH
theorem V_gets {idx : Nat} (j : Nat) (hj : j < 3) (hd : decode μ.2.1 pc = .ok (.getstatic idx, 3)) (hw : Cond.fieldLink μ.1 idx "DiagonalTexts" (snm j) "[I" ∈ WS ∨ ∃ host, Cond.fieldLinkNest μ.1 idx "DiagonalTexts" (snm j) "[I" host ∈ NW) (kk : V μ Q k n sh mi mr ls (vr (1000 + j) :: st) (pc + 3)) : V μ Q k n sh mi mr ls (st) (pc) := by
  intro p l e s m args below meth c D A ρ dA H locs la Qm hC hR hS hL hH
  have hZ := (hC.2.2.2.2.2.2.2.1.2.2 j hj).1
  rcases hw with hw | ⟨host, hw⟩
  · exact va_gets hC.1 hC.2.1 hZ hS hC.2.2.2.1 (hC.2.2.2.2.1 _ hw) (fun _ h => h) hd (kk p l e s m args below meth c D A ρ dA H locs la Qm hC hR hS hL hH)
  · exact va_getsN hC.1 hC.2.1 hZ hS hC.2.2.2.1 (va_Nw.use rfl (hC.2.2.2.2.2.2.2.1.1 _ hw)) (fun _ h => h) hd (kk p l e s m args below meth c D A ρ dA H locs la Qm hC hR hS hL hH)
theorem V_stld {j : Nat} {i : Int} (hj : j < 3) (hd : decode μ.2.1 pc = .ok (.iaload, 1)) (hi : 0 ≤ i ∧ i < 3) (kk : V μ Q k n sh mi mr ls (vi (svF j i) :: st) (pc + 1)) : V μ Q k n sh mi mr ls (vi i :: vr (1000 + j) :: st) (pc) := by
  intro p l e s m args below meth c D A ρ dA H locs la Qm hC hR hS hL hH
  obtain ⟨cell, g1, g2, g3, g4, g5, g6, g7⟩ := (hC.2.2.2.2.2.2.2.1.2.2 j hj).2
  obtain ⟨h1, h2⟩ := i_in (n := 3) hi (by decide)
  have hH1 : H[ρ (1000 + j)]? = some cell := by rw [hS.2.1 _ (Array.getElem?_eq_some_iff.mp g1).1 g7]; exact g1
  have hv : cell.slots[i.toNat]? = some (.int (Int32.ofInt (svF j i))) := by
    have g9 : cell.slots[i.toNat]? = some (.int (Int32.ofInt (svF j ((i.toNat : Nat) : Int)))) := g6 i.toNat (by omega)
    rw [show ((i.toNat : Nat) : Int) = i from Int.toNat_of_nonneg hi.1] at g9
    exact g9
  exact W.iald (v := .int (Int32.ofInt (svF j i))) hC.1 hC.2.1 hH1 g2 g3 (by rw [h2]; intro q; rcases q with q | q; exact h1 (Or.inl q); omega) (by rw [h2]; exact hv) rfl rfl hd (kk p l e s m args below meth c D A ρ dA H locs la Qm hC hR hS hL hH)
/-- the law's script -/
theorem V_sld {L : Nat} {xs : Nat → Int} {i : Int} (hm : μ.2.2.2.2.2.1 = some (L, xs)) (hN : L ≤ 2147483648) (hd : decode μ.2.1 pc = .ok (.iaload, 1)) (hi : 0 ≤ i ∧ i < L) (kk : V μ Q k n sh mi mr ls (vi (xs i.toNat) :: st) (pc + 1)) : V μ Q k n sh mi mr ls (vi i :: vr 1003 :: st) (pc) := by
  intro p l e s m args below meth c D A ρ dA H locs la Qm hC hR hS hL hH
  obtain ⟨h1, h2⟩ := i_in hi hN
  obtain ⟨g1, g2, g3⟩ := hC.2.2.2.2.2.2.2.2 L xs hm
  refine va_sld hC.1 hC.2.1 g1 g2 g3 hS h1 hd ?_
  rw [h2]
  exact kk p l e s m args below meth c D A ρ dA H locs la Qm hC hR hS hL hH
theorem V_slen {L : Nat} {xs : Nat → Int} (hm : μ.2.2.2.2.2.1 = some (L, xs)) (hd : decode μ.2.1 pc = .ok (.arraylength, 1)) (kk : V μ Q k n sh mi mr ls (vi (L : Int) :: st) (pc + 1)) : V μ Q k n sh mi mr ls (vr 1003 :: st) (pc) := by
  intro p l e s m args below meth c D A ρ dA H locs la Qm hC hR hS hL hH
  obtain ⟨g1, g2, g3⟩ := hC.2.2.2.2.2.2.2.2 L xs hm
  refine va_slen hC.1 hC.2.1 g1 g2 g3 hS hd ?_
  rw [show Int32.ofNat L = Int32.ofInt (L : Int) from Int32.ofInt_eq_ofNat.symm]
  exact kk p l e s m args below meth c D A ρ dA H locs la Qm hC hR hS hL hH
theorem i_max {a b : Int} (ha : rng a) (hb : rng b) : (if Int32.ofInt a < Int32.ofInt b then Int32.ofInt b else Int32.ofInt a) = Int32.ofInt (max a b) := by
  simp only [i_lt ha hb]
  split
  · rw [Int.max_eq_right (by omega)]
  · rw [Int.max_eq_left (by omega)]
theorem i_min {a b : Int} (ha : rng a) (hb : rng b) : (if Int32.ofInt b < Int32.ofInt a then Int32.ofInt b else Int32.ofInt a) = Int32.ofInt (min a b) := by
  simp only [i_lt hb ha]
  split
  · rw [Int.min_eq_right (by omega)]
  · rw [Int.min_eq_left (by omega)]
theorem l_max {a b : Int} (ha : lrng a) (hb : lrng b) : (if Int64.ofInt b < Int64.ofInt a then Int64.ofInt a else Int64.ofInt b) = Int64.ofInt (max a b) := by
  simp only [l_lt hb ha]
  split
  · rw [Int.max_eq_left (by omega)]
  · rw [Int.max_eq_right (by omega)]
theorem cat_sum (ρ : Nat → Nat) (st : List AV) : ((st.map (rv ρ)).map fun v => v.category).sum = (st.map acat).sum := by
  rw [List.map_map]
  congr 1
  apply List.map_congr_left
  intro v _
  exact acat_eq ρ v
theorem V_mmax {idx : Nat} {a b : Int} (hd : decode μ.2.1 pc = .ok (.invokestatic idx, 3)) (hw : Cond.methodLink μ.1 idx Lib.Math.max.name ∈ WS) (ha : rng a) (hb : rng b) (hR1 : 1 ≤ μ.2.2.2.1.frames ∧ (st.map acat).sum + 13 ≤ μ.2.2.2.1.locals ∧ k ≤ μ.2.2.2.1.cells ∧ n ≤ μ.2.2.2.1.slots) (kk : V μ Q k n sh mi mr ls (vi (max a b) :: st) (pc + 3)) : V μ Q k n sh mi mr ls (vi b :: vi a :: st) (pc) := by
  intro p l e s m args below meth c D A ρ dA H locs la Qm hC hR hS hL hH
  refine va_mmax hC.1 hC.2.1 (hC.2.2.1.trans hL.1.symm) hC.2.2.2.1 (hC.2.2.2.2.1 _ hw) (hC.2.2.2.2.1 _ mx_stat) (hC.2.2.2.2.1 _ ma_init) (hC.2.2.2.2.1 _ mx_code) hR1.1 (by rw [cat_sum]; exact hR1.2.1) hR1.2.2.1 hR1.2.2.2 hd ?_
  rw [i_max ha hb]
  exact kk p l e s m args below meth c D A ρ dA H locs la Qm hC hR hS hL hH
theorem V_mmin {idx : Nat} {a b : Int} (hd : decode μ.2.1 pc = .ok (.invokestatic idx, 3)) (hw : Cond.methodLink μ.1 idx Lib.Math.min.name ∈ WS) (ha : rng a) (hb : rng b) (hR1 : 1 ≤ μ.2.2.2.1.frames ∧ (st.map acat).sum + 13 ≤ μ.2.2.2.1.locals ∧ k ≤ μ.2.2.2.1.cells ∧ n ≤ μ.2.2.2.1.slots) (kk : V μ Q k n sh mi mr ls (vi (min a b) :: st) (pc + 3)) : V μ Q k n sh mi mr ls (vi b :: vi a :: st) (pc) := by
  intro p l e s m args below meth c D A ρ dA H locs la Qm hC hR hS hL hH
  refine va_mmin hC.1 hC.2.1 (hC.2.2.1.trans hL.1.symm) hC.2.2.2.1 (hC.2.2.2.2.1 _ hw) (hC.2.2.2.2.1 _ mn_stat) (hC.2.2.2.2.1 _ ma_init) (hC.2.2.2.2.1 _ mn_code) hR1.1 (by rw [cat_sum]; exact hR1.2.1) hR1.2.2.1 hR1.2.2.2 hd ?_
  rw [i_min ha hb]
  exact kk p l e s m args below meth c D A ρ dA H locs la Qm hC hR hS hL hH
theorem V_mmaxl {idx : Nat} {a b : Int} (hd : decode μ.2.1 pc = .ok (.invokestatic idx, 3)) (hw : Cond.methodLink μ.1 idx Lib.MathLoose.max_long.x ∈ WS) (ha : lrng a) (hb : lrng b) (hR1 : 1 ≤ μ.2.2.2.1.frames ∧ (st.map acat).sum + 15 ≤ μ.2.2.2.1.locals ∧ k ≤ μ.2.2.2.1.cells ∧ n ≤ μ.2.2.2.1.slots) (kk : V μ Q k n sh mi mr ls (vl (max a b) :: st) (pc + 3)) : V μ Q k n sh mi mr ls (vl b :: vl a :: st) (pc) := by
  intro p l e s m args below meth c D A ρ dA H locs la Qm hC hR hS hL hH
  refine va_mmax_long hC.1 hC.2.1 (hC.2.2.1.trans hL.1.symm) hC.2.2.2.1 (hC.2.2.2.2.1 _ hw) (hC.2.2.2.2.1 _ ml_stat) (hC.2.2.2.2.1 _ ma_init) (hC.2.2.2.2.1 _ ml_code) hR1.1 (by rw [cat_sum]; exact hR1.2.1) hR1.2.2.1 hR1.2.2.2 hd ?_
  rw [l_max ha hb]
  exact kk p l e s m args below meth c D A ρ dA H locs la Qm hC hR hS hL hH
theorem V_oinit {idx a : Nat} (hd : decode μ.2.1 pc = .ok (.invokespecial idx, 3)) (hw : Cond.methodLink μ.1 idx Lib.objectInit ∈ WS) (hR1 : 1 ≤ μ.2.2.2.1.frames ∧ (st.map acat).sum + 12 ≤ μ.2.2.2.1.locals) (kk : V μ Q k n sh mi mr ls (st) (pc + 3)) : V μ Q k n sh mi mr ls (vr a :: st) (pc) := by
  intro p l e s m args below meth c D A ρ dA H locs la Qm hC hR hS hL hH
  exact W.objInit hC.1 hC.2.1 hC.2.2.2.1 (hC.2.2.2.2.1 _ hw) (hC.2.2.2.2.1 _ oi_inst) (hC.2.2.2.2.1 _ oi_code) rfl (hL.1.trans hC.2.2.1.symm) rfl hd hR1.1 (by rw [cat_sum]; show 2 * 0 + _ + 12 ≤ _; omega) (kk p l e s m args below meth c D A ρ dA H locs la Qm hC hR hS hL hH)
theorem V_iret {a : Int} (hd : decode μ.2.1 pc = .ok (.ireturn, 1)) (hr : μ.2.2.2.2.2.2 = some .int) (hk : k ≤ μ.2.2.2.1.cells ∧ n ≤ μ.2.2.2.1.slots) (hq : Q (some (vi a)) sh mi mr) : V μ Q k n sh mi mr ls ([vi a]) (pc) := by
  intro p l e s m args below meth c D A ρ dA H locs la Qm hC hR hS hL hH
  exact hH (some (vi a)) sh mi mr ρ dA H locs k n pc la ext.rf (Nat.le_refl _) hq hR hS hk.1 hk.2 (Or.inr (Or.inl ⟨a, rfl, hr, hd⟩))
theorem V_zret {a : Int} (hd : decode μ.2.1 pc = .ok (.ireturn, 1)) (hr : μ.2.2.2.2.2.2 = some .boolean) (hk : k ≤ μ.2.2.2.1.cells ∧ n ≤ μ.2.2.2.1.slots) (h01 : a = 0 ∨ a = 1) (hq : Q (some (vi a)) sh mi mr) : V μ Q k n sh mi mr ls ([vi a]) (pc) := by
  intro p l e s m args below meth c D A ρ dA H locs la Qm hC hR hS hL hH
  exact hH (some (vi a)) sh mi mr ρ dA H locs k n pc la ext.rf (Nat.le_refl _) hq hR hS hk.1 hk.2 (Or.inr (Or.inr (Or.inl ⟨a, rfl, hr, h01, hd⟩)))
theorem V_lret {a : Int} (hd : decode μ.2.1 pc = .ok (.lreturn, 1)) (hr : μ.2.2.2.2.2.2 = some .long) (hk : k ≤ μ.2.2.2.1.cells ∧ n ≤ μ.2.2.2.1.slots) (hq : Q (some (vl a)) sh mi mr) : V μ Q k n sh mi mr ls ([vl a]) (pc) := by
  intro p l e s m args below meth c D A ρ dA H locs la Qm hC hR hS hL hH
  exact hH (some (vl a)) sh mi mr ρ dA H locs k n pc la ext.rf (Nat.le_refl _) hq hR hS hk.1 hk.2 (Or.inr (Or.inr (Or.inr (Or.inl ⟨a, rfl, hr, hd⟩))))
theorem V_aret {a : Nat} {cn : String} (hd : decode μ.2.1 pc = .ok (.areturn, 1)) (hr : μ.2.2.2.2.2.2 = some (.object cn)) (hk : k ≤ μ.2.2.2.1.cells ∧ n ≤ μ.2.2.2.1.slots) (hq : Q (some (vr a)) sh mi mr) : V μ Q k n sh mi mr ls ([vr a]) (pc) := by
  intro p l e s m args below meth c D A ρ dA H locs la Qm hC hR hS hL hH
  exact hH (some (vr a)) sh mi mr ρ dA H locs k n pc la ext.rf (Nat.le_refl _) hq hR hS hk.1 hk.2 (Or.inr (Or.inr (Or.inr (Or.inr ⟨a, cn, rfl, hr, hd⟩))))
theorem V_vret (hd : decode μ.2.1 pc = .ok (.return_, 1)) (hr : μ.2.2.2.2.2.2 = none) (hk : k ≤ μ.2.2.2.1.cells ∧ n ≤ μ.2.2.2.1.slots) (hq : Q none sh mi mr) : V μ Q k n sh mi mr ls ([]) (pc) := by
  intro p l e s m args below meth c D A ρ dA H locs la Qm hC hR hS hL hH
  exact hH none sh mi mr ρ dA H locs k n pc la ext.rf (Nat.le_refl _) hq hR hS hk.1 hk.2 (Or.inl ⟨rfl, hr, hd⟩)
end VM
end
section
/-! ===== making objects ===== -/
theorem cel_ext {ρ ρ1 : Nat → Nat} {cA : ClassId} {fi : Int → Int} {fr : Int → Option Nat} {x : Nat ⊕ (Nat × Nat)} (h : ∀ (j : Int) (k : Nat), fr j = some k → ρ1 k = ρ k) : cel ρ1 cA fi fr x = cel ρ cA fi fr x := by
  have hm : ∀ j : Int, (fr j).map ρ1 = (fr j).map ρ := by
    intro j
    cases hj : fr j with
    | none => rfl
    | some k => simp [h j k hj]
  rcases x with ci | ⟨t, n⟩
  · simp only [cel, fls, hm]
  · rcases t with _ | _ | _ | t
    · rfl
    · rfl
    · rfl
    · simp only [cel, cont, hm]
theorem wld_push {ρ : Nat → Nat} {dA : Nat → ClassId} {sh : ShT} {mi : MI} {mr : MR} (q : Nat) (cA : ClassId) (x : Nat ⊕ (Nat × Nat)) (hz : ∀ (a : Nat) (j : Int) (k : Nat), a < sh.length → mr a j = some k → k < sh.length) :
    wld ρ dA sh mi mr ++ [(q, cel ρ cA (fun _ => 0) (fun _ => none) x)] = wld (va_up ρ sh.length q) (va_up dA sh.length cA) (sh ++ [x]) (zm mi sh.length 0) (zm mr sh.length none) := by
  apply List.ext_getElem?
  intro i
  by_cases hi : i < sh.length
  · have hne : i ≠ sh.length := by omega
    have hx : sh[i]? = some sh[i] := List.getElem?_eq_getElem hi
    rw [List.getElem?_append_left (by rw [wld_len]; exact hi), wld_get hx, wld_get (x := sh[i]) (by rw [List.getElem?_append_left hi]; exact hx)]
    rw [zm_n mi 0 hne, zm_n mr none hne, cel_ext (ρ := ρ) (ρ1 := va_up ρ sh.length q) (fun j k hk => by
      have := hz i j k hi hk
      simp [va_up, show k ≠ sh.length by omega])]
    simp [va_up, hne]
  · by_cases hi2 : i = sh.length
    · subst hi2
      rw [List.getElem?_append_right (by rw [wld_len]; omega), wld_len, Nat.sub_self, wld_get (x := x) (by simp)]
      rw [zm_s, zm_s, cel_ext (ρ := ρ) (ρ1 := va_up ρ sh.length q) (fun j k hk => by cases hk)]
      simp [va_up]
    · rw [List.getElem?_eq_none (by simp [wld_len]; omega), List.getElem?_eq_none (by simp [wld_len]; omega)]
def okl (z : Nat) : List AV → Prop
  | [] => True
  | v :: t => v ≠ vr z ∧ okl z t
def oklo (z : Nat) : List (Option AV) → Prop
  | [] => True
  | none :: t => oklo z t
  | some v :: t => v ≠ vr z ∧ oklo z t
theorem rv_ext {ρ : Nat → Nat} {z q : Nat} {v : AV} (h : v ≠ vr z) : rv (va_up ρ z q) v = rv ρ v := by
  rcases v with a | a | r
  · rfl
  · rfl
  · cases r with
    | none => rfl
    | some k =>
      have : k ≠ z := fun e => h (by rw [e])
      simp [rv, va_up, this]
theorem okl_map {ρ : Nat → Nat} {z q : Nat} : ∀ {st : List AV}, okl z st → st.map (rv (va_up ρ z q)) = st.map (rv ρ)
  | [], _ => rfl
  | v :: t, h => by rw [List.map_cons, List.map_cons, rv_ext h.1, okl_map h.2]
theorem oklo_at {z : Nat} : ∀ {ls : List (Option AV)}, oklo z ls → ∀ (i : Nat) (v : AV), ls[i]? = some (some v) → v ≠ vr z
  | [], _, i, v, h => by simp at h
  | none :: t, ho, 0, v, h => by simp at h
  | none :: t, ho, i + 1, v, h => oklo_at (ls := t) ho i v (by simpa using h)
  | some w :: t, ho, 0, v, h => by
    have : w = v := by simpa using h
    rw [← this]; exact ho.1
  | some w :: t, ho, i + 1, v, h => oklo_at (ls := t) ho.2 i v (by simpa using h)
theorem lok.ext {ρ la nL ls} {z q : Nat} (h : lok ρ la nL ls) (ho : oklo z ls) : lok (va_up ρ z q) la nL ls := ⟨h.1, h.2.1, fun i v hi => by rw [rv_ext (oklo_at ho i v hi)]; exact h.2.2 i v hi⟩
theorem Sx.ext {A ρ ρ1 U} (h : Sx A ρ U) (he : ∀ a : Nat, 1000 ≤ a → ρ1 a = ρ a) : Sx A ρ1 U := ⟨h.1, h.2.1, fun j hj => by rw [he _ (by omega)]; exact h.2.2 j hj⟩
theorem Cx.ext {μ p s m args meth c A ρ ρ1} (h : Cx μ p s m args meth c A ρ) (he : ∀ a : Nat, 1000 ≤ a → ρ1 a = ρ a) : Cx μ p s m args meth c A ρ1 :=
  ⟨h.1, h.2.1, h.2.2.1, h.2.2.2.1, h.2.2.2.2.1, h.2.2.2.2.2.1, h.2.2.2.2.2.2.1, h.2.2.2.2.2.2.2.1.ext he, fun L xs hm => by rw [he 1003 (by omega)]; exact h.2.2.2.2.2.2.2.2 L xs hm⟩
theorem Hd.grow {μ Q p l e s m args below meth c D A ρ dA n0 n1 ρ1 dA1 Qm} (h : Hd μ Q p l e s m args below meth c D A ρ dA n0 Qm) (hn : n0 ≤ n1) (he : ext n0 n1 ρ dA ρ1 dA1) : Hd μ Q p l e s m args below meth c D A ρ1 dA1 n1 Qm :=
  fun r sh mi mr ρ' dA' H locs k n pc la hx hle hq hR hS hk hk2 hr => h r sh mi mr ρ' dA' H locs k n pc la (he.tr hx hn hle) (Nat.le_trans hn hle) hq hR hS hk hk2 hr
theorem ext_up {ρ : Nat → Nat} {dA : Nat → ClassId} {z q : Nat} {cA : ClassId} : ext z (z + 1) ρ dA (va_up ρ z q) (va_up dA z cA) := fun a ha => by
  have : a ≠ z := by omega
  simp [va_up, this]
theorem rf_null {t : FieldType} (h : refTy t = true) : defaultValue t = .null := by cases t <;> first | rfl | cases h
/-- a made cell's world -/
theorem Rep.push {D A ρ dA s sh mi mr H H1} {q : Nat} {cA : ClassId} {x : Nat ⊕ (Nat × Nat)} (h : Rep D A ρ dA s sh mi mr H) (hz : sh.length < 1000) (hty : ∀ t n, x = .inr (t, n) → ArrOfT s cA (tyOf t) ∧ va_RA s cA (tyOf t))
    (hP : va_P D vwCl (wld ρ dA sh mi mr ++ [(q, cel ρ cA (fun _ => 0) (fun _ => none) x)]) H1) (hD : va_D A (wld ρ dA sh mi mr ++ [(q, cel ρ cA (fun _ => 0) (fun _ => none) x)])) : Rep D A (va_up ρ sh.length q) (va_up dA sh.length cA) s (sh ++ [x]) (zm mi sh.length 0) (zm mr sh.length none) H1 := by
  rw [wld_push q cA x h.2.2.2.2.2] at hP hD
  refine ⟨hP, hD, fun k t n hk => ?_, h.2.2.2.1, by simp; omega, fun a j k ha hk => ?_⟩
  · by_cases hlt : k < sh.length
    · rw [List.getElem?_append_left hlt] at hk
      have hne : k ≠ sh.length := by omega
      simp only [va_up, if_neg hne]
      exact h.2.2.1 k t n hk
    · have hl := lt_of_get hk
      have he : k = sh.length := by simp at hl; omega
      subst he
      have hx : x = .inr (t, n) := by simpa using hk
      simp only [va_up, if_true]
      exact hty t n hx
  · by_cases hne : a = sh.length
    · subst hne
      rw [zm_s] at hk
      cases hk
    · rw [zm_n mr none hne] at hk
      have := h.2.2.2.2.2 a j k (by simp at ha; omega) hk
      simp; omega
section VN
variable {μ : Mt} {Q : PQ} {k n : Nat} {sh : ShT} {mi : MI} {mr : MR} {ls : List (Option AV)} {st : List AV} {pc : Nat}
theorem V_new {idx ci N : Nat} {C : String} {T : u_T} (hd : decode μ.2.1 pc = .ok (.new idx, 3)) (hc : vwCl[ci]? = some (C, T, N)) (hcl : Cond.classLink μ.1 idx C ∈ WS) (hin : Cond.instantiable C N ∈ WS) (hit : Cond.initialized C ∈ WS) (hu : ∀ w ∈ u_ws C T N, w ∈ WS) (hz : sh.length < 1000) (ho : okl sh.length st ∧ oklo sh.length ls) (hk : k + 1 ≤ μ.2.2.2.1.cells ∧ n + N ≤ μ.2.2.2.1.slots)
    (kk : V μ Q (k + 1) (n + N) (sh ++ [.inl ci]) (zm mi sh.length 0) (zm mr sh.length none) ls (vr sh.length :: st) (pc + 3)) : V μ Q k n sh mi mr ls st pc := by
  intro p l e s m args below meth c D A ρ dA H locs la Qm hC hR hS hL hH
  obtain ⟨C', T', N', ty, hc', hty, hnm, hlen, hfl⟩ := ftb hc
  have h9 := Option.some.inj (hc'.symm.trans hc)
  have e1 : C' = C := congrArg (fun q => q.1) h9
  have e2 : T' = T := congrArg (fun q => q.2.1) h9
  have e3 : N' = N := congrArg (fun q => q.2.2) h9
  subst e1 e2 e3
  refine va_new hC.1 hC.2.1 hC.2.2.2.2.1 hu ty hty hC.2.2.2.1 (hC.2.2.2.2.1 _ hcl) (hC.2.2.2.2.1 _ hin) (hC.2.2.2.2.1 _ hit) hR.ks hR.1 hR.2.1 hS hC.2.2.2.2.2.2.1 hc (fs := fls ρ (fun _ => 0) (fun _ => none) ci) (fun j hj => ?_) hk.1 hk.2 hd (fun q H1 hP hD hS1 => ?_)
  · have g := hfl j hj
    cases hrt : refTy (ty j) with
    | false =>
      rw [g.2 hrt]
      rw [hrt] at g
      simp only [vp_V, List.getD, fls_geti g.1]
      rfl
    | true =>
      rw [rf_null hrt]
      rw [hrt] at g
      simp only [vp_V, List.getD, fls_getr g.1]
      rfl
  · have hR1 := hR.push (q := q) (cA := default) (x := .inl ci) hz (fun t n h => by cases h) hP hD
    have hH1 := hH.grow (n1 := sh.length + 1) (Nat.le_succ _) (ext_up (q := q) (cA := default))
    have hgo := kk p l e s m args below meth c D A (va_up ρ sh.length q) (va_up dA sh.length default) H1 locs la Qm (hC.ext (fun a ha => by simp [va_up, show a ≠ sh.length by omega])) hR1 hS1 (hL.ext ho.2) (by simpa using hH1)
    rw [List.map_cons, okl_map ho.1] at hgo
    rw [show rv (va_up ρ sh.length q) (vr sh.length) = .ref q by simp [rv, va_up, va_rf]] at hgo
    exact hgo
theorem V_newa {atype : ArrayType} {t N : Nat} {x : Int} (hd : decode μ.2.1 pc = .ok (.newarray atype, 2)) (ht : newarray.typeOf atype = tyOf t ∧ (t = 0 ∨ t = 1 ∨ t = 2)) (hac : Cond.arrayClass (newarray.typeOf atype) ∈ WS) (hx : x = (N : Int)) (hN : N ≤ 60000) (hz : sh.length < 1000) (ho : okl sh.length st ∧ oklo sh.length ls) (hk : k + 1 ≤ μ.2.2.2.1.cells ∧ n + N ≤ μ.2.2.2.1.slots)
    (kk : V μ Q (k + 1) (n + N) (sh ++ [.inr (t, N)]) (zm mi sh.length 0) (zm mr sh.length none) ls (vr sh.length :: st) (pc + 2)) : V μ Q k n sh mi mr ls (vi x :: st) pc := by
  intro p l e s m args below meth c D A ρ dA H locs la Qm hC hR hS hL hH
  subst hx
  have hrg : rng (N : Int) := ⟨by omega, by omega⟩
  refine va_newa hC.1 hC.2.1 (hC.2.2.2.2.1 _ hac) ht.1 hR.ks hR.1 hR.2.1 hS hC.2.2.2.2.2.2.1 (N' := N) (a0 := (N, cont ρ (fun _ => 0) (fun _ => none) t)) ?_ ?_ ?_ ?_ hk.1 hk.2 hd (fun q cA H1 hK hP hD hS1 => ?_)
  · intro cA
    rcases ht.2 with h | h | h <;> subst h <;> rfl
  · rw [show (0 : Int32) = Int32.ofInt 0 from rfl, i_lt hrg rng0]; omega
  · rw [Int32.toNatClampNeg_ofInt_of_le (by omega) (by omega)]; rfl
  · rcases ht.2 with h | h | h <;> subst h <;> simp [componentBytes, tyOf] <;> omega
  · have hR1 := hR.push (q := q) (cA := cA) (x := .inr (t, N)) hz (fun t' n' h => by
      cases h
      exact hK.2 0 (cA, tyOf t) rfl) hP hD
    have hH1 := hH.grow (n1 := sh.length + 1) (Nat.le_succ _) (ext_up (q := q) (cA := cA))
    have hgo := kk p l e s m args below meth c D A (va_up ρ sh.length q) (va_up dA sh.length cA) H1 locs la Qm (hC.ext (fun a ha => by simp [va_up, show a ≠ sh.length by omega])) hR1 hS1 (hL.ext ho.2) (by simpa using hH1)
    rw [List.map_cons, okl_map ho.1] at hgo
    rw [show rv (va_up ρ sh.length q) (vr sh.length) = .ref q by simp [rv, va_up, va_rf]] at hgo
    exact hgo
theorem V_newq {idx N : Nat} {x : Int} (hd : decode μ.2.1 pc = .ok (.anewarray idx, 3)) (hcl : Cond.classLink μ.1 idx "DiagonalTexts$State" ∈ WS) (hx : x = (N : Int)) (hN : N ≤ 60000) (hz : sh.length < 1000) (ho : okl sh.length st ∧ oklo sh.length ls) (hk : k + 1 ≤ μ.2.2.2.1.cells ∧ n + N ≤ μ.2.2.2.1.slots)
    (kk : V μ Q (k + 1) (n + N) (sh ++ [.inr (3, N)]) (zm mi sh.length 0) (zm mr sh.length none) ls (vr sh.length :: st) (pc + 3)) : V μ Q k n sh mi mr ls (vi x :: st) pc := by
  intro p l e s m args below meth c D A ρ dA H locs la Qm hC hR hS hL hH
  subst hx
  have hrg : rng (N : Int) := ⟨by omega, by omega⟩
  refine va_newq hC.1 hC.2.1 hC.2.2.2.1 (hC.2.2.2.2.1 _ hcl) hC.2.2.2.2.2.2.2.1.2.1 hR.ks hR.1 hR.2.1 hS hC.2.2.2.2.2.2.1 (N' := N) ?_ ?_ (by omega) hk.1 hk.2 hd (fun q cA H1 hK hP hD hS1 => ?_)
  · rw [show (0 : Int32) = Int32.ofInt 0 from rfl, i_lt hrg rng0]; omega
  · rw [Int32.toNatClampNeg_ofInt_of_le (by omega) (by omega)]; rfl
  · have hR1 := hR.push (q := q) (cA := cA) (x := .inr (3, N)) hz (fun t' n' h => by
      cases h
      exact hK.2 0 (cA, .object "DiagonalTexts$State") rfl) hP hD
    have hH1 := hH.grow (n1 := sh.length + 1) (Nat.le_succ _) (ext_up (q := q) (cA := cA))
    have hgo := kk p l e s m args below meth c D A (va_up ρ sh.length q) (va_up dA sh.length cA) H1 locs la Qm (hC.ext (fun a ha => by simp [va_up, show a ≠ sh.length by omega])) hR1 hS1 (hL.ext ho.2) (by simpa using hH1)
    rw [List.map_cons, okl_map ho.1] at hgo
    rw [show rv (va_up ρ sh.length q) (vr sh.length) = .ref q by simp [rv, va_up, va_rf]] at hgo
    exact hgo
end VN
/-! ===== contracts ===== -/
def Pre (D : va_G) (ρ : Nat → Nat) (dA : Nat → ClassId) (A : Nat → Prop) (sz : Nat) (sh : ShT) (mi : MI) (mr : MR) (As : List AV) : Array Value → State → Prop := fun v U => v = (As.map (rv ρ)).toArray ∧ U.heap.size = sz ∧ Rep D A ρ dA U sh mi mr U.heap ∧ Sx A ρ U
def PostC (D : va_G) (ρ : Nat → Nat) (dA : Nat → ClassId) (A : Nat → Prop) (n0 : Nat) (Q : PQ) : Array Value → State → Outcome → State → Prop := fun _ st o t =>
  (∃ (r : Option AV) (sh : ShT) (mi : MI) (mr : MR) (ρ' : Nat → Nat) (dA' : Nat → ClassId), o = .returned (r.map (rv ρ')) ∧ Q r sh mi mr ∧ ext n0 sh.length ρ dA ρ' dA' ∧ n0 ≤ sh.length ∧ Rep D A ρ' dA' t sh mi mr t.heap) ∧ va_F A st t
def wsM (y : MethodName) (b : ByteArray) (nL : Nat) (ret : Option FieldType) : List Cond := .code y b nL ret :: WS
/-- the contract of a call -/
def Ct (y : MethodName) (ws : List Cond) (R : Room) (sh : ShT) (mi : MI) (mr : MR) (As : List AV) (Q : PQ) : Prop :=
  ∀ (l : Launch) (D : va_G) (ρ : Nat → Nat) (dA : Nat → ClassId) (sz : Nat), Met l y ws R (Pre D ρ dA (va_A (wld ρ dA sh mi mr) sz) sz sh mi mr As) (PostC D ρ dA (va_A (wld ρ dA sh mi mr) sz) sh.length Q) R.cells R.slots (va_A (wld ρ dA sh mi mr) sz)
theorem nest_on {w : Cond} (h : w ∈ NW) : w.onTables = true := by
  have h1 := (List.mem_filter.mp h).2
  cases w <;> first | rfl | cases h1
theorem nw_warm {w : Cond} {s U : State} (h : w ∈ NW) (hW : s.WarmedH U.vm) (hz : va_Nw w s) : va_Nw w U := by
  have h1 := (List.mem_filter.mp h).2
  cases w <;> first | exact va_Nw.warmF hW hz | exact va_Nw.warmM hW hz | cases h1
theorem good_WS (y : MethodName) (b : ByteArray) (nL : Nat) (ret : Option FieldType) (h : Cond.code y b nL ret ∈ WS) : GoodIn WS (wsM y b nL ret) := fun w hw => by
  rcases List.mem_cons.mp hw with e | hw
  · subst e
    exact ⟨h, good_of_word (List.mem_filter.mp h).2⟩
  · exact ⟨hw, good_of_word (List.mem_filter.mp hw).2⟩
theorem Pre.blind {D ρ dA A sz sh mi mr As} : FrameBlind (Pre D ρ dA A sz sh mi mr As) := fun a U g mk h =>
  ⟨h.1, h.2.1, h.2.2.1.moved (u := U) (U := U.calling g mk a) (Vm.Alike.refl U.vm), fun w hw => va_Nw.same (nest_on hw) (u := U) (U := U.calling g mk a) rfl (h.2.2.2.1 w hw), va_AO.moved (u := U) (U := U.calling g mk a) (Vm.Alike.refl U.vm) h.2.2.2.2.1,
    fun j hj => ⟨va_Z.moved (u := U) (U := U.calling g mk a) (Vm.Alike.refl U.vm) (h.2.2.2.2.2 j hj).1, va_T.moved (u := U) (U := U.calling g mk a) (Vm.Alike.refl U.vm) (h.2.2.2.2.2 j hj).2⟩⟩
theorem sub_A {D A ρ dA s sh mi mr H locs} {H0 : Heap} (hR : Rep D A ρ dA s sh mi mr H) (hS : va_S A H0 H locs) (hA : ∀ q : Nat, H0.size ≤ q → A q) : ∀ q, va_A (wld ρ dA sh mi mr) H.size q → A q := by
  intro q h
  rcases h with ⟨k, e, h⟩ | h
  · exact hR.2.1.2 k (q, e) h
  · exact hA q (Nat.le_trans hS.1 h)
theorem pre_at {μ p s m args meth c D A ρ dA sh mi mr H locs} (As : List AV) (hC : Cx μ p s m args meth c A ρ) (hR : Rep D A ρ dA s sh mi mr H) (hS : va_S A s.heap H locs) : ∀ U : State, U.heap = H → s.WarmedH U.vm → Pre D ρ dA (va_A (wld ρ dA sh mi mr) H.size) H.size sh mi mr As (As.map (rv ρ)).toArray U := by
  intro U hU hW
  have hsub := sub_A hR hS hC.2.2.2.2.2.2.1
  refine ⟨rfl, by rw [hU], ?_, fun w hw => nw_warm hw hW (hC.2.2.2.2.2.2.2.1.1 w hw), va_AO.moved hW.alike hC.2.2.2.2.2.2.2.1.2.1, fun j hj => ?_⟩
  · rw [hU]
    have hR1 := hR.moved hW.alike
    exact ⟨hR1.1, hR1.2.1.self, hR1.2.2⟩
  · obtain ⟨h1, h2⟩ := hC.2.2.2.2.2.2.2.1.2.2 j hj
    rw [hU]
    exact ⟨((va_Z.moved hW.alike h1).kept (fun a ha hna => hS.2.1 a ha hna)).narrow hsub, ((va_T.moved hW.alike h2).kept (fun a ha hna => hS.2.1 a ha hna)).narrow hsub⟩
section VC
variable {p : Program} {l : Launch} {e : Env} {R : Room} {s : State} {m : MethodId} {args : Array Value} {below : List Frame} {meth : Method} {c : Code} {H : Heap} {locs : List Loc} {cells slots : Nat} {Qm : State → Prop}
theorem va_callG {Q' : PQ} {D : va_G} {ρ : Nat → Nat} {dA : Nat → ClassId} {A0 A1 : Nat → Prop} {n0 pc mc ms : Nat} {la : Array Slot} {st0 rest : List Value} {a : Array Value} {H0 : Heap} {free : Addr → Prop} (hr : va_Run p l e R s m args below meth c H locs cells slots mc ms (F0 m pc la st0) rest (PostC D ρ dA A1 n0 Q' a) free) (hS : va_S A0 H0 H locs) (hA : ∀ q, A1 q → A0 q) (hf : ∀ q, free q → A0 q)
    (kk : ∀ (r : Option AV) (sh' : ShT) (mi' : MI) (mr' : MR) (ρ' : Nat → Nat) (dA' : Nat → ClassId) (t : State) (H1 : Heap) (locs1 : List Loc), t.heap = H1 → s.vm.Alike t.vm → Q' r sh' mi' mr' → ext n0 sh'.length ρ dA ρ' dA' → n0 ≤ sh'.length → Rep D A1 ρ' dA' t sh' mi' mr' H1 → va_S A0 H0 H1 locs1 → W p l e R s m args below meth c H1 locs1 (cells + mc) (slots + ms) Qm (F0 m (pc + 3) la ((r.map (rv ρ')).toList ++ rest))) : W p l e R s m args below meth c H locs cells slots Qm (F0 m pc la st0) := by
  intro T hT X
  obtain ⟨v, st₀, t, T', L, h0, X', hL, e1, e2, ⟨⟨r, sh', mi', mr', ρ', dA', hv, hq, hext, hle, hRt⟩, hz, hk⟩, st⟩ := hr T hT X
  cases hv
  rw [h0] at hz hk
  rw [← e1] at hRt hz
  obtain ⟨t2, a1, b1⟩ := kk r sh' mi' mr' ρ' dA' t T'.heap (locs ++ L) e1.symm (by rw [← e2]; exact X'.warmed.alike) hq hext hle hRt
    ⟨Nat.le_trans hS.1 hz, fun q h1 h2 => by rw [e1, hk q (Nat.lt_of_lt_of_le h1 hS.1) (fun z => h2 (hA q z))]; exact hS.2.1 q h1 h2, fun q hq => by
      rcases List.mem_append.mp hq with h | h
      · exact hS.2.2 q h
      · exact hf _ (hL q h)⟩ T' rfl X'
  exact ⟨t2, st t2 a1, b1⟩
end VC
section VCC
variable {μ : Mt} {Q : PQ} {k n : Nat} {sh : ShT} {mi : MI} {mr : MR} {ls : List (Option AV)} {st st' : List AV} {pc : Nat} {y : MethodName} {b : ByteArray} {nL nP idx : Nat} {ret : Option FieldType} {Rc : Room} {As : List AV}
/-- behind a call that makes nothing: the same addresses -/
theorem V_behind {Q2 : Option AV → MI → MR → Prop} {p l e s m args below meth c D A ρ dA H locs la Qm} {a : Array Value} {st0 : List Value} (hC : Cx μ p s m args meth c A ρ) (hR : Rep D A ρ dA s sh mi mr H) (hS : va_S A s.heap H locs) (hL : lok ρ la μ.2.2.1 ls) (hH : Hd μ Q p l e s m args below meth c D A ρ dA sh.length Qm)
    (hr : va_Run p l e μ.2.2.2.1 s m args below meth c H locs k n 0 0 (F0 m pc la st0) (st'.map (rv ρ)) (PostC D ρ dA (va_A (wld ρ dA sh mi mr) H.size) sh.length (fun r sh' mi' mr' => sh' = sh ∧ Q2 r mi' mr') a) (va_A (wld ρ dA sh mi mr) H.size))
    (kk : ∀ r mi' mr', Q2 r mi' mr' → V μ Q k n sh mi' mr' ls (r.toList ++ st') (pc + 3)) : W p l e μ.2.2.2.1 s m args below meth c H locs k n Qm (F0 m pc la st0) := by
  have hsub := sub_A hR hS hC.2.2.2.2.2.2.1
  refine va_callG hr hS hsub hsub (fun r sh' mi' mr' ρ' dA' t H1 locs1 ht hvm hq hext hle hRt hS1 => ?_)
  obtain ⟨rfl, hq⟩ := hq
  have e1 : ρ' = ρ := funext fun a => (hext a (by omega)).1
  have e2 : dA' = dA := funext fun a => (hext a (by omega)).2
  subst e1 e2
  have hgo := kk r mi' mr' hq p l e s m args below meth c D A ρ' dA' H1 locs1 la Qm hC ((hRt.moved hvm.symm).weaken hsub) hS1 hL hH
  rw [List.map_append] at hgo
  cases r with
  | none => exact hgo
  | some v => exact hgo
/-- a call of a method of an object -/
theorem V_callV {Q2 : Option AV → MI → MR → Prop} {a ci : Nat} (hd : decode μ.2.1 pc = .ok (.invokevirtual idx, 3)) (hm : ML μ.1 idx y) (hk : KM y b nL ret nP) (hv : KV y) (hc : Ct y (wsM y b nL ret) Rc sh mi mr (vr a :: As) (fun r sh' mi' mr' => sh' = sh ∧ Q2 r mi' mr')) (hs : sh[a]? = some (.inl ci)) (hcls : (vwCl[ci]?).map (fun q => q.1) = some y.cls) (hst : st = As.reverse ++ vr a :: st') (hn : As.length = nP) (hcat : (st'.map acat).sum ≤ 8)
    (hRm : Rc.frames + 1 ≤ μ.2.2.2.1.frames ∧ 8 + (nL + 11) + Rc.locals ≤ μ.2.2.2.1.locals) (hR0 : Rc.cells = 0 ∧ Rc.slots = 0) (hkn : k ≤ μ.2.2.2.1.cells ∧ n ≤ μ.2.2.2.1.slots)
    (kk : ∀ r mi' mr', Q2 r mi' mr' → V μ Q k n sh mi' mr' ls (r.toList ++ st') (pc + 3)) : V μ Q k n sh mi mr ls st pc := by
  intro p l e s m args below meth c D A ρ dA H locs la Qm hC hR hS hL hH
  subst hst
  have hM := hc l D ρ dA H.size
  rw [hR0.1, hR0.2] at hM
  have ht := hC.2.2.2.2.1
  have hpV : PreV s H y.cls (ρ a) (Pre D ρ dA (va_A (wld ρ dA sh mi mr) H.size) H.size sh mi mr (vr a :: As)) (As.map (rv ρ)) := by
    refine ⟨Pre.blind, ?_, pre_at (vr a :: As) hC hR hS⟩
    cases hcl : vwCl[ci]? with
    | none => rw [hcl] at hcls; cases hcls
    | some q =>
      rw [hcl] at hcls
      have hq : q.1 = y.cls := Option.some.inj hcls
      rw [← hq]
      exact va_recv hR.ks hR.1 (ci := ci) (q0 := a) hcl (wld_get hs)
  have hstk : (F0 m pc la ((As.reverse ++ vr a :: st').map (rv ρ))).stack = (As.map (rv ρ)).reverse ++ .ref (ρ a) :: st'.map (rv ρ) := by
    simp [rv, va_rf]
  have hG := good_WS y b nL ret hk.1
  have hroom : 2 * (F0 m pc la ((As.reverse ++ vr a :: st').map (rv ρ))).monitorRoom + ((st'.map (rv ρ)).map fun v => v.category).sum ≤ 8 := lv_room (by rw [cat_sum]; exact hcat)
  have hlen : (As.map (rv ρ)).length = nP := by simp [hn]
  refine V_behind (Q2 := Q2) (a := (Value.ref (ρ a) :: As.map (rv ρ)).toArray) hC hR hS hL hH ?_ kk
  rcases hm with hm | ⟨host, hm⟩
  · exact va_runV ⟨hC.1, hC.2.1, hC.2.2.1, hC.2.2.2.1, ht⟩ hM ⟨callB_of nP ht hG rfl hR0.1 hR0.2 (ht _ hk.2.1) (ht _ hm) ⟨hk.2.2.2.1, hk.2.2.2.2.1, hk.2.2.2.2.2⟩ hRm, ht _ hv.1, ht _ hv.2⟩ hpV rfl hlen hL.1 hstk hroom hd hkn
  · exact va_runVN ⟨hC.1, hC.2.1, hC.2.2.1, hC.2.2.2.1, ht⟩ hM ⟨va_cnB nP ht hG rfl hR0.1 hR0.2 (hC.2.2.2.2.2.2.2.1.1 _ hm) (ht _ hk.2.1) ⟨hk.2.2.2.1, hk.2.2.2.2.1, hk.2.2.2.2.2⟩ hRm, ht _ hv.1, ht _ hv.2⟩ hpV rfl hlen hL.1 hstk hroom hd hkn
/-- a call of a static method -/
theorem V_callS {Q2 : Option AV → MI → MR → Prop} (hd : decode μ.2.1 pc = .ok (.invokestatic idx, 3)) (hm : ML μ.1 idx y) (hk : KM y b nL ret nP) (hv : Cond.static y ∈ WS) (hc : Ct y (wsM y b nL ret) Rc sh mi mr As (fun r sh' mi' mr' => sh' = sh ∧ Q2 r mi' mr')) (hst : st = As.reverse ++ st') (hn : As.length = nP) (hcat : (st'.map acat).sum ≤ 8)
    (hRm : Rc.frames + 1 ≤ μ.2.2.2.1.frames ∧ 8 + (nL + 11) + Rc.locals ≤ μ.2.2.2.1.locals) (hR0 : Rc.cells = 0 ∧ Rc.slots = 0) (hkn : k ≤ μ.2.2.2.1.cells ∧ n ≤ μ.2.2.2.1.slots)
    (kk : ∀ r mi' mr', Q2 r mi' mr' → V μ Q k n sh mi' mr' ls (r.toList ++ st') (pc + 3)) : V μ Q k n sh mi mr ls st pc := by
  intro p l e s m args below meth c D A ρ dA H locs la Qm hC hR hS hL hH
  subst hst
  have hM := hc l D ρ dA H.size
  rw [hR0.1, hR0.2] at hM
  have ht := hC.2.2.2.2.1
  have hpV : PreS s H (Pre D ρ dA (va_A (wld ρ dA sh mi mr) H.size) H.size sh mi mr As) (As.map (rv ρ)) := ⟨Pre.blind, pre_at As hC hR hS⟩
  have hstk : (F0 m pc la ((As.reverse ++ st').map (rv ρ))).stack = (As.map (rv ρ)).reverse ++ st'.map (rv ρ) := by simp
  have hG := good_WS y b nL ret hk.1
  have hroom : 2 * (F0 m pc la ((As.reverse ++ st').map (rv ρ))).monitorRoom + ((st'.map (rv ρ)).map fun v => v.category).sum ≤ 8 := lv_room (by rw [cat_sum]; exact hcat)
  have hlen : (As.map (rv ρ)).length = nP := by simp [hn]
  refine V_behind (Q2 := Q2) (a := (As.map (rv ρ)).toArray) hC hR hS hL hH ?_ kk
  rcases hm with hm | ⟨host, hm⟩
  · exact va_runS ⟨hC.1, hC.2.1, hC.2.2.1, hC.2.2.2.1, ht⟩ hM ⟨callB_of nP ht hG rfl hR0.1 hR0.2 (ht _ hk.2.1) (ht _ hm) ⟨hk.2.2.2.1, hk.2.2.2.2.1, hk.2.2.2.2.2⟩ hRm, ht _ hv⟩ hpV rfl hlen hL.1 hstk hroom hd hkn
  · exact va_runSN ⟨hC.1, hC.2.1, hC.2.2.1, hC.2.2.2.1, ht⟩ hM ⟨va_cnB nP ht hG rfl hR0.1 hR0.2 (hC.2.2.2.2.2.2.2.1.1 _ hm) (ht _ hk.2.1) ⟨hk.2.2.2.1, hk.2.2.2.2.1, hk.2.2.2.2.2⟩ hRm, ht _ hv, trivial⟩ hpV rfl hlen hL.1 hstk hroom hd hkn
/-- every reference of the list is of the world, or beyond all worlds -/
def okn (z : Nat) : List AV → Prop
  | [] => True
  | .inr (.inr (some k)) :: t => (k < z ∨ 1000 ≤ k) ∧ okn z t
  | _ :: t => okn z t
theorem okn_mem {z : Nat} : ∀ {st : List AV}, okn z st → ∀ k, vr k ∈ st → k < z ∨ 1000 ≤ k
  | [], _, k, h => by simp at h
  | v :: t, ho, k, h => by
    rcases List.mem_cons.mp h with e | h
    · subst e; exact ho.1
    · refine okn_mem (st := t) ?_ k h
      rcases v with a | a | r
      · exact ho
      · exact ho
      · cases r with
        | none => exact ho
        | some j => exact ho.2
theorem rv_same {ρ ρ' : Nat → Nat} {v : AV} (h : ∀ k, v = vr k → ρ' k = ρ k) : rv ρ' v = rv ρ v := by
  rcases v with a | a | r
  · rfl
  · rfl
  · cases r with
    | none => rfl
    | some k => simp [rv, h k rfl]
/-- a call of a constructor -/
theorem V_callI {Q2 : PQ} {a : Nat} (hd : decode μ.2.1 pc = .ok (.invokespecial idx, 3)) (hm : ML μ.1 idx y) (hk : KM y b nL none nP) (hv : KI y) (hc : Ct y (wsM y b nL none) Rc sh mi mr (vr a :: As) Q2) (hst : st = As.reverse ++ vr a :: st') (hn : As.length = nP) (hcat : (st'.map acat).sum ≤ 8) (ho : okn sh.length st' ∧ okn sh.length (ls.filterMap id))
    (hRm : Rc.frames + 1 ≤ μ.2.2.2.1.frames ∧ 8 + (nL + 11) + Rc.locals ≤ μ.2.2.2.1.locals) (hkn : k + Rc.cells ≤ μ.2.2.2.1.cells ∧ n + Rc.slots ≤ μ.2.2.2.1.slots)
    (kk : ∀ r sh' mi' mr', Q2 r sh' mi' mr' → V μ Q (k + Rc.cells) (n + Rc.slots) sh' mi' mr' ls (r.toList ++ st') (pc + 3)) : V μ Q k n sh mi mr ls st pc := by
  intro p l e s m args below meth c D A ρ dA H locs la Qm hC hR hS hL hH
  subst hst
  have hM := hc l D ρ dA H.size
  have ht := hC.2.2.2.2.1
  have hpV : PreS s H (Pre D ρ dA (va_A (wld ρ dA sh mi mr) H.size) H.size sh mi mr (vr a :: As)) (.ref (ρ a) :: As.map (rv ρ)) := ⟨Pre.blind, pre_at (vr a :: As) hC hR hS⟩
  have hstk : (F0 m pc la ((As.reverse ++ vr a :: st').map (rv ρ))).stack = (As.map (rv ρ)).reverse ++ .ref (ρ a) :: st'.map (rv ρ) := by
    simp [rv, va_rf]
  have hG := good_WS y b nL none hk.1
  have hroom : 2 * (F0 m pc la ((As.reverse ++ vr a :: st').map (rv ρ))).monitorRoom + ((st'.map (rv ρ)).map fun v => v.category).sum ≤ 8 := lv_room (by rw [cat_sum]; exact hcat)
  have hlen : (As.map (rv ρ)).length = nP := by simp [hn]
  have hsub := sub_A hR hS hC.2.2.2.2.2.2.1
  have hrun : va_Run p l e μ.2.2.2.1 s m args below meth c H locs k n Rc.cells Rc.slots (F0 m pc la ((As.reverse ++ vr a :: st').map (rv ρ))) (st'.map (rv ρ)) (PostC D ρ dA (va_A (wld ρ dA sh mi mr) H.size) sh.length Q2 (Value.ref (ρ a) :: As.map (rv ρ)).toArray) (va_A (wld ρ dA sh mi mr) H.size) := by
    rcases hm with hm | ⟨host, hm⟩
    · exact va_runI ⟨hC.1, hC.2.1, hC.2.2.1, hC.2.2.2.1, ht⟩ hM ⟨callB_of nP ht hG rfl rfl rfl (ht _ hk.2.1) (ht _ hm) ⟨hk.2.2.2.1, hk.2.2.2.2.1, hk.2.2.2.2.2⟩ hRm, hv.2, ht _ hv.1⟩ hpV rfl hlen hL.1 hstk hroom hd hkn
    · exact va_runIN ⟨hC.1, hC.2.1, hC.2.2.1, hC.2.2.2.1, ht⟩ hM ⟨va_cnB nP ht hG rfl rfl rfl (hC.2.2.2.2.2.2.2.1.1 _ hm) (ht _ hk.2.1) ⟨hk.2.2.2.1, hk.2.2.2.2.1, hk.2.2.2.2.2⟩ hRm, hv.2, ht _ hv.1⟩ hpV rfl hlen hL.1 hstk hroom hd hkn
  refine va_callG hrun hS hsub hsub (fun r sh' mi' mr' ρ' dA' t H1 locs1 ht' hvm hq hext hle hRt hS1 => ?_)
  have hbig : ∀ q : Nat, 1000 ≤ q → ρ' q = ρ q := fun q hq => (hext q (Or.inr (Nat.le_trans hRt.2.2.2.2.1 hq))).1
  have hsame : ∀ q : Nat, q < sh.length ∨ 1000 ≤ q → ρ' q = ρ q := fun q hq => by
    rcases hq with hq | hq
    · exact (hext q (Or.inl hq)).1
    · exact hbig q hq
  have hL1 : lok ρ' la μ.2.2.1 ls := ⟨hL.1, hL.2.1, fun i v hi => by
    rw [rv_same (fun k hk => hsame k (okn_mem ho.2 k (by subst hk; exact List.mem_filterMap.mpr ⟨some (vr k), List.mem_of_getElem? hi, rfl⟩)))]
    exact hL.2.2 i v hi⟩
  have hgo := kk r sh' mi' mr' hq p l e s m args below meth c D A ρ' dA' H1 locs1 la Qm (hC.ext hbig) ((hRt.moved hvm.symm).weaken hsub) hS1 hL1 (hH.grow hle hext)
  have est : st'.map (rv ρ') = st'.map (rv ρ) := List.map_congr_left fun v hv' => rv_same (fun k hk => hsame k (okn_mem ho.1 k (hk ▸ hv')))
  rw [List.map_append, est] at hgo
  cases r with
  | none => exact hgo
  | some v => exact hgo
end VCC
/-! ===== a contract by its walk ===== -/
def eL : List AV → List (Option AV)
  | [] => []
  | .inr (.inl a) :: t => some (vl a) :: none :: eL t
  | v :: t => some v :: eL t
theorem eL_args {ρ : Nat → Nat} : ∀ (As : List AV) (i0 i : Nat) (v : AV), (eL As)[i]? = some (some v) → (i0 + i, rv ρ v) ∈ lv_args i0 (As.map (rv ρ))
  | [], i0, i, v, h => by simp [eL] at h
  | .inl a :: t, i0, 0, v, h => by
    have : (.inl a : AV) = v := by simpa [eL] using h
    subst this
    exact List.mem_cons_self
  | .inl a :: t, i0, i + 1, v, h => by
    have h1 := eL_args (ρ := ρ) t (i0 + 1) i v (by simpa [eL] using h)
    refine List.mem_cons_of_mem _ ?_
    have e : i0 + (i + 1) = i0 + 1 + i := by omega
    rw [e]
    exact h1
  | .inr (.inl a) :: t, i0, 0, v, h => by
    have : (.inr (.inl a) : AV) = v := by simpa [eL] using h
    subst this
    exact List.mem_cons_self
  | .inr (.inl a) :: t, i0, 1, v, h => by simp [eL] at h
  | .inr (.inl a) :: t, i0, i + 2, v, h => by
    have h1 := eL_args (ρ := ρ) t (i0 + 2) i v (by simpa [eL] using h)
    refine List.mem_cons_of_mem _ ?_
    have e : i0 + (i + 2) = i0 + 2 + i := by omega
    rw [e]
    exact h1
  | .inr (.inr r) :: t, i0, 0, v, h => by
    have : (.inr (.inr r) : AV) = v := by simpa [eL] using h
    subst this
    exact List.mem_cons_self
  | .inr (.inr r) :: t, i0, i + 1, v, h => by
    have h1 := eL_args (ρ := ρ) t (i0 + 1) i v (by simpa [eL] using h)
    refine List.mem_cons_of_mem _ ?_
    have e : i0 + (i + 1) = i0 + 1 + i := by omega
    rw [e]
    have ec : (rv ρ (.inr (.inr r))).category = 1 := acat_eq ρ _
    rw [ec]
    exact h1
theorem lg_cons (ρ : Nat → Nat) (v : AV) (t : List AV) : (lg_sl ((v :: t).map (rv ρ))).length = acat v + (lg_sl (t.map (rv ρ))).length := by
  have e : lg_sl ((v :: t).map (rv ρ)) = (if (rv ρ v).category = 2 then [.val (rv ρ v), .second] else [.val (rv ρ v)]) ++ lg_sl (t.map (rv ρ)) := rfl
  rw [e, List.length_append, acat_eq]
  rcases v with a | a | r <;> rfl
theorem eL_len (ρ : Nat → Nat) : ∀ As : List AV, (lg_sl (As.map (rv ρ))).length = (eL As).length
  | [] => rfl
  | .inl a :: t => by
    rw [lg_cons, eL_len ρ t]
    simp only [eL, acat, List.length_cons]
    omega
  | .inr (.inl a) :: t => by
    rw [lg_cons, eL_len ρ t]
    simp only [eL, acat, List.length_cons]
    omega
  | .inr (.inr r) :: t => by
    rw [lg_cons, eL_len ρ t]
    simp only [eL, acat, List.length_cons]
    omega
theorem Ct.ofV {y : MethodName} {b : ByteArray} {nL nP : Nat} {ret : Option FieldType} {R : Room} {ini : Bool} {sh : ShT} {mi : MI} {mr : MR} {As : List AV} {Q : PQ} (ls : List (Option AV)) (hk : KM y b nL ret nP) (hini : ini = true → y.name = "<init>") (hls : eL As ++ List.replicate (nL - (eL As).length) none = ls) (hlen : (eL As).length ≤ nL)
    (body : V (y.cls, b, nL, R, ini, none, ret) Q 0 0 sh mi mr ls [] 0) : Ct y (wsM y b nL ret) R sh mi mr As Q := by
  intro l D ρ dA sz
  refine Met.ofW (cc := b) (maxL := nL) (ret := ret) hk.2.2.1 rfl ?_
  intro p e s m args below meth c s₁ B hml hP
  obtain ⟨rfl, hsz, hR, hSx⟩ := hP
  have hts : ∀ w ∈ wsM y b nL ret, w.before (As.map (rv ρ)).toArray s = true := atoms_spec (ws := wsM y b nL ret) B.pre
  have hown : s.vm.findClass y.cls = some m.cls := findClass_of_methodNamed B.named
  have hlk := B.notSynchronized
  have hle : (lg_sl (As.map (rv ρ))).length ≤ nL := by rw [eL_len]; exact hlen
  have hl := lv_entry (As.map (rv ρ)) (n := nL) hle
  rw [lg_entry_eq]
  subst hsz
  subst hls
  have hL : lok ρ ((lg_sl (As.map (rv ρ)) ++ List.replicate (nL - (lg_sl (As.map (rv ρ))).length) Slot.unset).toArray) nL (eL As ++ List.replicate (nL - (eL As).length) none) := by
    refine ⟨hl.1, hl.2.1, fun i v hi => ?_⟩
    by_cases hlt : i < (eL As).length
    · rw [List.getElem?_append_left hlt] at hi
      have := eL_args (ρ := ρ) As 0 i v hi
      rw [Nat.zero_add] at this
      exact hl.2.2 _ this
    · rw [List.getElem?_append_right (by omega), List.getElem?_replicate] at hi
      split at hi <;> cases hi
  refine body p l e s m _ below meth c D _ ρ dA s.heap [] _ _ ⟨B.exec, B.bytes, hml, hown, fun w hw => hts w (List.mem_cons_of_mem _ hw), fun h => ?_, fun q hq => Or.inr hq, hSx, fun L xs h => by cases h⟩ hR va_S.rf hL ?_
  · rw [(name_of_methodNamed B.named B.method).1]
    exact hini h
  · intro r sh' mi' mr' ρ' dA' H locs k n pc la hext hle' hq hR' hS' hk' hn' hret
    refine W.widen hk' hn' ?_
    have hpost : ∀ t : State, t.heap = H → s.WarmedH t.vm → PostC D ρ dA (va_A (wld ρ dA sh mi mr) s.heap.size) sh.length Q (As.map (rv ρ)).toArray s (.returned (r.map (rv ρ'))) t := fun t ht hW =>
      ⟨⟨r, sh', mi', mr', ρ', dA', rfl, hq, hext, hle', by rw [ht]; exact hR'.moved hW.alike⟩, hS'.F ht⟩
    rcases hret with ⟨rfl, hr, hd⟩ | ⟨a, rfl, hr, hd⟩ | ⟨a, rfl, hr, h01, hd⟩ | ⟨a, rfl, hr, hd⟩ | ⟨a, cn, rfl, hr, hd⟩
    · exact W.vret B.exec B.bytes (B.returns.trans hr) hpost hS'.2.2 hd
    · exact W.iret B.exec B.bytes (B.returns.trans hr) hpost hS'.2.2 hd
    · refine W.zret B.exec B.bytes (B.returns.trans hr) ?_ hpost hS'.2.2 hd
      rcases h01 with rfl | rfl <;> rfl
    · exact W.lret B.exec B.bytes (B.returns.trans hr) hpost hS'.2.2 hd
    · exact W.aret B.exec B.bytes (B.returns.trans hr) (Or.inl ⟨cn, rfl⟩) (Or.inr ⟨_, rfl⟩) hpost hS'.2.2 hd
end
section
/-! ===== forms of contracts, and the rows that use them ===== -/
def rm (d : Nat) : Room := { frames := d, cells := 0, slots := 0, locals := 30 * d }
def rmc (d c s : Nat) : Room := { frames := d, cells := c, slots := s, locals := 30 * d }
abbrev C1 (y : MethodName) (b : ByteArray) (nL : Nat) (ret : Option FieldType) (d : Nat) (sh : ShT) (mi : MI) (mr : MR) (As : List AV) (Q : AV → MI → MR → Prop) : Prop := Ct y (wsM y b nL ret) (rm d) sh mi mr As (fun r sh' mi' mr' => sh' = sh ∧ ∃ v, r = some v ∧ Q v mi' mr')
abbrev C0 (y : MethodName) (b : ByteArray) (nL : Nat) (ret : Option FieldType) (d : Nat) (sh : ShT) (mi : MI) (mr : MR) (As : List AV) (Q : MI → MR → Prop) : Prop := Ct y (wsM y b nL ret) (rm d) sh mi mr As (fun r sh' mi' mr' => sh' = sh ∧ r = none ∧ Q mi' mr')
abbrev CP (y : MethodName) (b : ByteArray) (nL : Nat) (ret : Option FieldType) (d : Nat) (sh : ShT) (mi : MI) (mr : MR) (As : List AV) (v : AV) : Prop := Ct y (wsM y b nL ret) (rm d) sh mi mr As (fun r sh' mi' mr' => sh' = sh ∧ r = some v ∧ mi' = mi ∧ mr' = mr)
theorem svi {a b : Int} (h : a = b) : (some (vi a) : Option AV) = some (vi b) := by rw [h]
theorem svl {a b : Int} (h : a = b) : (some (vl a) : Option AV) = some (vl b) := by rw [h]
theorem vie {a b : Int} (h : a = b) : vi a = vi b := by rw [h]
theorem vle {a b : Int} (h : a = b) : vl a = vl b := by rw [h]
section VF
variable {μ : Mt} {Q : PQ} {k n : Nat} {sh : ShT} {mi : MI} {mr : MR} {ls : List (Option AV)} {st st' : List AV} {pc : Nat} {y : MethodName} {b : ByteArray} {nL nP idx d : Nat} {ret : Option FieldType} {As : List AV}
theorem V_callV1 {Q3 : AV → MI → MR → Prop} {a ci : Nat} (hd : decode μ.2.1 pc = .ok (.invokevirtual idx, 3)) (hm : ML μ.1 idx y) (hk : KM y b nL ret nP) (hv : KV y) (hc : C1 y b nL ret d sh mi mr (vr a :: As) Q3) (hs : sh[a]? = some (.inl ci)) (hcls : (vwCl[ci]?).map (fun q => q.1) = some y.cls) (hst : st = As.reverse ++ vr a :: st') (hn : As.length = nP) (hcat : (st'.map acat).sum ≤ 8)
    (hRm : (rm d).frames + 1 ≤ μ.2.2.2.1.frames ∧ 8 + (nL + 11) + (rm d).locals ≤ μ.2.2.2.1.locals) (hkn : k ≤ μ.2.2.2.1.cells ∧ n ≤ μ.2.2.2.1.slots) (kk : ∀ v mi' mr', Q3 v mi' mr' → V μ Q k n sh mi' mr' ls (v :: st') (pc + 3)) : V μ Q k n sh mi mr ls st pc :=
  V_callV (Q2 := fun r mi' mr' => ∃ v, r = some v ∧ Q3 v mi' mr') hd hm hk hv hc hs hcls hst hn hcat hRm ⟨rfl, rfl⟩ hkn (fun r mi' mr' ⟨v, hv, hq⟩ => by subst hv; exact kk v mi' mr' hq)
theorem V_callV0 {Q3 : MI → MR → Prop} {a ci : Nat} (hd : decode μ.2.1 pc = .ok (.invokevirtual idx, 3)) (hm : ML μ.1 idx y) (hk : KM y b nL ret nP) (hv : KV y) (hc : C0 y b nL ret d sh mi mr (vr a :: As) Q3) (hs : sh[a]? = some (.inl ci)) (hcls : (vwCl[ci]?).map (fun q => q.1) = some y.cls) (hst : st = As.reverse ++ vr a :: st') (hn : As.length = nP) (hcat : (st'.map acat).sum ≤ 8)
    (hRm : (rm d).frames + 1 ≤ μ.2.2.2.1.frames ∧ 8 + (nL + 11) + (rm d).locals ≤ μ.2.2.2.1.locals) (hkn : k ≤ μ.2.2.2.1.cells ∧ n ≤ μ.2.2.2.1.slots) (kk : ∀ mi' mr', Q3 mi' mr' → V μ Q k n sh mi' mr' ls st' (pc + 3)) : V μ Q k n sh mi mr ls st pc :=
  V_callV (Q2 := fun r mi' mr' => r = none ∧ Q3 mi' mr') hd hm hk hv hc hs hcls hst hn hcat hRm ⟨rfl, rfl⟩ hkn (fun r mi' mr' ⟨hv, hq⟩ => by subst hv; exact kk mi' mr' hq)
theorem V_callVP {v : AV} {a ci : Nat} (hd : decode μ.2.1 pc = .ok (.invokevirtual idx, 3)) (hm : ML μ.1 idx y) (hk : KM y b nL ret nP) (hv : KV y) (hc : CP y b nL ret d sh mi mr (vr a :: As) v) (hs : sh[a]? = some (.inl ci)) (hcls : (vwCl[ci]?).map (fun q => q.1) = some y.cls) (hst : st = As.reverse ++ vr a :: st') (hn : As.length = nP) (hcat : (st'.map acat).sum ≤ 8)
    (hRm : (rm d).frames + 1 ≤ μ.2.2.2.1.frames ∧ 8 + (nL + 11) + (rm d).locals ≤ μ.2.2.2.1.locals) (hkn : k ≤ μ.2.2.2.1.cells ∧ n ≤ μ.2.2.2.1.slots) (kk : V μ Q k n sh mi mr ls (v :: st') (pc + 3)) : V μ Q k n sh mi mr ls st pc :=
  V_callV (Q2 := fun r mi' mr' => r = some v ∧ mi' = mi ∧ mr' = mr) hd hm hk hv hc hs hcls hst hn hcat hRm ⟨rfl, rfl⟩ hkn (fun r mi' mr' ⟨hv, h1, h2⟩ => by subst hv h1 h2; exact kk)
theorem V_callS1 {Q3 : AV → MI → MR → Prop} (hd : decode μ.2.1 pc = .ok (.invokestatic idx, 3)) (hm : ML μ.1 idx y) (hk : KM y b nL ret nP) (hv : Cond.static y ∈ WS) (hc : C1 y b nL ret d sh mi mr As Q3) (hst : st = As.reverse ++ st') (hn : As.length = nP) (hcat : (st'.map acat).sum ≤ 8)
    (hRm : (rm d).frames + 1 ≤ μ.2.2.2.1.frames ∧ 8 + (nL + 11) + (rm d).locals ≤ μ.2.2.2.1.locals) (hkn : k ≤ μ.2.2.2.1.cells ∧ n ≤ μ.2.2.2.1.slots) (kk : ∀ v mi' mr', Q3 v mi' mr' → V μ Q k n sh mi' mr' ls (v :: st') (pc + 3)) : V μ Q k n sh mi mr ls st pc :=
  V_callS (Q2 := fun r mi' mr' => ∃ v, r = some v ∧ Q3 v mi' mr') hd hm hk hv hc hst hn hcat hRm ⟨rfl, rfl⟩ hkn (fun r mi' mr' ⟨v, hv, hq⟩ => by subst hv; exact kk v mi' mr' hq)
theorem V_callS0 {Q3 : MI → MR → Prop} (hd : decode μ.2.1 pc = .ok (.invokestatic idx, 3)) (hm : ML μ.1 idx y) (hk : KM y b nL ret nP) (hv : Cond.static y ∈ WS) (hc : C0 y b nL ret d sh mi mr As Q3) (hst : st = As.reverse ++ st') (hn : As.length = nP) (hcat : (st'.map acat).sum ≤ 8)
    (hRm : (rm d).frames + 1 ≤ μ.2.2.2.1.frames ∧ 8 + (nL + 11) + (rm d).locals ≤ μ.2.2.2.1.locals) (hkn : k ≤ μ.2.2.2.1.cells ∧ n ≤ μ.2.2.2.1.slots) (kk : ∀ mi' mr', Q3 mi' mr' → V μ Q k n sh mi' mr' ls st' (pc + 3)) : V μ Q k n sh mi mr ls st pc :=
  V_callS (Q2 := fun r mi' mr' => r = none ∧ Q3 mi' mr') hd hm hk hv hc hst hn hcat hRm ⟨rfl, rfl⟩ hkn (fun r mi' mr' ⟨hv, hq⟩ => by subst hv; exact kk mi' mr' hq)
theorem V_callSP {v : AV} (hd : decode μ.2.1 pc = .ok (.invokestatic idx, 3)) (hm : ML μ.1 idx y) (hk : KM y b nL ret nP) (hv : Cond.static y ∈ WS) (hc : CP y b nL ret d sh mi mr As v) (hst : st = As.reverse ++ st') (hn : As.length = nP) (hcat : (st'.map acat).sum ≤ 8)
    (hRm : (rm d).frames + 1 ≤ μ.2.2.2.1.frames ∧ 8 + (nL + 11) + (rm d).locals ≤ μ.2.2.2.1.locals) (hkn : k ≤ μ.2.2.2.1.cells ∧ n ≤ μ.2.2.2.1.slots) (kk : V μ Q k n sh mi mr ls (v :: st') (pc + 3)) : V μ Q k n sh mi mr ls st pc :=
  V_callS (Q2 := fun r mi' mr' => r = some v ∧ mi' = mi ∧ mr' = mr) hd hm hk hv hc hst hn hcat hRm ⟨rfl, rfl⟩ hkn (fun r mi' mr' ⟨hv, h1, h2⟩ => by subst hv h1 h2; exact kk)
theorem S_istore_n {k0 : Fin 4} {a : Int} {ls' : List (Option AV)} (hd : decode μ.2.1 pc = .ok (.istore_n k0, 1)) (hn : (k0 : Nat) < ls.length ∧ ls.length = μ.2.2.1 ∧ nlg ls (k0 : Nat) = true) (hls : ls.set (k0 : Nat) (some (vi a)) = ls') (kk : V μ Q k n sh mi mr ls' st (pc + 1)) : V μ Q k n sh mi mr ls (vi a :: st) pc := V_istore_n hd hn (hls ▸ kk)
theorem S_astore_n {k0 : Fin 4} {a : Nat} {ls' : List (Option AV)} (hd : decode μ.2.1 pc = .ok (.astore_n k0, 1)) (hn : (k0 : Nat) < ls.length ∧ ls.length = μ.2.2.1 ∧ nlg ls (k0 : Nat) = true) (hls : ls.set (k0 : Nat) (some (vr a)) = ls') (kk : V μ Q k n sh mi mr ls' st (pc + 1)) : V μ Q k n sh mi mr ls (vr a :: st) pc := V_astore_n hd hn (hls ▸ kk)
theorem S_istore {i : Nat} {a : Int} {ls' : List (Option AV)} (hd : decode μ.2.1 pc = .ok (.istore i, 2)) (hn : i < ls.length ∧ ls.length = μ.2.2.1 ∧ nlg ls i = true) (hls : ls.set i (some (vi a)) = ls') (kk : V μ Q k n sh mi mr ls' st (pc + 2)) : V μ Q k n sh mi mr ls (vi a :: st) pc := V_istore hd hn (hls ▸ kk)
theorem S_astore {i : Nat} {a : Nat} {ls' : List (Option AV)} (hd : decode μ.2.1 pc = .ok (.astore i, 2)) (hn : i < ls.length ∧ ls.length = μ.2.2.1 ∧ nlg ls i = true) (hls : ls.set i (some (vr a)) = ls') (kk : V μ Q k n sh mi mr ls' st (pc + 2)) : V μ Q k n sh mi mr ls (vr a :: st) pc := V_astore hd hn (hls ▸ kk)
theorem S_lstore {i : Nat} {a : Int} {ls' : List (Option AV)} (hd : decode μ.2.1 pc = .ok (.lstore i, 2)) (hn : i + 1 < ls.length ∧ ls.length = μ.2.2.1 ∧ nlg ls i = true) (hls : (ls.set i (some (vl a))).set (i + 1) none = ls') (kk : V μ Q k n sh mi mr ls' st (pc + 2)) : V μ Q k n sh mi mr ls (vl a :: st) pc := V_lstore hd hn (hls ▸ kk)
theorem S_iinc {i : Nat} {d0 a : Int} {ls' : List (Option AV)} (hd : decode μ.2.1 pc = .ok (.iinc i d0, 3)) (hl : ls[i]? = some (some (vi a))) (hn : ls.length = μ.2.2.1 ∧ nlg ls i = true) (hls : ls.set i (some (vi (a + d0))) = ls') (kk : V μ Q k n sh mi mr ls' st (pc + 3)) : V μ Q k n sh mi mr ls st pc := V_iinc hd hl hn (hls ▸ kk)
end VF
/-! ===== the shape of the world behind both constructors; what its fields hold for good ===== -/
def SH : ShT := [.inl 10, .inl 9, .inl 7, .inr (0, 28), .inl 7, .inr (0, 28), .inr (0, 3), .inl 3, .inr (3, 4),
  .inl 9, .inl 7, .inr (0, 28), .inl 7, .inr (0, 28), .inr (0, 3), .inl 9, .inl 7, .inr (0, 28), .inl 7, .inr (0, 28), .inr (0, 3),
  .inl 9, .inl 7, .inr (0, 28), .inl 7, .inr (0, 28), .inr (0, 3), .inl 9, .inl 7, .inr (0, 28), .inl 7, .inr (0, 28), .inr (0, 3),
  .inl 7, .inr (0, 60), .inl 5, .inr (0, 1653), .inl 8, .inr (0, 57), .inr (0, 57), .inr (0, 57), .inr (0, 57), .inl 7, .inr (0, 168),
  .inl 4, .inr (0, 56), .inr (0, 56), .inr (0, 56), .inl 0, .inr (0, 784), .inr (0, 784), .inr (0, 784), .inl 1, .inl 2, .inr (1, 841), .inl 2, .inr (1, 841), .inl 2, .inr (1, 841),
  .inl 6, .inl 7, .inr (0, 28), .inl 11, .inr (0, 61), .inr (0, 244), .inr (0, 61), .inr (2, 60), .inr (0, 6441), .inr (0, 168), .inr (0, 841), .inr (1, 841), .inr (2, 400), .inr (0, 29), .inr (0, 29), .inr (0, 28)]
def grL : List (Nat × Int × Nat) := [(0, 0, 1), (0, 1, 7), (0, 2, 33), (0, 3, 35), (0, 4, 37), (0, 5, 42), (0, 6, 44), (0, 7, 48), (0, 8, 52), (0, 9, 59), (1, 2, 6), (2, 0, 3), (4, 0, 5), (7, 0, 8),
  (9, 0, 10), (9, 1, 12), (9, 2, 14), (10, 0, 11), (12, 0, 13), (15, 0, 16), (15, 1, 18), (15, 2, 20), (16, 0, 17), (18, 0, 19), (21, 0, 22), (21, 1, 24), (21, 2, 26), (22, 0, 23), (24, 0, 25), (27, 0, 28), (27, 1, 30), (27, 2, 32), (28, 0, 29), (30, 0, 31),
  (33, 0, 34), (35, 0, 36), (37, 0, 38), (37, 1, 39), (37, 2, 40), (37, 3, 41), (42, 0, 43), (44, 0, 45), (44, 1, 46), (44, 2, 47), (48, 0, 49), (48, 1, 50), (48, 2, 51), (52, 0, 53), (52, 1, 55), (52, 2, 57), (53, 0, 54), (55, 0, 56), (57, 0, 58), (59, 0, 60), (60, 0, 61),
  (62, 0, 63), (62, 1, 64), (62, 2, 65), (62, 4, 66), (62, 10, 67), (62, 12, 68), (62, 14, 69), (62, 15, 70), (62, 16, 71), (62, 18, 72), (62, 19, 73), (62, 22, 74)]
def grf (a : Nat) (j : Int) : Option Nat := (grL.find? (fun q => q.1 == a && q.2.1 == j)).map (fun q => q.2.2)
def Gr (mr : MR) : Prop := ∀ (a : Nat) (j : Int) (b : Nat), grf a j = some b → mr a j = some b
theorem Gr.at {mr : MR} (h : Gr mr) {a : Nat} {j : Int} {b : Nat} (hq : grf a j = some b) : mr a j = some b := h a j b hq
end
section
/-- a contract that says less -/
theorem Ct.mono {y : MethodName} {ws : List Cond} {R : Room} {sh : ShT} {mi : MI} {mr : MR} {As : List AV} {Q Q' : PQ} (h : Ct y ws R sh mi mr As Q) (hQ : ∀ r sh' mi' mr', Q r sh' mi' mr' → Q' r sh' mi' mr') : Ct y ws R sh mi mr As Q' := by
  intro l D ρ dA sz p e a1 a2 a3 s m args below a4 a5 a6 a7
  obtain ⟨n, o, b1, b2, b3, b4, b5⟩ := h l D ρ dA sz p e a1 a2 a3 s m args below a4 a5 a6 a7
  refine ⟨n, o, b1, b2, b3, ?_, b5⟩
  obtain ⟨⟨r, sh', mi', mr', ρ', dA', c1, c2, c3⟩, c4⟩ := b4
  exact ⟨⟨r, sh', mi', mr', ρ', dA', c1, hQ _ _ _ _ c2, c3⟩, c4⟩
theorem C0.mono {y : MethodName} {b : ByteArray} {nL d : Nat} {ret : Option FieldType} {sh : ShT} {mi : MI} {mr : MR} {As : List AV} {Q Q' : MI → MR → Prop} (h : C0 y b nL ret d sh mi mr As Q) (hQ : ∀ mi' mr', Q mi' mr' → Q' mi' mr') : C0 y b nL ret d sh mi mr As Q' :=
  Ct.mono h (fun _ _ mi' mr' q => ⟨q.1, q.2.1, hQ mi' mr' q.2.2⟩)
theorem C1.mono {y : MethodName} {b : ByteArray} {nL d : Nat} {ret : Option FieldType} {sh : ShT} {mi : MI} {mr : MR} {As : List AV} {Q Q' : AV → MI → MR → Prop} (h : C1 y b nL ret d sh mi mr As Q) (hQ : ∀ v mi' mr', Q v mi' mr' → Q' v mi' mr') : C1 y b nL ret d sh mi mr As Q' :=
  Ct.mono h (fun _ _ mi' mr' q => ⟨q.1, by obtain ⟨v, e, hq⟩ := q.2; exact ⟨v, e, hQ v mi' mr' hq⟩⟩)
end
section
/-! ===== DiagonalTexts$Row ===== -/
/-- what a row tells at a place -/
def rat (mi : MI) (a b : Nat) (i : Int) : Int := if 0 ≤ i ∧ i < mi a 1 then mi b i else -1
theorem rat_in {mi : MI} {a b : Nat} {i : Int} (h : 0 ≤ i ∧ i < mi a 1) : rat mi a b i = mi b i := by simp [rat, h]
theorem rat_out {mi : MI} {a b : Nat} {i : Int} (h : ¬ (0 ≤ i ∧ i < mi a 1)) : rat mi a b i = -1 := by simp [rat, h]
section ROW
variable {sh : ShT} {mi : MI} {mr : MR} {a b N : Nat}
set_option maxRecDepth 100000 in
theorem c_X7_at {i : Int} (hi : rng i) (ha : sh[a]? = some (.inl 7)) (hr : mr a 0 = some b) (hb : sh[b]? = some (.inr (0, N))) (hN : N ≤ 1000) (hl : 0 ≤ mi a 1 ∧ mi a 1 ≤ N) : CP yX7_at cX7_at 2 (some .int) 0 sh mi mr [vr a, vi i] (vi (rat mi a b i)) := by
  refine Ct.ofV (ini := false) [some (vr a), some (vi i)] km_X7_at (by decide) rfl (Nat.le_of_ble_eq_true rfl) ?_
  refine V_iload_n dX7_at_0 rfl ?_
  refine V_if_lt 21 dX7_at_1 (by decide) (by omega) (fun h1 => ?_) (fun h1 => ?_)
  · refine V_iconst dX7_at_21 ?_
    refine V_iret dX7_at_22 rfl ⟨Nat.le_of_ble_eq_true rfl, Nat.le_of_ble_eq_true rfl⟩ ?_
    exact ⟨rfl, svi (rat_out (by omega)).symm, rfl, rfl⟩
  · refine V_iload_n dX7_at_4 rfl ?_
    refine V_aload_n dX7_at_5 rfl ?_
    refine V_geti 1 dX7_at_6 fl_RX7_21 (by first | with_reducible assumption | rfl) rfl rfl ?_
    refine V_icmp_ge 21 dX7_at_9 (by decide) (by omega) (by omega) (fun h9 => ?_) (fun h9 => ?_)
    · refine V_iconst dX7_at_21 ?_
      refine V_iret dX7_at_22 rfl ⟨Nat.le_of_ble_eq_true rfl, Nat.le_of_ble_eq_true rfl⟩ ?_
      exact ⟨rfl, svi (rat_out (by omega)).symm, rfl, rfl⟩
    · refine V_iload_n dX7_at_12 rfl ?_
      refine V_aload_n dX7_at_13 rfl ?_
      refine V_getr 0 _ dX7_at_14 fl_RX7_15 (by first | with_reducible assumption | rfl) rfl rfl (by first | with_reducible assumption | exact hG.at rfl) ?_
      refine V_alen dX7_at_17 (by first | with_reducible assumption | rfl) ?_
      refine V_icmp_lt 23 dX7_at_18 (by decide) (by omega) (by omega) (fun h18 => ?_) (fun h18 => ?_)
      · refine V_aload_n dX7_at_23 rfl ?_
        refine V_getr 0 _ dX7_at_24 fl_RX7_15 (by first | with_reducible assumption | rfl) rfl rfl (by first | with_reducible assumption | exact hG.at rfl) ?_
        refine V_iload_n dX7_at_27 rfl ?_
        refine V_iald dX7_at_28 (by first | with_reducible assumption | rfl) (by omega) (by omega) ?_
        refine V_iret dX7_at_29 rfl ⟨Nat.le_of_ble_eq_true rfl, Nat.le_of_ble_eq_true rfl⟩ ?_
        exact ⟨rfl, svi (rat_in (by omega)).symm, rfl, rfl⟩
      · exact absurd h9 (by omega)
set_option maxRecDepth 100000 in
theorem c_X7_put {i v : Int} (hi : rng i) (ha : sh[a]? = some (.inl 7)) (hr : mr a 0 = some b) (hb : sh[b]? = some (.inr (0, N))) (hN : N ≤ 1000) (hl : 0 ≤ mi a 1 ∧ mi a 1 ≤ N) : C0 yX7_put cX7_put 3 none 0 sh mi mr [vr a, vi i, vi v] (fun mi' mr' => mr' = mr ∧ mi' = if 0 ≤ i ∧ i < mi a 1 then up2 mi b i v else mi) := by
  refine Ct.ofV (ini := false) [some (vr a), some (vi i), some (vi v)] km_X7_put (by decide) rfl (Nat.le_of_ble_eq_true rfl) ?_
  refine V_iload_n dX7_put_0 rfl ?_
  refine V_if_lt 28 dX7_put_1 (by decide) (by omega) (fun h1 => ?_) (fun h1 => ?_)
  · refine V_vret dX7_put_28 rfl ⟨Nat.le_of_ble_eq_true rfl, Nat.le_of_ble_eq_true rfl⟩ ?_
    exact ⟨rfl, rfl, rfl, by split <;> first | rfl | (exfalso; omega)⟩
  · refine V_iload_n dX7_put_4 rfl ?_
    refine V_aload_n dX7_put_5 rfl ?_
    refine V_geti 1 dX7_put_6 fl_RX7_21 (by first | with_reducible assumption | rfl) rfl rfl ?_
    refine V_icmp_ge 28 dX7_put_9 (by decide) (by omega) (by omega) (fun h9 => ?_) (fun h9 => ?_)
    · refine V_vret dX7_put_28 rfl ⟨Nat.le_of_ble_eq_true rfl, Nat.le_of_ble_eq_true rfl⟩ ?_
      exact ⟨rfl, rfl, rfl, by split <;> first | rfl | (exfalso; omega)⟩
    · refine V_iload_n dX7_put_12 rfl ?_
      refine V_aload_n dX7_put_13 rfl ?_
      refine V_getr 0 _ dX7_put_14 fl_RX7_15 (by first | with_reducible assumption | rfl) rfl rfl (by first | with_reducible assumption | exact hG.at rfl) ?_
      refine V_alen dX7_put_17 (by first | with_reducible assumption | rfl) ?_
      refine V_icmp_ge 28 dX7_put_18 (by decide) (by omega) (by omega) (fun h18 => ?_) (fun h18 => ?_)
      · refine V_vret dX7_put_28 rfl ⟨Nat.le_of_ble_eq_true rfl, Nat.le_of_ble_eq_true rfl⟩ ?_
        exact ⟨rfl, rfl, rfl, by split <;> first | rfl | (exfalso; omega)⟩
      · refine V_aload_n dX7_put_21 rfl ?_
        refine V_getr 0 _ dX7_put_22 fl_RX7_15 (by first | with_reducible assumption | rfl) rfl rfl (by first | with_reducible assumption | exact hG.at rfl) ?_
        refine V_iload_n dX7_put_25 rfl ?_
        refine V_iload_n dX7_put_26 rfl ?_
        refine V_iast dX7_put_27 (by first | with_reducible assumption | rfl) (by omega) (by omega) ?_
        refine V_vret dX7_put_28 rfl ⟨Nat.le_of_ble_eq_true rfl, Nat.le_of_ble_eq_true rfl⟩ ?_
        exact ⟨rfl, rfl, rfl, by split <;> first | rfl | (exfalso; omega)⟩
set_option maxRecDepth 100000 in
theorem c_X7_add {v : Int} (ha : sh[a]? = some (.inl 7)) (hr : mr a 0 = some b) (hb : sh[b]? = some (.inr (0, N))) (hN : N ≤ 1000) (hl : 0 ≤ mi a 1 ∧ mi a 1 ≤ N) (hab : a ≠ b) : C0 yX7_add cX7_add 2 none 0 sh mi mr [vr a, vi v] (fun mi' mr' => mr' = mr ∧ mi' = if mi a 1 < N then up2 (up2 mi b (mi a 1) v) a 1 (mi a 1 + 1) else mi) := by
  refine Ct.ofV (ini := false) [some (vr a), some (vi v)] km_X7_add (by decide) rfl (Nat.le_of_ble_eq_true rfl) ?_
  refine V_aload_n dX7_add_0 rfl ?_
  refine V_geti 1 dX7_add_1 fl_RX7_21 (by first | with_reducible assumption | rfl) rfl rfl ?_
  refine V_if_lt 39 dX7_add_4 (by decide) (by omega) (fun h4 => ?_) (fun h4 => ?_)
  · refine V_vret dX7_add_39 rfl ⟨Nat.le_of_ble_eq_true rfl, Nat.le_of_ble_eq_true rfl⟩ ?_
    exact ⟨rfl, rfl, rfl, by split <;> first | rfl | (exfalso; omega)⟩
  · refine V_aload_n dX7_add_7 rfl ?_
    refine V_geti 1 dX7_add_8 fl_RX7_21 (by first | with_reducible assumption | rfl) rfl rfl ?_
    refine V_aload_n dX7_add_11 rfl ?_
    refine V_getr 0 _ dX7_add_12 fl_RX7_15 (by first | with_reducible assumption | rfl) rfl rfl (by first | with_reducible assumption | exact hG.at rfl) ?_
    refine V_alen dX7_add_15 (by first | with_reducible assumption | rfl) ?_
    refine V_icmp_ge 39 dX7_add_16 (by decide) (by omega) (by omega) (fun h16 => ?_) (fun h16 => ?_)
    · refine V_vret dX7_add_39 rfl ⟨Nat.le_of_ble_eq_true rfl, Nat.le_of_ble_eq_true rfl⟩ ?_
      exact ⟨rfl, rfl, rfl, by split <;> first | rfl | (exfalso; omega)⟩
    · refine V_aload_n dX7_add_19 rfl ?_
      refine V_getr 0 _ dX7_add_20 fl_RX7_15 (by first | with_reducible assumption | rfl) rfl rfl (by first | with_reducible assumption | exact hG.at rfl) ?_
      refine V_aload_n dX7_add_23 rfl ?_
      refine V_geti 1 dX7_add_24 fl_RX7_21 (by first | with_reducible assumption | rfl) rfl rfl ?_
      refine V_iload_n dX7_add_27 rfl ?_
      refine V_iast dX7_add_28 (by first | with_reducible assumption | rfl) (by omega) (by omega) ?_
      refine V_aload_n dX7_add_29 rfl ?_
      refine V_dup dX7_add_30 rfl ?_
      refine V_geti 1 dX7_add_31 fl_RX7_21 (by first | with_reducible assumption | rfl) rfl rfl ?_
      rw [up2_n mi _ _ hab]
      refine V_iconst dX7_add_34 ?_
      refine V_iadd dX7_add_35 ?_
      refine V_puti 1 dX7_add_36 fl_RX7_21 (by first | with_reducible assumption | rfl) rfl rfl rfl ?_
      refine V_vret dX7_add_39 rfl ⟨Nat.le_of_ble_eq_true rfl, Nat.le_of_ble_eq_true rfl⟩ ?_
      exact ⟨rfl, rfl, rfl, by split <;> first | rfl | (exfalso; omega)⟩
set_option maxRecDepth 100000 in
theorem c_X7_empty (ha : sh[a]? = some (.inl 7)) : C0 yX7_empty cX7_empty 1 none 0 sh mi mr [vr a] (fun mi' mr' => mr' = mr ∧ mi' = up2 mi a 1 0) := by
  refine Ct.ofV (ini := false) [some (vr a)] km_X7_empty (by decide) rfl (Nat.le_of_ble_eq_true rfl) ?_
  refine V_aload_n dX7_empty_0 rfl ?_
  refine V_iconst dX7_empty_1 ?_
  refine V_puti 1 dX7_empty_2 fl_RX7_21 (by first | with_reducible assumption | rfl) rfl rfl rfl ?_
  refine V_vret dX7_empty_5 rfl ⟨Nat.le_of_ble_eq_true rfl, Nat.le_of_ble_eq_true rfl⟩ ?_
  exact ⟨rfl, rfl, rfl, rfl⟩
set_option maxRecDepth 100000 in
theorem l_X7_remove {Q : PQ} {f m len : Int} (ha : sh[a]? = some (.inl 7)) (hr : mr a 0 = some b) (hb : sh[b]? = some (.inr (0, N))) (hN : N ≤ 1000) (hab : a ≠ b) (hf : 0 ≤ f) (hm : 1 ≤ m) (hl : f + m ≤ len ∧ len ≤ N)
    (kk : ∀ mi' : MI, mi' a 1 = len → (∀ i, 0 ≤ i → i < len - m → mi' b i = if i < f then mi b i else mi b (i + m)) → (∀ x, x ≠ b → mi' x = mi x) → V (RX7, cX7_remove, 4, rm 1, false, none, none) Q 0 0 sh mi' mr [some (vr a), some (vi f), some (vi m), some (vi len)] [] 30) :
    ∀ (t : Nat) (j : Int) (mi' : MI), f + m ≤ j → j ≤ len → len - j < t → mi' a 1 = len → (∀ i, 0 ≤ i → i < len → mi' b i = if f ≤ i ∧ i < j - m then mi b (i + m) else mi b i) → (∀ x, x ≠ b → mi' x = mi x) → V (RX7, cX7_remove, 4, rm 1, false, none, none) Q 0 0 sh mi' mr [some (vr a), some (vi f), some (vi m), some (vi j)] [] 4 := by
  intro t
  induction t with
  | zero => intro j mi' h1 h2 h3; omega
  | succ t ih =>
    intro j mi' h1 h2 h3 h4 h5 h6
    refine V_iload_n dX7_remove_4 rfl ?_
    refine V_aload_n dX7_remove_5 rfl ?_
    refine V_geti 1 dX7_remove_6 fl_RX7_21 (by first | with_reducible assumption | rfl) rfl rfl ?_
    refine V_icmp_ge 30 dX7_remove_9 (by decide) (by omega) (by omega) (fun h9 => ?_) (fun h9 => ?_)
    · have e : j = len := by omega
      subst e
      refine kk mi' h4 (fun i g1 g2 => ?_) h6
      rw [h5 i g1 (by omega)]
      split <;> split <;> first | rfl | (exfalso; omega)
    · refine V_aload_n dX7_remove_12 rfl ?_
      refine V_iload_n dX7_remove_13 rfl ?_
      refine V_iload_n dX7_remove_14 rfl ?_
      refine V_isub dX7_remove_15 ?_
      refine V_aload_n dX7_remove_16 rfl ?_
      refine V_iload_n dX7_remove_17 rfl ?_
      refine V_callVP dX7_remove_18 ml_RX7_25 km_X7_at kv_X7_at (c_X7_at (i := j) (by omega) ha hr hb hN (by omega)) (by first | with_reducible assumption | rfl) rfl rfl rfl (Nat.le_of_ble_eq_true rfl) ⟨Nat.le_of_ble_eq_true rfl, Nat.le_of_ble_eq_true rfl⟩ ⟨Nat.le_of_ble_eq_true rfl, Nat.le_of_ble_eq_true rfl⟩ ?_
      refine V_callV0 dX7_remove_21 ml_RX7_29 km_X7_put kv_X7_put (c_X7_put (i := j - m) (by omega) ha hr hb hN (by omega)) (by first | with_reducible assumption | rfl) rfl rfl rfl (Nat.le_of_ble_eq_true rfl) ⟨Nat.le_of_ble_eq_true rfl, Nat.le_of_ble_eq_true rfl⟩ ⟨Nat.le_of_ble_eq_true rfl, Nat.le_of_ble_eq_true rfl⟩ ?_
      intro mi2 mr2 hq
      obtain ⟨rfl, rfl⟩ := hq
      rw [if_pos (by omega), rat_in (by omega), h5 j (by omega) (by omega), if_neg (by omega)]
      refine S_iinc (ls' := [_, _, _, _]) dX7_remove_24 rfl ⟨rfl, rfl⟩ rfl ?_
      refine V_goto 4 dX7_remove_27 (by decide) ?_
      refine ih (j + 1) _ (by omega) (by omega) (by omega) (by rw [up2_n mi' _ _ hab]; exact h4) (fun i g1 g2 => ?_) (fun x hx => by rw [up2_n mi' _ _ hx]; exact h6 x hx)
      by_cases hi : i = j - m
      · subst hi
        rw [up2_ss, if_pos (by omega)]
        congr 1
        omega
      · rw [up2_sn mi' b _ hi, h5 i g1 g2]
        split <;> split <;> first | rfl | (exfalso; omega)
set_option maxRecDepth 100000 in
theorem c_X7_remove {f m : Int} (ha : sh[a]? = some (.inl 7)) (hr : mr a 0 = some b) (hb : sh[b]? = some (.inr (0, N))) (hN : N ≤ 1000) (hab : a ≠ b) (hf : 0 ≤ f) (hm : 1 ≤ m) (hl : f + m ≤ mi a 1 ∧ mi a 1 ≤ N) : C0 yX7_remove cX7_remove 4 none 1 sh mi mr [vr a, vi f, vi m] (fun mi' mr' => mr' = mr ∧ mi' a 1 = mi a 1 - m ∧ (∀ i, 0 ≤ i → i < mi a 1 - m → mi' b i = if i < f then mi b i else mi b (i + m)) ∧ (∀ x, x ≠ a → x ≠ b → mi' x = mi x)) := by
  refine Ct.ofV (ini := false) [some (vr a), some (vi f), some (vi m), none] km_X7_remove (by decide) rfl (Nat.le_of_ble_eq_true rfl) ?_
  refine V_iload_n dX7_remove_0 rfl ?_
  refine V_iload_n dX7_remove_1 rfl ?_
  refine V_iadd dX7_remove_2 ?_
  refine S_istore_n (ls' := [_, _, _, _]) dX7_remove_3 ⟨Nat.le_of_ble_eq_true rfl, rfl, rfl⟩ rfl ?_
  refine l_X7_remove (mi := mi) ha hr hb hN hab hf hm hl (fun mi' g1 g2 g3 => ?_) (mi a 1 - (f + m) + 1).toNat (f + m) mi (by omega) (by omega) (by omega) rfl (fun i g1 g2 => by rw [if_neg (by omega)]) (fun x _ => rfl)
  refine V_aload_n dX7_remove_30 rfl ?_
  refine V_aload_n dX7_remove_31 rfl ?_
  refine V_geti 1 dX7_remove_32 fl_RX7_21 (by first | with_reducible assumption | rfl) rfl rfl ?_
  refine V_iload_n dX7_remove_35 rfl ?_
  refine V_isub dX7_remove_36 ?_
  refine V_iconst dX7_remove_37 ?_
  refine V_mmax dX7_remove_38 ml_RX7_9 (by omega) (by omega) ⟨Nat.le_of_ble_eq_true rfl, Nat.le_of_ble_eq_true rfl, Nat.le_of_ble_eq_true rfl, Nat.le_of_ble_eq_true rfl⟩ ?_
  refine V_puti 1 dX7_remove_41 fl_RX7_21 (by first | with_reducible assumption | rfl) rfl rfl rfl ?_
  refine V_vret dX7_remove_44 rfl ⟨Nat.le_of_ble_eq_true rfl, Nat.le_of_ble_eq_true rfl⟩ ?_
  exact ⟨rfl, rfl, rfl, by rw [up2_ss]; omega, fun i h1 h2 => by rw [up2_n mi' _ _ (Ne.symm hab)]; exact g2 i h1 h2, fun x hx hy => by rw [up2_n mi' _ _ hx]; exact g3 x hy⟩
set_option maxRecDepth 100000 in
theorem l_X7_copyFrom {Q : PQ} {a2 b2 N2 : Nat} {len : Int} (ha : sh[a]? = some (.inl 7)) (hr : mr a 0 = some b) (hb : sh[b]? = some (.inr (0, N))) (hN : N ≤ 1000) (ha2 : sh[a2]? = some (.inl 7)) (hr2 : mr a2 0 = some b2) (hb2 : sh[b2]? = some (.inr (0, N2))) (hN2 : N2 ≤ 1000) (hne : a ≠ b ∧ a ≠ a2 ∧ a ≠ b2 ∧ b ≠ a2 ∧ b ≠ b2) (hl : 0 ≤ len ∧ len ≤ N ∧ len ≤ N2) (hl2 : mi a2 1 = len)
    (kk : ∀ mi' : MI, mi' a 1 = len → (∀ i, 0 ≤ i → i < len → mi' b i = mi b2 i) → (∀ x, x ≠ a → x ≠ b → mi' x = mi x) → V (RX7, cX7_copyFrom, 3, rm 1, false, none, none) Q 0 0 sh mi' mr [some (vr a), some (vr a2), some (vi len)] [] 29) :
    ∀ (t : Nat) (j : Int) (mi' : MI), 0 ≤ j → j ≤ len → len - j < t → mi' a 1 = j → (∀ i, 0 ≤ i → i < j → mi' b i = mi b2 i) → (∀ x, x ≠ a → x ≠ b → mi' x = mi x) → V (RX7, cX7_copyFrom, 3, rm 1, false, none, none) Q 0 0 sh mi' mr [some (vr a), some (vr a2), some (vi j)] [] 6 := by
  obtain ⟨n1, n2, n3, n4, n5⟩ := hne
  intro t
  induction t with
  | zero => intro j mi' h1 h2 h3; omega
  | succ t ih =>
    intro j mi' h1 h2 h3 h4 h5 h6
    have e2 : mi' a2 1 = len := by rw [h6 a2 (Ne.symm n2) (Ne.symm n4)]; exact hl2
    have e3 : mi' b2 = mi b2 := h6 b2 (Ne.symm n3) (Ne.symm n5)
    refine V_iload_n dX7_copyFrom_6 rfl ?_
    refine V_aload_n dX7_copyFrom_7 rfl ?_
    refine V_geti 1 dX7_copyFrom_8 fl_RX7_21 (by first | with_reducible assumption | rfl) rfl rfl ?_
    refine V_icmp_ge 29 dX7_copyFrom_11 (by decide) (by omega) (by omega) (fun h11 => ?_) (fun h11 => ?_)
    · have e : j = len := by omega
      subst e
      exact kk mi' h4 h5 h6
    · refine V_aload_n dX7_copyFrom_14 rfl ?_
      refine V_aload_n dX7_copyFrom_15 rfl ?_
      refine V_iload_n dX7_copyFrom_16 rfl ?_
      refine V_callVP dX7_copyFrom_17 ml_RX7_25 km_X7_at kv_X7_at (c_X7_at (i := j) (by omega) ha2 hr2 hb2 hN2 (by omega)) (by first | with_reducible assumption | rfl) rfl rfl rfl (Nat.le_of_ble_eq_true rfl) ⟨Nat.le_of_ble_eq_true rfl, Nat.le_of_ble_eq_true rfl⟩ ⟨Nat.le_of_ble_eq_true rfl, Nat.le_of_ble_eq_true rfl⟩ ?_
      refine V_callV0 dX7_copyFrom_20 ml_RX7_36 km_X7_add kv_X7_add (c_X7_add ha hr hb hN (by omega) n1) (by first | with_reducible assumption | rfl) rfl rfl rfl (Nat.le_of_ble_eq_true rfl) ⟨Nat.le_of_ble_eq_true rfl, Nat.le_of_ble_eq_true rfl⟩ ⟨Nat.le_of_ble_eq_true rfl, Nat.le_of_ble_eq_true rfl⟩ ?_
      intro mi2 mr2 hq
      obtain ⟨rfl, rfl⟩ := hq
      rw [if_pos (by omega), rat_in (by omega), h4, e3]
      refine S_iinc (ls' := [_, _, _]) dX7_copyFrom_23 rfl ⟨rfl, rfl⟩ rfl ?_
      refine V_goto 6 dX7_copyFrom_26 (by decide) ?_
      refine ih (j + 1) _ (by omega) (by omega) (by omega) (by rw [up2_ss]) (fun i g1 g2 => ?_) (fun x hx hy => by rw [up2_n _ _ _ hx, up2_n mi' _ _ hy]; exact h6 x hx hy)
      rw [up2_n _ _ _ (Ne.symm n1)]
      by_cases hi : i = j
      · subst hi
        rw [up2_ss]
      · rw [up2_sn mi' b _ hi, h5 i g1 (by omega)]
set_option maxRecDepth 100000 in
theorem c_X7_copyFrom {a2 b2 N2 : Nat} (ha : sh[a]? = some (.inl 7)) (hr : mr a 0 = some b) (hb : sh[b]? = some (.inr (0, N))) (hN : N ≤ 1000) (ha2 : sh[a2]? = some (.inl 7)) (hr2 : mr a2 0 = some b2) (hb2 : sh[b2]? = some (.inr (0, N2))) (hN2 : N2 ≤ 1000) (hne : a ≠ b ∧ a ≠ a2 ∧ a ≠ b2 ∧ b ≠ a2 ∧ b ≠ b2) (hl : 0 ≤ mi a2 1 ∧ mi a2 1 ≤ N ∧ mi a2 1 ≤ N2) : C0 yX7_copyFrom cX7_copyFrom 3 none 1 sh mi mr [vr a, vr a2] (fun mi' mr' => mr' = mr ∧ mi' a 1 = mi a2 1 ∧ (∀ i, 0 ≤ i → i < mi a2 1 → mi' b i = mi b2 i) ∧ (∀ x, x ≠ a → x ≠ b → mi' x = mi x)) := by
  refine Ct.ofV (ini := false) [some (vr a), some (vr a2), none] km_X7_copyFrom (by decide) rfl (Nat.le_of_ble_eq_true rfl) ?_
  refine V_aload_n dX7_copyFrom_0 rfl ?_
  refine V_callV0 dX7_copyFrom_1 ml_RX7_33 km_X7_empty kv_X7_empty (c_X7_empty ha) (by first | with_reducible assumption | rfl) rfl rfl rfl (Nat.le_of_ble_eq_true rfl) ⟨Nat.le_of_ble_eq_true rfl, Nat.le_of_ble_eq_true rfl⟩ ⟨Nat.le_of_ble_eq_true rfl, Nat.le_of_ble_eq_true rfl⟩ ?_
  intro mi2 mr2 hq
  obtain ⟨rfl, rfl⟩ := hq
  refine V_iconst dX7_copyFrom_4 ?_
  refine S_istore_n (ls' := [_, _, _]) dX7_copyFrom_5 ⟨Nat.le_of_ble_eq_true rfl, rfl, rfl⟩ rfl ?_
  have n := hne
  refine l_X7_copyFrom (mi := up2 mi a 1 0) (len := mi a2 1) ha hr hb hN ha2 hr2 hb2 hN2 hne hl (by rw [up2_n mi _ _ (Ne.symm n.2.1)]) (fun mi' g1 g2 g3 => ?_) (mi a2 1 + 1).toNat 0 _ (by omega) (by omega) (by omega) (by rw [up2_ss]) (fun i g1 g2 => by omega) (fun x _ _ => rfl)
  refine V_vret dX7_copyFrom_29 rfl ⟨Nat.le_of_ble_eq_true rfl, Nat.le_of_ble_eq_true rfl⟩ ?_
  exact ⟨rfl, rfl, rfl, g1, fun i h1 h2 => by rw [g2 i h1 h2, up2_n mi _ _ (Ne.symm n.2.2.1)], fun x hx hy => by rw [g3 x hx hy, up2_n mi _ _ hx]⟩
end ROW
end
section
/-! ===== what is told: rows of letters, letters that are the same, reaches ===== -/
/-- a row of n letters told at every place: -1 beyond it -/
def NR (n : Int) (A : Int → Int) : Prop := (0 ≤ n ∧ n ≤ 28) ∧ (∀ i, 0 ≤ i → i < n → 0 ≤ A i ∧ A i ≤ 7) ∧ ∀ i, (i < 0 ∨ n ≤ i) → A i = -1
theorem NR.r {n : Int} {A : Int → Int} (h : NR n A) (i : Int) : -1 ≤ A i ∧ A i ≤ 7 := by
  by_cases hi : 0 ≤ i ∧ i < n
  · have := h.2.1 i hi.1 hi.2
    omega
  · rw [h.2.2 i (by omega)]
    omega
theorem NR.lt {n : Int} {A : Int → Int} (h : NR n A) {i : Int} (hi : A i ≠ -1) : 0 ≤ i ∧ i < n := by
  by_cases hi' : 0 ≤ i ∧ i < n
  · exact hi'
  · exact absurd (h.2.2 i (by omega)) hi
abbrev al (A B : Int → Int) (x y : Int) : Prop := A x ≠ -1 ∧ A x = B y
theorem al_in {n m : Int} {A B : Int → Int} (hA : NR n A) (hB : NR m B) {x y : Int} (h : al A B x y) : 0 ≤ x ∧ x < n ∧ 0 ≤ y ∧ y < m := by
  have h1 := hA.lt h.1
  have h2 := hB.lt (i := y) (by rw [← h.2]; exact h.1)
  omega
def snk (A B : Int → Int) : Nat → Int → Int → Int
  | 0, _, _ => 0
  | t + 1, x, y => if al A B x y then 1 + snk A B t (x + 1) (y + 1) else 0
def sn (A B : Int → Int) (x y : Int) : Int := snk A B 28 x y
theorem snk_s (A B : Int → Int) (t : Nat) (x y : Int) : snk A B (t + 1) x y = if al A B x y then 1 + snk A B t (x + 1) (y + 1) else 0 := rfl
theorem snk_r (A B : Int → Int) : ∀ (t : Nat) (x y : Int), 0 ≤ snk A B t x y ∧ snk A B t x y ≤ t
  | 0, _, _ => by simp [snk]
  | t + 1, x, y => by
    have h := snk_r A B t (x + 1) (y + 1)
    simp only [snk]
    split <;> omega
theorem sn_r (A B : Int → Int) (x y : Int) : 0 ≤ sn A B x y ∧ sn A B x y ≤ 28 := snk_r A B 28 x y
/-- along a run the letters are the same; behind it they are not -/
theorem snk_run (A B : Int → Int) : ∀ (t : Nat) (x y j : Int), 0 ≤ j → j < snk A B t x y → al A B (x + j) (y + j)
  | 0, x, y, j, h0, h => by simp [snk] at h; omega
  | t + 1, x, y, j, h0, h => by
    simp only [snk] at h
    split at h
    · rename_i ha
      by_cases hj : j = 0
      · subst hj; simpa using ha
      · have := snk_run A B t (x + 1) (y + 1) (j - 1) (by omega) (by omega)
        rw [show x + 1 + (j - 1) = x + j by omega, show y + 1 + (j - 1) = y + j by omega] at this
        exact this
    · omega
theorem sn_run {A B : Int → Int} {x y j : Int} (h0 : 0 ≤ j) (h : j < sn A B x y) : al A B (x + j) (y + j) := snk_run A B 28 x y j h0 h
theorem snk_end (A B : Int → Int) : ∀ (t : Nat) (x y : Int), snk A B t x y < t → ¬ al A B (x + snk A B t x y) (y + snk A B t x y)
  | 0, x, y, h => by simp [snk] at h
  | t + 1, x, y, h => by
    by_cases ha : al A B x y
    · have e : snk A B (t + 1) x y = 1 + snk A B t (x + 1) (y + 1) := by simp only [snk]; rw [if_pos ha]
      rw [e] at h ⊢
      have := snk_end A B t (x + 1) (y + 1) (by omega)
      rw [show x + 1 + snk A B t (x + 1) (y + 1) = x + (1 + snk A B t (x + 1) (y + 1)) by omega, show y + 1 + snk A B t (x + 1) (y + 1) = y + (1 + snk A B t (x + 1) (y + 1)) by omega] at this
      exact this
    · have e : snk A B (t + 1) x y = 0 := by simp only [snk]; rw [if_neg ha]
      rw [e]
      simpa using ha
theorem sn_le {n m : Int} {A B : Int → Int} (hA : NR n A) (hB : NR m B) {x y : Int} (h : 0 < sn A B x y) : 0 ≤ x ∧ 0 ≤ y ∧ x + sn A B x y ≤ n ∧ y + sn A B x y ≤ m := by
  have h1 := al_in hA hB (sn_run (j := 0) (by omega) h)
  have h2 := al_in hA hB (sn_run (A := A) (B := B) (x := x) (y := y) (j := sn A B x y - 1) (by omega) (by omega))
  omega
/-- a run of j letters with an end is the run -/
theorem snk_is (A B : Int → Int) : ∀ (t : Nat) (x y j : Int), 0 ≤ j → j ≤ t → (∀ i, 0 ≤ i → i < j → al A B (x + i) (y + i)) → (j < t → ¬ al A B (x + j) (y + j)) → snk A B t x y = j
  | 0, x, y, j, h0, h1, _, _ => by simp [snk]; omega
  | t + 1, x, y, j, h0, h1, h2, h3 => by
    by_cases hj : j = 0
    · subst hj
      have := h3 (by omega)
      rw [show x + 0 = x by omega, show y + 0 = y by omega] at this
      simp only [snk]
      rw [if_neg this]
    · have ha := h2 0 (by omega) (by omega)
      rw [show x + 0 = x by omega, show y + 0 = y by omega] at ha
      have := snk_is A B t (x + 1) (y + 1) (j - 1) (by omega) (by omega) (fun i g1 g2 => by
        have := h2 (i + 1) (by omega) (by omega)
        rw [show x + (i + 1) = x + 1 + i by omega, show y + (i + 1) = y + 1 + i by omega] at this
        exact this) (fun g => by
        have := h3 (by omega)
        rw [show x + 1 + (j - 1) = x + j by omega, show y + 1 + (j - 1) = y + j by omega]
        exact this)
      simp only [snk]
      rw [if_pos ha, this]
      omega
/-! reaches -/
def bx (G : Int → Int) (d k : Int) : Int := if k = -d ∨ (k ≠ d ∧ G (k - 1) < G (k + 1)) then G (k + 1) else G (k - 1) + 1
def fr (A B : Int → Int) : Nat → Int → Int
  | 0, k => sn A B 0 (0 - k)
  | d + 1, k => bx (fr A B d) (d + 1) k + sn A B (bx (fr A B d) (d + 1) k) (bx (fr A B d) (d + 1) k - k)
/-- the reach of d edits on a diagonal; where one stands behind the last edit -/
def fI (A B : Int → Int) (d k : Int) : Int := fr A B d.toNat k
def bI (A B : Int → Int) (d k : Int) : Int := if d ≤ 0 then 0 else bx (fun j => fI A B (d - 1) j) d k
theorem fI_eq (A B : Int → Int) (d k : Int) : fI A B d k = bI A B d k + sn A B (bI A B d k) (bI A B d k - k) := by
  unfold fI bI
  by_cases h : d ≤ 0
  · rw [if_pos h, show d.toNat = 0 by omega]
    simp [fr]
  · rw [if_neg h]
    obtain ⟨e, he⟩ : ∃ e : Nat, d.toNat = e + 1 := ⟨d.toNat - 1, by omega⟩
    rw [he]
    have e1 : d = (e : Int) + 1 := by omega
    have e2 : (fun j => fI A B (d - 1) j) = fr A B e := by
      funext j
      unfold fI
      rw [show (d - 1).toNat = e by omega]
    rw [e2]
    simp only [fr]
    rw [← e1]
theorem bI_pos {A B : Int → Int} {d k : Int} (h : 0 < d) : bI A B d k = if k = -d ∨ (k ≠ d ∧ fI A B (d - 1) (k - 1) < fI A B (d - 1) (k + 1)) then fI A B (d - 1) (k + 1) else fI A B (d - 1) (k - 1) + 1 := by
  unfold bI bx
  rw [if_neg (by omega)]
/-- on which diagonals there are reaches -/
abbrev lat (d k : Int) : Prop := 0 ≤ d ∧ d ≤ 56 ∧ -d ≤ k ∧ k ≤ d ∧ (d + k) % 2 = 0
/-- reaches are small, and not below 0 -/
theorem fI_r {n m : Int} {A B : Int → Int} (hA : NR n A) (hB : NR m B) : ∀ (e : Nat) (k : Int), 0 ≤ fI A B e k ∧ fI A B e k ≤ 28 + e := by
  intro e
  have step : ∀ (d k : Int), 0 ≤ d → 0 ≤ bI A B d k → bI A B d k ≤ 28 + d → 0 ≤ fI A B d k ∧ fI A B d k ≤ 28 + d := by
    intro d k h0 h1 h2
    rw [fI_eq]
    have h3 := sn_r A B (bI A B d k) (bI A B d k - k)
    by_cases h4 : 0 < sn A B (bI A B d k) (bI A B d k - k)
    · have h5 := sn_le hA hB h4
      have := hA.1
      omega
    · omega
  induction e with
  | zero =>
    intro k
    exact step 0 k (by omega) (by simp [bI]) (by simp [bI])
  | succ e ih =>
    intro k
    refine step ((e + 1 : Nat) : Int) k (by omega) ?_ ?_
    · rw [bI_pos (by omega)]
      have h1 := ih (k + 1)
      have h2 := ih (k - 1)
      rw [show (((e + 1 : Nat) : Int) - 1) = (e : Int) by omega]
      split <;> omega
    · rw [bI_pos (by omega)]
      have h1 := ih (k + 1)
      have h2 := ih (k - 1)
      rw [show (((e + 1 : Nat) : Int) - 1) = (e : Int) by omega]
      split <;> omega
theorem fI_rr {n m : Int} {A B : Int → Int} (hA : NR n A) (hB : NR m B) (d k : Int) (h : 0 ≤ d) : 0 ≤ fI A B d k ∧ fI A B d k ≤ 28 + d := by
  have := fI_r hA hB d.toNat k
  rw [show ((d.toNat : Nat) : Int) = d by omega] at this
  exact this
theorem bI_rr {n m : Int} {A B : Int → Int} (hA : NR n A) (hB : NR m B) (d k : Int) (h : 0 ≤ d) : 0 ≤ bI A B d k ∧ bI A B d k ≤ 28 + d := by
  by_cases h0 : d = 0
  · subst h0; simp [bI]
  · rw [bI_pos (by omega)]
    have h1 := fI_rr hA hB (d - 1) (k + 1) (by omega)
    have h2 := fI_rr hA hB (d - 1) (k - 1) (by omega)
    split <;> omega
/-- the distance: the least number of edits with which one comes to the end -/
def hit (n m : Int) (A B : Int → Int) (d : Int) : Prop := 0 ≤ d ∧ -d ≤ n - m ∧ n - m ≤ d ∧ (d + (n - m)) % 2 = 0 ∧ n ≤ fI A B d (n - m)
def isD (n m : Int) (A B : Int → Int) (D : Int) : Prop := D ≤ 56 ∧ hit n m A B D ∧ ∀ d, d < D → ¬ hit n m A B d
/-- with one edit more one comes at least as far -/
theorem fI_up {A B : Int → Int} {d k : Int} (hd : 0 ≤ d) (hl : -d ≤ k ∧ k ≤ d) : fI A B d k + 1 ≤ fI A B (d + 1) (k + 1) := by
  rw [fI_eq A B (d + 1)]
  have h1 := (sn_r A B (bI A B (d + 1) (k + 1)) (bI A B (d + 1) (k + 1) - (k + 1))).1
  have h2 : fI A B d k + 1 ≤ bI A B (d + 1) (k + 1) := by
    rw [bI_pos (by omega), show d + 1 - 1 = d by omega, show k + 1 - 1 = k by omega]
    split <;> omega
  omega
theorem fI_dn {A B : Int → Int} {d k : Int} (hd : 0 ≤ d) (hl : -d ≤ k ∧ k ≤ d) : fI A B d k ≤ fI A B (d + 1) (k - 1) := by
  rw [fI_eq A B (d + 1)]
  have h1 := (sn_r A B (bI A B (d + 1) (k - 1)) (bI A B (d + 1) (k - 1) - (k - 1))).1
  have h2 : fI A B d k ≤ bI A B (d + 1) (k - 1) := by
    rw [bI_pos (by omega), show d + 1 - 1 = d by omega, show k - 1 + 1 = k by omega]
    split <;> omega
  omega
theorem fI_ups {A B : Int → Int} : ∀ (j : Nat) (d k : Int), 0 ≤ d → -d ≤ k ∧ k ≤ d → fI A B d k + j ≤ fI A B (d + j) (k + j)
  | 0, d, k, _, _ => by simp
  | j + 1, d, k, h0, hl => by
    have h1 := fI_up (A := A) (B := B) h0 hl
    have h2 := fI_ups (A := A) (B := B) j (d + 1) (k + 1) (by omega) (by omega)
    rw [show d + ((j + 1 : Nat) : Int) = d + 1 + j by omega, show k + ((j + 1 : Nat) : Int) = k + 1 + j by omega]
    omega
theorem fI_dns {A B : Int → Int} : ∀ (j : Nat) (d k : Int), 0 ≤ d → -d ≤ k ∧ k ≤ d → fI A B d k ≤ fI A B (d + j) (k - j)
  | 0, d, k, _, _ => by simp
  | j + 1, d, k, h0, hl => by
    have h1 := fI_dn (A := A) (B := B) h0 hl
    have h2 := fI_dns (A := A) (B := B) j (d + 1) (k - 1) (by omega) (by omega)
    rw [show d + ((j + 1 : Nat) : Int) = d + 1 + j by omega, show k - ((j + 1 : Nat) : Int) = k - 1 - j by omega]
    omega
/-- as many edits as there are letters are enough -/
theorem hit_all {n m : Int} {A B : Int → Int} (hA : NR n A) (hB : NR m B) : hit n m A B (n + m) := by
  have h1 := hA.1
  have h2 := hB.1
  have h3 := fI_ups (A := A) (B := B) n.toNat 0 0 (by omega) (by omega)
  have h4 := fI_dns (A := A) (B := B) m.toNat n n (by omega) (by omega)
  have h5 := (fI_rr hA hB 0 0 (by omega)).1
  rw [show ((n.toNat : Nat) : Int) = n by omega, show (0 : Int) + n = n by omega] at h3
  rw [show ((m.toNat : Nat) : Int) = m by omega] at h4
  refine ⟨by omega, by omega, by omega, by omega, by omega⟩
theorem least_of {P : Nat → Prop} : ∀ (n : Nat), P n → ∃ k, P k ∧ k ≤ n ∧ ∀ j, j < k → ¬ P j := by
  intro n hn
  obtain ⟨k, h1, h2⟩ := pk_least P ⟨n, hn⟩
  refine ⟨k, h1, ?_, h2⟩
  rcases Nat.lt_or_ge n k with h | h
  · exact absurd hn (h2 n h)
  · exact h
theorem isD_ex {n m : Int} {A B : Int → Int} (hA : NR n A) (hB : NR m B) : ∃ D, isD n m A B D := by
  have h1 := hA.1
  have h2 := hB.1
  have h := hit_all hA hB
  obtain ⟨k, g1, g2, g3⟩ := least_of (P := fun j : Nat => hit n m A B j) (n + m).toNat (by
    show hit n m A B (((n + m).toNat : Nat) : Int)
    rw [show (((n + m).toNat : Nat) : Int) = n + m by omega]; exact h)
  refine ⟨k, by omega, g1, fun d hd hh => ?_⟩
  have h0 := hh.1
  refine g3 d.toNat (by omega) ?_
  show hit n m A B ((d.toNat : Nat) : Int)
  rw [show ((d.toNat : Nat) : Int) = d by omega]
  exact hh
theorem isD_nn {n m : Int} {A B : Int → Int} {D : Int} (h : isD n m A B D) : 0 ≤ D ∧ D ≤ 56 := ⟨h.2.1.1, h.1⟩
theorem isD_u {n m : Int} {A B : Int → Int} {D D' : Int} (h : isD n m A B D) (h' : isD n m A B D') : D = D' := by
  rcases Int.lt_trichotomy D D' with h1 | h1 | h1
  · exact absurd h.2.1 (h'.2.2 D h1)
  · exact h1
  · exact absurd h'.2.1 (h.2.2 D' h1)
/-! where the rows are -/
def Now (mi : MI) (mr : MR) (f fb g gb : Nat) (n m : Int) (A B : Int → Int) : Prop := (mr 1 0 = some f ∧ mr 1 1 = some g) ∧ ((f = 2 ∧ fb = 3 ∧ g = 4 ∧ gb = 5) ∨ (f = 4 ∧ fb = 5 ∧ g = 2 ∧ gb = 3)) ∧ Gr mr ∧ (mi f 1 = n ∧ mi g 1 = m) ∧ (∀ i, 0 ≤ i → i < n → mi fb i = A i) ∧ (∀ i, 0 ≤ i → i < m → mi gb i = B i) ∧ NR n A ∧ NR m B
theorem Now.keep {mi mi' : MI} {mr : MR} {f fb g gb : Nat} {n m : Int} {A B : Int → Int} (h : Now mi mr f fb g gb n m A B) (hk : ∀ x, 2 ≤ x → x ≤ 5 → mi' x = mi x) : Now mi' mr f fb g gb n m A B := by
  obtain ⟨h1, h2, h3, h4, h5, h6, h7⟩ := h
  have e : mi' f = mi f ∧ mi' fb = mi fb ∧ mi' g = mi g ∧ mi' gb = mi gb := ⟨hk f (by omega) (by omega), hk fb (by omega) (by omega), hk g (by omega) (by omega), hk gb (by omega) (by omega)⟩
  exact ⟨h1, h2, h3, by rw [e.1, e.2.2.1]; exact h4, by rw [e.2.1]; exact h5, by rw [e.2.2.2]; exact h6, h7⟩
theorem Now.u {mi : MI} {mr : MR} {f fb g gb : Nat} {n m : Int} {A B : Int → Int} (h : Now mi mr f fb g gb n m A B) : (mr 1 0 = some f ∧ mr 1 1 = some g ∧ Gr mr) ∧ (SH[f]? = some (.inl 7) ∧ mr f 0 = some fb ∧ SH[fb]? = some (.inr (0, 28))) ∧ (SH[g]? = some (.inl 7) ∧ mr g 0 = some gb ∧ SH[gb]? = some (.inr (0, 28))) ∧ (mi f 1 = n ∧ mi g 1 = m ∧ 0 ≤ n ∧ n ≤ 28 ∧ 0 ≤ m ∧ m ≤ 28) ∧ (∀ i, rat mi f fb i = A i) ∧ (∀ i, rat mi g gb i = B i) ∧ (∀ i, -1 ≤ A i ∧ A i ≤ 7) ∧ (∀ i, -1 ≤ B i ∧ B i ≤ 7) := by
  obtain ⟨h1, h2, h3, h4, h5, h6, h7, h8⟩ := h
  refine ⟨⟨h1.1, h1.2, h3⟩, ?_, ?_, ⟨h4.1, h4.2, h7.1.1, h7.1.2, h8.1.1, h8.1.2⟩, fun i => ?_, fun i => ?_, h7.r, h8.r⟩
  · rcases h2 with ⟨rfl, rfl, -⟩ | ⟨rfl, rfl, -⟩
    · exact ⟨rfl, h3.at rfl, rfl⟩
    · exact ⟨rfl, h3.at rfl, rfl⟩
  · rcases h2 with ⟨-, -, rfl, rfl⟩ | ⟨-, -, rfl, rfl⟩
    · exact ⟨rfl, h3.at rfl, rfl⟩
    · exact ⟨rfl, h3.at rfl, rfl⟩
  · by_cases hi : 0 ≤ i ∧ i < n
    · rw [rat_in (by rw [h4.1]; exact hi)]
      exact h5 i hi.1 hi.2
    · rw [rat_out (by rw [h4.1]; exact hi), h7.2.2 i (by omega)]
  · by_cases hi : 0 ≤ i ∧ i < m
    · rw [rat_in (by rw [h4.2]; exact hi)]
      exact h6 i hi.1 hi.2
    · rw [rat_out (by rw [h4.2]; exact hi), h8.2.2 i (by omega)]
end
section
/-! ===== DiagonalTexts$State ===== -/
section STATE
variable {mi : MI} {mr : MR} {f fb g gb : Nat} {n m : Int} {A B : Int → Int}
set_option maxRecDepth 100000 in
theorem c_X9_isAlike {x y : Int} (hN : Now mi mr f fb g gb n m A B) (hx : rng x) (hy : rng y) : CP yX9_isAlike cX9_isAlike 4 (some .boolean) 1 SH mi mr [vr 1, vi x, vi y] (vi (if al A B x y then 1 else 0)) := by
  obtain ⟨⟨u1, u2, hG⟩, ⟨u4, u5, u6⟩, ⟨u7, u8, u9⟩, ⟨u10, u11, u12⟩, uA, uB, rA, rB⟩ := hN.u
  have rAx := rA x
  have rBy := rB y
  refine Ct.ofV (ini := false) [some (vr 1), some (vi x), some (vi y), none] km_X9_isAlike (by decide) rfl (Nat.le_of_ble_eq_true rfl) ?_
  refine V_aload_n dX9_isAlike_0 rfl ?_
  refine V_getr 0 _ dX9_isAlike_1 fl_RX9_14 (by first | with_reducible assumption | rfl) rfl rfl (by first | with_reducible assumption | exact hG.at rfl) ?_
  refine V_iload_n dX9_isAlike_4 rfl ?_
  refine V_callVP dX9_isAlike_5 ml_RX9_34 km_X7_at kv_X7_at (c_X7_at (i := x) hx u4 u5 u6 (by decide) (by omega)) (by first | with_reducible assumption | rfl) rfl rfl rfl (Nat.le_of_ble_eq_true rfl) ⟨Nat.le_of_ble_eq_true rfl, Nat.le_of_ble_eq_true rfl⟩ ⟨Nat.le_of_ble_eq_true rfl, Nat.le_of_ble_eq_true rfl⟩ ?_
  rw [uA x]
  refine S_istore_n (ls' := [_, _, _, _]) dX9_isAlike_8 ⟨Nat.le_of_ble_eq_true rfl, rfl, rfl⟩ rfl ?_
  refine V_iload_n dX9_isAlike_9 rfl ?_
  refine V_iconst dX9_isAlike_10 ?_
  refine V_icmp_eq 30 dX9_isAlike_11 (by decide) (by omega) (by omega) (fun h11 => ?_) (fun h11 => ?_)
  · refine V_iconst dX9_isAlike_30 ?_
    refine V_zret dX9_isAlike_31 rfl ⟨Nat.le_of_ble_eq_true rfl, Nat.le_of_ble_eq_true rfl⟩ (by first | exact Or.inl rfl | exact Or.inr rfl | omega) ?_
    exact ⟨rfl, svi (by split <;> first | rfl | (exfalso; omega)), rfl, rfl⟩
  · refine V_iload_n dX9_isAlike_14 rfl ?_
    refine V_aload_n dX9_isAlike_15 rfl ?_
    refine V_getr 1 _ dX9_isAlike_16 fl_RX9_20 (by first | with_reducible assumption | rfl) rfl rfl (by first | with_reducible assumption | exact hG.at rfl) ?_
    refine V_iload_n dX9_isAlike_19 rfl ?_
    refine V_callVP dX9_isAlike_20 ml_RX9_34 km_X7_at kv_X7_at (c_X7_at (i := y) hy u7 u8 u9 (by decide) (by omega)) (by first | with_reducible assumption | rfl) rfl rfl rfl (Nat.le_of_ble_eq_true rfl) ⟨Nat.le_of_ble_eq_true rfl, Nat.le_of_ble_eq_true rfl⟩ ⟨Nat.le_of_ble_eq_true rfl, Nat.le_of_ble_eq_true rfl⟩ ?_
    rw [uB y]
    refine V_icmp_ne 30 dX9_isAlike_23 (by decide) (by omega) (by omega) (fun h23 => ?_) (fun h23 => ?_)
    · refine V_iconst dX9_isAlike_30 ?_
      refine V_zret dX9_isAlike_31 rfl ⟨Nat.le_of_ble_eq_true rfl, Nat.le_of_ble_eq_true rfl⟩ (by first | exact Or.inl rfl | exact Or.inr rfl | omega) ?_
      exact ⟨rfl, svi (by split <;> first | rfl | (exfalso; omega)), rfl, rfl⟩
    · refine V_iconst dX9_isAlike_26 ?_
      refine V_goto 31 dX9_isAlike_27 (by decide) ?_
      refine V_zret dX9_isAlike_31 rfl ⟨Nat.le_of_ble_eq_true rfl, Nat.le_of_ble_eq_true rfl⟩ (by first | exact Or.inl rfl | exact Or.inr rfl | omega) ?_
      exact ⟨rfl, svi (by split <;> first | rfl | (exfalso; omega)), rfl, rfl⟩
set_option maxRecDepth 100000 in
theorem l_X9_alikeFrom {Q : PQ} {x y : Int} (hN : Now mi mr f fb g gb n m A B) (hx : -1000 ≤ x ∧ x ≤ 1000) (hy : -1000 ≤ y ∧ y ≤ 1000)
    (kk : ∀ j : Int, j = sn A B x y → V (RX9, cX9_alikeFrom, 4, rm 2, false, none, (some .int)) Q 0 0 SH mi mr [some (vr 1), some (vi x), some (vi y), some (vi j)] [] 27) :
    ∀ (t : Nat) (j : Int), j + t = 28 → 0 ≤ j → sn A B x y = j + snk A B t (x + j) (y + j) → V (RX9, cX9_alikeFrom, 4, rm 2, false, none, (some .int)) Q 0 0 SH mi mr [some (vr 1), some (vi x), some (vi y), some (vi j)] [] 2 := by
  intro t
  induction t with
  | zero =>
    intro j h1 h2 h3
    simp only [snk] at h3
    refine V_iload_n dX9_alikeFrom_2 rfl ?_
    refine V_bipush dX9_alikeFrom_3 (by decide) ?_
    refine V_icmp_ge 27 dX9_alikeFrom_5 (by decide) (by omega) (by omega) (fun h5 => ?_) (fun h5 => ?_)
    · exact kk j (by omega)
    · omega
  | succ t ih =>
    intro j h1 h2 h3
    refine V_iload_n dX9_alikeFrom_2 rfl ?_
    refine V_bipush dX9_alikeFrom_3 (by decide) ?_
    refine V_icmp_ge 27 dX9_alikeFrom_5 (by decide) (by omega) (by omega) (fun h5 => ?_) (fun h5 => ?_)
    · omega
    · refine V_aload_n dX9_alikeFrom_8 rfl ?_
      refine V_iload_n dX9_alikeFrom_9 rfl ?_
      refine V_iload_n dX9_alikeFrom_10 rfl ?_
      refine V_iadd dX9_alikeFrom_11 ?_
      refine V_iload_n dX9_alikeFrom_12 rfl ?_
      refine V_iload_n dX9_alikeFrom_13 rfl ?_
      refine V_iadd dX9_alikeFrom_14 ?_
      refine V_callVP dX9_alikeFrom_15 ml_RX9_38 km_X9_isAlike kv_X9_isAlike (c_X9_isAlike (x := x + j) (y := y + j) hN (by omega) (by omega)) (by first | with_reducible assumption | rfl) rfl rfl rfl (Nat.le_of_ble_eq_true rfl) ⟨Nat.le_of_ble_eq_true rfl, Nat.le_of_ble_eq_true rfl⟩ ⟨Nat.le_of_ble_eq_true rfl, Nat.le_of_ble_eq_true rfl⟩ ?_
      refine V_if_eq 27 dX9_alikeFrom_18 (by decide) (by split <;> omega) (fun h18 => ?_) (fun h18 => ?_)
      · refine kk j ?_
        have ha : ¬ al A B (x + j) (y + j) := fun ha => by rw [if_pos ha] at h18; omega
        simp only [snk] at h3
        rw [if_neg ha] at h3
        omega
      · refine S_iinc (ls' := [_, _, _, _]) dX9_alikeFrom_21 rfl ⟨rfl, rfl⟩ rfl ?_
        refine V_goto 2 dX9_alikeFrom_24 (by decide) ?_
        refine ih (j + 1) (by omega) (by omega) ?_
        have ha : al A B (x + j) (y + j) := Decidable.byContradiction fun ha => h18 (by rw [if_neg ha])
        simp only [snk] at h3
        rw [if_pos ha] at h3
        rw [show x + (j + 1) = x + j + 1 by omega, show y + (j + 1) = y + j + 1 by omega]
        omega
set_option maxRecDepth 100000 in
theorem c_X9_alikeFrom {x y : Int} (hN : Now mi mr f fb g gb n m A B) (hx : -1000 ≤ x ∧ x ≤ 1000) (hy : -1000 ≤ y ∧ y ≤ 1000) : CP yX9_alikeFrom cX9_alikeFrom 4 (some .int) 2 SH mi mr [vr 1, vi x, vi y] (vi (sn A B x y)) := by
  refine Ct.ofV (ini := false) [some (vr 1), some (vi x), some (vi y), none] km_X9_alikeFrom (by decide) rfl (Nat.le_of_ble_eq_true rfl) ?_
  refine V_iconst dX9_alikeFrom_0 ?_
  refine S_istore_n (ls' := [_, _, _, _]) dX9_alikeFrom_1 ⟨Nat.le_of_ble_eq_true rfl, rfl, rfl⟩ rfl ?_
  refine l_X9_alikeFrom hN hx hy (fun j hj => ?_) 28 0 (by omega) (by omega) (by simp [sn])
  refine V_iload_n dX9_alikeFrom_27 rfl ?_
  refine V_iret dX9_alikeFrom_28 rfl ⟨Nat.le_of_ble_eq_true rfl, Nat.le_of_ble_eq_true rfl⟩ ?_
  exact ⟨rfl, svi hj, rfl, rfl⟩
/-- the longest run from the places of the first t of the second row; of the first s of the first row, each with all m -/
def lgR (A B : Int → Int) (x : Int) : Nat → Int
  | 0 => 0
  | t + 1 => max (lgR A B x t) (sn A B x t)
def lgA (m : Nat) (A B : Int → Int) : Nat → Int
  | 0 => 0
  | s + 1 => max (lgA m A B s) (lgR A B s m)
theorem lgR_ge {A B : Int → Int} {x : Int} : ∀ {t : Nat} {y : Nat}, y < t → sn A B x y ≤ lgR A B x t
  | t + 1, y, h => by
    simp only [lgR]
    by_cases hy : y = t
    · subst hy; omega
    · have := lgR_ge (A := A) (B := B) (x := x) (t := t) (y := y) (by omega)
      omega
theorem lgA_ge {m : Nat} {A B : Int → Int} : ∀ {s : Nat} {x : Nat} {y : Nat}, x < s → y < m → sn A B x y ≤ lgA m A B s
  | s + 1, x, y, h, hy => by
    simp only [lgA]
    by_cases hx : x = s
    · subst hx
      have := lgR_ge (A := A) (B := B) (x := (x : Int)) hy
      omega
    · have := lgA_ge (m := m) (A := A) (B := B) (s := s) (x := x) (y := y) (by omega) hy
      omega
theorem lg_r (m : Nat) (A B : Int → Int) : ∀ (s : Nat), 0 ≤ lgA m A B s ∧ lgA m A B s ≤ 28
  | 0 => by simp [lgA]
  | s + 1 => by
    have h1 := lg_r m A B s
    have h2 : ∀ t : Nat, 0 ≤ lgR A B s t ∧ lgR A B s t ≤ 28 := by
      intro t
      induction t with
      | zero => simp [lgR]
      | succ t ih =>
        have := sn_r A B s t
        simp only [lgR]
        omega
    have h3 := h2 m
    simp only [lgA]
    omega
theorem lgR_r (A B : Int → Int) (x : Int) : ∀ (t : Nat), 0 ≤ lgR A B x t ∧ lgR A B x t ≤ 28
  | 0 => by simp [lgR]
  | t + 1 => by
    have h1 := lgR_r A B x t
    have := sn_r A B x t
    simp only [lgR]
    omega
/-- what goes on from the letters ahead is no longer than from there -/
theorem snk_mono (A B : Int → Int) : ∀ (t : Nat) (x y : Int), snk A B (t + 1) x y ≤ 1 + snk A B t x y
  | 0, x, y => by
    have := snk_r A B 1 x y
    simp only [snk] at this ⊢
    omega
  | t + 1, x, y => by
    have := snk_mono A B t (x + 1) (y + 1)
    rw [snk_s A B (t + 1) x y, snk_s A B t x y]
    split <;> omega
theorem sn_goes {A B : Int → Int} {x y : Int} (h : al A B (x - 1) (y - 1)) : sn A B x y ≤ sn A B (x - 1) (y - 1) := by
  have h1 := snk_mono A B 27 x y
  unfold sn
  have e : snk A B 28 (x - 1) (y - 1) = 1 + snk A B 27 (x - 1 + 1) (y - 1 + 1) := by
    rw [snk_s A B 27 (x - 1) (y - 1), if_pos h]
  rw [e, show x - 1 + 1 = x by omega, show y - 1 + 1 = y by omega]
  exact h1
set_option maxRecDepth 100000 in
theorem l_X9_longestAlike {Q : PQ} (hN : Now mi mr f fb g gb n m A B) (s : Nat) (hs : s < n)
    (kk : V (RX9, cX9_longestAlike, 4, rm 3, false, none, (some .int)) Q 0 0 SH mi mr [some (vr 1), some (vi (lgA m.toNat A B (s + 1))), some (vi s), some (vi m)] [] 58) :
    ∀ (u t : Nat), (t : Int) ≤ m → m - t < u → V (RX9, cX9_longestAlike, 4, rm 3, false, none, (some .int)) Q 0 0 SH mi mr [some (vr 1), some (vi (max (lgA m.toNat A B s) (lgR A B s t))), some (vi s), some (vi t)] [] 17 := by
  obtain ⟨⟨u1, u2, hG⟩, ⟨u4, u5, u6⟩, ⟨u7, u8, u9⟩, ⟨u10, u11, u12⟩, uA, uB, rA, rB⟩ := hN.u
  intro u
  induction u with
  | zero => intro t h1 h2; omega
  | succ u ih =>
    intro t h1 h2
    have rs := sn_r A B s t
    have r1 := lg_r m.toNat A B s
    have r2 := lgR_r A B s t
    have goal2 : max (max (lgA m.toNat A B s) (lgR A B s t)) (sn A B s t) = max (lgA m.toNat A B s) (lgR A B s (t + 1)) := by
      simp only [lgR]; omega
    refine V_iload_n dX9_longestAlike_17 rfl ?_
    refine V_aload_n dX9_longestAlike_18 rfl ?_
    refine V_getr 1 _ dX9_longestAlike_19 fl_RX9_20 (by first | with_reducible assumption | rfl) rfl rfl (by first | with_reducible assumption | exact hG.at rfl) ?_
    refine V_geti 1 dX9_longestAlike_22 fl_RX9_42 (by first | with_reducible assumption | rfl) rfl rfl ?_
    refine V_icmp_ge 58 dX9_longestAlike_25 (by decide) (by omega) (by omega) (fun h25 => ?_) (fun h25 => ?_)
    · have e : (t : Int) = m := by omega
      have e2 : t = m.toNat := by omega
      subst e2
      rw [← show max (lgA m.toNat A B s) (lgR A B s m.toNat) = lgA m.toNat A B (s + 1) from rfl, ← e] at kk
      simp only [Int.toNat_natCast] at kk
      exact kk
    · refine V_aload_n dX9_longestAlike_28 rfl ?_
      refine V_iload_n dX9_longestAlike_29 rfl ?_
      refine V_iconst dX9_longestAlike_30 ?_
      refine V_isub dX9_longestAlike_31 ?_
      refine V_iload_n dX9_longestAlike_32 rfl ?_
      refine V_iconst dX9_longestAlike_33 ?_
      refine V_isub dX9_longestAlike_34 ?_
      refine V_callVP dX9_longestAlike_35 ml_RX9_38 km_X9_isAlike kv_X9_isAlike (c_X9_isAlike (x := s - 1) (y := t - 1) hN (by omega) (by omega)) (by first | with_reducible assumption | rfl) rfl rfl rfl (Nat.le_of_ble_eq_true rfl) ⟨Nat.le_of_ble_eq_true rfl, Nat.le_of_ble_eq_true rfl⟩ ⟨Nat.le_of_ble_eq_true rfl, Nat.le_of_ble_eq_true rfl⟩ ?_
      refine V_if_ne 52 dX9_longestAlike_38 (by decide) (by split <;> omega) (fun h38 => ?_) (fun h38 => ?_)
      · have ha : al A B (s - 1) (t - 1) := Decidable.byContradiction fun ha => h38 (by rw [if_neg ha])
        have hin := al_in hN.2.2.2.2.2.2.1 hN.2.2.2.2.2.2.2 ha
        have hle := sn_goes ha
        have hge := lgA_ge (m := m.toNat) (A := A) (B := B) (s := s) (x := s - 1) (y := t - 1) (by omega) (by omega)
        rw [show ((s - 1 : Nat) : Int) = (s : Int) - 1 by omega, show ((t - 1 : Nat) : Int) = (t : Int) - 1 by omega] at hge
        rw [show max (lgA m.toNat A B s) (lgR A B s t) = max (lgA m.toNat A B s) (lgR A B s (t + 1)) by simp only [lgR]; omega]
        refine S_iinc (ls' := [_, _, _, _]) dX9_longestAlike_52 rfl ⟨rfl, rfl⟩ rfl ?_
        refine V_goto 17 dX9_longestAlike_55 (by decide) ?_
        exact ih (t + 1) (by omega) (by omega)
      · refine V_iload_n dX9_longestAlike_41 rfl ?_
        refine V_aload_n dX9_longestAlike_42 rfl ?_
        refine V_iload_n dX9_longestAlike_43 rfl ?_
        refine V_iload_n dX9_longestAlike_44 rfl ?_
        refine V_callVP dX9_longestAlike_45 ml_RX9_46 km_X9_alikeFrom kv_X9_alikeFrom (c_X9_alikeFrom (x := s) (y := t) hN (by omega) (by omega)) (by first | with_reducible assumption | rfl) rfl rfl rfl (Nat.le_of_ble_eq_true rfl) ⟨Nat.le_of_ble_eq_true rfl, Nat.le_of_ble_eq_true rfl⟩ ⟨Nat.le_of_ble_eq_true rfl, Nat.le_of_ble_eq_true rfl⟩ ?_
        refine V_mmax dX9_longestAlike_48 ml_RX9_50 (by omega) (by omega) ⟨Nat.le_of_ble_eq_true rfl, Nat.le_of_ble_eq_true rfl, Nat.le_of_ble_eq_true rfl, Nat.le_of_ble_eq_true rfl⟩ ?_
        rw [goal2]
        refine S_istore_n (ls' := [_, _, _, _]) dX9_longestAlike_51 ⟨Nat.le_of_ble_eq_true rfl, rfl, rfl⟩ rfl ?_
        refine S_iinc (ls' := [_, _, _, _]) dX9_longestAlike_52 rfl ⟨rfl, rfl⟩ rfl ?_
        refine V_goto 17 dX9_longestAlike_55 (by decide) ?_
        exact ih (t + 1) (by omega) (by omega)
set_option maxRecDepth 100000 in
theorem c_X9_longestAlike (hN : Now mi mr f fb g gb n m A B) : CP yX9_longestAlike cX9_longestAlike 4 (some .int) 3 SH mi mr [vr 1] (vi (lgA m.toNat A B n.toNat)) := by
  have u := hN.u
  obtain ⟨⟨u1, u2, hG⟩, ⟨u4, u5, u6⟩, ⟨u7, u8, u9⟩, ⟨u10, u11, u12⟩, uA, uB, rA, rB⟩ := u
  refine Ct.ofV (ini := false) [some (vr 1), none, none, none] km_X9_longestAlike (by decide) rfl (Nat.le_of_ble_eq_true rfl) ?_
  refine V_iconst dX9_longestAlike_0 ?_
  refine S_istore_n (ls' := [_, _, _, _]) dX9_longestAlike_1 ⟨Nat.le_of_ble_eq_true rfl, rfl, rfl⟩ rfl ?_
  refine V_iconst dX9_longestAlike_2 ?_
  refine S_istore_n (ls' := [_, _, _, _]) dX9_longestAlike_3 ⟨Nat.le_of_ble_eq_true rfl, rfl, rfl⟩ rfl ?_
  have loop : ∀ (w s : Nat), (s : Int) ≤ n → n - s < w → ∀ o : Option AV, V (RX9, cX9_longestAlike, 4, rm 3, false, none, (some .int)) (fun r sh' mi' mr' => sh' = SH ∧ r = some (vi (lgA m.toNat A B n.toNat)) ∧ mi' = mi ∧ mr' = mr) 0 0 SH mi mr [some (vr 1), some (vi (lgA m.toNat A B s)), some (vi s), o] [] 4 := by
    intro w
    induction w with
    | zero => intro s h1 h2; omega
    | succ w ih =>
      intro s h1 h2 o
      have r1 := lg_r m.toNat A B s
      refine V_iload_n dX9_longestAlike_4 rfl ?_
      refine V_aload_n dX9_longestAlike_5 rfl ?_
      refine V_getr 0 _ dX9_longestAlike_6 fl_RX9_14 (by first | with_reducible assumption | rfl) rfl rfl (by first | with_reducible assumption | exact hG.at rfl) ?_
      refine V_geti 1 dX9_longestAlike_9 fl_RX9_42 (by first | with_reducible assumption | rfl) rfl rfl ?_
      refine V_icmp_ge 64 dX9_longestAlike_12 (by decide) (by omega) (by omega) (fun h12 => ?_) (fun h12 => ?_)
      · refine V_iload_n dX9_longestAlike_64 rfl ?_
        refine V_iret dX9_longestAlike_65 rfl ⟨Nat.le_of_ble_eq_true rfl, Nat.le_of_ble_eq_true rfl⟩ ?_
        exact ⟨rfl, svi (by rw [show s = n.toNat by omega]), rfl, rfl⟩
      · refine V_iconst dX9_longestAlike_15 ?_
        refine S_istore_n (ls' := [_, _, _, _]) dX9_longestAlike_16 ⟨Nat.le_of_ble_eq_true rfl, rfl, rfl⟩ rfl ?_
        rw [show lgA m.toNat A B s = max (lgA m.toNat A B s) (lgR A B s 0) by simp only [lgR]; omega]
        refine l_X9_longestAlike hN s (by omega) ?_ (m.toNat + 1) 0 (by omega) (by omega)
        refine S_iinc (ls' := [_, _, _, _]) dX9_longestAlike_58 rfl ⟨rfl, rfl⟩ rfl ?_
        refine V_goto 4 dX9_longestAlike_61 (by decide) ?_
        exact ih (s + 1) (by omega) (by omega) _
  exact loop (n.toNat + 1) 0 (by omega) (by omega) none
set_option maxRecDepth 100000 in
theorem c_X9_rowOf {row : Int} (hr : row = 0 ∨ row = 1) (hN : Now mi mr f fb g gb n m A B) : CP yX9_rowOf cX9_rowOf 2 (some (.object "DiagonalTexts$Row")) 0 SH mi mr [vr 1, vi row] (vr (if row = 0 then f else g)) := by
  obtain ⟨⟨u1, u2, hG⟩, -⟩ := hN.u
  refine Ct.ofV (ini := false) [some (vr 1), some (vi row)] km_X9_rowOf (by decide) rfl (Nat.le_of_ble_eq_true rfl) ?_
  refine V_iload_n dX9_rowOf_0 rfl ?_
  refine V_if_ne 11 dX9_rowOf_1 (by decide) (by omega) (fun h1 => ?_) (fun h1 => ?_)
  · refine V_aload_n dX9_rowOf_11 rfl ?_
    refine V_getr 1 _ dX9_rowOf_12 fl_RX9_20 (by first | with_reducible assumption | rfl) rfl rfl (by first | with_reducible assumption | exact hG.at rfl) ?_
    refine V_aret dX9_rowOf_15 rfl ⟨Nat.le_of_ble_eq_true rfl, Nat.le_of_ble_eq_true rfl⟩ ?_
    exact ⟨rfl, by split <;> first | rfl | (exfalso; omega), rfl, rfl⟩
  · refine V_aload_n dX9_rowOf_4 rfl ?_
    refine V_getr 0 _ dX9_rowOf_5 fl_RX9_14 (by first | with_reducible assumption | rfl) rfl rfl (by first | with_reducible assumption | exact hG.at rfl) ?_
    refine V_goto 15 dX9_rowOf_8 (by decide) ?_
    refine V_aret dX9_rowOf_15 rfl ⟨Nat.le_of_ble_eq_true rfl, Nat.le_of_ble_eq_true rfl⟩ ?_
    exact ⟨rfl, by split <;> first | rfl | (exfalso; omega), rfl, rfl⟩
end STATE
end
section
/-! ===== states: swapped, copied, recorded, restored ===== -/
/-- letters of both rows, settings -/
abbrev St : Type := Int × Int × (Int → Int) × (Int → Int) × (Int → Int)
def SIs (mi : MI) (f fb g gb se : Nat) (σ : St) : Prop := mi f 1 = σ.1 ∧ mi g 1 = σ.2.1 ∧ (∀ i, 0 ≤ i → i < σ.1 → mi fb i = σ.2.2.1 i) ∧ (∀ i, 0 ≤ i → i < σ.2.1 → mi gb i = σ.2.2.2.1 i) ∧ ∀ i, 0 ≤ i → i < 3 → mi se i = σ.2.2.2.2 i
def StV (σ : St) : Prop := NR σ.1 σ.2.2.1 ∧ NR σ.2.1 σ.2.2.2.1 ∧ (0 ≤ σ.2.2.2.2 0 ∧ σ.2.2.2.2 0 ≤ 56) ∧ (0 ≤ σ.2.2.2.2 1 ∧ σ.2.2.2.2 1 ≤ 5) ∧ (1 ≤ σ.2.2.2.2 2 ∧ σ.2.2.2.2 2 ≤ 9)
def Sha (mr : MR) (s f fb g gb se : Nat) : Prop := (mr s 0 = some f ∧ mr s 1 = some g ∧ mr s 2 = some se) ∧ (SH[s]? = some (.inl 9) ∧ SH[f]? = some (.inl 7) ∧ SH[g]? = some (.inl 7)) ∧ (mr f 0 = some fb ∧ mr g 0 = some gb) ∧ (SH[fb]? = some (.inr (0, 28)) ∧ SH[gb]? = some (.inr (0, 28)) ∧ SH[se]? = some (.inr (0, 3)))
def Dis (f fb g gb se f2 fb2 g2 gb2 se2 : Nat) : Prop := (f ≠ fb ∧ f ≠ g ∧ f ≠ gb ∧ f ≠ se ∧ fb ≠ g ∧ fb ≠ gb ∧ fb ≠ se ∧ g ≠ gb ∧ g ≠ se ∧ gb ≠ se) ∧ (f ≠ f2 ∧ f ≠ fb2 ∧ f ≠ g2 ∧ f ≠ gb2 ∧ f ≠ se2) ∧ (fb ≠ f2 ∧ fb ≠ fb2 ∧ fb ≠ g2 ∧ fb ≠ gb2 ∧ fb ≠ se2) ∧ (g ≠ f2 ∧ g ≠ fb2 ∧ g ≠ g2 ∧ g ≠ gb2 ∧ g ≠ se2) ∧ (gb ≠ f2 ∧ gb ≠ fb2 ∧ gb ≠ g2 ∧ gb ≠ gb2 ∧ gb ≠ se2) ∧ (se ≠ f2 ∧ se ≠ fb2 ∧ se ≠ g2 ∧ se ≠ gb2 ∧ se ≠ se2)
section HISTORY
variable {mi : MI} {mr : MR}
set_option maxRecDepth 100000 in
theorem c_X9_swapRows {f g : Nat} (h1 : mr 1 0 = some f) (h2 : mr 1 1 = some g) (hf : f < 75) (hg : g < 75) : C0 yX9_swapRows cX9_swapRows 2 none 0 SH mi mr [vr 1] (fun mi' mr' => mi' = mi ∧ mr' = up2 (up2 mr 1 0 (some g)) 1 1 (some f)) := by
  refine Ct.ofV (ini := false) [some (vr 1), none] km_X9_swapRows (by decide) rfl (Nat.le_of_ble_eq_true rfl) ?_
  refine V_aload_n dX9_swapRows_0 rfl ?_
  refine V_getr 0 _ dX9_swapRows_1 fl_RX9_14 (by first | with_reducible assumption | rfl) rfl rfl (by first | with_reducible assumption | exact hG.at rfl) ?_
  refine S_astore_n (ls' := [_, _]) dX9_swapRows_4 ⟨Nat.le_of_ble_eq_true rfl, rfl, rfl⟩ rfl ?_
  refine V_aload_n dX9_swapRows_5 rfl ?_
  refine V_aload_n dX9_swapRows_6 rfl ?_
  refine V_getr 1 _ dX9_swapRows_7 fl_RX9_20 (by first | with_reducible assumption | rfl) rfl rfl (by first | with_reducible assumption | exact hG.at rfl) ?_
  refine V_putr 0 dX9_swapRows_10 fl_RX9_14 (by first | with_reducible assumption | rfl) rfl rfl rfl (by exact hg) ?_
  refine V_aload_n dX9_swapRows_13 rfl ?_
  refine V_aload_n dX9_swapRows_14 rfl ?_
  refine V_putr 1 dX9_swapRows_15 fl_RX9_20 (by first | with_reducible assumption | rfl) rfl rfl rfl (by exact hf) ?_
  refine V_vret dX9_swapRows_18 rfl ⟨Nat.le_of_ble_eq_true rfl, Nat.le_of_ble_eq_true rfl⟩ ?_
  exact ⟨rfl, rfl, rfl, rfl⟩
set_option maxRecDepth 100000 in
set_option maxHeartbeats 1000000 in
theorem c_X9_copyFrom {s f fb g gb se s2 f2 fb2 g2 gb2 se2 : Nat} {σ : St} (k : Sha mr s f fb g gb se) (k2 : Sha mr s2 f2 fb2 g2 gb2 se2) (hd : Dis f fb g gb se f2 fb2 g2 gb2 se2) (h2 : SIs mi f2 fb2 g2 gb2 se2 σ) (hv : StV σ) : C0 yX9_copyFrom cX9_copyFrom 3 none 2 SH mi mr [vr s, vr s2] (fun mi' mr' => mr' = mr ∧ SIs mi' f fb g gb se σ ∧ ∀ x, x ≠ f → x ≠ fb → x ≠ g → x ≠ gb → x ≠ se → mi' x = mi x) := by
  obtain ⟨⟨a1, a2, a3⟩, ⟨a4, a5, a6⟩, ⟨a7, a8⟩, ⟨a9, a10, a11⟩⟩ := k
  obtain ⟨⟨b1, b2, b3⟩, ⟨b4, b5, b6⟩, ⟨b7, b8⟩, ⟨b9, b10, b11⟩⟩ := k2
  obtain ⟨⟨d1, d2, d3, d4, d5, d6, d7, d8, d9, d10⟩, ⟨d11, d12, d13, d14, d15⟩, ⟨d21, d22, d23, d24, d25⟩, ⟨d31, d32, d33, d34, d35⟩, ⟨d41, d42, d43, d44, d45⟩, ⟨d51, d52, d53, d54, d55⟩⟩ := hd
  obtain ⟨s1, s3, s4, s5, s6⟩ := h2
  have hn := hv.1.1
  have hm := hv.2.1.1
  have loop : ∀ (mi1 : MI), (∀ i, 0 ≤ i → i < 3 → mi1 se2 i = σ.2.2.2.2 i) → ∀ (t : Nat) (j : Int) (mi' : MI), 0 ≤ j → j ≤ 3 → 3 - j < t → (∀ i, 0 ≤ i → i < j → mi' se i = σ.2.2.2.2 i) → (∀ x, x ≠ se → mi' x = mi1 x) → ∀ Q : PQ, (∀ mi' : MI, (∀ i, 0 ≤ i → i < 3 → mi' se i = σ.2.2.2.2 i) → (∀ x, x ≠ se → mi' x = mi1 x) → Q none SH mi' mr) → V (RX9, cX9_copyFrom, 3, rm 2, false, none, none) Q 0 0 SH mi' mr [some (vr s), some (vr s2), some (vi j)] [] 24 := by
    intro mi1 hz t
    induction t with
    | zero => intro j mi' h1 h2 h3; omega
    | succ t ih =>
      intro j mi' h1 h2 h3 h4 h5 Q hQ
      refine V_iload_n dX9_copyFrom_24 rfl ?_
      refine V_iconst dX9_copyFrom_25 ?_
      refine V_icmp_ge 47 dX9_copyFrom_26 (by decide) (by omega) (by omega) (fun h26 => ?_) (fun h26 => ?_)
      · refine V_vret dX9_copyFrom_47 rfl ⟨Nat.le_of_ble_eq_true rfl, Nat.le_of_ble_eq_true rfl⟩ ?_
        exact hQ mi' (fun i g1 g2 => h4 i g1 (by omega)) h5
      · refine V_aload_n dX9_copyFrom_29 rfl ?_
        refine V_getr 2 _ dX9_copyFrom_30 fl_RX9_23 (by first | with_reducible assumption | rfl) rfl rfl (by first | with_reducible assumption | exact hG.at rfl) ?_
        refine V_iload_n dX9_copyFrom_33 rfl ?_
        refine V_aload_n dX9_copyFrom_34 rfl ?_
        refine V_getr 2 _ dX9_copyFrom_35 fl_RX9_23 (by first | with_reducible assumption | rfl) rfl rfl (by first | with_reducible assumption | exact hG.at rfl) ?_
        refine V_iload_n dX9_copyFrom_38 rfl ?_
        refine V_iald dX9_copyFrom_39 (by first | with_reducible assumption | rfl) (by decide) (by omega) ?_
        refine V_iast dX9_copyFrom_40 (by first | with_reducible assumption | rfl) (by decide) (by omega) ?_
        refine S_iinc (ls' := [_, _, _]) dX9_copyFrom_41 rfl ⟨rfl, rfl⟩ rfl ?_
        refine V_goto 24 dX9_copyFrom_44 (by decide) ?_
        refine ih (j + 1) _ (by omega) (by omega) (by omega) (fun i g1 g2 => ?_) (fun x hx => by rw [up2_n mi' _ _ hx]; exact h5 x hx) Q hQ
        by_cases hi : i = j
        · subst hi
          rw [up2_ss, h5 se2 (Ne.symm d55), hz i g1 (by omega)]
        · rw [up2_sn mi' se _ hi]
          exact h4 i g1 (by omega)
  refine Ct.ofV (ini := false) [some (vr s), some (vr s2), none] km_X9_copyFrom (by decide) rfl (Nat.le_of_ble_eq_true rfl) ?_
  refine V_aload_n dX9_copyFrom_0 rfl ?_
  refine V_getr 0 _ dX9_copyFrom_1 fl_RX9_14 (by first | with_reducible assumption | rfl) rfl rfl (by first | with_reducible assumption | exact hG.at rfl) ?_
  refine V_aload_n dX9_copyFrom_4 rfl ?_
  refine V_getr 0 _ dX9_copyFrom_5 fl_RX9_14 (by first | with_reducible assumption | rfl) rfl rfl (by first | with_reducible assumption | exact hG.at rfl) ?_
  refine V_callV0 dX9_copyFrom_8 ml_RX9_30 km_X7_copyFrom kv_X7_copyFrom (c_X7_copyFrom a5 a7 a9 (by decide) b5 b7 b9 (by decide) ⟨d1, d11, d12, d21, d22⟩ (by omega)) (by first | with_reducible assumption | rfl) rfl rfl rfl (Nat.le_of_ble_eq_true rfl) ⟨Nat.le_of_ble_eq_true rfl, Nat.le_of_ble_eq_true rfl⟩ ⟨Nat.le_of_ble_eq_true rfl, Nat.le_of_ble_eq_true rfl⟩ ?_
  rintro mi1 mr1 ⟨rfl, p1, p2, p3⟩
  have e1 : mi1 g2 = mi g2 := p3 g2 (Ne.symm d13) (Ne.symm d23)
  have e2 : mi1 gb2 = mi gb2 := p3 gb2 (Ne.symm d14) (Ne.symm d24)
  refine V_aload_n dX9_copyFrom_11 rfl ?_
  refine V_getr 1 _ dX9_copyFrom_12 fl_RX9_20 (by first | with_reducible assumption | rfl) rfl rfl (by first | with_reducible assumption | exact hG.at rfl) ?_
  refine V_aload_n dX9_copyFrom_15 rfl ?_
  refine V_getr 1 _ dX9_copyFrom_16 fl_RX9_20 (by first | with_reducible assumption | rfl) rfl rfl (by first | with_reducible assumption | exact hG.at rfl) ?_
  refine V_callV0 dX9_copyFrom_19 ml_RX9_30 km_X7_copyFrom kv_X7_copyFrom (c_X7_copyFrom a6 a8 a10 (by decide) b6 b8 b10 (by decide) ⟨d8, d33, d34, d43, d44⟩ (by rw [e1]; omega)) (by first | with_reducible assumption | rfl) rfl rfl rfl (Nat.le_of_ble_eq_true rfl) ⟨Nat.le_of_ble_eq_true rfl, Nat.le_of_ble_eq_true rfl⟩ ⟨Nat.le_of_ble_eq_true rfl, Nat.le_of_ble_eq_true rfl⟩ ?_
  rintro mi2 mr2 ⟨rfl, q1, q2, q3⟩
  refine V_iconst dX9_copyFrom_22 ?_
  refine S_istore_n (ls' := [_, _, _]) dX9_copyFrom_23 ⟨Nat.le_of_ble_eq_true rfl, rfl, rfl⟩ rfl ?_
  refine loop mi2 (fun i g1 g2 => by rw [q3 se2 (Ne.symm d35) (Ne.symm d45), p3 se2 (Ne.symm d15) (Ne.symm d25)]; exact s6 i g1 g2) 4 0 mi2 (by omega) (by omega) (by omega) (fun i g1 g2 => by omega) (fun _ _ => rfl) _ (fun mi' r1 r2 => ⟨rfl, rfl, rfl, ⟨?_, ?_, ?_, ?_, r1⟩, fun x x1 x2 x3 x4 x5 => ?_⟩)
  · rw [r2 f d4, q3 f d2 d3, p1, s1]
  · rw [r2 g d9, q1, e1, s3]
  · intro i g1 g2
    rw [r2 fb d7, q3 fb d5 d6, p2 i g1 (by rw [s1]; exact g2)]
    exact s4 i g1 g2
  · intro i g1 g2
    rw [r2 gb d10, q2 i g1 (by rw [e1, s3]; exact g2), e2]
    exact s5 i g1 g2
  · rw [r2 x x5, q3 x x3 x4, p3 x x1 x2]
/-- where the states of the history are, in their order -/
def HiP (mr : MR) (P : Int → Nat) : Prop := (∀ i, 0 ≤ i → i < 4 → mr 8 i = some (P i) ∧ (P i = 9 ∨ P i = 15 ∨ P i = 21 ∨ P i = 27)) ∧ ∀ i j, 0 ≤ i → i < 4 → 0 ≤ j → j < 4 → P i = P j → i = j
def SHi (mi : MI) (p : Nat) (σ : St) : Prop := SIs mi (p + 1) (p + 2) (p + 3) (p + 4) (p + 5) σ
def Hist (mi : MI) (P : Int → Nat) (hs : List St) : Prop := mi 7 1 = hs.length ∧ hs.length ≤ 4 ∧ ∀ (i : Nat) (σ : St), hs[i]? = some σ → SHi mi (P i) σ ∧ StV σ
def rotP (P : Int → Nat) : Int → Nat := fun i => if i = 3 then P 0 else P (i + 1)
theorem HiP.sha {mr : MR} {P : Int → Nat} (hG : Gr mr) (h : HiP mr P) {i : Int} (h0 : 0 ≤ i) (h1 : i < 4) : Sha mr (P i) (P i + 1) (P i + 2) (P i + 3) (P i + 4) (P i + 5) := by
  have := (h.1 i h0 h1).2
  generalize P i = p at this
  rcases this with rfl | rfl | rfl | rfl <;> exact ⟨⟨hG.at rfl, hG.at rfl, hG.at rfl⟩, ⟨rfl, rfl, rfl⟩, ⟨hG.at rfl, hG.at rfl⟩, rfl, rfl, rfl⟩
theorem Now.sha {f fb g gb : Nat} {n m : Int} {A B : Int → Int} (h : Now mi mr f fb g gb n m A B) : Sha mr 1 f fb g gb 6 := by
  obtain ⟨⟨u1, u2, hG⟩, ⟨u4, u5, u6⟩, ⟨u7, u8, u9⟩, -⟩ := h.u
  exact ⟨⟨u1, u2, hG.at rfl⟩, ⟨rfl, u4, u7⟩, ⟨u5, u8⟩, u6, u9, rfl⟩
theorem HiP.rot {mr mr' : MR} {P : Int → Nat} (h : HiP mr P) (h0 : mr' 8 0 = some (P 1)) (h1 : mr' 8 1 = some (P 2)) (h2 : mr' 8 2 = some (P 3)) (h3 : mr' 8 3 = some (P 0)) : HiP mr' (rotP P) := by
  constructor
  · intro i g0 g1
    rcases (by omega : i = 0 ∨ i = 1 ∨ i = 2 ∨ i = 3) with rfl | rfl | rfl | rfl
    · exact ⟨h0, (h.1 1 (by omega) (by omega)).2⟩
    · exact ⟨h1, (h.1 2 (by omega) (by omega)).2⟩
    · exact ⟨h2, (h.1 3 (by omega) (by omega)).2⟩
    · exact ⟨h3, (h.1 0 (by omega) (by omega)).2⟩
  · intro i j g0 g1 g2 g3 he
    unfold rotP at he
    split at he <;> split at he
    · omega
    · have := h.2 _ _ (by omega) (by omega) (by omega) (by omega) he; omega
    · have := h.2 _ _ (by omega) (by omega) (by omega) (by omega) he; omega
    · have := h.2 _ _ (by omega) (by omega) (by omega) (by omega) he; omega
set_option maxRecDepth 100000 in
theorem c_X3_dropOldest {P : Int → Nat} (hG : Gr mr) (hP : HiP mr P) : C0 yX3_dropOldest cX3_dropOldest 3 none 0 SH mi mr [vr 7] (fun mi' mr' => mi' = up2 mi 7 1 3 ∧ HiP mr' (rotP P) ∧ ∀ x, x ≠ 8 → mr' x = mr x) := by
  have p0 := (hP.1 0 (by omega) (by omega)).1
  have p1 := (hP.1 1 (by omega) (by omega)).1
  have p2 := (hP.1 2 (by omega) (by omega)).1
  have p3 := (hP.1 3 (by omega) (by omega)).1
  have q0 := (hP.sha hG (i := 0) (by omega) (by omega)).2.1.1
  have q1 := (hP.sha hG (i := 1) (by omega) (by omega)).2.1.1
  have q2 := (hP.sha hG (i := 2) (by omega) (by omega)).2.1.1
  have q3 := (hP.sha hG (i := 3) (by omega) (by omega)).2.1.1
  have hg8 : mr 7 0 = some 8 := hG.at rfl
  refine Ct.ofV (ini := false) [some (vr 7), none, none] km_X3_dropOldest (by decide) rfl (Nat.le_of_ble_eq_true rfl) ?_
  refine V_aload_n dX3_dropOldest_0 rfl ?_
  refine V_getr 0 _ dX3_dropOldest_1 fl_RX3_11 (by first | with_reducible assumption | rfl) rfl rfl (by first | with_reducible assumption | (simp [up2, up1]; with_reducible assumption)) ?_
  refine V_iconst dX3_dropOldest_4 ?_
  refine V_aald dX3_dropOldest_5 (by first | with_reducible assumption | rfl) (by decide) (by omega) (by first | with_reducible assumption | (simp [up2, up1]; with_reducible assumption)) ?_
  refine S_astore_n (ls' := [_, _, _]) dX3_dropOldest_6 ⟨Nat.le_of_ble_eq_true rfl, rfl, rfl⟩ rfl ?_
  refine V_iconst dX3_dropOldest_7 ?_
  refine S_istore_n (ls' := [_, _, _]) dX3_dropOldest_8 ⟨Nat.le_of_ble_eq_true rfl, rfl, rfl⟩ rfl ?_
  refine V_iload_n dX3_dropOldest_9 rfl ?_
  refine V_iconst dX3_dropOldest_10 ?_
  refine V_icmp_ge 34 dX3_dropOldest_11 (by decide) (by omega) (by omega) (fun h11 => absurd h11 (by omega)) (fun _ => ?_)
  refine V_aload_n dX3_dropOldest_14 rfl ?_
  refine V_getr 0 _ dX3_dropOldest_15 fl_RX3_11 (by first | with_reducible assumption | rfl) rfl rfl (by first | with_reducible assumption | (simp [up2, up1]; with_reducible assumption)) ?_
  refine V_iload_n dX3_dropOldest_18 rfl ?_
  refine V_iconst dX3_dropOldest_19 ?_
  refine V_isub dX3_dropOldest_20 ?_
  refine V_aload_n dX3_dropOldest_21 rfl ?_
  refine V_getr 0 _ dX3_dropOldest_22 fl_RX3_11 (by first | with_reducible assumption | rfl) rfl rfl (by first | with_reducible assumption | (simp [up2, up1]; with_reducible assumption)) ?_
  refine V_iload_n dX3_dropOldest_25 rfl ?_
  refine V_aald dX3_dropOldest_26 (by first | with_reducible assumption | rfl) (by decide) (by omega) (by first | with_reducible assumption | (simp [up2, up1]; with_reducible assumption)) ?_
  refine V_aast dX3_dropOldest_27 (by first | with_reducible assumption | rfl) (by decide) (by omega) (by first | with_reducible assumption | rfl) ?_
  refine S_iinc (ls' := [_, _, _]) dX3_dropOldest_28 rfl ⟨rfl, rfl⟩ rfl ?_
  refine V_goto 9 dX3_dropOldest_31 (by decide) ?_
  refine V_iload_n dX3_dropOldest_9 rfl ?_
  refine V_iconst dX3_dropOldest_10 ?_
  refine V_icmp_ge 34 dX3_dropOldest_11 (by decide) (by omega) (by omega) (fun h11 => absurd h11 (by omega)) (fun _ => ?_)
  refine V_aload_n dX3_dropOldest_14 rfl ?_
  refine V_getr 0 _ dX3_dropOldest_15 fl_RX3_11 (by first | with_reducible assumption | rfl) rfl rfl (by first | with_reducible assumption | (simp [up2, up1]; with_reducible assumption)) ?_
  refine V_iload_n dX3_dropOldest_18 rfl ?_
  refine V_iconst dX3_dropOldest_19 ?_
  refine V_isub dX3_dropOldest_20 ?_
  refine V_aload_n dX3_dropOldest_21 rfl ?_
  refine V_getr 0 _ dX3_dropOldest_22 fl_RX3_11 (by first | with_reducible assumption | rfl) rfl rfl (by first | with_reducible assumption | (simp [up2, up1]; with_reducible assumption)) ?_
  refine V_iload_n dX3_dropOldest_25 rfl ?_
  refine V_aald dX3_dropOldest_26 (by first | with_reducible assumption | rfl) (by decide) (by omega) (by first | with_reducible assumption | (simp [up2, up1]; with_reducible assumption)) ?_
  refine V_aast dX3_dropOldest_27 (by first | with_reducible assumption | rfl) (by decide) (by omega) (by first | with_reducible assumption | rfl) ?_
  refine S_iinc (ls' := [_, _, _]) dX3_dropOldest_28 rfl ⟨rfl, rfl⟩ rfl ?_
  refine V_goto 9 dX3_dropOldest_31 (by decide) ?_
  refine V_iload_n dX3_dropOldest_9 rfl ?_
  refine V_iconst dX3_dropOldest_10 ?_
  refine V_icmp_ge 34 dX3_dropOldest_11 (by decide) (by omega) (by omega) (fun h11 => absurd h11 (by omega)) (fun _ => ?_)
  refine V_aload_n dX3_dropOldest_14 rfl ?_
  refine V_getr 0 _ dX3_dropOldest_15 fl_RX3_11 (by first | with_reducible assumption | rfl) rfl rfl (by first | with_reducible assumption | (simp [up2, up1]; with_reducible assumption)) ?_
  refine V_iload_n dX3_dropOldest_18 rfl ?_
  refine V_iconst dX3_dropOldest_19 ?_
  refine V_isub dX3_dropOldest_20 ?_
  refine V_aload_n dX3_dropOldest_21 rfl ?_
  refine V_getr 0 _ dX3_dropOldest_22 fl_RX3_11 (by first | with_reducible assumption | rfl) rfl rfl (by first | with_reducible assumption | (simp [up2, up1]; with_reducible assumption)) ?_
  refine V_iload_n dX3_dropOldest_25 rfl ?_
  refine V_aald dX3_dropOldest_26 (by first | with_reducible assumption | rfl) (by decide) (by omega) (by first | with_reducible assumption | (simp [up2, up1]; with_reducible assumption)) ?_
  refine V_aast dX3_dropOldest_27 (by first | with_reducible assumption | rfl) (by decide) (by omega) (by first | with_reducible assumption | rfl) ?_
  refine S_iinc (ls' := [_, _, _]) dX3_dropOldest_28 rfl ⟨rfl, rfl⟩ rfl ?_
  refine V_goto 9 dX3_dropOldest_31 (by decide) ?_
  refine V_iload_n dX3_dropOldest_9 rfl ?_
  refine V_iconst dX3_dropOldest_10 ?_
  refine V_icmp_ge 34 dX3_dropOldest_11 (by decide) (by omega) (by omega) (fun _ => ?_) (fun h11 => absurd h11 (by omega))
  refine V_aload_n dX3_dropOldest_34 rfl ?_
  refine V_getr 0 _ dX3_dropOldest_35 fl_RX3_11 (by first | with_reducible assumption | rfl) rfl rfl (by first | with_reducible assumption | (simp [up2, up1]; with_reducible assumption)) ?_
  refine V_iconst dX3_dropOldest_38 ?_
  refine V_aload_n dX3_dropOldest_39 rfl ?_
  refine V_aast dX3_dropOldest_40 (by first | with_reducible assumption | rfl) (by decide) (by omega) (by first | with_reducible assumption | rfl) ?_
  refine V_aload_n dX3_dropOldest_41 rfl ?_
  refine V_iconst dX3_dropOldest_42 ?_
  refine V_puti 1 dX3_dropOldest_43 fl_RX3_18 (by first | with_reducible assumption | rfl) rfl rfl rfl ?_
  refine V_vret dX3_dropOldest_46 rfl ⟨Nat.le_of_ble_eq_true rfl, Nat.le_of_ble_eq_true rfl⟩ ?_
  refine ⟨rfl, rfl, rfl, hP.rot ?_ ?_ ?_ ?_, fun x hx => ?_⟩ <;> simp [up2, up1, *]
theorem SIs.keep {mi mi' : MI} {f fb g gb se : Nat} {σ : St} (h : SIs mi f fb g gb se σ) (e : mi' f = mi f ∧ mi' fb = mi fb ∧ mi' g = mi g ∧ mi' gb = mi gb ∧ mi' se = mi se) : SIs mi' f fb g gb se σ := by
  obtain ⟨e1, e2, e3, e4, e5⟩ := e
  unfold SIs
  rw [e1, e2, e3, e4, e5]
  exact h
/-- the history behind one more record -/
def hpush (hs : List St) (σ : St) : List St := (if hs.length = 4 then hs.tail else hs) ++ [σ]
set_option maxRecDepth 100000 in
set_option maxHeartbeats 1000000 in
theorem l_X3_record {Q : PQ} {f fb g gb : Nat} {n m : Int} {A B Z : Int → Int} {P : Int → Nat} {hs : List St} (hN : Now mi mr f fb g gb n m A B) (hZ : ∀ i, 0 ≤ i → i < 3 → mi 6 i = Z i) (hv : StV (n, m, A, B, Z)) (hP : HiP mr P) (hH : Hist mi P hs) (hlt : hs.length < 4)
    (kk : ∀ mi' : MI, Hist mi' P (hs ++ [(n, m, A, B, Z)]) → (∀ x, (x < 7 ∨ 33 ≤ x) → mi' x = mi x) → Q none SH mi' mr) : V (RX3, cX3_record, 2, rm 3, false, none, none) Q 0 0 SH mi mr [some (vr 7), some (vr 1)] [] 12 := by
  have hG := hN.2.2.1
  obtain ⟨h1, h2, h3⟩ := hH
  have hk4 : (0 : Int) ≤ hs.length ∧ (hs.length : Int) < 4 := by omega
  obtain ⟨pk, pv⟩ := hP.1 hs.length hk4.1 hk4.2
  have sp := hP.sha hG hk4.1 hk4.2
  have sN := hN.sha
  have hin := hN.2.1
  have hdis : Dis (P hs.length + 1) (P hs.length + 2) (P hs.length + 3) (P hs.length + 4) (P hs.length + 5) f fb g gb 6 := by unfold Dis; omega
  have q9 := sp.2.1.1
  refine V_aload_n dX3_record_12 rfl ?_
  refine V_geti 1 dX3_record_13 fl_RX3_18 (by first | with_reducible assumption | rfl) rfl rfl ?_
  refine V_if_lt 50 dX3_record_16 (by decide) (by omega) (fun h16 => ?_) (fun h16 => ?_)
  · omega
  · refine V_aload_n dX3_record_19 rfl ?_
    refine V_geti 1 dX3_record_20 fl_RX3_18 (by first | with_reducible assumption | rfl) rfl rfl ?_
    refine V_iconst dX3_record_23 ?_
    refine V_icmp_ge 50 dX3_record_24 (by decide) (by omega) (by omega) (fun h24 => ?_) (fun h24 => ?_)
    · omega
    · refine V_aload_n dX3_record_27 rfl ?_
      refine V_getr 0 _ dX3_record_28 fl_RX3_11 (by first | with_reducible assumption | rfl) rfl rfl (by first | with_reducible assumption | exact hG.at rfl) ?_
      refine V_aload_n dX3_record_31 rfl ?_
      refine V_geti 1 dX3_record_32 fl_RX3_18 (by first | with_reducible assumption | rfl) rfl rfl ?_
      refine V_aald dX3_record_35 (by first | with_reducible assumption | rfl) (by decide) (by omega) (by first | (rw [h1]; exact pk) | exact hG.at rfl) ?_
      refine V_aload_n dX3_record_36 rfl ?_
      refine V_callV0 dX3_record_37 ml_RX3_25 km_X9_copyFrom kv_X9_copyFrom (c_X9_copyFrom (σ := (n, m, A, B, Z)) sp sN hdis ⟨hN.2.2.2.1.1, hN.2.2.2.1.2, hN.2.2.2.2.1, hN.2.2.2.2.2.1, hZ⟩ hv) (by first | with_reducible assumption | rfl) rfl rfl rfl (Nat.le_of_ble_eq_true rfl) ⟨Nat.le_of_ble_eq_true rfl, Nat.le_of_ble_eq_true rfl⟩ ⟨Nat.le_of_ble_eq_true rfl, Nat.le_of_ble_eq_true rfl⟩ ?_
      rintro mi1 mr1 ⟨rfl, r1, r2⟩
      have e7 : mi1 7 = mi 7 := r2 7 (by omega) (by omega) (by omega) (by omega) (by omega)
      refine V_aload_n dX3_record_40 rfl ?_
      refine V_dup dX3_record_41 rfl ?_
      refine V_geti 1 dX3_record_42 fl_RX3_18 (by first | with_reducible assumption | rfl) rfl rfl ?_
      rw [e7, h1]
      refine V_iconst dX3_record_45 ?_
      refine V_iadd dX3_record_46 ?_
      refine V_puti 1 dX3_record_47 fl_RX3_18 (by first | with_reducible assumption | rfl) rfl rfl rfl ?_
      refine V_vret dX3_record_50 rfl ⟨Nat.le_of_ble_eq_true rfl, Nat.le_of_ble_eq_true rfl⟩ ?_
      refine kk _ ⟨?_, ?_, fun i σ hi => ?_⟩ (fun x hx => ?_)
      · rw [up2_ss]; simp
      · simp; omega
      · by_cases hil : i < hs.length
        · rw [List.getElem?_append_left hil] at hi
          have hi4 := hP.1 i (by omega) (by omega)
          have hne : P i ≠ P hs.length := fun e => by have := hP.2 i hs.length (by omega) (by omega) (by omega) (by omega) e; omega
          refine ⟨(h3 i σ hi).1.keep ?_, (h3 i σ hi).2⟩
          refine ⟨?_, ?_, ?_, ?_, ?_⟩ <;> (rw [up2_n _ _ _ (by omega)]; exact r2 _ (by omega) (by omega) (by omega) (by omega) (by omega))
        · have hie : i = hs.length := by
            have := lt_of_get hi
            simp at this
            omega
          subst hie
          have : σ = (n, m, A, B, Z) := by simpa using hi.symm
          subst this
          refine ⟨r1.keep ?_, hv⟩
          refine ⟨?_, ?_, ?_, ?_, ?_⟩ <;> exact up2_n _ _ _ (by omega)
      · rw [up2_n _ _ _ (by omega)]; exact r2 x (by omega) (by omega) (by omega) (by omega) (by omega)
end HISTORY
end
section
section HISTORY2
variable {mi : MI} {mr : MR}
theorem Hist.drop {P : Int → Nat} {hs : List St} (hP : HiP mr P) (h : Hist mi P hs) (h4 : hs.length = 4) : Hist (up2 mi 7 1 3) (rotP P) hs.tail ∧ hs.tail.length = 3 := by
  have hl : hs.tail.length = 3 := by simp; omega
  refine ⟨⟨by rw [up2_ss, hl]; rfl, by omega, fun i σ hi => ?_⟩, hl⟩
  have hlt := lt_of_get hi
  have hi2 : hs[i + 1]? = some σ := by
    cases hs with
    | nil => simp at hi
    | cons a t => simpa using hi
  have h3 := h.2.2 (i + 1) σ hi2
  have e : rotP P i = P ((i + 1 : Nat) : Int) := by
    unfold rotP
    rw [if_neg (by omega)]
    rfl
  rw [e]
  have hv := (hP.1 ((i + 1 : Nat) : Int) (by omega) (by omega)).2
  refine ⟨h3.1.keep ?_, h3.2⟩
  refine ⟨?_, ?_, ?_, ?_, ?_⟩ <;> exact up2_n _ _ _ (by omega)
set_option maxRecDepth 100000 in
set_option maxHeartbeats 1000000 in
theorem c_X3_record {f fb g gb : Nat} {n m : Int} {A B Z : Int → Int} {P : Int → Nat} {hs : List St} (hN : Now mi mr f fb g gb n m A B) (hZ : ∀ i, 0 ≤ i → i < 3 → mi 6 i = Z i) (hv : StV (n, m, A, B, Z)) (hP : HiP mr P) (hH : Hist mi P hs) : C0 yX3_record cX3_record 2 none 3 SH mi mr [vr 7, vr 1] (fun mi' mr' => (∃ P', HiP mr' P' ∧ Hist mi' P' (hpush hs (n, m, A, B, Z))) ∧ (∀ x, (x < 7 ∨ 33 ≤ x) → mi' x = mi x) ∧ ∀ x, x ≠ 8 → mr' x = mr x) := by
  have hG := hN.2.2.1
  have h1 := hH.1
  have h2 := hH.2.1
  refine Ct.ofV (ini := false) [some (vr 7), some (vr 1)] km_X3_record (by decide) rfl (Nat.le_of_ble_eq_true rfl) ?_
  refine V_aload_n dX3_record_0 rfl ?_
  refine V_geti 1 dX3_record_1 fl_RX3_18 (by first | with_reducible assumption | rfl) rfl rfl ?_
  refine V_iconst dX3_record_4 ?_
  refine V_icmp_lt 12 dX3_record_5 (by decide) (by omega) (by omega) (fun h5 => ?_) (fun h5 => ?_)
  · refine l_X3_record hN hZ hv hP hH (by omega) (fun mi' k1 k2 => ?_)
    refine ⟨rfl, rfl, ⟨P, hP, ?_⟩, k2, fun _ _ => rfl⟩
    unfold hpush
    rw [if_neg (by omega)]
    exact k1
  · refine V_aload_n dX3_record_8 rfl ?_
    refine V_callV0 dX3_record_9 ml_RX3_22 km_X3_dropOldest kv_X3_dropOldest (c_X3_dropOldest hG hP) (by first | with_reducible assumption | rfl) rfl rfl rfl (Nat.le_of_ble_eq_true rfl) ⟨Nat.le_of_ble_eq_true rfl, Nat.le_of_ble_eq_true rfl⟩ ⟨Nat.le_of_ble_eq_true rfl, Nat.le_of_ble_eq_true rfl⟩ ?_
    rintro mi1 mr1 ⟨rfl, r1, r2⟩
    have h4 : hs.length = 4 := by omega
    obtain ⟨d1, d2⟩ := hH.drop hP h4
    have hG1 : Gr mr1 := fun a j b hq => by
      by_cases ha : a = 8
      · subst ha
        simp [grf, grL] at hq
      · rw [r2 a ha]; exact hG a j b hq
    have hN1 : Now (up2 mi 7 1 3) mr1 f fb g gb n m A B := by
      obtain ⟨g1, g2, g3, g4⟩ := hN.keep (mi' := up2 mi 7 1 3) (fun x x1 x2 => up2_n _ _ _ (by omega))
      exact ⟨by rw [r2 1 (by decide)]; exact g1, g2, hG1, g4⟩
    refine l_X3_record hN1 (fun i i1 i2 => by rw [up2_n _ _ _ (by decide)]; exact hZ i i1 i2) hv r1 d1 (by omega) (fun mi' k1 k2 => ?_)
    refine ⟨rfl, rfl, ⟨rotP P, r1, ?_⟩, fun x hx => by rw [k2 x hx, up2_n _ _ _ (by omega)], r2⟩
    unfold hpush
    rw [if_pos h4]
    exact k1
set_option maxRecDepth 100000 in
set_option maxHeartbeats 1000000 in
theorem c_X3_restoreTo {f fb g gb : Nat} {n m : Int} {A B : Int → Int} {P : Int → Nat} {hs : List St} {σ : St} (hN : Now mi mr f fb g gb n m A B) (hP : HiP mr P) (hH : Hist mi P (hs ++ [σ])) : C0 yX3_restoreTo cX3_restoreTo 2 none 3 SH mi mr [vr 7, vr 1] (fun mi' mr' => mr' = mr ∧ Hist mi' P hs ∧ SIs mi' f fb g gb 6 σ ∧ StV σ ∧ ∀ x, 8 ≤ x → mi' x = mi x) := by
  have hG := hN.2.2.1
  obtain ⟨h1, h2, h3⟩ := hH
  have hl : ((hs ++ [σ]).length : Int) = hs.length + 1 := by simp
  have hl2 : hs.length + 1 ≤ 4 := by simpa using h2
  rw [hl] at h1
  have hk4 : (0 : Int) ≤ hs.length ∧ (hs.length : Int) < 4 := by omega
  obtain ⟨pk, pv⟩ := hP.1 hs.length hk4.1 hk4.2
  have sp := hP.sha hG hk4.1 hk4.2
  have sN := hN.sha
  have hin := hN.2.1
  have hdis : Dis f fb g gb 6 (P hs.length + 1) (P hs.length + 2) (P hs.length + 3) (P hs.length + 4) (P hs.length + 5) := by unfold Dis; omega
  have hσ := h3 hs.length σ (by simp)
  have q9 := sp.2.1.1
  have h1e : mi 7 1 - 1 = hs.length := by omega
  have hσ1 : SIs (up2 mi 7 1 (hs.length : Int)) (P hs.length + 1) (P hs.length + 2) (P hs.length + 3) (P hs.length + 4) (P hs.length + 5) σ := hσ.1.keep (by refine ⟨?_, ?_, ?_, ?_, ?_⟩ <;> exact up2_n _ _ _ (by omega))
  refine Ct.ofV (ini := false) [some (vr 7), some (vr 1)] km_X3_restoreTo (by decide) rfl (Nat.le_of_ble_eq_true rfl) ?_
  refine V_aload_n dX3_restoreTo_0 rfl ?_
  refine V_geti 1 dX3_restoreTo_1 fl_RX3_18 (by first | with_reducible assumption | rfl) rfl rfl ?_
  refine V_if_le 38 dX3_restoreTo_4 (by decide) (by omega) (fun h4 => ?_) (fun h4 => ?_)
  · omega
  · refine V_aload_n dX3_restoreTo_7 rfl ?_
    refine V_geti 1 dX3_restoreTo_8 fl_RX3_18 (by first | with_reducible assumption | rfl) rfl rfl ?_
    refine V_iconst dX3_restoreTo_11 ?_
    refine V_icmp_gt 38 dX3_restoreTo_12 (by decide) (by omega) (by omega) (fun h12 => ?_) (fun h12 => ?_)
    · omega
    · refine V_aload_n dX3_restoreTo_15 rfl ?_
      refine V_dup dX3_restoreTo_16 rfl ?_
      refine V_geti 1 dX3_restoreTo_17 fl_RX3_18 (by first | with_reducible assumption | rfl) rfl rfl ?_
      refine V_iconst dX3_restoreTo_20 ?_
      refine V_isub dX3_restoreTo_21 ?_
      refine V_puti 1 dX3_restoreTo_22 fl_RX3_18 (by first | with_reducible assumption | rfl) rfl rfl rfl ?_
      refine V_aload_n dX3_restoreTo_25 rfl ?_
      refine V_aload_n dX3_restoreTo_26 rfl ?_
      refine V_getr 0 _ dX3_restoreTo_27 fl_RX3_11 (by first | with_reducible assumption | rfl) rfl rfl (by first | with_reducible assumption | exact hG.at rfl) ?_
      refine V_aload_n dX3_restoreTo_30 rfl ?_
      refine V_geti 1 dX3_restoreTo_31 fl_RX3_18 (by first | with_reducible assumption | rfl) rfl rfl ?_
      rw [up2_ss, h1e]
      refine V_aald dX3_restoreTo_34 (by first | with_reducible assumption | rfl) (by decide) (by omega) (by exact pk) ?_
      refine V_callV0 dX3_restoreTo_35 ml_RX3_25 km_X9_copyFrom kv_X9_copyFrom (c_X9_copyFrom (σ := σ) sN sp hdis hσ1 hσ.2) (by first | with_reducible assumption | rfl) rfl rfl rfl (Nat.le_of_ble_eq_true rfl) ⟨Nat.le_of_ble_eq_true rfl, Nat.le_of_ble_eq_true rfl⟩ ⟨Nat.le_of_ble_eq_true rfl, Nat.le_of_ble_eq_true rfl⟩ ?_
      rintro mi1 mr1 ⟨rfl, r1, r2⟩
      refine V_vret dX3_restoreTo_38 rfl ⟨Nat.le_of_ble_eq_true rfl, Nat.le_of_ble_eq_true rfl⟩ ?_
      refine ⟨rfl, rfl, rfl, ⟨?_, by omega, fun i τ hi => ?_⟩, r1, hσ.2, fun x hx => by rw [r2 x (by omega) (by omega) (by omega) (by omega) (by omega), up2_n _ _ _ (by omega)]⟩
      · rw [r2 7 (by omega) (by omega) (by omega) (by omega) (by omega), up2_ss]
      · have hlt := lt_of_get hi
        have hi4 := hP.1 i (by omega) (by omega)
        have h5 := h3 i τ (by rw [List.getElem?_append_left hlt]; exact hi)
        refine ⟨h5.1.keep ?_, h5.2⟩
        refine ⟨?_, ?_, ?_, ?_, ?_⟩ <;> (rw [r2 _ (by omega) (by omega) (by omega) (by omega) (by omega)]; exact up2_n _ _ _ (by omega))
end HISTORY2
end
section
/-! ===== DiagonalTexts$Reaches ===== -/
abbrev pl (d k : Int) : Int := d * (d + 1) / 2 + (d + k) / 2
def plc (d k : Int) : Int := if lat d k then pl d k else -1
def rch (mi : MI) (d k : Int) : Int := if lat d k then mi 36 (pl d k) else -1
theorem tri_r : ∀ n : Nat, n ≤ 56 → n * (n + 1) ≤ 3192 ∧ n * (n + 1) / 2 + n < 1653 := by decide +kernel
theorem tri_lt : ∀ a : Nat, a ≤ 56 → ∀ b : Nat, b ≤ 56 → a < b → a * (a + 1) / 2 + a < b * (b + 1) / 2 := by decide +kernel
theorem tri_i {d : Int} (h : 0 ≤ d ∧ d ≤ 56) : 0 ≤ d * (d + 1) ∧ d * (d + 1) ≤ 3192 ∧ 0 ≤ d * (d + 1) / 2 ∧ d * (d + 1) / 2 + d < 1653 := by
  obtain ⟨n, rfl⟩ := Int.eq_ofNat_of_zero_le h.1
  have h1 := tri_r n (by omega)
  have e : (n : Int) * ((n : Int) + 1) = ((n * (n + 1) : Nat) : Int) := by simp
  rw [e]
  omega
theorem pl_r {d k : Int} (h : lat d k) : 0 ≤ pl d k ∧ pl d k < 1653 := by
  have := tri_i ⟨h.1, h.2.1⟩
  unfold pl
  omega
theorem pl_inj {d k d' k' : Int} (h : lat d k) (h' : lat d' k') (he : pl d k = pl d' k') : d = d' ∧ k = k' := by
  have key : ∀ {d k d' k' : Int}, lat d k → lat d' k' → d < d' → pl d k < pl d' k' := by
    intro d k d' k' h h' hlt
    obtain ⟨a, ha⟩ := Int.eq_ofNat_of_zero_le h.1
    obtain ⟨b, hb⟩ := Int.eq_ofNat_of_zero_le h'.1
    have h1 := tri_lt a (by omega) b (by omega) (by omega)
    have e1 : d * (d + 1) / 2 = ((a * (a + 1) / 2 : Nat) : Int) := by rw [ha]; simp
    have e2 : d' * (d' + 1) / 2 = ((b * (b + 1) / 2 : Nat) : Int) := by rw [hb]; simp
    unfold pl
    rw [e1, e2]
    omega
  rcases Int.lt_trichotomy d d' with h1 | h1 | h1
  · have := key h h' h1; omega
  · subst h1
    unfold pl at he
    omega
  · have := key h' h h1; omega
section REACHES
variable {mi : MI} {mr : MR} {f fb g gb : Nat} {n m : Int} {A B : Int → Int}
set_option maxRecDepth 100000 in
theorem c_X5_placeOf {sh : ShT} {d k : Int} (hd : rng d) (hk : rng k) : CP yX5_placeOf cX5_placeOf 2 (some .int) 0 sh mi mr [vi d, vi k] (vi (plc d k)) := by
  refine Ct.ofV (ini := false) [some (vi d), some (vi k)] km_X5_placeOf (by decide) rfl (Nat.le_of_ble_eq_true rfl) ?_
  refine V_iload_n dX5_placeOf_0 rfl ?_
  refine V_if_lt 29 dX5_placeOf_1 (by decide) (by omega) (fun h1 => ?_) (fun h1 => ?_)
  · refine V_iconst dX5_placeOf_29 ?_
    refine V_iret dX5_placeOf_30 rfl ⟨Nat.le_of_ble_eq_true rfl, Nat.le_of_ble_eq_true rfl⟩ ?_
    exact ⟨rfl, svi (by unfold plc; rw [if_neg (by omega)]), rfl, rfl⟩
  · refine V_iload_n dX5_placeOf_4 rfl ?_
    refine V_bipush dX5_placeOf_5 (by decide) ?_
    refine V_icmp_gt 29 dX5_placeOf_7 (by decide) (by omega) (by omega) (fun h7 => ?_) (fun h7 => ?_)
    · refine V_iconst dX5_placeOf_29 ?_
      refine V_iret dX5_placeOf_30 rfl ⟨Nat.le_of_ble_eq_true rfl, Nat.le_of_ble_eq_true rfl⟩ ?_
      exact ⟨rfl, svi (by unfold plc; rw [if_neg (by omega)]), rfl, rfl⟩
    · refine V_iload_n dX5_placeOf_10 rfl ?_
      refine V_iload_n dX5_placeOf_11 rfl ?_
      refine V_ineg dX5_placeOf_12 ?_
      refine V_icmp_lt 29 dX5_placeOf_13 (by decide) (by omega) (by omega) (fun h13 => ?_) (fun h13 => ?_)
      · refine V_iconst dX5_placeOf_29 ?_
        refine V_iret dX5_placeOf_30 rfl ⟨Nat.le_of_ble_eq_true rfl, Nat.le_of_ble_eq_true rfl⟩ ?_
        exact ⟨rfl, svi (by unfold plc; rw [if_neg (by omega)]), rfl, rfl⟩
      · refine V_iload_n dX5_placeOf_16 rfl ?_
        refine V_iload_n dX5_placeOf_17 rfl ?_
        refine V_icmp_gt 29 dX5_placeOf_18 (by decide) (by omega) (by omega) (fun h18 => ?_) (fun h18 => ?_)
        · refine V_iconst dX5_placeOf_29 ?_
          refine V_iret dX5_placeOf_30 rfl ⟨Nat.le_of_ble_eq_true rfl, Nat.le_of_ble_eq_true rfl⟩ ?_
          exact ⟨rfl, svi (by unfold plc; rw [if_neg (by omega)]), rfl, rfl⟩
        · refine V_iload_n dX5_placeOf_21 rfl ?_
          refine V_iload_n dX5_placeOf_22 rfl ?_
          refine V_iadd dX5_placeOf_23 ?_
          refine V_iconst dX5_placeOf_24 ?_
          refine V_irem dX5_placeOf_25 (by omega) (by omega) ?_
          refine V_if_eq 31 dX5_placeOf_26 (by decide) (by omega) (fun h26 => ?_) (fun h26 => ?_)
          · have ht := tri_i (d := d) ⟨by omega, by omega⟩
            refine V_iload_n dX5_placeOf_31 rfl ?_
            refine V_iload_n dX5_placeOf_32 rfl ?_
            refine V_iconst dX5_placeOf_33 ?_
            refine V_iadd dX5_placeOf_34 ?_
            refine V_imul dX5_placeOf_35 ?_
            refine V_iconst dX5_placeOf_36 ?_
            refine V_idiv dX5_placeOf_37 (by omega) (by omega) ?_
            refine V_iload_n dX5_placeOf_38 rfl ?_
            refine V_iload_n dX5_placeOf_39 rfl ?_
            refine V_iadd dX5_placeOf_40 ?_
            refine V_iconst dX5_placeOf_41 ?_
            refine V_idiv dX5_placeOf_42 (by omega) (by omega) ?_
            refine V_iadd dX5_placeOf_43 ?_
            refine V_iret dX5_placeOf_44 rfl ⟨Nat.le_of_ble_eq_true rfl, Nat.le_of_ble_eq_true rfl⟩ ?_
            exact ⟨rfl, svi (by unfold plc; rw [if_pos ⟨by omega, by omega, by omega, by omega, by omega⟩]), rfl, rfl⟩
          · refine V_iconst dX5_placeOf_29 ?_
            refine V_iret dX5_placeOf_30 rfl ⟨Nat.le_of_ble_eq_true rfl, Nat.le_of_ble_eq_true rfl⟩ ?_
            exact ⟨rfl, svi (by unfold plc; rw [if_neg (by omega)]), rfl, rfl⟩
set_option maxRecDepth 100000 in
theorem c_X5_at {d k : Int} (hG : Gr mr) (hd : rng d) (hk : rng k) : CP yX5_at cX5_at 4 (some .int) 1 SH mi mr [vr 35, vi d, vi k] (vi (rch mi d k)) := by
  have hp : lat d k → 0 ≤ pl d k ∧ pl d k < 1653 := pl_r
  have hc : plc d k = -1 ∧ ¬ lat d k ∨ lat d k ∧ plc d k = pl d k := by
    unfold plc
    by_cases h : lat d k
    · right; exact ⟨h, if_pos h⟩
    · left; exact ⟨if_neg h, h⟩
  have hpr : -1 ≤ plc d k ∧ plc d k < 1653 := by
    rcases hc with h | h
    · omega
    · have := hp h.1; omega
  refine Ct.ofV (ini := false) [some (vr 35), some (vi d), some (vi k), none] km_X5_at (by decide) rfl (Nat.le_of_ble_eq_true rfl) ?_
  refine V_iload_n dX5_at_0 rfl ?_
  refine V_iload_n dX5_at_1 rfl ?_
  refine V_callSP dX5_at_2 ml_RX5_47 km_X5_placeOf ks_X5_placeOf (c_X5_placeOf hd hk) rfl rfl (Nat.le_of_ble_eq_true rfl) ⟨Nat.le_of_ble_eq_true rfl, Nat.le_of_ble_eq_true rfl⟩ ⟨Nat.le_of_ble_eq_true rfl, Nat.le_of_ble_eq_true rfl⟩ ?_
  refine S_istore_n (ls' := [_, _, _, _]) dX5_at_5 ⟨Nat.le_of_ble_eq_true rfl, rfl, rfl⟩ rfl ?_
  refine V_iload_n dX5_at_6 rfl ?_
  refine V_iconst dX5_at_7 ?_
  refine V_icmp_ne 15 dX5_at_8 (by decide) (by omega) (by omega) (fun h8 => ?_) (fun h8 => ?_)
  · refine V_aload_n dX5_at_15 rfl ?_
    refine V_getr 0 _ dX5_at_16 fl_RX5_9 (by first | with_reducible assumption | rfl) rfl rfl (by first | with_reducible assumption | exact hG.at rfl) ?_
    refine V_iload_n dX5_at_19 rfl ?_
    refine V_iald dX5_at_20 (by first | with_reducible assumption | rfl) (by decide) (by omega) ?_
    refine V_iret dX5_at_21 rfl ⟨Nat.le_of_ble_eq_true rfl, Nat.le_of_ble_eq_true rfl⟩ ?_
    refine ⟨rfl, svi ?_, rfl, rfl⟩
    unfold rch
    first | (rw [if_pos (by rcases hc with h | h; omega; exact h.1)]; congr 1; rcases hc with h | h; omega; exact h.2) | (rw [if_neg (by rcases hc with h | h; exact h.2; exact absurd (hp h.1) (by omega))])
  · refine V_iconst dX5_at_11 ?_
    refine V_goto 21 dX5_at_12 (by decide) ?_
    refine V_iret dX5_at_21 rfl ⟨Nat.le_of_ble_eq_true rfl, Nat.le_of_ble_eq_true rfl⟩ ?_
    refine ⟨rfl, svi ?_, rfl, rfl⟩
    unfold rch
    first | (rw [if_pos (by rcases hc with h | h; omega; exact h.1)]; congr 1; rcases hc with h | h; omega; exact h.2) | (rw [if_neg (by rcases hc with h | h; exact h.2; exact absurd (hp h.1) (by omega))])
set_option maxRecDepth 100000 in
theorem c_X5_put {d k v : Int} (hG : Gr mr) (hd : rng d) (hk : rng k) : C0 yX5_put cX5_put 5 none 1 SH mi mr [vr 35, vi d, vi k, vi v] (fun mi' mr' => mr' = mr ∧ mi' = if lat d k then up2 mi 36 (pl d k) v else mi) := by
  have hp : lat d k → 0 ≤ pl d k ∧ pl d k < 1653 := pl_r
  have hc : plc d k = -1 ∧ ¬ lat d k ∨ lat d k ∧ plc d k = pl d k := by
    unfold plc
    by_cases h : lat d k
    · right; exact ⟨h, if_pos h⟩
    · left; exact ⟨if_neg h, h⟩
  have hpr : -1 ≤ plc d k ∧ plc d k < 1653 := by
    rcases hc with h | h
    · omega
    · have := hp h.1; omega
  refine Ct.ofV (ini := false) [some (vr 35), some (vi d), some (vi k), some (vi v), none] km_X5_put (by decide) rfl (Nat.le_of_ble_eq_true rfl) ?_
  refine V_iload_n dX5_put_0 rfl ?_
  refine V_iload_n dX5_put_1 rfl ?_
  refine V_callSP dX5_put_2 ml_RX5_47 km_X5_placeOf ks_X5_placeOf (c_X5_placeOf hd hk) rfl rfl (Nat.le_of_ble_eq_true rfl) ⟨Nat.le_of_ble_eq_true rfl, Nat.le_of_ble_eq_true rfl⟩ ⟨Nat.le_of_ble_eq_true rfl, Nat.le_of_ble_eq_true rfl⟩ ?_
  refine S_istore (ls' := [_, _, _, _, _]) dX5_put_5 ⟨Nat.le_of_ble_eq_true rfl, rfl, rfl⟩ rfl ?_
  refine V_iload dX5_put_7 rfl ?_
  refine V_iconst dX5_put_9 ?_
  refine V_icmp_eq 21 dX5_put_10 (by decide) (by omega) (by omega) (fun h10 => ?_) (fun h10 => ?_)
  · refine V_vret dX5_put_21 rfl ⟨Nat.le_of_ble_eq_true rfl, Nat.le_of_ble_eq_true rfl⟩ ?_
    refine ⟨rfl, rfl, rfl, ?_⟩
    first | (rw [if_neg (by rcases hc with h | h; exact h.2; exact absurd (hp h.1) (by omega))]; done) | (rcases hc with h | h; exact absurd h.1 (by omega); rw [if_pos h.1, h.2])
  · refine V_aload_n dX5_put_13 rfl ?_
    refine V_getr 0 _ dX5_put_14 fl_RX5_9 (by first | with_reducible assumption | rfl) rfl rfl (by first | with_reducible assumption | exact hG.at rfl) ?_
    refine V_iload dX5_put_17 rfl ?_
    refine V_iload_n dX5_put_19 rfl ?_
    refine V_iast dX5_put_20 (by first | with_reducible assumption | rfl) (by decide) (by omega) ?_
    refine V_vret dX5_put_21 rfl ⟨Nat.le_of_ble_eq_true rfl, Nat.le_of_ble_eq_true rfl⟩ ?_
    refine ⟨rfl, rfl, rfl, ?_⟩
    first | (rw [if_neg (by rcases hc with h | h; exact h.2; exact absurd (hp h.1) (by omega))]; done) | (rcases hc with h | h; exact absurd h.1 (by omega); rw [if_pos h.1, h.2])
set_option maxRecDepth 100000 in
theorem c_X5_beginOf {d k : Int} (hG : Gr mr) (hd : -1000 ≤ d ∧ d ≤ 1000) (hk : -1000 ≤ k ∧ k ≤ 1000) (h1 : -10 ≤ rch mi (d - 1) (k - 1) ∧ rch mi (d - 1) (k - 1) ≤ 1000) (h2 : -10 ≤ rch mi (d - 1) (k + 1) ∧ rch mi (d - 1) (k + 1) ≤ 1000) : CP yX5_beginOf cX5_beginOf 3 (some .int) 2 SH mi mr [vr 35, vi d, vi k] (vi (if d ≤ 0 then 0 else max (rch mi (d - 1) (k - 1) + 1) (rch mi (d - 1) (k + 1)))) := by
  refine Ct.ofV (ini := false) [some (vr 35), some (vi d), some (vi k)] km_X5_beginOf (by decide) rfl (Nat.le_of_ble_eq_true rfl) ?_
  refine V_iload_n dX5_beginOf_0 rfl ?_
  refine V_if_gt 6 dX5_beginOf_1 (by decide) (by omega) (fun h1 => ?_) (fun h1 => ?_)
  · refine V_aload_n dX5_beginOf_6 rfl ?_
    refine V_iload_n dX5_beginOf_7 rfl ?_
    refine V_iconst dX5_beginOf_8 ?_
    refine V_isub dX5_beginOf_9 ?_
    refine V_iload_n dX5_beginOf_10 rfl ?_
    refine V_iconst dX5_beginOf_11 ?_
    refine V_isub dX5_beginOf_12 ?_
    refine V_callVP dX5_beginOf_13 ml_RX5_44 km_X5_at kv_X5_at (c_X5_at (d := d - 1) (k := k - 1) hG (by omega) (by omega)) (by first | with_reducible assumption | rfl) rfl rfl rfl (Nat.le_of_ble_eq_true rfl) ⟨Nat.le_of_ble_eq_true rfl, Nat.le_of_ble_eq_true rfl⟩ ⟨Nat.le_of_ble_eq_true rfl, Nat.le_of_ble_eq_true rfl⟩ ?_
    refine V_iconst dX5_beginOf_16 ?_
    refine V_iadd dX5_beginOf_17 ?_
    refine V_aload_n dX5_beginOf_18 rfl ?_
    refine V_iload_n dX5_beginOf_19 rfl ?_
    refine V_iconst dX5_beginOf_20 ?_
    refine V_isub dX5_beginOf_21 ?_
    refine V_iload_n dX5_beginOf_22 rfl ?_
    refine V_iconst dX5_beginOf_23 ?_
    refine V_iadd dX5_beginOf_24 ?_
    refine V_callVP dX5_beginOf_25 ml_RX5_44 km_X5_at kv_X5_at (c_X5_at (d := d - 1) (k := k + 1) hG (by omega) (by omega)) (by first | with_reducible assumption | rfl) rfl rfl rfl (Nat.le_of_ble_eq_true rfl) ⟨Nat.le_of_ble_eq_true rfl, Nat.le_of_ble_eq_true rfl⟩ ⟨Nat.le_of_ble_eq_true rfl, Nat.le_of_ble_eq_true rfl⟩ ?_
    refine V_mmax dX5_beginOf_28 ml_RX5_50 (by omega) (by omega) ⟨Nat.le_of_ble_eq_true rfl, Nat.le_of_ble_eq_true rfl, Nat.le_of_ble_eq_true rfl, Nat.le_of_ble_eq_true rfl⟩ ?_
    refine V_iret dX5_beginOf_31 rfl ⟨Nat.le_of_ble_eq_true rfl, Nat.le_of_ble_eq_true rfl⟩ ?_
    exact ⟨rfl, svi (by split <;> first | rfl | (exfalso; omega)), rfl, rfl⟩
  · refine V_iconst dX5_beginOf_4 ?_
    refine V_iret dX5_beginOf_5 rfl ⟨Nat.le_of_ble_eq_true rfl, Nat.le_of_ble_eq_true rfl⟩ ?_
    exact ⟨rfl, svi (by split <;> first | rfl | (exfalso; omega)), rfl, rfl⟩
set_option maxRecDepth 100000 in
theorem c_X5_isPutIn {d k : Int} (hG : Gr mr) (hd : -1000 ≤ d ∧ d ≤ 1000) (hk : -1000 ≤ k ∧ k ≤ 1000) (h1 : -10 ≤ rch mi (d - 1) (k - 1) ∧ rch mi (d - 1) (k - 1) ≤ 1000) (h2 : -10 ≤ rch mi (d - 1) (k + 1) ∧ rch mi (d - 1) (k + 1) ≤ 1000) : CP yX5_isPutIn cX5_isPutIn 3 (some .boolean) 2 SH mi mr [vr 35, vi d, vi k] (vi (if rch mi (d - 1) (k - 1) < rch mi (d - 1) (k + 1) then 1 else 0)) := by
  refine Ct.ofV (ini := false) [some (vr 35), some (vi d), some (vi k)] km_X5_isPutIn (by decide) rfl (Nat.le_of_ble_eq_true rfl) ?_
  refine V_aload_n dX5_isPutIn_0 rfl ?_
  refine V_iload_n dX5_isPutIn_1 rfl ?_
  refine V_iconst dX5_isPutIn_2 ?_
  refine V_isub dX5_isPutIn_3 ?_
  refine V_iload_n dX5_isPutIn_4 rfl ?_
  refine V_iconst dX5_isPutIn_5 ?_
  refine V_isub dX5_isPutIn_6 ?_
  refine V_callVP dX5_isPutIn_7 ml_RX5_44 km_X5_at kv_X5_at (c_X5_at (d := d - 1) (k := k - 1) hG (by omega) (by omega)) (by first | with_reducible assumption | rfl) rfl rfl rfl (Nat.le_of_ble_eq_true rfl) ⟨Nat.le_of_ble_eq_true rfl, Nat.le_of_ble_eq_true rfl⟩ ⟨Nat.le_of_ble_eq_true rfl, Nat.le_of_ble_eq_true rfl⟩ ?_
  refine V_aload_n dX5_isPutIn_10 rfl ?_
  refine V_iload_n dX5_isPutIn_11 rfl ?_
  refine V_iconst dX5_isPutIn_12 ?_
  refine V_isub dX5_isPutIn_13 ?_
  refine V_iload_n dX5_isPutIn_14 rfl ?_
  refine V_iconst dX5_isPutIn_15 ?_
  refine V_iadd dX5_isPutIn_16 ?_
  refine V_callVP dX5_isPutIn_17 ml_RX5_44 km_X5_at kv_X5_at (c_X5_at (d := d - 1) (k := k + 1) hG (by omega) (by omega)) (by first | with_reducible assumption | rfl) rfl rfl rfl (Nat.le_of_ble_eq_true rfl) ⟨Nat.le_of_ble_eq_true rfl, Nat.le_of_ble_eq_true rfl⟩ ⟨Nat.le_of_ble_eq_true rfl, Nat.le_of_ble_eq_true rfl⟩ ?_
  refine V_icmp_ge 27 dX5_isPutIn_20 (by decide) (by omega) (by omega) (fun h20 => ?_) (fun h20 => ?_)
  · refine V_iconst dX5_isPutIn_27 ?_
    refine V_zret dX5_isPutIn_28 rfl ⟨Nat.le_of_ble_eq_true rfl, Nat.le_of_ble_eq_true rfl⟩ (by first | exact Or.inl rfl | exact Or.inr rfl | omega) ?_
    exact ⟨rfl, svi (by split <;> first | rfl | (exfalso; omega)), rfl, rfl⟩
  · refine V_iconst dX5_isPutIn_23 ?_
    refine V_goto 28 dX5_isPutIn_24 (by decide) ?_
    refine V_zret dX5_isPutIn_28 rfl ⟨Nat.le_of_ble_eq_true rfl, Nat.le_of_ble_eq_true rfl⟩ (by first | exact Or.inl rfl | exact Or.inr rfl | omega) ?_
    exact ⟨rfl, svi (by split <;> first | rfl | (exfalso; omega)), rfl, rfl⟩
/-- what the triangle holds up to so many edits, and of the next ones up to a diagonal -/
def Rch (mi : MI) (A B : Int → Int) (d kk : Int) : Prop := ∀ d' k', lat d' k' → (d' < d ∨ (d' = d ∧ k' < kk)) → mi 36 (pl d' k') = fI A B d' k'
theorem rch_eq {A B : Int → Int} {d kk : Int} (h : Rch mi A B d kk) (d' k' : Int) (hd : d' < d) : rch mi d' k' = if lat d' k' then fI A B d' k' else -1 := by
  unfold rch
  by_cases hl : lat d' k'
  · rw [if_pos hl, if_pos hl, h d' k' hl (Or.inl hd)]
  · rw [if_neg hl, if_neg hl]
theorem rch_r (hA : NR n A) (hB : NR m B) {d kk : Int} (h : Rch mi A B d kk) (d' k' : Int) (hd : d' < d) : -1 ≤ rch mi d' k' ∧ rch mi d' k' ≤ 84 := by
  rw [rch_eq h d' k' hd]
  split
  · rename_i hl
    have := fI_rr hA hB d' k' hl.1
    omega
  · omega
/-- the greater of both is where one stands -/
theorem rch_begin (hA : NR n A) (hB : NR m B) {d kk k : Int} (h : Rch mi A B d kk) (hl : lat d k) : (if d ≤ 0 then 0 else max (rch mi (d - 1) (k - 1) + 1) (rch mi (d - 1) (k + 1))) = bI A B d k := by
  by_cases h0 : d ≤ 0
  · rw [if_pos h0]; unfold bI; rw [if_pos h0]
  · rw [if_neg h0, bI_pos (by omega), rch_eq h (d - 1) (k - 1) (by omega), rch_eq h (d - 1) (k + 1) (by omega)]
    have h1 := fI_rr hA hB (d - 1) (k - 1) (by omega)
    have h2 := fI_rr hA hB (d - 1) (k + 1) (by omega)
    by_cases e1 : k = -d
    · rw [if_neg (by omega), if_pos (by omega), if_pos (Or.inl e1)]; omega
    · by_cases e2 : k = d
      · rw [if_pos (by omega), if_neg (by omega), if_neg (by omega)]; omega
      · rw [if_pos (by omega), if_pos (by omega)]
        split <;> omega
theorem rch_put (hA : NR n A) (hB : NR m B) {d kk k : Int} (h : Rch mi A B d kk) (hl : lat d k) (h0 : 0 < d) : rch mi (d - 1) (k - 1) < rch mi (d - 1) (k + 1) ↔ (k = -d ∨ (k ≠ d ∧ fI A B (d - 1) (k - 1) < fI A B (d - 1) (k + 1))) := by
  rw [rch_eq h (d - 1) (k - 1) (by omega), rch_eq h (d - 1) (k + 1) (by omega)]
  have h1 := fI_rr hA hB (d - 1) (k - 1) (by omega)
  have h2 := fI_rr hA hB (d - 1) (k + 1) (by omega)
  by_cases e1 : k = -d
  · rw [if_neg (by omega), if_pos (by omega)]; omega
  · by_cases e2 : k = d
    · rw [if_pos (by omega), if_neg (by omega)]; omega
    · rw [if_pos (by omega), if_pos (by omega)]; omega
set_option maxRecDepth 100000 in
set_option maxHeartbeats 1000000 in
theorem l_X5_find {Q : PQ} (hA : NR n A) (hB : NR m B) (d : Int) (hd : 0 ≤ d ∧ d ≤ 56) (o5 : Option AV)
    (kk : ∀ (mi' : MI) (o4 o5 : Option AV), Rch mi' A B (d + 1) (-(d + 1)) → Now mi' mr f fb g gb n m A B → mi' 35 1 = d → (∀ x, x ≠ 35 → x ≠ 36 → mi' x = mi x) → V (RX5, cX5_find, 6, rm 3, false, none, none) Q 0 0 SH mi' mr [some (vr 35), some (vr 1), some (vi (n - m)), some (vi d), o4, o5] [] 75) :
    ∀ (t : Nat) (k : Int) (mi' : MI) (o5 : Option AV), -d ≤ k → (d + k) % 2 = 0 → k ≤ d + 2 → d + 2 - k < t → Rch mi' A B d k → Now mi' mr f fb g gb n m A B → mi' 35 1 = d → (∀ x, x ≠ 35 → x ≠ 36 → mi' x = mi x) → V (RX5, cX5_find, 6, rm 3, false, none, none) Q 0 0 SH mi' mr [some (vr 35), some (vr 1), some (vi (n - m)), some (vi d), some (vi k), o5] [] 33 := by
  intro t
  induction t with
  | zero => intro k mi' o5 h1 h2 h3 h4; omega
  | succ t ih =>
    intro k mi' o5 h1 h2 h3 h4 h5 h6 h7 h8
    have hG := h6.2.2.1
    have r1 := fun d' k' hd => rch_r hA hB h5 d' k' hd
    have r2 := r1 (d - 1) (k - 1) (by omega)
    have r3 := r1 (d - 1) (k + 1) (by omega)
    refine V_iload dX5_find_33 rfl ?_
    refine V_iload_n dX5_find_35 rfl ?_
    refine V_icmp_gt 75 dX5_find_36 (by decide) (by omega) (by omega) (fun h36 => ?_) (fun h36 => ?_)
    · refine kk mi' _ _ (fun d' k' hl hd' => ?_) h6 h7 h8
      exact h5 d' k' hl (by omega)
    · refine V_aload_n dX5_find_39 rfl ?_
      refine V_iload_n dX5_find_40 rfl ?_
      refine V_iload dX5_find_41 rfl ?_
      refine V_callVP dX5_find_43 ml_RX5_33 km_X5_beginOf kv_X5_beginOf (c_X5_beginOf (d := d) (k := k) hG (by omega) (by omega) (by omega) (by omega)) (by first | with_reducible assumption | rfl) rfl rfl rfl (Nat.le_of_ble_eq_true rfl) ⟨Nat.le_of_ble_eq_true rfl, Nat.le_of_ble_eq_true rfl⟩ ⟨Nat.le_of_ble_eq_true rfl, Nat.le_of_ble_eq_true rfl⟩ ?_
      have hl : lat d k := ⟨by omega, by omega, by omega, by omega, h2⟩
      rw [rch_begin hA hB h5 hl]
      have hb := bI_rr hA hB d k (by omega)
      refine S_istore (ls' := [_, _, _, _, _, _]) dX5_find_46 ⟨Nat.le_of_ble_eq_true rfl, rfl, rfl⟩ rfl ?_
      refine V_aload_n dX5_find_48 rfl ?_
      refine V_iload_n dX5_find_49 rfl ?_
      refine V_iload dX5_find_50 rfl ?_
      refine V_iload dX5_find_52 rfl ?_
      refine V_aload_n dX5_find_54 rfl ?_
      refine V_iload dX5_find_55 rfl ?_
      refine V_iload dX5_find_57 rfl ?_
      refine V_iload dX5_find_59 rfl ?_
      refine V_isub dX5_find_61 ?_
      refine V_callVP dX5_find_62 ml_RX5_37 km_X9_alikeFrom kv_X9_alikeFrom (c_X9_alikeFrom (x := bI A B d k) (y := bI A B d k - k) h6 (by omega) (by omega)) (by first | with_reducible assumption | rfl) rfl rfl rfl (Nat.le_of_ble_eq_true rfl) ⟨Nat.le_of_ble_eq_true rfl, Nat.le_of_ble_eq_true rfl⟩ ⟨Nat.le_of_ble_eq_true rfl, Nat.le_of_ble_eq_true rfl⟩ ?_
      refine V_iadd dX5_find_65 ?_
      refine V_callV0 dX5_find_66 ml_RX5_40 km_X5_put kv_X5_put (c_X5_put (d := d) (k := k) hG (by omega) (by omega)) (by first | with_reducible assumption | rfl) rfl rfl rfl (Nat.le_of_ble_eq_true rfl) ⟨Nat.le_of_ble_eq_true rfl, Nat.le_of_ble_eq_true rfl⟩ ⟨Nat.le_of_ble_eq_true rfl, Nat.le_of_ble_eq_true rfl⟩ ?_
      rintro mi2 mr2 ⟨rfl, rfl⟩
      rw [if_pos hl, ← fI_eq]
      refine S_iinc (ls' := [_, _, _, _, _, _]) dX5_find_69 rfl ⟨rfl, rfl⟩ rfl ?_
      refine V_goto 33 dX5_find_72 (by decide) ?_
      refine ih (k + 2) _ _ (by omega) (by omega) (by omega) (by omega) (fun d' k' hl' hd' => ?_) (h6.keep (fun x x1 x2 => up2_n _ _ _ (by omega))) (by rw [up2_n _ _ _ (by decide)]; exact h7) (fun x x1 x2 => by rw [up2_n _ _ _ x2]; exact h8 x x1 x2)
      by_cases he : d' = d ∧ k' = k
      · obtain ⟨rfl, rfl⟩ := he
        rw [up2_ss]
      · have hne : pl d' k' ≠ pl d k := fun e => he (pl_inj hl' hl e)
        rw [up2_sn _ _ _ hne]
        exact h5 d' k' hl' (by omega)
set_option maxRecDepth 100000 in
set_option maxHeartbeats 1000000 in
theorem c_X5_find {D : Int} (hN : Now mi mr f fb g gb n m A B) (hD : isD n m A B D) : C0 yX5_find cX5_find 6 none 3 SH mi mr [vr 35, vr 1] (fun mi' mr' => mr' = mr ∧ mi' 35 1 = D ∧ Rch mi' A B (D + 1) (-(D + 1)) ∧ ∀ x, x ≠ 35 → x ≠ 36 → mi' x = mi x) := by
  have hA := hN.2.2.2.2.2.2.1
  have hB := hN.2.2.2.2.2.2.2
  have hnn := isD_nn hD
  obtain ⟨⟨u1, u2, hG⟩, ⟨u4, u5, u6⟩, ⟨u7, u8, u9⟩, ⟨u10, u11, u12⟩, -⟩ := hN.u
  have loop : ∀ (t : Nat) (d : Int) (mi' : MI) (o4 o5 : Option AV), 0 ≤ d → d ≤ D → D - d < t → Rch mi' A B d (-d) → Now mi' mr f fb g gb n m A B → (∀ x, x ≠ 35 → x ≠ 36 → mi' x = mi x) → V (RX5, cX5_find, 6, rm 3, false, none, none) (fun r sh' mi' mr' => sh' = SH ∧ r = none ∧ mr' = mr ∧ mi' 35 1 = D ∧ Rch mi' A B (D + 1) (-(D + 1)) ∧ ∀ x, x ≠ 35 → x ≠ 36 → mi' x = mi x) 0 0 SH mi' mr [some (vr 35), some (vr 1), some (vi (n - m)), some (vi d), o4, o5] [] 18 := by
    intro t
    induction t with
    | zero => intro d mi' o4 o5 h1 h2 h3; omega
    | succ t ih =>
      intro d mi' o4 o5 h1 h2 h3 h4 h5 h6
      refine V_iload_n dX5_find_18 rfl ?_
      refine V_bipush dX5_find_19 (by decide) ?_
      refine V_icmp_gt 98 dX5_find_21 (by decide) (by omega) (by omega) (fun h21 => ?_) (fun h21 => ?_)
      · omega
      · refine V_aload_n dX5_find_24 rfl ?_
        refine V_iload_n dX5_find_25 rfl ?_
        refine V_puti 1 dX5_find_26 fl_RX5_30 (by first | with_reducible assumption | rfl) rfl rfl rfl ?_
        refine V_iload_n dX5_find_29 rfl ?_
        refine V_ineg dX5_find_30 ?_
        refine S_istore (ls' := [_, _, _, _, _, _]) dX5_find_31 ⟨Nat.le_of_ble_eq_true rfl, rfl, rfl⟩ rfl ?_
        refine l_X5_find (mi := mi) hA hB d (by omega) o5 (fun mi2 o4 o5 g1 g2 g3 g4 => ?_) (2 * d + 3).toNat (-d) _ o5 (by omega) (by omega) (by omega) (by omega) (fun d' k' hl hd' => ?_) (h5.keep (fun x x1 x2 => up2_n _ _ _ (by omega))) (by rw [up2_ss]) (fun x x1 x2 => by rw [up2_n _ _ _ x1]; exact h6 x x1 x2)
        · have hf := hD.2.2
          have rr := rch_r hA hB g1 d (n - m) (by omega)
          have re := rch_eq g1 d (n - m) (by omega)
          obtain ⟨⟨v1, v2, v3⟩, ⟨v4, v5, v6⟩, ⟨v7, v8, v9⟩, ⟨v10, v11, v12⟩, -⟩ := g2.u
          refine V_aload_n dX5_find_75 rfl ?_
          refine V_iload_n dX5_find_76 rfl ?_
          refine V_iload_n dX5_find_77 rfl ?_
          refine V_callVP dX5_find_78 ml_RX5_44 km_X5_at kv_X5_at (c_X5_at (d := d) (k := n - m) hG (by omega) (by omega)) (by first | with_reducible assumption | rfl) rfl rfl rfl (Nat.le_of_ble_eq_true rfl) ⟨Nat.le_of_ble_eq_true rfl, Nat.le_of_ble_eq_true rfl⟩ ⟨Nat.le_of_ble_eq_true rfl, Nat.le_of_ble_eq_true rfl⟩ ?_
          refine V_aload_n dX5_find_81 rfl ?_
          refine V_getr 0 _ dX5_find_82 fl_RX5_15 (by first | with_reducible assumption | rfl) rfl rfl (by first | with_reducible assumption | exact hG.at rfl) ?_
          refine V_geti 1 dX5_find_85 fl_RX5_21 (by first | with_reducible assumption | rfl) rfl rfl ?_
          refine V_icmp_lt 92 dX5_find_88 (by decide) (by omega) (by omega) (fun h88 => ?_) (fun h88 => ?_)
          · have hnh : d ≠ D := fun e => by
              subst e
              have hh := hD.2.1
              unfold hit at hh
              rw [if_pos ⟨by omega, by omega, by omega, by omega, by omega⟩] at re
              omega
            refine S_iinc (ls' := [_, _, _, _, _, _]) dX5_find_92 rfl ⟨rfl, rfl⟩ rfl ?_
            refine V_goto 18 dX5_find_95 (by decide) ?_
            exact ih (d + 1) mi2 _ _ (by omega) (by omega) (by omega) (fun d' k' hl hd' => g1 d' k' hl (by omega)) g2 g4
          · have he : d = D := by
              by_cases hl : lat d (n - m)
              · rw [if_pos hl] at re
                by_cases hlt : d < D
                · refine absurd ?_ (hf d hlt)
                  exact ⟨by omega, by omega, by omega, by omega, by omega⟩
                · omega
              · rw [if_neg hl] at re
                omega
            refine V_vret dX5_find_91 rfl ⟨Nat.le_of_ble_eq_true rfl, Nat.le_of_ble_eq_true rfl⟩ ?_
            exact ⟨rfl, rfl, rfl, by rw [← he]; exact g3, by rw [← he]; exact g1, g4⟩
        · rw [up2_n _ _ _ (by decide)]
          exact h4 d' k' hl hd'
  refine Ct.ofV (ini := false) [some (vr 35), some (vr 1), none, none, none, none] km_X5_find (by decide) rfl (Nat.le_of_ble_eq_true rfl) ?_
  refine V_aload_n dX5_find_0 rfl ?_
  refine V_getr 0 _ dX5_find_1 fl_RX5_15 (by first | with_reducible assumption | rfl) rfl rfl (by first | with_reducible assumption | exact hG.at rfl) ?_
  refine V_geti 1 dX5_find_4 fl_RX5_21 (by first | with_reducible assumption | rfl) rfl rfl ?_
  rw [u10]
  refine V_aload_n dX5_find_7 rfl ?_
  refine V_getr 1 _ dX5_find_8 fl_RX5_27 (by first | with_reducible assumption | rfl) rfl rfl (by first | with_reducible assumption | exact hG.at rfl) ?_
  refine V_geti 1 dX5_find_11 fl_RX5_21 (by first | with_reducible assumption | rfl) rfl rfl ?_
  rw [u11]
  refine V_isub dX5_find_14 ?_
  refine S_istore_n (ls' := [_, _, _, _, _, _]) dX5_find_15 ⟨Nat.le_of_ble_eq_true rfl, rfl, rfl⟩ rfl ?_
  refine V_iconst dX5_find_16 ?_
  refine S_istore_n (ls' := [_, _, _, _, _, _]) dX5_find_17 ⟨Nat.le_of_ble_eq_true rfl, rfl, rfl⟩ rfl ?_
  exact loop (D + 1).toNat 0 mi none none (by omega) (by omega) (by omega) (fun d' k' hl hd' => by omega) hN (fun _ _ _ => rfl)
end REACHES
end
section
/-! ===== the least script ===== -/
abbrev putIn (A B : Int → Int) (d k : Int) : Prop := k = -d ∨ (k ≠ d ∧ fI A B (d - 1) (k - 1) < fI A B (d - 1) (k + 1))
theorem bI_in {A B : Int → Int} {d k : Int} (h : 0 < d) (hp : putIn A B d k) : bI A B d k = fI A B (d - 1) (k + 1) := by rw [bI_pos h, if_pos hp]
theorem bI_out {A B : Int → Int} {d k : Int} (h : 0 < d) (hp : ¬ putIn A B d k) : bI A B d k = fI A B (d - 1) (k - 1) + 1 := by rw [bI_pos h, if_neg hp]
theorem lat_in {A B : Int → Int} {d k : Int} (h : lat d k) (h0 : 0 < d) (hp : putIn A B d k) : lat (d - 1) (k + 1) := by
  have : k ≠ d := by rcases hp with e | e <;> omega
  exact ⟨by omega, by omega, by omega, by omega, by omega⟩
theorem lat_out {A B : Int → Int} {d k : Int} (h : lat d k) (h0 : 0 < d) (hp : ¬ putIn A B d k) : lat (d - 1) (k - 1) := by
  have : k ≠ -d := fun e => hp (Or.inl e)
  exact ⟨by omega, by omega, by omega, by omega, by omega⟩
theorem fI_bI {A B : Int → Int} (d k : Int) : bI A B d k ≤ fI A B d k := by
  rw [fI_eq]
  have := (sn_r A B (bI A B d k) (bI A B d k - k)).1
  omega
/-- no reach lies ahead of the second row -/
theorem fI_y {A B : Int → Int} : ∀ (e : Nat) (d k : Int), d = e → lat d k → k ≤ bI A B d k := by
  intro e
  induction e with
  | zero =>
    intro d k hd hl
    have : bI A B d k = 0 := by unfold bI; rw [if_pos (by omega)]
    omega
  | succ e ih =>
    intro d k hd hl
    by_cases hp : putIn A B d k
    · have h1 := ih (d - 1) (k + 1) (by omega) (lat_in hl (by omega) hp)
      have h2 := fI_bI (A := A) (B := B) (d - 1) (k + 1)
      rw [bI_in (by omega) hp]
      omega
    · have h1 := ih (d - 1) (k - 1) (by omega) (lat_out hl (by omega) hp)
      have h2 := fI_bI (A := A) (B := B) (d - 1) (k - 1)
      rw [bI_out (by omega) hp]
      omega
theorem fI_yy {A B : Int → Int} {d k : Int} (hl : lat d k) : k ≤ fI A B d k := by
  have h1 := fI_y (A := A) (B := B) d.toNat d k (by omega) hl
  have h2 := fI_bI (A := A) (B := B) d k
  omega
/-- what lies beyond the second row was no gain -/
theorem far_y {n m : Int} {A B : Int → Int} (hA : NR n A) (hB : NR m B) : ∀ (e : Nat) (d k t : Int), d = e → lat d k → 0 ≤ t → fI A B d k - k = m + t → lat (d - t) (k + t) ∧ fI A B d k ≤ fI A B (d - t) (k + t) := by
  intro e
  induction e with
  | zero =>
    intro d k t hd hl ht hy
    have hb : bI A B d k = 0 := by unfold bI; rw [if_pos (by omega)]
    have he := fI_eq A B d k
    rw [hb] at he
    by_cases h1 : 0 < sn A B 0 (0 - k)
    · have h2 := sn_le hA hB h1
      have : t = 0 := by omega
      subst this
      simp only [Int.sub_zero, Int.add_zero]
      exact ⟨hl, Int.le_refl _⟩
    · have h3 := sn_r A B 0 (0 - k)
      have := hB.1
      have : t = 0 := by omega
      subst this
      simp only [Int.sub_zero, Int.add_zero]
      exact ⟨hl, Int.le_refl _⟩
  | succ e ih =>
    intro d k t hd hl ht hy
    by_cases h0 : t = 0
    · subst h0
      simp only [Int.sub_zero, Int.add_zero]
      exact ⟨hl, Int.le_refl _⟩
    have he := fI_eq A B d k
    have hs : sn A B (bI A B d k) (bI A B d k - k) = 0 := by
      have h1 := sn_r A B (bI A B d k) (bI A B d k - k)
      by_cases h2 : 0 < sn A B (bI A B d k) (bI A B d k - k)
      · have h3 := sn_le hA hB h2
        omega
      · omega
    rw [hs] at he
    by_cases hp : putIn A B d k
    · rw [bI_in (by omega) hp] at he
      have h1 := ih (d - 1) (k + 1) (t - 1) (by omega) (lat_in hl (by omega) hp) (by omega) (by omega)
      rw [show d - 1 - (t - 1) = d - t by omega, show k + 1 + (t - 1) = k + t by omega] at h1
      exact ⟨h1.1, by omega⟩
    · rw [bI_out (by omega) hp] at he
      have h1 := ih (d - 1) (k - 1) t (by omega) (lat_out hl (by omega) hp) (by omega) (by omega)
      have hl1 := h1.1
      have h2 := fI_up (A := A) (B := B) (d := d - 1 - t) (k := k - 1 + t) hl1.1 ⟨hl1.2.2.1, hl1.2.2.2.1⟩
      rw [show d - 1 - t + 1 = d - t by omega, show k - 1 + t + 1 = k + t by omega] at h2
      exact ⟨⟨by omega, by omega, by omega, by omega, by omega⟩, by omega⟩
theorem far_x {n m : Int} {A B : Int → Int} (hA : NR n A) (hB : NR m B) : ∀ (e : Nat) (d k t : Int), d = e → lat d k → 0 ≤ t → fI A B d k = n + t → lat (d - t) (k - t) ∧ n ≤ fI A B (d - t) (k - t) := by
  intro e
  induction e with
  | zero =>
    intro d k t hd hl ht hy
    have hb : bI A B d k = 0 := by unfold bI; rw [if_pos (by omega)]
    have he := fI_eq A B d k
    rw [hb] at he
    have ht0 : t = 0 := by
      by_cases h1 : 0 < sn A B 0 (0 - k)
      · have h2 := sn_le hA hB h1
        omega
      · have h3 := sn_r A B 0 (0 - k)
        have := hA.1
        omega
    subst ht0
    simp only [Int.sub_zero]
    exact ⟨hl, by omega⟩
  | succ e ih =>
    intro d k t hd hl ht hy
    by_cases h0 : t = 0
    · subst h0
      simp only [Int.sub_zero]
      exact ⟨hl, by omega⟩
    have he := fI_eq A B d k
    have hs : sn A B (bI A B d k) (bI A B d k - k) = 0 := by
      have h1 := sn_r A B (bI A B d k) (bI A B d k - k)
      by_cases h2 : 0 < sn A B (bI A B d k) (bI A B d k - k)
      · have h3 := sn_le hA hB h2
        omega
      · omega
    rw [hs] at he
    by_cases hp : putIn A B d k
    · rw [bI_in (by omega) hp] at he
      have h1 := ih (d - 1) (k + 1) t (by omega) (lat_in hl (by omega) hp) (by omega) (by omega)
      have hl1 := h1.1
      have h2 := fI_dn (A := A) (B := B) (d := d - 1 - t) (k := k + 1 - t) hl1.1 ⟨hl1.2.2.1, hl1.2.2.2.1⟩
      rw [show d - 1 - t + 1 = d - t by omega, show k + 1 - t - 1 = k - t by omega] at h2
      exact ⟨⟨by omega, by omega, by omega, by omega, by omega⟩, by omega⟩
    · rw [bI_out (by omega) hp] at he
      have h1 := ih (d - 1) (k - 1) (t - 1) (by omega) (lat_out hl (by omega) hp) (by omega) (by omega)
      rw [show d - 1 - (t - 1) = d - t by omega, show k - 1 - (t - 1) = k - t by omega] at h1
      exact h1
/-- beyond both rows: the end was reached before -/
theorem far_xy {n m : Int} {A B : Int → Int} (hA : NR n A) (hB : NR m B) {d k : Int} (hl : lat d k) (hx : n ≤ fI A B d k) (hy : m ≤ fI A B d k - k) : ∃ d', d' ≤ d ∧ hit n m A B d' := by
  obtain ⟨l1, f1⟩ := far_y hA hB d.toNat d k (fI A B d k - k - m) (by omega) hl (by omega) (by omega)
  generalize hd2 : d - (fI A B d k - k - m) = d2 at l1 f1
  generalize hk2 : k + (fI A B d k - k - m) = k2 at l1 f1
  obtain ⟨l2, f2⟩ := far_x hA hB d2.toNat d2 k2 (fI A B d2 k2 - n) (by omega) l1 (by omega) (by omega)
  generalize hd3 : d2 - (fI A B d2 k2 - n) = d3 at l2 f2
  generalize hk3 : k2 - (fI A B d2 k2 - n) = k3 at l2 f2
  have f3 := fI_ups (A := A) (B := B) (fI A B d2 k2 - fI A B d k).toNat d3 k3 (by omega) ⟨l2.2.2.1, l2.2.2.2.1⟩
  rw [show (((fI A B d2 k2 - fI A B d k).toNat : Nat) : Int) = fI A B d2 k2 - fI A B d k by omega] at f3
  refine ⟨d3 + (fI A B d2 k2 - fI A B d k), by omega, by omega, by omega, by omega, by omega, ?_⟩
  rw [show n - m = k3 + (fI A B d2 k2 - fI A B d k) by omega]
  omega
theorem bI_end {n m : Int} {A B : Int → Int} (hA : NR n A) (hB : NR m B) {D : Int} (hD : isD n m A B D) : bI A B D (n - m) ≤ n := by
  have hh := hD.2.1
  have hA1 := hA.1
  unfold hit at hh
  have h56 := hD.1
  have hl : lat D (n - m) := ⟨by omega, by omega, by omega, by omega, by omega⟩
  by_cases h0 : D = 0
  · unfold bI; rw [if_pos (by omega)]; omega
  · by_cases hc : bI A B D (n - m) ≤ n
    · exact hc
    · exfalso
      by_cases hp : putIn A B D (n - m)
      · have hb := bI_in (by omega) hp
        obtain ⟨d', g1, g2⟩ := far_xy hA hB (lat_in hl (by omega) hp) (by omega) (by omega)
        exact hD.2.2 d' (by omega) g2
      · have hb := bI_out (by omega) hp
        obtain ⟨d', g1, g2⟩ := far_xy hA hB (lat_out hl (by omega) hp) (by omega) (by omega)
        exact hD.2.2 d' (by omega) g2
/-- back along the script: edits left, letters done -/
abbrev TS : Type := Int × Int × Int
def nx (A B : Int → Int) (s : TS) : TS := if bI A B s.1 (s.2.1 - s.2.2) < s.2.1 then (s.1, s.2.1 - 1, s.2.2 - 1) else if s.1 ≤ 0 then s else if putIn A B s.1 (s.2.1 - s.2.2) then (s.1 - 1, s.2.1, s.2.2 - 1) else (s.1 - 1, s.2.1 - 1, s.2.2)
def kd (A B : Int → Int) (s : TS) : Int := if bI A B s.1 (s.2.1 - s.2.2) < s.2.1 then 0 else if putIn A B s.1 (s.2.1 - s.2.2) then 2 else 1
def tr (A B : Int → Int) (n m D : Int) : Nat → TS
  | 0 => (D, n, m)
  | j + 1 => nx A B (tr A B n m D j)
def TI (n m : Int) (A B : Int → Int) (s : TS) : Prop := lat s.1 (s.2.1 - s.2.2) ∧ (0 ≤ s.2.1 ∧ s.2.1 ≤ n ∧ 0 ≤ s.2.2 ∧ s.2.2 ≤ m) ∧ bI A B s.1 (s.2.1 - s.2.2) ≤ s.2.1 ∧ s.2.1 ≤ fI A B s.1 (s.2.1 - s.2.2)
theorem TI_nx {n m : Int} {A B : Int → Int} (hA : NR n A) (hB : NR m B) {s : TS} (h : TI n m A B s) (hpos : 0 < s.1 + s.2.1 + s.2.2) : TI n m A B (nx A B s) ∧ (nx A B s).1 + (nx A B s).2.1 + (nx A B s).2.2 = s.1 + s.2.1 + s.2.2 - 2 ∧ ((kd A B s = 0 ∧ nx A B s = (s.1, s.2.1 - 1, s.2.2 - 1) ∧ al A B (s.2.1 - 1) (s.2.2 - 1)) ∨ (kd A B s = 1 ∧ nx A B s = (s.1 - 1, s.2.1 - 1, s.2.2)) ∨ (kd A B s = 2 ∧ nx A B s = (s.1 - 1, s.2.1, s.2.2 - 1))) := by
  obtain ⟨d, x, y⟩ := s
  obtain ⟨hl, hxy, hb, hf⟩ := h
  simp only at hl hxy hb hf hpos ⊢
  by_cases hk : bI A B d (x - y) < x
  · have e1 : nx A B (d, x, y) = (d, x - 1, y - 1) := by simp only [nx]; rw [if_pos hk]
    have e2 : kd A B (d, x, y) = 0 := by simp only [kd]; rw [if_pos hk]
    have he := fI_eq A B d (x - y)
    have ha := sn_run (A := A) (B := B) (x := bI A B d (x - y)) (y := bI A B d (x - y) - (x - y)) (j := x - 1 - bI A B d (x - y)) (by omega) (by omega)
    rw [show bI A B d (x - y) + (x - 1 - bI A B d (x - y)) = x - 1 by omega, show bI A B d (x - y) - (x - y) + (x - 1 - bI A B d (x - y)) = y - 1 by omega] at ha
    have hin := al_in hA hB ha
    rw [e1, e2]
    refine ⟨⟨?_, ?_, ?_, ?_⟩, ?_, Or.inl ⟨rfl, rfl, ha⟩⟩
    · show lat d (x - 1 - (y - 1))
      rw [show x - 1 - (y - 1) = x - y by omega]; exact hl
    · simp only; omega
    · show bI A B d (x - 1 - (y - 1)) ≤ x - 1
      rw [show x - 1 - (y - 1) = x - y by omega]; omega
    · show x - 1 ≤ fI A B d (x - 1 - (y - 1))
      rw [show x - 1 - (y - 1) = x - y by omega]; omega
    · simp only; omega
  · have hxb : x = bI A B d (x - y) := by omega
    by_cases h0 : d ≤ 0
    · exfalso
      have : bI A B d (x - y) = 0 := by unfold bI; rw [if_pos h0]
      have := hl
      omega
    · by_cases hp : putIn A B d (x - y)
      · have e1 : nx A B (d, x, y) = (d - 1, x, y - 1) := by simp only [nx]; rw [if_neg hk, if_neg h0, if_pos hp]
        have e2 : kd A B (d, x, y) = 2 := by simp only [kd]; rw [if_neg hk, if_pos hp]
        have hb2 := bI_in (by omega) hp
        have hl2 := lat_in hl (by omega) hp
        have h3 := fI_yy (A := A) (B := B) hl2
        have h4 := fI_bI (A := A) (B := B) (d - 1) (x - y + 1)
        rw [e1, e2]
        refine ⟨⟨?_, ?_, ?_, ?_⟩, ?_, Or.inr (Or.inr ⟨rfl, rfl⟩)⟩
        · show lat (d - 1) (x - (y - 1))
          rw [show x - (y - 1) = x - y + 1 by omega]; exact hl2
        · simp only; omega
        · show bI A B (d - 1) (x - (y - 1)) ≤ x
          rw [show x - (y - 1) = x - y + 1 by omega]; omega
        · show x ≤ fI A B (d - 1) (x - (y - 1))
          rw [show x - (y - 1) = x - y + 1 by omega]; omega
        · simp only; omega
      · have e1 : nx A B (d, x, y) = (d - 1, x - 1, y) := by simp only [nx]; rw [if_neg hk, if_neg h0, if_neg hp]
        have e2 : kd A B (d, x, y) = 1 := by simp only [kd]; rw [if_neg hk, if_neg hp]
        have hb2 := bI_out (by omega) hp
        have hl2 := lat_out hl (by omega) hp
        have h3 := fI_rr hA hB (d - 1) (x - y - 1) (by omega)
        have h4 := fI_bI (A := A) (B := B) (d - 1) (x - y - 1)
        rw [e1, e2]
        refine ⟨⟨?_, ?_, ?_, ?_⟩, ?_, Or.inr (Or.inl ⟨rfl, rfl⟩)⟩
        · show lat (d - 1) (x - 1 - y)
          rw [show x - 1 - y = x - y - 1 by omega]; exact hl2
        · simp only; omega
        · show bI A B (d - 1) (x - 1 - y) ≤ x - 1
          rw [show x - 1 - y = x - y - 1 by omega]; omega
        · show x - 1 ≤ fI A B (d - 1) (x - 1 - y)
          rw [show x - 1 - y = x - y - 1 by omega]; omega
        · simp only; omega
theorem TI_start {n m : Int} {A B : Int → Int} (hA : NR n A) (hB : NR m B) {D : Int} (hD : isD n m A B D) : TI n m A B (D, n, m) := by
  have hh := hD.2.1
  have hA1 := hA.1
  have hB1 := hB.1
  have h56 := hD.1
  unfold hit at hh
  have hl : lat D (n - m) := ⟨by omega, by omega, by omega, by omega, by omega⟩
  exact ⟨hl, ⟨by simp only; omega, by simp only; omega, by simp only; omega, by simp only; omega⟩, bI_end hA hB hD, hh.2.2.2.2⟩
/-- how many steps there are -/
def sL (n m D : Int) : Int := (n + m + D) / 2
theorem sL_2 {n m : Int} {A B : Int → Int} {D : Int} (hD : isD n m A B D) : 2 * sL n m D = n + m + D := by
  have hh := hD.2.1
  unfold hit at hh
  unfold sL
  omega
theorem sL_r {n m : Int} {A B : Int → Int} (hA : NR n A) (hB : NR m B) {D : Int} (hD : isD n m A B D) : 0 ≤ sL n m D ∧ sL n m D ≤ 56 ∧ D ≤ sL n m D ∧ D ≤ n + m := by
  have h1 := sL_2 hD
  have hh := hD.2.1
  have hA1 := hA.1
  have hB1 := hB.1
  unfold hit at hh
  have h2 : D ≤ n + m := by
    by_cases h : D ≤ n + m
    · exact h
    · exact absurd (hit_all hA hB) (hD.2.2 _ (by omega))
  omega
theorem tr_TI {n m : Int} {A B : Int → Int} (hA : NR n A) (hB : NR m B) {D : Int} (hD : isD n m A B D) : ∀ (j : Nat), (j : Int) ≤ sL n m D → TI n m A B (tr A B n m D j) ∧ (tr A B n m D j).1 + (tr A B n m D j).2.1 + (tr A B n m D j).2.2 = 2 * (sL n m D - j) := by
  have h2 := sL_2 hD
  intro j
  induction j with
  | zero =>
    intro _
    refine ⟨TI_start hA hB hD, ?_⟩
    simp only [tr]
    omega
  | succ j ih =>
    intro hj
    obtain ⟨g1, g2⟩ := ih (by omega)
    have g3 := TI_nx hA hB g1 (by omega)
    refine ⟨g3.1, ?_⟩
    show (nx A B (tr A B n m D j)).1 + (nx A B (tr A B n m D j)).2.1 + (nx A B (tr A B n m D j)).2.2 = _
    rw [g3.2.1]
    omega
theorem tr_end {n m : Int} {A B : Int → Int} (hA : NR n A) (hB : NR m B) {D : Int} (hD : isD n m A B D) : tr A B n m D (sL n m D).toNat = (0, 0, 0) := by
  have h1 := sL_r hA hB hD
  obtain ⟨g1, g2⟩ := tr_TI hA hB hD (sL n m D).toNat (by omega)
  generalize tr A B n m D (sL n m D).toNat = s at g1 g2
  obtain ⟨d, x, y⟩ := s
  obtain ⟨h3, h4, -⟩ := g1
  simp only at h3 h4 g2
  have : d = 0 ∧ x = 0 ∧ y = 0 := by omega
  rw [this.1, this.2.1, this.2.2]
/-- the steps, from the first one on: kind, letters done ahead in both rows -/
def sK (A B : Int → Int) (n m D i : Int) : Int := kd A B (tr A B n m D (sL n m D - 1 - i).toNat)
def sX (A B : Int → Int) (n m D i : Int) : Int := (tr A B n m D (sL n m D - i).toNat).2.1
def sY (A B : Int → Int) (n m D i : Int) : Int := (tr A B n m D (sL n m D - i).toNat).2.2
def sLt (A B : Int → Int) (n m D i : Int) : Int := if sK A B n m D i = 2 then B (sY A B n m D i) else A (sX A B n m D i)
/-- a script by its steps -/
def Sc (n m : Int) (A B : Int → Int) (L : Int) (K X Y : Int → Int) : Prop := (X 0 = 0 ∧ Y 0 = 0 ∧ X L = n ∧ Y L = m) ∧ (∀ i, 0 ≤ i → i ≤ L → 0 ≤ X i ∧ X i ≤ n ∧ 0 ≤ Y i ∧ Y i ≤ m) ∧ ∀ i, 0 ≤ i → i < L → (K i = 0 ∧ X (i + 1) = X i + 1 ∧ Y (i + 1) = Y i + 1 ∧ al A B (X i) (Y i)) ∨ (K i = 1 ∧ X (i + 1) = X i + 1 ∧ Y (i + 1) = Y i) ∨ (K i = 2 ∧ X (i + 1) = X i ∧ Y (i + 1) = Y i + 1)
theorem sc_step {n m : Int} {A B : Int → Int} (hA : NR n A) (hB : NR m B) {D : Int} (hD : isD n m A B D) {i : Int} (h0 : 0 ≤ i) (h1 : i < sL n m D) : (sK A B n m D i = 0 ∧ sX A B n m D (i + 1) = sX A B n m D i + 1 ∧ sY A B n m D (i + 1) = sY A B n m D i + 1 ∧ al A B (sX A B n m D i) (sY A B n m D i)) ∨ (sK A B n m D i = 1 ∧ sX A B n m D (i + 1) = sX A B n m D i + 1 ∧ sY A B n m D (i + 1) = sY A B n m D i) ∨ (sK A B n m D i = 2 ∧ sX A B n m D (i + 1) = sX A B n m D i ∧ sY A B n m D (i + 1) = sY A B n m D i + 1) := by
  obtain ⟨j, hj⟩ : ∃ j : Nat, sL n m D - 1 - i = j := ⟨(sL n m D - 1 - i).toNat, by omega⟩
  have e1 : (sL n m D - 1 - i).toNat = j := by omega
  have e2 : (sL n m D - i).toNat = j + 1 := by omega
  have e3 : (sL n m D - (i + 1)).toNat = j := by omega
  obtain ⟨g1, g2⟩ := tr_TI hA hB hD j (by omega)
  have g3 := (TI_nx hA hB g1 (by omega)).2.2
  unfold sK sX sY
  rw [e1, e2, e3]
  show _ ∨ _ ∨ _
  rw [show tr A B n m D (j + 1) = nx A B (tr A B n m D j) from rfl]
  rcases g3 with ⟨k1, k2, k3⟩ | ⟨k1, k2⟩ | ⟨k1, k2⟩
  · left
    rw [k2]
    exact ⟨k1, by simp only; omega, by simp only; omega, k3⟩
  · right; left
    rw [k2]
    exact ⟨k1, by simp only; omega, rfl⟩
  · right; right
    rw [k2]
    exact ⟨k1, rfl, by simp only; omega⟩
theorem sc_ok {n m : Int} {A B : Int → Int} (hA : NR n A) (hB : NR m B) {D : Int} (hD : isD n m A B D) : Sc n m A B (sL n m D) (sK A B n m D) (sX A B n m D) (sY A B n m D) := by
  have h1 := sL_r hA hB hD
  have he := tr_end hA hB hD
  refine ⟨⟨?_, ?_, ?_, ?_⟩, fun i g0 g1 => ?_, fun i g0 g1 => sc_step hA hB hD g0 g1⟩
  · unfold sX; rw [show sL n m D - 0 = sL n m D by omega, he]
  · unfold sY; rw [show sL n m D - 0 = sL n m D by omega, he]
  · unfold sX; rw [show (sL n m D - sL n m D).toNat = 0 by omega]; rfl
  · unfold sY; rw [show (sL n m D - sL n m D).toNat = 0 by omega]; rfl
  · obtain ⟨g2, g3⟩ := tr_TI hA hB hD (sL n m D - i).toNat (by omega)
    unfold sX sY
    exact g2.2.1
end
section
/-! ===== DiagonalTexts$Script ===== -/
section SCRIPT
variable {mi : MI} {mr : MR} {f fb g gb : Nat} {n m D : Int} {A B : Int → Int}
set_option maxRecDepth 100000 in
theorem c_X8_put {i v l x y : Int} (hG : Gr mr) (hi : rng i) : C0 yX8_put cX8_put 6 none 0 SH mi mr [vr 37, vi i, vi v, vi l, vi x, vi y] (fun mi' mr' => mr' = mr ∧ mi' = if 0 ≤ i ∧ i < 57 then up2 (up2 (up2 (up2 mi 38 i v) 39 i l) 40 i x) 41 i y else mi) := by
  refine Ct.ofV (ini := false) [some (vr 37), some (vi i), some (vi v), some (vi l), some (vi x), some (vi y)] km_X8_put (by decide) rfl (Nat.le_of_ble_eq_true rfl) ?_
  refine V_iload_n dX8_put_0 rfl ?_
  refine V_if_lt 70 dX8_put_1 (by decide) (by omega) (fun h1 => ?_) (fun h1 => ?_)
  · refine V_vret dX8_put_70 rfl ⟨Nat.le_of_ble_eq_true rfl, Nat.le_of_ble_eq_true rfl⟩ ?_
    exact ⟨rfl, rfl, rfl, by split <;> first | rfl | (exfalso; omega)⟩
  · refine V_iload_n dX8_put_4 rfl ?_
    refine V_aload_n dX8_put_5 rfl ?_
    refine V_getr 0 _ dX8_put_6 fl_RX8_9 (by first | with_reducible assumption | rfl) rfl rfl (by first | with_reducible assumption | exact hG.at rfl) ?_
    refine V_alen dX8_put_9 (by first | with_reducible assumption | rfl) ?_
    refine V_icmp_ge 70 dX8_put_10 (by decide) (by omega) (by omega) (fun h10 => ?_) (fun h10 => ?_)
    · refine V_vret dX8_put_70 rfl ⟨Nat.le_of_ble_eq_true rfl, Nat.le_of_ble_eq_true rfl⟩ ?_
      exact ⟨rfl, rfl, rfl, by split <;> first | rfl | (exfalso; omega)⟩
    · refine V_iload_n dX8_put_13 rfl ?_
      refine V_aload_n dX8_put_14 rfl ?_
      refine V_getr 1 _ dX8_put_15 fl_RX8_15 (by first | with_reducible assumption | rfl) rfl rfl (by first | with_reducible assumption | exact hG.at rfl) ?_
      refine V_alen dX8_put_18 (by first | with_reducible assumption | rfl) ?_
      refine V_icmp_ge 70 dX8_put_19 (by decide) (by omega) (by omega) (fun h19 => ?_) (fun h19 => ?_)
      · refine V_vret dX8_put_70 rfl ⟨Nat.le_of_ble_eq_true rfl, Nat.le_of_ble_eq_true rfl⟩ ?_
        exact ⟨rfl, rfl, rfl, by split <;> first | rfl | (exfalso; omega)⟩
      · refine V_iload_n dX8_put_22 rfl ?_
        refine V_aload_n dX8_put_23 rfl ?_
        refine V_getr 2 _ dX8_put_24 fl_RX8_18 (by first | with_reducible assumption | rfl) rfl rfl (by first | with_reducible assumption | exact hG.at rfl) ?_
        refine V_alen dX8_put_27 (by first | with_reducible assumption | rfl) ?_
        refine V_icmp_ge 70 dX8_put_28 (by decide) (by omega) (by omega) (fun h28 => ?_) (fun h28 => ?_)
        · refine V_vret dX8_put_70 rfl ⟨Nat.le_of_ble_eq_true rfl, Nat.le_of_ble_eq_true rfl⟩ ?_
          exact ⟨rfl, rfl, rfl, by split <;> first | rfl | (exfalso; omega)⟩
        · refine V_iload_n dX8_put_31 rfl ?_
          refine V_aload_n dX8_put_32 rfl ?_
          refine V_getr 3 _ dX8_put_33 fl_RX8_21 (by first | with_reducible assumption | rfl) rfl rfl (by first | with_reducible assumption | exact hG.at rfl) ?_
          refine V_alen dX8_put_36 (by first | with_reducible assumption | rfl) ?_
          refine V_icmp_ge 70 dX8_put_37 (by decide) (by omega) (by omega) (fun h37 => ?_) (fun h37 => ?_)
          · refine V_vret dX8_put_70 rfl ⟨Nat.le_of_ble_eq_true rfl, Nat.le_of_ble_eq_true rfl⟩ ?_
            exact ⟨rfl, rfl, rfl, by split <;> first | rfl | (exfalso; omega)⟩
          · refine V_aload_n dX8_put_40 rfl ?_
            refine V_getr 0 _ dX8_put_41 fl_RX8_9 (by first | with_reducible assumption | rfl) rfl rfl (by first | with_reducible assumption | exact hG.at rfl) ?_
            refine V_iload_n dX8_put_44 rfl ?_
            refine V_iload_n dX8_put_45 rfl ?_
            refine V_iast dX8_put_46 (by first | with_reducible assumption | rfl) (by decide) (by omega) ?_
            refine V_aload_n dX8_put_47 rfl ?_
            refine V_getr 1 _ dX8_put_48 fl_RX8_15 (by first | with_reducible assumption | rfl) rfl rfl (by first | with_reducible assumption | exact hG.at rfl) ?_
            refine V_iload_n dX8_put_51 rfl ?_
            refine V_iload_n dX8_put_52 rfl ?_
            refine V_iast dX8_put_53 (by first | with_reducible assumption | rfl) (by decide) (by omega) ?_
            refine V_aload_n dX8_put_54 rfl ?_
            refine V_getr 2 _ dX8_put_55 fl_RX8_18 (by first | with_reducible assumption | rfl) rfl rfl (by first | with_reducible assumption | exact hG.at rfl) ?_
            refine V_iload_n dX8_put_58 rfl ?_
            refine V_iload dX8_put_59 rfl ?_
            refine V_iast dX8_put_61 (by first | with_reducible assumption | rfl) (by decide) (by omega) ?_
            refine V_aload_n dX8_put_62 rfl ?_
            refine V_getr 3 _ dX8_put_63 fl_RX8_21 (by first | with_reducible assumption | rfl) rfl rfl (by first | with_reducible assumption | exact hG.at rfl) ?_
            refine V_iload_n dX8_put_66 rfl ?_
            refine V_iload dX8_put_67 rfl ?_
            refine V_iast dX8_put_69 (by first | with_reducible assumption | rfl) (by decide) (by omega) ?_
            refine V_vret dX8_put_70 rfl ⟨Nat.le_of_ble_eq_true rfl, Nat.le_of_ble_eq_true rfl⟩ ?_
            exact ⟨rfl, rfl, rfl, by split <;> first | rfl | (exfalso; omega)⟩
set_option maxRecDepth 100000 in
theorem c_X8_kindAt {i : Int} (hG : Gr mr) (hi : rng i) (hl : 0 ≤ mi 37 4 ∧ mi 37 4 ≤ 56) : CP yX8_kindAt cX8_kindAt 2 (some .int) 0 SH mi mr [vr 37, vi i] (vi (if 0 ≤ i ∧ i < mi 37 4 then mi 38 i else -1)) := by
  refine Ct.ofV (ini := false) [some (vr 37), some (vi i)] km_X8_kindAt (by decide) rfl (Nat.le_of_ble_eq_true rfl) ?_
  refine V_iload_n dX8_kindAt_0 rfl ?_
  refine V_if_lt 30 dX8_kindAt_1 (by decide) (by omega) (fun h1 => ?_) (fun h1 => ?_)
  · refine V_iconst dX8_kindAt_30 ?_
    refine V_iret dX8_kindAt_31 rfl ⟨Nat.le_of_ble_eq_true rfl, Nat.le_of_ble_eq_true rfl⟩ ?_
    exact ⟨rfl, svi (by split <;> first | rfl | (exfalso; omega)), rfl, rfl⟩
  · refine V_iload_n dX8_kindAt_4 rfl ?_
    refine V_aload_n dX8_kindAt_5 rfl ?_
    refine V_geti 4 dX8_kindAt_6 fl_RX8_44 (by first | with_reducible assumption | rfl) rfl rfl ?_
    refine V_icmp_ge 30 dX8_kindAt_9 (by decide) (by omega) (by omega) (fun h9 => ?_) (fun h9 => ?_)
    · refine V_iconst dX8_kindAt_30 ?_
      refine V_iret dX8_kindAt_31 rfl ⟨Nat.le_of_ble_eq_true rfl, Nat.le_of_ble_eq_true rfl⟩ ?_
      exact ⟨rfl, svi (by split <;> first | rfl | (exfalso; omega)), rfl, rfl⟩
    · refine V_iload_n dX8_kindAt_12 rfl ?_
      refine V_aload_n dX8_kindAt_13 rfl ?_
      refine V_getr 0 _ dX8_kindAt_14 fl_RX8_9 (by first | with_reducible assumption | rfl) rfl rfl (by first | with_reducible assumption | exact hG.at rfl) ?_
      refine V_alen dX8_kindAt_17 (by first | with_reducible assumption | rfl) ?_
      refine V_icmp_ge 30 dX8_kindAt_18 (by decide) (by omega) (by omega) (fun h18 => ?_) (fun h18 => ?_)
      · refine V_iconst dX8_kindAt_30 ?_
        refine V_iret dX8_kindAt_31 rfl ⟨Nat.le_of_ble_eq_true rfl, Nat.le_of_ble_eq_true rfl⟩ ?_
        exact ⟨rfl, svi (by split <;> first | rfl | (exfalso; omega)), rfl, rfl⟩
      · refine V_aload_n dX8_kindAt_21 rfl ?_
        refine V_getr 0 _ dX8_kindAt_22 fl_RX8_9 (by first | with_reducible assumption | rfl) rfl rfl (by first | with_reducible assumption | exact hG.at rfl) ?_
        refine V_iload_n dX8_kindAt_25 rfl ?_
        refine V_iald dX8_kindAt_26 (by first | with_reducible assumption | rfl) (by decide) (by omega) ?_
        refine V_goto 31 dX8_kindAt_27 (by decide) ?_
        refine V_iret dX8_kindAt_31 rfl ⟨Nat.le_of_ble_eq_true rfl, Nat.le_of_ble_eq_true rfl⟩ ?_
        exact ⟨rfl, svi (by split <;> first | rfl | (exfalso; omega)), rfl, rfl⟩
set_option maxRecDepth 100000 in
theorem c_X8_letterOf {i : Int} (hG : Gr mr) (hi : rng i) (hl : 0 ≤ mi 37 4 ∧ mi 37 4 ≤ 56) : CP yX8_letterOf cX8_letterOf 2 (some .int) 0 SH mi mr [vr 37, vi i] (vi (if 0 ≤ i ∧ i < mi 37 4 then mi 39 i else -1)) := by
  refine Ct.ofV (ini := false) [some (vr 37), some (vi i)] km_X8_letterOf (by decide) rfl (Nat.le_of_ble_eq_true rfl) ?_
  refine V_iload_n dX8_letterOf_0 rfl ?_
  refine V_if_lt 30 dX8_letterOf_1 (by decide) (by omega) (fun h1 => ?_) (fun h1 => ?_)
  · refine V_iconst dX8_letterOf_30 ?_
    refine V_iret dX8_letterOf_31 rfl ⟨Nat.le_of_ble_eq_true rfl, Nat.le_of_ble_eq_true rfl⟩ ?_
    exact ⟨rfl, svi (by split <;> first | rfl | (exfalso; omega)), rfl, rfl⟩
  · refine V_iload_n dX8_letterOf_4 rfl ?_
    refine V_aload_n dX8_letterOf_5 rfl ?_
    refine V_geti 4 dX8_letterOf_6 fl_RX8_44 (by first | with_reducible assumption | rfl) rfl rfl ?_
    refine V_icmp_ge 30 dX8_letterOf_9 (by decide) (by omega) (by omega) (fun h9 => ?_) (fun h9 => ?_)
    · refine V_iconst dX8_letterOf_30 ?_
      refine V_iret dX8_letterOf_31 rfl ⟨Nat.le_of_ble_eq_true rfl, Nat.le_of_ble_eq_true rfl⟩ ?_
      exact ⟨rfl, svi (by split <;> first | rfl | (exfalso; omega)), rfl, rfl⟩
    · refine V_iload_n dX8_letterOf_12 rfl ?_
      refine V_aload_n dX8_letterOf_13 rfl ?_
      refine V_getr 1 _ dX8_letterOf_14 fl_RX8_15 (by first | with_reducible assumption | rfl) rfl rfl (by first | with_reducible assumption | exact hG.at rfl) ?_
      refine V_alen dX8_letterOf_17 (by first | with_reducible assumption | rfl) ?_
      refine V_icmp_ge 30 dX8_letterOf_18 (by decide) (by omega) (by omega) (fun h18 => ?_) (fun h18 => ?_)
      · refine V_iconst dX8_letterOf_30 ?_
        refine V_iret dX8_letterOf_31 rfl ⟨Nat.le_of_ble_eq_true rfl, Nat.le_of_ble_eq_true rfl⟩ ?_
        exact ⟨rfl, svi (by split <;> first | rfl | (exfalso; omega)), rfl, rfl⟩
      · refine V_aload_n dX8_letterOf_21 rfl ?_
        refine V_getr 1 _ dX8_letterOf_22 fl_RX8_15 (by first | with_reducible assumption | rfl) rfl rfl (by first | with_reducible assumption | exact hG.at rfl) ?_
        refine V_iload_n dX8_letterOf_25 rfl ?_
        refine V_iald dX8_letterOf_26 (by first | with_reducible assumption | rfl) (by decide) (by omega) ?_
        refine V_goto 31 dX8_letterOf_27 (by decide) ?_
        refine V_iret dX8_letterOf_31 rfl ⟨Nat.le_of_ble_eq_true rfl, Nat.le_of_ble_eq_true rfl⟩ ?_
        exact ⟨rfl, svi (by split <;> first | rfl | (exfalso; omega)), rfl, rfl⟩
set_option maxRecDepth 100000 in
theorem c_X8_firstDoneAt {i : Int} (hG : Gr mr) (hi : rng i) (hl : 0 ≤ mi 37 4 ∧ mi 37 4 ≤ 56) : CP yX8_firstDoneAt cX8_firstDoneAt 2 (some .int) 0 SH mi mr [vr 37, vi i] (vi (if 0 ≤ i ∧ i ≤ mi 37 4 then mi 40 i else -1)) := by
  refine Ct.ofV (ini := false) [some (vr 37), some (vi i)] km_X8_firstDoneAt (by decide) rfl (Nat.le_of_ble_eq_true rfl) ?_
  refine V_iload_n dX8_firstDoneAt_0 rfl ?_
  refine V_if_lt 30 dX8_firstDoneAt_1 (by decide) (by omega) (fun h1 => ?_) (fun h1 => ?_)
  · refine V_iconst dX8_firstDoneAt_30 ?_
    refine V_iret dX8_firstDoneAt_31 rfl ⟨Nat.le_of_ble_eq_true rfl, Nat.le_of_ble_eq_true rfl⟩ ?_
    exact ⟨rfl, svi (by split <;> first | rfl | (exfalso; omega)), rfl, rfl⟩
  · refine V_iload_n dX8_firstDoneAt_4 rfl ?_
    refine V_aload_n dX8_firstDoneAt_5 rfl ?_
    refine V_geti 4 dX8_firstDoneAt_6 fl_RX8_44 (by first | with_reducible assumption | rfl) rfl rfl ?_
    refine V_icmp_gt 30 dX8_firstDoneAt_9 (by decide) (by omega) (by omega) (fun h9 => ?_) (fun h9 => ?_)
    · refine V_iconst dX8_firstDoneAt_30 ?_
      refine V_iret dX8_firstDoneAt_31 rfl ⟨Nat.le_of_ble_eq_true rfl, Nat.le_of_ble_eq_true rfl⟩ ?_
      exact ⟨rfl, svi (by split <;> first | rfl | (exfalso; omega)), rfl, rfl⟩
    · refine V_iload_n dX8_firstDoneAt_12 rfl ?_
      refine V_aload_n dX8_firstDoneAt_13 rfl ?_
      refine V_getr 2 _ dX8_firstDoneAt_14 fl_RX8_18 (by first | with_reducible assumption | rfl) rfl rfl (by first | with_reducible assumption | exact hG.at rfl) ?_
      refine V_alen dX8_firstDoneAt_17 (by first | with_reducible assumption | rfl) ?_
      refine V_icmp_ge 30 dX8_firstDoneAt_18 (by decide) (by omega) (by omega) (fun h18 => ?_) (fun h18 => ?_)
      · refine V_iconst dX8_firstDoneAt_30 ?_
        refine V_iret dX8_firstDoneAt_31 rfl ⟨Nat.le_of_ble_eq_true rfl, Nat.le_of_ble_eq_true rfl⟩ ?_
        exact ⟨rfl, svi (by split <;> first | rfl | (exfalso; omega)), rfl, rfl⟩
      · refine V_aload_n dX8_firstDoneAt_21 rfl ?_
        refine V_getr 2 _ dX8_firstDoneAt_22 fl_RX8_18 (by first | with_reducible assumption | rfl) rfl rfl (by first | with_reducible assumption | exact hG.at rfl) ?_
        refine V_iload_n dX8_firstDoneAt_25 rfl ?_
        refine V_iald dX8_firstDoneAt_26 (by first | with_reducible assumption | rfl) (by decide) (by omega) ?_
        refine V_goto 31 dX8_firstDoneAt_27 (by decide) ?_
        refine V_iret dX8_firstDoneAt_31 rfl ⟨Nat.le_of_ble_eq_true rfl, Nat.le_of_ble_eq_true rfl⟩ ?_
        exact ⟨rfl, svi (by split <;> first | rfl | (exfalso; omega)), rfl, rfl⟩
set_option maxRecDepth 100000 in
theorem c_X8_secondDoneAt {i : Int} (hG : Gr mr) (hi : rng i) (hl : 0 ≤ mi 37 4 ∧ mi 37 4 ≤ 56) : CP yX8_secondDoneAt cX8_secondDoneAt 2 (some .int) 0 SH mi mr [vr 37, vi i] (vi (if 0 ≤ i ∧ i ≤ mi 37 4 then mi 41 i else -1)) := by
  refine Ct.ofV (ini := false) [some (vr 37), some (vi i)] km_X8_secondDoneAt (by decide) rfl (Nat.le_of_ble_eq_true rfl) ?_
  refine V_iload_n dX8_secondDoneAt_0 rfl ?_
  refine V_if_lt 30 dX8_secondDoneAt_1 (by decide) (by omega) (fun h1 => ?_) (fun h1 => ?_)
  · refine V_iconst dX8_secondDoneAt_30 ?_
    refine V_iret dX8_secondDoneAt_31 rfl ⟨Nat.le_of_ble_eq_true rfl, Nat.le_of_ble_eq_true rfl⟩ ?_
    exact ⟨rfl, svi (by split <;> first | rfl | (exfalso; omega)), rfl, rfl⟩
  · refine V_iload_n dX8_secondDoneAt_4 rfl ?_
    refine V_aload_n dX8_secondDoneAt_5 rfl ?_
    refine V_geti 4 dX8_secondDoneAt_6 fl_RX8_44 (by first | with_reducible assumption | rfl) rfl rfl ?_
    refine V_icmp_gt 30 dX8_secondDoneAt_9 (by decide) (by omega) (by omega) (fun h9 => ?_) (fun h9 => ?_)
    · refine V_iconst dX8_secondDoneAt_30 ?_
      refine V_iret dX8_secondDoneAt_31 rfl ⟨Nat.le_of_ble_eq_true rfl, Nat.le_of_ble_eq_true rfl⟩ ?_
      exact ⟨rfl, svi (by split <;> first | rfl | (exfalso; omega)), rfl, rfl⟩
    · refine V_iload_n dX8_secondDoneAt_12 rfl ?_
      refine V_aload_n dX8_secondDoneAt_13 rfl ?_
      refine V_getr 3 _ dX8_secondDoneAt_14 fl_RX8_21 (by first | with_reducible assumption | rfl) rfl rfl (by first | with_reducible assumption | exact hG.at rfl) ?_
      refine V_alen dX8_secondDoneAt_17 (by first | with_reducible assumption | rfl) ?_
      refine V_icmp_ge 30 dX8_secondDoneAt_18 (by decide) (by omega) (by omega) (fun h18 => ?_) (fun h18 => ?_)
      · refine V_iconst dX8_secondDoneAt_30 ?_
        refine V_iret dX8_secondDoneAt_31 rfl ⟨Nat.le_of_ble_eq_true rfl, Nat.le_of_ble_eq_true rfl⟩ ?_
        exact ⟨rfl, svi (by split <;> first | rfl | (exfalso; omega)), rfl, rfl⟩
      · refine V_aload_n dX8_secondDoneAt_21 rfl ?_
        refine V_getr 3 _ dX8_secondDoneAt_22 fl_RX8_21 (by first | with_reducible assumption | rfl) rfl rfl (by first | with_reducible assumption | exact hG.at rfl) ?_
        refine V_iload_n dX8_secondDoneAt_25 rfl ?_
        refine V_iald dX8_secondDoneAt_26 (by first | with_reducible assumption | rfl) (by decide) (by omega) ?_
        refine V_goto 31 dX8_secondDoneAt_27 (by decide) ?_
        refine V_iret dX8_secondDoneAt_31 rfl ⟨Nat.le_of_ble_eq_true rfl, Nat.le_of_ble_eq_true rfl⟩ ?_
        exact ⟨rfl, svi (by split <;> first | rfl | (exfalso; omega)), rfl, rfl⟩
/-- the script as it lies in the class's arrays -/
def ScM (mi : MI) (L : Int) (K Lt X Y : Int → Int) : Prop := (mi 37 4 = L ∧ 0 ≤ L ∧ L ≤ 56) ∧ (∀ i, 0 ≤ i → i < L → mi 38 i = K i ∧ mi 39 i = Lt i) ∧ ∀ i, 0 ≤ i → i ≤ L → mi 40 i = X i ∧ mi 41 i = Y i
/-- what is laid down from behind, up to the step L - j -/
def Fil (mi : MI) (A B : Int → Int) (n m D j : Int) : Prop := (∀ i, sL n m D - j ≤ i → i < sL n m D → mi 38 i = sK A B n m D i ∧ mi 39 i = sLt A B n m D i) ∧ ∀ i, sL n m D - j ≤ i → i ≤ sL n m D → mi 40 i = sX A B n m D i ∧ mi 41 i = sY A B n m D i
theorem Fil.put {i v l x y : Int} (h : Fil mi A B n m D (sL n m D - (i + 1))) (hv : v = sK A B n m D i) (hl : l = sLt A B n m D i) (hx : x = sX A B n m D i) (hy : y = sY A B n m D i) : Fil (up2 (up2 (up2 (up2 mi 38 i v) 39 i l) 40 i x) 41 i y) A B n m D (sL n m D - i) := by
  subst hv hl hx hy
  constructor
  · intro j h1 h2
    by_cases hj : j = i
    · subst hj; simp [up2, up1]
    · have := h.1 j (by omega) h2
      simp [up2, up1, hj, this]
  · intro j h1 h2
    by_cases hj : j = i
    · subst hj; simp [up2, up1]
    · have := h.2 j (by omega) h2
      simp [up2, up1, hj, this]
theorem sc_at {j : Nat} {i : Int} (h : i = sL n m D - 1 - j) : sK A B n m D i = kd A B (tr A B n m D j) ∧ sX A B n m D i = (nx A B (tr A B n m D j)).2.1 ∧ sY A B n m D i = (nx A B (tr A B n m D j)).2.2 := by
  unfold sK sX sY
  rw [show (sL n m D - 1 - i).toNat = j by omega, show (sL n m D - i).toNat = j + 1 by omega]
  exact ⟨rfl, rfl, rfl⟩
set_option maxRecDepth 100000 in
set_option maxHeartbeats 2000000 in
theorem l_X8_rebuild {Q : PQ} (hA : NR n A) (hB : NR m B) (hD : isD n m A B D)
    (hQ : ∀ mi' : MI, Fil mi' A B n m D (sL n m D) → (∀ x, x < 38 ∨ 41 < x → mi' x = mi x) → Q none SH mi' mr) :
    ∀ (t : Nat) (j : Nat) (d x y st : Int) (mi' : MI) (o8 : Option AV), st = sL n m D - j → (j : Int) ≤ sL n m D → sL n m D - j < t → tr A B n m D j = (d, x, y) → Now mi' mr f fb g gb n m A B → Rch mi' A B (D + 1) (-(D + 1)) → d ≤ D → Fil mi' A B n m D j → (∀ x, x < 38 ∨ 41 < x → mi' x = mi x) →
      V (RX8, cX8_rebuild, 9, rm 3, false, none, none) Q 0 0 SH mi' mr [some (vr 37), some (vr 1), some (vr 35), some (vi x), some (vi y), some (vi st), some (vi d), some (vi (bI A B d (x - y))), o8] [] 72 := by
  have hLr := sL_r hA hB hD
  intro t
  induction t with
  | zero => intro j d x y st mi' o8 hst h1 h2; omega
  | succ t ih =>
    intro j d x y st mi' o8 hst h1 h2 h3 h4 h5 h6 h7 h8
    subst hst
    obtain ⟨⟨u1, u2, hG⟩, ⟨u4, u5, u6⟩, ⟨u7, u8, u9⟩, ⟨u10, u11, u12⟩, uA, uB, rA, rB⟩ := h4.u
    obtain ⟨T1, T2⟩ := tr_TI hA hB hD j h1
    rw [h3] at T1 T2
    have T1' := T1
    obtain ⟨hl, hxy, hbx, hfx⟩ := T1
    simp only at hl hxy hbx hfx T2
    have hb := bI_rr hA hB d (x - y) hl.1
    have hn1 := hA.1
    have hm1 := hB.1
    have hi0 : sL n m D - j + -1 = sL n m D - 1 - j := by omega
    obtain ⟨z1, z2, z3⟩ := sc_at (A := A) (B := B) (n := n) (m := m) (D := D) (j := j) hi0
    rw [h3] at z1 z2 z3
    have key : ∀ (v l x' y' : Int), v = sK A B n m D (sL n m D - j + -1) → l = sLt A B n m D (sL n m D - j + -1) → x' = sX A B n m D (sL n m D - j + -1) → y' = sY A B n m D (sL n m D - j + -1) → Fil (up2 (up2 (up2 (up2 mi' 38 (sL n m D - j + -1) v) 39 (sL n m D - j + -1) l) 40 (sL n m D - j + -1) x') 41 (sL n m D - j + -1) y') A B n m D ((j + 1 : Nat) : Int) := by
      intro v l x' y' g1 g2 g3 g4
      have := Fil.put (mi := mi') (i := sL n m D - j + -1) (by rw [show sL n m D - (sL n m D - j + -1 + 1) = j by omega]; exact h7) g1 g2 g3 g4
      rw [show sL n m D - (sL n m D - j + -1) = ((j + 1 : Nat) : Int) by omega] at this
      exact this
    have frm : ∀ (i v l x' y' : Int) (z : Nat), (z < 38 ∨ 41 < z) → up2 (up2 (up2 (up2 mi' 38 i v) 39 i l) 40 i x') 41 i y' z = mi' z := by
      intro i v l x' y' z hz
      rw [up2_n _ _ _ (by omega), up2_n _ _ _ (by omega), up2_n _ _ _ (by omega), up2_n _ _ _ (by omega)]
    have ej : sL n m D - j + -1 = sL n m D - ((j + 1 : Nat) : Int) := by omega
    refine V_iload_n dX8_rebuild_72 rfl ?_
    refine V_iload dX8_rebuild_73 rfl ?_
    refine V_icmp_le 108 dX8_rebuild_75 (by decide) (by omega) (by omega) (fun h75 => ?_) (fun h75 => ?_)
    · have hxb : x = bI A B d (x - y) := by omega
      by_cases hd0 : d ≤ 0
      · have hbz : bI A B d (x - y) = 0 := by unfold bI; rw [if_pos hd0]
        have hj : (j : Int) = sL n m D := by omega
        rw [hj] at h7
        refine V_iload dX8_rebuild_108 rfl ?_
        refine V_if_le 200 dX8_rebuild_110 (by decide) (by omega) (fun _ => ?_) (fun h110 => absurd h110 (by omega))
        refine S_iinc (ls' := [_, _, _, _, _, _, _, _, _]) dX8_rebuild_200 rfl ⟨rfl, rfl⟩ rfl ?_
        refine V_goto 55 dX8_rebuild_203 (by decide) ?_
        refine V_iload dX8_rebuild_55 rfl ?_
        refine V_if_lt 206 dX8_rebuild_57 (by decide) (by omega) (fun _ => ?_) (fun h57 => absurd h57 (by omega))
        refine V_vret dX8_rebuild_206 rfl ⟨Nat.le_of_ble_eq_true rfl, Nat.le_of_ble_eq_true rfl⟩ ?_
        exact hQ mi' h7 h8
      · have hpos : 0 < d + x + y := by omega
        have ec : rch mi' (d - 1) (x - y - 1) < rch mi' (d - 1) (x - y + 1) ↔ putIn A B d (x - y) := rch_put (kk := -d) hA hB (fun d' k' q1 q2 => h5 d' k' q1 (by omega)) hl (by omega)
        have r2 := rch_r hA hB h5 (d - 1) (x - y - 1) (by omega)
        have r3 := rch_r hA hB h5 (d - 1) (x - y + 1) (by omega)
        refine V_iload dX8_rebuild_108 rfl ?_
        refine V_if_le 200 dX8_rebuild_110 (by decide) (by omega) (fun h => absurd h hd0) (fun _ => ?_)
        refine V_aload_n dX8_rebuild_113 rfl ?_
        refine V_iload dX8_rebuild_114 rfl ?_
        refine V_iload_n dX8_rebuild_116 rfl ?_
        refine V_iload dX8_rebuild_117 rfl ?_
        refine V_isub dX8_rebuild_119 ?_
        refine V_callVP dX8_rebuild_120 ml_RX8_57 km_X5_isPutIn kv_X5_isPutIn (c_X5_isPutIn (d := d) (k := x - y) hG (by omega) (by omega) (by omega) (by omega)) rfl rfl rfl rfl (Nat.le_of_ble_eq_true rfl) ⟨Nat.le_of_ble_eq_true rfl, Nat.le_of_ble_eq_true rfl⟩ ⟨Nat.le_of_ble_eq_true rfl, Nat.le_of_ble_eq_true rfl⟩ ?_
        by_cases hp : putIn A B d (x - y)
        · have N1 : nx A B (d, x, y) = (d + -1, x - 0, y - 1) := by simp only [nx]; rw [if_neg (by omega), if_neg (by omega), if_pos hp, show d - 1 = d + -1 by omega, Int.sub_zero]
          have N2 : kd A B (d, x, y) = 2 := by simp only [kd]; rw [if_neg (by omega), if_pos hp]
          have N3 : tr A B n m D (j + 1) = (d + -1, x - 0, y - 1) := by show nx A B (tr A B n m D j) = _; rw [h3, N1]
          rw [N1] at z2 z3
          rw [N2] at z1
          have hl2 : lat (d + -1) (x - 0 - (y - 1)) := by
            have := lat_in hl (by omega) hp
            rw [show d + -1 = d - 1 by omega, show x - 0 - (y - 1) = x - y + 1 by omega]; exact this
          have hb2 := bI_rr hA hB (d + -1) (x - 0 - (y - 1)) hl2.1
          rw [if_pos (ec.mpr hp)]
          refine S_istore (ls' := [_, _, _, _, _, _, _, _, _]) dX8_rebuild_123 ⟨Nat.le_of_ble_eq_true rfl, rfl, rfl⟩ rfl ?_
          refine V_iload_n dX8_rebuild_125 rfl ?_
          refine V_iload dX8_rebuild_126 rfl ?_
          refine V_if_eq 135 dX8_rebuild_128 (by decide) (by omega) (fun h128 => absurd h128 (by decide)) (fun _ => ?_)
          refine V_iconst dX8_rebuild_131 ?_
          refine V_goto 136 dX8_rebuild_132 (by decide) ?_
          refine V_isub dX8_rebuild_136 ?_
          refine S_istore_n (ls' := [_, _, _, _, _, _, _, _, _]) dX8_rebuild_137 ⟨Nat.le_of_ble_eq_true rfl, rfl, rfl⟩ rfl ?_
          refine V_iload dX8_rebuild_138 rfl ?_
          refine V_iload dX8_rebuild_140 rfl ?_
          refine V_if_eq 149 dX8_rebuild_142 (by decide) (by omega) (fun h142 => absurd h142 (by decide)) (fun _ => ?_)
          refine V_iconst dX8_rebuild_145 ?_
          refine V_goto 150 dX8_rebuild_146 (by decide) ?_
          refine V_isub dX8_rebuild_150 ?_
          refine S_istore (ls' := [_, _, _, _, _, _, _, _, _]) dX8_rebuild_151 ⟨Nat.le_of_ble_eq_true rfl, rfl, rfl⟩ rfl ?_
          refine S_iinc (ls' := [_, _, _, _, _, _, _, _, _]) dX8_rebuild_153 rfl ⟨rfl, rfl⟩ rfl ?_
          refine V_aload_n dX8_rebuild_156 rfl ?_
          refine V_iload dX8_rebuild_157 rfl ?_
          refine V_iload dX8_rebuild_159 rfl ?_
          refine V_if_eq 168 dX8_rebuild_161 (by decide) (by omega) (fun h161 => absurd h161 (by decide)) (fun _ => ?_)
          refine V_iconst dX8_rebuild_164 ?_
          refine V_goto 169 dX8_rebuild_165 (by decide) ?_
          refine V_iload dX8_rebuild_169 rfl ?_
          refine V_if_eq 186 dX8_rebuild_171 (by decide) (by omega) (fun h171 => absurd h171 (by decide)) (fun _ => ?_)
          refine V_aload_n dX8_rebuild_174 rfl ?_
          refine V_getr 1 _ dX8_rebuild_175 fl_RX8_36 (by first | with_reducible assumption | rfl) rfl rfl (by first | with_reducible assumption | exact hG.at rfl) ?_
          refine V_iload dX8_rebuild_178 rfl ?_
          refine V_callVP dX8_rebuild_180 ml_RX8_53 km_X7_at kv_X7_at (c_X7_at (i := y - 1) (by omega) u7 u8 u9 (by decide) (by omega)) (by first | with_reducible assumption | rfl) rfl rfl rfl (Nat.le_of_ble_eq_true rfl) ⟨Nat.le_of_ble_eq_true rfl, Nat.le_of_ble_eq_true rfl⟩ ⟨Nat.le_of_ble_eq_true rfl, Nat.le_of_ble_eq_true rfl⟩ ?_
          rw [uB]
          refine V_goto 194 dX8_rebuild_183 (by decide) ?_
          refine V_iload_n dX8_rebuild_194 rfl ?_
          refine V_iload dX8_rebuild_195 rfl ?_
          refine V_callV0 dX8_rebuild_197 ml_RX8_45 km_X8_put kv_X8_put (c_X8_put (i := sL n m D - j + -1) hG (by omega)) (by first | with_reducible assumption | rfl) rfl rfl rfl (Nat.le_of_ble_eq_true rfl) ⟨Nat.le_of_ble_eq_true rfl, Nat.le_of_ble_eq_true rfl⟩ ⟨Nat.le_of_ble_eq_true rfl, Nat.le_of_ble_eq_true rfl⟩ ?_
          rintro mi2 mr2 ⟨rfl, hq⟩
          rw [if_pos (by omega)] at hq
          have F2 : Fil mi2 A B n m D ((j + 1 : Nat) : Int) := by
            rw [hq]
            exact key _ _ _ _ z1.symm (by unfold sLt; rw [if_pos z1, z3]) z2.symm z3.symm
          have fr2 : ∀ z, (z < 38 ∨ 41 < z) → mi2 z = mi' z := fun z hz => by rw [hq]; exact frm _ _ _ _ _ z hz
          clear hq
          have h4' : Now mi2 mr2 f fb g gb n m A B := h4.keep (fun x x1 x2 => fr2 x (by omega))
          have h5' : Rch mi2 A B (D + 1) (-(D + 1)) := fun d' k' q1 q2 => by rw [fr2 36 (by omega)]; exact h5 d' k' q1 q2
          have r4 := rch_r hA hB h5' (d + -1 - 1) (x - 0 - (y - 1) - 1) (by omega)
          have r5 := rch_r hA hB h5' (d + -1 - 1) (x - 0 - (y - 1) + 1) (by omega)
          refine S_iinc (ls' := [_, _, _, _, _, _, _, _, _]) dX8_rebuild_200 rfl ⟨rfl, rfl⟩ rfl ?_
          refine V_goto 55 dX8_rebuild_203 (by decide) ?_
          refine V_iload dX8_rebuild_55 rfl ?_
          refine V_if_lt 206 dX8_rebuild_57 (by decide) (by omega) (fun h57 => absurd h57 (by omega)) (fun _ => ?_)
          refine V_aload_n dX8_rebuild_60 rfl ?_
          refine V_iload dX8_rebuild_61 rfl ?_
          refine V_iload_n dX8_rebuild_63 rfl ?_
          refine V_iload dX8_rebuild_64 rfl ?_
          refine V_isub dX8_rebuild_66 ?_
          refine V_callVP dX8_rebuild_67 ml_RX8_49 km_X5_beginOf kv_X5_beginOf (c_X5_beginOf (d := d + -1) (k := x - 0 - (y - 1)) hG (by omega) (by omega) (by omega) (by omega)) (by first | with_reducible assumption | rfl) rfl rfl rfl (Nat.le_of_ble_eq_true rfl) ⟨Nat.le_of_ble_eq_true rfl, Nat.le_of_ble_eq_true rfl⟩ ⟨Nat.le_of_ble_eq_true rfl, Nat.le_of_ble_eq_true rfl⟩ ?_
          rw [rch_begin (kk := -(d + -1)) hA hB (fun d' k' q1 q2 => h5' d' k' q1 (by omega)) hl2]
          refine S_istore (ls' := [_, _, _, _, _, _, _, _, _]) dX8_rebuild_70 ⟨Nat.le_of_ble_eq_true rfl, rfl, rfl⟩ rfl ?_
          exact ih (j + 1) (d + -1) (x - 0) (y - 1) _ mi2 _ (by omega) (by omega) (by omega) N3 h4' h5' (by omega) F2 (fun z hz => by rw [fr2 z hz]; exact h8 z hz)
        · have N1 : nx A B (d, x, y) = (d + -1, x - 1, y - 0) := by simp only [nx]; rw [if_neg (by omega), if_neg (by omega), if_neg hp, show d - 1 = d + -1 by omega, Int.sub_zero]
          have N2 : kd A B (d, x, y) = 1 := by simp only [kd]; rw [if_neg (by omega), if_neg hp]
          have N3 : tr A B n m D (j + 1) = (d + -1, x - 1, y - 0) := by show nx A B (tr A B n m D j) = _; rw [h3, N1]
          rw [N1] at z2 z3
          rw [N2] at z1
          have hl2 : lat (d + -1) (x - 1 - (y - 0)) := by
            have := lat_out hl (by omega) hp
            rw [show d + -1 = d - 1 by omega, show x - 1 - (y - 0) = x - y - 1 by omega]; exact this
          have hb2 := bI_rr hA hB (d + -1) (x - 1 - (y - 0)) hl2.1
          rw [if_neg (fun h => hp (ec.mp h))]
          refine S_istore (ls' := [_, _, _, _, _, _, _, _, _]) dX8_rebuild_123 ⟨Nat.le_of_ble_eq_true rfl, rfl, rfl⟩ rfl ?_
          refine V_iload_n dX8_rebuild_125 rfl ?_
          refine V_iload dX8_rebuild_126 rfl ?_
          refine V_if_eq 135 dX8_rebuild_128 (by decide) (by omega) (fun _ => ?_) (fun h128 => absurd h128 (by decide))
          refine V_iconst dX8_rebuild_135 ?_
          refine V_isub dX8_rebuild_136 ?_
          refine S_istore_n (ls' := [_, _, _, _, _, _, _, _, _]) dX8_rebuild_137 ⟨Nat.le_of_ble_eq_true rfl, rfl, rfl⟩ rfl ?_
          refine V_iload dX8_rebuild_138 rfl ?_
          refine V_iload dX8_rebuild_140 rfl ?_
          refine V_if_eq 149 dX8_rebuild_142 (by decide) (by omega) (fun _ => ?_) (fun h142 => absurd h142 (by decide))
          refine V_iconst dX8_rebuild_149 ?_
          refine V_isub dX8_rebuild_150 ?_
          refine S_istore (ls' := [_, _, _, _, _, _, _, _, _]) dX8_rebuild_151 ⟨Nat.le_of_ble_eq_true rfl, rfl, rfl⟩ rfl ?_
          refine S_iinc (ls' := [_, _, _, _, _, _, _, _, _]) dX8_rebuild_153 rfl ⟨rfl, rfl⟩ rfl ?_
          refine V_aload_n dX8_rebuild_156 rfl ?_
          refine V_iload dX8_rebuild_157 rfl ?_
          refine V_iload dX8_rebuild_159 rfl ?_
          refine V_if_eq 168 dX8_rebuild_161 (by decide) (by omega) (fun _ => ?_) (fun h161 => absurd h161 (by decide))
          refine V_iconst dX8_rebuild_168 ?_
          refine V_iload dX8_rebuild_169 rfl ?_
          refine V_if_eq 186 dX8_rebuild_171 (by decide) (by omega) (fun _ => ?_) (fun h171 => absurd h171 (by decide))
          refine V_aload_n dX8_rebuild_186 rfl ?_
          refine V_getr 0 _ dX8_rebuild_187 fl_RX8_24 (by first | with_reducible assumption | rfl) rfl rfl (by first | with_reducible assumption | exact hG.at rfl) ?_
          refine V_iload_n dX8_rebuild_190 rfl ?_
          refine V_callVP dX8_rebuild_191 ml_RX8_53 km_X7_at kv_X7_at (c_X7_at (i := x - 1) (by omega) u4 u5 u6 (by decide) (by omega)) (by first | with_reducible assumption | rfl) rfl rfl rfl (Nat.le_of_ble_eq_true rfl) ⟨Nat.le_of_ble_eq_true rfl, Nat.le_of_ble_eq_true rfl⟩ ⟨Nat.le_of_ble_eq_true rfl, Nat.le_of_ble_eq_true rfl⟩ ?_
          rw [uA]
          refine V_iload_n dX8_rebuild_194 rfl ?_
          refine V_iload dX8_rebuild_195 rfl ?_
          refine V_callV0 dX8_rebuild_197 ml_RX8_45 km_X8_put kv_X8_put (c_X8_put (i := sL n m D - j + -1) hG (by omega)) (by first | with_reducible assumption | rfl) rfl rfl rfl (Nat.le_of_ble_eq_true rfl) ⟨Nat.le_of_ble_eq_true rfl, Nat.le_of_ble_eq_true rfl⟩ ⟨Nat.le_of_ble_eq_true rfl, Nat.le_of_ble_eq_true rfl⟩ ?_
          rintro mi2 mr2 ⟨rfl, hq⟩
          rw [if_pos (by omega)] at hq
          have F2 : Fil mi2 A B n m D ((j + 1 : Nat) : Int) := by
            rw [hq]
            exact key _ _ _ _ z1.symm (by unfold sLt; rw [if_neg (by rw [z1]; decide), z2]) z2.symm z3.symm
          have fr2 : ∀ z, (z < 38 ∨ 41 < z) → mi2 z = mi' z := fun z hz => by rw [hq]; exact frm _ _ _ _ _ z hz
          clear hq
          have h4' : Now mi2 mr2 f fb g gb n m A B := h4.keep (fun x x1 x2 => fr2 x (by omega))
          have h5' : Rch mi2 A B (D + 1) (-(D + 1)) := fun d' k' q1 q2 => by rw [fr2 36 (by omega)]; exact h5 d' k' q1 q2
          have r4 := rch_r hA hB h5' (d + -1 - 1) (x - 1 - (y - 0) - 1) (by omega)
          have r5 := rch_r hA hB h5' (d + -1 - 1) (x - 1 - (y - 0) + 1) (by omega)
          refine S_iinc (ls' := [_, _, _, _, _, _, _, _, _]) dX8_rebuild_200 rfl ⟨rfl, rfl⟩ rfl ?_
          refine V_goto 55 dX8_rebuild_203 (by decide) ?_
          refine V_iload dX8_rebuild_55 rfl ?_
          refine V_if_lt 206 dX8_rebuild_57 (by decide) (by omega) (fun h57 => absurd h57 (by omega)) (fun _ => ?_)
          refine V_aload_n dX8_rebuild_60 rfl ?_
          refine V_iload dX8_rebuild_61 rfl ?_
          refine V_iload_n dX8_rebuild_63 rfl ?_
          refine V_iload dX8_rebuild_64 rfl ?_
          refine V_isub dX8_rebuild_66 ?_
          refine V_callVP dX8_rebuild_67 ml_RX8_49 km_X5_beginOf kv_X5_beginOf (c_X5_beginOf (d := d + -1) (k := x - 1 - (y - 0)) hG (by omega) (by omega) (by omega) (by omega)) (by first | with_reducible assumption | rfl) rfl rfl rfl (Nat.le_of_ble_eq_true rfl) ⟨Nat.le_of_ble_eq_true rfl, Nat.le_of_ble_eq_true rfl⟩ ⟨Nat.le_of_ble_eq_true rfl, Nat.le_of_ble_eq_true rfl⟩ ?_
          rw [rch_begin (kk := -(d + -1)) hA hB (fun d' k' q1 q2 => h5' d' k' q1 (by omega)) hl2]
          refine S_istore (ls' := [_, _, _, _, _, _, _, _, _]) dX8_rebuild_70 ⟨Nat.le_of_ble_eq_true rfl, rfl, rfl⟩ rfl ?_
          exact ih (j + 1) (d + -1) (x - 1) (y - 0) _ mi2 _ (by omega) (by omega) (by omega) N3 h4' h5' (by omega) F2 (fun z hz => by rw [fr2 z hz]; exact h8 z hz)
    · have N1 : nx A B (d, x, y) = (d, x + -1, y + -1) := by simp only [nx]; rw [if_pos (by omega), show x - 1 = x + -1 by omega, show y - 1 = y + -1 by omega]
      have N2 : kd A B (d, x, y) = 0 := by simp only [kd]; rw [if_pos (by omega)]
      have N3 : tr A B n m D (j + 1) = (d, x + -1, y + -1) := by show nx A B (tr A B n m D j) = _; rw [h3, N1]
      have hpos : 0 < d + x + y := by omega
      rw [N1] at z2 z3
      rw [N2] at z1
      have e7 : bI A B d (x - y) = bI A B d (x + -1 - (y + -1)) := by rw [show x + -1 - (y + -1) = x - y by omega]
      refine S_iinc (ls' := [_, _, _, _, _, _, _, _, _]) dX8_rebuild_78 rfl ⟨rfl, rfl⟩ rfl ?_
      refine S_iinc (ls' := [_, _, _, _, _, _, _, _, _]) dX8_rebuild_81 rfl ⟨rfl, rfl⟩ rfl ?_
      refine S_iinc (ls' := [_, _, _, _, _, _, _, _, _]) dX8_rebuild_84 rfl ⟨rfl, rfl⟩ rfl ?_
      refine V_aload_n dX8_rebuild_87 rfl ?_
      refine V_iload dX8_rebuild_88 rfl ?_
      refine V_iconst dX8_rebuild_90 ?_
      refine V_aload_n dX8_rebuild_91 rfl ?_
      refine V_getr 0 _ dX8_rebuild_92 fl_RX8_24 (by first | with_reducible assumption | rfl) rfl rfl (by first | with_reducible assumption | exact hG.at rfl) ?_
      refine V_iload_n dX8_rebuild_95 rfl ?_
      refine V_callVP dX8_rebuild_96 ml_RX8_53 km_X7_at kv_X7_at (c_X7_at (i := x + -1) (by omega) u4 u5 u6 (by decide) (by omega)) (by first | with_reducible assumption | rfl) rfl rfl rfl (Nat.le_of_ble_eq_true rfl) ⟨Nat.le_of_ble_eq_true rfl, Nat.le_of_ble_eq_true rfl⟩ ⟨Nat.le_of_ble_eq_true rfl, Nat.le_of_ble_eq_true rfl⟩ ?_
      rw [uA]
      refine V_iload_n dX8_rebuild_99 rfl ?_
      refine V_iload dX8_rebuild_100 rfl ?_
      refine V_callV0 dX8_rebuild_102 ml_RX8_45 km_X8_put kv_X8_put (c_X8_put (i := sL n m D - j + -1) hG (by omega)) (by first | with_reducible assumption | rfl) rfl rfl rfl (Nat.le_of_ble_eq_true rfl) ⟨Nat.le_of_ble_eq_true rfl, Nat.le_of_ble_eq_true rfl⟩ ⟨Nat.le_of_ble_eq_true rfl, Nat.le_of_ble_eq_true rfl⟩ ?_
      rintro mi2 mr2 ⟨rfl, hq⟩
      rw [if_pos (by omega)] at hq
      have F2 : Fil mi2 A B n m D ((j + 1 : Nat) : Int) := by
        rw [hq]
        exact key _ _ _ _ z1.symm (by unfold sLt; rw [if_neg (by rw [z1]; decide), z2]) z2.symm z3.symm
      have fr2 : ∀ z, (z < 38 ∨ 41 < z) → mi2 z = mi' z := fun z hz => by rw [hq]; exact frm _ _ _ _ _ z hz
      clear hq
      have h4' : Now mi2 mr2 f fb g gb n m A B := h4.keep (fun x x1 x2 => fr2 x (by omega))
      have h5' : Rch mi2 A B (D + 1) (-(D + 1)) := fun d' k' q1 q2 => by rw [fr2 36 (by omega)]; exact h5 d' k' q1 q2
      rw [e7]
      refine V_goto 72 dX8_rebuild_105 (by decide) ?_
      exact ih (j + 1) d (x + -1) (y + -1) _ mi2 _ (by omega) (by omega) (by omega) N3 h4' h5' (by omega) F2 (fun z hz => by rw [fr2 z hz]; exact h8 z hz)
set_option maxRecDepth 100000 in
set_option maxHeartbeats 2000000 in
theorem c_X8_rebuild (hN : Now mi mr f fb g gb n m A B) (hD : isD n m A B D) (hR : Rch mi A B (D + 1) (-(D + 1))) (hF : mi 35 1 = D) : C0 yX8_rebuild cX8_rebuild 9 none 3 SH mi mr [vr 37, vr 1, vr 35] (fun mi' mr' => mr' = mr ∧ ScM mi' (sL n m D) (sK A B n m D) (sLt A B n m D) (sX A B n m D) (sY A B n m D) ∧ ∀ x, x < 37 ∨ 41 < x → mi' x = mi x) := by
  have hA := hN.2.2.2.2.2.2.1
  have hB := hN.2.2.2.2.2.2.2
  have hLr := sL_r hA hB hD
  have hnn := isD_nn hD
  have hh := hD.2.1
  unfold hit at hh
  obtain ⟨⟨u1, u2, hG⟩, ⟨u4, u5, u6⟩, ⟨u7, u8, u9⟩, ⟨u10, u11, u12⟩, -⟩ := hN.u
  have hl : lat D (n - m) := ⟨by omega, by omega, by omega, by omega, by omega⟩
  have es : sL n m D = (n + m + D) / 2 := rfl
  refine Ct.ofV (ini := false) [some (vr 37), some (vr 1), some (vr 35), none, none, none, none, none, none] km_X8_rebuild (by decide) rfl (Nat.le_of_ble_eq_true rfl) ?_
  refine V_aload_n dX8_rebuild_0 rfl ?_
  refine V_getr 0 _ dX8_rebuild_1 fl_RX8_24 (by first | with_reducible assumption | rfl) rfl rfl (by first | with_reducible assumption | exact hG.at rfl) ?_
  refine V_geti 1 dX8_rebuild_4 fl_RX8_30 (by first | with_reducible assumption | rfl) rfl rfl ?_
  rw [u10]
  refine S_istore_n (ls' := [_, _, _, _, _, _, _, _, _]) dX8_rebuild_7 ⟨Nat.le_of_ble_eq_true rfl, rfl, rfl⟩ rfl ?_
  refine V_aload_n dX8_rebuild_8 rfl ?_
  refine V_getr 1 _ dX8_rebuild_9 fl_RX8_36 (by first | with_reducible assumption | rfl) rfl rfl (by first | with_reducible assumption | exact hG.at rfl) ?_
  refine V_geti 1 dX8_rebuild_12 fl_RX8_30 (by first | with_reducible assumption | rfl) rfl rfl ?_
  rw [u11]
  refine S_istore (ls' := [_, _, _, _, _, _, _, _, _]) dX8_rebuild_15 ⟨Nat.le_of_ble_eq_true rfl, rfl, rfl⟩ rfl ?_
  refine V_aload_n dX8_rebuild_17 rfl ?_
  refine V_iload_n dX8_rebuild_18 rfl ?_
  refine V_iload dX8_rebuild_19 rfl ?_
  refine V_iadd dX8_rebuild_21 ?_
  refine V_aload_n dX8_rebuild_22 rfl ?_
  refine V_geti 1 dX8_rebuild_23 fl_RX8_39 (by first | with_reducible assumption | rfl) rfl rfl ?_
  rw [hF]
  refine V_iadd dX8_rebuild_26 ?_
  refine V_iconst dX8_rebuild_27 ?_
  refine V_idiv dX8_rebuild_28 (by omega) (by omega) ?_
  refine V_puti 4 dX8_rebuild_29 fl_RX8_44 (by first | with_reducible assumption | rfl) rfl rfl rfl ?_
  rw [← es]
  refine V_aload_n dX8_rebuild_32 rfl ?_
  refine V_geti 4 dX8_rebuild_33 fl_RX8_44 (by first | with_reducible assumption | rfl) rfl rfl ?_
  rw [up2_ss]
  refine S_istore (ls' := [_, _, _, _, _, _, _, _, _]) dX8_rebuild_36 ⟨Nat.le_of_ble_eq_true rfl, rfl, rfl⟩ rfl ?_
  refine V_aload_n dX8_rebuild_38 rfl ?_
  refine V_iload dX8_rebuild_39 rfl ?_
  refine V_iconst dX8_rebuild_41 ?_
  refine V_iconst dX8_rebuild_42 ?_
  refine V_iload_n dX8_rebuild_43 rfl ?_
  refine V_iload dX8_rebuild_44 rfl ?_
  refine V_callV0 dX8_rebuild_46 ml_RX8_45 km_X8_put kv_X8_put (c_X8_put (i := sL n m D) hG (by omega)) (by first | with_reducible assumption | rfl) rfl rfl rfl (Nat.le_of_ble_eq_true rfl) ⟨Nat.le_of_ble_eq_true rfl, Nat.le_of_ble_eq_true rfl⟩ ⟨Nat.le_of_ble_eq_true rfl, Nat.le_of_ble_eq_true rfl⟩ ?_
  rintro mi2 mr2 ⟨rfl, hq⟩
  rw [if_pos (by omega)] at hq
  have q4 : mi2 37 4 = sL n m D := by rw [hq]; simp [up2, up1]
  have q5 : mi2 40 (sL n m D) = n ∧ mi2 41 (sL n m D) = m := by rw [hq]; simp [up2, up1]
  have fr2 : ∀ z, (z < 37 ∨ 41 < z) → mi2 z = mi z := fun z hz => by rw [hq, up2_n _ _ _ (by omega), up2_n _ _ _ (by omega), up2_n _ _ _ (by omega), up2_n _ _ _ (by omega), up2_n _ _ _ (by omega)]
  clear hq
  have h4' : Now mi2 mr2 f fb g gb n m A B := hN.keep (fun x x1 x2 => fr2 x (by omega))
  have h5' : Rch mi2 A B (D + 1) (-(D + 1)) := fun d' k' q1 q2 => by rw [fr2 36 (by omega)]; exact hR d' k' q1 q2
  have r4 := rch_r hA hB h5' (D - 1) (n - m - 1) (by omega)
  have r5 := rch_r hA hB h5' (D - 1) (n - m + 1) (by omega)
  refine V_aload_n dX8_rebuild_49 rfl ?_
  refine V_geti 1 dX8_rebuild_50 fl_RX8_39 (by first | with_reducible assumption | rfl) rfl rfl ?_
  rw [fr2 35 (by omega), hF]
  refine S_istore (ls' := [_, _, _, _, _, _, _, _, _]) dX8_rebuild_53 ⟨Nat.le_of_ble_eq_true rfl, rfl, rfl⟩ rfl ?_
  refine V_iload dX8_rebuild_55 rfl ?_
  refine V_if_lt 206 dX8_rebuild_57 (by decide) (by omega) (fun h57 => absurd h57 (by omega)) (fun _ => ?_)
  refine V_aload_n dX8_rebuild_60 rfl ?_
  refine V_iload dX8_rebuild_61 rfl ?_
  refine V_iload_n dX8_rebuild_63 rfl ?_
  refine V_iload dX8_rebuild_64 rfl ?_
  refine V_isub dX8_rebuild_66 ?_
  refine V_callVP dX8_rebuild_67 ml_RX8_49 km_X5_beginOf kv_X5_beginOf (c_X5_beginOf (d := D) (k := n - m) hG (by omega) (by omega) (by omega) (by omega)) (by first | with_reducible assumption | rfl) rfl rfl rfl (Nat.le_of_ble_eq_true rfl) ⟨Nat.le_of_ble_eq_true rfl, Nat.le_of_ble_eq_true rfl⟩ ⟨Nat.le_of_ble_eq_true rfl, Nat.le_of_ble_eq_true rfl⟩ ?_
  rw [rch_begin (kk := -D) hA hB (fun d' k' q1 q2 => h5' d' k' q1 (by omega)) hl]
  refine S_istore (ls' := [_, _, _, _, _, _, _, _, _]) dX8_rebuild_70 ⟨Nat.le_of_ble_eq_true rfl, rfl, rfl⟩ rfl ?_
  refine l_X8_rebuild (mi := mi2) hA hB hD (fun mi3 g1 g2 => ?_) ((sL n m D).toNat + 1) 0 D n m _ mi2 none (by omega) (by omega) (by omega) rfl h4' h5' (by omega) ?_ (fun _ _ => rfl)
  · refine ⟨rfl, rfl, rfl, ⟨⟨by rw [g2 37 (by omega)]; exact q4, by omega, by omega⟩, fun i i1 i2 => g1.1 i (by omega) i2, fun i i1 i2 => g1.2 i (by omega) i2⟩, fun x hx => by rw [g2 x (by omega), fr2 x hx]⟩
  · refine ⟨fun i i1 i2 => by omega, fun i i1 i2 => ?_⟩
    have he : i = sL n m D := by omega
    rw [he]
    have := (sc_ok hA hB hD).1
    rw [this.2.2.1, this.2.2.2]
    exact q5
end SCRIPT
end
section
/-! ===== the text of the least script ===== -/
/-- a row's or a field of signs holds a text -/
def TxtM (mi : MI) (a b : Nat) (l : List Int) : Prop := mi a 1 = l.length ∧ ∀ i : Nat, i < l.length → mi b i = l.getD i 0
theorem TxtM.add {mi : MI} {a b : Nat} {l : List Int} {v : Int} (h : TxtM mi a b l) (hab : a ≠ b) : TxtM (up2 (up2 mi b (mi a 1) v) a 1 (mi a 1 + 1)) a b (l ++ [v]) := by
  obtain ⟨h1, h2⟩ := h
  refine ⟨by rw [up2_ss, h1]; simp, fun i hi => ?_⟩
  rw [up2_n _ _ _ (Ne.symm hab)]
  simp at hi
  by_cases he : i = l.length
  · subst he
    rw [h1, up2_ss]
    simp
  · rw [up2_sn _ _ _ (by omega), h2 i (by omega)]
    simp [List.getD, List.getElem?_append_left (show i < l.length by omega)]
theorem TxtM.keep {mi mi' : MI} {a b : Nat} {l : List Int} (h : TxtM mi a b l) (ha : mi' a = mi a) (hb : mi' b = mi b) : TxtM mi' a b l := ⟨by rw [ha]; exact h.1, by rw [hb]; exact h.2⟩
def num (c : Int) : List Int := if c < 10 then [48 + c % 10] else [48 + c / 10, 48 + c % 10]
def lts (Lt : Int → Int) (a : Int) : Nat → List Int
  | 0 => []
  | t + 1 => lts Lt a t ++ [97 + Lt (a + t)]
def ptx (K Lt : Int → Int) (a e : Int) : List Int := if K a = 2 then 43 :: lts Lt a (e - a).toNat ++ [59] else (if K a = 0 then 61 else 45) :: num (e - a) ++ [59]
def kx (L : Int) (K : Int → Int) (i : Int) : Int := if 0 ≤ i ∧ i < L then K i else -1
def tx (L : Int) (K Lt : Int → Int) : Nat → Int × List Int
  | 0 => (0, [])
  | s + 1 => if kx L K (s + 1) = kx L K s then tx L K Lt s else (s + 1, (tx L K Lt s).2 ++ ptx K Lt (tx L K Lt s).1 (s + 1))
theorem lts_len (Lt : Int → Int) (a : Int) : ∀ t, (lts Lt a t).length = t
  | 0 => rfl
  | t + 1 => by simp [lts, lts_len Lt a t]
theorem num_len (c : Int) : (num c).length ≤ 2 ∧ (c < 10 → (num c).length = 1) := by
  unfold num
  split <;> simp
  omega
theorem ptx_len {K Lt : Int → Int} {a e : Int} (h : a < e) : ((ptx K Lt a e).length : Int) ≤ 3 * (e - a) := by
  have h1 := num_len (e - a)
  unfold ptx
  split
  · simp [lts_len]; omega
  · by_cases hc : e - a < 10
    · have := h1.2 hc
      simp [this]; omega
    · simp; omega
theorem tx_r (L : Int) (K Lt : Int → Int) : ∀ s : Nat, 0 ≤ (tx L K Lt s).1 ∧ (tx L K Lt s).1 ≤ s ∧ ((tx L K Lt s).2.length : Int) ≤ 3 * (tx L K Lt s).1
  | 0 => by simp [tx]
  | s + 1 => by
    have h := tx_r L K Lt s
    simp only [tx]
    split
    · omega
    · have hp := ptx_len (K := K) (Lt := Lt) (a := (tx L K Lt s).1) (e := (s : Int) + 1) (by omega)
      simp only [List.length_append]
      omega
/-- what kinds, letters and places can be -/
def ScR (L : Int) (K Lt X Y : Int → Int) : Prop := (∀ i, 0 ≤ i → i < L → 0 ≤ K i ∧ K i ≤ 2 ∧ 0 ≤ Lt i ∧ Lt i ≤ 7) ∧ ∀ i, 0 ≤ i → i ≤ L → 0 ≤ X i ∧ X i ≤ 28 ∧ 0 ≤ Y i ∧ Y i ≤ 28
theorem ScM.keep {mi mi' : MI} {L : Int} {K Lt X Y : Int → Int} (h : ScM mi L K Lt X Y) (hk : ∀ x, 37 ≤ x → x ≤ 41 → mi' x = mi x) : ScM mi' L K Lt X Y := by
  unfold ScM
  rw [hk 37 (by omega) (by omega), hk 38 (by omega) (by omega), hk 39 (by omega) (by omega), hk 40 (by omega) (by omega), hk 41 (by omega) (by omega)]
  exact h
theorem sc_R {n m : Int} {A B : Int → Int} (hA : NR n A) (hB : NR m B) {D : Int} (hD : isD n m A B D) : ScR (sL n m D) (sK A B n m D) (sLt A B n m D) (sX A B n m D) (sY A B n m D) := by
  have h := sc_ok hA hB hD
  have hn := hA.1
  have hm := hB.1
  refine ⟨fun i h0 h1 => ?_, fun i h0 h1 => by have := h.2.1 i h0 h1; omega⟩
  have b1 := h.2.1 i h0 (by omega)
  have b2 := h.2.1 (i + 1) (by omega) (by omega)
  unfold sLt
  rcases h.2.2 i h0 h1 with ⟨k, e1, e2, -⟩ | ⟨k, e1, e2⟩ | ⟨k, e1, e2⟩
  · rw [k, if_neg (by decide)]
    have := hA.2.1 (sX A B n m D i) (by omega) (by omega)
    omega
  · rw [k, if_neg (by decide)]
    have := hA.2.1 (sX A B n m D i) (by omega) (by omega)
    omega
  · rw [k, if_pos rfl]
    have := hB.2.1 (sY A B n m D i) (by omega) (by omega)
    omega
section TEXT
variable {mi : MI} {mr : MR} {L : Int} {K Lt X Y : Int → Int} {l : List Int}
theorem d_kindAt {i : Int} (hG : Gr mr) (hi : rng i) (h : ScM mi L K Lt X Y) : CP yX8_kindAt cX8_kindAt 2 (some .int) 0 SH mi mr [vr 37, vi i] (vi (kx L K i)) := by
  have h1 := c_X8_kindAt (mi := mi) (mr := mr) (i := i) hG hi (by have := h.1; omega)
  have e : (if 0 ≤ i ∧ i < mi 37 4 then mi 38 i else -1) = kx L K i := by
    unfold kx
    rw [h.1.1]
    split
    · rename_i hh; exact (h.2.1 i hh.1 hh.2).1
    · rfl
  rw [e] at h1
  exact h1
theorem d_letterOf {i : Int} (hG : Gr mr) (hi : rng i) (h : ScM mi L K Lt X Y) : CP yX8_letterOf cX8_letterOf 2 (some .int) 0 SH mi mr [vr 37, vi i] (vi (kx L Lt i)) := by
  have h1 := c_X8_letterOf (mi := mi) (mr := mr) (i := i) hG hi (by have := h.1; omega)
  have e : (if 0 ≤ i ∧ i < mi 37 4 then mi 39 i else -1) = kx L Lt i := by
    unfold kx
    rw [h.1.1]
    split
    · rename_i hh; exact (h.2.1 i hh.1 hh.2).2
    · rfl
  rw [e] at h1
  exact h1
theorem d_firstDoneAt {i : Int} (hG : Gr mr) (hi : 0 ≤ i ∧ i ≤ L) (h : ScM mi L K Lt X Y) : CP yX8_firstDoneAt cX8_firstDoneAt 2 (some .int) 0 SH mi mr [vr 37, vi i] (vi (X i)) := by
  have h1 := c_X8_firstDoneAt (mi := mi) (mr := mr) (i := i) hG (by have := h.1; omega) (by have := h.1; omega)
  rw [if_pos (by rw [h.1.1]; exact hi), (h.2.2 i hi.1 hi.2).1] at h1
  exact h1
theorem d_secondDoneAt {i : Int} (hG : Gr mr) (hi : 0 ≤ i ∧ i ≤ L) (h : ScM mi L K Lt X Y) : CP yX8_secondDoneAt cX8_secondDoneAt 2 (some .int) 0 SH mi mr [vr 37, vi i] (vi (Y i)) := by
  have h1 := c_X8_secondDoneAt (mi := mi) (mr := mr) (i := i) hG (by have := h.1; omega) (by have := h.1; omega)
  rw [if_pos (by rw [h.1.1]; exact hi), (h.2.2 i hi.1 hi.2).2] at h1
  exact h1
/-- a sign is added to the text -/
theorem d_add {v : Int} (hG : Gr mr) (h : TxtM mi 42 43 l) (hl : l.length < 168) : C0 yX7_add cX7_add 2 none 0 SH mi mr [vr 42, vi v] (fun mi' mr' => mr' = mr ∧ TxtM mi' 42 43 (l ++ [v]) ∧ ∀ x, x ≠ 42 → x ≠ 43 → mi' x = mi x) := by
  have h1 := c_X7_add (sh := SH) (mi := mi) (mr := mr) (a := 42) (b := 43) (N := 168) (v := v) rfl (hG.at rfl) rfl (by decide) (by have := h.1; omega) (by decide)
  rw [if_pos (by have := h.1; omega)] at h1
  refine C0.mono h1 (fun mi' mr' hq => ?_)
  obtain ⟨rfl, rfl⟩ := hq
  exact ⟨rfl, h.add (by decide), fun x h42 h43 => by rw [up2_n _ _ _ h42, up2_n _ _ _ h43]⟩
set_option maxRecDepth 100000 in
theorem c_X8_writeNumber {c : Int} (hG : Gr mr) (hc : 1 ≤ c ∧ c ≤ 56) (h : TxtM mi 42 43 l) (hl : l.length + 2 ≤ 168) : C0 yX8_writeNumber cX8_writeNumber 2 none 1 SH mi mr [vr 42, vi c] (fun mi' mr' => mr' = mr ∧ TxtM mi' 42 43 (l ++ num c) ∧ ∀ x, x ≠ 42 → x ≠ 43 → mi' x = mi x) := by
  refine Ct.ofV (ini := false) [some (vr 42), some (vi c)] km_X8_writeNumber (by decide) rfl (Nat.le_of_ble_eq_true rfl) ?_
  refine V_iload_n dX8_writeNumber_0 rfl ?_
  refine V_bipush dX8_writeNumber_1 (by decide) ?_
  refine V_icmp_lt 17 dX8_writeNumber_3 (by decide) (by omega) (by omega) (fun h3 => ?_) (fun h3 => ?_)
  · refine V_aload_n dX8_writeNumber_17 rfl ?_
    refine V_bipush dX8_writeNumber_18 (by decide) ?_
    refine V_iload_n dX8_writeNumber_20 rfl ?_
    refine V_bipush dX8_writeNumber_21 (by decide) ?_
    refine V_irem dX8_writeNumber_23 (by omega) (by omega) ?_
    refine V_iadd dX8_writeNumber_24 ?_
    refine V_callV0 dX8_writeNumber_25 ml_RX8_74 km_X7_add kv_X7_add (d_add hG h (by omega)) (by first | with_reducible assumption | rfl) rfl rfl rfl (Nat.le_of_ble_eq_true rfl) ⟨Nat.le_of_ble_eq_true rfl, Nat.le_of_ble_eq_true rfl⟩ ⟨Nat.le_of_ble_eq_true rfl, Nat.le_of_ble_eq_true rfl⟩ ?_
    rintro mi2 mr2 ⟨rfl, t2, f2⟩
    refine V_vret dX8_writeNumber_28 rfl ⟨Nat.le_of_ble_eq_true rfl, Nat.le_of_ble_eq_true rfl⟩ ?_
    exact ⟨rfl, rfl, rfl, by unfold num; rw [if_pos h3]; exact t2, f2⟩
  · refine V_aload_n dX8_writeNumber_6 rfl ?_
    refine V_bipush dX8_writeNumber_7 (by decide) ?_
    refine V_iload_n dX8_writeNumber_9 rfl ?_
    refine V_bipush dX8_writeNumber_10 (by decide) ?_
    refine V_idiv dX8_writeNumber_12 (by omega) (by omega) ?_
    refine V_iadd dX8_writeNumber_13 ?_
    refine V_callV0 dX8_writeNumber_14 ml_RX8_74 km_X7_add kv_X7_add (d_add hG h (by omega)) (by first | with_reducible assumption | rfl) rfl rfl rfl (Nat.le_of_ble_eq_true rfl) ⟨Nat.le_of_ble_eq_true rfl, Nat.le_of_ble_eq_true rfl⟩ ⟨Nat.le_of_ble_eq_true rfl, Nat.le_of_ble_eq_true rfl⟩ ?_
    rintro mi2 mr2 ⟨rfl, t2, f2⟩
    refine V_aload_n dX8_writeNumber_17 rfl ?_
    refine V_bipush dX8_writeNumber_18 (by decide) ?_
    refine V_iload_n dX8_writeNumber_20 rfl ?_
    refine V_bipush dX8_writeNumber_21 (by decide) ?_
    refine V_irem dX8_writeNumber_23 (by omega) (by omega) ?_
    refine V_iadd dX8_writeNumber_24 ?_
    refine V_callV0 dX8_writeNumber_25 ml_RX8_74 km_X7_add kv_X7_add (d_add hG t2 (by simp; omega)) (by first | with_reducible assumption | rfl) rfl rfl rfl (Nat.le_of_ble_eq_true rfl) ⟨Nat.le_of_ble_eq_true rfl, Nat.le_of_ble_eq_true rfl⟩ ⟨Nat.le_of_ble_eq_true rfl, Nat.le_of_ble_eq_true rfl⟩ ?_
    rintro mi3 mr3 ⟨rfl, t3, f3⟩
    refine V_vret dX8_writeNumber_28 rfl ⟨Nat.le_of_ble_eq_true rfl, Nat.le_of_ble_eq_true rfl⟩ ?_
    exact ⟨rfl, rfl, rfl, by unfold num; rw [if_neg h3]; simpa using t3, fun x h1 h2 => by rw [f3 x h1 h2, f2 x h1 h2]⟩
set_option maxRecDepth 100000 in
theorem l_X8_writePart {Q : PQ} {a e : Int} (hG : Gr mr) (hS : ScM mi L K Lt X Y) (hR : ScR L K Lt X Y) (hae : 0 ≤ a ∧ a < e ∧ e ≤ L) (κ : Int)
    (kk : ∀ (mi' : MI) (o5 : Option AV), TxtM mi' 42 43 (l ++ lts Lt a (e - a).toNat) → (∀ x, x ≠ 42 → x ≠ 43 → mi' x = mi x) → V (RX8, cX8_writePart, 6, rm 2, false, none, none) Q 0 0 SH mi' mr [some (vr 37), some (vr 42), some (vi a), some (vi e), some (vi κ), o5] [] 47) (hl : l.length + (e - a).toNat ≤ 168) :
    ∀ (t s : Nat) (i : Int) (mi' : MI), i = a + s → i ≤ e → e - i < t → TxtM mi' 42 43 (l ++ lts Lt a s) → (∀ x, x ≠ 42 → x ≠ 43 → mi' x = mi x) → V (RX8, cX8_writePart, 6, rm 2, false, none, none) Q 0 0 SH mi' mr [some (vr 37), some (vr 42), some (vi a), some (vi e), some (vi κ), some (vi i)] [] 22 := by
  have hL := hS.1
  intro t
  induction t with
  | zero => intro s i mi' hi h1 h2; omega
  | succ t ih =>
    intro s i mi' hi h1 h2 h3 h4
    have hS' : ScM mi' L K Lt X Y := hS.keep (fun x x1 x2 => h4 x (by omega) (by omega))
    refine V_iload dX8_writePart_22 rfl ?_
    refine V_iload_n dX8_writePart_24 rfl ?_
    refine V_icmp_ge 47 dX8_writePart_25 (by decide) (by omega) (by omega) (fun h25 => ?_) (fun h25 => ?_)
    · have e1 : s = (e - a).toNat := by omega
      rw [e1] at h3
      exact kk mi' _ h3 h4
    · refine V_aload_n dX8_writePart_28 rfl ?_
      refine V_bipush dX8_writePart_29 (by decide) ?_
      refine V_aload_n dX8_writePart_31 rfl ?_
      refine V_iload dX8_writePart_32 rfl ?_
      refine V_callVP dX8_writePart_34 ml_RX8_64 km_X8_letterOf kv_X8_letterOf (d_letterOf (i := i) hG (by omega) hS') (by first | with_reducible assumption | rfl) rfl rfl rfl (Nat.le_of_ble_eq_true rfl) ⟨Nat.le_of_ble_eq_true rfl, Nat.le_of_ble_eq_true rfl⟩ ⟨Nat.le_of_ble_eq_true rfl, Nat.le_of_ble_eq_true rfl⟩ ?_
      have hk : kx L Lt i = Lt i := by unfold kx; rw [if_pos ⟨by omega, by omega⟩]
      rw [hk]
      refine V_iadd dX8_writePart_37 ?_
      refine V_callV0 dX8_writePart_38 ml_RX8_74 km_X7_add kv_X7_add (d_add hG h3 (by simp [lts_len]; omega)) (by first | with_reducible assumption | rfl) rfl rfl rfl (Nat.le_of_ble_eq_true rfl) ⟨Nat.le_of_ble_eq_true rfl, Nat.le_of_ble_eq_true rfl⟩ ⟨Nat.le_of_ble_eq_true rfl, Nat.le_of_ble_eq_true rfl⟩ ?_
      rintro mi2 mr2 ⟨rfl, t2, f2⟩
      refine S_iinc (ls' := [_, _, _, _, _, _]) dX8_writePart_41 rfl ⟨rfl, rfl⟩ rfl ?_
      refine V_goto 22 dX8_writePart_44 (by decide) ?_
      exact ih (s + 1) (i + 1) mi2 (by omega) (by omega) (by omega) (by rw [List.append_assoc] at t2; rw [hi] at t2; exact t2) (fun x x1 x2 => by rw [f2 x x1 x2, h4 x x1 x2])
set_option maxRecDepth 100000 in
theorem c_X8_writePart {a e : Int} (hG : Gr mr) (hS : ScM mi L K Lt X Y) (hR : ScR L K Lt X Y) (hae : 0 ≤ a ∧ a < e ∧ e ≤ L) (h : TxtM mi 42 43 l) (hl : (l.length : Int) + 3 * (e - a) ≤ 168) : C0 yX8_writePart cX8_writePart 6 none 2 SH mi mr [vr 37, vr 42, vi a, vi e] (fun mi' mr' => mr' = mr ∧ TxtM mi' 42 43 (l ++ ptx K Lt a e) ∧ ∀ x, x ≠ 42 → x ≠ 43 → mi' x = mi x) := by
  have hL := hS.1
  have hka := hR.1 a hae.1 (by omega)
  have hk : kx L K a = K a := by unfold kx; rw [if_pos ⟨by omega, by omega⟩]
  have hnl := num_len (e - a)
  refine Ct.ofV (ini := false) [some (vr 37), some (vr 42), some (vi a), some (vi e), none, none] km_X8_writePart (by decide) rfl (Nat.le_of_ble_eq_true rfl) ?_
  refine V_aload_n dX8_writePart_0 rfl ?_
  refine V_iload_n dX8_writePart_1 rfl ?_
  refine V_callVP dX8_writePart_2 ml_RX8_61 km_X8_kindAt kv_X8_kindAt (d_kindAt (i := a) hG (by omega) hS) rfl rfl rfl rfl (Nat.le_of_ble_eq_true rfl) ⟨Nat.le_of_ble_eq_true rfl, Nat.le_of_ble_eq_true rfl⟩ ⟨Nat.le_of_ble_eq_true rfl, Nat.le_of_ble_eq_true rfl⟩ ?_
  rw [hk]
  by_cases h2 : K a = 2
  · refine S_istore (ls' := [_, _, _, _, _, _]) dX8_writePart_5 ⟨Nat.le_of_ble_eq_true rfl, rfl, rfl⟩ rfl ?_
    refine V_iload dX8_writePart_7 rfl ?_
    refine V_iconst dX8_writePart_9 ?_
    refine V_icmp_ne 50 dX8_writePart_10 (by decide) (by omega) (by omega) (fun h10 => absurd h10 (by omega)) (fun _ => ?_)
    refine V_aload_n dX8_writePart_13 rfl ?_
    refine V_bipush dX8_writePart_14 (by decide) ?_
    refine V_callV0 dX8_writePart_16 ml_RX8_74 km_X7_add kv_X7_add (d_add hG h (by omega)) (by first | with_reducible assumption | rfl) rfl rfl rfl (Nat.le_of_ble_eq_true rfl) ⟨Nat.le_of_ble_eq_true rfl, Nat.le_of_ble_eq_true rfl⟩ ⟨Nat.le_of_ble_eq_true rfl, Nat.le_of_ble_eq_true rfl⟩ ?_
    rintro mi2 mr2 ⟨rfl, t2, f2⟩
    have hS2 : ScM mi2 L K Lt X Y := hS.keep (fun x x1 x2 => f2 x (by omega) (by omega))
    refine V_iload_n dX8_writePart_19 rfl ?_
    refine S_istore (ls' := [_, _, _, _, _, _]) dX8_writePart_20 ⟨Nat.le_of_ble_eq_true rfl, rfl, rfl⟩ rfl ?_
    refine l_X8_writePart (l := l ++ [43]) (mi := mi2) hG hS2 hR hae _ (fun mi3 o5 t3 f3 => ?_) (by simp; omega) ((e - a).toNat + 1) 0 a mi2 (by omega) (by omega) (by omega) (by simpa [lts] using t2) (fun _ _ _ => rfl)
    refine V_goto 73 dX8_writePart_47 (by decide) ?_
    refine V_aload_n dX8_writePart_73 rfl ?_
    refine V_bipush dX8_writePart_74 (by decide) ?_
    refine V_callV0 dX8_writePart_76 ml_RX8_74 km_X7_add kv_X7_add (d_add hG t3 (by simp [lts_len]; omega)) (by first | with_reducible assumption | rfl) rfl rfl rfl (Nat.le_of_ble_eq_true rfl) ⟨Nat.le_of_ble_eq_true rfl, Nat.le_of_ble_eq_true rfl⟩ ⟨Nat.le_of_ble_eq_true rfl, Nat.le_of_ble_eq_true rfl⟩ ?_
    rintro mi4 mr4 ⟨rfl, t4, f4⟩
    refine V_vret dX8_writePart_79 rfl ⟨Nat.le_of_ble_eq_true rfl, Nat.le_of_ble_eq_true rfl⟩ ?_
    refine ⟨rfl, rfl, rfl, ?_, fun x x1 x2 => by rw [f4 x x1 x2, f3 x x1 x2, f2 x x1 x2]⟩
    unfold ptx
    rw [if_pos h2]
    simpa using t4
  · have hcat : ∀ (v : Int) (mi2 : MI), v = (if K a = 0 then 61 else 45) → TxtM mi2 42 43 (l ++ [v] ++ num (e - a) ++ [59]) → TxtM mi2 42 43 (l ++ ptx K Lt a e) := by
      intro v mi2 hv ht
      unfold ptx
      rw [if_neg h2, ← hv]
      simpa using ht
    refine S_istore (ls' := [_, _, _, _, _, _]) dX8_writePart_5 ⟨Nat.le_of_ble_eq_true rfl, rfl, rfl⟩ rfl ?_
    refine V_iload dX8_writePart_7 rfl ?_
    refine V_iconst dX8_writePart_9 ?_
    refine V_icmp_ne 50 dX8_writePart_10 (by decide) (by omega) (by omega) (fun _ => ?_) (fun h10 => absurd h10 (by omega))
    refine V_aload_n dX8_writePart_50 rfl ?_
    refine V_iload dX8_writePart_51 rfl ?_
    refine V_if_ne 61 dX8_writePart_53 (by decide) (by omega) (fun h53 => ?_) (fun h53 => ?_)
    · refine V_bipush dX8_writePart_61 (by decide) ?_
      refine V_callV0 dX8_writePart_63 ml_RX8_74 km_X7_add kv_X7_add (d_add hG h (by omega)) (by first | with_reducible assumption | rfl) rfl rfl rfl (Nat.le_of_ble_eq_true rfl) ⟨Nat.le_of_ble_eq_true rfl, Nat.le_of_ble_eq_true rfl⟩ ⟨Nat.le_of_ble_eq_true rfl, Nat.le_of_ble_eq_true rfl⟩ ?_
      rintro mi2 mr2 ⟨rfl, t2, f2⟩
      refine V_aload_n dX8_writePart_66 rfl ?_
      refine V_iload_n dX8_writePart_67 rfl ?_
      refine V_iload_n dX8_writePart_68 rfl ?_
      refine V_isub dX8_writePart_69 ?_
      refine V_callS0 dX8_writePart_70 ml_RX8_78 km_X8_writeNumber ks_X8_writeNumber (c_X8_writeNumber (c := e - a) hG (by omega) t2 (by simp; omega)) rfl rfl (Nat.le_of_ble_eq_true rfl) ⟨Nat.le_of_ble_eq_true rfl, Nat.le_of_ble_eq_true rfl⟩ ⟨Nat.le_of_ble_eq_true rfl, Nat.le_of_ble_eq_true rfl⟩ ?_
      rintro mi3 mr3 ⟨rfl, t3, f3⟩
      refine V_aload_n dX8_writePart_73 rfl ?_
      refine V_bipush dX8_writePart_74 (by decide) ?_
      refine V_callV0 dX8_writePart_76 ml_RX8_74 km_X7_add kv_X7_add (d_add hG t3 (by simp; omega)) (by first | with_reducible assumption | rfl) rfl rfl rfl (Nat.le_of_ble_eq_true rfl) ⟨Nat.le_of_ble_eq_true rfl, Nat.le_of_ble_eq_true rfl⟩ ⟨Nat.le_of_ble_eq_true rfl, Nat.le_of_ble_eq_true rfl⟩ ?_
      rintro mi4 mr4 ⟨rfl, t4, f4⟩
      refine V_vret dX8_writePart_79 rfl ⟨Nat.le_of_ble_eq_true rfl, Nat.le_of_ble_eq_true rfl⟩ ?_
      refine ⟨rfl, rfl, rfl, hcat _ _ ?_ t4, fun x x1 x2 => by rw [f4 x x1 x2, f3 x x1 x2, f2 x x1 x2]⟩
      first | (rw [if_pos (by omega)]; done) | (rw [if_neg (by omega)]; done)
    · refine V_bipush dX8_writePart_56 (by decide) ?_
      refine V_goto 63 dX8_writePart_58 (by decide) ?_
      refine V_callV0 dX8_writePart_63 ml_RX8_74 km_X7_add kv_X7_add (d_add hG h (by omega)) (by first | with_reducible assumption | rfl) rfl rfl rfl (Nat.le_of_ble_eq_true rfl) ⟨Nat.le_of_ble_eq_true rfl, Nat.le_of_ble_eq_true rfl⟩ ⟨Nat.le_of_ble_eq_true rfl, Nat.le_of_ble_eq_true rfl⟩ ?_
      rintro mi2 mr2 ⟨rfl, t2, f2⟩
      refine V_aload_n dX8_writePart_66 rfl ?_
      refine V_iload_n dX8_writePart_67 rfl ?_
      refine V_iload_n dX8_writePart_68 rfl ?_
      refine V_isub dX8_writePart_69 ?_
      refine V_callS0 dX8_writePart_70 ml_RX8_78 km_X8_writeNumber ks_X8_writeNumber (c_X8_writeNumber (c := e - a) hG (by omega) t2 (by simp; omega)) rfl rfl (Nat.le_of_ble_eq_true rfl) ⟨Nat.le_of_ble_eq_true rfl, Nat.le_of_ble_eq_true rfl⟩ ⟨Nat.le_of_ble_eq_true rfl, Nat.le_of_ble_eq_true rfl⟩ ?_
      rintro mi3 mr3 ⟨rfl, t3, f3⟩
      refine V_aload_n dX8_writePart_73 rfl ?_
      refine V_bipush dX8_writePart_74 (by decide) ?_
      refine V_callV0 dX8_writePart_76 ml_RX8_74 km_X7_add kv_X7_add (d_add hG t3 (by simp; omega)) (by first | with_reducible assumption | rfl) rfl rfl rfl (Nat.le_of_ble_eq_true rfl) ⟨Nat.le_of_ble_eq_true rfl, Nat.le_of_ble_eq_true rfl⟩ ⟨Nat.le_of_ble_eq_true rfl, Nat.le_of_ble_eq_true rfl⟩ ?_
      rintro mi4 mr4 ⟨rfl, t4, f4⟩
      refine V_vret dX8_writePart_79 rfl ⟨Nat.le_of_ble_eq_true rfl, Nat.le_of_ble_eq_true rfl⟩ ?_
      refine ⟨rfl, rfl, rfl, hcat _ _ ?_ t4, fun x x1 x2 => by rw [f4 x x1 x2, f3 x x1 x2, f2 x x1 x2]⟩
      first | (rw [if_pos (by omega)]; done) | (rw [if_neg (by omega)]; done)
set_option maxRecDepth 100000 in
theorem c_X8_writeTo (hG : Gr mr) (hS : ScM mi L K Lt X Y) (hR : ScR L K Lt X Y) : C0 yX8_writeTo cX8_writeTo 4 none 3 SH mi mr [vr 37, vr 42] (fun mi' mr' => mr' = mr ∧ TxtM mi' 42 43 (tx L K Lt L.toNat).2 ∧ ∀ x, x ≠ 42 → x ≠ 43 → mi' x = mi x) := by
  have hL := hS.1
  have kr : ∀ i, -1 ≤ kx L K i ∧ kx L K i ≤ 2 := by
    intro i
    unfold kx
    split
    · rename_i hh
      have := hR.1 i hh.1 hh.2
      omega
    · omega
  have loop : ∀ (t s : Nat) (mi' : MI), (s : Int) ≤ L → L - s < t → TxtM mi' 42 43 (tx L K Lt s).2 → (∀ x, x ≠ 42 → x ≠ 43 → mi' x = mi x) → V (RX8, cX8_writeTo, 4, rm 3, false, none, none) (fun r sh' mi' mr' => sh' = SH ∧ r = none ∧ mr' = mr ∧ TxtM mi' 42 43 (tx L K Lt L.toNat).2 ∧ ∀ x, x ≠ 42 → x ≠ 43 → mi' x = mi x) 0 0 SH mi' mr [some (vr 37), some (vr 42), some (vi (tx L K Lt s).1), some (vi s)] [] 8 := by
    intro t
    induction t with
    | zero => intro s mi' h1 h2; omega
    | succ t ih =>
      intro s mi' h1 h2 h3 h4
      have hS' : ScM mi' L K Lt X Y := hS.keep (fun x x1 x2 => h4 x (by omega) (by omega))
      have hL' := hS'.1
      have htr := tx_r L K Lt s
      have k1 := kr s
      have k2 := kr (s + 1)
      have etx : tx L K Lt (s + 1) = if kx L K (s + 1) = kx L K s then tx L K Lt s else (s + 1, (tx L K Lt s).2 ++ ptx K Lt (tx L K Lt s).1 (s + 1)) := rfl
      refine V_iload_n dX8_writeTo_8 rfl ?_
      refine V_aload_n dX8_writeTo_9 rfl ?_
      refine V_geti 4 dX8_writeTo_10 fl_RX8_44 (by first | with_reducible assumption | rfl) rfl rfl ?_
      refine V_icmp_ge 50 dX8_writeTo_13 (by decide) (by omega) (by omega) (fun h13 => ?_) (fun h13 => ?_)
      · refine V_vret dX8_writeTo_50 rfl ⟨Nat.le_of_ble_eq_true rfl, Nat.le_of_ble_eq_true rfl⟩ ?_
        exact ⟨rfl, rfl, rfl, by rw [show L.toNat = s by omega]; exact h3, h4⟩
      · refine V_aload_n dX8_writeTo_16 rfl ?_
        refine V_iload_n dX8_writeTo_17 rfl ?_
        refine V_iconst dX8_writeTo_18 ?_
        refine V_iadd dX8_writeTo_19 ?_
        refine V_callVP dX8_writeTo_20 ml_RX8_61 km_X8_kindAt kv_X8_kindAt (d_kindAt (i := s + 1) hG (by omega) hS') (by first | with_reducible assumption | rfl) rfl rfl rfl (Nat.le_of_ble_eq_true rfl) ⟨Nat.le_of_ble_eq_true rfl, Nat.le_of_ble_eq_true rfl⟩ ⟨Nat.le_of_ble_eq_true rfl, Nat.le_of_ble_eq_true rfl⟩ ?_
        refine V_aload_n dX8_writeTo_23 rfl ?_
        refine V_iload_n dX8_writeTo_24 rfl ?_
        refine V_callVP dX8_writeTo_25 ml_RX8_61 km_X8_kindAt kv_X8_kindAt (d_kindAt (i := s) hG (by omega) hS') (by first | with_reducible assumption | rfl) rfl rfl rfl (Nat.le_of_ble_eq_true rfl) ⟨Nat.le_of_ble_eq_true rfl, Nat.le_of_ble_eq_true rfl⟩ ⟨Nat.le_of_ble_eq_true rfl, Nat.le_of_ble_eq_true rfl⟩ ?_
        refine V_icmp_eq 44 dX8_writeTo_28 (by decide) (by omega) (by omega) (fun h28 => ?_) (fun h28 => ?_)
        · rw [if_pos h28] at etx
          refine S_iinc (ls' := [_, _, _, _]) dX8_writeTo_44 rfl ⟨rfl, rfl⟩ rfl ?_
          refine V_goto 8 dX8_writeTo_47 (by decide) ?_
          have hgo := ih (s + 1) mi' (by omega) (by omega) (by rw [etx]; exact h3) h4
          rw [etx] at hgo
          exact hgo
        · rw [if_neg h28] at etx
          refine V_aload_n dX8_writeTo_31 rfl ?_
          refine V_aload_n dX8_writeTo_32 rfl ?_
          refine V_iload_n dX8_writeTo_33 rfl ?_
          refine V_iload_n dX8_writeTo_34 rfl ?_
          refine V_iconst dX8_writeTo_35 ?_
          refine V_iadd dX8_writeTo_36 ?_
          refine V_callV0 dX8_writeTo_37 ml_RX8_70 km_X8_writePart kv_X8_writePart (c_X8_writePart (a := (tx L K Lt s).1) (e := s + 1) hG hS' hR (by omega) h3 (by omega)) (by first | with_reducible assumption | rfl) rfl rfl rfl (Nat.le_of_ble_eq_true rfl) ⟨Nat.le_of_ble_eq_true rfl, Nat.le_of_ble_eq_true rfl⟩ ⟨Nat.le_of_ble_eq_true rfl, Nat.le_of_ble_eq_true rfl⟩ ?_
          rintro mi2 mr2 ⟨rfl, t2, f2⟩
          refine V_iload_n dX8_writeTo_40 rfl ?_
          refine V_iconst dX8_writeTo_41 ?_
          refine V_iadd dX8_writeTo_42 ?_
          refine S_istore_n (ls' := [_, _, _, _]) dX8_writeTo_43 ⟨Nat.le_of_ble_eq_true rfl, rfl, rfl⟩ rfl ?_
          refine S_iinc (ls' := [_, _, _, _]) dX8_writeTo_44 rfl ⟨rfl, rfl⟩ rfl ?_
          refine V_goto 8 dX8_writeTo_47 (by decide) ?_
          have hgo := ih (s + 1) mi2 (by omega) (by omega) (by rw [etx]; exact t2) (fun x x1 x2 => by rw [f2 x x1 x2, h4 x x1 x2])
          rw [etx] at hgo
          exact hgo
  refine Ct.ofV (ini := false) [some (vr 37), some (vr 42), none, none] km_X8_writeTo (by decide) rfl (Nat.le_of_ble_eq_true rfl) ?_
  refine V_aload_n dX8_writeTo_0 rfl ?_
  refine V_callV0 dX8_writeTo_1 ml_RX8_67 km_X7_empty kv_X7_empty (c_X7_empty rfl) (by first | with_reducible assumption | rfl) rfl rfl rfl (Nat.le_of_ble_eq_true rfl) ⟨Nat.le_of_ble_eq_true rfl, Nat.le_of_ble_eq_true rfl⟩ ⟨Nat.le_of_ble_eq_true rfl, Nat.le_of_ble_eq_true rfl⟩ ?_
  rintro mi2 mr2 ⟨rfl, hq⟩
  have f2 : ∀ x, x ≠ 42 → x ≠ 43 → mi2 x = mi x := fun x x1 x2 => by rw [hq, up2_n _ _ _ x1]
  have t2 : TxtM mi2 42 43 [] := ⟨by rw [hq, up2_ss]; rfl, fun i hi => by simp at hi⟩
  refine V_iconst dX8_writeTo_4 ?_
  refine S_istore_n (ls' := [_, _, _, _]) dX8_writeTo_5 ⟨Nat.le_of_ble_eq_true rfl, rfl, rfl⟩ rfl ?_
  refine V_iconst dX8_writeTo_6 ?_
  refine S_istore_n (ls' := [_, _, _, _]) dX8_writeTo_7 ⟨Nat.le_of_ble_eq_true rfl, rfl, rfl⟩ rfl ?_
  exact loop (L.toNat + 1) 0 mi2 (by omega) (by omega) t2 f2
end TEXT
end
section
/-! ===== DiagonalTexts$Hunks ===== -/
/-- hunks by their first and last edits, and how many edits they have, out of the first s steps -/
def hk (r : Int) (K : Int → Int) : Nat → Int × (Int → Int) × (Int → Int) × (Int → Int)
  | 0 => (0, fun _ => 0, fun _ => -1, fun _ => 0)
  | s + 1 => if K s = 0 then hk r K s else if (hk r K s).1 = 0 ∨ 2 * r < (s : Int) - (hk r K s).2.2.1 ((hk r K s).1 - 1) - 1 then ((hk r K s).1 + 1, up1 (hk r K s).2.1 (hk r K s).1 s, up1 (hk r K s).2.2.1 (hk r K s).1 s, up1 (hk r K s).2.2.2 (hk r K s).1 1) else ((hk r K s).1, (hk r K s).2.1, up1 (hk r K s).2.2.1 ((hk r K s).1 - 1) s, up1 (hk r K s).2.2.2 ((hk r K s).1 - 1) ((hk r K s).2.2.2 ((hk r K s).1 - 1) + 1))
theorem hk_r (r : Int) (K : Int → Int) : ∀ s : Nat, 0 ≤ (hk r K s).1 ∧ (hk r K s).1 ≤ s ∧ -1 ≤ (hk r K s).2.2.1 ((hk r K s).1 - 1) ∧ (hk r K s).2.2.1 ((hk r K s).1 - 1) < s
  | 0 => by simp [hk]
  | s + 1 => by
    have h := hk_r r K s
    simp only [hk]
    split
    · omega
    · split
      · dsimp only; rw [show (hk r K s).1 + 1 - 1 = (hk r K s).1 by omega, up1_s]; omega
      · dsimp only; rw [up1_s]; omega
theorem hk_C (r : Int) (K : Int → Int) : ∀ (s : Nat) (i : Int), 0 ≤ (hk r K s).2.2.2 i ∧ (hk r K s).2.2.2 i ≤ s
  | 0, i => by simp [hk]
  | s + 1, i => by
    have h := fun i => hk_C r K s i
    have h1 := h i
    have h2 := h ((hk r K s).1 - 1)
    simp only [hk]
    split
    · omega
    · split
      · simp only [up1]; split <;> omega
      · simp only [up1]; split <;> omega
def HkM (mi : MI) (r L : Int) (q : Int × (Int → Int) × (Int → Int) × (Int → Int)) : Prop := mi 44 3 = q.1 ∧ ∀ i, 0 ≤ i → i < q.1 → mi 45 i = max (q.2.1 i - r) 0 ∧ mi 46 i = min (q.2.2.1 i + 1 + r) L ∧ mi 47 i = q.2.2.2 i
section HUNKS
variable {mi : MI} {mr : MR} {L : Int} {K Lt X Y : Int → Int} {l : List Int}
set_option maxRecDepth 100000 in
theorem c_X8_isEdit {i : Int} (hG : Gr mr) (hi : 0 ≤ i ∧ i < L) (hS : ScM mi L K Lt X Y) (hR : ScR L K Lt X Y) : CP yX8_isEdit cX8_isEdit 3 (some .boolean) 1 SH mi mr [vr 37, vi i] (vi (if K i = 0 then 0 else 1)) := by
  have hL := hS.1
  have hk := hR.1 i hi.1 hi.2
  have e : kx L K i = K i := by unfold kx; rw [if_pos hi]
  refine Ct.ofV (ini := false) [some (vr 37), some (vi i), none] km_X8_isEdit (by decide) rfl (Nat.le_of_ble_eq_true rfl) ?_
  refine V_aload_n dX8_isEdit_0 rfl ?_
  refine V_iload_n dX8_isEdit_1 rfl ?_
  refine V_callVP dX8_isEdit_2 ml_RX8_61 km_X8_kindAt kv_X8_kindAt (d_kindAt (i := i) hG (by omega) hS) (by first | with_reducible assumption | rfl) rfl rfl rfl (Nat.le_of_ble_eq_true rfl) ⟨Nat.le_of_ble_eq_true rfl, Nat.le_of_ble_eq_true rfl⟩ ⟨Nat.le_of_ble_eq_true rfl, Nat.le_of_ble_eq_true rfl⟩ ?_
  rw [e]
  refine S_istore_n (ls' := [_, _, _]) dX8_isEdit_5 ⟨Nat.le_of_ble_eq_true rfl, rfl, rfl⟩ rfl ?_
  refine V_iload_n dX8_isEdit_6 rfl ?_
  refine V_iconst dX8_isEdit_7 ?_
  refine V_icmp_eq 16 dX8_isEdit_8 (by decide) (by omega) (by omega) (fun h8 => ?_) (fun h8 => ?_)
  · refine V_iconst dX8_isEdit_16 ?_
    refine V_goto 21 dX8_isEdit_17 (by decide) ?_
    refine V_zret dX8_isEdit_21 rfl ⟨Nat.le_of_ble_eq_true rfl, Nat.le_of_ble_eq_true rfl⟩ (by first | exact Or.inl rfl | exact Or.inr rfl | omega) ?_
    exact ⟨rfl, svi (by split <;> first | rfl | (exfalso; omega)), rfl, rfl⟩
  · refine V_iload_n dX8_isEdit_11 rfl ?_
    refine V_iconst dX8_isEdit_12 ?_
    refine V_icmp_ne 20 dX8_isEdit_13 (by decide) (by omega) (by omega) (fun h13 => ?_) (fun h13 => ?_)
    · refine V_iconst dX8_isEdit_20 ?_
      refine V_zret dX8_isEdit_21 rfl ⟨Nat.le_of_ble_eq_true rfl, Nat.le_of_ble_eq_true rfl⟩ (by first | exact Or.inl rfl | exact Or.inr rfl | omega) ?_
      exact ⟨rfl, svi (by split <;> first | rfl | (exfalso; omega)), rfl, rfl⟩
    · refine V_iconst dX8_isEdit_16 ?_
      refine V_goto 21 dX8_isEdit_17 (by decide) ?_
      refine V_zret dX8_isEdit_21 rfl ⟨Nat.le_of_ble_eq_true rfl, Nat.le_of_ble_eq_true rfl⟩ (by first | exact Or.inl rfl | exact Or.inr rfl | omega) ?_
      exact ⟨rfl, svi (by split <;> first | rfl | (exfalso; omega)), rfl, rfl⟩
set_option maxRecDepth 100000 in
theorem c_X4_open {b : Int} (hG : Gr mr) (hm : 0 ≤ mi 44 3 ∧ mi 44 3 < 56) : C0 yX4_open cX4_open 2 none 0 SH mi mr [vr 44, vi b] (fun mi' mr' => mr' = mr ∧ mi' = up2 (up2 (up2 mi 45 (mi 44 3) b) 47 (mi 44 3) 0) 44 3 (mi 44 3 + 1)) := by
  refine Ct.ofV (ini := false) [some (vr 44), some (vi b)] km_X4_open (by decide) rfl (Nat.le_of_ble_eq_true rfl) ?_
  refine V_aload_n dX4_open_0 rfl ?_
  refine V_geti 3 dX4_open_1 fl_RX4_21 (by first | with_reducible assumption | rfl) rfl rfl ?_
  refine V_if_lt 61 dX4_open_4 (by decide) (by omega) (fun h4 => ?_) (fun h4 => ?_)
  · omega
  · refine V_aload_n dX4_open_7 rfl ?_
    refine V_geti 3 dX4_open_8 fl_RX4_21 (by first | with_reducible assumption | rfl) rfl rfl ?_
    refine V_aload_n dX4_open_11 rfl ?_
    refine V_getr 0 _ dX4_open_12 fl_RX4_9 (by first | with_reducible assumption | rfl) rfl rfl (by first | with_reducible assumption | exact hG.at rfl) ?_
    refine V_alen dX4_open_15 (by first | with_reducible assumption | rfl) ?_
    refine V_icmp_ge 61 dX4_open_16 (by decide) (by omega) (by omega) (fun h16 => ?_) (fun h16 => ?_)
    · omega
    · refine V_aload_n dX4_open_19 rfl ?_
      refine V_geti 3 dX4_open_20 fl_RX4_21 (by first | with_reducible assumption | rfl) rfl rfl ?_
      refine V_aload_n dX4_open_23 rfl ?_
      refine V_getr 2 _ dX4_open_24 fl_RX4_18 (by first | with_reducible assumption | rfl) rfl rfl (by first | with_reducible assumption | exact hG.at rfl) ?_
      refine V_alen dX4_open_27 (by first | with_reducible assumption | rfl) ?_
      refine V_icmp_ge 61 dX4_open_28 (by decide) (by omega) (by omega) (fun h28 => ?_) (fun h28 => ?_)
      · omega
      · refine V_aload_n dX4_open_31 rfl ?_
        refine V_getr 0 _ dX4_open_32 fl_RX4_9 (by first | with_reducible assumption | rfl) rfl rfl (by first | with_reducible assumption | exact hG.at rfl) ?_
        refine V_aload_n dX4_open_35 rfl ?_
        refine V_geti 3 dX4_open_36 fl_RX4_21 (by first | with_reducible assumption | rfl) rfl rfl ?_
        refine V_iload_n dX4_open_39 rfl ?_
        refine V_iast dX4_open_40 (by first | with_reducible assumption | rfl) (by decide) (by omega) ?_
        refine V_aload_n dX4_open_41 rfl ?_
        refine V_getr 2 _ dX4_open_42 fl_RX4_18 (by first | with_reducible assumption | rfl) rfl rfl (by first | with_reducible assumption | exact hG.at rfl) ?_
        refine V_aload_n dX4_open_45 rfl ?_
        refine V_geti 3 dX4_open_46 fl_RX4_21 (by first | with_reducible assumption | rfl) rfl rfl ?_
        rw [up2_n mi _ _ (by decide)]
        refine V_iconst dX4_open_49 ?_
        refine V_iast dX4_open_50 (by first | with_reducible assumption | rfl) (by decide) (by omega) ?_
        refine V_aload_n dX4_open_51 rfl ?_
        refine V_dup dX4_open_52 rfl ?_
        refine V_geti 3 dX4_open_53 fl_RX4_21 (by first | with_reducible assumption | rfl) rfl rfl ?_
        rw [up2_n _ _ _ (by decide), up2_n mi _ _ (by decide)]
        refine V_iconst dX4_open_56 ?_
        refine V_iadd dX4_open_57 ?_
        refine V_puti 3 dX4_open_58 fl_RX4_21 (by first | with_reducible assumption | rfl) rfl rfl rfl ?_
        refine V_vret dX4_open_61 rfl ⟨Nat.le_of_ble_eq_true rfl, Nat.le_of_ble_eq_true rfl⟩ ?_
        exact ⟨rfl, rfl, rfl, rfl⟩
set_option maxRecDepth 100000 in
theorem c_X4_growTo {b : Int} (hG : Gr mr) (hm : 1 ≤ mi 44 3 ∧ mi 44 3 ≤ 56) : C0 yX4_growTo cX4_growTo 3 none 0 SH mi mr [vr 44, vi b] (fun mi' mr' => mr' = mr ∧ mi' = up2 (up2 mi 46 (mi 44 3 - 1) b) 47 (mi 44 3 - 1) (mi 47 (mi 44 3 - 1) + 1)) := by
  refine Ct.ofV (ini := false) [some (vr 44), some (vi b), none] km_X4_growTo (by decide) rfl (Nat.le_of_ble_eq_true rfl) ?_
  refine V_aload_n dX4_growTo_0 rfl ?_
  refine V_geti 3 dX4_growTo_1 fl_RX4_21 (by first | with_reducible assumption | rfl) rfl rfl ?_
  refine V_iconst dX4_growTo_4 ?_
  refine V_isub dX4_growTo_5 ?_
  refine S_istore_n (ls' := [_, _, _]) dX4_growTo_6 ⟨Nat.le_of_ble_eq_true rfl, rfl, rfl⟩ rfl ?_
  refine V_iload_n dX4_growTo_7 rfl ?_
  refine V_if_lt 46 dX4_growTo_8 (by decide) (by omega) (fun h8 => ?_) (fun h8 => ?_)
  · omega
  · refine V_iload_n dX4_growTo_11 rfl ?_
    refine V_aload_n dX4_growTo_12 rfl ?_
    refine V_getr 1 _ dX4_growTo_13 fl_RX4_15 (by first | with_reducible assumption | rfl) rfl rfl (by first | with_reducible assumption | exact hG.at rfl) ?_
    refine V_alen dX4_growTo_16 (by first | with_reducible assumption | rfl) ?_
    refine V_icmp_ge 46 dX4_growTo_17 (by decide) (by omega) (by omega) (fun h17 => ?_) (fun h17 => ?_)
    · omega
    · refine V_iload_n dX4_growTo_20 rfl ?_
      refine V_aload_n dX4_growTo_21 rfl ?_
      refine V_getr 2 _ dX4_growTo_22 fl_RX4_18 (by first | with_reducible assumption | rfl) rfl rfl (by first | with_reducible assumption | exact hG.at rfl) ?_
      refine V_alen dX4_growTo_25 (by first | with_reducible assumption | rfl) ?_
      refine V_icmp_ge 46 dX4_growTo_26 (by decide) (by omega) (by omega) (fun h26 => ?_) (fun h26 => ?_)
      · omega
      · refine V_aload_n dX4_growTo_29 rfl ?_
        refine V_getr 1 _ dX4_growTo_30 fl_RX4_15 (by first | with_reducible assumption | rfl) rfl rfl (by first | with_reducible assumption | exact hG.at rfl) ?_
        refine V_iload_n dX4_growTo_33 rfl ?_
        refine V_iload_n dX4_growTo_34 rfl ?_
        refine V_iast dX4_growTo_35 (by first | with_reducible assumption | rfl) (by decide) (by omega) ?_
        refine V_aload_n dX4_growTo_36 rfl ?_
        refine V_getr 2 _ dX4_growTo_37 fl_RX4_18 (by first | with_reducible assumption | rfl) rfl rfl (by first | with_reducible assumption | exact hG.at rfl) ?_
        refine V_iload_n dX4_growTo_40 rfl ?_
        refine V_dup2 dX4_growTo_41 rfl rfl ?_
        refine V_iald dX4_growTo_42 (by first | with_reducible assumption | rfl) (by decide) (by omega) ?_
        rw [up2_n mi _ _ (by decide)]
        refine V_iconst dX4_growTo_43 ?_
        refine V_iadd dX4_growTo_44 ?_
        refine V_iast dX4_growTo_45 (by first | with_reducible assumption | rfl) (by decide) (by omega) ?_
        refine V_vret dX4_growTo_46 rfl ⟨Nat.le_of_ble_eq_true rfl, Nat.le_of_ble_eq_true rfl⟩ ?_
        exact ⟨rfl, rfl, rfl, rfl⟩
set_option maxRecDepth 100000 in
theorem c_X4_beginOf {i : Int} (hG : Gr mr) (hi : 0 ≤ i ∧ i < mi 44 3) (hm : mi 44 3 ≤ 56) : CP yX4_beginOf cX4_beginOf 2 (some .int) 0 SH mi mr [vr 44, vi i] (vi (mi 45 i)) := by
  refine Ct.ofV (ini := false) [some (vr 44), some (vi i)] km_X4_beginOf (by decide) rfl (Nat.le_of_ble_eq_true rfl) ?_
  refine V_iload_n dX4_beginOf_0 rfl ?_
  refine V_if_lt 30 dX4_beginOf_1 (by decide) (by omega) (fun h1 => ?_) (fun h1 => ?_)
  · refine V_iconst dX4_beginOf_30 ?_
    refine V_iret dX4_beginOf_31 rfl ⟨Nat.le_of_ble_eq_true rfl, Nat.le_of_ble_eq_true rfl⟩ ?_
    exact ⟨rfl, svi (by first | rfl | (exfalso; omega)), rfl, rfl⟩
  · refine V_iload_n dX4_beginOf_4 rfl ?_
    refine V_aload_n dX4_beginOf_5 rfl ?_
    refine V_geti 3 dX4_beginOf_6 fl_RX4_21 (by first | with_reducible assumption | rfl) rfl rfl ?_
    refine V_icmp_ge 30 dX4_beginOf_9 (by decide) (by omega) (by omega) (fun h9 => ?_) (fun h9 => ?_)
    · refine V_iconst dX4_beginOf_30 ?_
      refine V_iret dX4_beginOf_31 rfl ⟨Nat.le_of_ble_eq_true rfl, Nat.le_of_ble_eq_true rfl⟩ ?_
      exact ⟨rfl, svi (by first | rfl | (exfalso; omega)), rfl, rfl⟩
    · refine V_iload_n dX4_beginOf_12 rfl ?_
      refine V_aload_n dX4_beginOf_13 rfl ?_
      refine V_getr 0 _ dX4_beginOf_14 fl_RX4_9 (by first | with_reducible assumption | rfl) rfl rfl (by first | with_reducible assumption | exact hG.at rfl) ?_
      refine V_alen dX4_beginOf_17 (by first | with_reducible assumption | rfl) ?_
      refine V_icmp_ge 30 dX4_beginOf_18 (by decide) (by omega) (by omega) (fun h18 => ?_) (fun h18 => ?_)
      · refine V_iconst dX4_beginOf_30 ?_
        refine V_iret dX4_beginOf_31 rfl ⟨Nat.le_of_ble_eq_true rfl, Nat.le_of_ble_eq_true rfl⟩ ?_
        exact ⟨rfl, svi (by first | rfl | (exfalso; omega)), rfl, rfl⟩
      · refine V_aload_n dX4_beginOf_21 rfl ?_
        refine V_getr 0 _ dX4_beginOf_22 fl_RX4_9 (by first | with_reducible assumption | rfl) rfl rfl (by first | with_reducible assumption | exact hG.at rfl) ?_
        refine V_iload_n dX4_beginOf_25 rfl ?_
        refine V_iald dX4_beginOf_26 (by first | with_reducible assumption | rfl) (by decide) (by omega) ?_
        refine V_goto 31 dX4_beginOf_27 (by decide) ?_
        refine V_iret dX4_beginOf_31 rfl ⟨Nat.le_of_ble_eq_true rfl, Nat.le_of_ble_eq_true rfl⟩ ?_
        exact ⟨rfl, svi (by first | rfl | (exfalso; omega)), rfl, rfl⟩
set_option maxRecDepth 100000 in
theorem c_X4_endOf {i : Int} (hG : Gr mr) (hi : 0 ≤ i ∧ i < mi 44 3) (hm : mi 44 3 ≤ 56) : CP yX4_endOf cX4_endOf 2 (some .int) 0 SH mi mr [vr 44, vi i] (vi (mi 46 i)) := by
  refine Ct.ofV (ini := false) [some (vr 44), some (vi i)] km_X4_endOf (by decide) rfl (Nat.le_of_ble_eq_true rfl) ?_
  refine V_iload_n dX4_endOf_0 rfl ?_
  refine V_if_lt 30 dX4_endOf_1 (by decide) (by omega) (fun h1 => ?_) (fun h1 => ?_)
  · refine V_iconst dX4_endOf_30 ?_
    refine V_iret dX4_endOf_31 rfl ⟨Nat.le_of_ble_eq_true rfl, Nat.le_of_ble_eq_true rfl⟩ ?_
    exact ⟨rfl, svi (by first | rfl | (exfalso; omega)), rfl, rfl⟩
  · refine V_iload_n dX4_endOf_4 rfl ?_
    refine V_aload_n dX4_endOf_5 rfl ?_
    refine V_geti 3 dX4_endOf_6 fl_RX4_21 (by first | with_reducible assumption | rfl) rfl rfl ?_
    refine V_icmp_ge 30 dX4_endOf_9 (by decide) (by omega) (by omega) (fun h9 => ?_) (fun h9 => ?_)
    · refine V_iconst dX4_endOf_30 ?_
      refine V_iret dX4_endOf_31 rfl ⟨Nat.le_of_ble_eq_true rfl, Nat.le_of_ble_eq_true rfl⟩ ?_
      exact ⟨rfl, svi (by first | rfl | (exfalso; omega)), rfl, rfl⟩
    · refine V_iload_n dX4_endOf_12 rfl ?_
      refine V_aload_n dX4_endOf_13 rfl ?_
      refine V_getr 1 _ dX4_endOf_14 fl_RX4_15 (by first | with_reducible assumption | rfl) rfl rfl (by first | with_reducible assumption | exact hG.at rfl) ?_
      refine V_alen dX4_endOf_17 (by first | with_reducible assumption | rfl) ?_
      refine V_icmp_ge 30 dX4_endOf_18 (by decide) (by omega) (by omega) (fun h18 => ?_) (fun h18 => ?_)
      · refine V_iconst dX4_endOf_30 ?_
        refine V_iret dX4_endOf_31 rfl ⟨Nat.le_of_ble_eq_true rfl, Nat.le_of_ble_eq_true rfl⟩ ?_
        exact ⟨rfl, svi (by first | rfl | (exfalso; omega)), rfl, rfl⟩
      · refine V_aload_n dX4_endOf_21 rfl ?_
        refine V_getr 1 _ dX4_endOf_22 fl_RX4_15 (by first | with_reducible assumption | rfl) rfl rfl (by first | with_reducible assumption | exact hG.at rfl) ?_
        refine V_iload_n dX4_endOf_25 rfl ?_
        refine V_iald dX4_endOf_26 (by first | with_reducible assumption | rfl) (by decide) (by omega) ?_
        refine V_goto 31 dX4_endOf_27 (by decide) ?_
        refine V_iret dX4_endOf_31 rfl ⟨Nat.le_of_ble_eq_true rfl, Nat.le_of_ble_eq_true rfl⟩ ?_
        exact ⟨rfl, svi (by first | rfl | (exfalso; omega)), rfl, rfl⟩
set_option maxRecDepth 100000 in
theorem c_X4_editsOf {i : Int} (hG : Gr mr) (hi : 0 ≤ i ∧ i < mi 44 3) (hm : mi 44 3 ≤ 56) : CP yX4_editsOf cX4_editsOf 2 (some .int) 0 SH mi mr [vr 44, vi i] (vi (mi 47 i)) := by
  refine Ct.ofV (ini := false) [some (vr 44), some (vi i)] km_X4_editsOf (by decide) rfl (Nat.le_of_ble_eq_true rfl) ?_
  refine V_iload_n dX4_editsOf_0 rfl ?_
  refine V_if_lt 30 dX4_editsOf_1 (by decide) (by omega) (fun h1 => ?_) (fun h1 => ?_)
  · refine V_iconst dX4_editsOf_30 ?_
    refine V_iret dX4_editsOf_31 rfl ⟨Nat.le_of_ble_eq_true rfl, Nat.le_of_ble_eq_true rfl⟩ ?_
    exact ⟨rfl, svi (by first | rfl | (exfalso; omega)), rfl, rfl⟩
  · refine V_iload_n dX4_editsOf_4 rfl ?_
    refine V_aload_n dX4_editsOf_5 rfl ?_
    refine V_geti 3 dX4_editsOf_6 fl_RX4_21 (by first | with_reducible assumption | rfl) rfl rfl ?_
    refine V_icmp_ge 30 dX4_editsOf_9 (by decide) (by omega) (by omega) (fun h9 => ?_) (fun h9 => ?_)
    · refine V_iconst dX4_editsOf_30 ?_
      refine V_iret dX4_editsOf_31 rfl ⟨Nat.le_of_ble_eq_true rfl, Nat.le_of_ble_eq_true rfl⟩ ?_
      exact ⟨rfl, svi (by first | rfl | (exfalso; omega)), rfl, rfl⟩
    · refine V_iload_n dX4_editsOf_12 rfl ?_
      refine V_aload_n dX4_editsOf_13 rfl ?_
      refine V_getr 2 _ dX4_editsOf_14 fl_RX4_18 (by first | with_reducible assumption | rfl) rfl rfl (by first | with_reducible assumption | exact hG.at rfl) ?_
      refine V_alen dX4_editsOf_17 (by first | with_reducible assumption | rfl) ?_
      refine V_icmp_ge 30 dX4_editsOf_18 (by decide) (by omega) (by omega) (fun h18 => ?_) (fun h18 => ?_)
      · refine V_iconst dX4_editsOf_30 ?_
        refine V_iret dX4_editsOf_31 rfl ⟨Nat.le_of_ble_eq_true rfl, Nat.le_of_ble_eq_true rfl⟩ ?_
        exact ⟨rfl, svi (by first | rfl | (exfalso; omega)), rfl, rfl⟩
      · refine V_aload_n dX4_editsOf_21 rfl ?_
        refine V_getr 2 _ dX4_editsOf_22 fl_RX4_18 (by first | with_reducible assumption | rfl) rfl rfl (by first | with_reducible assumption | exact hG.at rfl) ?_
        refine V_iload_n dX4_editsOf_25 rfl ?_
        refine V_iald dX4_editsOf_26 (by first | with_reducible assumption | rfl) (by decide) (by omega) ?_
        refine V_goto 31 dX4_editsOf_27 (by decide) ?_
        refine V_iret dX4_editsOf_31 rfl ⟨Nat.le_of_ble_eq_true rfl, Nat.le_of_ble_eq_true rfl⟩ ?_
        exact ⟨rfl, svi (by first | rfl | (exfalso; omega)), rfl, rfl⟩
set_option maxRecDepth 100000 in
set_option maxHeartbeats 1000000 in
theorem c_X4_find {r : Int} (hr : 0 ≤ r ∧ r ≤ 5) (hG : Gr mr) (hS : ScM mi L K Lt X Y) (hR : ScR L K Lt X Y) : C0 yX4_find cX4_find 5 none 2 SH mi mr [vr 44, vr 37, vi r] (fun mi' mr' => mr' = mr ∧ HkM mi' r L (hk r K L.toNat) ∧ ∀ x, x < 44 ∨ 47 < x → mi' x = mi x) := by
  have hL := hS.1
  have loop : ∀ (t s : Nat) (mi' : MI), (s : Int) ≤ L → L - s < t → HkM mi' r L (hk r K s) → (∀ x, x < 44 ∨ 47 < x → mi' x = mi x) → V (RX4, cX4_find, 5, rm 2, false, none, none) (fun r' sh' mi' mr' => sh' = SH ∧ r' = none ∧ mr' = mr ∧ HkM mi' r L (hk r K L.toNat) ∧ ∀ x, x < 44 ∨ 47 < x → mi' x = mi x) 0 0 SH mi' mr [some (vr 44), some (vr 37), some (vi r), some (vi ((hk r K s).2.2.1 ((hk r K s).1 - 1))), some (vi s)] [] 10 := by
    intro t
    induction t with
    | zero => intro s mi' h1 h2; omega
    | succ t ih =>
      intro s mi' h1 h2 h3 h4
      have hS' : ScM mi' L K Lt X Y := hS.keep (fun x x1 x2 => h4 x (by omega))
      have hL' := hS'.1
      have hr1 := hk_r r K s
      have hC := hk_C r K s
      have hm1 := h3.1
      have ehk : hk r K (s + 1) = if K s = 0 then hk r K s else if (hk r K s).1 = 0 ∨ 2 * r < (s : Int) - (hk r K s).2.2.1 ((hk r K s).1 - 1) - 1 then ((hk r K s).1 + 1, up1 (hk r K s).2.1 (hk r K s).1 s, up1 (hk r K s).2.2.1 (hk r K s).1 s, up1 (hk r K s).2.2.2 (hk r K s).1 1) else ((hk r K s).1, (hk r K s).2.1, up1 (hk r K s).2.2.1 ((hk r K s).1 - 1) s, up1 (hk r K s).2.2.2 ((hk r K s).1 - 1) ((hk r K s).2.2.2 ((hk r K s).1 - 1) + 1)) := rfl
      generalize hq : hk r K s = q at *
      obtain ⟨m, E, Ls, C⟩ := q
      simp only at hr1 hC hm1 ehk ⊢
      refine V_iload dX4_find_10 rfl ?_
      refine V_aload_n dX4_find_12 rfl ?_
      refine V_geti 4 dX4_find_13 fl_RX4_25 rfl rfl rfl ?_
      refine V_icmp_ge 85 dX4_find_16 (by decide) (by omega) (by omega) (fun h16 => ?_) (fun h16 => ?_)
      · refine V_vret dX4_find_85 rfl ⟨Nat.le_of_ble_eq_true rfl, Nat.le_of_ble_eq_true rfl⟩ ?_
        exact ⟨rfl, rfl, rfl, by rw [show L.toNat = s by omega, hq]; exact h3, h4⟩
      · refine V_aload_n dX4_find_19 rfl ?_
        refine V_iload dX4_find_20 rfl ?_
        refine V_callVP dX4_find_22 ml_RX4_30 km_X8_isEdit kv_X8_isEdit (c_X8_isEdit (i := s) hG (by omega) hS' hR) rfl rfl rfl rfl (Nat.le_of_ble_eq_true rfl) ⟨Nat.le_of_ble_eq_true rfl, Nat.le_of_ble_eq_true rfl⟩ ⟨Nat.le_of_ble_eq_true rfl, Nat.le_of_ble_eq_true rfl⟩ ?_
        by_cases hK : K s = 0
        · rw [if_pos hK] at ehk ⊢
          have hgo := ih (s + 1) mi' (by omega) (by omega) (by rw [ehk]; exact h3) h4
          rw [ehk] at hgo
          refine V_if_eq 79 dX4_find_25 (by decide) (by omega) (fun _ => ?_) (fun h25 => absurd h25 (by decide))
          refine S_iinc (ls' := [_, _, _, _, _]) dX4_find_79 rfl ⟨rfl, rfl⟩ rfl ?_
          refine V_goto 10 dX4_find_82 (by decide) ?_
          exact hgo
        · rw [if_neg hK] at ehk ⊢
          by_cases hnew : m = 0 ∨ 2 * r < (s : Int) - Ls (m - 1) - 1
          · rw [if_pos hnew] at ehk
            have hfin : ∀ mi2 : MI, mi2 = up2 (up2 (up2 (up2 (up2 mi' 45 m (max (s - r) 0)) 47 m 0) 44 3 (m + 1)) 46 (m + 1 - 1) (min (s + 1 + r) L)) 47 (m + 1 - 1) (0 + 1) → V (RX4, cX4_find, 5, rm 2, false, none, none) (fun r' sh' mi' mr' => sh' = SH ∧ r' = none ∧ mr' = mr ∧ HkM mi' r L (hk r K L.toNat) ∧ ∀ x, x < 44 ∨ 47 < x → mi' x = mi x) 0 0 SH mi2 mr [some (vr 44), some (vr 37), some (vi r), some (vi s), some (vi (s + 1))] [] 10 := by
              intro mi2 h2
              have hgo := ih (s + 1) mi2 (by omega) (by omega) ?_ (fun x hx => ?_)
              · rw [ehk] at hgo
                simp only at hgo
                rw [show m + 1 - 1 = m by omega, up1_s] at hgo
                exact hgo
              · rw [ehk, h2, show m + 1 - 1 = m by omega]
                refine ⟨by simp [up2, up1], fun i i1 i2 => ?_⟩
                simp only at i2
                by_cases him : i = m
                · subst him
                  simp [up2, up1]
                · have := h3.2 i i1 (by simp only; omega)
                  simp only at this
                  simp [up2, up1, him, this]
              · rw [h2, up2_n _ _ _ (by omega), up2_n _ _ _ (by omega), up2_n _ _ _ (by omega), up2_n _ _ _ (by omega), up2_n _ _ _ (by omega)]
                exact h4 x hx
            have hpre : V (RX4, cX4_find, 5, rm 2, false, none, none) (fun r' sh' mi' mr' => sh' = SH ∧ r' = none ∧ mr' = mr ∧ HkM mi' r L (hk r K L.toNat) ∧ ∀ x, x < 44 ∨ 47 < x → mi' x = mi x) 0 0 SH mi' mr [some (vr 44), some (vr 37), some (vi r), some (vi (Ls (m - 1))), some (vi s)] [] 47 := by
              refine V_aload_n dX4_find_47 rfl ?_
              refine V_iload dX4_find_48 rfl ?_
              refine V_iload_n dX4_find_50 rfl ?_
              refine V_isub dX4_find_51 ?_
              refine V_iconst dX4_find_52 ?_
              refine V_mmax dX4_find_53 ml_RX4_34 (by omega) (by omega) ⟨Nat.le_of_ble_eq_true rfl, Nat.le_of_ble_eq_true rfl, Nat.le_of_ble_eq_true rfl, Nat.le_of_ble_eq_true rfl⟩ ?_
              refine V_callV0 dX4_find_56 ml_RX4_40 km_X4_open kv_X4_open (c_X4_open hG (by omega)) (by first | with_reducible assumption | rfl) rfl rfl rfl (Nat.le_of_ble_eq_true rfl) ⟨Nat.le_of_ble_eq_true rfl, Nat.le_of_ble_eq_true rfl⟩ ⟨Nat.le_of_ble_eq_true rfl, Nat.le_of_ble_eq_true rfl⟩ ?_
              rintro mi2 mr2 ⟨rfl, rfl⟩
              refine V_iload dX4_find_59 rfl ?_
              refine S_istore_n (ls' := [_, _, _, _, _]) dX4_find_61 ⟨Nat.le_of_ble_eq_true rfl, rfl, rfl⟩ rfl ?_
              refine V_aload_n dX4_find_62 rfl ?_
              refine V_iload dX4_find_63 rfl ?_
              refine V_iconst dX4_find_65 ?_
              refine V_iadd dX4_find_66 ?_
              refine V_iload_n dX4_find_67 rfl ?_
              refine V_iadd dX4_find_68 ?_
              refine V_aload_n dX4_find_69 rfl ?_
              refine V_geti 4 dX4_find_70 fl_RX4_25 (by first | with_reducible assumption | rfl) rfl rfl ?_
              rw [up2_n _ _ _ (by decide), up2_n _ _ _ (by decide), up2_n _ _ _ (by decide), hL'.1]
              refine V_mmin dX4_find_73 ml_RX4_44 (by omega) (by omega) ⟨Nat.le_of_ble_eq_true rfl, Nat.le_of_ble_eq_true rfl, Nat.le_of_ble_eq_true rfl, Nat.le_of_ble_eq_true rfl⟩ ?_
              refine V_callV0 dX4_find_76 ml_RX4_47 km_X4_growTo kv_X4_growTo (c_X4_growTo hG (by rw [up2_ss]; omega)) (by first | with_reducible assumption | rfl) rfl rfl rfl (Nat.le_of_ble_eq_true rfl) ⟨Nat.le_of_ble_eq_true rfl, Nat.le_of_ble_eq_true rfl⟩ ⟨Nat.le_of_ble_eq_true rfl, Nat.le_of_ble_eq_true rfl⟩ ?_
              rintro mi3 mr3 ⟨rfl, hq3⟩
              rw [up2_ss, hm1] at hq3
              refine S_iinc (ls' := [_, _, _, _, _]) dX4_find_79 rfl ⟨rfl, rfl⟩ rfl ?_
              refine V_goto 10 dX4_find_82 (by decide) ?_
              refine hfin mi3 ?_
              rw [hq3]
              congr 1
              simp [up2, up1]
            by_cases hm0 : m = 0
            · refine V_if_eq 79 dX4_find_25 (by decide) (by omega) (fun h25 => absurd h25 (by decide)) (fun _ => ?_)
              refine V_aload_n dX4_find_28 rfl ?_
              refine V_geti 3 dX4_find_29 fl_RX4_21 (by first | with_reducible assumption | rfl) rfl rfl ?_
              refine V_if_eq 47 dX4_find_32 (by decide) (by omega) (fun _ => ?_) (fun h32 => absurd h32 (by omega))
              exact hpre
            · refine V_if_eq 79 dX4_find_25 (by decide) (by omega) (fun h25 => absurd h25 (by decide)) (fun _ => ?_)
              refine V_aload_n dX4_find_28 rfl ?_
              refine V_geti 3 dX4_find_29 fl_RX4_21 (by first | with_reducible assumption | rfl) rfl rfl ?_
              refine V_if_eq 47 dX4_find_32 (by decide) (by omega) (fun h32 => absurd h32 (by omega)) (fun _ => ?_)
              refine V_iload dX4_find_35 rfl ?_
              refine V_iload_n dX4_find_37 rfl ?_
              refine V_isub dX4_find_38 ?_
              refine V_iconst dX4_find_39 ?_
              refine V_isub dX4_find_40 ?_
              refine V_iconst dX4_find_41 ?_
              refine V_iload_n dX4_find_42 rfl ?_
              refine V_imul dX4_find_43 ?_
              refine V_icmp_le 59 dX4_find_44 (by decide) (by omega) (by omega) (fun h44 => absurd h44 (by omega)) (fun _ => ?_)
              exact hpre
          · rw [if_neg hnew] at ehk
            have hfin : ∀ mi2 : MI, mi2 = up2 (up2 mi' 46 (m - 1) (min (s + 1 + r) L)) 47 (m - 1) (C (m - 1) + 1) → V (RX4, cX4_find, 5, rm 2, false, none, none) (fun r' sh' mi' mr' => sh' = SH ∧ r' = none ∧ mr' = mr ∧ HkM mi' r L (hk r K L.toNat) ∧ ∀ x, x < 44 ∨ 47 < x → mi' x = mi x) 0 0 SH mi2 mr [some (vr 44), some (vr 37), some (vi r), some (vi s), some (vi (s + 1))] [] 10 := by
              intro mi2 h2
              have hgo := ih (s + 1) mi2 (by omega) (by omega) ?_ (fun x hx => ?_)
              · rw [ehk] at hgo
                simp only at hgo
                rw [up1_s] at hgo
                exact hgo
              · rw [ehk, h2]
                refine ⟨by rw [up2_n _ _ _ (by decide), up2_n _ _ _ (by decide)]; exact hm1, fun i i1 i2 => ?_⟩
                simp only at i2
                have := h3.2 i i1 (by simp only; omega)
                simp only at this
                by_cases him : i = m - 1
                · subst him
                  simp [up2, up1, this]
                · simp [up2, up1, him, this]
              · rw [h2, up2_n _ _ _ (by omega), up2_n _ _ _ (by omega)]
                exact h4 x hx
            have hc47 : mi' 47 (m - 1) = C (m - 1) := (h3.2 (m - 1) (by omega) (by simp only; omega)).2.2
            refine V_if_eq 79 dX4_find_25 (by decide) (by omega) (fun h25 => absurd h25 (by decide)) (fun _ => ?_)
            refine V_aload_n dX4_find_28 rfl ?_
            refine V_geti 3 dX4_find_29 fl_RX4_21 (by first | with_reducible assumption | rfl) rfl rfl ?_
            refine V_if_eq 47 dX4_find_32 (by decide) (by omega) (fun h32 => absurd h32 (by omega)) (fun _ => ?_)
            refine V_iload dX4_find_35 rfl ?_
            refine V_iload_n dX4_find_37 rfl ?_
            refine V_isub dX4_find_38 ?_
            refine V_iconst dX4_find_39 ?_
            refine V_isub dX4_find_40 ?_
            refine V_iconst dX4_find_41 ?_
            refine V_iload_n dX4_find_42 rfl ?_
            refine V_imul dX4_find_43 ?_
            refine V_icmp_le 59 dX4_find_44 (by decide) (by omega) (by omega) (fun _ => ?_) (fun h44 => absurd h44 (by omega))
            refine V_iload dX4_find_59 rfl ?_
            refine S_istore_n (ls' := [_, _, _, _, _]) dX4_find_61 ⟨Nat.le_of_ble_eq_true rfl, rfl, rfl⟩ rfl ?_
            refine V_aload_n dX4_find_62 rfl ?_
            refine V_iload dX4_find_63 rfl ?_
            refine V_iconst dX4_find_65 ?_
            refine V_iadd dX4_find_66 ?_
            refine V_iload_n dX4_find_67 rfl ?_
            refine V_iadd dX4_find_68 ?_
            refine V_aload_n dX4_find_69 rfl ?_
            refine V_geti 4 dX4_find_70 fl_RX4_25 (by first | with_reducible assumption | rfl) rfl rfl ?_
            rw [hL'.1]
            refine V_mmin dX4_find_73 ml_RX4_44 (by omega) (by omega) ⟨Nat.le_of_ble_eq_true rfl, Nat.le_of_ble_eq_true rfl, Nat.le_of_ble_eq_true rfl, Nat.le_of_ble_eq_true rfl⟩ ?_
            refine V_callV0 dX4_find_76 ml_RX4_47 km_X4_growTo kv_X4_growTo (c_X4_growTo hG (by omega)) (by first | with_reducible assumption | rfl) rfl rfl rfl (Nat.le_of_ble_eq_true rfl) ⟨Nat.le_of_ble_eq_true rfl, Nat.le_of_ble_eq_true rfl⟩ ⟨Nat.le_of_ble_eq_true rfl, Nat.le_of_ble_eq_true rfl⟩ ?_
            rintro mi3 mr3 ⟨rfl, hq3⟩
            rw [hm1, hc47] at hq3
            refine S_iinc (ls' := [_, _, _, _, _]) dX4_find_79 rfl ⟨rfl, rfl⟩ rfl ?_
            refine V_goto 10 dX4_find_82 (by decide) ?_
            exact hfin mi3 hq3
  refine Ct.ofV (ini := false) [some (vr 44), some (vr 37), some (vi r), none, none] km_X4_find (by decide) rfl (Nat.le_of_ble_eq_true rfl) ?_
  refine V_aload_n dX4_find_0 rfl ?_
  refine V_iconst dX4_find_1 ?_
  refine V_puti 3 dX4_find_2 fl_RX4_21 (by first | with_reducible assumption | rfl) rfl rfl rfl ?_
  refine V_iconst dX4_find_5 ?_
  refine S_istore_n (ls' := [_, _, _, _, _]) dX4_find_6 ⟨Nat.le_of_ble_eq_true rfl, rfl, rfl⟩ rfl ?_
  refine V_iconst dX4_find_7 ?_
  refine S_istore (ls' := [_, _, _, _, _]) dX4_find_8 ⟨Nat.le_of_ble_eq_true rfl, rfl, rfl⟩ rfl ?_
  exact loop (L.toNat + 1) 0 _ (by omega) (by omega) ⟨by rw [up2_ss]; rfl, fun i i1 i2 => by simp only [hk] at i2; omega⟩ (fun x hx => up2_n _ _ _ (by omega))
end HUNKS
end
