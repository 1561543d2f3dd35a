section
-- ===== PART A: goes FIRST, ahead of the names: the tables' words, and 'selects' of the private methods out of them =====
/-- a private method of a class that the tables say can be made, by its rows of tables_1 -/
def lw_okq (q : MethodName × Nat) : Prop := (q.1.cls ≠ "java/lang/invoke/MethodHandle" ∧ q.1.cls ≠ "java/lang/invoke/VarHandle") ∧ Cond.instantiable q.1.cls q.2 ∈ tables_1 ∧ Cond.privateMethod q.1 ∈ tables_1 ∧ Cond.instanceMethod q.1 ∈ tables_1
theorem lw_p0 : lw_okq (⟨"ShownPatterns$Reader", "put", "(I)V"⟩, 7) := ⟨⟨by decide +kernel, by decide +kernel⟩, List.mem_of_getElem? (i := 29) (by decide +kernel), List.mem_of_getElem? (i := 221) (by decide +kernel), List.mem_of_getElem? (i := 222) (by decide +kernel)⟩
theorem lw_p1 : lw_okq (⟨"ShownPatterns", "placeAt", "(I)LShownPatterns$Nodes;"⟩, 11) := ⟨⟨by decide +kernel, by decide +kernel⟩, List.mem_of_getElem? (i := 19) (by decide +kernel), List.mem_of_getElem? (i := 229) (by decide +kernel), List.mem_of_getElem? (i := 230) (by decide +kernel)⟩
theorem lw_p2 : lw_okq (⟨"ShownPatterns$Reader", "readChoice", "(I)I"⟩, 7) := ⟨⟨by decide +kernel, by decide +kernel⟩, List.mem_of_getElem? (i := 29) (by decide +kernel), List.mem_of_getElem? (i := 241) (by decide +kernel), List.mem_of_getElem? (i := 242) (by decide +kernel)⟩
theorem lw_p3 : lw_okq (⟨"ShownPatterns$Reader", "readChain", "(I)I"⟩, 7) := ⟨⟨by decide +kernel, by decide +kernel⟩, List.mem_of_getElem? (i := 29) (by decide +kernel), List.mem_of_getElem? (i := 245) (by decide +kernel), List.mem_of_getElem? (i := 246) (by decide +kernel)⟩
theorem lw_p4 : lw_okq (⟨"ShownPatterns$Reader", "readRepeats", "(I)I"⟩, 7) := ⟨⟨by decide +kernel, by decide +kernel⟩, List.mem_of_getElem? (i := 29) (by decide +kernel), List.mem_of_getElem? (i := 249) (by decide +kernel), List.mem_of_getElem? (i := 250) (by decide +kernel)⟩
theorem lw_p5 : lw_okq (⟨"ShownPatterns$Reader", "readPart", "(I)I"⟩, 7) := ⟨⟨by decide +kernel, by decide +kernel⟩, List.mem_of_getElem? (i := 29) (by decide +kernel), List.mem_of_getElem? (i := 253) (by decide +kernel), List.mem_of_getElem? (i := 254) (by decide +kernel)⟩
theorem lw_p6 : lw_okq (⟨"ShownPatterns$Reader", "sign", "()I"⟩, 7) := ⟨⟨by decide +kernel, by decide +kernel⟩, List.mem_of_getElem? (i := 29) (by decide +kernel), List.mem_of_getElem? (i := 257) (by decide +kernel), List.mem_of_getElem? (i := 258) (by decide +kernel)⟩
theorem lw_p7 : lw_okq (⟨"ShownPatterns$Reader", "readClass", "()I"⟩, 7) := ⟨⟨by decide +kernel, by decide +kernel⟩, List.mem_of_getElem? (i := 29) (by decide +kernel), List.mem_of_getElem? (i := 268) (by decide +kernel), List.mem_of_getElem? (i := 269) (by decide +kernel)⟩
theorem lw_p8 : lw_okq (⟨"ShownPatterns$Reader", "push", "(I)V"⟩, 7) := ⟨⟨by decide +kernel, by decide +kernel⟩, List.mem_of_getElem? (i := 29) (by decide +kernel), List.mem_of_getElem? (i := 275) (by decide +kernel), List.mem_of_getElem? (i := 276) (by decide +kernel)⟩
theorem lw_p9 : lw_okq (⟨"ShownPatterns$Reader", "pop", "()I"⟩, 7) := ⟨⟨by decide +kernel, by decide +kernel⟩, List.mem_of_getElem? (i := 29) (by decide +kernel), List.mem_of_getElem? (i := 279) (by decide +kernel), List.mem_of_getElem? (i := 280) (by decide +kernel)⟩
theorem lw_p10 : lw_okq (⟨"ShownPatterns$Reader", "chain", "(II)I"⟩, 7) := ⟨⟨by decide +kernel, by decide +kernel⟩, List.mem_of_getElem? (i := 29) (by decide +kernel), List.mem_of_getElem? (i := 283) (by decide +kernel), List.mem_of_getElem? (i := 284) (by decide +kernel)⟩
theorem lw_p11 : lw_okq (⟨"ShownPatterns", "patternAt", "(I)LShownPatterns$Nodes;"⟩, 11) := ⟨⟨by decide +kernel, by decide +kernel⟩, List.mem_of_getElem? (i := 19) (by decide +kernel), List.mem_of_getElem? (i := 344) (by decide +kernel), List.mem_of_getElem? (i := 345) (by decide +kernel)⟩
theorem lw_p12 : lw_okq (⟨"ShownPatterns$Writer", "put", "(I)V"⟩, 2) := ⟨⟨by decide +kernel, by decide +kernel⟩, List.mem_of_getElem? (i := 80) (by decide +kernel), List.mem_of_getElem? (i := 359) (by decide +kernel), List.mem_of_getElem? (i := 360) (by decide +kernel)⟩
theorem lw_p13 : lw_okq (⟨"ShownPatterns$Writer", "putClass", "(I)V"⟩, 2) := ⟨⟨by decide +kernel, by decide +kernel⟩, List.mem_of_getElem? (i := 80) (by decide +kernel), List.mem_of_getElem? (i := 363) (by decide +kernel), List.mem_of_getElem? (i := 364) (by decide +kernel)⟩
theorem lw_p14 : lw_okq (⟨"ShownPatterns", "theCatalogue", "()LShownPatterns$Catalogue;"⟩, 11) := ⟨⟨by decide +kernel, by decide +kernel⟩, List.mem_of_getElem? (i := 19) (by decide +kernel), List.mem_of_getElem? (i := 388) (by decide +kernel), List.mem_of_getElem? (i := 389) (by decide +kernel)⟩
theorem lw_p15 : lw_okq (⟨"ShownPatterns$Catalogue", "addLeaves", "(IIII)V"⟩, 5) := ⟨⟨by decide +kernel, by decide +kernel⟩, List.mem_of_getElem? (i := 392) (by decide +kernel), List.mem_of_getElem? (i := 401) (by decide +kernel), List.mem_of_getElem? (i := 402) (by decide +kernel)⟩
def lw_privs_1 : List (MethodName × Nat) := [(⟨"ShownPatterns$Reader", "put", "(I)V"⟩, 7), (⟨"ShownPatterns", "placeAt", "(I)LShownPatterns$Nodes;"⟩, 11), (⟨"ShownPatterns$Reader", "readChoice", "(I)I"⟩, 7), (⟨"ShownPatterns$Reader", "readChain", "(I)I"⟩, 7), (⟨"ShownPatterns$Reader", "readRepeats", "(I)I"⟩, 7), (⟨"ShownPatterns$Reader", "readPart", "(I)I"⟩, 7), (⟨"ShownPatterns$Reader", "sign", "()I"⟩, 7), (⟨"ShownPatterns$Reader", "readClass", "()I"⟩, 7), (⟨"ShownPatterns$Reader", "push", "(I)V"⟩, 7), (⟨"ShownPatterns$Reader", "pop", "()I"⟩, 7), (⟨"ShownPatterns$Reader", "chain", "(II)I"⟩, 7), (⟨"ShownPatterns", "patternAt", "(I)LShownPatterns$Nodes;"⟩, 11), (⟨"ShownPatterns$Writer", "put", "(I)V"⟩, 2), (⟨"ShownPatterns$Writer", "putClass", "(I)V"⟩, 2), (⟨"ShownPatterns", "theCatalogue", "()LShownPatterns$Catalogue;"⟩, 11), (⟨"ShownPatterns$Catalogue", "addLeaves", "(IIII)V"⟩, 5)]
theorem lw_r1 : ∀ q ∈ lw_privs_1, lw_okq q := List.forall_mem_cons.mpr ⟨lw_p0, List.forall_mem_cons.mpr ⟨lw_p1, List.forall_mem_cons.mpr ⟨lw_p2, List.forall_mem_cons.mpr ⟨lw_p3, List.forall_mem_cons.mpr ⟨lw_p4, List.forall_mem_cons.mpr ⟨lw_p5, List.forall_mem_cons.mpr ⟨lw_p6, List.forall_mem_cons.mpr ⟨lw_p7, List.forall_mem_cons.mpr ⟨lw_p8, List.forall_mem_cons.mpr ⟨lw_p9, List.forall_mem_cons.mpr ⟨lw_p10, List.forall_mem_cons.mpr ⟨lw_p11, List.forall_mem_cons.mpr ⟨lw_p12, List.forall_mem_cons.mpr ⟨lw_p13, List.forall_mem_cons.mpr ⟨lw_p14, List.forall_mem_cons.mpr ⟨lw_p15, fun _ h => absurd h List.not_mem_nil⟩⟩⟩⟩⟩⟩⟩⟩⟩⟩⟩⟩⟩⟩⟩⟩
theorem lw_p16 : lw_okq (⟨"ShownPatterns$Catalogue", "add", "(IIII)V"⟩, 5) := ⟨⟨by decide +kernel, by decide +kernel⟩, List.mem_of_getElem? (i := 392) (by decide +kernel), List.mem_of_getElem? (i := 406) (by decide +kernel), List.mem_of_getElem? (i := 407) (by decide +kernel)⟩
theorem lw_p17 : lw_okq (⟨"ShownPatterns$Catalogue", "addPairs", "(II)V"⟩, 5) := ⟨⟨by decide +kernel, by decide +kernel⟩, List.mem_of_getElem? (i := 392) (by decide +kernel), List.mem_of_getElem? (i := 411) (by decide +kernel), List.mem_of_getElem? (i := 412) (by decide +kernel)⟩
theorem lw_p18 : lw_okq (⟨"ShownPatterns$Catalogue", "addSingles", "(II)V"⟩, 5) := ⟨⟨by decide +kernel, by decide +kernel⟩, List.mem_of_getElem? (i := 392) (by decide +kernel), List.mem_of_getElem? (i := 428) (by decide +kernel), List.mem_of_getElem? (i := 429) (by decide +kernel)⟩
theorem lw_p19 : lw_okq (⟨"ShownPatterns$Catalogue", "numberNode", "(LShownPatterns$Nodes;I)V"⟩, 5) := ⟨⟨by decide +kernel, by decide +kernel⟩, List.mem_of_getElem? (i := 392) (by decide +kernel), List.mem_of_getElem? (i := 459) (by decide +kernel), List.mem_of_getElem? (i := 460) (by decide +kernel)⟩
theorem lw_p20 : lw_okq (⟨"ShownPatterns$Catalogue", "numberAmong", "(IIII)I"⟩, 5) := ⟨⟨by decide +kernel, by decide +kernel⟩, List.mem_of_getElem? (i := 392) (by decide +kernel), List.mem_of_getElem? (i := 467) (by decide +kernel), List.mem_of_getElem? (i := 468) (by decide +kernel)⟩
theorem lw_p21 : lw_okq (⟨"ShownPatterns$Automaton", "addNode", "(LShownPatterns$Nodes;I)V"⟩, 9) := ⟨⟨by decide +kernel, by decide +kernel⟩, List.mem_of_getElem? (i := 93) (by decide +kernel), List.mem_of_getElem? (i := 501) (by decide +kernel), List.mem_of_getElem? (i := 502) (by decide +kernel)⟩
theorem lw_p22 : lw_okq (⟨"ShownPatterns$Automaton", "addLeaf", "(II)V"⟩, 9) := ⟨⟨by decide +kernel, by decide +kernel⟩, List.mem_of_getElem? (i := 93) (by decide +kernel), List.mem_of_getElem? (i := 509) (by decide +kernel), List.mem_of_getElem? (i := 510) (by decide +kernel)⟩
theorem lw_p23 : lw_okq (⟨"ShownPatterns$Automaton", "follow", "(II)V"⟩, 9) := ⟨⟨by decide +kernel, by decide +kernel⟩, List.mem_of_getElem? (i := 93) (by decide +kernel), List.mem_of_getElem? (i := 513) (by decide +kernel), List.mem_of_getElem? (i := 514) (by decide +kernel)⟩
theorem lw_p24 : lw_okq (⟨"ShownPatterns$Automaton", "fillSteps", "(I)V"⟩, 9) := ⟨⟨by decide +kernel, by decide +kernel⟩, List.mem_of_getElem? (i := 93) (by decide +kernel), List.mem_of_getElem? (i := 518) (by decide +kernel), List.mem_of_getElem? (i := 519) (by decide +kernel)⟩
theorem lw_p25 : lw_okq (⟨"ShownPatterns", "partingRow", "(IIZ)I"⟩, 11) := ⟨⟨by decide +kernel, by decide +kernel⟩, List.mem_of_getElem? (i := 19) (by decide +kernel), List.mem_of_getElem? (i := 570) (by decide +kernel), List.mem_of_getElem? (i := 571) (by decide +kernel)⟩
theorem lw_p26 : lw_okq (⟨"ShownPatterns$Pairs", "reach", "(II)V"⟩, 3) := ⟨⟨by decide +kernel, by decide +kernel⟩, List.mem_of_getElem? (i := 574) (by decide +kernel), List.mem_of_getElem? (i := 595) (by decide +kernel), List.mem_of_getElem? (i := 596) (by decide +kernel)⟩
theorem lw_p27 : lw_okq (⟨"ShownPatterns$Pairs", "rowTo", "(I)I"⟩, 3) := ⟨⟨by decide +kernel, by decide +kernel⟩, List.mem_of_getElem? (i := 574) (by decide +kernel), List.mem_of_getElem? (i := 599) (by decide +kernel), List.mem_of_getElem? (i := 600) (by decide +kernel)⟩
theorem lw_p28 : lw_okq (⟨"ShownPatterns", "agreesWith", "(LShownPatterns$Nodes;I)Z"⟩, 11) := ⟨⟨by decide +kernel, by decide +kernel⟩, List.mem_of_getElem? (i := 19) (by decide +kernel), List.mem_of_getElem? (i := 644) (by decide +kernel), List.mem_of_getElem? (i := 645) (by decide +kernel)⟩
theorem lw_p29 : lw_okq (⟨"ShownPatterns$Spans", "spanOf", "(III)J"⟩, 2) := ⟨⟨by decide +kernel, by decide +kernel⟩, List.mem_of_getElem? (i := 138) (by decide +kernel), List.mem_of_getElem? (i := 670) (by decide +kernel), List.mem_of_getElem? (i := 671) (by decide +kernel)⟩
theorem lw_p30 : lw_okq (⟨"ShownPatterns$Spans", "ofClass", "(I)J"⟩, 2) := ⟨⟨by decide +kernel, by decide +kernel⟩, List.mem_of_getElem? (i := 138) (by decide +kernel), List.mem_of_getElem? (i := 674) (by decide +kernel), List.mem_of_getElem? (i := 675) (by decide +kernel)⟩
theorem lw_p31 : lw_okq (⟨"ShownPatterns", "theFinder", "()LShownPatterns$Finder;"⟩, 11) := ⟨⟨by decide +kernel, by decide +kernel⟩, List.mem_of_getElem? (i := 19) (by decide +kernel), List.mem_of_getElem? (i := 727) (by decide +kernel), List.mem_of_getElem? (i := 728) (by decide +kernel)⟩
def lw_privs_2 : List (MethodName × Nat) := [(⟨"ShownPatterns$Catalogue", "add", "(IIII)V"⟩, 5), (⟨"ShownPatterns$Catalogue", "addPairs", "(II)V"⟩, 5), (⟨"ShownPatterns$Catalogue", "addSingles", "(II)V"⟩, 5), (⟨"ShownPatterns$Catalogue", "numberNode", "(LShownPatterns$Nodes;I)V"⟩, 5), (⟨"ShownPatterns$Catalogue", "numberAmong", "(IIII)I"⟩, 5), (⟨"ShownPatterns$Automaton", "addNode", "(LShownPatterns$Nodes;I)V"⟩, 9), (⟨"ShownPatterns$Automaton", "addLeaf", "(II)V"⟩, 9), (⟨"ShownPatterns$Automaton", "follow", "(II)V"⟩, 9), (⟨"ShownPatterns$Automaton", "fillSteps", "(I)V"⟩, 9), (⟨"ShownPatterns", "partingRow", "(IIZ)I"⟩, 11), (⟨"ShownPatterns$Pairs", "reach", "(II)V"⟩, 3), (⟨"ShownPatterns$Pairs", "rowTo", "(I)I"⟩, 3), (⟨"ShownPatterns", "agreesWith", "(LShownPatterns$Nodes;I)Z"⟩, 11), (⟨"ShownPatterns$Spans", "spanOf", "(III)J"⟩, 2), (⟨"ShownPatterns$Spans", "ofClass", "(I)J"⟩, 2), (⟨"ShownPatterns", "theFinder", "()LShownPatterns$Finder;"⟩, 11)]
theorem lw_r2 : ∀ q ∈ lw_privs_2, lw_okq q := List.forall_mem_cons.mpr ⟨lw_p16, List.forall_mem_cons.mpr ⟨lw_p17, List.forall_mem_cons.mpr ⟨lw_p18, List.forall_mem_cons.mpr ⟨lw_p19, List.forall_mem_cons.mpr ⟨lw_p20, List.forall_mem_cons.mpr ⟨lw_p21, List.forall_mem_cons.mpr ⟨lw_p22, List.forall_mem_cons.mpr ⟨lw_p23, List.forall_mem_cons.mpr ⟨lw_p24, List.forall_mem_cons.mpr ⟨lw_p25, List.forall_mem_cons.mpr ⟨lw_p26, List.forall_mem_cons.mpr ⟨lw_p27, List.forall_mem_cons.mpr ⟨lw_p28, List.forall_mem_cons.mpr ⟨lw_p29, List.forall_mem_cons.mpr ⟨lw_p30, List.forall_mem_cons.mpr ⟨lw_p31, fun _ h => absurd h List.not_mem_nil⟩⟩⟩⟩⟩⟩⟩⟩⟩⟩⟩⟩⟩⟩⟩⟩
theorem lw_p32 : lw_okq (⟨"ShownPatterns$Meanings", "load", "(I[I)V"⟩, 6) := ⟨⟨by decide +kernel, by decide +kernel⟩, List.mem_of_getElem? (i := 737) (by decide +kernel), List.mem_of_getElem? (i := 776) (by decide +kernel), List.mem_of_getElem? (i := 777) (by decide +kernel)⟩
theorem lw_p33 : lw_okq (⟨"ShownPatterns$Meanings", "wordOf", "(II)I"⟩, 6) := ⟨⟨by decide +kernel, by decide +kernel⟩, List.mem_of_getElem? (i := 737) (by decide +kernel), List.mem_of_getElem? (i := 780) (by decide +kernel), List.mem_of_getElem? (i := 781) (by decide +kernel)⟩
theorem lw_p34 : lw_okq (⟨"ShownPatterns$Meanings", "addJoined", "()V"⟩, 6) := ⟨⟨by decide +kernel, by decide +kernel⟩, List.mem_of_getElem? (i := 737) (by decide +kernel), List.mem_of_getElem? (i := 784) (by decide +kernel), List.mem_of_getElem? (i := 785) (by decide +kernel)⟩
theorem lw_p35 : lw_okq (⟨"ShownPatterns$Meanings", "repeat", "()V"⟩, 6) := ⟨⟨by decide +kernel, by decide +kernel⟩, List.mem_of_getElem? (i := 737) (by decide +kernel), List.mem_of_getElem? (i := 791) (by decide +kernel), List.mem_of_getElem? (i := 792) (by decide +kernel)⟩
theorem lw_p36 : lw_okq (⟨"ShownPatterns$Meanings", "keep", "()I"⟩, 6) := ⟨⟨by decide +kernel, by decide +kernel⟩, List.mem_of_getElem? (i := 737) (by decide +kernel), List.mem_of_getElem? (i := 798) (by decide +kernel), List.mem_of_getElem? (i := 799) (by decide +kernel)⟩
theorem lw_p37 : lw_okq (⟨"ShownPatterns$Meanings", "keepNew", "()I"⟩, 6) := ⟨⟨by decide +kernel, by decide +kernel⟩, List.mem_of_getElem? (i := 737) (by decide +kernel), List.mem_of_getElem? (i := 803) (by decide +kernel), List.mem_of_getElem? (i := 804) (by decide +kernel)⟩
theorem lw_p38 : lw_okq (⟨"ShownPatterns$Meanings", "isMade", "(I)Z"⟩, 6) := ⟨⟨by decide +kernel, by decide +kernel⟩, List.mem_of_getElem? (i := 737) (by decide +kernel), List.mem_of_getElem? (i := 807) (by decide +kernel), List.mem_of_getElem? (i := 808) (by decide +kernel)⟩
theorem lw_p39 : lw_okq (⟨"ShownPatterns$Finder", "meaningAt", "(I)I"⟩, 17) := ⟨⟨by decide +kernel, by decide +kernel⟩, List.mem_of_getElem? (i := 731) (by decide +kernel), List.mem_of_getElem? (i := 811) (by decide +kernel), List.mem_of_getElem? (i := 812) (by decide +kernel)⟩
theorem lw_p40 : lw_okq (⟨"ShownPatterns$Finder", "judgeNew", "()V"⟩, 17) := ⟨⟨by decide +kernel, by decide +kernel⟩, List.mem_of_getElem? (i := 731) (by decide +kernel), List.mem_of_getElem? (i := 876) (by decide +kernel), List.mem_of_getElem? (i := 877) (by decide +kernel)⟩
theorem lw_p41 : lw_okq (⟨"ShownPatterns$Finder", "isOfKinds", "(II)Z"⟩, 17) := ⟨⟨by decide +kernel, by decide +kernel⟩, List.mem_of_getElem? (i := 731) (by decide +kernel), List.mem_of_getElem? (i := 887) (by decide +kernel), List.mem_of_getElem? (i := 888) (by decide +kernel)⟩
theorem lw_p42 : lw_okq (⟨"ShownPatterns$Finder", "against", "(I)I"⟩, 17) := ⟨⟨by decide +kernel, by decide +kernel⟩, List.mem_of_getElem? (i := 731) (by decide +kernel), List.mem_of_getElem? (i := 892) (by decide +kernel), List.mem_of_getElem? (i := 893) (by decide +kernel)⟩
theorem lw_p43 : lw_okq (⟨"ShownPatterns", "putFound", "(LShownPatterns$Nodes;I)I"⟩, 11) := ⟨⟨by decide +kernel, by decide +kernel⟩, List.mem_of_getElem? (i := 19) (by decide +kernel), List.mem_of_getElem? (i := 900) (by decide +kernel), List.mem_of_getElem? (i := 901) (by decide +kernel)⟩
theorem lw_p44 : lw_okq (⟨"ShownPatterns$Finder", "countRows", "()V"⟩, 17) := ⟨⟨by decide +kernel, by decide +kernel⟩, List.mem_of_getElem? (i := 731) (by decide +kernel), List.mem_of_getElem? (i := 937) (by decide +kernel), List.mem_of_getElem? (i := 938) (by decide +kernel)⟩
theorem lw_p45 : lw_okq (⟨"ShownPatterns$Finder", "addRows", "(I)V"⟩, 17) := ⟨⟨by decide +kernel, by decide +kernel⟩, List.mem_of_getElem? (i := 731) (by decide +kernel), List.mem_of_getElem? (i := 946) (by decide +kernel), List.mem_of_getElem? (i := 947) (by decide +kernel)⟩
theorem lw_p46 : lw_okq (⟨"ShownPatterns", "patternsInPlaces", "()I"⟩, 11) := ⟨⟨by decide +kernel, by decide +kernel⟩, List.mem_of_getElem? (i := 19) (by decide +kernel), List.mem_of_getElem? (i := 985) (by decide +kernel), List.mem_of_getElem? (i := 986) (by decide +kernel)⟩
theorem lw_p47 : lw_okq (⟨"ShownPatternsModel", "either", "()I"⟩, 58) := ⟨⟨by decide +kernel, by decide +kernel⟩, List.mem_of_getElem? (i := 999) (by decide +kernel), List.mem_of_getElem? (i := 1195) (by decide +kernel), List.mem_of_getElem? (i := 1196) (by decide +kernel)⟩
def lw_privs_3 : List (MethodName × Nat) := [(⟨"ShownPatterns$Meanings", "load", "(I[I)V"⟩, 6), (⟨"ShownPatterns$Meanings", "wordOf", "(II)I"⟩, 6), (⟨"ShownPatterns$Meanings", "addJoined", "()V"⟩, 6), (⟨"ShownPatterns$Meanings", "repeat", "()V"⟩, 6), (⟨"ShownPatterns$Meanings", "keep", "()I"⟩, 6), (⟨"ShownPatterns$Meanings", "keepNew", "()I"⟩, 6), (⟨"ShownPatterns$Meanings", "isMade", "(I)Z"⟩, 6), (⟨"ShownPatterns$Finder", "meaningAt", "(I)I"⟩, 17), (⟨"ShownPatterns$Finder", "judgeNew", "()V"⟩, 17), (⟨"ShownPatterns$Finder", "isOfKinds", "(II)Z"⟩, 17), (⟨"ShownPatterns$Finder", "against", "(I)I"⟩, 17), (⟨"ShownPatterns", "putFound", "(LShownPatterns$Nodes;I)I"⟩, 11), (⟨"ShownPatterns$Finder", "countRows", "()V"⟩, 17), (⟨"ShownPatterns$Finder", "addRows", "(I)V"⟩, 17), (⟨"ShownPatterns", "patternsInPlaces", "()I"⟩, 11), (⟨"ShownPatternsModel", "either", "()I"⟩, 58)]
theorem lw_r3 : ∀ q ∈ lw_privs_3, lw_okq q := List.forall_mem_cons.mpr ⟨lw_p32, List.forall_mem_cons.mpr ⟨lw_p33, List.forall_mem_cons.mpr ⟨lw_p34, List.forall_mem_cons.mpr ⟨lw_p35, List.forall_mem_cons.mpr ⟨lw_p36, List.forall_mem_cons.mpr ⟨lw_p37, List.forall_mem_cons.mpr ⟨lw_p38, List.forall_mem_cons.mpr ⟨lw_p39, List.forall_mem_cons.mpr ⟨lw_p40, List.forall_mem_cons.mpr ⟨lw_p41, List.forall_mem_cons.mpr ⟨lw_p42, List.forall_mem_cons.mpr ⟨lw_p43, List.forall_mem_cons.mpr ⟨lw_p44, List.forall_mem_cons.mpr ⟨lw_p45, List.forall_mem_cons.mpr ⟨lw_p46, List.forall_mem_cons.mpr ⟨lw_p47, fun _ h => absurd h List.not_mem_nil⟩⟩⟩⟩⟩⟩⟩⟩⟩⟩⟩⟩⟩⟩⟩⟩
theorem lw_p48 : lw_okq (⟨"ShownPatternsModel", "row0", "()I"⟩, 58) := ⟨⟨by decide +kernel, by decide +kernel⟩, List.mem_of_getElem? (i := 999) (by decide +kernel), List.mem_of_getElem? (i := 1199) (by decide +kernel), List.mem_of_getElem? (i := 1200) (by decide +kernel)⟩
theorem lw_p49 : lw_okq (⟨"ShownPatternsModel", "repeated", "()I"⟩, 58) := ⟨⟨by decide +kernel, by decide +kernel⟩, List.mem_of_getElem? (i := 999) (by decide +kernel), List.mem_of_getElem? (i := 1203) (by decide +kernel), List.mem_of_getElem? (i := 1204) (by decide +kernel)⟩
theorem lw_p50 : lw_okq (⟨"ShownPatternsModel", "base", "()I"⟩, 58) := ⟨⟨by decide +kernel, by decide +kernel⟩, List.mem_of_getElem? (i := 999) (by decide +kernel), List.mem_of_getElem? (i := 1207) (by decide +kernel), List.mem_of_getElem? (i := 1208) (by decide +kernel)⟩
theorem lw_p51 : lw_okq (⟨"ShownPatternsModel", "look", "()I"⟩, 58) := ⟨⟨by decide +kernel, by decide +kernel⟩, List.mem_of_getElem? (i := 999) (by decide +kernel), List.mem_of_getElem? (i := 1211) (by decide +kernel), List.mem_of_getElem? (i := 1212) (by decide +kernel)⟩
theorem lw_p52 : lw_okq (⟨"ShownPatternsModel", "make", "(IIII)I"⟩, 58) := ⟨⟨by decide +kernel, by decide +kernel⟩, List.mem_of_getElem? (i := 999) (by decide +kernel), List.mem_of_getElem? (i := 1215) (by decide +kernel), List.mem_of_getElem? (i := 1216) (by decide +kernel)⟩
theorem lw_p53 : lw_okq (⟨"ShownPatternsModel", "lays", "(IIIII)V"⟩, 58) := ⟨⟨by decide +kernel, by decide +kernel⟩, List.mem_of_getElem? (i := 999) (by decide +kernel), List.mem_of_getElem? (i := 1219) (by decide +kernel), List.mem_of_getElem? (i := 1220) (by decide +kernel)⟩
theorem lw_p54 : lw_okq (⟨"ShownPatternsModel", "set", "()I"⟩, 58) := ⟨⟨by decide +kernel, by decide +kernel⟩, List.mem_of_getElem? (i := 999) (by decide +kernel), List.mem_of_getElem? (i := 1226) (by decide +kernel), List.mem_of_getElem? (i := 1227) (by decide +kernel)⟩
theorem lw_p55 : lw_okq (⟨"ShownPatternsModel", "wrong", "()I"⟩, 58) := ⟨⟨by decide +kernel, by decide +kernel⟩, List.mem_of_getElem? (i := 999) (by decide +kernel), List.mem_of_getElem? (i := 1230) (by decide +kernel), List.mem_of_getElem? (i := 1231) (by decide +kernel)⟩
theorem lw_p56 : lw_okq (⟨"ShownPatternsModel", "begins", "()Z"⟩, 58) := ⟨⟨by decide +kernel, by decide +kernel⟩, List.mem_of_getElem? (i := 999) (by decide +kernel), List.mem_of_getElem? (i := 1234) (by decide +kernel), List.mem_of_getElem? (i := 1235) (by decide +kernel)⟩
theorem lw_p57 : lw_okq (⟨"ShownPatternsModel", "joined", "(II)I"⟩, 58) := ⟨⟨by decide +kernel, by decide +kernel⟩, List.mem_of_getElem? (i := 999) (by decide +kernel), List.mem_of_getElem? (i := 1238) (by decide +kernel), List.mem_of_getElem? (i := 1239) (by decide +kernel)⟩
theorem lw_p58 : lw_okq (⟨"ShownPatternsModel", "put", "(II)V"⟩, 58) := ⟨⟨by decide +kernel, by decide +kernel⟩, List.mem_of_getElem? (i := 999) (by decide +kernel), List.mem_of_getElem? (i := 1242) (by decide +kernel), List.mem_of_getElem? (i := 1243) (by decide +kernel)⟩
theorem lw_p59 : lw_okq (⟨"ShownPatternsModel", "flatten", "(I)V"⟩, 58) := ⟨⟨by decide +kernel, by decide +kernel⟩, List.mem_of_getElem? (i := 999) (by decide +kernel), List.mem_of_getElem? (i := 1246) (by decide +kernel), List.mem_of_getElem? (i := 1247) (by decide +kernel)⟩
theorem lw_p60 : lw_okq (⟨"ShownPatternsModel", "has", "(I)Z"⟩, 58) := ⟨⟨by decide +kernel, by decide +kernel⟩, List.mem_of_getElem? (i := 999) (by decide +kernel), List.mem_of_getElem? (i := 1254) (by decide +kernel), List.mem_of_getElem? (i := 1255) (by decide +kernel)⟩
theorem lw_p61 : lw_okq (⟨"ShownPatternsModel", "treeOf", "(I)I"⟩, 58) := ⟨⟨by decide +kernel, by decide +kernel⟩, List.mem_of_getElem? (i := 999) (by decide +kernel), List.mem_of_getElem? (i := 1258) (by decide +kernel), List.mem_of_getElem? (i := 1259) (by decide +kernel)⟩
theorem lw_p62 : lw_okq (⟨"ShownPatternsModel", "grow", "()I"⟩, 58) := ⟨⟨by decide +kernel, by decide +kernel⟩, List.mem_of_getElem? (i := 999) (by decide +kernel), List.mem_of_getElem? (i := 1262) (by decide +kernel), List.mem_of_getElem? (i := 1263) (by decide +kernel)⟩
theorem lw_p63 : lw_okq (⟨"ShownPatternsModel", "say0", "(I)V"⟩, 58) := ⟨⟨by decide +kernel, by decide +kernel⟩, List.mem_of_getElem? (i := 999) (by decide +kernel), List.mem_of_getElem? (i := 1266) (by decide +kernel), List.mem_of_getElem? (i := 1267) (by decide +kernel)⟩
def lw_privs_4 : List (MethodName × Nat) := [(⟨"ShownPatternsModel", "row0", "()I"⟩, 58), (⟨"ShownPatternsModel", "repeated", "()I"⟩, 58), (⟨"ShownPatternsModel", "base", "()I"⟩, 58), (⟨"ShownPatternsModel", "look", "()I"⟩, 58), (⟨"ShownPatternsModel", "make", "(IIII)I"⟩, 58), (⟨"ShownPatternsModel", "lays", "(IIIII)V"⟩, 58), (⟨"ShownPatternsModel", "set", "()I"⟩, 58), (⟨"ShownPatternsModel", "wrong", "()I"⟩, 58), (⟨"ShownPatternsModel", "begins", "()Z"⟩, 58), (⟨"ShownPatternsModel", "joined", "(II)I"⟩, 58), (⟨"ShownPatternsModel", "put", "(II)V"⟩, 58), (⟨"ShownPatternsModel", "flatten", "(I)V"⟩, 58), (⟨"ShownPatternsModel", "has", "(I)Z"⟩, 58), (⟨"ShownPatternsModel", "treeOf", "(I)I"⟩, 58), (⟨"ShownPatternsModel", "grow", "()I"⟩, 58), (⟨"ShownPatternsModel", "say0", "(I)V"⟩, 58)]
theorem lw_r4 : ∀ q ∈ lw_privs_4, lw_okq q := List.forall_mem_cons.mpr ⟨lw_p48, List.forall_mem_cons.mpr ⟨lw_p49, List.forall_mem_cons.mpr ⟨lw_p50, List.forall_mem_cons.mpr ⟨lw_p51, List.forall_mem_cons.mpr ⟨lw_p52, List.forall_mem_cons.mpr ⟨lw_p53, List.forall_mem_cons.mpr ⟨lw_p54, List.forall_mem_cons.mpr ⟨lw_p55, List.forall_mem_cons.mpr ⟨lw_p56, List.forall_mem_cons.mpr ⟨lw_p57, List.forall_mem_cons.mpr ⟨lw_p58, List.forall_mem_cons.mpr ⟨lw_p59, List.forall_mem_cons.mpr ⟨lw_p60, List.forall_mem_cons.mpr ⟨lw_p61, List.forall_mem_cons.mpr ⟨lw_p62, List.forall_mem_cons.mpr ⟨lw_p63, fun _ h => absurd h List.not_mem_nil⟩⟩⟩⟩⟩⟩⟩⟩⟩⟩⟩⟩⟩⟩⟩⟩
theorem lw_p64 : lw_okq (⟨"ShownPatternsModel", "sign", "(I)V"⟩, 58) := ⟨⟨by decide +kernel, by decide +kernel⟩, List.mem_of_getElem? (i := 999) (by decide +kernel), List.mem_of_getElem? (i := 1270) (by decide +kernel), List.mem_of_getElem? (i := 1271) (by decide +kernel)⟩
theorem lw_p65 : lw_okq (⟨"ShownPatternsModel", "sayIn", "(IZ)V"⟩, 58) := ⟨⟨by decide +kernel, by decide +kernel⟩, List.mem_of_getElem? (i := 999) (by decide +kernel), List.mem_of_getElem? (i := 1274) (by decide +kernel), List.mem_of_getElem? (i := 1275) (by decide +kernel)⟩
theorem lw_p66 : lw_okq (⟨"ShownPatternsModel", "lay", "()V"⟩, 58) := ⟨⟨by decide +kernel, by decide +kernel⟩, List.mem_of_getElem? (i := 999) (by decide +kernel), List.mem_of_getElem? (i := 1286) (by decide +kernel), List.mem_of_getElem? (i := 1287) (by decide +kernel)⟩
theorem lw_p67 : lw_okq (⟨"ShownPatternsModel", "add", "(IIII)V"⟩, 58) := ⟨⟨by decide +kernel, by decide +kernel⟩, List.mem_of_getElem? (i := 999) (by decide +kernel), List.mem_of_getElem? (i := 1290) (by decide +kernel), List.mem_of_getElem? (i := 1291) (by decide +kernel)⟩
theorem lw_p68 : lw_okq (⟨"ShownPatternsModel", "find0", "(I)I"⟩, 58) := ⟨⟨by decide +kernel, by decide +kernel⟩, List.mem_of_getElem? (i := 999) (by decide +kernel), List.mem_of_getElem? (i := 1294) (by decide +kernel), List.mem_of_getElem? (i := 1295) (by decide +kernel)⟩
theorem lw_p69 : lw_okq (⟨"ShownPatternsModel", "take", "(II)Z"⟩, 58) := ⟨⟨by decide +kernel, by decide +kernel⟩, List.mem_of_getElem? (i := 999) (by decide +kernel), List.mem_of_getElem? (i := 1306) (by decide +kernel), List.mem_of_getElem? (i := 1307) (by decide +kernel)⟩
theorem lw_p70 : lw_okq (⟨"ShownPatternsModel", "isFit", "(I)Z"⟩, 58) := ⟨⟨by decide +kernel, by decide +kernel⟩, List.mem_of_getElem? (i := 999) (by decide +kernel), List.mem_of_getElem? (i := 1310) (by decide +kernel), List.mem_of_getElem? (i := 1311) (by decide +kernel)⟩
theorem lw_p71 : lw_okq (⟨"ShownPatternsModel", "ends", "(II)I"⟩, 58) := ⟨⟨by decide +kernel, by decide +kernel⟩, List.mem_of_getElem? (i := 999) (by decide +kernel), List.mem_of_getElem? (i := 1314) (by decide +kernel), List.mem_of_getElem? (i := 1315) (by decide +kernel)⟩
theorem lw_p72 : lw_okq (⟨"ShownPatternsModel", "behind", "(II)I"⟩, 58) := ⟨⟨by decide +kernel, by decide +kernel⟩, List.mem_of_getElem? (i := 999) (by decide +kernel), List.mem_of_getElem? (i := 1318) (by decide +kernel), List.mem_of_getElem? (i := 1319) (by decide +kernel)⟩
theorem lw_p73 : lw_okq (⟨"ShownPatternsModel", "again", "(II)I"⟩, 58) := ⟨⟨by decide +kernel, by decide +kernel⟩, List.mem_of_getElem? (i := 999) (by decide +kernel), List.mem_of_getElem? (i := 1322) (by decide +kernel), List.mem_of_getElem? (i := 1323) (by decide +kernel)⟩
theorem lw_p74 : lw_okq (⟨"ShownPatternsModel", "outOf", "(I)I"⟩, 58) := ⟨⟨by decide +kernel, by decide +kernel⟩, List.mem_of_getElem? (i := 999) (by decide +kernel), List.mem_of_getElem? (i := 1330) (by decide +kernel), List.mem_of_getElem? (i := 1331) (by decide +kernel)⟩
theorem lw_p75 : lw_okq (⟨"ShownPatternsModel", "countWays", "(II)V"⟩, 58) := ⟨⟨by decide +kernel, by decide +kernel⟩, List.mem_of_getElem? (i := 999) (by decide +kernel), List.mem_of_getElem? (i := 1338) (by decide +kernel), List.mem_of_getElem? (i := 1339) (by decide +kernel)⟩
theorem lw_p76 : lw_okq (⟨"ShownPatternsModel", "study0", "(II)V"⟩, 58) := ⟨⟨by decide +kernel, by decide +kernel⟩, List.mem_of_getElem? (i := 999) (by decide +kernel), List.mem_of_getElem? (i := 1342) (by decide +kernel), List.mem_of_getElem? (i := 1343) (by decide +kernel)⟩
theorem lw_p77 : lw_okq (⟨"ShownPatternsModel", "study", "(II)V"⟩, 58) := ⟨⟨by decide +kernel, by decide +kernel⟩, List.mem_of_getElem? (i := 999) (by decide +kernel), List.mem_of_getElem? (i := 1346) (by decide +kernel), List.mem_of_getElem? (i := 1347) (by decide +kernel)⟩
theorem lw_p78 : lw_okq (⟨"ShownPatternsModel", "follow", "(III)V"⟩, 58) := ⟨⟨by decide +kernel, by decide +kernel⟩, List.mem_of_getElem? (i := 999) (by decide +kernel), List.mem_of_getElem? (i := 1350) (by decide +kernel), List.mem_of_getElem? (i := 1351) (by decide +kernel)⟩
theorem lw_p79 : lw_okq (⟨"ShownPatternsModel", "ends0", "(II)Z"⟩, 58) := ⟨⟨by decide +kernel, by decide +kernel⟩, List.mem_of_getElem? (i := 999) (by decide +kernel), List.mem_of_getElem? (i := 1354) (by decide +kernel), List.mem_of_getElem? (i := 1355) (by decide +kernel)⟩
def lw_privs_5 : List (MethodName × Nat) := [(⟨"ShownPatternsModel", "sign", "(I)V"⟩, 58), (⟨"ShownPatternsModel", "sayIn", "(IZ)V"⟩, 58), (⟨"ShownPatternsModel", "lay", "()V"⟩, 58), (⟨"ShownPatternsModel", "add", "(IIII)V"⟩, 58), (⟨"ShownPatternsModel", "find0", "(I)I"⟩, 58), (⟨"ShownPatternsModel", "take", "(II)Z"⟩, 58), (⟨"ShownPatternsModel", "isFit", "(I)Z"⟩, 58), (⟨"ShownPatternsModel", "ends", "(II)I"⟩, 58), (⟨"ShownPatternsModel", "behind", "(II)I"⟩, 58), (⟨"ShownPatternsModel", "again", "(II)I"⟩, 58), (⟨"ShownPatternsModel", "outOf", "(I)I"⟩, 58), (⟨"ShownPatternsModel", "countWays", "(II)V"⟩, 58), (⟨"ShownPatternsModel", "study0", "(II)V"⟩, 58), (⟨"ShownPatternsModel", "study", "(II)V"⟩, 58), (⟨"ShownPatternsModel", "follow", "(III)V"⟩, 58), (⟨"ShownPatternsModel", "ends0", "(II)Z"⟩, 58)]
theorem lw_r5 : ∀ q ∈ lw_privs_5, lw_okq q := List.forall_mem_cons.mpr ⟨lw_p64, List.forall_mem_cons.mpr ⟨lw_p65, List.forall_mem_cons.mpr ⟨lw_p66, List.forall_mem_cons.mpr ⟨lw_p67, List.forall_mem_cons.mpr ⟨lw_p68, List.forall_mem_cons.mpr ⟨lw_p69, List.forall_mem_cons.mpr ⟨lw_p70, List.forall_mem_cons.mpr ⟨lw_p71, List.forall_mem_cons.mpr ⟨lw_p72, List.forall_mem_cons.mpr ⟨lw_p73, List.forall_mem_cons.mpr ⟨lw_p74, List.forall_mem_cons.mpr ⟨lw_p75, List.forall_mem_cons.mpr ⟨lw_p76, List.forall_mem_cons.mpr ⟨lw_p77, List.forall_mem_cons.mpr ⟨lw_p78, List.forall_mem_cons.mpr ⟨lw_p79, fun _ h => absurd h List.not_mem_nil⟩⟩⟩⟩⟩⟩⟩⟩⟩⟩⟩⟩⟩⟩⟩⟩
theorem lw_p80 : lw_okq (⟨"ShownPatternsModel", "steps", "(III)I"⟩, 58) := ⟨⟨by decide +kernel, by decide +kernel⟩, List.mem_of_getElem? (i := 999) (by decide +kernel), List.mem_of_getElem? (i := 1358) (by decide +kernel), List.mem_of_getElem? (i := 1359) (by decide +kernel)⟩
theorem lw_p81 : lw_okq (⟨"ShownPatternsModel", "findPair", "(III)I"⟩, 58) := ⟨⟨by decide +kernel, by decide +kernel⟩, List.mem_of_getElem? (i := 999) (by decide +kernel), List.mem_of_getElem? (i := 1370) (by decide +kernel), List.mem_of_getElem? (i := 1371) (by decide +kernel)⟩
theorem lw_p82 : lw_okq (⟨"ShownPatternsModel", "isShowing", "(I)Z"⟩, 58) := ⟨⟨by decide +kernel, by decide +kernel⟩, List.mem_of_getElem? (i := 999) (by decide +kernel), List.mem_of_getElem? (i := 1391) (by decide +kernel), List.mem_of_getElem? (i := 1392) (by decide +kernel)⟩
theorem lw_p83 : lw_okq (⟨"ShownPatternsModel", "agrees0", "(II)Z"⟩, 58) := ⟨⟨by decide +kernel, by decide +kernel⟩, List.mem_of_getElem? (i := 999) (by decide +kernel), List.mem_of_getElem? (i := 1399) (by decide +kernel), List.mem_of_getElem? (i := 1400) (by decide +kernel)⟩
theorem lw_p84 : lw_okq (⟨"ShownPatternsModel", "paidBy", "(I)I"⟩, 58) := ⟨⟨by decide +kernel, by decide +kernel⟩, List.mem_of_getElem? (i := 999) (by decide +kernel), List.mem_of_getElem? (i := 1407) (by decide +kernel), List.mem_of_getElem? (i := 1408) (by decide +kernel)⟩
theorem lw_p85 : lw_okq (⟨"ShownPatternsModel", "goOn", "(I)I"⟩, 58) := ⟨⟨by decide +kernel, by decide +kernel⟩, List.mem_of_getElem? (i := 999) (by decide +kernel), List.mem_of_getElem? (i := 1418) (by decide +kernel), List.mem_of_getElem? (i := 1419) (by decide +kernel)⟩
theorem lw_p86 : lw_okq (⟨"ShownPatternsModel", "isOf", "(III)Z"⟩, 58) := ⟨⟨by decide +kernel, by decide +kernel⟩, List.mem_of_getElem? (i := 999) (by decide +kernel), List.mem_of_getElem? (i := 1422) (by decide +kernel), List.mem_of_getElem? (i := 1423) (by decide +kernel)⟩
theorem lw_p87 : lw_okq (⟨"ShownPatternsModel", "agreesAll", "(I)Z"⟩, 58) := ⟨⟨by decide +kernel, by decide +kernel⟩, List.mem_of_getElem? (i := 999) (by decide +kernel), List.mem_of_getElem? (i := 1426) (by decide +kernel), List.mem_of_getElem? (i := 1427) (by decide +kernel)⟩
theorem lw_p88 : lw_okq (⟨"ShownPatternsModel", "know", "(I)V"⟩, 58) := ⟨⟨by decide +kernel, by decide +kernel⟩, List.mem_of_getElem? (i := 999) (by decide +kernel), List.mem_of_getElem? (i := 1430) (by decide +kernel), List.mem_of_getElem? (i := 1431) (by decide +kernel)⟩
theorem lw_p89 : lw_okq (⟨"ShownPatternsModel", "number", "()V"⟩, 58) := ⟨⟨by decide +kernel, by decide +kernel⟩, List.mem_of_getElem? (i := 999) (by decide +kernel), List.mem_of_getElem? (i := 1434) (by decide +kernel), List.mem_of_getElem? (i := 1435) (by decide +kernel)⟩
theorem lw_p90 : lw_okq (⟨"ShownPatternsModel", "isNew", "(I)Z"⟩, 58) := ⟨⟨by decide +kernel, by decide +kernel⟩, List.mem_of_getElem? (i := 999) (by decide +kernel), List.mem_of_getElem? (i := 1438) (by decide +kernel), List.mem_of_getElem? (i := 1439) (by decide +kernel)⟩
theorem lw_p91 : lw_okq (⟨"ShownPatternsModel", "note", "(I)V"⟩, 58) := ⟨⟨by decide +kernel, by decide +kernel⟩, List.mem_of_getElem? (i := 999) (by decide +kernel), List.mem_of_getElem? (i := 1442) (by decide +kernel), List.mem_of_getElem? (i := 1443) (by decide +kernel)⟩
theorem lw_p92 : lw_okq (⟨"ShownPatternsModel", "gather", "(II)V"⟩, 58) := ⟨⟨by decide +kernel, by decide +kernel⟩, List.mem_of_getElem? (i := 999) (by decide +kernel), List.mem_of_getElem? (i := 1458) (by decide +kernel), List.mem_of_getElem? (i := 1459) (by decide +kernel)⟩
def lw_privs_6 : List (MethodName × Nat) := [(⟨"ShownPatternsModel", "steps", "(III)I"⟩, 58), (⟨"ShownPatternsModel", "findPair", "(III)I"⟩, 58), (⟨"ShownPatternsModel", "isShowing", "(I)Z"⟩, 58), (⟨"ShownPatternsModel", "agrees0", "(II)Z"⟩, 58), (⟨"ShownPatternsModel", "paidBy", "(I)I"⟩, 58), (⟨"ShownPatternsModel", "goOn", "(I)I"⟩, 58), (⟨"ShownPatternsModel", "isOf", "(III)Z"⟩, 58), (⟨"ShownPatternsModel", "agreesAll", "(I)Z"⟩, 58), (⟨"ShownPatternsModel", "know", "(I)V"⟩, 58), (⟨"ShownPatternsModel", "number", "()V"⟩, 58), (⟨"ShownPatternsModel", "isNew", "(I)Z"⟩, 58), (⟨"ShownPatternsModel", "note", "(I)V"⟩, 58), (⟨"ShownPatternsModel", "gather", "(II)V"⟩, 58)]
theorem lw_r6 : ∀ q ∈ lw_privs_6, lw_okq q := List.forall_mem_cons.mpr ⟨lw_p80, List.forall_mem_cons.mpr ⟨lw_p81, List.forall_mem_cons.mpr ⟨lw_p82, List.forall_mem_cons.mpr ⟨lw_p83, List.forall_mem_cons.mpr ⟨lw_p84, List.forall_mem_cons.mpr ⟨lw_p85, List.forall_mem_cons.mpr ⟨lw_p86, List.forall_mem_cons.mpr ⟨lw_p87, List.forall_mem_cons.mpr ⟨lw_p88, List.forall_mem_cons.mpr ⟨lw_p89, List.forall_mem_cons.mpr ⟨lw_p90, List.forall_mem_cons.mpr ⟨lw_p91, List.forall_mem_cons.mpr ⟨lw_p92, fun _ h => absurd h List.not_mem_nil⟩⟩⟩⟩⟩⟩⟩⟩⟩⟩⟩⟩⟩
def lw_privs : List (MethodName × Nat) := lw_privs_1 ++ (lw_privs_2 ++ (lw_privs_3 ++ (lw_privs_4 ++ (lw_privs_5 ++ (lw_privs_6)))))
def lw_tbl : List Cond := k2_sels lw_privs ++ tables_1
theorem lw_privs_ok : ∀ q ∈ lw_privs, lw_okq q := by
  show ∀ q ∈ lw_privs_1 ++ (lw_privs_2 ++ (lw_privs_3 ++ (lw_privs_4 ++ (lw_privs_5 ++ (lw_privs_6))))), lw_okq q
  exact List.forall_mem_append.mpr ⟨lw_r1, List.forall_mem_append.mpr ⟨lw_r2, List.forall_mem_append.mpr ⟨lw_r3, List.forall_mem_append.mpr ⟨lw_r4, List.forall_mem_append.mpr ⟨lw_r5, lw_r6⟩⟩⟩⟩⟩
end
section
def RX0 : String := "ShownPatterns$Automaton"
def TX0 : u_T := fun k => match k with
  | 0 => ("ShownPatterns$Automaton", "empty", "[Z", true)
  | 1 => ("ShownPatterns$Automaton", "firsts", "[I", true)
  | 2 => ("ShownPatterns$Automaton", "lasts", "[I", true)
  | 3 => ("ShownPatterns$Automaton", "followers", "[I", true)
  | 4 => ("ShownPatterns$Automaton", "takers", "[I", true)
  | 5 => ("ShownPatterns$Automaton", "steps", "[I", true)
  | 6 => ("ShownPatterns$Automaton", "leaves", "I", false)
  | 7 => ("ShownPatterns$Automaton", "ends", "I", false)
  | _ => ("ShownPatterns$Automaton", "endsAtStart", "Z", false)
def tyX0 : Nat → FieldType := fun k => match k with
  | 0 => .array .boolean
  | 1 => .array .int
  | 2 => .array .int
  | 3 => .array .int
  | 4 => .array .int
  | 5 => .array .int
  | 6 => .int
  | 7 => .int
  | _ => .boolean
theorem nmX0 : ∀ a, a < 9 → ∀ b, b < 9 → a ≠ b → (TX0 a).2.1 ≠ (TX0 b).2.1 := by decide +kernel
theorem tyX0_ok : ∀ k, k < 9 → parseFieldDescriptor (TX0 k).2.2.1 = some (tyX0 k) := by decide +kernel
abbrev cX0_init : ByteArray := prog_2_method_1_code
def yX0_init : MethodName := ⟨RX0, "<init>", "()V"⟩
abbrev cX0_build : ByteArray := prog_2_method_2_code
def yX0_build : MethodName := ⟨RX0, "build", "(LShownPatterns$Nodes;)V"⟩
abbrev cX0_addNode : ByteArray := prog_2_method_3_code
def yX0_addNode : MethodName := ⟨RX0, "addNode", "(LShownPatterns$Nodes;I)V"⟩
abbrev cX0_addLeaf : ByteArray := prog_2_method_4_code
def yX0_addLeaf : MethodName := ⟨RX0, "addLeaf", "(II)V"⟩
abbrev cX0_follow : ByteArray := prog_2_method_5_code
def yX0_follow : MethodName := ⟨RX0, "follow", "(II)V"⟩
abbrev cX0_fillSteps : ByteArray := prog_2_method_6_code
def yX0_fillSteps : MethodName := ⟨RX0, "fillSteps", "(I)V"⟩
abbrev cX0_after : ByteArray := prog_2_method_7_code
def yX0_after : MethodName := ⟨RX0, "after", "(II)I"⟩
abbrev cX0_endsAt : ByteArray := prog_2_method_8_code
def yX0_endsAt : MethodName := ⟨RX0, "endsAt", "(I)Z"⟩
abbrev cX0_longestFit : ByteArray := prog_2_method_9_code
def yX0_longestFit : MethodName := ⟨RX0, "longestFit", "(III)I"⟩
def RX1 : String := "ShownPatterns$Catalogue"
def TX1 : u_T := fun k => match k with
  | 0 => ("ShownPatterns$Catalogue", "nodes", "LShownPatterns$Nodes;", true)
  | 1 => ("ShownPatterns$Catalogue", "begins", "[I", true)
  | 2 => ("ShownPatterns$Catalogue", "kinds", "[I", true)
  | 3 => ("ShownPatterns$Catalogue", "numbers", "[I", true)
  | _ => ("ShownPatterns$Catalogue", "costs", "[I", true)
def tyX1 : Nat → FieldType := fun k => match k with
  | 0 => .object "ShownPatterns$Nodes"
  | 1 => .array .int
  | 2 => .array .int
  | 3 => .array .int
  | _ => .array .int
theorem nmX1 : ∀ a, a < 5 → ∀ b, b < 5 → a ≠ b → (TX1 a).2.1 ≠ (TX1 b).2.1 := by decide +kernel
theorem tyX1_ok : ∀ k, k < 5 → parseFieldDescriptor (TX1 k).2.2.1 = some (tyX1 k) := by decide +kernel
abbrev cX1_init : ByteArray := prog_3_method_1_code
def yX1_init : MethodName := ⟨RX1, "<init>", "()V"⟩
abbrev cX1_nodes : ByteArray := prog_3_method_2_code
def yX1_nodes : MethodName := ⟨RX1, "nodes", "()LShownPatterns$Nodes;"⟩
abbrev cX1_begin : ByteArray := prog_3_method_3_code
def yX1_begin : MethodName := ⟨RX1, "begin", "(I)I"⟩
abbrev cX1_end : ByteArray := prog_3_method_4_code
def yX1_end : MethodName := ⟨RX1, "end", "(I)I"⟩
abbrev cX1_size : ByteArray := prog_3_method_5_code
def yX1_size : MethodName := ⟨RX1, "size", "(I)I"⟩
abbrev cX1_kindsOf : ByteArray := prog_3_method_6_code
def yX1_kindsOf : MethodName := ⟨RX1, "kindsOf", "(I)I"⟩
abbrev cX1_addLeaves : ByteArray := prog_3_method_7_code
def yX1_addLeaves : MethodName := ⟨RX1, "addLeaves", "(IIII)V"⟩
abbrev cX1_addPairs : ByteArray := prog_3_method_8_code
def yX1_addPairs : MethodName := ⟨RX1, "addPairs", "(II)V"⟩
abbrev cX1_addSingles : ByteArray := prog_3_method_9_code
def yX1_addSingles : MethodName := ⟨RX1, "addSingles", "(II)V"⟩
abbrev cX1_add : ByteArray := prog_3_method_10_code
def yX1_add : MethodName := ⟨RX1, "add", "(IIII)V"⟩
abbrev cX1_numberOf : ByteArray := prog_3_method_11_code
def yX1_numberOf : MethodName := ⟨RX1, "numberOf", "(LShownPatterns$Nodes;)I"⟩
abbrev cX1_numberNode : ByteArray := prog_3_method_12_code
def yX1_numberNode : MethodName := ⟨RX1, "numberNode", "(LShownPatterns$Nodes;I)V"⟩
abbrev cX1_numberAmong : ByteArray := prog_3_method_13_code
def yX1_numberAmong : MethodName := ⟨RX1, "numberAmong", "(IIII)I"⟩
def RX2 : String := "ShownPatterns$Finder"
def TX2 : u_T := fun k => match k with
  | 0 => ("ShownPatterns$Finder", "all", "LShownPatterns$Catalogue;", true)
  | 1 => ("ShownPatterns$Finder", "showings", "LShownPatterns$Showings;", true)
  | 2 => ("ShownPatterns$Finder", "meanings", "LShownPatterns$Meanings;", true)
  | 3 => ("ShownPatterns$Finder", "meaningOf", "[I", true)
  | 4 => ("ShownPatterns$Finder", "agreed", "[I", true)
  | 5 => ("ShownPatterns$Finder", "spans", "LShownPatterns$Spans;", true)
  | 6 => ("ShownPatterns$Finder", "judged", "I", false)
  | 7 => ("ShownPatterns$Finder", "metIn", "[I", true)
  | 8 => ("ShownPatterns$Finder", "counts", "I", false)
  | 9 => ("ShownPatterns$Finder", "having", "[I", true)
  | 10 => ("ShownPatterns$Finder", "haveAsked", "I", false)
  | 11 => ("ShownPatterns$Finder", "foundIn", "[I", true)
  | 12 => ("ShownPatterns$Finder", "searches", "I", false)
  | 13 => ("ShownPatterns$Finder", "kindsSought", "I", false)
  | 14 => ("ShownPatterns$Finder", "at", "I", false)
  | 15 => ("ShownPatterns$Finder", "end", "I", false)
  | _ => ("ShownPatterns$Finder", "foundHere", "I", false)
def tyX2 : Nat → FieldType := fun k => match k with
  | 0 => .object "ShownPatterns$Catalogue"
  | 1 => .object "ShownPatterns$Showings"
  | 2 => .object "ShownPatterns$Meanings"
  | 3 => .array .int
  | 4 => .array .int
  | 5 => .object "ShownPatterns$Spans"
  | 6 => .int
  | 7 => .array .int
  | 8 => .int
  | 9 => .array .int
  | 10 => .int
  | 11 => .array .int
  | 12 => .int
  | 13 => .int
  | 14 => .int
  | 15 => .int
  | _ => .int
theorem nmX2 : ∀ a, a < 17 → ∀ b, b < 17 → a ≠ b → (TX2 a).2.1 ≠ (TX2 b).2.1 := by decide +kernel
theorem tyX2_ok : ∀ k, k < 17 → parseFieldDescriptor (TX2 k).2.2.1 = some (tyX2 k) := by decide +kernel
abbrev cX2_init : ByteArray := prog_4_method_1_code
def yX2_init : MethodName := ⟨RX2, "<init>", "(LShownPatterns$Catalogue;LShownPatterns$Showings;)V"⟩
abbrev cX2_meaningAt : ByteArray := prog_4_method_2_code
def yX2_meaningAt : MethodName := ⟨RX2, "meaningAt", "(I)I"⟩
abbrev cX2_judgeNew : ByteArray := prog_4_method_3_code
def yX2_judgeNew : MethodName := ⟨RX2, "judgeNew", "()V"⟩
abbrev cX2_isOfKinds : ByteArray := prog_4_method_4_code
def yX2_isOfKinds : MethodName := ⟨RX2, "isOfKinds", "(II)Z"⟩
abbrev cX2_against : ByteArray := prog_4_method_5_code
def yX2_against : MethodName := ⟨RX2, "against", "(I)I"⟩
abbrev cX2_begin : ByteArray := prog_4_method_6_code
def yX2_begin : MethodName := ⟨RX2, "begin", "(II)V"⟩
abbrev cX2_hasBegun : ByteArray := prog_4_method_7_code
def yX2_hasBegun : MethodName := ⟨RX2, "hasBegun", "()Z"⟩
abbrev cX2_foundSoFar : ByteArray := prog_4_method_8_code
def yX2_foundSoFar : MethodName := ⟨RX2, "foundSoFar", "()I"⟩
abbrev cX2_goOn : ByteArray := prog_4_method_9_code
def yX2_goOn : MethodName := ⟨RX2, "goOn", "()I"⟩
abbrev cX2_isNew : ByteArray := prog_4_method_10_code
def yX2_isNew : MethodName := ⟨RX2, "isNew", "([III)Z"⟩
abbrev cX2_countOpen : ByteArray := prog_4_method_11_code
def yX2_countOpen : MethodName := ⟨RX2, "countOpen", "(II)I"⟩
abbrev cX2_countRows : ByteArray := prog_4_method_12_code
def yX2_countRows : MethodName := ⟨RX2, "countRows", "()V"⟩
abbrev cX2_addRows : ByteArray := prog_4_method_13_code
def yX2_addRows : MethodName := ⟨RX2, "addRows", "(I)V"⟩
abbrev cX2_evenestRow : ByteArray := prog_4_method_14_code
def yX2_evenestRow : MethodName := ⟨RX2, "evenestRow", "(II)I"⟩
abbrev cX2_rowBy : ByteArray := prog_4_method_15_code
def yX2_rowBy : MethodName := ⟨RX2, "rowBy", "(I)I"⟩
abbrev cX2_haveAskedRow : ByteArray := prog_4_method_16_code
def yX2_haveAskedRow : MethodName := ⟨RX2, "haveAskedRow", "()I"⟩
abbrev cX2_cheapest : ByteArray := prog_4_method_17_code
def yX2_cheapest : MethodName := ⟨RX2, "cheapest", "(II)I"⟩
abbrev cX2_priceOf : ByteArray := prog_4_method_18_code
def yX2_priceOf : MethodName := ⟨RX2, "priceOf", "(I)I"⟩
def RX3 : String := "ShownPatterns$Meanings"
def TX3 : u_T := fun k => match k with
  | 0 => ("ShownPatterns$Meanings", "kept", "[I", true)
  | 1 => ("ShownPatterns$Meanings", "slots", "[I", true)
  | 2 => ("ShownPatterns$Meanings", "made", "[I", true)
  | 3 => ("ShownPatterns$Meanings", "ahead", "[I", true)
  | 4 => ("ShownPatterns$Meanings", "behind", "[I", true)
  | _ => ("ShownPatterns$Meanings", "size", "I", false)
def tyX3 : Nat → FieldType := fun k => match k with
  | 0 => .array .int
  | 1 => .array .int
  | 2 => .array .int
  | 3 => .array .int
  | 4 => .array .int
  | _ => .int
theorem nmX3 : ∀ a, a < 6 → ∀ b, b < 6 → a ≠ b → (TX3 a).2.1 ≠ (TX3 b).2.1 := by decide +kernel
theorem tyX3_ok : ∀ k, k < 6 → parseFieldDescriptor (TX3 k).2.2.1 = some (tyX3 k) := by decide +kernel
abbrev cX3_init : ByteArray := prog_5_method_1_code
def yX3_init : MethodName := ⟨RX3, "<init>", "()V"⟩
abbrev cX3_size : ByteArray := prog_5_method_2_code
def yX3_size : MethodName := ⟨RX3, "size", "()I"⟩
abbrev cX3_hasRow : ByteArray := prog_5_method_3_code
def yX3_hasRow : MethodName := ⟨RX3, "hasRow", "(II)Z"⟩
abbrev cX3_wordOf : ByteArray := prog_5_method_4_code
def yX3_wordOf : MethodName := ⟨RX3, "wordOf", "(II)I"⟩
abbrev cX3_meaningOf : ByteArray := prog_5_method_5_code
def yX3_meaningOf : MethodName := ⟨RX3, "meaningOf", "(III)I"⟩
abbrev cX3_load : ByteArray := prog_5_method_6_code
def yX3_load : MethodName := ⟨RX3, "load", "(I[I)V"⟩
abbrev cX3_addAll : ByteArray := prog_5_method_7_code
def yX3_addAll : MethodName := ⟨RX3, "addAll", "([I[I)V"⟩
abbrev cX3_repeat : ByteArray := prog_5_method_8_code
def yX3_repeat : MethodName := ⟨RX3, "repeat", "()V"⟩
abbrev cX3_addJoined : ByteArray := prog_5_method_9_code
def yX3_addJoined : MethodName := ⟨RX3, "addJoined", "()V"⟩
abbrev cX3_keep : ByteArray := prog_5_method_10_code
def yX3_keep : MethodName := ⟨RX3, "keep", "()I"⟩
abbrev cX3_isMade : ByteArray := prog_5_method_11_code
def yX3_isMade : MethodName := ⟨RX3, "isMade", "(I)Z"⟩
abbrev cX3_keepNew : ByteArray := prog_5_method_12_code
def yX3_keepNew : MethodName := ⟨RX3, "keepNew", "()I"⟩
def RX4 : String := "ShownPatterns$Nodes"
def TX4 : u_T := fun k => match k with
  | 0 => ("ShownPatterns$Nodes", "kind", "[I", true)
  | 1 => ("ShownPatterns$Nodes", "left", "[I", true)
  | 2 => ("ShownPatterns$Nodes", "right", "[I", true)
  | _ => ("ShownPatterns$Nodes", "size", "I", false)
def tyX4 : Nat → FieldType := fun k => match k with
  | 0 => .array .int
  | 1 => .array .int
  | 2 => .array .int
  | _ => .int
theorem nmX4 : ∀ a, a < 4 → ∀ b, b < 4 → a ≠ b → (TX4 a).2.1 ≠ (TX4 b).2.1 := by decide +kernel
theorem tyX4_ok : ∀ k, k < 4 → parseFieldDescriptor (TX4 k).2.2.1 = some (tyX4 k) := by decide +kernel
abbrev cX4_init : ByteArray := prog_6_method_1_code
def yX4_init : MethodName := ⟨RX4, "<init>", "(I)V"⟩
abbrev cX4_size : ByteArray := prog_6_method_2_code
def yX4_size : MethodName := ⟨RX4, "size", "()I"⟩
abbrev cX4_clear : ByteArray := prog_6_method_3_code
def yX4_clear : MethodName := ⟨RX4, "clear", "()V"⟩
abbrev cX4_add : ByteArray := prog_6_method_4_code
def yX4_add : MethodName := ⟨RX4, "add", "(III)I"⟩
abbrev cX4_kindOf : ByteArray := prog_6_method_5_code
def yX4_kindOf : MethodName := ⟨RX4, "kindOf", "(I)I"⟩
abbrev cX4_leftOf : ByteArray := prog_6_method_6_code
def yX4_leftOf : MethodName := ⟨RX4, "leftOf", "(I)I"⟩
abbrev cX4_rightOf : ByteArray := prog_6_method_7_code
def yX4_rightOf : MethodName := ⟨RX4, "rightOf", "(I)I"⟩
abbrev cX4_setRight : ByteArray := prog_6_method_8_code
def yX4_setRight : MethodName := ⟨RX4, "setRight", "(II)V"⟩
abbrev cX4_cost : ByteArray := prog_6_method_9_code
def yX4_cost : MethodName := ⟨RX4, "cost", "()I"⟩
abbrev cX4_become : ByteArray := prog_6_method_10_code
def yX4_become : MethodName := ⟨RX4, "become", "(LShownPatterns$Nodes;I)V"⟩
abbrev cX4_copy : ByteArray := prog_6_method_11_code
def yX4_copy : MethodName := ⟨RX4, "copy", "(LShownPatterns$Nodes;ILShownPatterns$Nodes;I)I"⟩
def RX5 : String := "ShownPatterns$Pairs"
def TX5 : u_T := fun k => match k with
  | 0 => ("ShownPatterns$Pairs", "rows", "[I", true)
  | 1 => ("ShownPatterns$Pairs", "queue", "[I", true)
  | _ => ("ShownPatterns$Pairs", "waiting", "I", false)
def tyX5 : Nat → FieldType := fun k => match k with
  | 0 => .array .int
  | 1 => .array .int
  | _ => .int
theorem nmX5 : ∀ a, a < 3 → ∀ b, b < 3 → a ≠ b → (TX5 a).2.1 ≠ (TX5 b).2.1 := by decide +kernel
theorem tyX5_ok : ∀ k, k < 3 → parseFieldDescriptor (TX5 k).2.2.1 = some (tyX5 k) := by decide +kernel
abbrev cX5_init : ByteArray := prog_7_method_1_code
def yX5_init : MethodName := ⟨RX5, "<init>", "()V"⟩
abbrev cX5_firstRow : ByteArray := prog_7_method_2_code
def yX5_firstRow : MethodName := ⟨RX5, "firstRow", "(LShownPatterns$Automaton;LShownPatterns$Automaton;Z)I"⟩
abbrev cX5_rowTo : ByteArray := prog_7_method_3_code
def yX5_rowTo : MethodName := ⟨RX5, "rowTo", "(I)I"⟩
abbrev cX5_reach : ByteArray := prog_7_method_4_code
def yX5_reach : MethodName := ⟨RX5, "reach", "(II)V"⟩
abbrev cX5_longer : ByteArray := prog_7_method_5_code
def yX5_longer : MethodName := ⟨RX5, "longer", "(II)I"⟩
def RX6 : String := "ShownPatterns$Reader"
def TX6 : u_T := fun k => match k with
  | 0 => ("ShownPatterns$Reader", "bytes", "[I", true)
  | 1 => ("ShownPatterns$Reader", "length", "I", false)
  | 2 => ("ShownPatterns$Reader", "nodes", "LShownPatterns$Nodes;", true)
  | 3 => ("ShownPatterns$Reader", "pile", "[I", true)
  | 4 => ("ShownPatterns$Reader", "height", "I", false)
  | 5 => ("ShownPatterns$Reader", "at", "I", false)
  | _ => ("ShownPatterns$Reader", "end", "I", false)
def tyX6 : Nat → FieldType := fun k => match k with
  | 0 => .array .int
  | 1 => .int
  | 2 => .object "ShownPatterns$Nodes"
  | 3 => .array .int
  | 4 => .int
  | 5 => .int
  | _ => .int
theorem nmX6 : ∀ a, a < 7 → ∀ b, b < 7 → a ≠ b → (TX6 a).2.1 ≠ (TX6 b).2.1 := by decide +kernel
theorem tyX6_ok : ∀ k, k < 7 → parseFieldDescriptor (TX6 k).2.2.1 = some (tyX6 k) := by decide +kernel
abbrev cX6_init : ByteArray := prog_8_method_1_code
def yX6_init : MethodName := ⟨RX6, "<init>", "()V"⟩
abbrev cX6_length : ByteArray := prog_8_method_2_code
def yX6_length : MethodName := ⟨RX6, "length", "()I"⟩
abbrev cX6_nodes : ByteArray := prog_8_method_3_code
def yX6_nodes : MethodName := ⟨RX6, "nodes", "()LShownPatterns$Nodes;"⟩
abbrev cX6_fault : ByteArray := prog_8_method_4_code
def yX6_fault : MethodName := ⟨RX6, "fault", "()I"⟩
abbrev cX6_take : ByteArray := prog_8_method_5_code
def yX6_take : MethodName := ⟨RX6, "take", "(II)I"⟩
abbrev cX6_put : ByteArray := prog_8_method_6_code
def yX6_put : MethodName := ⟨RX6, "put", "(I)V"⟩
abbrev cX6_parse : ByteArray := prog_8_method_7_code
def yX6_parse : MethodName := ⟨RX6, "parse", "()I"⟩
abbrev cX6_sign : ByteArray := prog_8_method_8_code
def yX6_sign : MethodName := ⟨RX6, "sign", "()I"⟩
abbrev cX6_push : ByteArray := prog_8_method_9_code
def yX6_push : MethodName := ⟨RX6, "push", "(I)V"⟩
abbrev cX6_pop : ByteArray := prog_8_method_10_code
def yX6_pop : MethodName := ⟨RX6, "pop", "()I"⟩
abbrev cX6_readChoice : ByteArray := prog_8_method_11_code
def yX6_readChoice : MethodName := ⟨RX6, "readChoice", "(I)I"⟩
abbrev cX6_readChain : ByteArray := prog_8_method_12_code
def yX6_readChain : MethodName := ⟨RX6, "readChain", "(I)I"⟩
abbrev cX6_beginsPart : ByteArray := prog_8_method_13_code
def yX6_beginsPart : MethodName := ⟨RX6, "beginsPart", "(I)Z"⟩
abbrev cX6_isLetter : ByteArray := prog_8_method_14_code
def yX6_isLetter : MethodName := ⟨RX6, "isLetter", "(I)Z"⟩
abbrev cX6_chain : ByteArray := prog_8_method_15_code
def yX6_chain : MethodName := ⟨RX6, "chain", "(II)I"⟩
abbrev cX6_readRepeats : ByteArray := prog_8_method_16_code
def yX6_readRepeats : MethodName := ⟨RX6, "readRepeats", "(I)I"⟩
abbrev cX6_readPart : ByteArray := prog_8_method_17_code
def yX6_readPart : MethodName := ⟨RX6, "readPart", "(I)I"⟩
abbrev cX6_readClass : ByteArray := prog_8_method_18_code
def yX6_readClass : MethodName := ⟨RX6, "readClass", "()I"⟩
def RX7 : String := "ShownPatterns$Showings"
def TX7 : u_T := fun k => match k with
  | 0 => ("ShownPatterns$Showings", "rows", "[I", true)
  | 1 => ("ShownPatterns$Showings", "said", "[I", true)
  | 2 => ("ShownPatterns$Showings", "parts", "[I", true)
  | 3 => ("ShownPatterns$Showings", "prices", "[I", true)
  | 4 => ("ShownPatterns$Showings", "size", "I", false)
  | _ => ("ShownPatterns$Showings", "takenBack", "I", false)
def tyX7 : Nat → FieldType := fun k => match k with
  | 0 => .array .int
  | 1 => .array .int
  | 2 => .array .int
  | 3 => .array .int
  | 4 => .int
  | _ => .int
theorem nmX7 : ∀ a, a < 6 → ∀ b, b < 6 → a ≠ b → (TX7 a).2.1 ≠ (TX7 b).2.1 := by decide +kernel
theorem tyX7_ok : ∀ k, k < 6 → parseFieldDescriptor (TX7 k).2.2.1 = some (tyX7 k) := by decide +kernel
abbrev cX7_init : ByteArray := prog_9_method_1_code
def yX7_init : MethodName := ⟨RX7, "<init>", "()V"⟩
abbrev cX7_size : ByteArray := prog_9_method_2_code
def yX7_size : MethodName := ⟨RX7, "size", "()I"⟩
abbrev cX7_has : ByteArray := prog_9_method_3_code
def yX7_has : MethodName := ⟨RX7, "has", "(I)Z"⟩
abbrev cX7_add : ByteArray := prog_9_method_4_code
def yX7_add : MethodName := ⟨RX7, "add", "(IIII)I"⟩
abbrev cX7_takeBack : ByteArray := prog_9_method_5_code
def yX7_takeBack : MethodName := ⟨RX7, "takeBack", "(II)I"⟩
abbrev cX7_standing : ByteArray := prog_9_method_6_code
def yX7_standing : MethodName := ⟨RX7, "standing", "()I"⟩
abbrev cX7_priceOf : ByteArray := prog_9_method_7_code
def yX7_priceOf : MethodName := ⟨RX7, "priceOf", "(I)I"⟩
abbrev cX7_rowOf : ByteArray := prog_9_method_8_code
def yX7_rowOf : MethodName := ⟨RX7, "rowOf", "(I)I"⟩
abbrev cX7_isSo : ByteArray := prog_9_method_9_code
def yX7_isSo : MethodName := ⟨RX7, "isSo", "(IJ)Z"⟩
def RX8 : String := "ShownPatterns$Spans"
def TX8 : u_T := fun k => match k with
  | 0 => ("ShownPatterns$Spans", "spans", "[J", true)
  | _ => ("ShownPatterns$Spans", "ofLetter", "[J", true)
def tyX8 : Nat → FieldType := fun k => match k with
  | 0 => .array .long
  | _ => .array .long
theorem nmX8 : ∀ a, a < 2 → ∀ b, b < 2 → a ≠ b → (TX8 a).2.1 ≠ (TX8 b).2.1 := by decide +kernel
theorem tyX8_ok : ∀ k, k < 2 → parseFieldDescriptor (TX8 k).2.2.1 = some (tyX8 k) := by decide +kernel
abbrev cX8_init : ByteArray := prog_10_method_1_code
def yX8_init : MethodName := ⟨RX8, "<init>", "(I)V"⟩
abbrev cX8_lay : ByteArray := prog_10_method_2_code
def yX8_lay : MethodName := ⟨RX8, "lay", "(II)V"⟩
abbrev cX8_fill : ByteArray := prog_10_method_3_code
def yX8_fill : MethodName := ⟨RX8, "fill", "(LShownPatterns$Nodes;)V"⟩
abbrev cX8_of : ByteArray := prog_10_method_4_code
def yX8_of : MethodName := ⟨RX8, "of", "(I)J"⟩
abbrev cX8_spanOf : ByteArray := prog_10_method_5_code
def yX8_spanOf : MethodName := ⟨RX8, "spanOf", "(III)J"⟩
abbrev cX8_ofClass : ByteArray := prog_10_method_6_code
def yX8_ofClass : MethodName := ⟨RX8, "ofClass", "(I)J"⟩
abbrev cX8_behind : ByteArray := prog_10_method_7_code
def yX8_behind : MethodName := ⟨RX8, "behind", "(JJ)J"⟩
abbrev cX8_again : ByteArray := prog_10_method_8_code
def yX8_again : MethodName := ⟨RX8, "again", "(J)J"⟩
abbrev cX8_has : ByteArray := prog_10_method_9_code
def yX8_has : MethodName := ⟨RX8, "has", "(JII)Z"⟩
abbrev cX8_partOut : ByteArray := prog_10_method_10_code
def yX8_partOut : MethodName := ⟨RX8, "partOut", "(JI)I"⟩
def RX9 : String := "ShownPatterns$Ways"
def TX9 : u_T := fun k => match k with
  | _ => ("ShownPatterns$Ways", "ways", "[I", true)
def tyX9 : Nat → FieldType := fun k => match k with
  | _ => .array .int
theorem nmX9 : ∀ a, a < 1 → ∀ b, b < 1 → a ≠ b → (TX9 a).2.1 ≠ (TX9 b).2.1 := by decide +kernel
theorem tyX9_ok : ∀ k, k < 1 → parseFieldDescriptor (TX9 k).2.2.1 = some (tyX9 k) := by decide +kernel
abbrev cX9_init : ByteArray := prog_11_method_1_code
def yX9_init : MethodName := ⟨RX9, "<init>", "()V"⟩
abbrev cX9_fill : ByteArray := prog_11_method_2_code
def yX9_fill : MethodName := ⟨RX9, "fill", "(LShownPatterns$Automaton;I)V"⟩
abbrev cX9_from : ByteArray := prog_11_method_3_code
def yX9_from : MethodName := ⟨RX9, "from", "(II)I"⟩
abbrev cX9_rowAt : ByteArray := prog_11_method_4_code
def yX9_rowAt : MethodName := ⟨RX9, "rowAt", "(LShownPatterns$Automaton;II)I"⟩
def RX10 : String := "ShownPatterns$Writer"
def TX10 : u_T := fun k => match k with
  | 0 => ("ShownPatterns$Writer", "signs", "[I", true)
  | _ => ("ShownPatterns$Writer", "length", "I", false)
def tyX10 : Nat → FieldType := fun k => match k with
  | 0 => .array .int
  | _ => .int
theorem nmX10 : ∀ a, a < 2 → ∀ b, b < 2 → a ≠ b → (TX10 a).2.1 ≠ (TX10 b).2.1 := by decide +kernel
theorem tyX10_ok : ∀ k, k < 2 → parseFieldDescriptor (TX10 k).2.2.1 = some (tyX10 k) := by decide +kernel
abbrev cX10_init : ByteArray := prog_12_method_1_code
def yX10_init : MethodName := ⟨RX10, "<init>", "()V"⟩
abbrev cX10_length : ByteArray := prog_12_method_2_code
def yX10_length : MethodName := ⟨RX10, "length", "()I"⟩
abbrev cX10_signAt : ByteArray := prog_12_method_3_code
def yX10_signAt : MethodName := ⟨RX10, "signAt", "(I)I"⟩
abbrev cX10_write : ByteArray := prog_12_method_4_code
def yX10_write : MethodName := ⟨RX10, "write", "(LShownPatterns$Nodes;)V"⟩
abbrev cX10_put : ByteArray := prog_12_method_5_code
def yX10_put : MethodName := ⟨RX10, "put", "(I)V"⟩
abbrev cX10_writeNode : ByteArray := prog_12_method_6_code
def yX10_writeNode : MethodName := ⟨RX10, "writeNode", "(LShownPatterns$Writer;LShownPatterns$Nodes;II)V"⟩
abbrev cX10_writePart : ByteArray := prog_12_method_7_code
def yX10_writePart : MethodName := ⟨RX10, "writePart", "(LShownPatterns$Writer;LShownPatterns$Nodes;IZI)V"⟩
abbrev cX10_putClass : ByteArray := prog_12_method_8_code
def yX10_putClass : MethodName := ⟨RX10, "putClass", "(I)V"⟩
def RX11 : String := "ShownPatterns"
def TX11 : u_T := fun k => match k with
  | 0 => ("ShownPatterns", "places", "[LShownPatterns$Nodes;", true)
  | 1 => ("ShownPatterns", "reader", "LShownPatterns$Reader;", true)
  | 2 => ("ShownPatterns", "writer", "LShownPatterns$Writer;", true)
  | 3 => ("ShownPatterns", "one", "LShownPatterns$Automaton;", true)
  | 4 => ("ShownPatterns", "other", "LShownPatterns$Automaton;", true)
  | 5 => ("ShownPatterns", "ways", "LShownPatterns$Ways;", true)
  | 6 => ("ShownPatterns", "spans", "LShownPatterns$Spans;", true)
  | 7 => ("ShownPatterns", "showings", "LShownPatterns$Showings;", true)
  | 8 => ("ShownPatterns", "pairs", "LShownPatterns$Pairs;", false)
  | 9 => ("ShownPatterns", "catalogue", "LShownPatterns$Catalogue;", false)
  | _ => ("ShownPatterns", "finder", "LShownPatterns$Finder;", false)
def tyX11 : Nat → FieldType := fun k => match k with
  | 0 => .array (.object "ShownPatterns$Nodes")
  | 1 => .object "ShownPatterns$Reader"
  | 2 => .object "ShownPatterns$Writer"
  | 3 => .object "ShownPatterns$Automaton"
  | 4 => .object "ShownPatterns$Automaton"
  | 5 => .object "ShownPatterns$Ways"
  | 6 => .object "ShownPatterns$Spans"
  | 7 => .object "ShownPatterns$Showings"
  | 8 => .object "ShownPatterns$Pairs"
  | 9 => .object "ShownPatterns$Catalogue"
  | _ => .object "ShownPatterns$Finder"
theorem nmX11 : ∀ a, a < 11 → ∀ b, b < 11 → a ≠ b → (TX11 a).2.1 ≠ (TX11 b).2.1 := by decide +kernel
theorem tyX11_ok : ∀ k, k < 11 → parseFieldDescriptor (TX11 k).2.2.1 = some (tyX11 k) := by decide +kernel
abbrev cX11_init : ByteArray := prog_1_method_1_code
def yX11_init : MethodName := ⟨RX11, "<init>", "()V"⟩
abbrev cX11_feed : ByteArray := prog_1_method_2_code
def yX11_feed : MethodName := ⟨RX11, "feed", "(II)I"⟩
abbrev cX11_read : ByteArray := prog_1_method_3_code
def yX11_read : MethodName := ⟨RX11, "read", "(I)I"⟩
abbrev cX11_say : ByteArray := prog_1_method_4_code
def yX11_say : MethodName := ⟨RX11, "say", "(II)I"⟩
abbrev cX11_drop : ByteArray := prog_1_method_5_code
def yX11_drop : MethodName := ⟨RX11, "drop", "(I)I"⟩
abbrev cX11_about : ByteArray := prog_1_method_6_code
def yX11_about : MethodName := ⟨RX11, "about", "(II)I"⟩
abbrev cX11_nth : ByteArray := prog_1_method_7_code
def yX11_nth : MethodName := ⟨RX11, "nth", "(III)I"⟩
abbrev cX11_fits : ByteArray := prog_1_method_8_code
def yX11_fits : MethodName := ⟨RX11, "fits", "(II)I"⟩
abbrev cX11_out : ByteArray := prog_1_method_9_code
def yX11_out : MethodName := ⟨RX11, "out", "(II)I"⟩
abbrev cX11_many : ByteArray := prog_1_method_10_code
def yX11_many : MethodName := ⟨RX11, "many", "(II)I"⟩
abbrev cX11_row : ByteArray := prog_1_method_11_code
def yX11_row : MethodName := ⟨RX11, "row", "(III)I"⟩
abbrev cX11_alike : ByteArray := prog_1_method_12_code
def yX11_alike : MethodName := ⟨RX11, "alike", "(II)I"⟩
abbrev cX11_parted : ByteArray := prog_1_method_13_code
def yX11_parted : MethodName := ⟨RX11, "parted", "(II)I"⟩
abbrev cX11_inside : ByteArray := prog_1_method_14_code
def yX11_inside : MethodName := ⟨RX11, "inside", "(II)I"⟩
abbrev cX11_show : ByteArray := prog_1_method_15_code
def yX11_show : MethodName := ⟨RX11, "show", "(IIII)I"⟩
abbrev cX11_back : ByteArray := prog_1_method_16_code
def yX11_back : MethodName := ⟨RX11, "back", "(II)I"⟩
abbrev cX11_agrees : ByteArray := prog_1_method_17_code
def yX11_agrees : MethodName := ⟨RX11, "agrees", "(II)I"⟩
abbrev cX11_paid : ByteArray := prog_1_method_18_code
def yX11_paid : MethodName := ⟨RX11, "paid", "(I)I"⟩
abbrev cX11_find : ByteArray := prog_1_method_19_code
def yX11_find : MethodName := ⟨RX11, "find", "(III)I"⟩
abbrev cX11_next : ByteArray := prog_1_method_20_code
def yX11_next : MethodName := ⟨RX11, "next", "(I)I"⟩
abbrev cX11_found : ByteArray := prog_1_method_21_code
def yX11_found : MethodName := ⟨RX11, "found", "()I"⟩
abbrev cX11_open : ByteArray := prog_1_method_22_code
def yX11_open : MethodName := ⟨RX11, "open", "(II)I"⟩
abbrev cX11_ask : ByteArray := prog_1_method_23_code
def yX11_ask : MethodName := ⟨RX11, "ask", "(II)I"⟩
abbrev cX11_asked : ByteArray := prog_1_method_24_code
def yX11_asked : MethodName := ⟨RX11, "asked", "()I"⟩
abbrev cX11_noise : ByteArray := prog_1_method_25_code
def yX11_noise : MethodName := ⟨RX11, "noise", "(III)I"⟩
abbrev cX11_count : ByteArray := prog_1_method_26_code
def yX11_count : MethodName := ⟨RX11, "count", "(I)I"⟩
abbrev cX11_placeAt : ByteArray := prog_1_method_27_code
def yX11_placeAt : MethodName := ⟨RX11, "placeAt", "(I)LShownPatterns$Nodes;"⟩
abbrev cX11_patternAt : ByteArray := prog_1_method_28_code
def yX11_patternAt : MethodName := ⟨RX11, "patternAt", "(I)LShownPatterns$Nodes;"⟩
abbrev cX11_patternsInPlaces : ByteArray := prog_1_method_29_code
def yX11_patternsInPlaces : MethodName := ⟨RX11, "patternsInPlaces", "()I"⟩
abbrev cX11_theCatalogue : ByteArray := prog_1_method_30_code
def yX11_theCatalogue : MethodName := ⟨RX11, "theCatalogue", "()LShownPatterns$Catalogue;"⟩
abbrev cX11_theFinder : ByteArray := prog_1_method_31_code
def yX11_theFinder : MethodName := ⟨RX11, "theFinder", "()LShownPatterns$Finder;"⟩
abbrev cX11_putFound : ByteArray := prog_1_method_32_code
def yX11_putFound : MethodName := ⟨RX11, "putFound", "(LShownPatterns$Nodes;I)I"⟩
abbrev cX11_partingRow : ByteArray := prog_1_method_33_code
def yX11_partingRow : MethodName := ⟨RX11, "partingRow", "(IIZ)I"⟩
abbrev cX11_agreesWith : ByteArray := prog_1_method_34_code
def yX11_agreesWith : MethodName := ⟨RX11, "agreesWith", "(LShownPatterns$Nodes;I)Z"⟩
abbrev cX11_isPart : ByteArray := prog_1_method_35_code
def yX11_isPart : MethodName := ⟨RX11, "isPart", "(III)Z"⟩
abbrev cX11_isKinds : ByteArray := prog_1_method_36_code
def yX11_isKinds : MethodName := ⟨RX11, "isKinds", "(I)Z"⟩
abbrev cX11_isCost : ByteArray := prog_1_method_37_code
def yX11_isCost : MethodName := ⟨RX11, "isCost", "(I)Z"⟩
abbrev cX11_lengthOf : ByteArray := prog_1_method_38_code
def yX11_lengthOf : MethodName := ⟨RX11, "lengthOf", "(I)I"⟩
abbrev cX11_letterAt : ByteArray := prog_1_method_39_code
def yX11_letterAt : MethodName := ⟨RX11, "letterAt", "(III)I"⟩
abbrev cX11_ownCost : ByteArray := prog_1_method_40_code
def yX11_ownCost : MethodName := ⟨RX11, "ownCost", "(I)I"⟩
abbrev cX11_isLeaf : ByteArray := prog_1_method_41_code
def yX11_isLeaf : MethodName := ⟨RX11, "isLeaf", "(I)Z"⟩
abbrev cX11_hasTwoParts : ByteArray := prog_1_method_42_code
def yX11_hasTwoParts : MethodName := ⟨RX11, "hasTwoParts", "(I)Z"⟩
def RX12 : String := "ShownPatternsModel"
def TX12 : u_T := fun k => match k with
  | 0 => ("ShownPatternsModel", "code", "I", false)
  | 1 => ("ShownPatternsModel", "row", "[I", true)
  | 2 => ("ShownPatternsModel", "rowSize", "I", false)
  | 3 => ("ShownPatternsModel", "kind", "[I", true)
  | 4 => ("ShownPatternsModel", "val", "[I", true)
  | 5 => ("ShownPatternsModel", "one", "[I", true)
  | 6 => ("ShownPatternsModel", "two", "[I", true)
  | 7 => ("ShownPatternsModel", "cost", "[I", true)
  | 8 => ("ShownPatternsModel", "nodes", "[I", true)
  | 9 => ("ShownPatternsModel", "uses", "[I", true)
  | 10 => ("ShownPatternsModel", "top", "I", false)
  | 11 => ("ShownPatternsModel", "all", "I", false)
  | 12 => ("ShownPatternsModel", "costFrom", "[I", true)
  | 13 => ("ShownPatternsModel", "placed", "[I", true)
  | 14 => ("ShownPatternsModel", "rowKind", "[I", true)
  | 15 => ("ShownPatternsModel", "rowVal", "[I", true)
  | 16 => ("ShownPatternsModel", "at", "I", false)
  | 17 => ("ShownPatternsModel", "tape", "[B", true)
  | 18 => ("ShownPatternsModel", "taped", "I", false)
  | 19 => ("ShownPatternsModel", "here", "I", false)
  | 20 => ("ShownPatternsModel", "fault", "I", false)
  | 21 => ("ShownPatternsModel", "open", "I", false)
  | 22 => ("ShownPatternsModel", "said", "I", false)
  | 23 => ("ShownPatternsModel", "says", "[I", true)
  | 24 => ("ShownPatternsModel", "letters", "[I", true)
  | 25 => ("ShownPatternsModel", "accepts", "[I", true)
  | 26 => ("ShownPatternsModel", "follows", "[I", true)
  | 27 => ("ShownPatternsModel", "firsts", "[I", true)
  | 28 => ("ShownPatternsModel", "lasts", "[I", true)
  | 29 => ("ShownPatternsModel", "mayBeEmpty", "[Z", true)
  | 30 => ("ShownPatternsModel", "partFirst", "I", false)
  | 31 => ("ShownPatternsModel", "partLast", "I", false)
  | 32 => ("ShownPatternsModel", "partEmpty", "Z", false)
  | 33 => ("ShownPatternsModel", "ways", "[I", true)
  | 34 => ("ShownPatternsModel", "pairs", "[I", true)
  | 35 => ("ShownPatternsModel", "pairFrom", "[I", true)
  | 36 => ("ShownPatternsModel", "seen", "[Z", true)
  | 37 => ("ShownPatternsModel", "pairMany", "I", false)
  | 38 => ("ShownPatternsModel", "showings", "I", false)
  | 39 => ("ShownPatternsModel", "shownRow", "[I", true)
  | 40 => ("ShownPatternsModel", "shownSays", "[I", true)
  | 41 => ("ShownPatternsModel", "shownPart", "[I", true)
  | 42 => ("ShownPatternsModel", "shownPrice", "[I", true)
  | 43 => ("ShownPatternsModel", "isBack", "[Z", true)
  | 44 => ("ShownPatternsModel", "isKnown", "[Z", true)
  | 45 => ("ShownPatternsModel", "low", "[J", true)
  | 46 => ("ShownPatternsModel", "high", "[J", true)
  | 47 => ("ShownPatternsModel", "rowNumber", "[I", true)
  | 48 => ("ShownPatternsModel", "searchKinds", "I", false)
  | 49 => ("ShownPatternsModel", "searchCost", "I", false)
  | 50 => ("ShownPatternsModel", "searchAt", "I", false)
  | 51 => ("ShownPatternsModel", "foundMany", "I", false)
  | 52 => ("ShownPatternsModel", "foundLow", "[J", true)
  | 53 => ("ShownPatternsModel", "foundHigh", "[J", true)
  | 54 => ("ShownPatternsModel", "meanings", "I", false)
  | 55 => ("ShownPatternsModel", "meaningLow", "[J", true)
  | 56 => ("ShownPatternsModel", "meaningHigh", "[J", true)
  | _ => ("ShownPatternsModel", "askedMany", "I", false)
def tyX12 : Nat → FieldType := fun k => match k with
  | 0 => .int
  | 1 => .array .int
  | 2 => .int
  | 3 => .array .int
  | 4 => .array .int
  | 5 => .array .int
  | 6 => .array .int
  | 7 => .array .int
  | 8 => .array .int
  | 9 => .array .int
  | 10 => .int
  | 11 => .int
  | 12 => .array .int
  | 13 => .array .int
  | 14 => .array .int
  | 15 => .array .int
  | 16 => .int
  | 17 => .array .byte
  | 18 => .int
  | 19 => .int
  | 20 => .int
  | 21 => .int
  | 22 => .int
  | 23 => .array .int
  | 24 => .array .int
  | 25 => .array .int
  | 26 => .array .int
  | 27 => .array .int
  | 28 => .array .int
  | 29 => .array .boolean
  | 30 => .int
  | 31 => .int
  | 32 => .boolean
  | 33 => .array .int
  | 34 => .array .int
  | 35 => .array .int
  | 36 => .array .boolean
  | 37 => .int
  | 38 => .int
  | 39 => .array .int
  | 40 => .array .int
  | 41 => .array .int
  | 42 => .array .int
  | 43 => .array .boolean
  | 44 => .array .boolean
  | 45 => .array .long
  | 46 => .array .long
  | 47 => .array .int
  | 48 => .int
  | 49 => .int
  | 50 => .int
  | 51 => .int
  | 52 => .array .long
  | 53 => .array .long
  | 54 => .int
  | 55 => .array .long
  | 56 => .array .long
  | _ => .int
theorem nmX12 : ∀ a, a < 58 → ∀ b, b < 58 → a ≠ b → (TX12 a).2.1 ≠ (TX12 b).2.1 := by decide +kernel
theorem tyX12_ok : ∀ k, k < 58 → parseFieldDescriptor (TX12 k).2.2.1 = some (tyX12 k) := by decide +kernel
abbrev cX12_init : ByteArray := prog_14_method_1_code
def yX12_init : MethodName := ⟨RX12, "<init>", "()V"⟩
abbrev cX12_in : ByteArray := prog_14_method_3_code
def yX12_in : MethodName := ⟨RX12, "in", "(III)Z"⟩
abbrev cX12_take : ByteArray := prog_14_method_4_code
def yX12_take : MethodName := ⟨RX12, "take", "(II)Z"⟩
abbrev cX12_price : ByteArray := prog_14_method_5_code
def yX12_price : MethodName := ⟨RX12, "price", "(I)I"⟩
abbrev cX12_lays : ByteArray := prog_14_method_6_code
def yX12_lays : MethodName := ⟨RX12, "lays", "(IIIII)V"⟩
abbrev cX12_make : ByteArray := prog_14_method_7_code
def yX12_make : MethodName := ⟨RX12, "make", "(IIII)I"⟩
abbrev cX12_add : ByteArray := prog_14_method_8_code
def yX12_add : MethodName := ⟨RX12, "add", "(IIII)V"⟩
abbrev cX12_lay : ByteArray := prog_14_method_9_code
def yX12_lay : MethodName := ⟨RX12, "lay", "()V"⟩
abbrev cX12_ends : ByteArray := prog_14_method_10_code
def yX12_ends : MethodName := ⟨RX12, "ends", "(II)I"⟩
abbrev cX12_behind : ByteArray := prog_14_method_11_code
def yX12_behind : MethodName := ⟨RX12, "behind", "(II)I"⟩
abbrev cX12_again : ByteArray := prog_14_method_12_code
def yX12_again : MethodName := ⟨RX12, "again", "(II)I"⟩
abbrev cX12_isFit : ByteArray := prog_14_method_13_code
def yX12_isFit : MethodName := ⟨RX12, "isFit", "(I)Z"⟩
abbrev cX12_outOf : ByteArray := prog_14_method_14_code
def yX12_outOf : MethodName := ⟨RX12, "outOf", "(I)I"⟩
abbrev cX12_isPlace : ByteArray := prog_14_method_15_code
def yX12_isPlace : MethodName := ⟨RX12, "isPlace", "(I)Z"⟩
abbrev cX12_has : ByteArray := prog_14_method_16_code
def yX12_has : MethodName := ⟨RX12, "has", "(I)Z"⟩
abbrev cX12_grow : ByteArray := prog_14_method_17_code
def yX12_grow : MethodName := ⟨RX12, "grow", "()I"⟩
abbrev cX12_treeOf : ByteArray := prog_14_method_18_code
def yX12_treeOf : MethodName := ⟨RX12, "treeOf", "(I)I"⟩
abbrev cX12_flatten : ByteArray := prog_14_method_19_code
def yX12_flatten : MethodName := ⟨RX12, "flatten", "(I)V"⟩
abbrev cX12_put : ByteArray := prog_14_method_20_code
def yX12_put : MethodName := ⟨RX12, "put", "(II)V"⟩
abbrev cX12_feed : ByteArray := prog_14_method_21_code
def yX12_feed : MethodName := ⟨RX12, "feed", "(II)I"⟩
abbrev cX12_look : ByteArray := prog_14_method_22_code
def yX12_look : MethodName := ⟨RX12, "look", "()I"⟩
abbrev cX12_wrong : ByteArray := prog_14_method_23_code
def yX12_wrong : MethodName := ⟨RX12, "wrong", "()I"⟩
abbrev cX12_begins : ByteArray := prog_14_method_24_code
def yX12_begins : MethodName := ⟨RX12, "begins", "()Z"⟩
abbrev cX12_either : ByteArray := prog_14_method_25_code
def yX12_either : MethodName := ⟨RX12, "either", "()I"⟩
abbrev cX12_row0 : ByteArray := prog_14_method_26_code
def yX12_row0 : MethodName := ⟨RX12, "row0", "()I"⟩
abbrev cX12_joined : ByteArray := prog_14_method_27_code
def yX12_joined : MethodName := ⟨RX12, "joined", "(II)I"⟩
abbrev cX12_repeated : ByteArray := prog_14_method_28_code
def yX12_repeated : MethodName := ⟨RX12, "repeated", "()I"⟩
abbrev cX12_base : ByteArray := prog_14_method_29_code
def yX12_base : MethodName := ⟨RX12, "base", "()I"⟩
abbrev cX12_set : ByteArray := prog_14_method_30_code
def yX12_set : MethodName := ⟨RX12, "set", "()I"⟩
abbrev cX12_read : ByteArray := prog_14_method_31_code
def yX12_read : MethodName := ⟨RX12, "read", "(I)I"⟩
abbrev cX12_sign : ByteArray := prog_14_method_32_code
def yX12_sign : MethodName := ⟨RX12, "sign", "(I)V"⟩
abbrev cX12_sayIn : ByteArray := prog_14_method_33_code
def yX12_sayIn : MethodName := ⟨RX12, "sayIn", "(IZ)V"⟩
abbrev cX12_say0 : ByteArray := prog_14_method_34_code
def yX12_say0 : MethodName := ⟨RX12, "say0", "(I)V"⟩
abbrev cX12_say : ByteArray := prog_14_method_35_code
def yX12_say : MethodName := ⟨RX12, "say", "(II)I"⟩
abbrev cX12_drop : ByteArray := prog_14_method_36_code
def yX12_drop : MethodName := ⟨RX12, "drop", "(I)I"⟩
abbrev cX12_find0 : ByteArray := prog_14_method_37_code
def yX12_find0 : MethodName := ⟨RX12, "find0", "(I)I"⟩
abbrev cX12_about : ByteArray := prog_14_method_38_code
def yX12_about : MethodName := ⟨RX12, "about", "(II)I"⟩
abbrev cX12_nth : ByteArray := prog_14_method_39_code
def yX12_nth : MethodName := ⟨RX12, "nth", "(III)I"⟩
abbrev cX12_fits : ByteArray := prog_14_method_40_code
def yX12_fits : MethodName := ⟨RX12, "fits", "(II)I"⟩
abbrev cX12_out : ByteArray := prog_14_method_41_code
def yX12_out : MethodName := ⟨RX12, "out", "(II)I"⟩
abbrev cX12_study : ByteArray := prog_14_method_42_code
def yX12_study : MethodName := ⟨RX12, "study", "(II)V"⟩
abbrev cX12_follow : ByteArray := prog_14_method_43_code
def yX12_follow : MethodName := ⟨RX12, "follow", "(III)V"⟩
abbrev cX12_study0 : ByteArray := prog_14_method_44_code
def yX12_study0 : MethodName := ⟨RX12, "study0", "(II)V"⟩
abbrev cX12_steps : ByteArray := prog_14_method_45_code
def yX12_steps : MethodName := ⟨RX12, "steps", "(III)I"⟩
abbrev cX12_ends0 : ByteArray := prog_14_method_46_code
def yX12_ends0 : MethodName := ⟨RX12, "ends0", "(II)Z"⟩
abbrev cX12_countWays : ByteArray := prog_14_method_47_code
def yX12_countWays : MethodName := ⟨RX12, "countWays", "(II)V"⟩
abbrev cX12_many : ByteArray := prog_14_method_48_code
def yX12_many : MethodName := ⟨RX12, "many", "(II)I"⟩
abbrev cX12_row : ByteArray := prog_14_method_49_code
def yX12_row : MethodName := ⟨RX12, "row", "(III)I"⟩
abbrev cX12_findPair : ByteArray := prog_14_method_50_code
def yX12_findPair : MethodName := ⟨RX12, "findPair", "(III)I"⟩
abbrev cX12_alike : ByteArray := prog_14_method_51_code
def yX12_alike : MethodName := ⟨RX12, "alike", "(II)I"⟩
abbrev cX12_parted : ByteArray := prog_14_method_52_code
def yX12_parted : MethodName := ⟨RX12, "parted", "(II)I"⟩
abbrev cX12_inside : ByteArray := prog_14_method_53_code
def yX12_inside : MethodName := ⟨RX12, "inside", "(II)I"⟩
abbrev cX12_show : ByteArray := prog_14_method_54_code
def yX12_show : MethodName := ⟨RX12, "show", "(IIII)I"⟩
abbrev cX12_isShowing : ByteArray := prog_14_method_55_code
def yX12_isShowing : MethodName := ⟨RX12, "isShowing", "(I)Z"⟩
abbrev cX12_back : ByteArray := prog_14_method_56_code
def yX12_back : MethodName := ⟨RX12, "back", "(II)I"⟩
abbrev cX12_agrees0 : ByteArray := prog_14_method_57_code
def yX12_agrees0 : MethodName := ⟨RX12, "agrees0", "(II)Z"⟩
abbrev cX12_agrees : ByteArray := prog_14_method_58_code
def yX12_agrees : MethodName := ⟨RX12, "agrees", "(II)I"⟩
abbrev cX12_paidBy : ByteArray := prog_14_method_59_code
def yX12_paidBy : MethodName := ⟨RX12, "paidBy", "(I)I"⟩
abbrev cX12_paid : ByteArray := prog_14_method_60_code
def yX12_paid : MethodName := ⟨RX12, "paid", "(I)I"⟩
abbrev cX12_number : ByteArray := prog_14_method_61_code
def yX12_number : MethodName := ⟨RX12, "number", "()V"⟩
abbrev cX12_know : ByteArray := prog_14_method_62_code
def yX12_know : MethodName := ⟨RX12, "know", "(I)V"⟩
abbrev cX12_agreesAll : ByteArray := prog_14_method_63_code
def yX12_agreesAll : MethodName := ⟨RX12, "agreesAll", "(I)Z"⟩
abbrev cX12_isOf : ByteArray := prog_14_method_64_code
def yX12_isOf : MethodName := ⟨RX12, "isOf", "(III)Z"⟩
abbrev cX12_areAsked : ByteArray := prog_14_method_65_code
def yX12_areAsked : MethodName := ⟨RX12, "areAsked", "(II)Z"⟩
abbrev cX12_isNew : ByteArray := prog_14_method_66_code
def yX12_isNew : MethodName := ⟨RX12, "isNew", "(I)Z"⟩
abbrev cX12_note : ByteArray := prog_14_method_67_code
def yX12_note : MethodName := ⟨RX12, "note", "(I)V"⟩
abbrev cX12_goOn : ByteArray := prog_14_method_68_code
def yX12_goOn : MethodName := ⟨RX12, "goOn", "(I)I"⟩
abbrev cX12_find : ByteArray := prog_14_method_69_code
def yX12_find : MethodName := ⟨RX12, "find", "(III)I"⟩
abbrev cX12_next : ByteArray := prog_14_method_70_code
def yX12_next : MethodName := ⟨RX12, "next", "(I)I"⟩
abbrev cX12_found : ByteArray := prog_14_method_71_code
def yX12_found : MethodName := ⟨RX12, "found", "()I"⟩
abbrev cX12_gather : ByteArray := prog_14_method_72_code
def yX12_gather : MethodName := ⟨RX12, "gather", "(II)V"⟩
abbrev cX12_open : ByteArray := prog_14_method_73_code
def yX12_open : MethodName := ⟨RX12, "open", "(II)I"⟩
abbrev cX12_ask : ByteArray := prog_14_method_74_code
def yX12_ask : MethodName := ⟨RX12, "ask", "(II)I"⟩
abbrev cX12_asked : ByteArray := prog_14_method_75_code
def yX12_asked : MethodName := ⟨RX12, "asked", "()I"⟩
abbrev cX12_noise : ByteArray := prog_14_method_76_code
def yX12_noise : MethodName := ⟨RX12, "noise", "(III)I"⟩
abbrev cX12_count : ByteArray := prog_14_method_77_code
def yX12_count : MethodName := ⟨RX12, "count", "(I)I"⟩
def RJ6 : String := "java/lang/Integer"
abbrev cJ6_bitCount_0f7a4 : ByteArray := prog_15_method_49_code
def yJ6_bitCount_0f7a4 : MethodName := ⟨RJ6, "bitCount", "(I)I"⟩
def RJ9 : String := "java/lang/Math"
abbrev cJ9_max_7cf53 : ByteArray := prog_16_method_65_code
def yJ9_max_7cf53 : MethodName := ⟨RJ9, "max", "(II)I"⟩
abbrev cJ9_min_7cf53 : ByteArray := prog_16_method_69_code
def yJ9_min_7cf53 : MethodName := ⟨RJ9, "min", "(II)I"⟩
def RJ10 : String := "java/lang/System"
def RJ7 : String := "java/util/Arrays"
abbrev cJ7_fill_d0a16 : ByteArray := prog_18_method_101_code
def yJ7_fill_d0a16 : MethodName := ⟨RJ7, "fill", "([JJ)V"⟩
abbrev cJ7_fill_53178 : ByteArray := prog_18_method_103_code
def yJ7_fill_53178 : MethodName := ⟨RJ7, "fill", "([II)V"⟩
def RL : String := "ShownPatternsLaw"
abbrev vwCl : List vw_C := [(RX0, TX0, 9), (RX1, TX1, 5), (RX2, TX2, 17), (RX3, TX3, 6), (RX4, TX4, 4), (RX5, TX5, 3), (RX6, TX6, 7), (RX7, TX7, 6), (RX8, TX8, 2), (RX9, TX9, 1), (RX10, TX10, 2), (RX11, TX11, 11), (RX12, TX12, 58)]
end
section
/-! memory as a function from addresses to pictures; a step of the machine as a predicate transformer over it -/
abbrev qLv : Type := List (Nat × Value)
abbrev qE : Type := (Nat × vp_A) ⊕ (Nat × List Value)
abbrev qM : Type := Nat × (Nat → Option qE)
abbrev qMI : Type := MethodName × ByteArray × Nat × Option FieldType
/-- what is fixed for a run: class numbers, array classes by code (1 int, 2 long, 3 boolean, 4 byte, 5 Nodes[]; 6 is an int table that nobody writes), the heap at the law's entry, the two tables' addresses -/
abbrev qC : Type := va_G × (Nat → ClassId) × Heap × Nat × Nat
def q_A (G : qC) : Nat → Prop := fun q => G.2.2.1.size ≤ q
def q_tys (G : qC) : List (ClassId × FieldType) := [(G.2.1 1, .int), (G.2.1 2, .long), (G.2.1 3, .boolean), (G.2.1 4, .byte), (G.2.1 5, .object "ShownPatterns$Nodes")]
def q_own (k : Nat) : Int32 := match k with
  | 0 => 2
  | 1 => 3
  | 2 => 1
  | _ => 2
def q_pow (k : Nat) : Int32 := nI (3 ^ k)
def q_gw : List Cond := lw_tbl.filter goodWord
def q_nest : Cond → Bool
  | .methodLinkNest _ _ _ _ => true
  | .fieldLinkNest _ _ _ _ _ _ => true
  | _ => false
theorem q_in {w : Cond} {i : Nat} (h : tables_1[i]? = some w) (hg : goodWord w = true) : w ∈ q_gw := List.mem_filter.mpr ⟨List.mem_append_right _ (List.mem_of_getElem? h), hg⟩
theorem q_inS {w : Cond} {i : Nat} (h : (k2_sels lw_privs)[i]? = some w) (hg : goodWord w = true) : w ∈ q_gw := List.mem_filter.mpr ⟨List.mem_append_left _ (List.mem_of_getElem? h), hg⟩
theorem q_inN {w : Cond} {i : Nat} (h : tables_1[i]? = some w) : w ∈ lw_tbl := List.mem_append_right _ (List.mem_of_getElem? h)
def q_K (G : qC) (U : State) : Prop :=
  va_K G.1 vwCl (q_tys G) U ∧ (∀ w ∈ lw_tbl, q_nest w = true → va_Nw w U) ∧ va_AO "ShownPatterns$Nodes" U ∧
  va_Z "ShownPatterns" "OWN_COST" "[I" (.ref G.2.2.2.1) (q_A G) U G.2.2.1 ∧ va_T .int G.2.2.2.1 6 (fun j => .int (q_own j)) (q_A G) U G.2.2.1 ∧
  va_Z "ShownPatterns" "POWERS" "[I" (.ref G.2.2.2.2) (q_A G) U G.2.2.1 ∧ va_T .int G.2.2.2.2 13 (fun j => .int (q_pow j)) (q_A G) U G.2.2.1
theorem q_nest_warm {w : Cond} {s U : State} (hn : q_nest w = true) (hW : s.WarmedH U.vm) (h : va_Nw w s) : va_Nw w U := by
  cases w <;> first | exact va_Nw.warmM hW h | exact va_Nw.warmF hW h | cases hn
theorem q_K.warm {G : qC} {s U : State} (hW : s.WarmedH U.vm) (h : q_K G s) : q_K G U := by
  obtain ⟨h1, h2, h3, h4, h5, h6, h7⟩ := h
  exact ⟨va_K.moved hW.alike h1, fun w hw hn => q_nest_warm hn hW (h2 w hw hn), va_AO.moved hW.alike h3, va_Z.moved hW.alike h4, va_T.moved hW.alike h5, va_Z.moved hW.alike h6, va_T.moved hW.alike h7⟩
def q_Pf (G : qC) (H : Heap) : Prop := G.2.2.1.size ≤ H.size ∧ ∀ q : Nat, q < G.2.2.1.size → H[q]? = G.2.2.1[q]?
def q_roO : qE := .inl (6, 6, .inl q_own)
def q_roW : qE := .inl (6, 13, .inl q_pow)
/-- the heap holds the memory -/
def q_H (G : qC) (M : qM) (H : Heap) : Prop :=
  M.1 = H.size ∧ q_Pf G H ∧ (G.2.2.2.1 < G.2.2.1.size ∧ G.2.2.2.2 < G.2.2.1.size) ∧ (M.2 G.2.2.2.1 = some q_roO ∧ M.2 G.2.2.2.2 = some q_roW) ∧
  (∀ (a : Nat) (x : vp_A), M.2 a = some (.inl (6, x)) → (a = G.2.2.2.1 ∧ x = (6, .inl q_own)) ∨ (a = G.2.2.2.2 ∧ x = (13, .inl q_pow))) ∧
  (∀ (a t : Nat) (x : vp_A), M.2 a = some (.inl (t, x)) → t ≠ 6 → G.2.2.1.size ≤ a ∧ H[a]? = some (vp_cell (G.2.1 t) x)) ∧
  (∀ (a : Nat) (y : Nat × List Value), M.2 a = some (.inr y) → G.2.2.1.size ≤ a ∧ va_at G.1 vwCl (a, .inr y) H)
def q_set (M : qM) (a : Nat) (e : qE) : qM := (M.1, va_up M.2 a (some e))
def q_new (M : qM) (e : qE) : qM := (M.1 + 1, va_up M.2 M.1 (some e))
/-- an address of the memory lies in the heap -/
theorem q_H.lt {G : qC} {M : qM} {H : Heap} (h : q_H G M H) {a : Nat} {e : qE} (ha : M.2 a = some e) : a < M.1 := by
  obtain ⟨h1, h2, h3, h4, h5, h6, h7⟩ := h
  rw [h1]
  rcases e with ⟨t, x⟩ | y
  · by_cases ht : t = 6
    · subst ht
      rcases h5 a x ha with ⟨rfl, -⟩ | ⟨rfl, -⟩
      · exact Nat.lt_of_lt_of_le h3.1 h2.1
      · exact Nat.lt_of_lt_of_le h3.2 h2.1
    · exact (Array.getElem?_eq_some_iff.mp (h6 a t x ha ht).2).1
  · exact (h7 a y ha).2.lt
theorem q_H.fresh {G : qC} {M : qM} {H : Heap} (h : q_H G M H) {a : Nat} (ha : M.1 ≤ a) : M.2 a = none := by
  cases he : M.2 a with
  | none => rfl
  | some e => have := h.lt he; omega
/-- one cell is written -/
theorem q_H.setA {G : qC} {M : qM} {H H1 : Heap} {a t : Nat} {x x1 : vp_A} (h : q_H G M H) (ha : M.2 a = some (.inl (t, x))) (ht : t ≠ 6) (hz : H1.size = H.size) (hq : ∀ q : Nat, q ≠ a → H1[q]? = H[q]?) (hc : H1[a]? = some (vp_cell (G.2.1 t) x1)) : q_H G (q_set M a (.inl (t, x1))) H1 := by
  obtain ⟨h1, h2, h3, h4, h5, h6, h7⟩ := h
  have hA := (h6 a t x ha ht).1
  have no : G.2.2.2.1 ≠ a := fun e => by have := h3.1; omega
  have nw : G.2.2.2.2 ≠ a := fun e => by have := h3.2; omega
  refine ⟨h1.trans hz.symm, ⟨by rw [hz]; exact h2.1, fun q hl => by rw [hq q (by omega)]; exact h2.2 q hl⟩, h3, ⟨(va_up_ne _ _ no).trans h4.1, (va_up_ne _ _ nw).trans h4.2⟩, ?_, ?_, ?_⟩
  · intro b y hb
    by_cases e : b = a
    · subst e
      have : some (Sum.inl (t, x1)) = some (Sum.inl (6, y)) := (va_up_self M.2 b (some (Sum.inl (t, x1) : qE))).symm.trans hb
      cases this
      exact absurd rfl ht
    · exact h5 b y ((va_up_ne _ _ e).symm.trans hb)
  · intro b t2 y hb ht2
    by_cases e : b = a
    · subst e
      have : some (Sum.inl (t, x1) : qE) = some (Sum.inl (t2, y)) := (va_up_self M.2 b (some (Sum.inl (t, x1) : qE))).symm.trans hb
      cases this
      exact ⟨hA, hc⟩
    · obtain ⟨g1, g2⟩ := h6 b t2 y ((va_up_ne _ _ e).symm.trans hb) ht2
      exact ⟨g1, by rw [hq b e]; exact g2⟩
  · intro b y hb
    by_cases e : b = a
    · subst e
      have : some (Sum.inl (t, x1) : qE) = some (Sum.inr y) := (va_up_self M.2 b (some (Sum.inl (t, x1) : qE))).symm.trans hb
      cases this
    · obtain ⟨g1, g2⟩ := h7 b y ((va_up_ne _ _ e).symm.trans hb)
      exact ⟨g1, g2.kept (hq b e)⟩
theorem q_H.setO {G : qC} {M : qM} {H H1 : Heap} {a : Nat} {y y1 : Nat × List Value} (h : q_H G M H) (ha : M.2 a = some (.inr y)) (hz : H1.size = H.size) (hq : ∀ q : Nat, q ≠ a → H1[q]? = H[q]?) (hc : va_at G.1 vwCl (a, .inr y1) H1) : q_H G (q_set M a (.inr y1)) H1 := by
  obtain ⟨h1, h2, h3, h4, h5, h6, h7⟩ := h
  have hA := (h7 a y ha).1
  have no : G.2.2.2.1 ≠ a := fun e => by have := h3.1; omega
  have nw : G.2.2.2.2 ≠ a := fun e => by have := h3.2; omega
  refine ⟨h1.trans hz.symm, ⟨by rw [hz]; exact h2.1, fun q hl => by rw [hq q (by omega)]; exact h2.2 q hl⟩, h3, ⟨(va_up_ne _ _ no).trans h4.1, (va_up_ne _ _ nw).trans h4.2⟩, ?_, ?_, ?_⟩
  · intro b z hb
    by_cases e : b = a
    · subst e
      have : some (Sum.inr y1 : qE) = some (Sum.inl (6, z)) := (va_up_self M.2 b (some (Sum.inr y1 : qE))).symm.trans hb
      cases this
    · exact h5 b z ((va_up_ne _ _ e).symm.trans hb)
  · intro b t2 z hb ht2
    by_cases e : b = a
    · subst e
      have : some (Sum.inr y1 : qE) = some (Sum.inl (t2, z)) := (va_up_self M.2 b (some (Sum.inr y1 : qE))).symm.trans hb
      cases this
    · obtain ⟨g1, g2⟩ := h6 b t2 z ((va_up_ne _ _ e).symm.trans hb) ht2
      exact ⟨g1, by rw [hq b e]; exact g2⟩
  · intro b z hb
    by_cases e : b = a
    · subst e
      have : some (Sum.inr y1 : qE) = some (Sum.inr z) := (va_up_self M.2 b (some (Sum.inr y1 : qE))).symm.trans hb
      cases this
      exact ⟨hA, hc⟩
    · obtain ⟨g1, g2⟩ := h7 b z ((va_up_ne _ _ e).symm.trans hb)
      exact ⟨g1, g2.kept (hq b e)⟩
/-- one cell is made -/
theorem q_H.push {G : qC} {M : qM} {H H1 : Heap} {en : qE} (h : q_H G M H) (hz : H1.size = H.size + 1) (hq : ∀ q : Nat, q < H.size → H1[q]? = H[q]?) (he : (∃ (t : Nat) (x : vp_A), en = .inl (t, x) ∧ t ≠ 6 ∧ H1[H.size]? = some (vp_cell (G.2.1 t) x)) ∨ (∃ y : Nat × List Value, en = .inr y ∧ va_at G.1 vwCl (H.size, .inr y) H1)) : q_H G (q_new M en) H1 := by
  have hlt := fun (a : Nat) (e : qE) (ha : M.2 a = some e) => h.lt ha
  obtain ⟨h1, h2, h3, h4, h5, h6, h7⟩ := h
  have hA : G.2.2.1.size ≤ M.1 := by rw [h1]; exact h2.1
  have no : G.2.2.2.1 ≠ M.1 := fun e => by have := h3.1; omega
  have nw : G.2.2.2.2 ≠ M.1 := fun e => by have := h3.2; omega
  have hk : ∀ q : Nat, q < M.1 → H1[q]? = H[q]? := fun q hl => hq q (by rw [← h1]; exact hl)
  refine ⟨by show M.1 + 1 = _; rw [hz, h1], ⟨by rw [hz]; exact Nat.le_succ_of_le h2.1, fun q hl => by rw [hk q (by omega)]; exact h2.2 q hl⟩, h3, ⟨(va_up_ne _ _ no).trans h4.1, (va_up_ne _ _ nw).trans h4.2⟩, ?_, ?_, ?_⟩
  · intro b z hb
    by_cases e : b = M.1
    · have e2 : some en = some (Sum.inl (6, z)) := by rw [← hb, e]; exact (va_up_self M.2 M.1 (some en)).symm
      rcases he with ⟨t, x, rfl, g, -⟩ | ⟨y, rfl, -⟩
      · cases e2; exact absurd rfl g
      · cases e2
    · exact h5 b z ((va_up_ne _ _ e).symm.trans hb)
  · intro b t2 z hb ht2
    by_cases e : b = M.1
    · have e2 : some en = some (Sum.inl (t2, z)) := by rw [← hb, e]; exact (va_up_self M.2 M.1 (some en)).symm
      rcases he with ⟨t, x, rfl, g, g2⟩ | ⟨y, rfl, -⟩
      · cases e2; exact ⟨by rw [e]; exact hA, by rw [e, h1]; exact g2⟩
      · cases e2
    · have hb2 := (va_up_ne _ _ e).symm.trans hb
      obtain ⟨g1, g2⟩ := h6 b t2 z hb2 ht2
      exact ⟨g1, by rw [hk b (hlt b _ hb2)]; exact g2⟩
  · intro b z hb
    by_cases e : b = M.1
    · have e2 : some en = some (Sum.inr z) := by rw [← hb, e]; exact (va_up_self M.2 M.1 (some en)).symm
      rcases he with ⟨t, x, rfl, -, -⟩ | ⟨y, rfl, g2⟩
      · cases e2
      · cases e2; exact ⟨by rw [e]; exact hA, by rw [e, h1]; exact g2⟩
    · have hb2 := (va_up_ne _ _ e).symm.trans hb
      obtain ⟨g1, g2⟩ := h7 b z hb2
      exact ⟨g1, g2.kept (hk b (hlt b _ hb2))⟩
theorem q_S.push {A : Nat → Prop} {H0 H H1 : Heap} {locs : List Loc} (h : va_S A H0 H locs) (hz : H1.size = H.size + 1) (hq : ∀ q : Nat, q < H.size → H1[q]? = H[q]?) : va_S A H0 H1 locs :=
  ⟨Nat.le_trans h.1 (by omega), fun q a b => (hq q (Nat.lt_of_lt_of_le a h.1)).trans (h.2.1 q a b), h.2.2⟩
/-! locals -/
def q_lg : qLv → Nat → Option Value
  | [], _ => none
  | q :: l, i => if q.1 = i then some q.2 else q_lg l i
def q_cat : Value → Nat
  | .int _ => 1
  | .long _ => 2
  | .float _ => 1
  | .double _ => 2
  | .null => 1
  | .ref _ => 1
  | .retAddr _ => 1
def q_ld : qLv → Nat → qLv
  | [], _ => []
  | q :: l, i => if q.1 = i ∨ (q.1 + 1 = i ∧ q_cat q.2 = 2) then q_ld l i else q :: q_ld l i
def q_ls (l : qLv) (i : Nat) (v : Value) : qLv := (i, v) :: q_ld l i
def q_ls2 (l : qLv) (i : Nat) (v : Value) : qLv := (i, v) :: q_ld (l.filter (fun q => !(q.1 == i + 1))) i
def q_wd : List Value → Nat
  | [] => 0
  | v :: l => q_cat v + q_wd l
theorem q_cat_eq (v : Value) : v.category = q_cat v := by cases v <;> rfl
theorem q_lg_at {ls : Array Slot} {nL : Nat} {i : Nat} {v : Value} : ∀ {l : qLv}, lv_has ls nL l → q_lg l i = some v → ls[i]? = some (.val v)
  | [], _, h => by cases h
  | q :: l, h, hg => by
    unfold q_lg at hg
    by_cases e : q.1 = i
    · rw [if_pos e] at hg
      cases hg
      rw [← e]
      exact h.2.2 q List.mem_cons_self
    · rw [if_neg e] at hg
      exact q_lg_at ⟨h.1, h.2.1, fun x hx => h.2.2 x (List.mem_cons_of_mem _ hx)⟩ hg
theorem q_ld_eq (i : Nat) : ∀ l : qLv, q_ld l i = l.filter (fun q => !(q.1 == i) && !(q.1 + 1 == i && q.2.category == 2))
  | [] => rfl
  | q :: l => by
    unfold q_ld
    rw [q_ld_eq i l, List.filter_cons, q_cat_eq]
    by_cases h1 : q.1 = i
    · simp [h1]
    · by_cases h2 : q.1 + 1 = i ∧ q_cat q.2 = 2
      · simp [h1, h2]
      · rw [if_neg (fun z => z.elim h1 h2), if_pos]
        simp only [Bool.and_eq_true, Bool.not_eq_true', beq_eq_false_iff_ne, ne_eq, h1, not_false_eq_true, true_and, Bool.and_eq_false_iff]
        by_cases h3 : q.1 + 1 = i
        · exact Or.inr (fun z => h2 ⟨h3, z⟩)
        · exact Or.inl h3
theorem q_ls2_eq (i : Nat) (l : qLv) : q_ld (l.filter (fun q => !(q.1 == i + 1))) i = l.filter (fun q => !(q.1 == i) && (!(q.1 == i + 1) && !(q.1 + 1 == i && q.2.category == 2))) := by
  rw [q_ld_eq, List.filter_filter]
  congr 1
  funext q
  cases (q.1 == i) <;> cases (q.1 == i + 1) <;> cases (q.1 + 1 == i && q.2.category == 2) <;> rfl
theorem q_wd_eq : ∀ l : List Value, (l.map fun v => v.category).sum = q_wd l
  | [] => rfl
  | v :: l => by rw [List.map_cons, List.sum_cons, q_wd_eq l, q_cat_eq]; rfl
theorem q_wd_sl : ∀ l : List Value, (lg_sl l).length = q_wd l
  | [] => rfl
  | v :: l => by
    have h := q_wd_sl l
    unfold lg_sl at h ⊢
    rw [List.flatMap_cons, List.length_append, h]
    cases v <;> simp [q_wd, q_cat, Value.category]
/-! operations -/
abbrev qKt : Type := Nat → qLv → List Value → qM → Nat → Nat → Prop
abbrev qCt : Type := qMI → Nat → Nat → List Value → qM → (Option Value → qM → Prop) → Prop
abbrev qRt : Type := Option Value → qM → Nat → Nat → Prop
/-- after a call; the calls; the return; depth; cells and slots that may be made; the two tables -/
abbrev qB : Type := qKt × qCt × qRt × Nat × Nat × Nat × Nat × Nat
abbrev qP : Type := qLv → List Value → qM → Nat → Nat → qB → qKt → Prop
def q_pop : Nat → List Value → List Value → Option (List Value × List Value)
  | 0, acc, st => some (acc, st)
  | _ + 1, _, [] => none
  | n + 1, acc, v :: st => q_pop n (v :: acc) st
theorem q_pop_spec : ∀ (n : Nat) (acc st As r : List Value), q_pop n acc st = some (As, r) → ∃ t : List Value, As = t.reverse ++ acc ∧ st = t ++ r ∧ t.length = n
  | 0, acc, st, As, r, h => by
    cases h
    exact ⟨[], rfl, rfl, rfl⟩
  | n + 1, acc, [], As, r, h => by cases h
  | n + 1, acc, v :: st, As, r, h => by
    obtain ⟨t, h1, h2, h3⟩ := q_pop_spec n (v :: acc) st As r h
    exact ⟨v :: t, by rw [h1]; simp, by rw [h2]; rfl, by rw [← h3]; rfl⟩
def q_rm (d mc ms : Nat) : Room := { frames := d, cells := mc, slots := ms, locals := 40 * d }
def q_Q (G : qC) (Q : Option Value → qM → Prop) : Array Value → State → Outcome → State → Prop := fun _ st oc t => ∃ (r : Option Value) (M : qM), oc = .returned r ∧ Q r M ∧ q_H G M t.heap ∧ st.heap.size ≤ t.heap.size
def q_Pc (G : qC) (M : qM) : State → Prop := fun U => q_K G U ∧ q_H G M U.heap
def q_ws (mi : qMI) : List Cond := Cond.code mi.1 mi.2.1 mi.2.2.1 mi.2.2.2 :: q_gw
def q_Ev (G : qC) (mi : qMI) (p : Program) (σ : State) (m : MethodId) (args : Array Value) (meth : Method) (c : Code) : Prop :=
  p.tables.exec = Jvm.exec ∧ c.code = mi.2.1 ∧ c.maxLocals = mi.2.2.1 ∧ σ.vm.findClass mi.1.cls = some m.cls ∧ (∀ w ∈ q_gw, w.before args σ = true) ∧ meth.sig.returnType = mi.2.2.2 ∧ meth.locks = false ∧ meth.name = mi.1.name ∧ q_K G σ ∧ q_Pf G σ.heap
def q_Y (G : qC) (L : Launch) (R : Room) (mi : qMI) (Z : State → Prop) (p : Program) (e : Env) (σ : State) (m : MethodId) (args : Array Value) (below : List Frame) (meth : Method) (c : Code) : qKt := fun pc l st M cs ss =>
  ∀ (H : Heap) (locs : List Loc) (ls : Array Slot), lv_has ls mi.2.2.1 l → q_H G M H → va_S (q_A G) σ.heap H locs → W p L e R σ m args below meth c H locs cs ss Z (F0 m pc ls st)
def q_BOk (G : qC) (L : Launch) (R : Room) (mi : qMI) (Z : State → Prop) (p : Program) (e : Env) (σ : State) (m : MethodId) (args : Array Value) (below : List Frame) (meth : Method) (c : Code) (B : qB) : Prop :=
  (∀ pc l st M cs ss, B.1 pc l st M cs ss → q_Y G L R mi Z p e σ m args below meth c pc l st M cs ss) ∧
  (∀ (mi' : qMI) (mc ms : Nat) (As : List Value) (M : qM) (Q : Option Value → qM → Prop), plainName mi'.1.cls = true → B.2.1 mi' mc ms As M Q → ∃ d' : Nat, d' + 1 ≤ R.frames ∧ 40 * (d' + 1) ≤ R.locals ∧ Met L mi'.1 (q_ws mi') (q_rm d' mc ms) (va_Pc As (q_Pc G M)) (q_Q G Q) mc ms (q_A G)) ∧
  (∀ (pc : Nat) (l : qLv) (st : List Value) (r : Option Value) (M : qM) (cs ss : Nat), B.2.2.1 r M cs ss →
    ((∃ (v : Int32) (ty : FieldType), r = some (.int v) ∧ st = [.int v] ∧ mi.2.2.2 = some ty ∧ narrow ty (.int v) = .int v ∧ decode mi.2.1 pc = .ok (.ireturn, 1)) ∨
     (∃ v : Int64, r = some (.long v) ∧ st = [.long v] ∧ mi.2.2.2 = some .long ∧ decode mi.2.1 pc = .ok (.lreturn, 1)) ∨
     (∃ (v : Value) (n : String), r = some v ∧ st = [v] ∧ mi.2.2.2 = some (.object n) ∧ (v = .null ∨ ∃ a, v = .ref a) ∧ decode mi.2.1 pc = .ok (.areturn, 1)) ∨
     (r = none ∧ st = [] ∧ mi.2.2.2 = none ∧ decode mi.2.1 pc = .ok (.return_, 1))) → q_Y G L R mi Z p e σ m args below meth c pc l st M cs ss) ∧
  (B.2.2.2.1 ≤ R.frames ∧ 40 * B.2.2.2.1 ≤ R.locals) ∧ B.2.2.2.2.1 ≤ R.cells ∧ B.2.2.2.2.2.1 ≤ R.slots ∧ B.2.2.2.2.2.2.1 = G.2.2.2.1 ∧ B.2.2.2.2.2.2.2 = G.2.2.2.2
/-- an operation speaks truly of the instruction at a place -/
def q_Ok (mi : qMI) (pc : Nat) (T : qP) : Prop :=
  ∀ (G : qC) (L : Launch) (R : Room) (Z : State → Prop) (p : Program) (e : Env) (σ : State) (m : MethodId) (args : Array Value) (below : List Frame) (meth : Method) (c : Code), q_Ev G mi p σ m args meth c → ∀ B : qB, q_BOk G L R mi Z p e σ m args below meth c B →
    ∀ K : qKt, (∀ pc l st M cs ss, K pc l st M cs ss → q_Y G L R mi Z p e σ m args below meth c pc l st M cs ss) → ∀ l st M cs ss, T l st M cs ss B K → q_Y G L R mi Z p e σ m args below meth c pc l st M cs ss

def oK (v : Value) (n : Nat) : qP := fun l st M c s _ K => K n l (v :: st) M c s
theorem ok_iconst {mi : qMI} {pc n : Nat} {k : Int} {v : Int32} (hd : decode mi.2.1 pc = .ok (.iconst k, 1)) (hn : pc + 1 = n) (hv : Int32.ofInt k = v) : q_Ok mi pc (oK (.int v) n) := by
  intro G L R Z p e σ m args below meth c E B hB K hK l st M cs ss h H locs ls hl hH hS
  subst hn
  exact lv_iconst E.1 E.2.1 hd hv (hK _ _ _ _ _ _ h H locs ls hl hH hS)
theorem ok_bipush {mi : qMI} {pc n : Nat} {k : Int} {v : Int32} (hd : decode mi.2.1 pc = .ok (.bipush k, 2)) (hn : pc + 2 = n) (hv : (Int8.ofInt k).toInt32 = v) : q_Ok mi pc (oK (.int v) n) := by
  intro G L R Z p e σ m args below meth c E B hB K hK l st M cs ss h H locs ls hl hH hS
  subst hn
  exact lv_bipush E.1 E.2.1 hd hv (hK _ _ _ _ _ _ h H locs ls hl hH hS)
theorem ok_sipush {mi : qMI} {pc n : Nat} {k : Int} {v : Int32} (hd : decode mi.2.1 pc = .ok (.sipush k, 3)) (hn : pc + 3 = n) (hv : (Int16.ofInt k).toInt32 = v) : q_Ok mi pc (oK (.int v) n) := by
  intro G L R Z p e σ m args below meth c E B hB K hK l st M cs ss h H locs ls hl hH hS
  subst hn
  exact lv_sipush E.1 E.2.1 hd hv (hK _ _ _ _ _ _ h H locs ls hl hH hS)
theorem ok_lconst {mi : qMI} {pc n : Nat} {k : Fin 2} {v : Int64} (hd : decode mi.2.1 pc = .ok (.lconst k, 1)) (hn : pc + 1 = n) (hv : Int64.ofNat (k : Nat) = v) : q_Ok mi pc (oK (.long v) n) := by
  intro G L R Z p e σ m args below meth c E B hB K hK l st M cs ss h H locs ls hl hH hS
  subst hn
  exact lv_lconst E.1 E.2.1 hd hv (hK _ _ _ _ _ _ h H locs ls hl hH hS)
theorem ok_null {mi : qMI} {pc n : Nat} (hd : decode mi.2.1 pc = .ok (.aconst_null, 1)) (hn : pc + 1 = n) : q_Ok mi pc (oK .null n) := by
  intro G L R Z p e σ m args below meth c E B hB K hK l st M cs ss h H locs ls hl hH hS
  subst hn
  exact lv_null E.1 E.2.1 hd (hK _ _ _ _ _ _ h H locs ls hl hH hS)
theorem ok_ldc {mi : qMI} {pc n : Nat} {k : Nat} {v : Int32} (hd : decode mi.2.1 pc = .ok (.ldc k, 2)) (hn : pc + 2 = n) (hc : Cond.constant mi.1.cls k v ∈ q_gw) : q_Ok mi pc (oK (.int v) n) := by
  intro G L R Z p e σ m args below meth c E B hB K hK l st M cs ss h H locs ls hl hH hS
  subst hn
  exact lv_ldc E.1 E.2.1 E.2.2.2.1 (E.2.2.2.2.1 _ hc) hd (hK _ _ _ _ _ _ h H locs ls hl hH hS)
theorem ok_ldc2 {mi : qMI} {pc n : Nat} {k : Nat} {v : Int64} (hd : decode mi.2.1 pc = .ok (.ldc2_w k, 3)) (hn : pc + 3 = n) (hc : Cond.constantLong mi.1.cls k v ∈ q_gw) : q_Ok mi pc (oK (.long v) n) := by
  intro G L R Z p e σ m args below meth c E B hB K hK l st M cs ss h H locs ls hl hH hS
  subst hn
  exact lv_ldc2 E.1 E.2.1 E.2.2.2.1 (E.2.2.2.2.1 _ hc) hd (hK _ _ _ _ _ _ h H locs ls hl hH hS)
def oIl (i n : Nat) : qP := fun l st M c s _ K => match q_lg l i with
  | some (.int x) => K n l (.int x :: st) M c s
  | _ => False
def oLl (i n : Nat) : qP := fun l st M c s _ K => match q_lg l i with
  | some (.long x) => K n l (.long x :: st) M c s
  | _ => False
def oAl (i n : Nat) : qP := fun l st M c s _ K => match q_lg l i with
  | some (.ref x) => K n l (.ref x :: st) M c s
  | some .null => K n l (.null :: st) M c s
  | _ => False
theorem ok_iload_n {mi : qMI} {pc n : Nat} {k : Fin 4} {i : Nat} (hd : decode mi.2.1 pc = .ok (.iload_n k, 1)) (hi : (k : Nat) = i) (hn : pc + 1 = n) : q_Ok mi pc (oIl i n) := by
  intro G L R Z p e σ m args below meth c E B hB K hK l st M cs ss h H locs ls hl hH hS
  unfold oIl at h
  split at h
  · next x hx => subst hn; exact lv_iload_n E.1 E.2.1 hd hi (q_lg_at hl hx) (hK _ _ _ _ _ _ h H locs ls hl hH hS)
  · exact h.elim
theorem ok_iload {mi : qMI} {pc n : Nat} {i : Nat} (hd : decode mi.2.1 pc = .ok (.iload i, 2)) (hn : pc + 2 = n) : q_Ok mi pc (oIl i n) := by
  intro G L R Z p e σ m args below meth c E B hB K hK l st M cs ss h H locs ls hl hH hS
  unfold oIl at h
  split at h
  · next x hx => subst hn; exact lv_iload E.1 E.2.1 hd (q_lg_at hl hx) (hK _ _ _ _ _ _ h H locs ls hl hH hS)
  · exact h.elim
theorem ok_lload_n {mi : qMI} {pc n : Nat} {k : Fin 4} {i : Nat} (hd : decode mi.2.1 pc = .ok (.lload_n k, 1)) (hi : (k : Nat) = i) (hn : pc + 1 = n) : q_Ok mi pc (oLl i n) := by
  intro G L R Z p e σ m args below meth c E B hB K hK l st M cs ss h H locs ls hl hH hS
  unfold oLl at h
  split at h
  · next x hx => subst hn; exact lv_lload_n E.1 E.2.1 hd hi (q_lg_at hl hx) (hK _ _ _ _ _ _ h H locs ls hl hH hS)
  · exact h.elim
theorem ok_lload {mi : qMI} {pc n : Nat} {i : Nat} (hd : decode mi.2.1 pc = .ok (.lload i, 2)) (hn : pc + 2 = n) : q_Ok mi pc (oLl i n) := by
  intro G L R Z p e σ m args below meth c E B hB K hK l st M cs ss h H locs ls hl hH hS
  unfold oLl at h
  split at h
  · next x hx => subst hn; exact lv_lload E.1 E.2.1 hd (q_lg_at hl hx) (hK _ _ _ _ _ _ h H locs ls hl hH hS)
  · exact h.elim
theorem ok_aload_n {mi : qMI} {pc n : Nat} {k : Fin 4} {i : Nat} (hd : decode mi.2.1 pc = .ok (.aload_n k, 1)) (hi : (k : Nat) = i) (hn : pc + 1 = n) : q_Ok mi pc (oAl i n) := by
  intro G L R Z p e σ m args below meth c E B hB K hK l st M cs ss h H locs ls hl hH hS
  unfold oAl at h
  split at h
  · next x hx => subst hn; exact lv_aload_n E.1 E.2.1 hd hi (q_lg_at hl hx) (hK _ _ _ _ _ _ h H locs ls hl hH hS)
  · next hx => subst hn; exact lv_aload_nN E.1 E.2.1 hd hi (q_lg_at hl hx) (hK _ _ _ _ _ _ h H locs ls hl hH hS)
  · exact h.elim
theorem ok_aload {mi : qMI} {pc n : Nat} {i : Nat} (hd : decode mi.2.1 pc = .ok (.aload i, 2)) (hn : pc + 2 = n) : q_Ok mi pc (oAl i n) := by
  intro G L R Z p e σ m args below meth c E B hB K hK l st M cs ss h H locs ls hl hH hS
  unfold oAl at h
  split at h
  · next x hx => subst hn; exact lv_aload E.1 E.2.1 hd (q_lg_at hl hx) (hK _ _ _ _ _ _ h H locs ls hl hH hS)
  · next hx => subst hn; exact lv_aloadN E.1 E.2.1 hd (q_lg_at hl hx) (hK _ _ _ _ _ _ h H locs ls hl hH hS)
  · exact h.elim
def oIs (i n : Nat) : qP := fun l st M c s _ K => match st with
  | .int x :: r => K n (q_ls l i (.int x)) r M c s
  | _ => False
def oLs (i n : Nat) : qP := fun l st M c s _ K => match st with
  | .long x :: r => K n (q_ls2 l i (.long x)) r M c s
  | _ => False
def oAs (i n : Nat) : qP := fun l st M c s _ K => match st with
  | .ref x :: r => K n (q_ls l i (.ref x)) r M c s
  | .null :: r => K n (q_ls l i .null) r M c s
  | _ => False
def oInc (i : Nat) (v : Int32) (n : Nat) : qP := fun l st M c s _ K => match q_lg l i with
  | some (.int x) => K n (q_ls l i (.int (x + v))) st M c s
  | _ => False
theorem ok_istore_n {mi : qMI} {pc n : Nat} {k : Fin 4} {i : Nat} (hd : decode mi.2.1 pc = .ok (.istore_n k, 1)) (hi : (k : Nat) = i) (hn : pc + 1 = n) (hm : i < mi.2.2.1) : q_Ok mi pc (oIs i n) := by
  intro G L R Z p e σ m args below meth c E B hB K hK l st M cs ss h H locs ls hl hH hS
  unfold oIs at h
  split at h
  · next x r => subst hn; exact lv_istore_n E.1 E.2.1 hd hi hl hm (by unfold q_ls; rw [q_ld_eq]) (fun ls' hl' => hK _ _ _ _ _ _ h H locs ls' hl' hH hS)
  · exact h.elim
theorem ok_istore {mi : qMI} {pc n : Nat} {i : Nat} (hd : decode mi.2.1 pc = .ok (.istore i, 2)) (hn : pc + 2 = n) (hm : i < mi.2.2.1) : q_Ok mi pc (oIs i n) := by
  intro G L R Z p e σ m args below meth c E B hB K hK l st M cs ss h H locs ls hl hH hS
  unfold oIs at h
  split at h
  · next x r => subst hn; exact lv_istore E.1 E.2.1 hd hl hm (by unfold q_ls; rw [q_ld_eq]) (fun ls' hl' => hK _ _ _ _ _ _ h H locs ls' hl' hH hS)
  · exact h.elim
theorem ok_lstore_n {mi : qMI} {pc n : Nat} {k : Fin 4} {i : Nat} (hd : decode mi.2.1 pc = .ok (.lstore_n k, 1)) (hi : (k : Nat) = i) (hn : pc + 1 = n) (hm : i + 1 < mi.2.2.1) : q_Ok mi pc (oLs i n) := by
  intro G L R Z p e σ m args below meth c E B hB K hK l st M cs ss h H locs ls hl hH hS
  unfold oLs at h
  split at h
  · next x r => subst hn; exact lv_lstore_n E.1 E.2.1 hd hi hl hm (by unfold q_ls2; rw [q_ls2_eq]) (fun ls' hl' => hK _ _ _ _ _ _ h H locs ls' hl' hH hS)
  · exact h.elim
theorem ok_lstore {mi : qMI} {pc n : Nat} {i : Nat} (hd : decode mi.2.1 pc = .ok (.lstore i, 2)) (hn : pc + 2 = n) (hm : i + 1 < mi.2.2.1) : q_Ok mi pc (oLs i n) := by
  intro G L R Z p e σ m args below meth c E B hB K hK l st M cs ss h H locs ls hl hH hS
  unfold oLs at h
  split at h
  · next x r => subst hn; exact lv_lstore E.1 E.2.1 hd hl hm (by unfold q_ls2; rw [q_ls2_eq]) (fun ls' hl' => hK _ _ _ _ _ _ h H locs ls' hl' hH hS)
  · exact h.elim
theorem ok_astore_n {mi : qMI} {pc n : Nat} {k : Fin 4} {i : Nat} (hd : decode mi.2.1 pc = .ok (.astore_n k, 1)) (hi : (k : Nat) = i) (hn : pc + 1 = n) (hm : i < mi.2.2.1) : q_Ok mi pc (oAs i n) := by
  intro G L R Z p e σ m args below meth c E B hB K hK l st M cs ss h H locs ls hl hH hS
  unfold oAs at h
  split at h
  · next x r => subst hn; exact lv_astore_n E.1 E.2.1 hd hi hl hm (by unfold q_ls; rw [q_ld_eq]) (fun ls' hl' => hK _ _ _ _ _ _ h H locs ls' hl' hH hS)
  · next r => subst hn; exact lv_astore_nN E.1 E.2.1 hd hi hl hm (by unfold q_ls; rw [q_ld_eq]) (fun ls' hl' => hK _ _ _ _ _ _ h H locs ls' hl' hH hS)
  · exact h.elim
theorem ok_astore {mi : qMI} {pc n : Nat} {i : Nat} (hd : decode mi.2.1 pc = .ok (.astore i, 2)) (hn : pc + 2 = n) (hm : i < mi.2.2.1) : q_Ok mi pc (oAs i n) := by
  intro G L R Z p e σ m args below meth c E B hB K hK l st M cs ss h H locs ls hl hH hS
  unfold oAs at h
  split at h
  · next x r => subst hn; exact lv_astore E.1 E.2.1 hd hl hm (by unfold q_ls; rw [q_ld_eq]) (fun ls' hl' => hK _ _ _ _ _ _ h H locs ls' hl' hH hS)
  · next r => subst hn; exact lv_astoreN E.1 E.2.1 hd hl hm (by unfold q_ls; rw [q_ld_eq]) (fun ls' hl' => hK _ _ _ _ _ _ h H locs ls' hl' hH hS)
  · exact h.elim
theorem q_lg_mem {i : Nat} {v : Value} : ∀ {l : qLv}, q_lg l i = some v → ∃ k : Nat, l[k]? = some (i, v)
  | [], h => by cases h
  | q :: l, hg => by
    unfold q_lg at hg
    by_cases e : q.1 = i
    · rw [if_pos e] at hg
      cases hg
      exact ⟨0, by rw [← e]; rfl⟩
    · rw [if_neg e] at hg
      obtain ⟨k, hk⟩ := q_lg_mem hg
      exact ⟨k + 1, by simpa using hk⟩
theorem ok_iinc {mi : qMI} {pc n i : Nat} {k : Int} {v : Int32} (hd : decode mi.2.1 pc = .ok (.iinc i k, 3)) (hn : pc + 3 = n) (hv : Int32.ofInt k = v) (hm : i < mi.2.2.1) : q_Ok mi pc (oInc i v n) := by
  intro G L R Z p e σ m args below meth c E B hB K hK l st M cs ss h H locs ls hl hH hS
  unfold oInc at h
  split at h
  · next x hx =>
    subst hn
    obtain ⟨k, hk⟩ := q_lg_mem hx
    exact lv_iinc E.1 E.2.1 hd hl hk (by rw [hv]) hm (by unfold q_ls; rw [q_ld_eq]) (fun ls' hl' => hK _ _ _ _ _ _ h H locs ls' hl' hH hS)
  · exact h.elim
def oDup (n : Nat) : qP := fun l st M c s _ K => match st with
  | v :: r => q_cat v = 1 ∧ K n l (v :: v :: r) M c s
  | _ => False
def oDup2 (n : Nat) : qP := fun l st M c s _ K => match st with
  | v :: u :: r => q_cat v = 1 ∧ q_cat u = 1 ∧ K n l (v :: u :: v :: u :: r) M c s
  | _ => False
def oPop (n : Nat) : qP := fun l st M c s _ K => match st with
  | v :: r => q_cat v = 1 ∧ K n l r M c s
  | _ => False
theorem ok_dup {mi : qMI} {pc n : Nat} (hd : decode mi.2.1 pc = .ok (.dup, 1)) (hn : pc + 1 = n) : q_Ok mi pc (oDup n) := by
  intro G L R Z p e σ m args below meth c E B hB K hK l st M cs ss h H locs ls hl hH hS
  unfold oDup at h
  split at h
  · next v r => subst hn; exact lv_dup E.1 E.2.1 hd (by rw [q_cat_eq]; exact h.1) (hK _ _ _ _ _ _ h.2 H locs ls hl hH hS)
  · exact h.elim
theorem ok_pop {mi : qMI} {pc n : Nat} (hd : decode mi.2.1 pc = .ok (.pop, 1)) (hn : pc + 1 = n) : q_Ok mi pc (oPop n) := by
  intro G L R Z p e σ m args below meth c E B hB K hK l st M cs ss h H locs ls hl hH hS
  unfold oPop at h
  split at h
  · next v r => subst hn; exact lv_pop E.1 E.2.1 hd (by rw [q_cat_eq]; exact h.1) (hK _ _ _ _ _ _ h.2 H locs ls hl hH hS)
  · exact h.elim
theorem ok_dup2 {mi : qMI} {pc n : Nat} (hd : decode mi.2.1 pc = .ok (.dup2, 1)) (hn : pc + 1 = n) : q_Ok mi pc (oDup2 n) := by
  intro G L R Z p e σ m args below meth c E B hB K hK l st M cs ss h H locs ls hl hH hS
  unfold oDup2 at h
  split at h
  · next v u r => subst hn; exact lv_dup2_11 E.1 E.2.1 hd (by rw [q_cat_eq]; exact h.1) (by rw [q_cat_eq]; exact h.2.1) (hK _ _ _ _ _ _ h.2.2 H locs ls hl hH hS)
  · exact h.elim
def oAdd (n : Nat) : qP := fun l st M c s _ K => match st with
  | .int y :: .int x :: r => K n l (.int (x + y) :: r) M c s
  | _ => False
theorem ok_iadd {mi : qMI} {pc n : Nat} (hd : decode mi.2.1 pc = .ok (.iadd, 1)) (hn : pc + 1 = n) : q_Ok mi pc (oAdd n) := by
  intro G L R Z p e σ m args below meth c E B hB K hK l st M cs ss h H locs ls hl hH hS
  unfold oAdd at h
  split at h
  · subst hn; exact lv_iadd E.1 E.2.1 hd (hK _ _ _ _ _ _ h H locs ls hl hH hS)
  · exact h.elim
def oSub (n : Nat) : qP := fun l st M c s _ K => match st with
  | .int y :: .int x :: r => K n l (.int (x - y) :: r) M c s
  | _ => False
theorem ok_isub {mi : qMI} {pc n : Nat} (hd : decode mi.2.1 pc = .ok (.isub, 1)) (hn : pc + 1 = n) : q_Ok mi pc (oSub n) := by
  intro G L R Z p e σ m args below meth c E B hB K hK l st M cs ss h H locs ls hl hH hS
  unfold oSub at h
  split at h
  · subst hn; exact lv_isub E.1 E.2.1 hd (hK _ _ _ _ _ _ h H locs ls hl hH hS)
  · exact h.elim
def oMul (n : Nat) : qP := fun l st M c s _ K => match st with
  | .int y :: .int x :: r => K n l (.int (x * y) :: r) M c s
  | _ => False
theorem ok_imul {mi : qMI} {pc n : Nat} (hd : decode mi.2.1 pc = .ok (.imul, 1)) (hn : pc + 1 = n) : q_Ok mi pc (oMul n) := by
  intro G L R Z p e σ m args below meth c E B hB K hK l st M cs ss h H locs ls hl hH hS
  unfold oMul at h
  split at h
  · subst hn; exact lv_imul E.1 E.2.1 hd (hK _ _ _ _ _ _ h H locs ls hl hH hS)
  · exact h.elim
def oAnd (n : Nat) : qP := fun l st M c s _ K => match st with
  | .int y :: .int x :: r => K n l (.int (x &&& y) :: r) M c s
  | _ => False
theorem ok_iand {mi : qMI} {pc n : Nat} (hd : decode mi.2.1 pc = .ok (.iand, 1)) (hn : pc + 1 = n) : q_Ok mi pc (oAnd n) := by
  intro G L R Z p e σ m args below meth c E B hB K hK l st M cs ss h H locs ls hl hH hS
  unfold oAnd at h
  split at h
  · subst hn; exact lv_iand E.1 E.2.1 hd (hK _ _ _ _ _ _ h H locs ls hl hH hS)
  · exact h.elim
def oOr (n : Nat) : qP := fun l st M c s _ K => match st with
  | .int y :: .int x :: r => K n l (.int (x ||| y) :: r) M c s
  | _ => False
theorem ok_ior {mi : qMI} {pc n : Nat} (hd : decode mi.2.1 pc = .ok (.ior, 1)) (hn : pc + 1 = n) : q_Ok mi pc (oOr n) := by
  intro G L R Z p e σ m args below meth c E B hB K hK l st M cs ss h H locs ls hl hH hS
  unfold oOr at h
  split at h
  · subst hn; exact lv_ior E.1 E.2.1 hd (hK _ _ _ _ _ _ h H locs ls hl hH hS)
  · exact h.elim
def oXor (n : Nat) : qP := fun l st M c s _ K => match st with
  | .int y :: .int x :: r => K n l (.int (x ^^^ y) :: r) M c s
  | _ => False
theorem ok_ixor {mi : qMI} {pc n : Nat} (hd : decode mi.2.1 pc = .ok (.ixor, 1)) (hn : pc + 1 = n) : q_Ok mi pc (oXor n) := by
  intro G L R Z p e σ m args below meth c E B hB K hK l st M cs ss h H locs ls hl hH hS
  unfold oXor at h
  split at h
  · subst hn; exact lv_ixor E.1 E.2.1 hd (hK _ _ _ _ _ _ h H locs ls hl hH hS)
  · exact h.elim
def oShl (n : Nat) : qP := fun l st M c s _ K => match st with
  | .int y :: .int x :: r => K n l (.int (x <<< (y &&& 31)) :: r) M c s
  | _ => False
theorem ok_ishl {mi : qMI} {pc n : Nat} (hd : decode mi.2.1 pc = .ok (.ishl, 1)) (hn : pc + 1 = n) : q_Ok mi pc (oShl n) := by
  intro G L R Z p e σ m args below meth c E B hB K hK l st M cs ss h H locs ls hl hH hS
  unfold oShl at h
  split at h
  · subst hn; exact lv_ishl E.1 E.2.1 hd (hK _ _ _ _ _ _ h H locs ls hl hH hS)
  · exact h.elim
def oShr (n : Nat) : qP := fun l st M c s _ K => match st with
  | .int y :: .int x :: r => K n l (.int (x >>> (y &&& 31)) :: r) M c s
  | _ => False
theorem ok_ishr {mi : qMI} {pc n : Nat} (hd : decode mi.2.1 pc = .ok (.ishr, 1)) (hn : pc + 1 = n) : q_Ok mi pc (oShr n) := by
  intro G L R Z p e σ m args below meth c E B hB K hK l st M cs ss h H locs ls hl hH hS
  unfold oShr at h
  split at h
  · subst hn; exact lv_ishr E.1 E.2.1 hd (hK _ _ _ _ _ _ h H locs ls hl hH hS)
  · exact h.elim
def oUshr (n : Nat) : qP := fun l st M c s _ K => match st with
  | .int y :: .int x :: r => K n l (.int ((x.toUInt32 >>> (y.toUInt32 &&& Int32.toUInt32 31)).toInt32) :: r) M c s
  | _ => False
theorem ok_iushr {mi : qMI} {pc n : Nat} (hd : decode mi.2.1 pc = .ok (.iushr, 1)) (hn : pc + 1 = n) : q_Ok mi pc (oUshr n) := by
  intro G L R Z p e σ m args below meth c E B hB K hK l st M cs ss h H locs ls hl hH hS
  unfold oUshr at h
  split at h
  · subst hn; exact lv_iushr E.1 E.2.1 hd rfl (hK _ _ _ _ _ _ h H locs ls hl hH hS)
  · exact h.elim
def oDiv (n : Nat) : qP := fun l st M c s _ K => match st with
  | .int y :: .int x :: r => ¬ y = 0 ∧ K n l (.int (x / y) :: r) M c s
  | _ => False
theorem ok_idiv {mi : qMI} {pc n : Nat} (hd : decode mi.2.1 pc = .ok (.idiv, 1)) (hn : pc + 1 = n) : q_Ok mi pc (oDiv n) := by
  intro G L R Z p e σ m args below meth c E B hB K hK l st M cs ss h H locs ls hl hH hS
  unfold oDiv at h
  split at h
  · subst hn; exact lv_idiv E.1 E.2.1 hd h.1 (hK _ _ _ _ _ _ h.2 H locs ls hl hH hS)
  · exact h.elim
def oRem (n : Nat) : qP := fun l st M c s _ K => match st with
  | .int y :: .int x :: r => ¬ y = 0 ∧ K n l (.int (x - x / y * y) :: r) M c s
  | _ => False
theorem ok_irem {mi : qMI} {pc n : Nat} (hd : decode mi.2.1 pc = .ok (.irem, 1)) (hn : pc + 1 = n) : q_Ok mi pc (oRem n) := by
  intro G L R Z p e σ m args below meth c E B hB K hK l st M cs ss h H locs ls hl hH hS
  unfold oRem at h
  split at h
  · subst hn; exact lv_irem E.1 E.2.1 hd h.1 (hK _ _ _ _ _ _ h.2 H locs ls hl hH hS)
  · exact h.elim
def oLmul (n : Nat) : qP := fun l st M c s _ K => match st with
  | .long y :: .long x :: r => K n l (.long (x * y) :: r) M c s
  | _ => False
theorem ok_lmul {mi : qMI} {pc n : Nat} (hd : decode mi.2.1 pc = .ok (.lmul, 1)) (hn : pc + 1 = n) : q_Ok mi pc (oLmul n) := by
  intro G L R Z p e σ m args below meth c E B hB K hK l st M cs ss h H locs ls hl hH hS
  unfold oLmul at h
  split at h
  · subst hn; exact lv_lmul E.1 E.2.1 hd (hK _ _ _ _ _ _ h H locs ls hl hH hS)
  · exact h.elim
def oLand (n : Nat) : qP := fun l st M c s _ K => match st with
  | .long y :: .long x :: r => K n l (.long (x &&& y) :: r) M c s
  | _ => False
theorem ok_land {mi : qMI} {pc n : Nat} (hd : decode mi.2.1 pc = .ok (.land, 1)) (hn : pc + 1 = n) : q_Ok mi pc (oLand n) := by
  intro G L R Z p e σ m args below meth c E B hB K hK l st M cs ss h H locs ls hl hH hS
  unfold oLand at h
  split at h
  · subst hn; exact lv_land E.1 E.2.1 hd (hK _ _ _ _ _ _ h H locs ls hl hH hS)
  · exact h.elim
def oLor (n : Nat) : qP := fun l st M c s _ K => match st with
  | .long y :: .long x :: r => K n l (.long (x ||| y) :: r) M c s
  | _ => False
theorem ok_lor {mi : qMI} {pc n : Nat} (hd : decode mi.2.1 pc = .ok (.lor, 1)) (hn : pc + 1 = n) : q_Ok mi pc (oLor n) := by
  intro G L R Z p e σ m args below meth c E B hB K hK l st M cs ss h H locs ls hl hH hS
  unfold oLor at h
  split at h
  · subst hn; exact lv_lor E.1 E.2.1 hd (hK _ _ _ _ _ _ h H locs ls hl hH hS)
  · exact h.elim
def oLshl (n : Nat) : qP := fun l st M c s _ K => match st with
  | .int y :: .long x :: r => K n l (.long (x <<< (y.toInt64 &&& 63)) :: r) M c s
  | _ => False
theorem ok_lshl {mi : qMI} {pc n : Nat} (hd : decode mi.2.1 pc = .ok (.lshl, 1)) (hn : pc + 1 = n) : q_Ok mi pc (oLshl n) := by
  intro G L R Z p e σ m args below meth c E B hB K hK l st M cs ss h H locs ls hl hH hS
  unfold oLshl at h
  split at h
  · subst hn; exact lv_lshl E.1 E.2.1 hd rfl (hK _ _ _ _ _ _ h H locs ls hl hH hS)
  · exact h.elim
def oLshr (n : Nat) : qP := fun l st M c s _ K => match st with
  | .int y :: .long x :: r => K n l (.long (x >>> (y.toInt64 &&& 63)) :: r) M c s
  | _ => False
theorem ok_lshr {mi : qMI} {pc n : Nat} (hd : decode mi.2.1 pc = .ok (.lshr, 1)) (hn : pc + 1 = n) : q_Ok mi pc (oLshr n) := by
  intro G L R Z p e σ m args below meth c E B hB K hK l st M cs ss h H locs ls hl hH hS
  unfold oLshr at h
  split at h
  · subst hn; exact lv_lshr E.1 E.2.1 hd rfl (hK _ _ _ _ _ _ h H locs ls hl hH hS)
  · exact h.elim
def oLushr (n : Nat) : qP := fun l st M c s _ K => match st with
  | .int y :: .long x :: r => K n l (.long ((x.toUInt64 >>> (y.toInt64.toUInt64 &&& Int64.toUInt64 63)).toInt64) :: r) M c s
  | _ => False
theorem ok_lushr {mi : qMI} {pc n : Nat} (hd : decode mi.2.1 pc = .ok (.lushr, 1)) (hn : pc + 1 = n) : q_Ok mi pc (oLushr n) := by
  intro G L R Z p e σ m args below meth c E B hB K hK l st M cs ss h H locs ls hl hH hS
  unfold oLushr at h
  split at h
  · subst hn; exact lv_lushr E.1 E.2.1 hd rfl (hK _ _ _ _ _ _ h H locs ls hl hH hS)
  · exact h.elim
def oLcmp (n : Nat) : qP := fun l st M c s _ K => match st with
  | .long y :: .long x :: r => K n l (.int (lg_cmp x y) :: r) M c s
  | _ => False
theorem ok_lcmp {mi : qMI} {pc n : Nat} (hd : decode mi.2.1 pc = .ok (.lcmp, 1)) (hn : pc + 1 = n) : q_Ok mi pc (oLcmp n) := by
  intro G L R Z p e σ m args below meth c E B hB K hK l st M cs ss h H locs ls hl hH hS
  unfold oLcmp at h
  split at h
  · subst hn; exact W.lcmp E.1 E.2.1 hd (hK _ _ _ _ _ _ h H locs ls hl hH hS)
  · exact h.elim
def oI2b (n : Nat) : qP := fun l st M c s _ K => match st with
  | .int x :: r => K n l (.int x.toInt8.toInt32 :: r) M c s
  | _ => False
theorem ok_i2b {mi : qMI} {pc n : Nat} (hd : decode mi.2.1 pc = .ok (.i2b, 1)) (hn : pc + 1 = n) : q_Ok mi pc (oI2b n) := by
  intro G L R Z p e σ m args below meth c E B hB K hK l st M cs ss h H locs ls hl hH hS
  unfold oI2b at h
  split at h
  · subst hn; exact lv_i2b E.1 E.2.1 hd rfl (hK _ _ _ _ _ _ h H locs ls hl hH hS)
  · exact h.elim
def oL2i (n : Nat) : qP := fun l st M c s _ K => match st with
  | .long x :: r => K n l (.int x.toInt32 :: r) M c s
  | _ => False
theorem ok_l2i {mi : qMI} {pc n : Nat} (hd : decode mi.2.1 pc = .ok (.l2i, 1)) (hn : pc + 1 = n) : q_Ok mi pc (oL2i n) := by
  intro G L R Z p e σ m args below meth c E B hB K hK l st M cs ss h H locs ls hl hH hS
  unfold oL2i at h
  split at h
  · subst hn; exact lv_l2i E.1 E.2.1 hd rfl (hK _ _ _ _ _ _ h H locs ls hl hH hS)
  · exact h.elim
def oIf1eq (t n : Nat) : qP := fun l st M c s _ K => match st with
  | .int x :: r => (x = 0 → K t l r M c s) ∧ (¬ x = 0 → K n l r M c s)
  | _ => False
theorem ok_if1eq {mi : qMI} {pc t n : Nat} {k : Int} (hd : decode mi.2.1 pc = .ok (.ifCond .eq k, 3)) (ht : (pc : Int) + k = (t : Int)) (hn : pc + 3 = n) : q_Ok mi pc (oIf1eq t n) := by
  intro G L R Z p e σ m args below meth c E B hB K hK l st M cs ss h H locs ls hl hH hS
  unfold oIf1eq at h
  split at h
  · subst hn; exact lv_if_eq E.1 E.2.1 hd ht (fun g => hK _ _ _ _ _ _ (h.1 g) H locs ls hl hH hS) (fun g => hK _ _ _ _ _ _ (h.2 g) H locs ls hl hH hS)
  · exact h.elim
def oIf2eq (t n : Nat) : qP := fun l st M c s _ K => match st with
  | .int y :: .int x :: r => (x = y → K t l r M c s) ∧ (¬ x = y → K n l r M c s)
  | _ => False
theorem ok_if2eq {mi : qMI} {pc t n : Nat} {k : Int} (hd : decode mi.2.1 pc = .ok (.if_icmp .eq k, 3)) (ht : (pc : Int) + k = (t : Int)) (hn : pc + 3 = n) : q_Ok mi pc (oIf2eq t n) := by
  intro G L R Z p e σ m args below meth c E B hB K hK l st M cs ss h H locs ls hl hH hS
  unfold oIf2eq at h
  split at h
  · subst hn; exact lv_icmp_eq E.1 E.2.1 hd ht (fun g => hK _ _ _ _ _ _ (h.1 g) H locs ls hl hH hS) (fun g => hK _ _ _ _ _ _ (h.2 g) H locs ls hl hH hS)
  · exact h.elim
def oIf1ne (t n : Nat) : qP := fun l st M c s _ K => match st with
  | .int x :: r => (¬ x = 0 → K t l r M c s) ∧ (x = 0 → K n l r M c s)
  | _ => False
theorem ok_if1ne {mi : qMI} {pc t n : Nat} {k : Int} (hd : decode mi.2.1 pc = .ok (.ifCond .ne k, 3)) (ht : (pc : Int) + k = (t : Int)) (hn : pc + 3 = n) : q_Ok mi pc (oIf1ne t n) := by
  intro G L R Z p e σ m args below meth c E B hB K hK l st M cs ss h H locs ls hl hH hS
  unfold oIf1ne at h
  split at h
  · subst hn; exact lv_if_ne E.1 E.2.1 hd ht (fun g => hK _ _ _ _ _ _ (h.1 g) H locs ls hl hH hS) (fun g => hK _ _ _ _ _ _ (h.2 g) H locs ls hl hH hS)
  · exact h.elim
def oIf2ne (t n : Nat) : qP := fun l st M c s _ K => match st with
  | .int y :: .int x :: r => (¬ x = y → K t l r M c s) ∧ (x = y → K n l r M c s)
  | _ => False
theorem ok_if2ne {mi : qMI} {pc t n : Nat} {k : Int} (hd : decode mi.2.1 pc = .ok (.if_icmp .ne k, 3)) (ht : (pc : Int) + k = (t : Int)) (hn : pc + 3 = n) : q_Ok mi pc (oIf2ne t n) := by
  intro G L R Z p e σ m args below meth c E B hB K hK l st M cs ss h H locs ls hl hH hS
  unfold oIf2ne at h
  split at h
  · subst hn; exact lv_icmp_ne E.1 E.2.1 hd ht (fun g => hK _ _ _ _ _ _ (h.1 g) H locs ls hl hH hS) (fun g => hK _ _ _ _ _ _ (h.2 g) H locs ls hl hH hS)
  · exact h.elim
def oIf1lt (t n : Nat) : qP := fun l st M c s _ K => match st with
  | .int x :: r => (x < 0 → K t l r M c s) ∧ (¬ x < 0 → K n l r M c s)
  | _ => False
theorem ok_if1lt {mi : qMI} {pc t n : Nat} {k : Int} (hd : decode mi.2.1 pc = .ok (.ifCond .lt k, 3)) (ht : (pc : Int) + k = (t : Int)) (hn : pc + 3 = n) : q_Ok mi pc (oIf1lt t n) := by
  intro G L R Z p e σ m args below meth c E B hB K hK l st M cs ss h H locs ls hl hH hS
  unfold oIf1lt at h
  split at h
  · subst hn; exact lv_if_lt E.1 E.2.1 hd ht (fun g => hK _ _ _ _ _ _ (h.1 g) H locs ls hl hH hS) (fun g => hK _ _ _ _ _ _ (h.2 g) H locs ls hl hH hS)
  · exact h.elim
def oIf2lt (t n : Nat) : qP := fun l st M c s _ K => match st with
  | .int y :: .int x :: r => (x < y → K t l r M c s) ∧ (¬ x < y → K n l r M c s)
  | _ => False
theorem ok_if2lt {mi : qMI} {pc t n : Nat} {k : Int} (hd : decode mi.2.1 pc = .ok (.if_icmp .lt k, 3)) (ht : (pc : Int) + k = (t : Int)) (hn : pc + 3 = n) : q_Ok mi pc (oIf2lt t n) := by
  intro G L R Z p e σ m args below meth c E B hB K hK l st M cs ss h H locs ls hl hH hS
  unfold oIf2lt at h
  split at h
  · subst hn; exact lv_icmp_lt E.1 E.2.1 hd ht (fun g => hK _ _ _ _ _ _ (h.1 g) H locs ls hl hH hS) (fun g => hK _ _ _ _ _ _ (h.2 g) H locs ls hl hH hS)
  · exact h.elim
def oIf1ge (t n : Nat) : qP := fun l st M c s _ K => match st with
  | .int x :: r => (0 ≤ x → K t l r M c s) ∧ (¬ 0 ≤ x → K n l r M c s)
  | _ => False
theorem ok_if1ge {mi : qMI} {pc t n : Nat} {k : Int} (hd : decode mi.2.1 pc = .ok (.ifCond .ge k, 3)) (ht : (pc : Int) + k = (t : Int)) (hn : pc + 3 = n) : q_Ok mi pc (oIf1ge t n) := by
  intro G L R Z p e σ m args below meth c E B hB K hK l st M cs ss h H locs ls hl hH hS
  unfold oIf1ge at h
  split at h
  · subst hn; exact lv_if_ge E.1 E.2.1 hd ht (fun g => hK _ _ _ _ _ _ (h.1 g) H locs ls hl hH hS) (fun g => hK _ _ _ _ _ _ (h.2 g) H locs ls hl hH hS)
  · exact h.elim
def oIf2ge (t n : Nat) : qP := fun l st M c s _ K => match st with
  | .int y :: .int x :: r => (y ≤ x → K t l r M c s) ∧ (¬ y ≤ x → K n l r M c s)
  | _ => False
theorem ok_if2ge {mi : qMI} {pc t n : Nat} {k : Int} (hd : decode mi.2.1 pc = .ok (.if_icmp .ge k, 3)) (ht : (pc : Int) + k = (t : Int)) (hn : pc + 3 = n) : q_Ok mi pc (oIf2ge t n) := by
  intro G L R Z p e σ m args below meth c E B hB K hK l st M cs ss h H locs ls hl hH hS
  unfold oIf2ge at h
  split at h
  · subst hn; exact lv_icmp_ge E.1 E.2.1 hd ht (fun g => hK _ _ _ _ _ _ (h.1 g) H locs ls hl hH hS) (fun g => hK _ _ _ _ _ _ (h.2 g) H locs ls hl hH hS)
  · exact h.elim
def oIf1gt (t n : Nat) : qP := fun l st M c s _ K => match st with
  | .int x :: r => (0 < x → K t l r M c s) ∧ (¬ 0 < x → K n l r M c s)
  | _ => False
theorem ok_if1gt {mi : qMI} {pc t n : Nat} {k : Int} (hd : decode mi.2.1 pc = .ok (.ifCond .gt k, 3)) (ht : (pc : Int) + k = (t : Int)) (hn : pc + 3 = n) : q_Ok mi pc (oIf1gt t n) := by
  intro G L R Z p e σ m args below meth c E B hB K hK l st M cs ss h H locs ls hl hH hS
  unfold oIf1gt at h
  split at h
  · subst hn; exact lv_if_gt E.1 E.2.1 hd ht (fun g => hK _ _ _ _ _ _ (h.1 g) H locs ls hl hH hS) (fun g => hK _ _ _ _ _ _ (h.2 g) H locs ls hl hH hS)
  · exact h.elim
def oIf2gt (t n : Nat) : qP := fun l st M c s _ K => match st with
  | .int y :: .int x :: r => (y < x → K t l r M c s) ∧ (¬ y < x → K n l r M c s)
  | _ => False
theorem ok_if2gt {mi : qMI} {pc t n : Nat} {k : Int} (hd : decode mi.2.1 pc = .ok (.if_icmp .gt k, 3)) (ht : (pc : Int) + k = (t : Int)) (hn : pc + 3 = n) : q_Ok mi pc (oIf2gt t n) := by
  intro G L R Z p e σ m args below meth c E B hB K hK l st M cs ss h H locs ls hl hH hS
  unfold oIf2gt at h
  split at h
  · subst hn; exact lv_icmp_gt E.1 E.2.1 hd ht (fun g => hK _ _ _ _ _ _ (h.1 g) H locs ls hl hH hS) (fun g => hK _ _ _ _ _ _ (h.2 g) H locs ls hl hH hS)
  · exact h.elim
def oIf1le (t n : Nat) : qP := fun l st M c s _ K => match st with
  | .int x :: r => (x ≤ 0 → K t l r M c s) ∧ (¬ x ≤ 0 → K n l r M c s)
  | _ => False
theorem ok_if1le {mi : qMI} {pc t n : Nat} {k : Int} (hd : decode mi.2.1 pc = .ok (.ifCond .le k, 3)) (ht : (pc : Int) + k = (t : Int)) (hn : pc + 3 = n) : q_Ok mi pc (oIf1le t n) := by
  intro G L R Z p e σ m args below meth c E B hB K hK l st M cs ss h H locs ls hl hH hS
  unfold oIf1le at h
  split at h
  · subst hn; exact lv_if_le E.1 E.2.1 hd ht (fun g => hK _ _ _ _ _ _ (h.1 g) H locs ls hl hH hS) (fun g => hK _ _ _ _ _ _ (h.2 g) H locs ls hl hH hS)
  · exact h.elim
def oIf2le (t n : Nat) : qP := fun l st M c s _ K => match st with
  | .int y :: .int x :: r => (x ≤ y → K t l r M c s) ∧ (¬ x ≤ y → K n l r M c s)
  | _ => False
theorem ok_if2le {mi : qMI} {pc t n : Nat} {k : Int} (hd : decode mi.2.1 pc = .ok (.if_icmp .le k, 3)) (ht : (pc : Int) + k = (t : Int)) (hn : pc + 3 = n) : q_Ok mi pc (oIf2le t n) := by
  intro G L R Z p e σ m args below meth c E B hB K hK l st M cs ss h H locs ls hl hH hS
  unfold oIf2le at h
  split at h
  · subst hn; exact lv_icmp_le E.1 E.2.1 hd ht (fun g => hK _ _ _ _ _ _ (h.1 g) H locs ls hl hH hS) (fun g => hK _ _ _ _ _ _ (h.2 g) H locs ls hl hH hS)
  · exact h.elim
def oGo (t : Nat) : qP := fun l st M c s _ K => K t l st M c s
theorem ok_goto {mi : qMI} {pc t : Nat} {k : Int} (hd : decode mi.2.1 pc = .ok (.goto k, 3)) (ht : (pc : Int) + k = (t : Int)) : q_Ok mi pc (oGo t) := by
  intro G L R Z p e σ m args below meth c E B hB K hK l st M cs ss h H locs ls hl hH hS
  exact lv_goto E.1 E.2.1 hd ht (hK _ _ _ _ _ _ h H locs ls hl hH hS)
def oIfn (t n : Nat) : qP := fun l st M c s _ K => match st with
  | .null :: r => K t l r M c s
  | .ref _ :: r => K n l r M c s
  | _ => False
theorem ok_ifnull {mi : qMI} {pc t n : Nat} {k : Int} (hd : decode mi.2.1 pc = .ok (.ifnull k, 3)) (ht : (pc : Int) + k = (t : Int)) (hn : pc + 3 = n) : q_Ok mi pc (oIfn t n) := by
  intro G L R Z p e σ m args below meth c E B hB K hK l st M cs ss h H locs ls hl hH hS
  unfold oIfn at h
  split at h
  · exact lv_ifnullN E.1 E.2.1 hd ht (hK _ _ _ _ _ _ h H locs ls hl hH hS)
  · subst hn; exact lv_ifnull E.1 E.2.1 hd (hK _ _ _ _ _ _ h H locs ls hl hH hS)
  · exact h.elim
def oIfnn (t n : Nat) : qP := fun l st M c s _ K => match st with
  | .null :: r => K n l r M c s
  | .ref _ :: r => K t l r M c s
  | _ => False
theorem ok_ifnonnull {mi : qMI} {pc t n : Nat} {k : Int} (hd : decode mi.2.1 pc = .ok (.ifnonnull k, 3)) (ht : (pc : Int) + k = (t : Int)) (hn : pc + 3 = n) : q_Ok mi pc (oIfnn t n) := by
  intro G L R Z p e σ m args below meth c E B hB K hK l st M cs ss h H locs ls hl hH hS
  unfold oIfnn at h
  split at h
  · subst hn; exact lv_ifnonnullN E.1 E.2.1 hd (hK _ _ _ _ _ _ h H locs ls hl hH hS)
  · exact lv_ifnonnull E.1 E.2.1 hd ht (hK _ _ _ _ _ _ h H locs ls hl hH hS)
  · exact h.elim
def q_tab (x : Int32) (F : Nat → Prop) : Int → List Nat → Nat → Prop
  | _, [], d => F d
  | k, t :: ts, d => (x = Int32.ofInt k → F t) ∧ (¬ x = Int32.ofInt k → q_tab x F (k + 1) ts d)
def oTab (lo : Int) (ts : List Nat) (d : Nat) : qP := fun l st M c s _ K => match st with
  | .int x :: r => q_tab x (fun t => K t l r M c s) lo ts d
  | _ => False
def q_look (x : Int32) (F : Nat → Prop) : List (Int × Nat) → Nat → Prop
  | [], d => F d
  | q :: ts, d => (x = Int32.ofInt q.1 → F q.2) ∧ (¬ x = Int32.ofInt q.1 → q_look x F ts d)
def oLook (ts : List (Int × Nat)) (d : Nat) : qP := fun l st M c s _ K => match st with
  | .int x :: r => q_look x (fun t => K t l r M c s) ts d
  | _ => False
end
section
/-! switches -/
theorem q_ofi {k : Int} (h1 : -2147483648 ≤ k) (h2 : k < 2147483648) : (Int32.ofInt k).toInt = k := by
  rw [Int32.toInt_ofInt]
  have hs : ((Int32.size : Nat) : Int) = 4294967296 := rfl
  simp only [Int.bmod, hs]
  omega
theorem q_tab_in {x : Int32} {F : Nat → Prop} {d : Nat} : ∀ (ts : List Nat) (k : Int) (i t : Nat), -2147483648 ≤ k → k + ts.length ≤ 2147483647 → q_tab x F k ts d → ts[i]? = some t → x.toInt = k + i → F t
  | [], _, _, _, _, _, _, h, _ => by simp at h
  | t0 :: ts, k, 0, t, _, _, h, ht, hx => by
    have e : t0 = t := by simpa using ht
    have hk : x = Int32.ofInt k := by
      have h3 : x.toInt = k := by omega
      rw [← h3]; exact (Int32.ofInt_toInt x).symm
    rw [← e]
    exact h.1 hk
  | t0 :: ts, k, i + 1, t, h1, h2, h, ht, hx => by
    have hl : ((t0 :: ts).length : Int) = ts.length + 1 := by simp
    have hk : ¬ x = Int32.ofInt k := fun e => by
      have h3 : x.toInt = k := by rw [e]; exact q_ofi h1 (by omega)
      omega
    exact q_tab_in ts (k + 1) i t (by omega) (by omega) (h.2 hk) (by simpa using ht) (by omega)
theorem q_tab_out {x : Int32} {F : Nat → Prop} {d : Nat} : ∀ (ts : List Nat) (k : Int), -2147483648 ≤ k → k + ts.length ≤ 2147483647 → q_tab x F k ts d → (x.toInt < k ∨ k + ts.length ≤ x.toInt) → F d
  | [], _, _, _, h, _ => h
  | t0 :: ts, k, h1, h2, h, hx => by
    have hl : ((t0 :: ts).length : Int) = ts.length + 1 := by simp
    have hk : ¬ x = Int32.ofInt k := fun e => by
      have h3 : x.toInt = k := by rw [e]; exact q_ofi h1 (by omega)
      omega
    exact q_tab_out ts (k + 1) (by omega) (by omega) (h.2 hk) (by omega)
theorem ok_table {mi : qMI} {pc d len : Nat} {dflt lo hi : Int} {offs : Array Int} {ts : List Nat} (hd : decode mi.2.1 pc = .ok (.tableswitch dflt lo hi offs, len)) (hdf : (pc : Int) + dflt = (d : Int)) (hts : offs.toList.map (fun z => (pc : Int) + z) = ts.map (fun t : Nat => (t : Int))) (h1 : -2147483648 ≤ lo) (h2 : lo + ts.length = hi + 1) (h3 : hi < 2147483647) : q_Ok mi pc (oTab lo ts d) := by
  intro G L R Z p e σ m args below meth c E B hB K hK l st M cs ss h H locs ls hl hH hS
  unfold oTab at h
  split at h
  · next x r =>
    by_cases hin : x.toInt < lo ∨ hi < x.toInt
    · exact lv_tableOut E.1 E.2.1 hd hin hdf (hK _ _ _ _ _ _ (q_tab_out (x := x) (F := fun t => K t l r M cs ss) ts lo h1 (by omega) h (by omega)) H locs ls hl hH hS)
    · have g1 : ¬ x.toInt < lo := fun z => hin (Or.inl z)
      have g2 : ¬ hi < x.toInt := fun z => hin (Or.inr z)
      have hi2 : (x.toInt - lo).toNat < ts.length := by omega
      obtain ⟨t, ht⟩ : ∃ t, ts[(x.toInt - lo).toNat]? = some t := ⟨_, List.getElem?_eq_getElem hi2⟩
      have e1 : (offs.toList.map (fun z => (pc : Int) + z))[(x.toInt - lo).toNat]? = some (t : Int) := by rw [hts, List.getElem?_map, ht]; rfl
      rw [List.getElem?_map] at e1
      cases ho : offs.toList[(x.toInt - lo).toNat]? with
      | none => rw [ho] at e1; cases e1
      | some off =>
        rw [ho] at e1
        have e2 : (pc : Int) + off = (t : Int) := Option.some.inj e1
        exact lv_tableIn E.1 E.2.1 hd g1 g2 (by rw [← Array.getElem?_toList]; exact ho) e2 (hK _ _ _ _ _ _ (q_tab_in (x := x) (F := fun t => K t l r M cs ss) ts lo _ t h1 (by omega) h ht (by omega)) H locs ls hl hH hS)
  · exact h.elim
theorem q_look_at {x : Int32} {F : Nat → Prop} {d : Nat} {df : Int} {pc : Nat} (hdf : (pc : Int) + df = (d : Int)) : ∀ (ps : List (Int × Int)) (ts : List (Int × Nat)), ps.map (fun z => (z.1, (pc : Int) + z.2)) = ts.map (fun t => (t.1, (t.2 : Int))) → (∀ z ∈ ps, -2147483648 ≤ z.1 ∧ z.1 < 2147483648) → q_look x F ts d → ∃ t : Nat, (pc : Int) + Op.lookupswitch.offset ps df x.toInt = (t : Int) ∧ F t
  | [], [], _, _, h => ⟨d, hdf, h⟩
  | [], _ :: _, hz, _, _ => by cases hz
  | _ :: _, [], hz, _, _ => by cases hz
  | z :: ps, t :: ts, hz, hb, h => by
    have e0 := List.cons.inj hz
    have e1 : z.1 = t.1 := congrArg Prod.fst e0.1
    have e2 : (pc : Int) + z.2 = (t.2 : Int) := congrArg Prod.snd e0.1
    have hbz := hb z List.mem_cons_self
    obtain ⟨z1, z2⟩ := z
    by_cases hx : x = Int32.ofInt t.1
    · refine ⟨t.2, ?_, h.1 hx⟩
      have e3 : x.toInt = z1 := by rw [hx, ← e1]; exact q_ofi hbz.1 hbz.2
      rw [Op.lookupswitch.offset_cons, if_pos (by first | exact e3.symm | exact e3)]
      exact e2
    · obtain ⟨t', g1, g2⟩ := q_look_at hdf ps ts e0.2 (fun y hy => hb y (List.mem_cons_of_mem _ hy)) (h.2 hx)
      refine ⟨t', ?_, g2⟩
      rw [Op.lookupswitch.offset_cons, if_neg]
      · exact g1
      · intro e4
        apply hx
        have e5 : x.toInt = z1 := by first | exact e4 | exact e4.symm
        have e6 : z1 = t.1 := e1
        rw [← e6, ← e5]; exact (Int32.ofInt_toInt x).symm
theorem ok_lookup {mi : qMI} {pc d len : Nat} {dflt : Int} {ps : Array (Int × Int)} {ts : List (Int × Nat)} (hd : decode mi.2.1 pc = .ok (.lookupswitch dflt ps, len)) (hp : (ps.toList.zip (ps.toList.drop 1)).all (fun (a, next) => a.1 < next.1) = true) (hdf : (pc : Int) + dflt = (d : Int)) (hts : ps.toList.map (fun z => (z.1, (pc : Int) + z.2)) = ts.map (fun t => (t.1, (t.2 : Int)))) (hb : ∀ z ∈ ps.toList, -2147483648 ≤ z.1 ∧ z.1 < 2147483648) : q_Ok mi pc (oLook ts d) := by
  intro G L R Z p e σ m args below meth c E B hB K hK l st M cs ss h H locs ls hl hH hS
  unfold oLook at h
  split at h
  · next x r =>
    obtain ⟨t, g1, g2⟩ := q_look_at hdf ps.toList ts hts hb h
    exact lv_lookup E.1 E.2.1 hd hp rfl g1 (hK _ _ _ _ _ _ g2 H locs ls hl hH hS)
  · exact h.elim
/-! fields -/
theorem q_P1 {D : va_G} {q : Nat × va_E} {H : Heap} (h : va_at D vwCl q H) : va_P D vwCl [q] H := by
  intro k q' hk
  cases k with
  | zero => cases hk; exact h
  | succ k => simp at hk
def oGet (ci k n : Nat) : qP := fun l st M c s _ K => match st with
  | .ref a :: r => (match M.2 a with
    | some (.inr (ci', fs)) => ci' = ci ∧ (match fs[k]? with
      | some v => K n l (v :: r) M c s
      | none => False)
    | _ => False)
  | _ => False
theorem ok_get {mi : qMI} {pc n ci k idx N : Nat} {C : String} {T : u_T} (hd : decode mi.2.1 pc = .ok (.getfield idx, 3)) (hn : pc + 3 = n) (hc : vwCl[ci]? = some (C, T, N)) (hin : ∀ w ∈ u_ws C T N, w ∈ q_gw) (hk : k < N) (hlink : Cond.fieldLink mi.1.cls idx (T k).1 (T k).2.1 (T k).2.2.1 ∈ q_gw) : q_Ok mi pc (oGet ci k n) := by
  intro G L R Z p e σ m args below meth c E B hB K hK l st M cs ss h H locs ls hl hH hS
  unfold oGet at h
  split at h
  · next a r =>
    split at h
    · next ci' fs hM =>
      obtain ⟨rfl, h⟩ := h
      split at h
      · next v hv =>
        subst hn
        exact va_get (D := G.1) (tys := q_tys G) (ws := [(a, .inr (ci', fs))]) E.1 E.2.1 E.2.2.2.2.1 hin E.2.2.2.1 E.2.2.2.2.2.2.2.2.1.1 (q_P1 (hH.2.2.2.2.2.2 a _ hM).2) 0 rfl hc k hk (E.2.2.2.2.1 _ hlink) (fun _ h9 => h9) hv hd (hK _ _ _ _ _ _ h H locs ls hl hH hS)
      · exact h.elim
    · exact h.elim
  · exact h.elim
/-- what a putfield does to the picture -/
theorem q_put {mi : qMI} {pc ci k idx N a : Nat} {C : String} {T : u_T} {ty : FieldType} {v : Value} {fs r : List Value} (ty0 : Nat → FieldType) (hd : decode mi.2.1 pc = .ok (.putfield idx, 3)) (hc : vwCl[ci]? = some (C, T, N)) (hin : ∀ w ∈ u_ws C T N, w ∈ q_gw) (hty : ∀ k, k < N → parseFieldDescriptor (T k).2.2.1 = some (ty0 k)) (hnm : ∀ a, a < N → ∀ b, b < N → a ≠ b → (T a).2.1 ≠ (T b).2.1) (hk : k < N) (hlink : Cond.fieldLink mi.1.cls idx (T k).1 (T k).2.1 (T k).2.2.1 ∈ q_gw)
    (hfin : (T k).2.2.2 = false ∨ ((T k).2.2.2 = true ∧ mi.1.name = "<init>" ∧ (T k).1 = mi.1.cls)) (hd2 : parseFieldDescriptor (T k).2.2.1 = some ty) (hnar : narrow ty v = v) (hfit : fits ty v = true)
    {G : qC} {L : Launch} {R : Room} {Z : State → Prop} {p : Program} {e : Env} {σ : State} {m : MethodId} {args : Array Value} {below : List Frame} {meth : Method} {c : Code} (E : q_Ev G mi p σ m args meth c) {H : Heap} {locs : List Loc} {ls : Array Slot} {M : qM} {cs ss : Nat} (hH : q_H G M H) (hS : va_S (q_A G) σ.heap H locs) (hM : M.2 a = some (.inr (ci, fs))) (hl : k < fs.length)
    (kk : ∀ (H1 : Heap) (locs1 : List Loc), q_H G (q_set M a (.inr (ci, fs.set k v))) H1 → va_S (q_A G) σ.heap H1 locs1 → W p L e R σ m args below meth c H1 locs1 cs ss Z (F0 m (pc + 3) ls r)) : W p L e R σ m args below meth c H locs cs ss Z (F0 m pc ls (v :: .ref a :: r)) := by
  have hts := E.2.2.2.2.1
  have hown := E.2.2.2.1
  have hKk := E.2.2.2.2.2.2.2.2.1.1
  have hap := va_apart (own := mi.1.cls) hts hin ty0 hty hnm hKk hc
  obtain ⟨hA, r', h1, cell, q1, q2, q3, q4⟩ := hH.2.2.2.2.2.2 a _ hM
  have hr : r' = (C, T, N) := Option.some.inj (h1.symm.trans hc)
  subst hr
  obtain ⟨hS2, hfc, kC, hkC, hkind⟩ := hKk.1 ci _ hc
  obtain ⟨cf, kf, fi, f, hi, hsl⟩ := hS2 k hk
  have hst := (u_facts hfc hkC (u_lays hts hin hk) hi).1
  have fin : ∀ H' : Heap, H'[a]? = some (cell.setSlot f.slot v) → H'.size = H.size → (∀ q : Nat, q ≠ a → H'[q]? = H[q]?) → W p L e R σ m args below meth c H' (locs ++ [⟨a, f.slot⟩]) cs ss Z (F0 m (pc + 3) ls r) := by
    intro H' e1 e2 e3
    rw [hsl] at e1
    exact kk H' _ (hH.setO hM e2 e3 ⟨_, hc, t_OB.to (V := updV (vp_V fs) k v) ⟨_, e1, q2, q3, t_set q4 hap hk v⟩ (fun j _ => vp_updV_set hl v j)⟩) (hS.put e2 e3 hA)
  rcases hfin with hfin | ⟨hfin, hin2, hdecl⟩
  · have hlay := hts _ (hin _ (u_in_lay hk))
    unfold u_lay at hlay
    rw [if_neg (by rw [hfin]; decide)] at hlay
    have h6 := u_store hfc hkC hkind hlay hi hd2 hnar hfit
    exact W.putK E.1 E.2.1 (f := f) ⟨hown, hts _ hlink, ⟨_, _, _, hi⟩, hst⟩ (by rw [q2]; exact h6) q1 q3 (by rw [hsl]; exact k2_hasslot (q4 k hk)) rfl rfl hd fin
  · have hlay := hts _ (hin _ (u_in_lay hk))
    unfold u_lay at hlay
    rw [if_pos hfin] at hlay
    have hcf : m.cls = cf := by
      obtain ⟨_, _, c', _, _, _, -, -, hf', -, -, -, hown2, -⟩ := Cond.laysFinal_spec hlay
      have e1 : c' = cf := by have := hi.symm.trans hf'; simp at this; exact this.1.symm
      rw [hdecl] at hown2
      rw [← e1]; exact Option.some.inj (hown.symm.trans hown2)
    have h6 := u_fits hfc hkC hkind (Or.inr hlay) hi hd2 hnar hfit
    exact W.putFinK E.1 E.2.1 hown (hts _ hlink) hi hst hcf (E.2.2.2.2.2.2.2.1.trans hin2) (by rw [q2]; exact h6) q1 q3 (by rw [hsl]; exact k2_hasslot (q4 k hk)) rfl rfl hd fin
def oPutI (ci k n : Nat) : qP := fun l st M c s _ K => match st with
  | .int x :: .ref a :: r => (match M.2 a with
    | some (.inr (ci', fs)) => ci' = ci ∧ k < fs.length ∧ K n l r (q_set M a (.inr (ci, fs.set k (.int x)))) c s
    | _ => False)
  | _ => False
def oPutZ (ci k n : Nat) : qP := fun l st M c s _ K => match st with
  | .int x :: .ref a :: r => (match M.2 a with
    | some (.inr (ci', fs)) => ci' = ci ∧ k < fs.length ∧ (x = 0 ∨ x = 1) ∧ K n l r (q_set M a (.inr (ci, fs.set k (.int x)))) c s
    | _ => False)
  | _ => False
def oPutR (ci k n : Nat) : qP := fun l st M c s _ K => match st with
  | .ref x :: .ref a :: r => (match M.2 a with
    | some (.inr (ci', fs)) => ci' = ci ∧ k < fs.length ∧ K n l r (q_set M a (.inr (ci, fs.set k (.ref x)))) c s
    | _ => False)
  | _ => False
theorem ok_putI {mi : qMI} {pc n ci k idx N : Nat} {C : String} {T : u_T} (ty0 : Nat → FieldType) (hd : decode mi.2.1 pc = .ok (.putfield idx, 3)) (hn : pc + 3 = n) (hc : vwCl[ci]? = some (C, T, N)) (hin : ∀ w ∈ u_ws C T N, w ∈ q_gw) (hty : ∀ k, k < N → parseFieldDescriptor (T k).2.2.1 = some (ty0 k)) (hnm : ∀ a, a < N → ∀ b, b < N → a ≠ b → (T a).2.1 ≠ (T b).2.1) (hk : k < N) (hlink : Cond.fieldLink mi.1.cls idx (T k).1 (T k).2.1 (T k).2.2.1 ∈ q_gw) (hfin : (T k).2.2.2 = false ∨ ((T k).2.2.2 = true ∧ mi.1.name = "<init>" ∧ (T k).1 = mi.1.cls)) (hd2 : parseFieldDescriptor (T k).2.2.1 = some .int) : q_Ok mi pc (oPutI ci k n) := by
  intro G L R Z p e σ m args below meth c E B hB K hK l st M cs ss h H locs ls hl hH hS
  unfold oPutI at h
  split at h
  · next x a r =>
    split at h
    · next ci' fs hM =>
      obtain ⟨rfl, h⟩ := h
      subst hn
      exact q_put ty0 hd hc hin hty hnm hk hlink hfin hd2 rfl rfl E hH hS hM h.1 (fun H1 locs1 g1 g2 => hK _ _ _ _ _ _ h.2 H1 locs1 ls hl g1 g2)
    · exact h.elim
  · exact h.elim
theorem ok_putZ {mi : qMI} {pc n ci k idx N : Nat} {C : String} {T : u_T} (ty0 : Nat → FieldType) (hd : decode mi.2.1 pc = .ok (.putfield idx, 3)) (hn : pc + 3 = n) (hc : vwCl[ci]? = some (C, T, N)) (hin : ∀ w ∈ u_ws C T N, w ∈ q_gw) (hty : ∀ k, k < N → parseFieldDescriptor (T k).2.2.1 = some (ty0 k)) (hnm : ∀ a, a < N → ∀ b, b < N → a ≠ b → (T a).2.1 ≠ (T b).2.1) (hk : k < N) (hlink : Cond.fieldLink mi.1.cls idx (T k).1 (T k).2.1 (T k).2.2.1 ∈ q_gw) (hfin : (T k).2.2.2 = false ∨ ((T k).2.2.2 = true ∧ mi.1.name = "<init>" ∧ (T k).1 = mi.1.cls)) (hd2 : parseFieldDescriptor (T k).2.2.1 = some .boolean) : q_Ok mi pc (oPutZ ci k n) := by
  intro G L R Z p e σ m args below meth c E B hB K hK l st M cs ss h H locs ls hl hH hS
  unfold oPutZ at h
  split at h
  · next x a r =>
    split at h
    · next ci' fs hM =>
      obtain ⟨rfl, h⟩ := h
      subst hn
      have hx := h.2.1
      exact q_put ty0 hd hc hin hty hnm hk hlink hfin hd2 (by rcases hx with rfl | rfl <;> rfl) (by rcases hx with rfl | rfl <;> rfl) E hH hS hM h.1 (fun H1 locs1 g1 g2 => hK _ _ _ _ _ _ h.2.2 H1 locs1 ls hl g1 g2)
    · exact h.elim
  · exact h.elim
theorem ok_putR {mi : qMI} {pc n ci k idx N : Nat} {C : String} {T : u_T} (ty0 : Nat → FieldType) (hd : decode mi.2.1 pc = .ok (.putfield idx, 3)) (hn : pc + 3 = n) (hc : vwCl[ci]? = some (C, T, N)) (hin : ∀ w ∈ u_ws C T N, w ∈ q_gw) (hty : ∀ k, k < N → parseFieldDescriptor (T k).2.2.1 = some (ty0 k)) (hnm : ∀ a, a < N → ∀ b, b < N → a ≠ b → (T a).2.1 ≠ (T b).2.1) (hk : k < N) (hlink : Cond.fieldLink mi.1.cls idx (T k).1 (T k).2.1 (T k).2.2.1 ∈ q_gw) (hfin : (T k).2.2.2 = false ∨ ((T k).2.2.2 = true ∧ mi.1.name = "<init>" ∧ (T k).1 = mi.1.cls)) {ty : FieldType} (hd2 : parseFieldDescriptor (T k).2.2.1 = some ty) (hr : ∀ x : Nat, narrow ty (.ref x) = .ref x ∧ fits ty (.ref x) = true) : q_Ok mi pc (oPutR ci k n) := by
  intro G L R Z p e σ m args below meth c E B hB K hK l st M cs ss h H locs ls hl hH hS
  unfold oPutR at h
  split at h
  · next x a r =>
    split at h
    · next ci' fs hM =>
      obtain ⟨rfl, h⟩ := h
      subst hn
      exact q_put ty0 hd hc hin hty hnm hk hlink hfin hd2 (hr x).1 (hr x).2 E hH hS hM h.1 (fun H1 locs1 g1 g2 => hK _ _ _ _ _ _ h.2 H1 locs1 ls hl g1 g2)
    · exact h.elim
  · exact h.elim
theorem q_rfO (s : String) (x : Nat) : narrow (.object s) (.ref x) = .ref x ∧ fits (.object s) (.ref x) = true := ⟨rfl, rfl⟩
theorem q_rfA (t : FieldType) (x : Nat) : narrow (.array t) (.ref x) = .ref x ∧ fits (.array t) (.ref x) = true := ⟨rfl, rfl⟩
/-! the two tables -/
def oStO (n : Nat) : qP := fun l st M c s B K => K n l (.ref B.2.2.2.2.2.2.1 :: st) M c s
def oStW (n : Nat) : qP := fun l st M c s B K => K n l (.ref B.2.2.2.2.2.2.2 :: st) M c s
theorem q_Zk {G : qC} {C n d : String} {v : Value} {σ : State} (h : va_Z C n d v (q_A G) σ G.2.2.1) (hp : q_Pf G σ.heap) : va_Z C n d v (q_A G) σ σ.heap := h.kept (fun a ha _ => hp.2 a ha)
theorem q_Tk {G : qC} {ty : FieldType} {t N : Nat} {f : Nat → Value} {σ : State} (h : va_T ty t N f (q_A G) σ G.2.2.1) (hp : q_Pf G σ.heap) : va_T ty t N f (q_A G) σ σ.heap := h.kept (fun a ha _ => hp.2 a ha)
theorem ok_stO {mi : qMI} {pc n idx : Nat} (hd : decode mi.2.1 pc = .ok (.getstatic idx, 3)) (hn : pc + 3 = n) (hlink : Cond.fieldLink mi.1.cls idx "ShownPatterns" "OWN_COST" "[I" ∈ q_gw) : q_Ok mi pc (oStO n) := by
  intro G L R Z p e σ m args below meth c E B hB K hK l st M cs ss h H locs ls hl hH hS
  subst hn
  have h2 : K (pc + 3) l (.ref G.2.2.2.1 :: st) M cs ss := by rw [← hB.2.2.2.2.2.2.1]; exact h
  exact va_gets E.1 E.2.1 (q_Zk E.2.2.2.2.2.2.2.2.1.2.2.2.1 E.2.2.2.2.2.2.2.2.2) hS E.2.2.2.1 (E.2.2.2.2.1 _ hlink) (fun _ h9 => h9) hd (hK _ _ _ _ _ _ h2 H locs ls hl hH hS)
theorem ok_stW {mi : qMI} {pc n idx : Nat} (hd : decode mi.2.1 pc = .ok (.getstatic idx, 3)) (hn : pc + 3 = n) (hlink : Cond.fieldLink mi.1.cls idx "ShownPatterns" "POWERS" "[I" ∈ q_gw) : q_Ok mi pc (oStW n) := by
  intro G L R Z p e σ m args below meth c E B hB K hK l st M cs ss h H locs ls hl hH hS
  subst hn
  have h2 : K (pc + 3) l (.ref G.2.2.2.2 :: st) M cs ss := by rw [← hB.2.2.2.2.2.2.2]; exact h
  exact va_gets E.1 E.2.1 (q_Zk E.2.2.2.2.2.2.2.2.1.2.2.2.2.2.1 E.2.2.2.2.2.2.2.2.2) hS E.2.2.2.1 (E.2.2.2.2.1 _ hlink) (fun _ h9 => h9) hd (hK _ _ _ _ _ _ h2 H locs ls hl hH hS)
theorem ok_stWN {mi : qMI} {pc n idx : Nat} {host : String} (hd : decode mi.2.1 pc = .ok (.getstatic idx, 3)) (hn : pc + 3 = n) (hlink : Cond.fieldLinkNest mi.1.cls idx "ShownPatterns" "POWERS" "[I" host ∈ lw_tbl) : q_Ok mi pc (oStW n) := by
  intro G L R Z p e σ m args below meth c E B hB K hK l st M cs ss h H locs ls hl hH hS
  subst hn
  have h2 : K (pc + 3) l (.ref G.2.2.2.2 :: st) M cs ss := by rw [← hB.2.2.2.2.2.2.2]; exact h
  exact va_getsN E.1 E.2.1 (q_Zk E.2.2.2.2.2.2.2.2.1.2.2.2.2.2.1 E.2.2.2.2.2.2.2.2.2) hS E.2.2.2.1 (va_Nw.use rfl (E.2.2.2.2.2.2.2.2.1.2.1 _ hlink rfl)) (fun _ h9 => h9) hd (hK _ _ _ _ _ _ h2 H locs ls hl hH hS)
/-! arrays -/
def oIald (n : Nat) : qP := fun l st M c s _ K => match st with
  | .int j :: .ref a :: r => (match M.2 a with
    | some (.inl (t, m, .inl f)) => (t = 1 ∨ t = 6) ∧ vp_in j m ∧ K n l (.int (f j.toNatClampNeg) :: r) M c s
    | _ => False)
  | _ => False
theorem ok_iaload {mi : qMI} {pc n : Nat} (hd : decode mi.2.1 pc = .ok (.iaload, 1)) (hn : pc + 1 = n) : q_Ok mi pc (oIald n) := by
  intro G L R Z p e σ m args below meth c E B hB K hK l st M cs ss h H locs ls hl hH hS
  unfold oIald at h
  split at h
  · next j a r =>
    split at h
    · next t m' f hM =>
      obtain ⟨ht, hin, h⟩ := h
      subst hn
      rcases ht with rfl | rfl
      · exact va_iald (D := G.1) (cl := vwCl) (tys := q_tys G) (ws := [(a, .inl (G.2.1 1, m', .inl f))]) E.1 E.2.1 E.2.2.2.2.2.2.2.2.1.1 (q_P1 (hH.2.2.2.2.2.1 a 1 _ hM (by decide)).2) 0 0 rfl rfl hin hd (hK _ _ _ _ _ _ h H locs ls hl hH hS)
      · rcases hH.2.2.2.2.1 a _ hM with ⟨rfl, hx⟩ | ⟨rfl, hx⟩
        · cases hx
          exact va_ti E.1 E.2.1 (q_Tk E.2.2.2.2.2.2.2.2.1.2.2.2.2.1 E.2.2.2.2.2.2.2.2.2) hS hin rfl hd (hK _ _ _ _ _ _ h H locs ls hl hH hS)
        · cases hx
          exact va_ti E.1 E.2.1 (q_Tk E.2.2.2.2.2.2.2.2.1.2.2.2.2.2.2 E.2.2.2.2.2.2.2.2.2) hS hin rfl hd (hK _ _ _ _ _ _ h H locs ls hl hH hS)
    · exact h.elim
  · exact h.elim
def oZald (n : Nat) : qP := fun l st M c s _ K => match st with
  | .int j :: .ref a :: r => (match M.2 a with
    | some (.inl (t, m, .inl f)) => t = 3 ∧ vp_in j m ∧ K n l (.int (f j.toNatClampNeg) :: r) M c s
    | _ => False)
  | _ => False
theorem ok_zaload {mi : qMI} {pc n : Nat} (hd : decode mi.2.1 pc = .ok (.baload, 1)) (hn : pc + 1 = n) : q_Ok mi pc (oZald n) := by
  intro G L R Z p e σ m args below meth c E B hB K hK l st M cs ss h H locs ls hl hH hS
  unfold oZald at h
  split at h
  · next j a r =>
    split at h
    · next t m' f hM =>
      obtain ⟨rfl, hin, h⟩ := h
      subst hn
      exact va_zald (D := G.1) (cl := vwCl) (tys := q_tys G) (ws := [(a, .inl (G.2.1 3, m', .inl f))]) E.1 E.2.1 E.2.2.2.2.2.2.2.2.1.1 (q_P1 (hH.2.2.2.2.2.1 a 3 _ hM (by decide)).2) 0 2 rfl rfl hin hd (hK _ _ _ _ _ _ h H locs ls hl hH hS)
    · exact h.elim
  · exact h.elim
def oYald (n : Nat) : qP := fun l st M c s _ K => match st with
  | .int j :: .ref a :: r => (match M.2 a with
    | some (.inl (t, m, .inl f)) => t = 4 ∧ vp_in j m ∧ K n l (.int (f j.toNatClampNeg) :: r) M c s
    | _ => False)
  | _ => False
theorem ok_yaload {mi : qMI} {pc n : Nat} (hd : decode mi.2.1 pc = .ok (.baload, 1)) (hn : pc + 1 = n) : q_Ok mi pc (oYald n) := by
  intro G L R Z p e σ m args below meth c E B hB K hK l st M cs ss h H locs ls hl hH hS
  unfold oYald at h
  split at h
  · next j a r =>
    split at h
    · next t m' f hM =>
      obtain ⟨rfl, hin, h⟩ := h
      subst hn
      exact va_bald (D := G.1) (cl := vwCl) (tys := q_tys G) (ws := [(a, .inl (G.2.1 4, m', .inl f))]) E.1 E.2.1 E.2.2.2.2.2.2.2.2.1.1 (q_P1 (hH.2.2.2.2.2.1 a 4 _ hM (by decide)).2) 0 3 rfl rfl hin hd (hK _ _ _ _ _ _ h H locs ls hl hH hS)
    · exact h.elim
  · exact h.elim
def oLald (n : Nat) : qP := fun l st M c s _ K => match st with
  | .int j :: .ref a :: r => (match M.2 a with
    | some (.inl (t, m, .inr (.inl f))) => t = 2 ∧ vp_in j m ∧ K n l (.long (f j.toNatClampNeg) :: r) M c s
    | _ => False)
  | _ => False
theorem ok_laload {mi : qMI} {pc n : Nat} (hd : decode mi.2.1 pc = .ok (.laload, 1)) (hn : pc + 1 = n) : q_Ok mi pc (oLald n) := by
  intro G L R Z p e σ m args below meth c E B hB K hK l st M cs ss h H locs ls hl hH hS
  unfold oLald at h
  split at h
  · next j a r =>
    split at h
    · next t m' f hM =>
      obtain ⟨rfl, hin, h⟩ := h
      subst hn
      exact va_lald (D := G.1) (cl := vwCl) (tys := q_tys G) (ws := [(a, .inl (G.2.1 2, m', .inr (.inl f)))]) E.1 E.2.1 E.2.2.2.2.2.2.2.2.1.1 (q_P1 (hH.2.2.2.2.2.1 a 2 _ hM (by decide)).2) 0 1 rfl rfl hin hd (hK _ _ _ _ _ _ h H locs ls hl hH hS)
    · exact h.elim
  · exact h.elim
def oAald (n : Nat) : qP := fun l st M c s _ K => match st with
  | .int j :: .ref a :: r => (match M.2 a with
    | some (.inl (t, m, .inr (.inr (.inr (.inr f))))) => t = 5 ∧ vp_in j m ∧ K n l (va_rf (f j.toNatClampNeg) :: r) M c s
    | _ => False)
  | _ => False
theorem ok_aaload {mi : qMI} {pc n : Nat} (hd : decode mi.2.1 pc = .ok (.aaload, 1)) (hn : pc + 1 = n) : q_Ok mi pc (oAald n) := by
  intro G L R Z p e σ m args below meth c E B hB K hK l st M cs ss h H locs ls hl hH hS
  unfold oAald at h
  split at h
  · next j a r =>
    split at h
    · next t m' f hM =>
      obtain ⟨rfl, hin, h⟩ := h
      subst hn
      exact va_aldq (D := G.1) (cl := vwCl) (tys := q_tys G) (ws := [(a, .inl (G.2.1 5, m', .inr (.inr (.inr (.inr f)))))]) E.1 E.2.1 E.2.2.2.2.2.2.2.2.1.1 (q_P1 (hH.2.2.2.2.2.1 a 5 _ hM (by decide)).2) 0 4 rfl rfl hin hd (hK _ _ _ _ _ _ h H locs ls hl hH hS)
    · exact h.elim
  · exact h.elim
def oIast (n : Nat) : qP := fun l st M c s _ K => match st with
  | .int x :: .int j :: .ref a :: r => (match M.2 a with
    | some (.inl (t, m, .inl f)) => t = 1 ∧ vp_in j m ∧ K n l r (q_set M a (.inl (1, m, .inl (upd f j.toNatClampNeg x)))) c s
    | _ => False)
  | _ => False
theorem ok_iastore {mi : qMI} {pc n : Nat} (hd : decode mi.2.1 pc = .ok (.iastore, 1)) (hn : pc + 1 = n) : q_Ok mi pc (oIast n) := by
  intro G L R Z p e σ m args below meth c E B hB K hK l st M cs ss h H locs ls hl hH hS
  unfold oIast at h
  split at h
  · next x j a r =>
    split at h
    · next t m' f hM =>
      obtain ⟨rfl, hin, h⟩ := h
      subst hn
      obtain ⟨hA, hcell⟩ := hH.2.2.2.2.2.1 a 1 _ hM (by decide)
      refine W.iast E.1 E.2.1 hcell ((E.2.2.2.2.2.2.2.2.1.1.2 0 _ rfl).1 m' (fun j => .int (f j))) (fun q => by cases q) (by show ¬ (j < 0 ∨ (arrV _ _ _).slots.size ≤ _); rw [arrV_size]; exact hin) rfl rfl hd fun H1 e1 z oq => ?_
      refine hK _ _ _ _ _ _ h H1 _ ls hl (hH.setA hM (by decide) z oq ?_) (hS.put z oq hA)
      rw [e1, vp_cell_i, vp_cell_i, arrV_store]
      congr 2
      funext q
      by_cases hq : q = j.toNatClampNeg
      · subst hq
        simp [updV, upd]
        try rfl
      · simp [updV, upd, hq]
    · exact h.elim
  · exact h.elim
def oYast (n : Nat) : qP := fun l st M c s _ K => match st with
  | .int x :: .int j :: .ref a :: r => (match M.2 a with
    | some (.inl (t, m, .inl f)) => t = 4 ∧ vp_in j m ∧ K n l r (q_set M a (.inl (4, m, .inl (upd f j.toNatClampNeg (vp_nar .byte x))))) c s
    | _ => False)
  | _ => False
theorem ok_yastore {mi : qMI} {pc n : Nat} (hd : decode mi.2.1 pc = .ok (.bastore, 1)) (hn : pc + 1 = n) : q_Ok mi pc (oYast n) := by
  intro G L R Z p e σ m args below meth c E B hB K hK l st M cs ss h H locs ls hl hH hS
  unfold oYast at h
  split at h
  · next x j a r =>
    split at h
    · next t m' f hM =>
      obtain ⟨rfl, hin, h⟩ := h
      subst hn
      obtain ⟨hA, hcell⟩ := hH.2.2.2.2.2.1 a 4 _ hM (by decide)
      refine W.bast E.1 E.2.1 hcell ((E.2.2.2.2.2.2.2.2.1.1.2 3 _ rfl).1 m' (fun j => .int (f j))) (fun q => by cases q) (by show ¬ (j < 0 ∨ (arrV _ _ _).slots.size ≤ _); rw [arrV_size]; exact hin) rfl rfl hd fun H1 e1 z oq => ?_
      refine hK _ _ _ _ _ _ h H1 _ ls hl (hH.setA hM (by decide) z oq ?_) (hS.put z oq hA)
      rw [e1, vp_cell_i, vp_cell_i, arrV_store]
      congr 2
      funext q
      by_cases hq : q = j.toNatClampNeg
      · subst hq
        simp [updV, upd, vp_nar]
        try rfl
      · simp [updV, upd, vp_nar, hq]
    · exact h.elim
  · exact h.elim
def oLast (n : Nat) : qP := fun l st M c s _ K => match st with
  | .long x :: .int j :: .ref a :: r => (match M.2 a with
    | some (.inl (t, m, .inr (.inl f))) => t = 2 ∧ vp_in j m ∧ K n l r (q_set M a (.inl (2, m, .inr (.inl (vp_updL f j.toNatClampNeg x))))) c s
    | _ => False)
  | _ => False
theorem ok_lastore {mi : qMI} {pc n : Nat} (hd : decode mi.2.1 pc = .ok (.lastore, 1)) (hn : pc + 1 = n) : q_Ok mi pc (oLast n) := by
  intro G L R Z p e σ m args below meth c E B hB K hK l st M cs ss h H locs ls hl hH hS
  unfold oLast at h
  split at h
  · next x j a r =>
    split at h
    · next t m' f hM =>
      obtain ⟨rfl, hin, h⟩ := h
      subst hn
      obtain ⟨hA, hcell⟩ := hH.2.2.2.2.2.1 a 2 _ hM (by decide)
      refine W.last E.1 E.2.1 hcell ((E.2.2.2.2.2.2.2.2.1.1.2 1 _ rfl).1 m' (fun j => .long (f j))) (fun q => by cases q) (by show ¬ (j < 0 ∨ (arrV _ _ _).slots.size ≤ _); rw [arrV_size]; exact hin) rfl rfl hd fun H1 e1 z oq => ?_
      refine hK _ _ _ _ _ _ h H1 _ ls hl (hH.setA hM (by decide) z oq ?_) (hS.put z oq hA)
      rw [e1, vp_cell_l, vp_cell_l, arrV_store]
      congr 2
      funext q
      by_cases hq : q = j.toNatClampNeg
      · subst hq
        simp [updV, vp_updL]
        try rfl
      · simp [updV, vp_updL, hq]
    · exact h.elim
  · exact h.elim
def oZast (n : Nat) : qP := fun l st M c s _ K => match st with
  | .int x :: .int j :: .ref a :: r => (match M.2 a with
    | some (.inl (t, m, .inl f)) => t = 3 ∧ vp_in j m ∧ (x = 0 ∨ x = 1) ∧ K n l r (q_set M a (.inl (3, m, .inl (upd f j.toNatClampNeg x)))) c s
    | _ => False)
  | _ => False
theorem ok_zastore {mi : qMI} {pc n : Nat} (hd : decode mi.2.1 pc = .ok (.bastore, 1)) (hn : pc + 1 = n) : q_Ok mi pc (oZast n) := by
  intro G L R Z p e σ m args below meth c E B hB K hK l st M cs ss h H locs ls hl hH hS
  unfold oZast at h
  split at h
  · next x j a r =>
    split at h
    · next t m' f hM =>
      obtain ⟨rfl, hin, hx01, h⟩ := h
      subst hn
      obtain ⟨hA, hcell⟩ := hH.2.2.2.2.2.1 a 3 _ hM (by decide)
      refine W.zast E.1 E.2.1 hcell ((E.2.2.2.2.2.2.2.2.1.1.2 2 _ rfl).1 m' (fun j => .int (f j))) (fun q => by cases q) (by show ¬ (j < 0 ∨ (arrV _ _ _).slots.size ≤ _); rw [arrV_size]; exact hin) rfl rfl hd fun H1 e1 z oq => ?_
      refine hK _ _ _ _ _ _ h H1 _ ls hl (hH.setA hM (by decide) z oq ?_) (hS.put z oq hA)
      rw [e1, vp_cell_i, vp_cell_i, arrV_store]
      congr 2
      funext q
      by_cases hq : q = j.toNatClampNeg
      · subst hq
        simp [updV, upd, vp_nar]
        first | rfl | (rcases hx01 with rfl | rfl <;> rfl)
      · simp [updV, upd, vp_nar, hq]
    · exact h.elim
  · exact h.elim
def oAast (n : Nat) : qP := fun l st M c s _ K => match st with
  | .ref v :: .int j :: .ref a :: r => (match M.2 a with
    | some (.inl (t, m, .inr (.inr (.inr (.inr f))))) => t = 5 ∧ vp_in j m ∧ (match M.2 v with
      | some (.inr (ci, _)) => ci = 4
      | _ => False) ∧ K n l r (q_set M a (.inl (5, m, .inr (.inr (.inr (.inr (va_up f j.toNatClampNeg (some v)))))))) c s
    | _ => False)
  | _ => False
theorem ok_aastore {mi : qMI} {pc n : Nat} (hd : decode mi.2.1 pc = .ok (.aastore, 1)) (hn : pc + 1 = n) : q_Ok mi pc (oAast n) := by
  intro G L R Z p e σ m args below meth c E B hB K hK l st M cs ss h H locs ls hl hH hS
  unfold oAast at h
  split at h
  · next v j a r =>
    split at h
    · next t m' f hM =>
      obtain ⟨rfl, hin, hv, h⟩ := h
      split at hv
      · next ci vs hMv =>
        subst hv
        subst hn
        obtain ⟨hA, hcell⟩ := hH.2.2.2.2.2.1 a 5 _ hM (by decide)
        have hlt : j.toNatClampNeg < m' := Nat.not_le.mp fun q => hin (Or.inr q)
        have h0 : ¬ j < 0 := fun q => hin (Or.inl q)
        have hKk := E.2.2.2.2.2.2.2.2.1.1
        obtain ⟨-, r', hr', cellV, g1, g2, g3, -⟩ := hH.2.2.2.2.2.2 v _ hMv
        have hcls := (hKk.1 4 (RX4, TX4, 4) rfl).2
        obtain ⟨kA, comp, k1, k2, k3, -⟩ := (hKk.2 4 (G.2.1 5, .object "ShownPatterns$Nodes") rfl).2
        have hcomp : comp = G.1.1 4 := Option.some.inj (k3.symm.trans hcls.1)
        subst hcomp
        obtain ⟨kC, hkC, -⟩ := hcls.2
        refine W.aast E.1 E.2.1 hcell (fun q h => by cases h) (fun h => by cases h) k1 k2 rfl hkC ⟨h0, by show _ < (arrV _ _ _).slots.size; rw [arrV_size]; exact hlt⟩ g1 (fun q h => by rw [g3] at h; cases h) (by rw [g2]; exact hkC) (by rw [g2]; exact va_assign hcls) rfl rfl hd fun H1 e1 z oq => ?_
        refine hK _ _ _ _ _ _ h H1 _ ls hl (hH.setA hM (by decide) z oq ?_) (hS.put z oq hA)
        rw [e1, vp_cell_q, vp_cell_q, arrV_store]
        congr 2
        funext q
        by_cases hq : q = j.toNatClampNeg
        · subst hq
          simp [updV, va_up, va_rf]
        · simp [updV, va_up, hq]
      · exact hv.elim
    · exact h.elim
  · exact h.elim
def oAlen (n : Nat) : qP := fun l st M c s _ K => match st with
  | .ref a :: r => (match M.2 a with
    | some (.inl (t, m, _)) => K n l (.int (nI m) :: r) M c s ∧ (t = 1 ∨ t = 2 ∨ t = 3 ∨ t = 4 ∨ t = 5 ∨ t = 6)
    | _ => False)
  | _ => False
theorem ok_alen {mi : qMI} {pc n : Nat} (hd : decode mi.2.1 pc = .ok (.arraylength, 1)) (hn : pc + 1 = n) : q_Ok mi pc (oAlen n) := by
  intro G L R Z p e σ m args below meth c E B hB K hK l st M cs ss h H locs ls hl hH hS
  unfold oAlen at h
  split at h
  · next a r =>
    split at h
    · next t m' f hM =>
      obtain ⟨h, ht⟩ := h
      subst hn
      have hKk := E.2.2.2.2.2.2.2.2.1.1
      have go := hK _ _ _ _ _ _ h H locs ls hl hH hS
      rcases ht with rfl | rfl | rfl | rfl | rfl | rfl
      · exact va_alen (D := G.1) (cl := vwCl) (tys := q_tys G) (ws := [(a, .inl (G.2.1 1, m', f))]) E.1 E.2.1 hKk (q_P1 (hH.2.2.2.2.2.1 a 1 _ hM (by decide)).2) 0 0 rfl rfl rfl hd go
      · exact va_alen (D := G.1) (cl := vwCl) (tys := q_tys G) (ws := [(a, .inl (G.2.1 2, m', f))]) E.1 E.2.1 hKk (q_P1 (hH.2.2.2.2.2.1 a 2 _ hM (by decide)).2) 0 1 rfl rfl rfl hd go
      · exact va_alen (D := G.1) (cl := vwCl) (tys := q_tys G) (ws := [(a, .inl (G.2.1 3, m', f))]) E.1 E.2.1 hKk (q_P1 (hH.2.2.2.2.2.1 a 3 _ hM (by decide)).2) 0 2 rfl rfl rfl hd go
      · exact va_alen (D := G.1) (cl := vwCl) (tys := q_tys G) (ws := [(a, .inl (G.2.1 4, m', f))]) E.1 E.2.1 hKk (q_P1 (hH.2.2.2.2.2.1 a 4 _ hM (by decide)).2) 0 3 rfl rfl rfl hd go
      · exact va_alen (D := G.1) (cl := vwCl) (tys := q_tys G) (ws := [(a, .inl (G.2.1 5, m', f))]) E.1 E.2.1 hKk (q_P1 (hH.2.2.2.2.2.1 a 5 _ hM (by decide)).2) 0 4 rfl rfl rfl hd go
      · rcases hH.2.2.2.2.1 a _ hM with ⟨rfl, hx⟩ | ⟨rfl, hx⟩
        · cases hx
          obtain ⟨cell, h1, h2, h3, h4, h5, h6, h7⟩ := q_Tk E.2.2.2.2.2.2.2.2.1.2.2.2.2.1 E.2.2.2.2.2.2.2.2.2
          exact W.alen E.1 E.2.1 (by rw [hS.2.1 _ (Array.getElem?_eq_some_iff.mp h1).1 h7]; exact h1) h2 h5 rfl rfl hd go
        · cases hx
          obtain ⟨cell, h1, h2, h3, h4, h5, h6, h7⟩ := q_Tk E.2.2.2.2.2.2.2.2.1.2.2.2.2.2.2 E.2.2.2.2.2.2.2.2.2
          exact W.alen E.1 E.2.1 (by rw [hS.2.1 _ (Array.getElem?_eq_some_iff.mp h1).1 h7]; exact h1) h2 h5 rfl rfl hd go
    · exact h.elim
  · exact h.elim
/-! making -/
def q_zero (t : Nat) : (Nat → Int32) ⊕ (Nat → Int64) ⊕ (Nat → UInt32) ⊕ (Nat → UInt64) ⊕ (Nat → Option Nat) := if t = 2 then .inr (.inl (fun _ => 0)) else .inl (fun _ => 0)
def oNewa (t n : Nat) : qP := fun l st M c s B K => match st with
  | .int j :: r => ¬ j < 0 ∧ j.toNatClampNeg ≤ 1000000 ∧ c + 1 ≤ B.2.2.2.2.1 ∧ s + j.toNatClampNeg ≤ B.2.2.2.2.2.1 ∧ K n l (.ref M.1 :: r) (q_new M (.inl (t, j.toNatClampNeg, q_zero t))) (c + 1) (s + j.toNatClampNeg)
  | _ => False
theorem ok_newa_int {mi : qMI} {pc n : Nat} (hd : decode mi.2.1 pc = .ok (.newarray .int, 2)) (hn : pc + 2 = n) (hw : Cond.arrayClass .int ∈ q_gw) : q_Ok mi pc (oNewa 1 n) := by
  intro G L R Z p e σ m args below meth c E B hB K hK l st M cs ss h H locs ls hl hH hS
  unfold oNewa at h
  split at h
  · next j r =>
    obtain ⟨h0, h1, h2, h3, h⟩ := h
    subst hn
    refine va_newaK (atype := .int) E.1 E.2.1 (E.2.2.2.2.1 _ hw) rfl hd rfl h0 rfl (by show j.toNatClampNeg * componentBytes .int ≤ _; have : componentBytes .int ≤ 8 := (by decide); have := Nat.mul_le_mul_left j.toNatClampNeg this; omega) (Nat.le_trans h2 hB.2.2.2.2.1) (Nat.le_trans h3 hB.2.2.2.2.2.1) rfl fun H1 cA e1 z1 o1 hAr hNm => ?_
    have hcA : cA = G.2.1 1 := Option.some.inj (hNm.symm.trans (E.2.2.2.2.2.2.2.2.1.1.2 0 _ rfl).2)
    subst hcA
    have hM1 : M.1 = H.size := hH.1
    have g := hK _ _ _ _ _ _ h H1 locs ls hl (hH.push z1 o1 (Or.inl ⟨1, _, rfl, by decide, e1⟩)) (q_S.push hS z1 o1)
    rw [hM1] at g
    exact g
  · exact h.elim
theorem ok_newa_long {mi : qMI} {pc n : Nat} (hd : decode mi.2.1 pc = .ok (.newarray .long, 2)) (hn : pc + 2 = n) (hw : Cond.arrayClass .long ∈ q_gw) : q_Ok mi pc (oNewa 2 n) := by
  intro G L R Z p e σ m args below meth c E B hB K hK l st M cs ss h H locs ls hl hH hS
  unfold oNewa at h
  split at h
  · next j r =>
    obtain ⟨h0, h1, h2, h3, h⟩ := h
    subst hn
    refine va_newaK (atype := .long) E.1 E.2.1 (E.2.2.2.2.1 _ hw) rfl hd rfl h0 rfl (by show j.toNatClampNeg * componentBytes .long ≤ _; have : componentBytes .long ≤ 8 := (by decide); have := Nat.mul_le_mul_left j.toNatClampNeg this; omega) (Nat.le_trans h2 hB.2.2.2.2.1) (Nat.le_trans h3 hB.2.2.2.2.2.1) rfl fun H1 cA e1 z1 o1 hAr hNm => ?_
    have hcA : cA = G.2.1 2 := Option.some.inj (hNm.symm.trans (E.2.2.2.2.2.2.2.2.1.1.2 1 _ rfl).2)
    subst hcA
    have hM1 : M.1 = H.size := hH.1
    have g := hK _ _ _ _ _ _ h H1 locs ls hl (hH.push z1 o1 (Or.inl ⟨2, _, rfl, by decide, e1⟩)) (q_S.push hS z1 o1)
    rw [hM1] at g
    exact g
  · exact h.elim
theorem ok_newa_boolean {mi : qMI} {pc n : Nat} (hd : decode mi.2.1 pc = .ok (.newarray .boolean, 2)) (hn : pc + 2 = n) (hw : Cond.arrayClass .boolean ∈ q_gw) : q_Ok mi pc (oNewa 3 n) := by
  intro G L R Z p e σ m args below meth c E B hB K hK l st M cs ss h H locs ls hl hH hS
  unfold oNewa at h
  split at h
  · next j r =>
    obtain ⟨h0, h1, h2, h3, h⟩ := h
    subst hn
    refine va_newaK (atype := .boolean) E.1 E.2.1 (E.2.2.2.2.1 _ hw) rfl hd rfl h0 rfl (by show j.toNatClampNeg * componentBytes .boolean ≤ _; have : componentBytes .boolean ≤ 8 := (by decide); have := Nat.mul_le_mul_left j.toNatClampNeg this; omega) (Nat.le_trans h2 hB.2.2.2.2.1) (Nat.le_trans h3 hB.2.2.2.2.2.1) rfl fun H1 cA e1 z1 o1 hAr hNm => ?_
    have hcA : cA = G.2.1 3 := Option.some.inj (hNm.symm.trans (E.2.2.2.2.2.2.2.2.1.1.2 2 _ rfl).2)
    subst hcA
    have hM1 : M.1 = H.size := hH.1
    have g := hK _ _ _ _ _ _ h H1 locs ls hl (hH.push z1 o1 (Or.inl ⟨3, _, rfl, by decide, e1⟩)) (q_S.push hS z1 o1)
    rw [hM1] at g
    exact g
  · exact h.elim
theorem ok_newa_byte {mi : qMI} {pc n : Nat} (hd : decode mi.2.1 pc = .ok (.newarray .byte, 2)) (hn : pc + 2 = n) (hw : Cond.arrayClass .byte ∈ q_gw) : q_Ok mi pc (oNewa 4 n) := by
  intro G L R Z p e σ m args below meth c E B hB K hK l st M cs ss h H locs ls hl hH hS
  unfold oNewa at h
  split at h
  · next j r =>
    obtain ⟨h0, h1, h2, h3, h⟩ := h
    subst hn
    refine va_newaK (atype := .byte) E.1 E.2.1 (E.2.2.2.2.1 _ hw) rfl hd rfl h0 rfl (by show j.toNatClampNeg * componentBytes .byte ≤ _; have : componentBytes .byte ≤ 8 := (by decide); have := Nat.mul_le_mul_left j.toNatClampNeg this; omega) (Nat.le_trans h2 hB.2.2.2.2.1) (Nat.le_trans h3 hB.2.2.2.2.2.1) rfl fun H1 cA e1 z1 o1 hAr hNm => ?_
    have hcA : cA = G.2.1 4 := Option.some.inj (hNm.symm.trans (E.2.2.2.2.2.2.2.2.1.1.2 3 _ rfl).2)
    subst hcA
    have hM1 : M.1 = H.size := hH.1
    have g := hK _ _ _ _ _ _ h H1 locs ls hl (hH.push z1 o1 (Or.inl ⟨4, _, rfl, by decide, e1⟩)) (q_S.push hS z1 o1)
    rw [hM1] at g
    exact g
  · exact h.elim
def oANew (n : Nat) : qP := fun l st M c s B K => match st with
  | .int j :: r => ¬ j < 0 ∧ j.toNatClampNeg ≤ 1000000 ∧ c + 1 ≤ B.2.2.2.2.1 ∧ s + j.toNatClampNeg ≤ B.2.2.2.2.2.1 ∧ K n l (.ref M.1 :: r) (q_new M (.inl (5, j.toNatClampNeg, .inr (.inr (.inr (.inr (fun _ => none))))))) (c + 1) (s + j.toNatClampNeg)
  | _ => False
theorem ok_anew {mi : qMI} {pc n idx : Nat} (hd : decode mi.2.1 pc = .ok (.anewarray idx, 3)) (hn : pc + 3 = n) (hw : Cond.classLink mi.1.cls idx "ShownPatterns$Nodes" ∈ q_gw) : q_Ok mi pc (oANew n) := by
  intro G L R Z p e σ m args below meth c E B hB K hK l st M cs ss h H locs ls hl hH hS
  unfold oANew at h
  split at h
  · next j r =>
    obtain ⟨h0, h1, h2, h3, h⟩ := h
    subst hn
    refine W.anew E.1 E.2.1 E.2.2.2.1 (E.2.2.2.2.1 _ hw) (va_AO.use E.2.2.2.2.2.2.2.2.1.2.2.1) rfl hd rfl h0 (by omega) (Nat.le_trans h2 hB.2.2.2.2.1) (Nat.le_trans h3 hB.2.2.2.2.2.1) fun cA kA comp f1 f2 f3 f4 => ?_
    obtain ⟨kA', comp', g1, g2, g3, g4⟩ := (E.2.2.2.2.2.2.2.2.1.1.2 4 (G.2.1 5, .object "ShownPatterns$Nodes") rfl).2
    have hcA : cA = G.2.1 5 := Option.some.inj (f1.symm.trans g4)
    subst hcA
    have hM1 : M.1 = H.size := hH.1
    generalize hH1 : H.push ({ cls := G.2.1 5, slots := Array.replicate j.toNatClampNeg .null, vm := .none } : Cell) = H1
    have z1 : H1.size = H.size + 1 := by rw [← hH1, Array.size_push]
    have e1 : H1[H.size]? = some (arrV (G.2.1 5) j.toNatClampNeg (fun _ => .null)) := by rw [← hH1, Array.getElem?_push_size, ← arrV_new]
    have o1 : ∀ q : Nat, q < H.size → H1[q]? = H[q]? := fun q hq => by rw [← hH1, Array.getElem?_push, if_neg (Nat.ne_of_lt hq)]
    have g := hK _ _ _ _ _ _ h H1 locs ls hl (hH.push z1 o1 (Or.inl ⟨5, _, rfl, by decide, e1⟩)) (q_S.push hS z1 o1)
    rw [hM1] at g
    exact g
  · exact h.elim
def oNew (ci N : Nat) (fs : List Value) (n : Nat) : qP := fun l st M c s B K => c + 1 ≤ B.2.2.2.2.1 ∧ s + N ≤ B.2.2.2.2.2.1 ∧ K n l (.ref M.1 :: st) (q_new M (.inr (ci, fs))) (c + 1) (s + N)
theorem ok_new {mi : qMI} {pc n ci N idx : Nat} {C : String} {T : u_T} {fs : List Value} (ty0 : Nat → FieldType) (hd : decode mi.2.1 pc = .ok (.new idx, 3)) (hn : pc + 3 = n) (hc : vwCl[ci]? = some (C, T, N)) (hin : ∀ w ∈ u_ws C T N, w ∈ q_gw) (hty : ∀ k, k < N → parseFieldDescriptor (T k).2.2.1 = some (ty0 k)) (hcl : Cond.classLink mi.1.cls idx C ∈ q_gw) (hinst : Cond.instantiable C N ∈ q_gw) (hini : Cond.initialized C ∈ q_gw) (hfs : ∀ j, j < N → defaultValue (ty0 j) = vp_V fs j) : q_Ok mi pc (oNew ci N fs n) := by
  intro G L R Z p e σ m args below meth c E B hB K hK l st M cs ss h H locs ls hl hH hS
  obtain ⟨h1, h2, h⟩ := h
  subst hn
  have hKn := E.2.2.2.2.2.2.2.2.1.1.1 ci _ hc
  refine W.newcK E.1 E.2.1 E.2.2.2.1 (E.2.2.2.2.1 _ hcl) (E.2.2.2.2.1 _ hinst) (E.2.2.2.2.1 _ hini) rfl hd (Nat.le_trans h1 hB.2.2.2.2.1) (Nat.le_trans h2 hB.2.2.2.2.2.1) hKn.2.1 rfl fun H1 kC hkC e1 z1 o1 => ?_
  have hM1 : M.1 = H.size := hH.1
  have g := hK _ _ _ _ _ _ h H1 locs ls hl (hH.push z1 o1 (Or.inr ⟨_, rfl, ⟨_, hc, (u_born ty0 E.2.2.2.2.1 hin hKn hkC e1 hty).to hfs⟩⟩)) (q_S.push hS z1 o1)
  rw [hM1] at g
  exact g
end
section
/-! calls -/
theorem q_blind {G : qC} {M : qM} {As : List Value} : FrameBlind (va_Pc As (q_Pc G M)) := by
  intro a U g mk q
  obtain ⟨q0, qK, qH⟩ := q
  obtain ⟨h1, h2, h3, h4, h5, h6, h7⟩ := qK
  have al : U.vm.Alike (U.calling g mk a).vm := Vm.Alike.refl U.vm
  have h2' : ∀ w ∈ lw_tbl, q_nest w = true → va_Nw w (U.calling g mk a) := by
    intro w hw hn
    cases w <;> first | exact va_Nw.same rfl rfl (h2 _ hw hn) | cases hn
  exact ⟨q0, ⟨va_K.moved al h1, h2', va_AO.moved al h3, va_Z.moved al h4, va_T.moved al h5, va_Z.moved al h6, va_T.moved al h7⟩, qH⟩
theorem q_pre {G : qC} {M : qM} {As : List Value} {σ : State} {H : Heap} (hK : q_K G σ) (hH : q_H G M H) : ∀ U : State, U.heap = H → σ.WarmedH U.vm → va_Pc As (q_Pc G M) As.toArray U := fun U hU hW => ⟨rfl, hK.warm hW, by rw [hU]; exact hH⟩
/-- behind a call -/
theorem q_back {G : qC} {L : Launch} {R : Room} {mi : qMI} {Z : State → Prop} {p : Program} {e : Env} {σ : State} {m : MethodId} {args : Array Value} {below : List Frame} {meth : Method} {c : Code} (E : q_Ev G mi p σ m args meth c) {H : Heap} {locs : List Loc} {ls : Array Slot} {cs ss mc ms pc : Nat} {l : qLv} {st r : List Value} {a : Array Value} {Q : Option Value → qM → Prop}
    (hr : va_Run p L e R σ m args below meth c H locs cs ss mc ms (F0 m pc ls st) r (q_Q G Q a) (q_A G)) (hl : lv_has ls mi.2.2.1 l) (hS : va_S (q_A G) σ.heap H locs)
    (kk : ∀ (v : Option Value) (M' : qM), Q v M' → q_Y G L R mi Z p e σ m args below meth c (pc + 3) l (v.toList ++ r) M' (cs + mc) (ss + ms)) : W p L e R σ m args below meth c H locs cs ss Z (F0 m pc ls st) := by
  intro T hT Xs
  obtain ⟨v, st₀, t, T', LL, h0, X', hL, e1, e2, ⟨r', M', hv, hQ, hH', hz⟩, stp⟩ := hr T hT Xs
  cases hv
  obtain ⟨t2, a1, b1⟩ := kk v M' hQ T'.heap (locs ++ LL) ls hl (by rw [e1]; exact hH') ⟨Nat.le_trans hS.1 (by rw [e1, ← h0]; exact hz), fun q g1 g2 => by
      have hq : q < G.2.2.1.size := Nat.not_le.mp g2
      rw [e1, hH'.2.1.2 q hq]
      exact (E.2.2.2.2.2.2.2.2.2.2 q hq).symm, fun q hq => by
      rcases List.mem_append.mp hq with h | h
      · exact hS.2.2 q h
      · exact hL q h⟩ T' rfl X'
  exact ⟨t2, stp t2 a1, b1⟩
theorem q_good {mi : qMI} (hcode : Cond.code mi.1 mi.2.1 mi.2.2.1 mi.2.2.2 ∈ q_gw) : GoodIn q_gw (q_ws mi) := by
  intro w hw
  have h : w ∈ q_gw := (List.mem_cons.mp hw).elim (fun e => e ▸ hcode) id
  exact ⟨h, good_of_word (List.mem_filter.mp h).2⟩
theorem q_room {R : Room} {d mc ms maxL : Nat} (h1 : d + 1 ≤ R.frames) (h2 : 40 * (d + 1) ≤ R.locals) (hm : maxL ≤ 20) : (q_rm d mc ms).frames + 1 ≤ R.frames ∧ 8 + (maxL + 11) + (q_rm d mc ms).locals ≤ R.locals := ⟨h1, by show 8 + (maxL + 11) + 40 * d ≤ R.locals; omega⟩
def oCallS (y : qMI) (na n : Nat) : qP := fun l st M c s B _ => match q_pop na [] st with
  | some (As, r) => q_wd r ≤ 8 ∧ c ≤ B.2.2.2.2.1 ∧ s ≤ B.2.2.2.2.2.1 ∧ B.2.1 y 0 0 As M (fun v M' => B.1 n l (v.toList ++ r) M' c s)
  | none => False
def oCallV (ci : Nat) (y : qMI) (na n : Nat) : qP := fun l st M c s B _ => match q_pop na [] st with
  | some (As, .ref b :: r) => (match M.2 b with
    | some (.inr (ci', _)) => ci' = ci
    | _ => False) ∧ q_wd r ≤ 8 ∧ c ≤ B.2.2.2.2.1 ∧ s ≤ B.2.2.2.2.2.1 ∧ B.2.1 y 0 0 (.ref b :: As) M (fun v M' => B.1 n l (v.toList ++ r) M' c s)
  | _ => False
def oCallVA (ci : Nat) (y : qMI) (na n : Nat) : qP := fun l st M c s B _ => match q_pop na [] st with
  | some (As, .ref b :: r) => (match M.2 b with
    | some (.inr (ci', _)) => ci' = ci
    | _ => False) ∧ q_wd r ≤ 8 ∧ ∃ mc ms : Nat, c + mc ≤ B.2.2.2.2.1 ∧ s + ms ≤ B.2.2.2.2.2.1 ∧ B.2.1 y mc ms (.ref b :: As) M (fun v M' => B.1 n l (v.toList ++ r) M' (c + mc) (s + ms))
  | _ => False
def oCallI (y : qMI) (na n : Nat) : qP := fun l st M c s B _ => match q_pop na [] st with
  | some (As, .ref b :: r) => q_wd r ≤ 8 ∧ ∃ mc ms : Nat, c + mc ≤ B.2.2.2.2.1 ∧ s + ms ≤ B.2.2.2.2.2.1 ∧ B.2.1 y mc ms (.ref b :: As) M (fun v M' => B.1 n l (v.toList ++ r) M' (c + mc) (s + ms))
  | _ => False
theorem ok_callS {mi y : qMI} {pc n na idx : Nat} (hd : decode mi.2.1 pc = .ok (.invokestatic idx, 3)) (hn : pc + 3 = n) (hpl : plainName y.1.cls = true) (hcode : Cond.code y.1 y.2.1 y.2.2.1 y.2.2.2 ∈ q_gw) (hini : Cond.initialized y.1.cls ∈ q_gw) (hd2 : y.1.cls ≠ "java/lang/invoke/MethodHandle" ∧ y.1.cls ≠ "java/lang/invoke/VarHandle" ∧ (parseMethodDescriptor y.1.desc).map (fun d => d.parameters.length) = some na) (hm : y.2.2.1 ≤ 20) (hst : Cond.static y.1 ∈ q_gw) (hlink : Cond.methodLink mi.1.cls idx y.1 ∈ q_gw) : q_Ok mi pc (oCallS y na n) := by
  intro G L R Z p e σ m args below meth c E B hB K hK l st M cs ss h H locs ls hl hH hS
  unfold oCallS at h
  split at h
  · next As r hp =>
    obtain ⟨t, t1, t2, t3⟩ := q_pop_spec _ _ _ _ _ hp
    rw [List.append_nil] at t1
    obtain ⟨hr, hc1, hc2, h⟩ := h
    subst hn
    obtain ⟨d', g1, g2, hM⟩ := hB.2.1 y 0 0 As M _ hpl h
    have hrun := va_runS (e := e) (below := below) (locs := locs) (cells := cs) (slots := ss) (R := R) (meth := meth) (As := As) (rest := r) (g := F0 m pc ls st) (H := H) ⟨E.1, E.2.1, E.2.2.1, E.2.2.2.1, E.2.2.2.2.1⟩ hM ⟨callB_of na E.2.2.2.2.1 (q_good hcode) rfl rfl rfl (E.2.2.2.2.1 _ hini) (E.2.2.2.2.1 _ hlink) hd2 (q_room g1 g2 hm), E.2.2.2.2.1 _ hst⟩ ⟨q_blind, q_pre E.2.2.2.2.2.2.2.2.1 hH⟩ rfl (by rw [t1, List.length_reverse]; exact t3) hl.1 (by show st = _; rw [t1, List.reverse_reverse]; exact t2) (lv_room (by rw [q_wd_eq]; exact hr)) hd ⟨Nat.le_trans hc1 hB.2.2.2.2.1, Nat.le_trans hc2 hB.2.2.2.2.2.1⟩
    exact q_back (mi := mi) E hrun hl hS (fun v M' hQ => hB.1 _ _ _ _ _ _ hQ)
  · exact h.elim
theorem ok_callSN {mi y : qMI} {pc n na idx : Nat} {host : String} (hd : decode mi.2.1 pc = .ok (.invokestatic idx, 3)) (hn : pc + 3 = n) (hpl : plainName y.1.cls = true) (hcode : Cond.code y.1 y.2.1 y.2.2.1 y.2.2.2 ∈ q_gw) (hini : Cond.initialized y.1.cls ∈ q_gw) (hd2 : y.1.cls ≠ "java/lang/invoke/MethodHandle" ∧ y.1.cls ≠ "java/lang/invoke/VarHandle" ∧ (parseMethodDescriptor y.1.desc).map (fun d => d.parameters.length) = some na) (hm : y.2.2.1 ≤ 20) (hst : Cond.static y.1 ∈ q_gw) (hlink : Cond.methodLinkNest mi.1.cls idx y.1 host ∈ lw_tbl) : q_Ok mi pc (oCallS y na n) := by
  intro G L R Z p e σ m args below meth c E B hB K hK l st M cs ss h H locs ls hl hH hS
  unfold oCallS at h
  split at h
  · next As r hp =>
    obtain ⟨t, t1, t2, t3⟩ := q_pop_spec _ _ _ _ _ hp
    rw [List.append_nil] at t1
    obtain ⟨hr, hc1, hc2, h⟩ := h
    subst hn
    obtain ⟨d', g1, g2, hM⟩ := hB.2.1 y 0 0 As M _ hpl h
    have hrun := va_runSN (e := e) (below := below) (locs := locs) (cells := cs) (slots := ss) (R := R) (meth := meth) (As := As) (rest := r) (g := F0 m pc ls st) (H := H) ⟨E.1, E.2.1, E.2.2.1, E.2.2.2.1, E.2.2.2.2.1⟩ hM ⟨va_cnB na E.2.2.2.2.1 (q_good hcode) rfl rfl rfl (E.2.2.2.2.2.2.2.2.1.2.1 _ hlink rfl) (E.2.2.2.2.1 _ hini) hd2 (q_room g1 g2 hm), E.2.2.2.2.1 _ hst, trivial⟩ ⟨q_blind, q_pre E.2.2.2.2.2.2.2.2.1 hH⟩ rfl (by rw [t1, List.length_reverse]; exact t3) hl.1 (by show st = _; rw [t1, List.reverse_reverse]; exact t2) (lv_room (by rw [q_wd_eq]; exact hr)) hd ⟨Nat.le_trans hc1 hB.2.2.2.2.1, Nat.le_trans hc2 hB.2.2.2.2.2.1⟩
    exact q_back (mi := mi) E hrun hl hS (fun v M' hQ => hB.1 _ _ _ _ _ _ hQ)
  · exact h.elim
theorem ok_callV {mi y : qMI} {pc n na idx : Nat} {ci N : Nat} {T : u_T} (hd : decode mi.2.1 pc = .ok (.invokevirtual idx, 3)) (hn : pc + 3 = n) (hpl : plainName y.1.cls = true) (hcode : Cond.code y.1 y.2.1 y.2.2.1 y.2.2.2 ∈ q_gw) (hini : Cond.initialized y.1.cls ∈ q_gw) (hd2 : y.1.cls ≠ "java/lang/invoke/MethodHandle" ∧ y.1.cls ≠ "java/lang/invoke/VarHandle" ∧ (parseMethodDescriptor y.1.desc).map (fun d => d.parameters.length) = some na) (hm : y.2.2.1 ≤ 20) (hcl : vwCl[ci]? = some (y.1.cls, T, N)) (hins : Cond.instanceMethod y.1 ∈ q_gw) (hsel : Cond.selects y.1.cls y.1 y.1 ∈ q_gw) (hlink : Cond.methodLink mi.1.cls idx y.1 ∈ q_gw) : q_Ok mi pc (oCallV ci y na n) := by
  intro G L R Z p e σ m args below meth c E B hB K hK l st M cs ss h H locs ls hl hH hS
  unfold oCallV at h
  split at h
  · next As b r hp =>
    obtain ⟨t, t1, t2, t3⟩ := q_pop_spec _ _ _ _ _ hp
    rw [List.append_nil] at t1
    obtain ⟨hrc, hr, hc1, hc2, h⟩ := h
    split at hrc
    · next ci' fs hMb =>
      subst hrc
      subst hn
      obtain ⟨d', g1, g2, hM⟩ := hB.2.1 y 0 0 (.ref b :: As) M _ hpl h
      have hrun := va_runV (e := e) (below := below) (locs := locs) (cells := cs) (slots := ss) (R := R) (meth := meth) (As := As) (rest := r) (g := F0 m pc ls st) (H := H) (b := b) (C := y.1.cls) ⟨E.1, E.2.1, E.2.2.1, E.2.2.2.1, E.2.2.2.2.1⟩ hM ⟨callB_of na E.2.2.2.2.1 (q_good hcode) rfl rfl rfl (E.2.2.2.2.1 _ hini) (E.2.2.2.2.1 _ hlink) hd2 (q_room g1 g2 hm), E.2.2.2.2.1 _ hins, E.2.2.2.2.1 _ hsel⟩ ⟨q_blind, va_recv (q0 := 0) (ws := [(b, .inr (ci', fs))]) E.2.2.2.2.2.2.2.2.1.1 (q_P1 (hH.2.2.2.2.2.2 b _ hMb).2) hcl rfl, q_pre E.2.2.2.2.2.2.2.2.1 hH⟩ rfl (by rw [t1, List.length_reverse]; exact t3) hl.1 (by show st = _; rw [t1, List.reverse_reverse]; exact t2) (lv_room (by rw [q_wd_eq]; exact hr)) hd ⟨Nat.le_trans hc1 hB.2.2.2.2.1, Nat.le_trans hc2 hB.2.2.2.2.2.1⟩
      exact q_back (mi := mi) E hrun hl hS (fun v M' hQ => hB.1 _ _ _ _ _ _ hQ)
    · exact hrc.elim
  · exact h.elim
theorem ok_callVN {mi y : qMI} {pc n na idx : Nat} {ci N : Nat} {T : u_T} {host : String} (hd : decode mi.2.1 pc = .ok (.invokevirtual idx, 3)) (hn : pc + 3 = n) (hpl : plainName y.1.cls = true) (hcode : Cond.code y.1 y.2.1 y.2.2.1 y.2.2.2 ∈ q_gw) (hini : Cond.initialized y.1.cls ∈ q_gw) (hd2 : y.1.cls ≠ "java/lang/invoke/MethodHandle" ∧ y.1.cls ≠ "java/lang/invoke/VarHandle" ∧ (parseMethodDescriptor y.1.desc).map (fun d => d.parameters.length) = some na) (hm : y.2.2.1 ≤ 20) (hcl : vwCl[ci]? = some (y.1.cls, T, N)) (hins : Cond.instanceMethod y.1 ∈ q_gw) (hsel : Cond.selects y.1.cls y.1 y.1 ∈ q_gw) (hlink : Cond.methodLinkNest mi.1.cls idx y.1 host ∈ lw_tbl) : q_Ok mi pc (oCallV ci y na n) := by
  intro G L R Z p e σ m args below meth c E B hB K hK l st M cs ss h H locs ls hl hH hS
  unfold oCallV at h
  split at h
  · next As b r hp =>
    obtain ⟨t, t1, t2, t3⟩ := q_pop_spec _ _ _ _ _ hp
    rw [List.append_nil] at t1
    obtain ⟨hrc, hr, hc1, hc2, h⟩ := h
    split at hrc
    · next ci' fs hMb =>
      subst hrc
      subst hn
      obtain ⟨d', g1, g2, hM⟩ := hB.2.1 y 0 0 (.ref b :: As) M _ hpl h
      have hrun := va_runVN (e := e) (below := below) (locs := locs) (cells := cs) (slots := ss) (R := R) (meth := meth) (As := As) (rest := r) (g := F0 m pc ls st) (H := H) (b := b) (C := y.1.cls) ⟨E.1, E.2.1, E.2.2.1, E.2.2.2.1, E.2.2.2.2.1⟩ hM ⟨va_cnB na E.2.2.2.2.1 (q_good hcode) rfl rfl rfl (E.2.2.2.2.2.2.2.2.1.2.1 _ hlink rfl) (E.2.2.2.2.1 _ hini) hd2 (q_room g1 g2 hm), E.2.2.2.2.1 _ hins, E.2.2.2.2.1 _ hsel⟩ ⟨q_blind, va_recv (q0 := 0) (ws := [(b, .inr (ci', fs))]) E.2.2.2.2.2.2.2.2.1.1 (q_P1 (hH.2.2.2.2.2.2 b _ hMb).2) hcl rfl, q_pre E.2.2.2.2.2.2.2.2.1 hH⟩ rfl (by rw [t1, List.length_reverse]; exact t3) hl.1 (by show st = _; rw [t1, List.reverse_reverse]; exact t2) (lv_room (by rw [q_wd_eq]; exact hr)) hd ⟨Nat.le_trans hc1 hB.2.2.2.2.1, Nat.le_trans hc2 hB.2.2.2.2.2.1⟩
      exact q_back (mi := mi) E hrun hl hS (fun v M' hQ => hB.1 _ _ _ _ _ _ hQ)
    · exact hrc.elim
  · exact h.elim
theorem ok_callVA {mi y : qMI} {pc n na idx : Nat} {ci N : Nat} {T : u_T} (hd : decode mi.2.1 pc = .ok (.invokevirtual idx, 3)) (hn : pc + 3 = n) (hpl : plainName y.1.cls = true) (hcode : Cond.code y.1 y.2.1 y.2.2.1 y.2.2.2 ∈ q_gw) (hini : Cond.initialized y.1.cls ∈ q_gw) (hd2 : y.1.cls ≠ "java/lang/invoke/MethodHandle" ∧ y.1.cls ≠ "java/lang/invoke/VarHandle" ∧ (parseMethodDescriptor y.1.desc).map (fun d => d.parameters.length) = some na) (hm : y.2.2.1 ≤ 20) (hcl : vwCl[ci]? = some (y.1.cls, T, N)) (hins : Cond.instanceMethod y.1 ∈ q_gw) (hsel : Cond.selects y.1.cls y.1 y.1 ∈ q_gw) (hlink : Cond.methodLink mi.1.cls idx y.1 ∈ q_gw) : q_Ok mi pc (oCallVA ci y na n) := by
  intro G L R Z p e σ m args below meth c E B hB K hK l st M cs ss h H locs ls hl hH hS
  unfold oCallVA at h
  split at h
  · next As b r hp =>
    obtain ⟨t, t1, t2, t3⟩ := q_pop_spec _ _ _ _ _ hp
    rw [List.append_nil] at t1
    obtain ⟨hrc, hr, mc, ms, hc1, hc2, h⟩ := h
    split at hrc
    · next ci' fs hMb =>
      subst hrc
      subst hn
      obtain ⟨d', g1, g2, hM⟩ := hB.2.1 y mc ms (.ref b :: As) M _ hpl h
      have hrun := va_runV (e := e) (below := below) (locs := locs) (cells := cs) (slots := ss) (R := R) (meth := meth) (As := As) (rest := r) (g := F0 m pc ls st) (H := H) (b := b) (C := y.1.cls) ⟨E.1, E.2.1, E.2.2.1, E.2.2.2.1, E.2.2.2.2.1⟩ hM ⟨callB_of na E.2.2.2.2.1 (q_good hcode) rfl rfl rfl (E.2.2.2.2.1 _ hini) (E.2.2.2.2.1 _ hlink) hd2 (q_room g1 g2 hm), E.2.2.2.2.1 _ hins, E.2.2.2.2.1 _ hsel⟩ ⟨q_blind, va_recv (q0 := 0) (ws := [(b, .inr (ci', fs))]) E.2.2.2.2.2.2.2.2.1.1 (q_P1 (hH.2.2.2.2.2.2 b _ hMb).2) hcl rfl, q_pre E.2.2.2.2.2.2.2.2.1 hH⟩ rfl (by rw [t1, List.length_reverse]; exact t3) hl.1 (by show st = _; rw [t1, List.reverse_reverse]; exact t2) (lv_room (by rw [q_wd_eq]; exact hr)) hd ⟨Nat.le_trans hc1 hB.2.2.2.2.1, Nat.le_trans hc2 hB.2.2.2.2.2.1⟩
      exact q_back (mi := mi) E hrun hl hS (fun v M' hQ => hB.1 _ _ _ _ _ _ hQ)
    · exact hrc.elim
  · exact h.elim
theorem ok_callVAN {mi y : qMI} {pc n na idx : Nat} {ci N : Nat} {T : u_T} {host : String} (hd : decode mi.2.1 pc = .ok (.invokevirtual idx, 3)) (hn : pc + 3 = n) (hpl : plainName y.1.cls = true) (hcode : Cond.code y.1 y.2.1 y.2.2.1 y.2.2.2 ∈ q_gw) (hini : Cond.initialized y.1.cls ∈ q_gw) (hd2 : y.1.cls ≠ "java/lang/invoke/MethodHandle" ∧ y.1.cls ≠ "java/lang/invoke/VarHandle" ∧ (parseMethodDescriptor y.1.desc).map (fun d => d.parameters.length) = some na) (hm : y.2.2.1 ≤ 20) (hcl : vwCl[ci]? = some (y.1.cls, T, N)) (hins : Cond.instanceMethod y.1 ∈ q_gw) (hsel : Cond.selects y.1.cls y.1 y.1 ∈ q_gw) (hlink : Cond.methodLinkNest mi.1.cls idx y.1 host ∈ lw_tbl) : q_Ok mi pc (oCallVA ci y na n) := by
  intro G L R Z p e σ m args below meth c E B hB K hK l st M cs ss h H locs ls hl hH hS
  unfold oCallVA at h
  split at h
  · next As b r hp =>
    obtain ⟨t, t1, t2, t3⟩ := q_pop_spec _ _ _ _ _ hp
    rw [List.append_nil] at t1
    obtain ⟨hrc, hr, mc, ms, hc1, hc2, h⟩ := h
    split at hrc
    · next ci' fs hMb =>
      subst hrc
      subst hn
      obtain ⟨d', g1, g2, hM⟩ := hB.2.1 y mc ms (.ref b :: As) M _ hpl h
      have hrun := va_runVN (e := e) (below := below) (locs := locs) (cells := cs) (slots := ss) (R := R) (meth := meth) (As := As) (rest := r) (g := F0 m pc ls st) (H := H) (b := b) (C := y.1.cls) ⟨E.1, E.2.1, E.2.2.1, E.2.2.2.1, E.2.2.2.2.1⟩ hM ⟨va_cnB na E.2.2.2.2.1 (q_good hcode) rfl rfl rfl (E.2.2.2.2.2.2.2.2.1.2.1 _ hlink rfl) (E.2.2.2.2.1 _ hini) hd2 (q_room g1 g2 hm), E.2.2.2.2.1 _ hins, E.2.2.2.2.1 _ hsel⟩ ⟨q_blind, va_recv (q0 := 0) (ws := [(b, .inr (ci', fs))]) E.2.2.2.2.2.2.2.2.1.1 (q_P1 (hH.2.2.2.2.2.2 b _ hMb).2) hcl rfl, q_pre E.2.2.2.2.2.2.2.2.1 hH⟩ rfl (by rw [t1, List.length_reverse]; exact t3) hl.1 (by show st = _; rw [t1, List.reverse_reverse]; exact t2) (lv_room (by rw [q_wd_eq]; exact hr)) hd ⟨Nat.le_trans hc1 hB.2.2.2.2.1, Nat.le_trans hc2 hB.2.2.2.2.2.1⟩
      exact q_back (mi := mi) E hrun hl hS (fun v M' hQ => hB.1 _ _ _ _ _ _ hQ)
    · exact hrc.elim
  · exact h.elim
theorem ok_callI {mi y : qMI} {pc n na idx : Nat} (hd : decode mi.2.1 pc = .ok (.invokespecial idx, 3)) (hn : pc + 3 = n) (hpl : plainName y.1.cls = true) (hcode : Cond.code y.1 y.2.1 y.2.2.1 y.2.2.2 ∈ q_gw) (hini : Cond.initialized y.1.cls ∈ q_gw) (hd2 : y.1.cls ≠ "java/lang/invoke/MethodHandle" ∧ y.1.cls ≠ "java/lang/invoke/VarHandle" ∧ (parseMethodDescriptor y.1.desc).map (fun d => d.parameters.length) = some na) (hm : y.2.2.1 ≤ 20) (hret : y.2.2.2 = none) (hnm : y.1.name = "<init>") (hins : Cond.instanceMethod y.1 ∈ q_gw) (hlink : Cond.methodLink mi.1.cls idx y.1 ∈ q_gw) : q_Ok mi pc (oCallI y na n) := by
  intro G L R Z p e σ m args below meth c E B hB K hK l st M cs ss h H locs ls hl hH hS
  unfold oCallI at h
  split at h
  · next As b r hp =>
    obtain ⟨t, t1, t2, t3⟩ := q_pop_spec _ _ _ _ _ hp
    rw [List.append_nil] at t1
    obtain ⟨hr, mc, ms, hc1, hc2, h⟩ := h
    subst hn
    obtain ⟨d', g1, g2, hM⟩ := hB.2.1 y mc ms (.ref b :: As) M _ hpl h
    have hrun := va_runI (e := e) (below := below) (locs := locs) (cells := cs) (slots := ss) (R := R) (meth := meth) (As := As) (rest := r) (g := F0 m pc ls st) (H := H) (b := b) (bytes := y.2.1) (maxL := y.2.2.1) ⟨E.1, E.2.1, E.2.2.1, E.2.2.2.1, E.2.2.2.2.1⟩ hM ⟨callB_of na E.2.2.2.2.1 (q_good hcode) (by show q_ws y = _; unfold q_ws; rw [hret]) rfl rfl (E.2.2.2.2.1 _ hini) (E.2.2.2.2.1 _ hlink) hd2 (q_room g1 g2 hm), hnm, E.2.2.2.2.1 _ hins⟩ ⟨q_blind, q_pre E.2.2.2.2.2.2.2.2.1 hH⟩ rfl (by rw [t1, List.length_reverse]; exact t3) hl.1 (by show st = _; rw [t1, List.reverse_reverse]; exact t2) (lv_room (by rw [q_wd_eq]; exact hr)) hd ⟨Nat.le_trans hc1 hB.2.2.2.2.1, Nat.le_trans hc2 hB.2.2.2.2.2.1⟩
    exact q_back (mi := mi) E hrun hl hS (fun v M' hQ => hB.1 _ _ _ _ _ _ hQ)
  · exact h.elim
theorem ok_callIN {mi y : qMI} {pc n na idx : Nat} {host : String} (hd : decode mi.2.1 pc = .ok (.invokespecial idx, 3)) (hn : pc + 3 = n) (hpl : plainName y.1.cls = true) (hcode : Cond.code y.1 y.2.1 y.2.2.1 y.2.2.2 ∈ q_gw) (hini : Cond.initialized y.1.cls ∈ q_gw) (hd2 : y.1.cls ≠ "java/lang/invoke/MethodHandle" ∧ y.1.cls ≠ "java/lang/invoke/VarHandle" ∧ (parseMethodDescriptor y.1.desc).map (fun d => d.parameters.length) = some na) (hm : y.2.2.1 ≤ 20) (hret : y.2.2.2 = none) (hnm : y.1.name = "<init>") (hins : Cond.instanceMethod y.1 ∈ q_gw) (hlink : Cond.methodLinkNest mi.1.cls idx y.1 host ∈ lw_tbl) : q_Ok mi pc (oCallI y na n) := by
  intro G L R Z p e σ m args below meth c E B hB K hK l st M cs ss h H locs ls hl hH hS
  unfold oCallI at h
  split at h
  · next As b r hp =>
    obtain ⟨t, t1, t2, t3⟩ := q_pop_spec _ _ _ _ _ hp
    rw [List.append_nil] at t1
    obtain ⟨hr, mc, ms, hc1, hc2, h⟩ := h
    subst hn
    obtain ⟨d', g1, g2, hM⟩ := hB.2.1 y mc ms (.ref b :: As) M _ hpl h
    have hrun := va_runIN (e := e) (below := below) (locs := locs) (cells := cs) (slots := ss) (R := R) (meth := meth) (As := As) (rest := r) (g := F0 m pc ls st) (H := H) (b := b) (bytes := y.2.1) (maxL := y.2.2.1) ⟨E.1, E.2.1, E.2.2.1, E.2.2.2.1, E.2.2.2.2.1⟩ hM ⟨va_cnB na E.2.2.2.2.1 (q_good hcode) (by show q_ws y = _; unfold q_ws; rw [hret]) rfl rfl (E.2.2.2.2.2.2.2.2.1.2.1 _ hlink rfl) (E.2.2.2.2.1 _ hini) hd2 (q_room g1 g2 hm), hnm, E.2.2.2.2.1 _ hins⟩ ⟨q_blind, q_pre E.2.2.2.2.2.2.2.2.1 hH⟩ rfl (by rw [t1, List.length_reverse]; exact t3) hl.1 (by show st = _; rw [t1, List.reverse_reverse]; exact t2) (lv_room (by rw [q_wd_eq]; exact hr)) hd ⟨Nat.le_trans hc1 hB.2.2.2.2.1, Nat.le_trans hc2 hB.2.2.2.2.2.1⟩
    exact q_back (mi := mi) E hrun hl hS (fun v M' hQ => hB.1 _ _ _ _ _ _ hQ)
  · exact h.elim
def oObj (n : Nat) : qP := fun l st M c s B K => match st with
  | .ref _ :: r => 0 < B.2.2.2.1 ∧ q_wd r ≤ 8 ∧ K n l r M c s
  | _ => False
theorem ok_obj {mi : qMI} {pc n idx : Nat} (hd : decode mi.2.1 pc = .ok (.invokespecial idx, 3)) (hn : pc + 3 = n) (hlink : Cond.methodLink mi.1.cls idx objectInit ∈ q_gw) (hins : Cond.instanceMethod objectInit ∈ q_gw) (hcode : Cond.code objectInit ⟨#[0xb1]⟩ 1 none ∈ q_gw) : q_Ok mi pc (oObj n) := by
  intro G L R Z p e σ m args below meth c E B hB K hK l st M cs ss h H locs ls hl hH hS
  unfold oObj at h
  split at h
  · next a r =>
    obtain ⟨h1, h2, h⟩ := h
    subst hn
    have hd4 := hB.2.2.2.1
    refine W.objInit E.1 E.2.1 E.2.2.2.1 (E.2.2.2.2.1 _ hlink) (E.2.2.2.2.1 _ hins) (E.2.2.2.2.1 _ hcode) rfl (by rw [E.2.2.1]; exact hl.1) rfl hd (by omega) (by
      have := lv_room (m := m) (pc := pc) (ls := ls) (rest := (.ref a :: r)) (st := r) (by rw [q_wd_eq]; exact h2)
      omega) ?_
    exact hK _ _ _ _ _ _ h H locs ls hl hH hS
  · exact h.elim
/-! returns -/
def oIret : qP := fun _ st M c s B _ => match st with
  | [.int v] => B.2.2.1 (some (.int v)) M c s
  | _ => False
def oZret : qP := fun _ st M c s B _ => match st with
  | [.int v] => (v = 0 ∨ v = 1) ∧ B.2.2.1 (some (.int v)) M c s
  | _ => False
def oLret : qP := fun _ st M c s B _ => match st with
  | [.long v] => B.2.2.1 (some (.long v)) M c s
  | _ => False
def oAret : qP := fun _ st M c s B _ => match st with
  | [.ref v] => B.2.2.1 (some (.ref v)) M c s
  | [.null] => B.2.2.1 (some .null) M c s
  | _ => False
def oVret : qP := fun _ st M c s B _ => match st with
  | [] => B.2.2.1 none M c s
  | _ => False
theorem ok_iret {mi : qMI} {pc : Nat} (hd : decode mi.2.1 pc = .ok (.ireturn, 1)) (hr : mi.2.2.2 = some .int) : q_Ok mi pc oIret := by
  intro G L R Z p e σ m args below meth c E B hB K hK l st M cs ss h H locs ls hl hH hS
  unfold oIret at h
  split at h
  · next v => exact hB.2.2.1 pc l _ _ M cs ss h (Or.inl ⟨v, .int, rfl, rfl, hr, rfl, hd⟩) H locs ls hl hH hS
  · exact h.elim
theorem ok_zret {mi : qMI} {pc : Nat} (hd : decode mi.2.1 pc = .ok (.ireturn, 1)) (hr : mi.2.2.2 = some .boolean) : q_Ok mi pc oZret := by
  intro G L R Z p e σ m args below meth c E B hB K hK l st M cs ss h H locs ls hl hH hS
  unfold oZret at h
  split at h
  · next v => exact hB.2.2.1 pc l _ _ M cs ss h.2 (Or.inl ⟨v, .boolean, rfl, rfl, hr, by rcases h.1 with rfl | rfl <;> rfl, hd⟩) H locs ls hl hH hS
  · exact h.elim
theorem ok_lret {mi : qMI} {pc : Nat} (hd : decode mi.2.1 pc = .ok (.lreturn, 1)) (hr : mi.2.2.2 = some .long) : q_Ok mi pc oLret := by
  intro G L R Z p e σ m args below meth c E B hB K hK l st M cs ss h H locs ls hl hH hS
  unfold oLret at h
  split at h
  · next v => exact hB.2.2.1 pc l _ _ M cs ss h (Or.inr (Or.inl ⟨v, rfl, rfl, hr, hd⟩)) H locs ls hl hH hS
  · exact h.elim
theorem ok_aret {mi : qMI} {pc : Nat} {s : String} (hd : decode mi.2.1 pc = .ok (.areturn, 1)) (hr : mi.2.2.2 = some (.object s)) : q_Ok mi pc oAret := by
  intro G L R Z p e σ m args below meth c E B hB K hK l st M cs ss h H locs ls hl hH hS
  unfold oAret at h
  split at h
  · next v => exact hB.2.2.1 pc l _ _ M cs ss h (Or.inr (Or.inr (Or.inl ⟨_, s, rfl, rfl, hr, Or.inr ⟨v, rfl⟩, hd⟩))) H locs ls hl hH hS
  · exact hB.2.2.1 pc l _ _ M cs ss h (Or.inr (Or.inr (Or.inl ⟨_, s, rfl, rfl, hr, Or.inl rfl, hd⟩))) H locs ls hl hH hS
  · exact h.elim
theorem ok_vret {mi : qMI} {pc : Nat} (hd : decode mi.2.1 pc = .ok (.return_, 1)) (hr : mi.2.2.2 = none) : q_Ok mi pc oVret := by
  intro G L R Z p e σ m args below meth c E B hB K hK l st M cs ss h H locs ls hl hH hS
  unfold oVret at h
  split at h
  · exact hB.2.2.1 pc l _ _ M cs ss h (Or.inr (Or.inr (Or.inr ⟨rfl, rfl, hr, hd⟩))) H locs ls hl hH hS
  · exact h.elim
/-! arraycopy of ints -/
def oCpy (n : Nat) : qP := fun l st M c s B K => match st with
  | .int k :: .int dp :: .ref a :: .int sp :: .ref b :: r => (match M.2 b, M.2 a with
    | some (.inl (t0, n0, .inl f)), some (.inl (t1, n1, .inl g)) => (t0 = 1 ∧ t1 = 1) ∧ 0 < B.2.2.2.1 ∧ q_wd r ≤ 8 ∧ ¬ sp < 0 ∧ ¬ dp < 0 ∧ ¬ k < 0 ∧ sp.toNatClampNeg + k.toNatClampNeg ≤ n0 ∧ dp.toNatClampNeg + k.toNatClampNeg ≤ n1 ∧ K n l r (q_set M a (.inl (1, n1, .inl (va_cpy f g sp.toNatClampNeg dp.toNatClampNeg k.toNatClampNeg)))) c s
    | _, _ => False)
  | _ => False
theorem ok_cpy {mi : qMI} {pc n idx : Nat} (hd : decode mi.2.1 pc = .ok (.invokestatic idx, 3)) (hn : pc + 3 = n) (hlink : Cond.methodLink mi.1.cls idx arraycopyName ∈ q_gw) (hnat : Cond.native arraycopyName ∈ q_gw) (hst : Cond.static arraycopyName ∈ q_gw) (hini : Cond.initialized "java/lang/System" ∈ q_gw) : q_Ok mi pc (oCpy n) := by
  intro G L R Z p e σ m args below meth c E B hB K hK l st M cs ss h H locs ls hl hH hS
  unfold oCpy at h
  split at h
  · next k dp a sp b r =>
    split at h
    · next t0 n0 f t1 n1 g hMb hMa =>
      obtain ⟨⟨rfl, rfl⟩, h0, hr, h1, h2, h3, h4, h5, h⟩ := h
      subst hn
      have hKk := E.2.2.2.2.2.2.2.2.1.1
      obtain ⟨hA, hc1⟩ := hH.2.2.2.2.2.1 a 1 _ hMa (by decide)
      obtain ⟨-, hc0⟩ := hH.2.2.2.2.2.1 b 1 _ hMb (by decide)
      have nn : ∀ z : Int32, ¬ z < 0 → z.toInt = (z.toNatClampNeg : Int) := by
        intro z hz
        have hz0 : (0 : Int) ≤ z.toInt := by
          have := Int32.not_lt.mp hz
          simpa using Int32.le_iff_toInt_le.mp this
        show z.toInt = ((z.toInt.toNat : Nat) : Int)
        omega
      intro T hT Xs
      obtain ⟨-, k0, hk0, cm0, hkk0⟩ := (hKk.2 0 _ rfl).1 n0 (fun j => .int (f j))
      obtain ⟨-, k1, hk1, cm1, hkk1⟩ := (hKk.2 0 _ rfl).1 n1 (fun j => .int (g j))
      have hdd := hB.2.2.2.1
      obtain ⟨vm', X', step⟩ := Xs.arraycopy E.1 E.2.2.2.1 (E.2.2.2.2.1 _ hlink) (E.2.2.2.2.1 _ hnat) (E.2.2.2.2.1 _ hst) (E.2.2.2.2.1 _ hini) (src := b) (dst := a) (cs := vp_cell (G.2.1 1) (n0, .inl f)) (cd := vp_cell (G.2.1 1) (n1, .inl g)) (srcPos := sp) (destPos := dp) (n := k) (by rw [hT]; exact hc0) (by rw [hT]; exact hc1)
        (fun _ h => by cases h) (fun _ h => by cases h) (fun h => by cases h) (fun h => by cases h) hk0 hk1 hkk0 hkk1 (by simp [refKind]) h1 h2 h3
        (by rw [nn sp h1, nn k h3]; show ¬ _ > ((arrV (G.2.1 1) n0 (fun j => .int (f j))).slots.size : Int); rw [arrV_size]; omega)
        (by rw [nn dp h2, nn k h3]; show ¬ _ > ((arrV (G.2.1 1) n1 (fun j => .int (g j))).slots.size : Int); rw [arrV_size]; omega)
        (fun vm₁ _ i hi => by
          have e : (vp_cell (G.2.1 1) (n0, .inl f)).slots.getD (sp.toNatClampNeg + i) .null = .int (f (sp.toNatClampNeg + i)) := by
            show (arrV (G.2.1 1) n0 (fun j => .int (f j))).slots.getD _ _ = _
            rw [Array.getD_eq_getD_getElem?, arrV_read _ _ (by omega)]
            rfl
          refine ⟨?_, ?_⟩
          · rw [e]; rfl
          · rw [e]; exact trivial)
        (g := F0 m pc ls (.int k :: .int dp :: .ref a :: .int sp :: .ref b :: r)) rfl (by rw [E.2.2.1]; exact hl.1) (rest := r) rfl (by rw [E.2.1]; exact hd) (by omega) (by
          have := lv_room (m := m) (pc := pc) (ls := ls) (rest := (.ref a :: r)) (st := r) (by rw [q_wd_eq]; exact hr)
          have e0 : nativeFrameWords "java/lang/System" "arraycopy" 5 = 7 := by decide
          show 2 * 0 + _ + _ ≤ _
          have e1 : 2 * (F0 m pc ls (.ref a :: r)).monitorRoom = 0 := rfl
          rw [e0]
          omega)
      have e1 : copied (vp_cell (G.2.1 1) (n0, .inl f)) (vp_cell (G.2.1 1) (n1, .inl g)) sp dp k = vp_cell (G.2.1 1) (n1, .inl (va_cpy f g sp.toNatClampNeg dp.toNatClampNeg k.toNatClampNeg)) := va_copied (fun z => .int z) (G.2.1 1) (G.2.1 1) f g h4
      rw [e1] at X' step
      have hlt : a < H.size := (Array.getElem?_eq_some_iff.mp hc1).1
      have hheap : ((T.setVm vm').setCell a (vp_cell (G.2.1 1) (n1, .inl (va_cpy f g sp.toNatClampNeg dp.toNatClampNeg k.toNatClampNeg)))).heap = H.setIfInBounds a (vp_cell (G.2.1 1) (n1, .inl (va_cpy f g sp.toNatClampNeg dp.toNatClampNeg k.toNatClampNeg))) := by rw [← hT]; rfl
      have oq : ∀ q : Nat, q ≠ a → (H.setIfInBounds a (vp_cell (G.2.1 1) (n1, .inl (va_cpy f g sp.toNatClampNeg dp.toNatClampNeg k.toNatClampNeg))))[q]? = H[q]? := fun q hq => by simp [Array.getElem?_setIfInBounds, Ne.symm hq]
      obtain ⟨t, a1, b1⟩ := hK _ _ _ _ _ _ h _ _ ls hl (hH.setA hMa (by decide) (by simp) oq (by simp [Array.getElem?_setIfInBounds, hlt])) ⟨by simp; exact hS.1, fun q g1 g2 => by
          rw [oq q (fun e => g2 (by rw [e]; exact hA))]
          exact hS.2.1 q g1 g2, fun q hq => by
          rcases List.mem_append.mp hq with h | h
          · exact hS.2.2 q h
          · obtain ⟨z, -, hz⟩ := List.mem_map.mp h
            rw [← hz]
            exact hA⟩ _ hheap X'
      exact ⟨t, step t a1, b1⟩
    · exact h.elim
  · exact h.elim
/-! contracts -/
/-- from a place in a method's body the method comes to its end with Q -/
def q_X (G : qC) (L : Launch) (d : Nat) (mi : qMI) (mc ms : Nat) (Q : Option Value → qM → Prop) : qKt := fun pc l st M cs ss =>
  ∀ (p : Program) (e : Env) (σ : State) (m : MethodId) (args : Array Value) (below : List Frame) (meth : Method) (c : Code), q_Ev G mi p σ m args meth c → q_Y G L (q_rm d mc ms) mi (MQ below (q_Q G Q) args σ mc ms (q_A G)) p e σ m args below meth c pc l st M cs ss
/-- a call comes back with Q -/
def q_Call (G : qC) (L : Launch) (d : Nat) (mi : qMI) (mc ms : Nat) (As : List Value) (M : qM) (Q : Option Value → qM → Prop) : Prop := q_X G L d mi mc ms Q 0 (lv_args 0 As) [] M 0 0
theorem q_Call.met {G : qC} {L : Launch} {d : Nat} {mi : qMI} {mc ms : Nat} {As : List Value} {M : qM} {Q : Option Value → qM → Prop} (hpl : plainName mi.1.cls = true) (hw : q_wd As ≤ mi.2.2.1) (h : q_Call G L d mi mc ms As M Q) : Met L mi.1 (q_ws mi) (q_rm d mc ms) (va_Pc As (q_Pc G M)) (q_Q G Q) mc ms (q_A G) := by
  refine Met.ofW (cc := mi.2.1) (maxL := mi.2.2.1) (ret := mi.2.2.2) hpl rfl ?_
  intro p e s m args below meth c s₁ B hml hv
  obtain ⟨rfl, hK, hH⟩ := hv
  have hts := atoms_spec (ws := q_ws mi) B.pre
  have hl := lv_entry As (n := mi.2.2.1) (by rw [q_wd_sl]; exact hw)
  rw [lg_entry_eq]
  exact h p e s m _ below meth c ⟨B.exec, B.bytes, hml, findClass_of_methodNamed B.named, fun w hw => hts w (List.mem_cons_of_mem _ hw), B.returns, B.notSynchronized, (name_of_methodNamed B.named B.method).1, hK, hH.2.1⟩ s.heap [] _ hl hH va_S.rf
def q_bx (G : qC) (L : Launch) (d : Nat) (mi : qMI) (mc ms : Nat) (Q : Option Value → qM → Prop) : qB :=
  (q_X G L d mi mc ms Q, fun y mc' ms' As M Q' => 0 < d ∧ q_wd As ≤ y.2.2.1 ∧ q_Call G L (d - 1) y mc' ms' As M Q', fun r M cs ss => cs ≤ mc ∧ ss ≤ ms ∧ Q r M, d, mc, ms, G.2.2.2.1, G.2.2.2.2)
theorem q_bx_ok {G : qC} {L : Launch} {d : Nat} {mi : qMI} {mc ms : Nat} {Q : Option Value → qM → Prop} {p : Program} {e : Env} {σ : State} {m : MethodId} {args : Array Value} {below : List Frame} {meth : Method} {c : Code} (E : q_Ev G mi p σ m args meth c) : q_BOk G L (q_rm d mc ms) mi (MQ below (q_Q G Q) args σ mc ms (q_A G)) p e σ m args below meth c (q_bx G L d mi mc ms Q) := by
  refine ⟨fun pc l st M cs ss h => h p e σ m args below meth c E, fun y mc' ms' As M Q' hpl h => ⟨d - 1, ?_, ?_, h.2.2.met hpl h.2.1⟩, ?_, ⟨Nat.le_refl _, Nat.le_refl _⟩, Nat.le_refl _, Nat.le_refl _, rfl, rfl⟩
  · have := h.1; show d - 1 + 1 ≤ d; omega
  · have := h.1; show 40 * (d - 1 + 1) ≤ 40 * d; omega
  · intro pc l st r M cs ss hR hk H locs ls hl hH hS
    obtain ⟨h1, h2, hQ⟩ := hR
    have fin : ∀ t : State, t.heap = H → σ.WarmedH t.vm → q_Q G Q args σ (.returned r) t := fun t ht _ => ⟨r, M, rfl, hQ, by rw [ht]; exact hH, by rw [ht]; exact hS.1⟩
    have hlocks : meth.locks = false := E.2.2.2.2.2.2.1
    refine W.widen (k := mc) (n := ms) h1 h2 ?_
    rcases hk with ⟨v, ty, rfl, rfl, g1, g2, g3⟩ | ⟨v, rfl, rfl, g1, g3⟩ | ⟨v, n, rfl, rfl, g1, g2, g3⟩ | ⟨rfl, rfl, g1, g3⟩
    · exact W.zret E.1 E.2.1 (E.2.2.2.2.2.1.trans g1) g2 fin hS.2.2 g3
    · exact W.lret E.1 E.2.1 (E.2.2.2.2.2.1.trans g1) fin hS.2.2 g3
    · exact W.aret E.1 E.2.1 (E.2.2.2.2.2.1.trans g1) (Or.inl ⟨n, rfl⟩) g2 fin hS.2.2 g3
    · exact W.vret E.1 E.2.1 (E.2.2.2.2.2.1.trans g1) fin hS.2.2 g3
/-! runs -/
def q_stop (ps : List Nat) (pc : Nat) : Bool := match ps with
  | [] => false
  | q :: r => if pc = q then true else q_stop r pc
def q_run (t : Nat → qP) (ps : List Nat) (B : qB) : Nat → qKt
  | 0, pc, l, st, M, cs, ss => B.1 pc l st M cs ss
  | n + 1, pc, l, st, M, cs, ss => t pc l st M cs ss B (fun pc' l' st' M' cs' ss' => if q_stop ps pc' = true then B.1 pc' l' st' M' cs' ss' else q_run t ps B n pc' l' st' M' cs' ss')
def q_Snd (mi : qMI) (t : Nat → qP) : Prop := ∀ pc, q_Ok mi pc (t pc)
theorem q_run_Y {mi : qMI} {t : Nat → qP} (hs : q_Snd mi t) (ps : List Nat) {G : qC} {L : Launch} {R : Room} {Z : State → Prop} {p : Program} {e : Env} {σ : State} {m : MethodId} {args : Array Value} {below : List Frame} {meth : Method} {c : Code} (E : q_Ev G mi p σ m args meth c) {B : qB} (hB : q_BOk G L R mi Z p e σ m args below meth c B) :
    ∀ (n pc : Nat) (l : qLv) (st : List Value) (M : qM) (cs ss : Nat), q_run t ps B n pc l st M cs ss → q_Y G L R mi Z p e σ m args below meth c pc l st M cs ss
  | 0, _, _, _, _, _, _, h => hB.1 _ _ _ _ _ _ h
  | n + 1, pc, l, st, M, cs, ss, h => hs pc G L R Z p e σ m args below meth c E B hB _ (fun pc' l' st' M' cs' ss' g => by
      by_cases hq : q_stop ps pc' = true
      · rw [if_pos hq] at g; exact hB.1 _ _ _ _ _ _ g
      · rw [if_neg hq] at g; exact q_run_Y hs ps E hB n pc' l' st' M' cs' ss' g) l st M cs ss h
theorem q_X.run {G : qC} {L : Launch} {d : Nat} {mi : qMI} {mc ms : Nat} {Q : Option Value → qM → Prop} {t : Nat → qP} (hs : q_Snd mi t) (ps : List Nat) (n : Nat) {pc : Nat} {l : qLv} {st : List Value} {M : qM} {cs ss : Nat} (h : q_run t ps (q_bx G L d mi mc ms Q) n pc l st M cs ss) : q_X G L d mi mc ms Q pc l st M cs ss :=
  fun _ _ _ _ _ _ _ _ E => q_run_Y hs ps E (q_bx_ok E) n pc l st M cs ss h
/-- fewer locals, in any order -/
theorem q_X.lv {G : qC} {L : Launch} {d : Nat} {mi : qMI} {mc ms : Nat} {Q : Option Value → qM → Prop} {pc : Nat} {l : qLv} {st : List Value} {M : qM} {cs ss : Nat} (l' : qLv) (hl : ∀ q ∈ l', q_lg l q.1 = some q.2) (h : q_X G L d mi mc ms Q pc l' st M cs ss) : q_X G L d mi mc ms Q pc l st M cs ss :=
  fun p e σ m args below meth c E H locs ls g1 g2 g3 => h p e σ m args below meth c E H locs ls ⟨g1.1, g1.2.1, fun q hq => q_lg_at g1 (hl q hq)⟩ g2 g3
/-- what the memory always is -/
theorem q_X.mem {G : qC} {L : Launch} {d : Nat} {mi : qMI} {mc ms : Nat} {Q : Option Value → qM → Prop} {pc : Nat} {l : qLv} {st : List Value} {M : qM} {cs ss : Nat} (h : (M.2 G.2.2.2.1 = some q_roO ∧ M.2 G.2.2.2.2 = some q_roW) → (∀ a e, M.2 a = some e → a < M.1) → q_X G L d mi mc ms Q pc l st M cs ss) : q_X G L d mi mc ms Q pc l st M cs ss :=
  fun p e σ m args below meth c E H locs ls g1 g2 g3 => h g2.2.2.2.1 (fun _ _ ha => g2.lt ha) p e σ m args below meth c E H locs ls g1 g2 g3
/-- a weaker end -/
theorem q_X.mono {G : qC} {L : Launch} {d : Nat} {mi : qMI} {mc ms : Nat} {Q Q' : Option Value → qM → Prop} {pc : Nat} {l : qLv} {st : List Value} {M : qM} {cs ss : Nat} (hQ : ∀ r M, Q r M → Q' r M) (h : q_X G L d mi mc ms Q pc l st M cs ss) : q_X G L d mi mc ms Q' pc l st M cs ss := by
  intro p e σ m args below meth c E H locs ls g1 g2 g3 T hT Xs
  obtain ⟨t, a, o, b1, b2, ⟨r, M', e1, e2, e3, e4⟩, b4⟩ := h p e σ m args below meth c E H locs ls g1 g2 g3 T hT Xs
  exact ⟨t, a, o, b1, b2, ⟨r, M', e1, hQ _ _ e2, e3, e4⟩, b4⟩
end
