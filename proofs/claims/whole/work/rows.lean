section
-- ===== PART A: goes FIRST, ahead of the names: the tables' words, and 'selects' of the private methods out of them =====
/-- a private method of a class that the tables say can be made, by its rows of tables_1 -/
def lw_okq (q : MethodName × Nat) : Prop := (q.1.cls ≠ "java/lang/invoke/MethodHandle" ∧ q.1.cls ≠ "java/lang/invoke/VarHandle") ∧ Cond.instantiable q.1.cls q.2 ∈ tables_1 ∧ Cond.privateMethod q.1 ∈ tables_1 ∧ Cond.instanceMethod q.1 ∈ tables_1
theorem lw_p0 : lw_okq (⟨"ShownPatterns$Reader", "put", "(I)V"⟩, 7) := ⟨⟨by decide +kernel, by decide +kernel⟩, List.mem_of_getElem? (i := 29) (by decide +kernel), List.mem_of_getElem? (i := 221) (by decide +kernel), List.mem_of_getElem? (i := 222) (by decide +kernel)⟩
theorem lw_p1 : lw_okq (⟨"ShownPatterns", "placeAt", "(I)LShownPatterns$Nodes;"⟩, 11) := ⟨⟨by decide +kernel, by decide +kernel⟩, List.mem_of_getElem? (i := 19) (by decide +kernel), List.mem_of_getElem? (i := 229) (by decide +kernel), List.mem_of_getElem? (i := 230) (by decide +kernel)⟩
theorem lw_p2 : lw_okq (⟨"ShownPatterns$Reader", "readChoice", "(I)I"⟩, 7) := ⟨⟨by decide +kernel, by decide +kernel⟩, List.mem_of_getElem? (i := 29) (by decide +kernel), List.mem_of_getElem? (i := 241) (by decide +kernel), List.mem_of_getElem? (i := 242) (by decide +kernel)⟩
theorem lw_p3 : lw_okq (⟨"ShownPatterns$Reader", "readChain", "(I)I"⟩, 7) := ⟨⟨by decide +kernel, by decide +kernel⟩, List.mem_of_getElem? (i := 29) (by decide +kernel), List.mem_of_getElem? (i := 245) (by decide +kernel), List.mem_of_getElem? (i := 246) (by decide +kernel)⟩
theorem lw_p4 : lw_okq (⟨"ShownPatterns$Reader", "readRepeats", "(I)I"⟩, 7) := ⟨⟨by decide +kernel, by decide +kernel⟩, List.mem_of_getElem? (i := 29) (by decide +kernel), List.mem_of_getElem? (i := 249) (by decide +kernel), List.mem_of_getElem? (i := 250) (by decide +kernel)⟩
theorem lw_p5 : lw_okq (⟨"ShownPatterns$Reader", "readPart", "(I)I"⟩, 7) := ⟨⟨by decide +kernel, by decide +kernel⟩, List.mem_of_getElem? (i := 29) (by decide +kernel), List.mem_of_getElem? (i := 253) (by decide +kernel), List.mem_of_getElem? (i := 254) (by decide +kernel)⟩
theorem lw_p6 : lw_okq (⟨"ShownPatterns$Reader", "sign", "()I"⟩, 7) := ⟨⟨by decide +kernel, by decide +kernel⟩, List.mem_of_getElem? (i := 29) (by decide +kernel), List.mem_of_getElem? (i := 257) (by decide +kernel), List.mem_of_getElem? (i := 258) (by decide +kernel)⟩
theorem lw_p7 : lw_okq (⟨"ShownPatterns$Reader", "readClass", "()I"⟩, 7) := ⟨⟨by decide +kernel, by decide +kernel⟩, List.mem_of_getElem? (i := 29) (by decide +kernel), List.mem_of_getElem? (i := 268) (by decide +kernel), List.mem_of_getElem? (i := 269) (by decide +kernel)⟩
theorem lw_p8 : lw_okq (⟨"ShownPatterns$Reader", "push", "(I)V"⟩, 7) := ⟨⟨by decide +kernel, by decide +kernel⟩, List.mem_of_getElem? (i := 29) (by decide +kernel), List.mem_of_getElem? (i := 275) (by decide +kernel), List.mem_of_getElem? (i := 276) (by decide +kernel)⟩
theorem lw_p9 : lw_okq (⟨"ShownPatterns$Reader", "pop", "()I"⟩, 7) := ⟨⟨by decide +kernel, by decide +kernel⟩, List.mem_of_getElem? (i := 29) (by decide +kernel), List.mem_of_getElem? (i := 279) (by decide +kernel), List.mem_of_getElem? (i := 280) (by decide +kernel)⟩
theorem lw_p10 : lw_okq (⟨"ShownPatterns$Reader", "chain", "(II)I"⟩, 7) := ⟨⟨by decide +kernel, by decide +kernel⟩, List.mem_of_getElem? (i := 29) (by decide +kernel), List.mem_of_getElem? (i := 283) (by decide +kernel), List.mem_of_getElem? (i := 284) (by decide +kernel)⟩
theorem lw_p11 : lw_okq (⟨"ShownPatterns", "patternAt", "(I)LShownPatterns$Nodes;"⟩, 11) := ⟨⟨by decide +kernel, by decide +kernel⟩, List.mem_of_getElem? (i := 19) (by decide +kernel), List.mem_of_getElem? (i := 344) (by decide +kernel), List.mem_of_getElem? (i := 345) (by decide +kernel)⟩
theorem lw_p12 : lw_okq (⟨"ShownPatterns$Writer", "put", "(I)V"⟩, 2) := ⟨⟨by decide +kernel, by decide +kernel⟩, List.mem_of_getElem? (i := 80) (by decide +kernel), List.mem_of_getElem? (i := 359) (by decide +kernel), List.mem_of_getElem? (i := 360) (by decide +kernel)⟩
theorem lw_p13 : lw_okq (⟨"ShownPatterns$Writer", "putClass", "(I)V"⟩, 2) := ⟨⟨by decide +kernel, by decide +kernel⟩, List.mem_of_getElem? (i := 80) (by decide +kernel), List.mem_of_getElem? (i := 363) (by decide +kernel), List.mem_of_getElem? (i := 364) (by decide +kernel)⟩
theorem lw_p14 : lw_okq (⟨"ShownPatterns", "theCatalogue", "()LShownPatterns$Catalogue;"⟩, 11) := ⟨⟨by decide +kernel, by decide +kernel⟩, List.mem_of_getElem? (i := 19) (by decide +kernel), List.mem_of_getElem? (i := 388) (by decide +kernel), List.mem_of_getElem? (i := 389) (by decide +kernel)⟩
theorem lw_p15 : lw_okq (⟨"ShownPatterns$Catalogue", "addLeaves", "(IIII)V"⟩, 5) := ⟨⟨by decide +kernel, by decide +kernel⟩, List.mem_of_getElem? (i := 392) (by decide +kernel), List.mem_of_getElem? (i := 401) (by decide +kernel), List.mem_of_getElem? (i := 402) (by decide +kernel)⟩
def lw_privs_1 : List (MethodName × Nat) := [(⟨"ShownPatterns$Reader", "put", "(I)V"⟩, 7), (⟨"ShownPatterns", "placeAt", "(I)LShownPatterns$Nodes;"⟩, 11), (⟨"ShownPatterns$Reader", "readChoice", "(I)I"⟩, 7), (⟨"ShownPatterns$Reader", "readChain", "(I)I"⟩, 7), (⟨"ShownPatterns$Reader", "readRepeats", "(I)I"⟩, 7), (⟨"ShownPatterns$Reader", "readPart", "(I)I"⟩, 7), (⟨"ShownPatterns$Reader", "sign", "()I"⟩, 7), (⟨"ShownPatterns$Reader", "readClass", "()I"⟩, 7), (⟨"ShownPatterns$Reader", "push", "(I)V"⟩, 7), (⟨"ShownPatterns$Reader", "pop", "()I"⟩, 7), (⟨"ShownPatterns$Reader", "chain", "(II)I"⟩, 7), (⟨"ShownPatterns", "patternAt", "(I)LShownPatterns$Nodes;"⟩, 11), (⟨"ShownPatterns$Writer", "put", "(I)V"⟩, 2), (⟨"ShownPatterns$Writer", "putClass", "(I)V"⟩, 2), (⟨"ShownPatterns", "theCatalogue", "()LShownPatterns$Catalogue;"⟩, 11), (⟨"ShownPatterns$Catalogue", "addLeaves", "(IIII)V"⟩, 5)]
theorem lw_r1 : ∀ q ∈ lw_privs_1, lw_okq q := List.forall_mem_cons.mpr ⟨lw_p0, List.forall_mem_cons.mpr ⟨lw_p1, List.forall_mem_cons.mpr ⟨lw_p2, List.forall_mem_cons.mpr ⟨lw_p3, List.forall_mem_cons.mpr ⟨lw_p4, List.forall_mem_cons.mpr ⟨lw_p5, List.forall_mem_cons.mpr ⟨lw_p6, List.forall_mem_cons.mpr ⟨lw_p7, List.forall_mem_cons.mpr ⟨lw_p8, List.forall_mem_cons.mpr ⟨lw_p9, List.forall_mem_cons.mpr ⟨lw_p10, List.forall_mem_cons.mpr ⟨lw_p11, List.forall_mem_cons.mpr ⟨lw_p12, List.forall_mem_cons.mpr ⟨lw_p13, List.forall_mem_cons.mpr ⟨lw_p14, List.forall_mem_cons.mpr ⟨lw_p15, fun _ h => absurd h List.not_mem_nil⟩⟩⟩⟩⟩⟩⟩⟩⟩⟩⟩⟩⟩⟩⟩⟩
theorem lw_p16 : lw_okq (⟨"ShownPatterns$Catalogue", "add", "(IIII)V"⟩, 5) := ⟨⟨by decide +kernel, by decide +kernel⟩, List.mem_of_getElem? (i := 392) (by decide +kernel), List.mem_of_getElem? (i := 406) (by decide +kernel), List.mem_of_getElem? (i := 407) (by decide +kernel)⟩
theorem lw_p17 : lw_okq (⟨"ShownPatterns$Catalogue", "addPairs", "(II)V"⟩, 5) := ⟨⟨by decide +kernel, by decide +kernel⟩, List.mem_of_getElem? (i := 392) (by decide +kernel), List.mem_of_getElem? (i := 411) (by decide +kernel), List.mem_of_getElem? (i := 412) (by decide +kernel)⟩
theorem lw_p18 : lw_okq (⟨"ShownPatterns$Catalogue", "addSingles", "(II)V"⟩, 5) := ⟨⟨by decide +kernel, by decide +kernel⟩, List.mem_of_getElem? (i := 392) (by decide +kernel), List.mem_of_getElem? (i := 428) (by decide +kernel), List.mem_of_getElem? (i := 429) (by decide +kernel)⟩
theorem lw_p19 : lw_okq (⟨"ShownPatterns$Catalogue", "numberNode", "(LShownPatterns$Nodes;I)V"⟩, 5) := ⟨⟨by decide +kernel, by decide +kernel⟩, List.mem_of_getElem? (i := 392) (by decide +kernel), List.mem_of_getElem? (i := 459) (by decide +kernel), List.mem_of_getElem? (i := 460) (by decide +kernel)⟩
theorem lw_p20 : lw_okq (⟨"ShownPatterns$Catalogue", "numberAmong", "(IIII)I"⟩, 5) := ⟨⟨by decide +kernel, by decide +kernel⟩, List.mem_of_getElem? (i := 392) (by decide +kernel), List.mem_of_getElem? (i := 467) (by decide +kernel), List.mem_of_getElem? (i := 468) (by decide +kernel)⟩
theorem lw_p21 : lw_okq (⟨"ShownPatterns$Automaton", "addNode", "(LShownPatterns$Nodes;I)V"⟩, 9) := ⟨⟨by decide +kernel, by decide +kernel⟩, List.mem_of_getElem? (i := 93) (by decide +kernel), List.mem_of_getElem? (i := 501) (by decide +kernel), List.mem_of_getElem? (i := 502) (by decide +kernel)⟩
theorem lw_p22 : lw_okq (⟨"ShownPatterns$Automaton", "addLeaf", "(II)V"⟩, 9) := ⟨⟨by decide +kernel, by decide +kernel⟩, List.mem_of_getElem? (i := 93) (by decide +kernel), List.mem_of_getElem? (i := 509) (by decide +kernel), List.mem_of_getElem? (i := 510) (by decide +kernel)⟩
theorem lw_p23 : lw_okq (⟨"ShownPatterns$Automaton", "follow", "(II)V"⟩, 9) := ⟨⟨by decide +kernel, by decide +kernel⟩, List.mem_of_getElem? (i := 93) (by decide +kernel), List.mem_of_getElem? (i := 513) (by decide +kernel), List.mem_of_getElem? (i := 514) (by decide +kernel)⟩
theorem lw_p24 : lw_okq (⟨"ShownPatterns$Automaton", "fillSteps", "(I)V"⟩, 9) := ⟨⟨by decide +kernel, by decide +kernel⟩, List.mem_of_getElem? (i := 93) (by decide +kernel), List.mem_of_getElem? (i := 518) (by decide +kernel), List.mem_of_getElem? (i := 519) (by decide +kernel)⟩
theorem lw_p25 : lw_okq (⟨"ShownPatterns", "partingRow", "(IIZ)I"⟩, 11) := ⟨⟨by decide +kernel, by decide +kernel⟩, List.mem_of_getElem? (i := 19) (by decide +kernel), List.mem_of_getElem? (i := 570) (by decide +kernel), List.mem_of_getElem? (i := 571) (by decide +kernel)⟩
theorem lw_p26 : lw_okq (⟨"ShownPatterns$Pairs", "reach", "(II)V"⟩, 3) := ⟨⟨by decide +kernel, by decide +kernel⟩, List.mem_of_getElem? (i := 574) (by decide +kernel), List.mem_of_getElem? (i := 595) (by decide +kernel), List.mem_of_getElem? (i := 596) (by decide +kernel)⟩
theorem lw_p27 : lw_okq (⟨"ShownPatterns$Pairs", "rowTo", "(I)I"⟩, 3) := ⟨⟨by decide +kernel, by decide +kernel⟩, List.mem_of_getElem? (i := 574) (by decide +kernel), List.mem_of_getElem? (i := 599) (by decide +kernel), List.mem_of_getElem? (i := 600) (by decide +kernel)⟩
theorem lw_p28 : lw_okq (⟨"ShownPatterns", "agreesWith", "(LShownPatterns$Nodes;I)Z"⟩, 11) := ⟨⟨by decide +kernel, by decide +kernel⟩, List.mem_of_getElem? (i := 19) (by decide +kernel), List.mem_of_getElem? (i := 644) (by decide +kernel), List.mem_of_getElem? (i := 645) (by decide +kernel)⟩
theorem lw_p29 : lw_okq (⟨"ShownPatterns$Spans", "spanOf", "(III)J"⟩, 2) := ⟨⟨by decide +kernel, by decide +kernel⟩, List.mem_of_getElem? (i := 138) (by decide +kernel), List.mem_of_getElem? (i := 670) (by decide +kernel), List.mem_of_getElem? (i := 671) (by decide +kernel)⟩
theorem lw_p30 : lw_okq (⟨"ShownPatterns$Spans", "ofClass", "(I)J"⟩, 2) := ⟨⟨by decide +kernel, by decide +kernel⟩, List.mem_of_getElem? (i := 138) (by decide +kernel), List.mem_of_getElem? (i := 674) (by decide +kernel), List.mem_of_getElem? (i := 675) (by decide +kernel)⟩
theorem lw_p31 : lw_okq (⟨"ShownPatterns", "theFinder", "()LShownPatterns$Finder;"⟩, 11) := ⟨⟨by decide +kernel, by decide +kernel⟩, List.mem_of_getElem? (i := 19) (by decide +kernel), List.mem_of_getElem? (i := 727) (by decide +kernel), List.mem_of_getElem? (i := 728) (by decide +kernel)⟩
def lw_privs_2 : List (MethodName × Nat) := [(⟨"ShownPatterns$Catalogue", "add", "(IIII)V"⟩, 5), (⟨"ShownPatterns$Catalogue", "addPairs", "(II)V"⟩, 5), (⟨"ShownPatterns$Catalogue", "addSingles", "(II)V"⟩, 5), (⟨"ShownPatterns$Catalogue", "numberNode", "(LShownPatterns$Nodes;I)V"⟩, 5), (⟨"ShownPatterns$Catalogue", "numberAmong", "(IIII)I"⟩, 5), (⟨"ShownPatterns$Automaton", "addNode", "(LShownPatterns$Nodes;I)V"⟩, 9), (⟨"ShownPatterns$Automaton", "addLeaf", "(II)V"⟩, 9), (⟨"ShownPatterns$Automaton", "follow", "(II)V"⟩, 9), (⟨"ShownPatterns$Automaton", "fillSteps", "(I)V"⟩, 9), (⟨"ShownPatterns", "partingRow", "(IIZ)I"⟩, 11), (⟨"ShownPatterns$Pairs", "reach", "(II)V"⟩, 3), (⟨"ShownPatterns$Pairs", "rowTo", "(I)I"⟩, 3), (⟨"ShownPatterns", "agreesWith", "(LShownPatterns$Nodes;I)Z"⟩, 11), (⟨"ShownPatterns$Spans", "spanOf", "(III)J"⟩, 2), (⟨"ShownPatterns$Spans", "ofClass", "(I)J"⟩, 2), (⟨"ShownPatterns", "theFinder", "()LShownPatterns$Finder;"⟩, 11)]
theorem lw_r2 : ∀ q ∈ lw_privs_2, lw_okq q := List.forall_mem_cons.mpr ⟨lw_p16, List.forall_mem_cons.mpr ⟨lw_p17, List.forall_mem_cons.mpr ⟨lw_p18, List.forall_mem_cons.mpr ⟨lw_p19, List.forall_mem_cons.mpr ⟨lw_p20, List.forall_mem_cons.mpr ⟨lw_p21, List.forall_mem_cons.mpr ⟨lw_p22, List.forall_mem_cons.mpr ⟨lw_p23, List.forall_mem_cons.mpr ⟨lw_p24, List.forall_mem_cons.mpr ⟨lw_p25, List.forall_mem_cons.mpr ⟨lw_p26, List.forall_mem_cons.mpr ⟨lw_p27, List.forall_mem_cons.mpr ⟨lw_p28, List.forall_mem_cons.mpr ⟨lw_p29, List.forall_mem_cons.mpr ⟨lw_p30, List.forall_mem_cons.mpr ⟨lw_p31, fun _ h => absurd h List.not_mem_nil⟩⟩⟩⟩⟩⟩⟩⟩⟩⟩⟩⟩⟩⟩⟩⟩
theorem lw_p32 : lw_okq (⟨"ShownPatterns$Meanings", "load", "(I[I)V"⟩, 6) := ⟨⟨by decide +kernel, by decide +kernel⟩, List.mem_of_getElem? (i := 737) (by decide +kernel), List.mem_of_getElem? (i := 776) (by decide +kernel), List.mem_of_getElem? (i := 777) (by decide +kernel)⟩
theorem lw_p33 : lw_okq (⟨"ShownPatterns$Meanings", "wordOf", "(II)I"⟩, 6) := ⟨⟨by decide +kernel, by decide +kernel⟩, List.mem_of_getElem? (i := 737) (by decide +kernel), List.mem_of_getElem? (i := 780) (by decide +kernel), List.mem_of_getElem? (i := 781) (by decide +kernel)⟩
theorem lw_p34 : lw_okq (⟨"ShownPatterns$Meanings", "addJoined", "()V"⟩, 6) := ⟨⟨by decide +kernel, by decide +kernel⟩, List.mem_of_getElem? (i := 737) (by decide +kernel), List.mem_of_getElem? (i := 784) (by decide +kernel), List.mem_of_getElem? (i := 785) (by decide +kernel)⟩
theorem lw_p35 : lw_okq (⟨"ShownPatterns$Meanings", "repeat", "()V"⟩, 6) := ⟨⟨by decide +kernel, by decide +kernel⟩, List.mem_of_getElem? (i := 737) (by decide +kernel), List.mem_of_getElem? (i := 791) (by decide +kernel), List.mem_of_getElem? (i := 792) (by decide +kernel)⟩
theorem lw_p36 : lw_okq (⟨"ShownPatterns$Meanings", "keep", "()I"⟩, 6) := ⟨⟨by decide +kernel, by decide +kernel⟩, List.mem_of_getElem? (i := 737) (by decide +kernel), List.mem_of_getElem? (i := 798) (by decide +kernel), List.mem_of_getElem? (i := 799) (by decide +kernel)⟩
theorem lw_p37 : lw_okq (⟨"ShownPatterns$Meanings", "keepNew", "()I"⟩, 6) := ⟨⟨by decide +kernel, by decide +kernel⟩, List.mem_of_getElem? (i := 737) (by decide +kernel), List.mem_of_getElem? (i := 803) (by decide +kernel), List.mem_of_getElem? (i := 804) (by decide +kernel)⟩
theorem lw_p38 : lw_okq (⟨"ShownPatterns$Meanings", "isMade", "(I)Z"⟩, 6) := ⟨⟨by decide +kernel, by decide +kernel⟩, List.mem_of_getElem? (i := 737) (by decide +kernel), List.mem_of_getElem? (i := 807) (by decide +kernel), List.mem_of_getElem? (i := 808) (by decide +kernel)⟩
theorem lw_p39 : lw_okq (⟨"ShownPatterns$Finder", "meaningAt", "(I)I"⟩, 17) := ⟨⟨by decide +kernel, by decide +kernel⟩, List.mem_of_getElem? (i := 731) (by decide +kernel), List.mem_of_getElem? (i := 811) (by decide +kernel), List.mem_of_getElem? (i := 812) (by decide +kernel)⟩
theorem lw_p40 : lw_okq (⟨"ShownPatterns$Finder", "judgeNew", "()V"⟩, 17) := ⟨⟨by decide +kernel, by decide +kernel⟩, List.mem_of_getElem? (i := 731) (by decide +kernel), List.mem_of_getElem? (i := 876) (by decide +kernel), List.mem_of_getElem? (i := 877) (by decide +kernel)⟩
theorem lw_p41 : lw_okq (⟨"ShownPatterns$Finder", "isOfKinds", "(II)Z"⟩, 17) := ⟨⟨by decide +kernel, by decide +kernel⟩, List.mem_of_getElem? (i := 731) (by decide +kernel), List.mem_of_getElem? (i := 887) (by decide +kernel), List.mem_of_getElem? (i := 888) (by decide +kernel)⟩
theorem lw_p42 : lw_okq (⟨"ShownPatterns$Finder", "against", "(I)I"⟩, 17) := ⟨⟨by decide +kernel, by decide +kernel⟩, List.mem_of_getElem? (i := 731) (by decide +kernel), List.mem_of_getElem? (i := 892) (by decide +kernel), List.mem_of_getElem? (i := 893) (by decide +kernel)⟩
theorem lw_p43 : lw_okq (⟨"ShownPatterns", "putFound", "(LShownPatterns$Nodes;I)I"⟩, 11) := ⟨⟨by decide +kernel, by decide +kernel⟩, List.mem_of_getElem? (i := 19) (by decide +kernel), List.mem_of_getElem? (i := 900) (by decide +kernel), List.mem_of_getElem? (i := 901) (by decide +kernel)⟩
theorem lw_p44 : lw_okq (⟨"ShownPatterns$Finder", "countRows", "()V"⟩, 17) := ⟨⟨by decide +kernel, by decide +kernel⟩, List.mem_of_getElem? (i := 731) (by decide +kernel), List.mem_of_getElem? (i := 937) (by decide +kernel), List.mem_of_getElem? (i := 938) (by decide +kernel)⟩
theorem lw_p45 : lw_okq (⟨"ShownPatterns$Finder", "addRows", "(I)V"⟩, 17) := ⟨⟨by decide +kernel, by decide +kernel⟩, List.mem_of_getElem? (i := 731) (by decide +kernel), List.mem_of_getElem? (i := 946) (by decide +kernel), List.mem_of_getElem? (i := 947) (by decide +kernel)⟩
theorem lw_p46 : lw_okq (⟨"ShownPatterns", "patternsInPlaces", "()I"⟩, 11) := ⟨⟨by decide +kernel, by decide +kernel⟩, List.mem_of_getElem? (i := 19) (by decide +kernel), List.mem_of_getElem? (i := 985) (by decide +kernel), List.mem_of_getElem? (i := 986) (by decide +kernel)⟩
theorem lw_p47 : lw_okq (⟨"ShownPatternsModel", "either", "()I"⟩, 58) := ⟨⟨by decide +kernel, by decide +kernel⟩, List.mem_of_getElem? (i := 999) (by decide +kernel), List.mem_of_getElem? (i := 1195) (by decide +kernel), List.mem_of_getElem? (i := 1196) (by decide +kernel)⟩
def lw_privs_3 : List (MethodName × Nat) := [(⟨"ShownPatterns$Meanings", "load", "(I[I)V"⟩, 6), (⟨"ShownPatterns$Meanings", "wordOf", "(II)I"⟩, 6), (⟨"ShownPatterns$Meanings", "addJoined", "()V"⟩, 6), (⟨"ShownPatterns$Meanings", "repeat", "()V"⟩, 6), (⟨"ShownPatterns$Meanings", "keep", "()I"⟩, 6), (⟨"ShownPatterns$Meanings", "keepNew", "()I"⟩, 6), (⟨"ShownPatterns$Meanings", "isMade", "(I)Z"⟩, 6), (⟨"ShownPatterns$Finder", "meaningAt", "(I)I"⟩, 17), (⟨"ShownPatterns$Finder", "judgeNew", "()V"⟩, 17), (⟨"ShownPatterns$Finder", "isOfKinds", "(II)Z"⟩, 17), (⟨"ShownPatterns$Finder", "against", "(I)I"⟩, 17), (⟨"ShownPatterns", "putFound", "(LShownPatterns$Nodes;I)I"⟩, 11), (⟨"ShownPatterns$Finder", "countRows", "()V"⟩, 17), (⟨"ShownPatterns$Finder", "addRows", "(I)V"⟩, 17), (⟨"ShownPatterns", "patternsInPlaces", "()I"⟩, 11), (⟨"ShownPatternsModel", "either", "()I"⟩, 58)]
theorem lw_r3 : ∀ q ∈ lw_privs_3, lw_okq q := List.forall_mem_cons.mpr ⟨lw_p32, List.forall_mem_cons.mpr ⟨lw_p33, List.forall_mem_cons.mpr ⟨lw_p34, List.forall_mem_cons.mpr ⟨lw_p35, List.forall_mem_cons.mpr ⟨lw_p36, List.forall_mem_cons.mpr ⟨lw_p37, List.forall_mem_cons.mpr ⟨lw_p38, List.forall_mem_cons.mpr ⟨lw_p39, List.forall_mem_cons.mpr ⟨lw_p40, List.forall_mem_cons.mpr ⟨lw_p41, List.forall_mem_cons.mpr ⟨lw_p42, List.forall_mem_cons.mpr ⟨lw_p43, List.forall_mem_cons.mpr ⟨lw_p44, List.forall_mem_cons.mpr ⟨lw_p45, List.forall_mem_cons.mpr ⟨lw_p46, List.forall_mem_cons.mpr ⟨lw_p47, fun _ h => absurd h List.not_mem_nil⟩⟩⟩⟩⟩⟩⟩⟩⟩⟩⟩⟩⟩⟩⟩⟩
theorem lw_p48 : lw_okq (⟨"ShownPatternsModel", "row0", "()I"⟩, 58) := ⟨⟨by decide +kernel, by decide +kernel⟩, List.mem_of_getElem? (i := 999) (by decide +kernel), List.mem_of_getElem? (i := 1199) (by decide +kernel), List.mem_of_getElem? (i := 1200) (by decide +kernel)⟩
theorem lw_p49 : lw_okq (⟨"ShownPatternsModel", "repeated", "()I"⟩, 58) := ⟨⟨by decide +kernel, by decide +kernel⟩, List.mem_of_getElem? (i := 999) (by decide +kernel), List.mem_of_getElem? (i := 1203) (by decide +kernel), List.mem_of_getElem? (i := 1204) (by decide +kernel)⟩
theorem lw_p50 : lw_okq (⟨"ShownPatternsModel", "base", "()I"⟩, 58) := ⟨⟨by decide +kernel, by decide +kernel⟩, List.mem_of_getElem? (i := 999) (by decide +kernel), List.mem_of_getElem? (i := 1207) (by decide +kernel), List.mem_of_getElem? (i := 1208) (by decide +kernel)⟩
theorem lw_p51 : lw_okq (⟨"ShownPatternsModel", "look", "()I"⟩, 58) := ⟨⟨by decide +kernel, by decide +kernel⟩, List.mem_of_getElem? (i := 999) (by decide +kernel), List.mem_of_getElem? (i := 1211) (by decide +kernel), List.mem_of_getElem? (i := 1212) (by decide +kernel)⟩
theorem lw_p52 : lw_okq (⟨"ShownPatternsModel", "make", "(IIII)I"⟩, 58) := ⟨⟨by decide +kernel, by decide +kernel⟩, List.mem_of_getElem? (i := 999) (by decide +kernel), List.mem_of_getElem? (i := 1215) (by decide +kernel), List.mem_of_getElem? (i := 1216) (by decide +kernel)⟩
theorem lw_p53 : lw_okq (⟨"ShownPatternsModel", "lays", "(IIIII)V"⟩, 58) := ⟨⟨by decide +kernel, by decide +kernel⟩, List.mem_of_getElem? (i := 999) (by decide +kernel), List.mem_of_getElem? (i := 1219) (by decide +kernel), List.mem_of_getElem? (i := 1220) (by decide +kernel)⟩
theorem lw_p54 : lw_okq (⟨"ShownPatternsModel", "set", "()I"⟩, 58) := ⟨⟨by decide +kernel, by decide +kernel⟩, List.mem_of_getElem? (i := 999) (by decide +kernel), List.mem_of_getElem? (i := 1226) (by decide +kernel), List.mem_of_getElem? (i := 1227) (by decide +kernel)⟩
theorem lw_p55 : lw_okq (⟨"ShownPatternsModel", "wrong", "()I"⟩, 58) := ⟨⟨by decide +kernel, by decide +kernel⟩, List.mem_of_getElem? (i := 999) (by decide +kernel), List.mem_of_getElem? (i := 1230) (by decide +kernel), List.mem_of_getElem? (i := 1231) (by decide +kernel)⟩
theorem lw_p56 : lw_okq (⟨"ShownPatternsModel", "begins", "()Z"⟩, 58) := ⟨⟨by decide +kernel, by decide +kernel⟩, List.mem_of_getElem? (i := 999) (by decide +kernel), List.mem_of_getElem? (i := 1234) (by decide +kernel), List.mem_of_getElem? (i := 1235) (by decide +kernel)⟩
theorem lw_p57 : lw_okq (⟨"ShownPatternsModel", "joined", "(II)I"⟩, 58) := ⟨⟨by decide +kernel, by decide +kernel⟩, List.mem_of_getElem? (i := 999) (by decide +kernel), List.mem_of_getElem? (i := 1238) (by decide +kernel), List.mem_of_getElem? (i := 1239) (by decide +kernel)⟩
theorem lw_p58 : lw_okq (⟨"ShownPatternsModel", "put", "(II)V"⟩, 58) := ⟨⟨by decide +kernel, by decide +kernel⟩, List.mem_of_getElem? (i := 999) (by decide +kernel), List.mem_of_getElem? (i := 1242) (by decide +kernel), List.mem_of_getElem? (i := 1243) (by decide +kernel)⟩
theorem lw_p59 : lw_okq (⟨"ShownPatternsModel", "flatten", "(I)V"⟩, 58) := ⟨⟨by decide +kernel, by decide +kernel⟩, List.mem_of_getElem? (i := 999) (by decide +kernel), List.mem_of_getElem? (i := 1246) (by decide +kernel), List.mem_of_getElem? (i := 1247) (by decide +kernel)⟩
theorem lw_p60 : lw_okq (⟨"ShownPatternsModel", "has", "(I)Z"⟩, 58) := ⟨⟨by decide +kernel, by decide +kernel⟩, List.mem_of_getElem? (i := 999) (by decide +kernel), List.mem_of_getElem? (i := 1254) (by decide +kernel), List.mem_of_getElem? (i := 1255) (by decide +kernel)⟩
theorem lw_p61 : lw_okq (⟨"ShownPatternsModel", "treeOf", "(I)I"⟩, 58) := ⟨⟨by decide +kernel, by decide +kernel⟩, List.mem_of_getElem? (i := 999) (by decide +kernel), List.mem_of_getElem? (i := 1258) (by decide +kernel), List.mem_of_getElem? (i := 1259) (by decide +kernel)⟩
theorem lw_p62 : lw_okq (⟨"ShownPatternsModel", "grow", "()I"⟩, 58) := ⟨⟨by decide +kernel, by decide +kernel⟩, List.mem_of_getElem? (i := 999) (by decide +kernel), List.mem_of_getElem? (i := 1262) (by decide +kernel), List.mem_of_getElem? (i := 1263) (by decide +kernel)⟩
theorem lw_p63 : lw_okq (⟨"ShownPatternsModel", "say0", "(I)V"⟩, 58) := ⟨⟨by decide +kernel, by decide +kernel⟩, List.mem_of_getElem? (i := 999) (by decide +kernel), List.mem_of_getElem? (i := 1266) (by decide +kernel), List.mem_of_getElem? (i := 1267) (by decide +kernel)⟩
def lw_privs_4 : List (MethodName × Nat) := [(⟨"ShownPatternsModel", "row0", "()I"⟩, 58), (⟨"ShownPatternsModel", "repeated", "()I"⟩, 58), (⟨"ShownPatternsModel", "base", "()I"⟩, 58), (⟨"ShownPatternsModel", "look", "()I"⟩, 58), (⟨"ShownPatternsModel", "make", "(IIII)I"⟩, 58), (⟨"ShownPatternsModel", "lays", "(IIIII)V"⟩, 58), (⟨"ShownPatternsModel", "set", "()I"⟩, 58), (⟨"ShownPatternsModel", "wrong", "()I"⟩, 58), (⟨"ShownPatternsModel", "begins", "()Z"⟩, 58), (⟨"ShownPatternsModel", "joined", "(II)I"⟩, 58), (⟨"ShownPatternsModel", "put", "(II)V"⟩, 58), (⟨"ShownPatternsModel", "flatten", "(I)V"⟩, 58), (⟨"ShownPatternsModel", "has", "(I)Z"⟩, 58), (⟨"ShownPatternsModel", "treeOf", "(I)I"⟩, 58), (⟨"ShownPatternsModel", "grow", "()I"⟩, 58), (⟨"ShownPatternsModel", "say0", "(I)V"⟩, 58)]
theorem lw_r4 : ∀ q ∈ lw_privs_4, lw_okq q := List.forall_mem_cons.mpr ⟨lw_p48, List.forall_mem_cons.mpr ⟨lw_p49, List.forall_mem_cons.mpr ⟨lw_p50, List.forall_mem_cons.mpr ⟨lw_p51, List.forall_mem_cons.mpr ⟨lw_p52, List.forall_mem_cons.mpr ⟨lw_p53, List.forall_mem_cons.mpr ⟨lw_p54, List.forall_mem_cons.mpr ⟨lw_p55, List.forall_mem_cons.mpr ⟨lw_p56, List.forall_mem_cons.mpr ⟨lw_p57, List.forall_mem_cons.mpr ⟨lw_p58, List.forall_mem_cons.mpr ⟨lw_p59, List.forall_mem_cons.mpr ⟨lw_p60, List.forall_mem_cons.mpr ⟨lw_p61, List.forall_mem_cons.mpr ⟨lw_p62, List.forall_mem_cons.mpr ⟨lw_p63, fun _ h => absurd h List.not_mem_nil⟩⟩⟩⟩⟩⟩⟩⟩⟩⟩⟩⟩⟩⟩⟩⟩
theorem lw_p64 : lw_okq (⟨"ShownPatternsModel", "sign", "(I)V"⟩, 58) := ⟨⟨by decide +kernel, by decide +kernel⟩, List.mem_of_getElem? (i := 999) (by decide +kernel), List.mem_of_getElem? (i := 1270) (by decide +kernel), List.mem_of_getElem? (i := 1271) (by decide +kernel)⟩
theorem lw_p65 : lw_okq (⟨"ShownPatternsModel", "sayIn", "(IZ)V"⟩, 58) := ⟨⟨by decide +kernel, by decide +kernel⟩, List.mem_of_getElem? (i := 999) (by decide +kernel), List.mem_of_getElem? (i := 1274) (by decide +kernel), List.mem_of_getElem? (i := 1275) (by decide +kernel)⟩
theorem lw_p66 : lw_okq (⟨"ShownPatternsModel", "lay", "()V"⟩, 58) := ⟨⟨by decide +kernel, by decide +kernel⟩, List.mem_of_getElem? (i := 999) (by decide +kernel), List.mem_of_getElem? (i := 1286) (by decide +kernel), List.mem_of_getElem? (i := 1287) (by decide +kernel)⟩
theorem lw_p67 : lw_okq (⟨"ShownPatternsModel", "add", "(IIII)V"⟩, 58) := ⟨⟨by decide +kernel, by decide +kernel⟩, List.mem_of_getElem? (i := 999) (by decide +kernel), List.mem_of_getElem? (i := 1290) (by decide +kernel), List.mem_of_getElem? (i := 1291) (by decide +kernel)⟩
theorem lw_p68 : lw_okq (⟨"ShownPatternsModel", "find0", "(I)I"⟩, 58) := ⟨⟨by decide +kernel, by decide +kernel⟩, List.mem_of_getElem? (i := 999) (by decide +kernel), List.mem_of_getElem? (i := 1294) (by decide +kernel), List.mem_of_getElem? (i := 1295) (by decide +kernel)⟩
theorem lw_p69 : lw_okq (⟨"ShownPatternsModel", "take", "(II)Z"⟩, 58) := ⟨⟨by decide +kernel, by decide +kernel⟩, List.mem_of_getElem? (i := 999) (by decide +kernel), List.mem_of_getElem? (i := 1306) (by decide +kernel), List.mem_of_getElem? (i := 1307) (by decide +kernel)⟩
theorem lw_p70 : lw_okq (⟨"ShownPatternsModel", "isFit", "(I)Z"⟩, 58) := ⟨⟨by decide +kernel, by decide +kernel⟩, List.mem_of_getElem? (i := 999) (by decide +kernel), List.mem_of_getElem? (i := 1310) (by decide +kernel), List.mem_of_getElem? (i := 1311) (by decide +kernel)⟩
theorem lw_p71 : lw_okq (⟨"ShownPatternsModel", "ends", "(II)I"⟩, 58) := ⟨⟨by decide +kernel, by decide +kernel⟩, List.mem_of_getElem? (i := 999) (by decide +kernel), List.mem_of_getElem? (i := 1314) (by decide +kernel), List.mem_of_getElem? (i := 1315) (by decide +kernel)⟩
theorem lw_p72 : lw_okq (⟨"ShownPatternsModel", "behind", "(II)I"⟩, 58) := ⟨⟨by decide +kernel, by decide +kernel⟩, List.mem_of_getElem? (i := 999) (by decide +kernel), List.mem_of_getElem? (i := 1318) (by decide +kernel), List.mem_of_getElem? (i := 1319) (by decide +kernel)⟩
theorem lw_p73 : lw_okq (⟨"ShownPatternsModel", "again", "(II)I"⟩, 58) := ⟨⟨by decide +kernel, by decide +kernel⟩, List.mem_of_getElem? (i := 999) (by decide +kernel), List.mem_of_getElem? (i := 1322) (by decide +kernel), List.mem_of_getElem? (i := 1323) (by decide +kernel)⟩
theorem lw_p74 : lw_okq (⟨"ShownPatternsModel", "outOf", "(I)I"⟩, 58) := ⟨⟨by decide +kernel, by decide +kernel⟩, List.mem_of_getElem? (i := 999) (by decide +kernel), List.mem_of_getElem? (i := 1330) (by decide +kernel), List.mem_of_getElem? (i := 1331) (by decide +kernel)⟩
theorem lw_p75 : lw_okq (⟨"ShownPatternsModel", "countWays", "(II)V"⟩, 58) := ⟨⟨by decide +kernel, by decide +kernel⟩, List.mem_of_getElem? (i := 999) (by decide +kernel), List.mem_of_getElem? (i := 1338) (by decide +kernel), List.mem_of_getElem? (i := 1339) (by decide +kernel)⟩
theorem lw_p76 : lw_okq (⟨"ShownPatternsModel", "study0", "(II)V"⟩, 58) := ⟨⟨by decide +kernel, by decide +kernel⟩, List.mem_of_getElem? (i := 999) (by decide +kernel), List.mem_of_getElem? (i := 1342) (by decide +kernel), List.mem_of_getElem? (i := 1343) (by decide +kernel)⟩
theorem lw_p77 : lw_okq (⟨"ShownPatternsModel", "study", "(II)V"⟩, 58) := ⟨⟨by decide +kernel, by decide +kernel⟩, List.mem_of_getElem? (i := 999) (by decide +kernel), List.mem_of_getElem? (i := 1346) (by decide +kernel), List.mem_of_getElem? (i := 1347) (by decide +kernel)⟩
theorem lw_p78 : lw_okq (⟨"ShownPatternsModel", "follow", "(III)V"⟩, 58) := ⟨⟨by decide +kernel, by decide +kernel⟩, List.mem_of_getElem? (i := 999) (by decide +kernel), List.mem_of_getElem? (i := 1350) (by decide +kernel), List.mem_of_getElem? (i := 1351) (by decide +kernel)⟩
theorem lw_p79 : lw_okq (⟨"ShownPatternsModel", "ends0", "(II)Z"⟩, 58) := ⟨⟨by decide +kernel, by decide +kernel⟩, List.mem_of_getElem? (i := 999) (by decide +kernel), List.mem_of_getElem? (i := 1354) (by decide +kernel), List.mem_of_getElem? (i := 1355) (by decide +kernel)⟩
def lw_privs_5 : List (MethodName × Nat) := [(⟨"ShownPatternsModel", "sign", "(I)V"⟩, 58), (⟨"ShownPatternsModel", "sayIn", "(IZ)V"⟩, 58), (⟨"ShownPatternsModel", "lay", "()V"⟩, 58), (⟨"ShownPatternsModel", "add", "(IIII)V"⟩, 58), (⟨"ShownPatternsModel", "find0", "(I)I"⟩, 58), (⟨"ShownPatternsModel", "take", "(II)Z"⟩, 58), (⟨"ShownPatternsModel", "isFit", "(I)Z"⟩, 58), (⟨"ShownPatternsModel", "ends", "(II)I"⟩, 58), (⟨"ShownPatternsModel", "behind", "(II)I"⟩, 58), (⟨"ShownPatternsModel", "again", "(II)I"⟩, 58), (⟨"ShownPatternsModel", "outOf", "(I)I"⟩, 58), (⟨"ShownPatternsModel", "countWays", "(II)V"⟩, 58), (⟨"ShownPatternsModel", "study0", "(II)V"⟩, 58), (⟨"ShownPatternsModel", "study", "(II)V"⟩, 58), (⟨"ShownPatternsModel", "follow", "(III)V"⟩, 58), (⟨"ShownPatternsModel", "ends0", "(II)Z"⟩, 58)]
theorem lw_r5 : ∀ q ∈ lw_privs_5, lw_okq q := List.forall_mem_cons.mpr ⟨lw_p64, List.forall_mem_cons.mpr ⟨lw_p65, List.forall_mem_cons.mpr ⟨lw_p66, List.forall_mem_cons.mpr ⟨lw_p67, List.forall_mem_cons.mpr ⟨lw_p68, List.forall_mem_cons.mpr ⟨lw_p69, List.forall_mem_cons.mpr ⟨lw_p70, List.forall_mem_cons.mpr ⟨lw_p71, List.forall_mem_cons.mpr ⟨lw_p72, List.forall_mem_cons.mpr ⟨lw_p73, List.forall_mem_cons.mpr ⟨lw_p74, List.forall_mem_cons.mpr ⟨lw_p75, List.forall_mem_cons.mpr ⟨lw_p76, List.forall_mem_cons.mpr ⟨lw_p77, List.forall_mem_cons.mpr ⟨lw_p78, List.forall_mem_cons.mpr ⟨lw_p79, fun _ h => absurd h List.not_mem_nil⟩⟩⟩⟩⟩⟩⟩⟩⟩⟩⟩⟩⟩⟩⟩⟩
theorem lw_p80 : lw_okq (⟨"ShownPatternsModel", "steps", "(III)I"⟩, 58) := ⟨⟨by decide +kernel, by decide +kernel⟩, List.mem_of_getElem? (i := 999) (by decide +kernel), List.mem_of_getElem? (i := 1358) (by decide +kernel), List.mem_of_getElem? (i := 1359) (by decide +kernel)⟩
theorem lw_p81 : lw_okq (⟨"ShownPatternsModel", "findPair", "(III)I"⟩, 58) := ⟨⟨by decide +kernel, by decide +kernel⟩, List.mem_of_getElem? (i := 999) (by decide +kernel), List.mem_of_getElem? (i := 1370) (by decide +kernel), List.mem_of_getElem? (i := 1371) (by decide +kernel)⟩
theorem lw_p82 : lw_okq (⟨"ShownPatternsModel", "isShowing", "(I)Z"⟩, 58) := ⟨⟨by decide +kernel, by decide +kernel⟩, List.mem_of_getElem? (i := 999) (by decide +kernel), List.mem_of_getElem? (i := 1391) (by decide +kernel), List.mem_of_getElem? (i := 1392) (by decide +kernel)⟩
theorem lw_p83 : lw_okq (⟨"ShownPatternsModel", "agrees0", "(II)Z"⟩, 58) := ⟨⟨by decide +kernel, by decide +kernel⟩, List.mem_of_getElem? (i := 999) (by decide +kernel), List.mem_of_getElem? (i := 1399) (by decide +kernel), List.mem_of_getElem? (i := 1400) (by decide +kernel)⟩
theorem lw_p84 : lw_okq (⟨"ShownPatternsModel", "paidBy", "(I)I"⟩, 58) := ⟨⟨by decide +kernel, by decide +kernel⟩, List.mem_of_getElem? (i := 999) (by decide +kernel), List.mem_of_getElem? (i := 1407) (by decide +kernel), List.mem_of_getElem? (i := 1408) (by decide +kernel)⟩
theorem lw_p85 : lw_okq (⟨"ShownPatternsModel", "goOn", "(I)I"⟩, 58) := ⟨⟨by decide +kernel, by decide +kernel⟩, List.mem_of_getElem? (i := 999) (by decide +kernel), List.mem_of_getElem? (i := 1418) (by decide +kernel), List.mem_of_getElem? (i := 1419) (by decide +kernel)⟩
theorem lw_p86 : lw_okq (⟨"ShownPatternsModel", "isOf", "(III)Z"⟩, 58) := ⟨⟨by decide +kernel, by decide +kernel⟩, List.mem_of_getElem? (i := 999) (by decide +kernel), List.mem_of_getElem? (i := 1422) (by decide +kernel), List.mem_of_getElem? (i := 1423) (by decide +kernel)⟩
theorem lw_p87 : lw_okq (⟨"ShownPatternsModel", "agreesAll", "(I)Z"⟩, 58) := ⟨⟨by decide +kernel, by decide +kernel⟩, List.mem_of_getElem? (i := 999) (by decide +kernel), List.mem_of_getElem? (i := 1426) (by decide +kernel), List.mem_of_getElem? (i := 1427) (by decide +kernel)⟩
theorem lw_p88 : lw_okq (⟨"ShownPatternsModel", "know", "(I)V"⟩, 58) := ⟨⟨by decide +kernel, by decide +kernel⟩, List.mem_of_getElem? (i := 999) (by decide +kernel), List.mem_of_getElem? (i := 1430) (by decide +kernel), List.mem_of_getElem? (i := 1431) (by decide +kernel)⟩
theorem lw_p89 : lw_okq (⟨"ShownPatternsModel", "number", "()V"⟩, 58) := ⟨⟨by decide +kernel, by decide +kernel⟩, List.mem_of_getElem? (i := 999) (by decide +kernel), List.mem_of_getElem? (i := 1434) (by decide +kernel), List.mem_of_getElem? (i := 1435) (by decide +kernel)⟩
theorem lw_p90 : lw_okq (⟨"ShownPatternsModel", "isNew", "(I)Z"⟩, 58) := ⟨⟨by decide +kernel, by decide +kernel⟩, List.mem_of_getElem? (i := 999) (by decide +kernel), List.mem_of_getElem? (i := 1438) (by decide +kernel), List.mem_of_getElem? (i := 1439) (by decide +kernel)⟩
theorem lw_p91 : lw_okq (⟨"ShownPatternsModel", "note", "(I)V"⟩, 58) := ⟨⟨by decide +kernel, by decide +kernel⟩, List.mem_of_getElem? (i := 999) (by decide +kernel), List.mem_of_getElem? (i := 1442) (by decide +kernel), List.mem_of_getElem? (i := 1443) (by decide +kernel)⟩
theorem lw_p92 : lw_okq (⟨"ShownPatternsModel", "gather", "(II)V"⟩, 58) := ⟨⟨by decide +kernel, by decide +kernel⟩, List.mem_of_getElem? (i := 999) (by decide +kernel), List.mem_of_getElem? (i := 1458) (by decide +kernel), List.mem_of_getElem? (i := 1459) (by decide +kernel)⟩
def lw_privs_6 : List (MethodName × Nat) := [(⟨"ShownPatternsModel", "steps", "(III)I"⟩, 58), (⟨"ShownPatternsModel", "findPair", "(III)I"⟩, 58), (⟨"ShownPatternsModel", "isShowing", "(I)Z"⟩, 58), (⟨"ShownPatternsModel", "agrees0", "(II)Z"⟩, 58), (⟨"ShownPatternsModel", "paidBy", "(I)I"⟩, 58), (⟨"ShownPatternsModel", "goOn", "(I)I"⟩, 58), (⟨"ShownPatternsModel", "isOf", "(III)Z"⟩, 58), (⟨"ShownPatternsModel", "agreesAll", "(I)Z"⟩, 58), (⟨"ShownPatternsModel", "know", "(I)V"⟩, 58), (⟨"ShownPatternsModel", "number", "()V"⟩, 58), (⟨"ShownPatternsModel", "isNew", "(I)Z"⟩, 58), (⟨"ShownPatternsModel", "note", "(I)V"⟩, 58), (⟨"ShownPatternsModel", "gather", "(II)V"⟩, 58)]
theorem lw_r6 : ∀ q ∈ lw_privs_6, lw_okq q := List.forall_mem_cons.mpr ⟨lw_p80, List.forall_mem_cons.mpr ⟨lw_p81, List.forall_mem_cons.mpr ⟨lw_p82, List.forall_mem_cons.mpr ⟨lw_p83, List.forall_mem_cons.mpr ⟨lw_p84, List.forall_mem_cons.mpr ⟨lw_p85, List.forall_mem_cons.mpr ⟨lw_p86, List.forall_mem_cons.mpr ⟨lw_p87, List.forall_mem_cons.mpr ⟨lw_p88, List.forall_mem_cons.mpr ⟨lw_p89, List.forall_mem_cons.mpr ⟨lw_p90, List.forall_mem_cons.mpr ⟨lw_p91, List.forall_mem_cons.mpr ⟨lw_p92, fun _ h => absurd h List.not_mem_nil⟩⟩⟩⟩⟩⟩⟩⟩⟩⟩⟩⟩⟩
def lw_privs : List (MethodName × Nat) := lw_privs_1 ++ (lw_privs_2 ++ (lw_privs_3 ++ (lw_privs_4 ++ (lw_privs_5 ++ (lw_privs_6)))))
def lw_tbl : List Cond := k2_sels lw_privs ++ tables_1
theorem lw_privs_ok : ∀ q ∈ lw_privs, lw_okq q := by
  show ∀ q ∈ lw_privs_1 ++ (lw_privs_2 ++ (lw_privs_3 ++ (lw_privs_4 ++ (lw_privs_5 ++ (lw_privs_6))))), lw_okq q
  exact List.forall_mem_append.mpr ⟨lw_r1, List.forall_mem_append.mpr ⟨lw_r2, List.forall_mem_append.mpr ⟨lw_r3, List.forall_mem_append.mpr ⟨lw_r4, List.forall_mem_append.mpr ⟨lw_r5, lw_r6⟩⟩⟩⟩⟩
end
section
def RX0 : String := "ShownPatterns$Automaton"
def TX0 : u_T := fun k => match k with
  | 0 => ("ShownPatterns$Automaton", "empty", "[Z", true)
  | 1 => ("ShownPatterns$Automaton", "firsts", "[I", true)
  | 2 => ("ShownPatterns$Automaton", "lasts", "[I", true)
  | 3 => ("ShownPatterns$Automaton", "followers", "[I", true)
  | 4 => ("ShownPatterns$Automaton", "takers", "[I", true)
  | 5 => ("ShownPatterns$Automaton", "steps", "[I", true)
  | 6 => ("ShownPatterns$Automaton", "leaves", "I", false)
  | 7 => ("ShownPatterns$Automaton", "ends", "I", false)
  | _ => ("ShownPatterns$Automaton", "endsAtStart", "Z", false)
def tyX0 : Nat → FieldType := fun k => match k with
  | 0 => .array .boolean
  | 1 => .array .int
  | 2 => .array .int
  | 3 => .array .int
  | 4 => .array .int
  | 5 => .array .int
  | 6 => .int
  | 7 => .int
  | _ => .boolean
theorem nmX0 : ∀ a, a < 9 → ∀ b, b < 9 → a ≠ b → (TX0 a).2.1 ≠ (TX0 b).2.1 := by decide +kernel
theorem tyX0_ok : ∀ k, k < 9 → parseFieldDescriptor (TX0 k).2.2.1 = some (tyX0 k) := by decide +kernel
abbrev cX0_init : ByteArray := prog_2_method_1_code
def yX0_init : MethodName := ⟨RX0, "<init>", "()V"⟩
abbrev cX0_build : ByteArray := prog_2_method_2_code
def yX0_build : MethodName := ⟨RX0, "build", "(LShownPatterns$Nodes;)V"⟩
abbrev cX0_addNode : ByteArray := prog_2_method_3_code
def yX0_addNode : MethodName := ⟨RX0, "addNode", "(LShownPatterns$Nodes;I)V"⟩
abbrev cX0_addLeaf : ByteArray := prog_2_method_4_code
def yX0_addLeaf : MethodName := ⟨RX0, "addLeaf", "(II)V"⟩
abbrev cX0_follow : ByteArray := prog_2_method_5_code
def yX0_follow : MethodName := ⟨RX0, "follow", "(II)V"⟩
abbrev cX0_fillSteps : ByteArray := prog_2_method_6_code
def yX0_fillSteps : MethodName := ⟨RX0, "fillSteps", "(I)V"⟩
abbrev cX0_after : ByteArray := prog_2_method_7_code
def yX0_after : MethodName := ⟨RX0, "after", "(II)I"⟩
abbrev cX0_endsAt : ByteArray := prog_2_method_8_code
def yX0_endsAt : MethodName := ⟨RX0, "endsAt", "(I)Z"⟩
abbrev cX0_longestFit : ByteArray := prog_2_method_9_code
def yX0_longestFit : MethodName := ⟨RX0, "longestFit", "(III)I"⟩
def RX1 : String := "ShownPatterns$Catalogue"
def TX1 : u_T := fun k => match k with
  | 0 => ("ShownPatterns$Catalogue", "nodes", "LShownPatterns$Nodes;", true)
  | 1 => ("ShownPatterns$Catalogue", "begins", "[I", true)
  | 2 => ("ShownPatterns$Catalogue", "kinds", "[I", true)
  | 3 => ("ShownPatterns$Catalogue", "numbers", "[I", true)
  | _ => ("ShownPatterns$Catalogue", "costs", "[I", true)
def tyX1 : Nat → FieldType := fun k => match k with
  | 0 => .object "ShownPatterns$Nodes"
  | 1 => .array .int
  | 2 => .array .int
  | 3 => .array .int
  | _ => .array .int
theorem nmX1 : ∀ a, a < 5 → ∀ b, b < 5 → a ≠ b → (TX1 a).2.1 ≠ (TX1 b).2.1 := by decide +kernel
theorem tyX1_ok : ∀ k, k < 5 → parseFieldDescriptor (TX1 k).2.2.1 = some (tyX1 k) := by decide +kernel
abbrev cX1_init : ByteArray := prog_3_method_1_code
def yX1_init : MethodName := ⟨RX1, "<init>", "()V"⟩
abbrev cX1_nodes : ByteArray := prog_3_method_2_code
def yX1_nodes : MethodName := ⟨RX1, "nodes", "()LShownPatterns$Nodes;"⟩
abbrev cX1_begin : ByteArray := prog_3_method_3_code
def yX1_begin : MethodName := ⟨RX1, "begin", "(I)I"⟩
abbrev cX1_end : ByteArray := prog_3_method_4_code
def yX1_end : MethodName := ⟨RX1, "end", "(I)I"⟩
abbrev cX1_size : ByteArray := prog_3_method_5_code
def yX1_size : MethodName := ⟨RX1, "size", "(I)I"⟩
abbrev cX1_kindsOf : ByteArray := prog_3_method_6_code
def yX1_kindsOf : MethodName := ⟨RX1, "kindsOf", "(I)I"⟩
abbrev cX1_addLeaves : ByteArray := prog_3_method_7_code
def yX1_addLeaves : MethodName := ⟨RX1, "addLeaves", "(IIII)V"⟩
abbrev cX1_addPairs : ByteArray := prog_3_method_8_code
def yX1_addPairs : MethodName := ⟨RX1, "addPairs", "(II)V"⟩
abbrev cX1_addSingles : ByteArray := prog_3_method_9_code
def yX1_addSingles : MethodName := ⟨RX1, "addSingles", "(II)V"⟩
abbrev cX1_add : ByteArray := prog_3_method_10_code
def yX1_add : MethodName := ⟨RX1, "add", "(IIII)V"⟩
abbrev cX1_numberOf : ByteArray := prog_3_method_11_code
def yX1_numberOf : MethodName := ⟨RX1, "numberOf", "(LShownPatterns$Nodes;)I"⟩
abbrev cX1_numberNode : ByteArray := prog_3_method_12_code
def yX1_numberNode : MethodName := ⟨RX1, "numberNode", "(LShownPatterns$Nodes;I)V"⟩
abbrev cX1_numberAmong : ByteArray := prog_3_method_13_code
def yX1_numberAmong : MethodName := ⟨RX1, "numberAmong", "(IIII)I"⟩
def RX2 : String := "ShownPatterns$Finder"
def TX2 : u_T := fun k => match k with
  | 0 => ("ShownPatterns$Finder", "all", "LShownPatterns$Catalogue;", true)
  | 1 => ("ShownPatterns$Finder", "showings", "LShownPatterns$Showings;", true)
  | 2 => ("ShownPatterns$Finder", "meanings", "LShownPatterns$Meanings;", true)
  | 3 => ("ShownPatterns$Finder", "meaningOf", "[I", true)
  | 4 => ("ShownPatterns$Finder", "agreed", "[I", true)
  | 5 => ("ShownPatterns$Finder", "spans", "LShownPatterns$Spans;", true)
  | 6 => ("ShownPatterns$Finder", "judged", "I", false)
  | 7 => ("ShownPatterns$Finder", "metIn", "[I", true)
  | 8 => ("ShownPatterns$Finder", "counts", "I", false)
  | 9 => ("ShownPatterns$Finder", "having", "[I", true)
  | 10 => ("ShownPatterns$Finder", "haveAsked", "I", false)
  | 11 => ("ShownPatterns$Finder", "foundIn", "[I", true)
  | 12 => ("ShownPatterns$Finder", "searches", "I", false)
  | 13 => ("ShownPatterns$Finder", "kindsSought", "I", false)
  | 14 => ("ShownPatterns$Finder", "at", "I", false)
  | 15 => ("ShownPatterns$Finder", "end", "I", false)
  | _ => ("ShownPatterns$Finder", "foundHere", "I", false)
def tyX2 : Nat → FieldType := fun k => match k with
  | 0 => .object "ShownPatterns$Catalogue"
  | 1 => .object "ShownPatterns$Showings"
  | 2 => .object "ShownPatterns$Meanings"
  | 3 => .array .int
  | 4 => .array .int
  | 5 => .object "ShownPatterns$Spans"
  | 6 => .int
  | 7 => .array .int
  | 8 => .int
  | 9 => .array .int
  | 10 => .int
  | 11 => .array .int
  | 12 => .int
  | 13 => .int
  | 14 => .int
  | 15 => .int
  | _ => .int
theorem nmX2 : ∀ a, a < 17 → ∀ b, b < 17 → a ≠ b → (TX2 a).2.1 ≠ (TX2 b).2.1 := by decide +kernel
theorem tyX2_ok : ∀ k, k < 17 → parseFieldDescriptor (TX2 k).2.2.1 = some (tyX2 k) := by decide +kernel
abbrev cX2_init : ByteArray := prog_4_method_1_code
def yX2_init : MethodName := ⟨RX2, "<init>", "(LShownPatterns$Catalogue;LShownPatterns$Showings;)V"⟩
abbrev cX2_meaningAt : ByteArray := prog_4_method_2_code
def yX2_meaningAt : MethodName := ⟨RX2, "meaningAt", "(I)I"⟩
abbrev cX2_judgeNew : ByteArray := prog_4_method_3_code
def yX2_judgeNew : MethodName := ⟨RX2, "judgeNew", "()V"⟩
abbrev cX2_isOfKinds : ByteArray := prog_4_method_4_code
def yX2_isOfKinds : MethodName := ⟨RX2, "isOfKinds", "(II)Z"⟩
abbrev cX2_against : ByteArray := prog_4_method_5_code
def yX2_against : MethodName := ⟨RX2, "against", "(I)I"⟩
abbrev cX2_begin : ByteArray := prog_4_method_6_code
def yX2_begin : MethodName := ⟨RX2, "begin", "(II)V"⟩
abbrev cX2_hasBegun : ByteArray := prog_4_method_7_code
def yX2_hasBegun : MethodName := ⟨RX2, "hasBegun", "()Z"⟩
abbrev cX2_foundSoFar : ByteArray := prog_4_method_8_code
def yX2_foundSoFar : MethodName := ⟨RX2, "foundSoFar", "()I"⟩
abbrev cX2_goOn : ByteArray := prog_4_method_9_code
def yX2_goOn : MethodName := ⟨RX2, "goOn", "()I"⟩
abbrev cX2_isNew : ByteArray := prog_4_method_10_code
def yX2_isNew : MethodName := ⟨RX2, "isNew", "([III)Z"⟩
abbrev cX2_countOpen : ByteArray := prog_4_method_11_code
def yX2_countOpen : MethodName := ⟨RX2, "countOpen", "(II)I"⟩
abbrev cX2_countRows : ByteArray := prog_4_method_12_code
def yX2_countRows : MethodName := ⟨RX2, "countRows", "()V"⟩
abbrev cX2_addRows : ByteArray := prog_4_method_13_code
def yX2_addRows : MethodName := ⟨RX2, "addRows", "(I)V"⟩
abbrev cX2_evenestRow : ByteArray := prog_4_method_14_code
def yX2_evenestRow : MethodName := ⟨RX2, "evenestRow", "(II)I"⟩
abbrev cX2_rowBy : ByteArray := prog_4_method_15_code
def yX2_rowBy : MethodName := ⟨RX2, "rowBy", "(I)I"⟩
abbrev cX2_haveAskedRow : ByteArray := prog_4_method_16_code
def yX2_haveAskedRow : MethodName := ⟨RX2, "haveAskedRow", "()I"⟩
abbrev cX2_cheapest : ByteArray := prog_4_method_17_code
def yX2_cheapest : MethodName := ⟨RX2, "cheapest", "(II)I"⟩
abbrev cX2_priceOf : ByteArray := prog_4_method_18_code
def yX2_priceOf : MethodName := ⟨RX2, "priceOf", "(I)I"⟩
def RX3 : String := "ShownPatterns$Meanings"
def TX3 : u_T := fun k => match k with
  | 0 => ("ShownPatterns$Meanings", "kept", "[I", true)
  | 1 => ("ShownPatterns$Meanings", "slots", "[I", true)
  | 2 => ("ShownPatterns$Meanings", "made", "[I", true)
  | 3 => ("ShownPatterns$Meanings", "ahead", "[I", true)
  | 4 => ("ShownPatterns$Meanings", "behind", "[I", true)
  | _ => ("ShownPatterns$Meanings", "size", "I", false)
def tyX3 : Nat → FieldType := fun k => match k with
  | 0 => .array .int
  | 1 => .array .int
  | 2 => .array .int
  | 3 => .array .int
  | 4 => .array .int
  | _ => .int
theorem nmX3 : ∀ a, a < 6 → ∀ b, b < 6 → a ≠ b → (TX3 a).2.1 ≠ (TX3 b).2.1 := by decide +kernel
theorem tyX3_ok : ∀ k, k < 6 → parseFieldDescriptor (TX3 k).2.2.1 = some (tyX3 k) := by decide +kernel
abbrev cX3_init : ByteArray := prog_5_method_1_code
def yX3_init : MethodName := ⟨RX3, "<init>", "()V"⟩
abbrev cX3_size : ByteArray := prog_5_method_2_code
def yX3_size : MethodName := ⟨RX3, "size", "()I"⟩
abbrev cX3_hasRow : ByteArray := prog_5_method_3_code
def yX3_hasRow : MethodName := ⟨RX3, "hasRow", "(II)Z"⟩
abbrev cX3_wordOf : ByteArray := prog_5_method_4_code
def yX3_wordOf : MethodName := ⟨RX3, "wordOf", "(II)I"⟩
abbrev cX3_meaningOf : ByteArray := prog_5_method_5_code
def yX3_meaningOf : MethodName := ⟨RX3, "meaningOf", "(III)I"⟩
abbrev cX3_load : ByteArray := prog_5_method_6_code
def yX3_load : MethodName := ⟨RX3, "load", "(I[I)V"⟩
abbrev cX3_addAll : ByteArray := prog_5_method_7_code
def yX3_addAll : MethodName := ⟨RX3, "addAll", "([I[I)V"⟩
abbrev cX3_repeat : ByteArray := prog_5_method_8_code
def yX3_repeat : MethodName := ⟨RX3, "repeat", "()V"⟩
abbrev cX3_addJoined : ByteArray := prog_5_method_9_code
def yX3_addJoined : MethodName := ⟨RX3, "addJoined", "()V"⟩
abbrev cX3_keep : ByteArray := prog_5_method_10_code
def yX3_keep : MethodName := ⟨RX3, "keep", "()I"⟩
abbrev cX3_isMade : ByteArray := prog_5_method_11_code
def yX3_isMade : MethodName := ⟨RX3, "isMade", "(I)Z"⟩
abbrev cX3_keepNew : ByteArray := prog_5_method_12_code
def yX3_keepNew : MethodName := ⟨RX3, "keepNew", "()I"⟩
def RX4 : String := "ShownPatterns$Nodes"
def TX4 : u_T := fun k => match k with
  | 0 => ("ShownPatterns$Nodes", "kind", "[I", true)
  | 1 => ("ShownPatterns$Nodes", "left", "[I", true)
  | 2 => ("ShownPatterns$Nodes", "right", "[I", true)
  | _ => ("ShownPatterns$Nodes", "size", "I", false)
def tyX4 : Nat → FieldType := fun k => match k with
  | 0 => .array .int
  | 1 => .array .int
  | 2 => .array .int
  | _ => .int
theorem nmX4 : ∀ a, a < 4 → ∀ b, b < 4 → a ≠ b → (TX4 a).2.1 ≠ (TX4 b).2.1 := by decide +kernel
theorem tyX4_ok : ∀ k, k < 4 → parseFieldDescriptor (TX4 k).2.2.1 = some (tyX4 k) := by decide +kernel
abbrev cX4_init : ByteArray := prog_6_method_1_code
def yX4_init : MethodName := ⟨RX4, "<init>", "(I)V"⟩
abbrev cX4_size : ByteArray := prog_6_method_2_code
def yX4_size : MethodName := ⟨RX4, "size", "()I"⟩
abbrev cX4_clear : ByteArray := prog_6_method_3_code
def yX4_clear : MethodName := ⟨RX4, "clear", "()V"⟩
abbrev cX4_add : ByteArray := prog_6_method_4_code
def yX4_add : MethodName := ⟨RX4, "add", "(III)I"⟩
abbrev cX4_kindOf : ByteArray := prog_6_method_5_code
def yX4_kindOf : MethodName := ⟨RX4, "kindOf", "(I)I"⟩
abbrev cX4_leftOf : ByteArray := prog_6_method_6_code
def yX4_leftOf : MethodName := ⟨RX4, "leftOf", "(I)I"⟩
abbrev cX4_rightOf : ByteArray := prog_6_method_7_code
def yX4_rightOf : MethodName := ⟨RX4, "rightOf", "(I)I"⟩
abbrev cX4_setRight : ByteArray := prog_6_method_8_code
def yX4_setRight : MethodName := ⟨RX4, "setRight", "(II)V"⟩
abbrev cX4_cost : ByteArray := prog_6_method_9_code
def yX4_cost : MethodName := ⟨RX4, "cost", "()I"⟩
abbrev cX4_become : ByteArray := prog_6_method_10_code
def yX4_become : MethodName := ⟨RX4, "become", "(LShownPatterns$Nodes;I)V"⟩
abbrev cX4_copy : ByteArray := prog_6_method_11_code
def yX4_copy : MethodName := ⟨RX4, "copy", "(LShownPatterns$Nodes;ILShownPatterns$Nodes;I)I"⟩
def RX5 : String := "ShownPatterns$Pairs"
def TX5 : u_T := fun k => match k with
  | 0 => ("ShownPatterns$Pairs", "rows", "[I", true)
  | 1 => ("ShownPatterns$Pairs", "queue", "[I", true)
  | _ => ("ShownPatterns$Pairs", "waiting", "I", false)
def tyX5 : Nat → FieldType := fun k => match k with
  | 0 => .array .int
  | 1 => .array .int
  | _ => .int
theorem nmX5 : ∀ a, a < 3 → ∀ b, b < 3 → a ≠ b → (TX5 a).2.1 ≠ (TX5 b).2.1 := by decide +kernel
theorem tyX5_ok : ∀ k, k < 3 → parseFieldDescriptor (TX5 k).2.2.1 = some (tyX5 k) := by decide +kernel
abbrev cX5_init : ByteArray := prog_7_method_1_code
def yX5_init : MethodName := ⟨RX5, "<init>", "()V"⟩
abbrev cX5_firstRow : ByteArray := prog_7_method_2_code
def yX5_firstRow : MethodName := ⟨RX5, "firstRow", "(LShownPatterns$Automaton;LShownPatterns$Automaton;Z)I"⟩
abbrev cX5_rowTo : ByteArray := prog_7_method_3_code
def yX5_rowTo : MethodName := ⟨RX5, "rowTo", "(I)I"⟩
abbrev cX5_reach : ByteArray := prog_7_method_4_code
def yX5_reach : MethodName := ⟨RX5, "reach", "(II)V"⟩
abbrev cX5_longer : ByteArray := prog_7_method_5_code
def yX5_longer : MethodName := ⟨RX5, "longer", "(II)I"⟩
def RX6 : String := "ShownPatterns$Reader"
def TX6 : u_T := fun k => match k with
  | 0 => ("ShownPatterns$Reader", "bytes", "[I", true)
  | 1 => ("ShownPatterns$Reader", "length", "I", false)
  | 2 => ("ShownPatterns$Reader", "nodes", "LShownPatterns$Nodes;", true)
  | 3 => ("ShownPatterns$Reader", "pile", "[I", true)
  | 4 => ("ShownPatterns$Reader", "height", "I", false)
  | 5 => ("ShownPatterns$Reader", "at", "I", false)
  | _ => ("ShownPatterns$Reader", "end", "I", false)
def tyX6 : Nat → FieldType := fun k => match k with
  | 0 => .array .int
  | 1 => .int
  | 2 => .object "ShownPatterns$Nodes"
  | 3 => .array .int
  | 4 => .int
  | 5 => .int
  | _ => .int
theorem nmX6 : ∀ a, a < 7 → ∀ b, b < 7 → a ≠ b → (TX6 a).2.1 ≠ (TX6 b).2.1 := by decide +kernel
theorem tyX6_ok : ∀ k, k < 7 → parseFieldDescriptor (TX6 k).2.2.1 = some (tyX6 k) := by decide +kernel
abbrev cX6_init : ByteArray := prog_8_method_1_code
def yX6_init : MethodName := ⟨RX6, "<init>", "()V"⟩
abbrev cX6_length : ByteArray := prog_8_method_2_code
def yX6_length : MethodName := ⟨RX6, "length", "()I"⟩
abbrev cX6_nodes : ByteArray := prog_8_method_3_code
def yX6_nodes : MethodName := ⟨RX6, "nodes", "()LShownPatterns$Nodes;"⟩
abbrev cX6_fault : ByteArray := prog_8_method_4_code
def yX6_fault : MethodName := ⟨RX6, "fault", "()I"⟩
abbrev cX6_take : ByteArray := prog_8_method_5_code
def yX6_take : MethodName := ⟨RX6, "take", "(II)I"⟩
abbrev cX6_put : ByteArray := prog_8_method_6_code
def yX6_put : MethodName := ⟨RX6, "put", "(I)V"⟩
abbrev cX6_parse : ByteArray := prog_8_method_7_code
def yX6_parse : MethodName := ⟨RX6, "parse", "()I"⟩
abbrev cX6_sign : ByteArray := prog_8_method_8_code
def yX6_sign : MethodName := ⟨RX6, "sign", "()I"⟩
abbrev cX6_push : ByteArray := prog_8_method_9_code
def yX6_push : MethodName := ⟨RX6, "push", "(I)V"⟩
abbrev cX6_pop : ByteArray := prog_8_method_10_code
def yX6_pop : MethodName := ⟨RX6, "pop", "()I"⟩
abbrev cX6_readChoice : ByteArray := prog_8_method_11_code
def yX6_readChoice : MethodName := ⟨RX6, "readChoice", "(I)I"⟩
abbrev cX6_readChain : ByteArray := prog_8_method_12_code
def yX6_readChain : MethodName := ⟨RX6, "readChain", "(I)I"⟩
abbrev cX6_beginsPart : ByteArray := prog_8_method_13_code
def yX6_beginsPart : MethodName := ⟨RX6, "beginsPart", "(I)Z"⟩
abbrev cX6_isLetter : ByteArray := prog_8_method_14_code
def yX6_isLetter : MethodName := ⟨RX6, "isLetter", "(I)Z"⟩
abbrev cX6_chain : ByteArray := prog_8_method_15_code
def yX6_chain : MethodName := ⟨RX6, "chain", "(II)I"⟩
abbrev cX6_readRepeats : ByteArray := prog_8_method_16_code
def yX6_readRepeats : MethodName := ⟨RX6, "readRepeats", "(I)I"⟩
abbrev cX6_readPart : ByteArray := prog_8_method_17_code
def yX6_readPart : MethodName := ⟨RX6, "readPart", "(I)I"⟩
abbrev cX6_readClass : ByteArray := prog_8_method_18_code
def yX6_readClass : MethodName := ⟨RX6, "readClass", "()I"⟩
def RX7 : String := "ShownPatterns$Showings"
def TX7 : u_T := fun k => match k with
  | 0 => ("ShownPatterns$Showings", "rows", "[I", true)
  | 1 => ("ShownPatterns$Showings", "said", "[I", true)
  | 2 => ("ShownPatterns$Showings", "parts", "[I", true)
  | 3 => ("ShownPatterns$Showings", "prices", "[I", true)
  | 4 => ("ShownPatterns$Showings", "size", "I", false)
  | _ => ("ShownPatterns$Showings", "takenBack", "I", false)
def tyX7 : Nat → FieldType := fun k => match k with
  | 0 => .array .int
  | 1 => .array .int
  | 2 => .array .int
  | 3 => .array .int
  | 4 => .int
  | _ => .int
theorem nmX7 : ∀ a, a < 6 → ∀ b, b < 6 → a ≠ b → (TX7 a).2.1 ≠ (TX7 b).2.1 := by decide +kernel
theorem tyX7_ok : ∀ k, k < 6 → parseFieldDescriptor (TX7 k).2.2.1 = some (tyX7 k) := by decide +kernel
abbrev cX7_init : ByteArray := prog_9_method_1_code
def yX7_init : MethodName := ⟨RX7, "<init>", "()V"⟩
abbrev cX7_size : ByteArray := prog_9_method_2_code
def yX7_size : MethodName := ⟨RX7, "size", "()I"⟩
abbrev cX7_has : ByteArray := prog_9_method_3_code
def yX7_has : MethodName := ⟨RX7, "has", "(I)Z"⟩
abbrev cX7_add : ByteArray := prog_9_method_4_code
def yX7_add : MethodName := ⟨RX7, "add", "(IIII)I"⟩
abbrev cX7_takeBack : ByteArray := prog_9_method_5_code
def yX7_takeBack : MethodName := ⟨RX7, "takeBack", "(II)I"⟩
abbrev cX7_standing : ByteArray := prog_9_method_6_code
def yX7_standing : MethodName := ⟨RX7, "standing", "()I"⟩
abbrev cX7_priceOf : ByteArray := prog_9_method_7_code
def yX7_priceOf : MethodName := ⟨RX7, "priceOf", "(I)I"⟩
abbrev cX7_rowOf : ByteArray := prog_9_method_8_code
def yX7_rowOf : MethodName := ⟨RX7, "rowOf", "(I)I"⟩
abbrev cX7_isSo : ByteArray := prog_9_method_9_code
def yX7_isSo : MethodName := ⟨RX7, "isSo", "(IJ)Z"⟩
def RX8 : String := "ShownPatterns$Spans"
def TX8 : u_T := fun k => match k with
  | 0 => ("ShownPatterns$Spans", "spans", "[J", true)
  | _ => ("ShownPatterns$Spans", "ofLetter", "[J", true)
def tyX8 : Nat → FieldType := fun k => match k with
  | 0 => .array .long
  | _ => .array .long
theorem nmX8 : ∀ a, a < 2 → ∀ b, b < 2 → a ≠ b → (TX8 a).2.1 ≠ (TX8 b).2.1 := by decide +kernel
theorem tyX8_ok : ∀ k, k < 2 → parseFieldDescriptor (TX8 k).2.2.1 = some (tyX8 k) := by decide +kernel
abbrev cX8_init : ByteArray := prog_10_method_1_code
def yX8_init : MethodName := ⟨RX8, "<init>", "(I)V"⟩
abbrev cX8_lay : ByteArray := prog_10_method_2_code
def yX8_lay : MethodName := ⟨RX8, "lay", "(II)V"⟩
abbrev cX8_fill : ByteArray := prog_10_method_3_code
def yX8_fill : MethodName := ⟨RX8, "fill", "(LShownPatterns$Nodes;)V"⟩
abbrev cX8_of : ByteArray := prog_10_method_4_code
def yX8_of : MethodName := ⟨RX8, "of", "(I)J"⟩
abbrev cX8_spanOf : ByteArray := prog_10_method_5_code
def yX8_spanOf : MethodName := ⟨RX8, "spanOf", "(III)J"⟩
abbrev cX8_ofClass : ByteArray := prog_10_method_6_code
def yX8_ofClass : MethodName := ⟨RX8, "ofClass", "(I)J"⟩
abbrev cX8_behind : ByteArray := prog_10_method_7_code
def yX8_behind : MethodName := ⟨RX8, "behind", "(JJ)J"⟩
abbrev cX8_again : ByteArray := prog_10_method_8_code
def yX8_again : MethodName := ⟨RX8, "again", "(J)J"⟩
abbrev cX8_has : ByteArray := prog_10_method_9_code
def yX8_has : MethodName := ⟨RX8, "has", "(JII)Z"⟩
abbrev cX8_partOut : ByteArray := prog_10_method_10_code
def yX8_partOut : MethodName := ⟨RX8, "partOut", "(JI)I"⟩
def RX9 : String := "ShownPatterns$Ways"
def TX9 : u_T := fun k => match k with
  | _ => ("ShownPatterns$Ways", "ways", "[I", true)
def tyX9 : Nat → FieldType := fun k => match k with
  | _ => .array .int
theorem nmX9 : ∀ a, a < 1 → ∀ b, b < 1 → a ≠ b → (TX9 a).2.1 ≠ (TX9 b).2.1 := by decide +kernel
theorem tyX9_ok : ∀ k, k < 1 → parseFieldDescriptor (TX9 k).2.2.1 = some (tyX9 k) := by decide +kernel
abbrev cX9_init : ByteArray := prog_11_method_1_code
def yX9_init : MethodName := ⟨RX9, "<init>", "()V"⟩
abbrev cX9_fill : ByteArray := prog_11_method_2_code
def yX9_fill : MethodName := ⟨RX9, "fill", "(LShownPatterns$Automaton;I)V"⟩
abbrev cX9_from : ByteArray := prog_11_method_3_code
def yX9_from : MethodName := ⟨RX9, "from", "(II)I"⟩
abbrev cX9_rowAt : ByteArray := prog_11_method_4_code
def yX9_rowAt : MethodName := ⟨RX9, "rowAt", "(LShownPatterns$Automaton;II)I"⟩
def RX10 : String := "ShownPatterns$Writer"
def TX10 : u_T := fun k => match k with
  | 0 => ("ShownPatterns$Writer", "signs", "[I", true)
  | _ => ("ShownPatterns$Writer", "length", "I", false)
def tyX10 : Nat → FieldType := fun k => match k with
  | 0 => .array .int
  | _ => .int
theorem nmX10 : ∀ a, a < 2 → ∀ b, b < 2 → a ≠ b → (TX10 a).2.1 ≠ (TX10 b).2.1 := by decide +kernel
theorem tyX10_ok : ∀ k, k < 2 → parseFieldDescriptor (TX10 k).2.2.1 = some (tyX10 k) := by decide +kernel
abbrev cX10_init : ByteArray := prog_12_method_1_code
def yX10_init : MethodName := ⟨RX10, "<init>", "()V"⟩
abbrev cX10_length : ByteArray := prog_12_method_2_code
def yX10_length : MethodName := ⟨RX10, "length", "()I"⟩
abbrev cX10_signAt : ByteArray := prog_12_method_3_code
def yX10_signAt : MethodName := ⟨RX10, "signAt", "(I)I"⟩
abbrev cX10_write : ByteArray := prog_12_method_4_code
def yX10_write : MethodName := ⟨RX10, "write", "(LShownPatterns$Nodes;)V"⟩
abbrev cX10_put : ByteArray := prog_12_method_5_code
def yX10_put : MethodName := ⟨RX10, "put", "(I)V"⟩
abbrev cX10_writeNode : ByteArray := prog_12_method_6_code
def yX10_writeNode : MethodName := ⟨RX10, "writeNode", "(LShownPatterns$Writer;LShownPatterns$Nodes;II)V"⟩
abbrev cX10_writePart : ByteArray := prog_12_method_7_code
def yX10_writePart : MethodName := ⟨RX10, "writePart", "(LShownPatterns$Writer;LShownPatterns$Nodes;IZI)V"⟩
abbrev cX10_putClass : ByteArray := prog_12_method_8_code
def yX10_putClass : MethodName := ⟨RX10, "putClass", "(I)V"⟩
def RX11 : String := "ShownPatterns"
def TX11 : u_T := fun k => match k with
  | 0 => ("ShownPatterns", "places", "[LShownPatterns$Nodes;", true)
  | 1 => ("ShownPatterns", "reader", "LShownPatterns$Reader;", true)
  | 2 => ("ShownPatterns", "writer", "LShownPatterns$Writer;", true)
  | 3 => ("ShownPatterns", "one", "LShownPatterns$Automaton;", true)
  | 4 => ("ShownPatterns", "other", "LShownPatterns$Automaton;", true)
  | 5 => ("ShownPatterns", "ways", "LShownPatterns$Ways;", true)
  | 6 => ("ShownPatterns", "spans", "LShownPatterns$Spans;", true)
  | 7 => ("ShownPatterns", "showings", "LShownPatterns$Showings;", true)
  | 8 => ("ShownPatterns", "pairs", "LShownPatterns$Pairs;", false)
  | 9 => ("ShownPatterns", "catalogue", "LShownPatterns$Catalogue;", false)
  | _ => ("ShownPatterns", "finder", "LShownPatterns$Finder;", false)
def tyX11 : Nat → FieldType := fun k => match k with
  | 0 => .array (.object "ShownPatterns$Nodes")
  | 1 => .object "ShownPatterns$Reader"
  | 2 => .object "ShownPatterns$Writer"
  | 3 => .object "ShownPatterns$Automaton"
  | 4 => .object "ShownPatterns$Automaton"
  | 5 => .object "ShownPatterns$Ways"
  | 6 => .object "ShownPatterns$Spans"
  | 7 => .object "ShownPatterns$Showings"
  | 8 => .object "ShownPatterns$Pairs"
  | 9 => .object "ShownPatterns$Catalogue"
  | _ => .object "ShownPatterns$Finder"
theorem nmX11 : ∀ a, a < 11 → ∀ b, b < 11 → a ≠ b → (TX11 a).2.1 ≠ (TX11 b).2.1 := by decide +kernel
theorem tyX11_ok : ∀ k, k < 11 → parseFieldDescriptor (TX11 k).2.2.1 = some (tyX11 k) := by decide +kernel
abbrev cX11_init : ByteArray := prog_1_method_1_code
def yX11_init : MethodName := ⟨RX11, "<init>", "()V"⟩
abbrev cX11_feed : ByteArray := prog_1_method_2_code
def yX11_feed : MethodName := ⟨RX11, "feed", "(II)I"⟩
abbrev cX11_read : ByteArray := prog_1_method_3_code
def yX11_read : MethodName := ⟨RX11, "read", "(I)I"⟩
abbrev cX11_say : ByteArray := prog_1_method_4_code
def yX11_say : MethodName := ⟨RX11, "say", "(II)I"⟩
abbrev cX11_drop : ByteArray := prog_1_method_5_code
def yX11_drop : MethodName := ⟨RX11, "drop", "(I)I"⟩
abbrev cX11_about : ByteArray := prog_1_method_6_code
def yX11_about : MethodName := ⟨RX11, "about", "(II)I"⟩
abbrev cX11_nth : ByteArray := prog_1_method_7_code
def yX11_nth : MethodName := ⟨RX11, "nth", "(III)I"⟩
abbrev cX11_fits : ByteArray := prog_1_method_8_code
def yX11_fits : MethodName := ⟨RX11, "fits", "(II)I"⟩
abbrev cX11_out : ByteArray := prog_1_method_9_code
def yX11_out : MethodName := ⟨RX11, "out", "(II)I"⟩
abbrev cX11_many : ByteArray := prog_1_method_10_code
def yX11_many : MethodName := ⟨RX11, "many", "(II)I"⟩
abbrev cX11_row : ByteArray := prog_1_method_11_code
def yX11_row : MethodName := ⟨RX11, "row", "(III)I"⟩
abbrev cX11_alike : ByteArray := prog_1_method_12_code
def yX11_alike : MethodName := ⟨RX11, "alike", "(II)I"⟩
abbrev cX11_parted : ByteArray := prog_1_method_13_code
def yX11_parted : MethodName := ⟨RX11, "parted", "(II)I"⟩
abbrev cX11_inside : ByteArray := prog_1_method_14_code
def yX11_inside : MethodName := ⟨RX11, "inside", "(II)I"⟩
abbrev cX11_show : ByteArray := prog_1_method_15_code
def yX11_show : MethodName := ⟨RX11, "show", "(IIII)I"⟩
abbrev cX11_back : ByteArray := prog_1_method_16_code
def yX11_back : MethodName := ⟨RX11, "back", "(II)I"⟩
abbrev cX11_agrees : ByteArray := prog_1_method_17_code
def yX11_agrees : MethodName := ⟨RX11, "agrees", "(II)I"⟩
abbrev cX11_paid : ByteArray := prog_1_method_18_code
def yX11_paid : MethodName := ⟨RX11, "paid", "(I)I"⟩
abbrev cX11_find : ByteArray := prog_1_method_19_code
def yX11_find : MethodName := ⟨RX11, "find", "(III)I"⟩
abbrev cX11_next : ByteArray := prog_1_method_20_code
def yX11_next : MethodName := ⟨RX11, "next", "(I)I"⟩
abbrev cX11_found : ByteArray := prog_1_method_21_code
def yX11_found : MethodName := ⟨RX11, "found", "()I"⟩
abbrev cX11_open : ByteArray := prog_1_method_22_code
def yX11_open : MethodName := ⟨RX11, "open", "(II)I"⟩
abbrev cX11_ask : ByteArray := prog_1_method_23_code
def yX11_ask : MethodName := ⟨RX11, "ask", "(II)I"⟩
abbrev cX11_asked : ByteArray := prog_1_method_24_code
def yX11_asked : MethodName := ⟨RX11, "asked", "()I"⟩
abbrev cX11_noise : ByteArray := prog_1_method_25_code
def yX11_noise : MethodName := ⟨RX11, "noise", "(III)I"⟩
abbrev cX11_count : ByteArray := prog_1_method_26_code
def yX11_count : MethodName := ⟨RX11, "count", "(I)I"⟩
abbrev cX11_placeAt : ByteArray := prog_1_method_27_code
def yX11_placeAt : MethodName := ⟨RX11, "placeAt", "(I)LShownPatterns$Nodes;"⟩
abbrev cX11_patternAt : ByteArray := prog_1_method_28_code
def yX11_patternAt : MethodName := ⟨RX11, "patternAt", "(I)LShownPatterns$Nodes;"⟩
abbrev cX11_patternsInPlaces : ByteArray := prog_1_method_29_code
def yX11_patternsInPlaces : MethodName := ⟨RX11, "patternsInPlaces", "()I"⟩
abbrev cX11_theCatalogue : ByteArray := prog_1_method_30_code
def yX11_theCatalogue : MethodName := ⟨RX11, "theCatalogue", "()LShownPatterns$Catalogue;"⟩
abbrev cX11_theFinder : ByteArray := prog_1_method_31_code
def yX11_theFinder : MethodName := ⟨RX11, "theFinder", "()LShownPatterns$Finder;"⟩
abbrev cX11_putFound : ByteArray := prog_1_method_32_code
def yX11_putFound : MethodName := ⟨RX11, "putFound", "(LShownPatterns$Nodes;I)I"⟩
abbrev cX11_partingRow : ByteArray := prog_1_method_33_code
def yX11_partingRow : MethodName := ⟨RX11, "partingRow", "(IIZ)I"⟩
abbrev cX11_agreesWith : ByteArray := prog_1_method_34_code
def yX11_agreesWith : MethodName := ⟨RX11, "agreesWith", "(LShownPatterns$Nodes;I)Z"⟩
abbrev cX11_isPart : ByteArray := prog_1_method_35_code
def yX11_isPart : MethodName := ⟨RX11, "isPart", "(III)Z"⟩
abbrev cX11_isKinds : ByteArray := prog_1_method_36_code
def yX11_isKinds : MethodName := ⟨RX11, "isKinds", "(I)Z"⟩
abbrev cX11_isCost : ByteArray := prog_1_method_37_code
def yX11_isCost : MethodName := ⟨RX11, "isCost", "(I)Z"⟩
abbrev cX11_lengthOf : ByteArray := prog_1_method_38_code
def yX11_lengthOf : MethodName := ⟨RX11, "lengthOf", "(I)I"⟩
abbrev cX11_letterAt : ByteArray := prog_1_method_39_code
def yX11_letterAt : MethodName := ⟨RX11, "letterAt", "(III)I"⟩
abbrev cX11_ownCost : ByteArray := prog_1_method_40_code
def yX11_ownCost : MethodName := ⟨RX11, "ownCost", "(I)I"⟩
abbrev cX11_isLeaf : ByteArray := prog_1_method_41_code
def yX11_isLeaf : MethodName := ⟨RX11, "isLeaf", "(I)Z"⟩
abbrev cX11_hasTwoParts : ByteArray := prog_1_method_42_code
def yX11_hasTwoParts : MethodName := ⟨RX11, "hasTwoParts", "(I)Z"⟩
def RX12 : String := "ShownPatternsModel"
def TX12 : u_T := fun k => match k with
  | 0 => ("ShownPatternsModel", "code", "I", false)
  | 1 => ("ShownPatternsModel", "row", "[I", true)
  | 2 => ("ShownPatternsModel", "rowSize", "I", false)
  | 3 => ("ShownPatternsModel", "kind", "[I", true)
  | 4 => ("ShownPatternsModel", "val", "[I", true)
  | 5 => ("ShownPatternsModel", "one", "[I", true)
  | 6 => ("ShownPatternsModel", "two", "[I", true)
  | 7 => ("ShownPatternsModel", "cost", "[I", true)
  | 8 => ("ShownPatternsModel", "nodes", "[I", true)
  | 9 => ("ShownPatternsModel", "uses", "[I", true)
  | 10 => ("ShownPatternsModel", "top", "I", false)
  | 11 => ("ShownPatternsModel", "all", "I", false)
  | 12 => ("ShownPatternsModel", "costFrom", "[I", true)
  | 13 => ("ShownPatternsModel", "placed", "[I", true)
  | 14 => ("ShownPatternsModel", "rowKind", "[I", true)
  | 15 => ("ShownPatternsModel", "rowVal", "[I", true)
  | 16 => ("ShownPatternsModel", "at", "I", false)
  | 17 => ("ShownPatternsModel", "tape", "[B", true)
  | 18 => ("ShownPatternsModel", "taped", "I", false)
  | 19 => ("ShownPatternsModel", "here", "I", false)
  | 20 => ("ShownPatternsModel", "fault", "I", false)
  | 21 => ("ShownPatternsModel", "open", "I", false)
  | 22 => ("ShownPatternsModel", "said", "I", false)
  | 23 => ("ShownPatternsModel", "says", "[I", true)
  | 24 => ("ShownPatternsModel", "letters", "[I", true)
  | 25 => ("ShownPatternsModel", "accepts", "[I", true)
  | 26 => ("ShownPatternsModel", "follows", "[I", true)
  | 27 => ("ShownPatternsModel", "firsts", "[I", true)
  | 28 => ("ShownPatternsModel", "lasts", "[I", true)
  | 29 => ("ShownPatternsModel", "mayBeEmpty", "[Z", true)
  | 30 => ("ShownPatternsModel", "partFirst", "I", false)
  | 31 => ("ShownPatternsModel", "partLast", "I", false)
  | 32 => ("ShownPatternsModel", "partEmpty", "Z", false)
  | 33 => ("ShownPatternsModel", "ways", "[I", true)
  | 34 => ("ShownPatternsModel", "pairs", "[I", true)
  | 35 => ("ShownPatternsModel", "pairFrom", "[I", true)
  | 36 => ("ShownPatternsModel", "seen", "[Z", true)
  | 37 => ("ShownPatternsModel", "pairMany", "I", false)
  | 38 => ("ShownPatternsModel", "showings", "I", false)
  | 39 => ("ShownPatternsModel", "shownRow", "[I", true)
  | 40 => ("ShownPatternsModel", "shownSays", "[I", true)
  | 41 => ("ShownPatternsModel", "shownPart", "[I", true)
  | 42 => ("ShownPatternsModel", "shownPrice", "[I", true)
  | 43 => ("ShownPatternsModel", "isBack", "[Z", true)
  | 44 => ("ShownPatternsModel", "isKnown", "[Z", true)
  | 45 => ("ShownPatternsModel", "low", "[J", true)
  | 46 => ("ShownPatternsModel", "high", "[J", true)
  | 47 => ("ShownPatternsModel", "rowNumber", "[I", true)
  | 48 => ("ShownPatternsModel", "searchKinds", "I", false)
  | 49 => ("ShownPatternsModel", "searchCost", "I", false)
  | 50 => ("ShownPatternsModel", "searchAt", "I", false)
  | 51 => ("ShownPatternsModel", "foundMany", "I", false)
  | 52 => ("ShownPatternsModel", "foundLow", "[J", true)
  | 53 => ("ShownPatternsModel", "foundHigh", "[J", true)
  | 54 => ("ShownPatternsModel", "meanings", "I", false)
  | 55 => ("ShownPatternsModel", "meaningLow", "[J", true)
  | 56 => ("ShownPatternsModel", "meaningHigh", "[J", true)
  | _ => ("ShownPatternsModel", "askedMany", "I", false)
def tyX12 : Nat → FieldType := fun k => match k with
  | 0 => .int
  | 1 => .array .int
  | 2 => .int
  | 3 => .array .int
  | 4 => .array .int
  | 5 => .array .int
  | 6 => .array .int
  | 7 => .array .int
  | 8 => .array .int
  | 9 => .array .int
  | 10 => .int
  | 11 => .int
  | 12 => .array .int
  | 13 => .array .int
  | 14 => .array .int
  | 15 => .array .int
  | 16 => .int
  | 17 => .array .byte
  | 18 => .int
  | 19 => .int
  | 20 => .int
  | 21 => .int
  | 22 => .int
  | 23 => .array .int
  | 24 => .array .int
  | 25 => .array .int
  | 26 => .array .int
  | 27 => .array .int
  | 28 => .array .int
  | 29 => .array .boolean
  | 30 => .int
  | 31 => .int
  | 32 => .boolean
  | 33 => .array .int
  | 34 => .array .int
  | 35 => .array .int
  | 36 => .array .boolean
  | 37 => .int
  | 38 => .int
  | 39 => .array .int
  | 40 => .array .int
  | 41 => .array .int
  | 42 => .array .int
  | 43 => .array .boolean
  | 44 => .array .boolean
  | 45 => .array .long
  | 46 => .array .long
  | 47 => .array .int
  | 48 => .int
  | 49 => .int
  | 50 => .int
  | 51 => .int
  | 52 => .array .long
  | 53 => .array .long
  | 54 => .int
  | 55 => .array .long
  | 56 => .array .long
  | _ => .int
theorem nmX12 : ∀ a, a < 58 → ∀ b, b < 58 → a ≠ b → (TX12 a).2.1 ≠ (TX12 b).2.1 := by decide +kernel
theorem tyX12_ok : ∀ k, k < 58 → parseFieldDescriptor (TX12 k).2.2.1 = some (tyX12 k) := by decide +kernel
abbrev cX12_init : ByteArray := prog_14_method_1_code
def yX12_init : MethodName := ⟨RX12, "<init>", "()V"⟩
abbrev cX12_in : ByteArray := prog_14_method_3_code
def yX12_in : MethodName := ⟨RX12, "in", "(III)Z"⟩
abbrev cX12_take : ByteArray := prog_14_method_4_code
def yX12_take : MethodName := ⟨RX12, "take", "(II)Z"⟩
abbrev cX12_price : ByteArray := prog_14_method_5_code
def yX12_price : MethodName := ⟨RX12, "price", "(I)I"⟩
abbrev cX12_lays : ByteArray := prog_14_method_6_code
def yX12_lays : MethodName := ⟨RX12, "lays", "(IIIII)V"⟩
abbrev cX12_make : ByteArray := prog_14_method_7_code
def yX12_make : MethodName := ⟨RX12, "make", "(IIII)I"⟩
abbrev cX12_add : ByteArray := prog_14_method_8_code
def yX12_add : MethodName := ⟨RX12, "add", "(IIII)V"⟩
abbrev cX12_lay : ByteArray := prog_14_method_9_code
def yX12_lay : MethodName := ⟨RX12, "lay", "()V"⟩
abbrev cX12_ends : ByteArray := prog_14_method_10_code
def yX12_ends : MethodName := ⟨RX12, "ends", "(II)I"⟩
abbrev cX12_behind : ByteArray := prog_14_method_11_code
def yX12_behind : MethodName := ⟨RX12, "behind", "(II)I"⟩
abbrev cX12_again : ByteArray := prog_14_method_12_code
def yX12_again : MethodName := ⟨RX12, "again", "(II)I"⟩
abbrev cX12_isFit : ByteArray := prog_14_method_13_code
def yX12_isFit : MethodName := ⟨RX12, "isFit", "(I)Z"⟩
abbrev cX12_outOf : ByteArray := prog_14_method_14_code
def yX12_outOf : MethodName := ⟨RX12, "outOf", "(I)I"⟩
abbrev cX12_isPlace : ByteArray := prog_14_method_15_code
def yX12_isPlace : MethodName := ⟨RX12, "isPlace", "(I)Z"⟩
abbrev cX12_has : ByteArray := prog_14_method_16_code
def yX12_has : MethodName := ⟨RX12, "has", "(I)Z"⟩
abbrev cX12_grow : ByteArray := prog_14_method_17_code
def yX12_grow : MethodName := ⟨RX12, "grow", "()I"⟩
abbrev cX12_treeOf : ByteArray := prog_14_method_18_code
def yX12_treeOf : MethodName := ⟨RX12, "treeOf", "(I)I"⟩
abbrev cX12_flatten : ByteArray := prog_14_method_19_code
def yX12_flatten : MethodName := ⟨RX12, "flatten", "(I)V"⟩
abbrev cX12_put : ByteArray := prog_14_method_20_code
def yX12_put : MethodName := ⟨RX12, "put", "(II)V"⟩
abbrev cX12_feed : ByteArray := prog_14_method_21_code
def yX12_feed : MethodName := ⟨RX12, "feed", "(II)I"⟩
abbrev cX12_look : ByteArray := prog_14_method_22_code
def yX12_look : MethodName := ⟨RX12, "look", "()I"⟩
abbrev cX12_wrong : ByteArray := prog_14_method_23_code
def yX12_wrong : MethodName := ⟨RX12, "wrong", "()I"⟩
abbrev cX12_begins : ByteArray := prog_14_method_24_code
def yX12_begins : MethodName := ⟨RX12, "begins", "()Z"⟩
abbrev cX12_either : ByteArray := prog_14_method_25_code
def yX12_either : MethodName := ⟨RX12, "either", "()I"⟩
abbrev cX12_row0 : ByteArray := prog_14_method_26_code
def yX12_row0 : MethodName := ⟨RX12, "row0", "()I"⟩
abbrev cX12_joined : ByteArray := prog_14_method_27_code
def yX12_joined : MethodName := ⟨RX12, "joined", "(II)I"⟩
abbrev cX12_repeated : ByteArray := prog_14_method_28_code
def yX12_repeated : MethodName := ⟨RX12, "repeated", "()I"⟩
abbrev cX12_base : ByteArray := prog_14_method_29_code
def yX12_base : MethodName := ⟨RX12, "base", "()I"⟩
abbrev cX12_set : ByteArray := prog_14_method_30_code
def yX12_set : MethodName := ⟨RX12, "set", "()I"⟩
abbrev cX12_read : ByteArray := prog_14_method_31_code
def yX12_read : MethodName := ⟨RX12, "read", "(I)I"⟩
abbrev cX12_sign : ByteArray := prog_14_method_32_code
def yX12_sign : MethodName := ⟨RX12, "sign", "(I)V"⟩
abbrev cX12_sayIn : ByteArray := prog_14_method_33_code
def yX12_sayIn : MethodName := ⟨RX12, "sayIn", "(IZ)V"⟩
abbrev cX12_say0 : ByteArray := prog_14_method_34_code
def yX12_say0 : MethodName := ⟨RX12, "say0", "(I)V"⟩
abbrev cX12_say : ByteArray := prog_14_method_35_code
def yX12_say : MethodName := ⟨RX12, "say", "(II)I"⟩
abbrev cX12_drop : ByteArray := prog_14_method_36_code
def yX12_drop : MethodName := ⟨RX12, "drop", "(I)I"⟩
abbrev cX12_find0 : ByteArray := prog_14_method_37_code
def yX12_find0 : MethodName := ⟨RX12, "find0", "(I)I"⟩
abbrev cX12_about : ByteArray := prog_14_method_38_code
def yX12_about : MethodName := ⟨RX12, "about", "(II)I"⟩
abbrev cX12_nth : ByteArray := prog_14_method_39_code
def yX12_nth : MethodName := ⟨RX12, "nth", "(III)I"⟩
abbrev cX12_fits : ByteArray := prog_14_method_40_code
def yX12_fits : MethodName := ⟨RX12, "fits", "(II)I"⟩
abbrev cX12_out : ByteArray := prog_14_method_41_code
def yX12_out : MethodName := ⟨RX12, "out", "(II)I"⟩
abbrev cX12_study : ByteArray := prog_14_method_42_code
def yX12_study : MethodName := ⟨RX12, "study", "(II)V"⟩
abbrev cX12_follow : ByteArray := prog_14_method_43_code
def yX12_follow : MethodName := ⟨RX12, "follow", "(III)V"⟩
abbrev cX12_study0 : ByteArray := prog_14_method_44_code
def yX12_study0 : MethodName := ⟨RX12, "study0", "(II)V"⟩
abbrev cX12_steps : ByteArray := prog_14_method_45_code
def yX12_steps : MethodName := ⟨RX12, "steps", "(III)I"⟩
abbrev cX12_ends0 : ByteArray := prog_14_method_46_code
def yX12_ends0 : MethodName := ⟨RX12, "ends0", "(II)Z"⟩
abbrev cX12_countWays : ByteArray := prog_14_method_47_code
def yX12_countWays : MethodName := ⟨RX12, "countWays", "(II)V"⟩
abbrev cX12_many : ByteArray := prog_14_method_48_code
def yX12_many : MethodName := ⟨RX12, "many", "(II)I"⟩
abbrev cX12_row : ByteArray := prog_14_method_49_code
def yX12_row : MethodName := ⟨RX12, "row", "(III)I"⟩
abbrev cX12_findPair : ByteArray := prog_14_method_50_code
def yX12_findPair : MethodName := ⟨RX12, "findPair", "(III)I"⟩
abbrev cX12_alike : ByteArray := prog_14_method_51_code
def yX12_alike : MethodName := ⟨RX12, "alike", "(II)I"⟩
abbrev cX12_parted : ByteArray := prog_14_method_52_code
def yX12_parted : MethodName := ⟨RX12, "parted", "(II)I"⟩
abbrev cX12_inside : ByteArray := prog_14_method_53_code
def yX12_inside : MethodName := ⟨RX12, "inside", "(II)I"⟩
abbrev cX12_show : ByteArray := prog_14_method_54_code
def yX12_show : MethodName := ⟨RX12, "show", "(IIII)I"⟩
abbrev cX12_isShowing : ByteArray := prog_14_method_55_code
def yX12_isShowing : MethodName := ⟨RX12, "isShowing", "(I)Z"⟩
abbrev cX12_back : ByteArray := prog_14_method_56_code
def yX12_back : MethodName := ⟨RX12, "back", "(II)I"⟩
abbrev cX12_agrees0 : ByteArray := prog_14_method_57_code
def yX12_agrees0 : MethodName := ⟨RX12, "agrees0", "(II)Z"⟩
abbrev cX12_agrees : ByteArray := prog_14_method_58_code
def yX12_agrees : MethodName := ⟨RX12, "agrees", "(II)I"⟩
abbrev cX12_paidBy : ByteArray := prog_14_method_59_code
def yX12_paidBy : MethodName := ⟨RX12, "paidBy", "(I)I"⟩
abbrev cX12_paid : ByteArray := prog_14_method_60_code
def yX12_paid : MethodName := ⟨RX12, "paid", "(I)I"⟩
abbrev cX12_number : ByteArray := prog_14_method_61_code
def yX12_number : MethodName := ⟨RX12, "number", "()V"⟩
abbrev cX12_know : ByteArray := prog_14_method_62_code
def yX12_know : MethodName := ⟨RX12, "know", "(I)V"⟩
abbrev cX12_agreesAll : ByteArray := prog_14_method_63_code
def yX12_agreesAll : MethodName := ⟨RX12, "agreesAll", "(I)Z"⟩
abbrev cX12_isOf : ByteArray := prog_14_method_64_code
def yX12_isOf : MethodName := ⟨RX12, "isOf", "(III)Z"⟩
abbrev cX12_areAsked : ByteArray := prog_14_method_65_code
def yX12_areAsked : MethodName := ⟨RX12, "areAsked", "(II)Z"⟩
abbrev cX12_isNew : ByteArray := prog_14_method_66_code
def yX12_isNew : MethodName := ⟨RX12, "isNew", "(I)Z"⟩
abbrev cX12_note : ByteArray := prog_14_method_67_code
def yX12_note : MethodName := ⟨RX12, "note", "(I)V"⟩
abbrev cX12_goOn : ByteArray := prog_14_method_68_code
def yX12_goOn : MethodName := ⟨RX12, "goOn", "(I)I"⟩
abbrev cX12_find : ByteArray := prog_14_method_69_code
def yX12_find : MethodName := ⟨RX12, "find", "(III)I"⟩
abbrev cX12_next : ByteArray := prog_14_method_70_code
def yX12_next : MethodName := ⟨RX12, "next", "(I)I"⟩
abbrev cX12_found : ByteArray := prog_14_method_71_code
def yX12_found : MethodName := ⟨RX12, "found", "()I"⟩
abbrev cX12_gather : ByteArray := prog_14_method_72_code
def yX12_gather : MethodName := ⟨RX12, "gather", "(II)V"⟩
abbrev cX12_open : ByteArray := prog_14_method_73_code
def yX12_open : MethodName := ⟨RX12, "open", "(II)I"⟩
abbrev cX12_ask : ByteArray := prog_14_method_74_code
def yX12_ask : MethodName := ⟨RX12, "ask", "(II)I"⟩
abbrev cX12_asked : ByteArray := prog_14_method_75_code
def yX12_asked : MethodName := ⟨RX12, "asked", "()I"⟩
abbrev cX12_noise : ByteArray := prog_14_method_76_code
def yX12_noise : MethodName := ⟨RX12, "noise", "(III)I"⟩
abbrev cX12_count : ByteArray := prog_14_method_77_code
def yX12_count : MethodName := ⟨RX12, "count", "(I)I"⟩
def RJ6 : String := "java/lang/Integer"
abbrev cJ6_bitCount_0f7a4 : ByteArray := prog_15_method_49_code
def yJ6_bitCount_0f7a4 : MethodName := ⟨RJ6, "bitCount", "(I)I"⟩
def RJ9 : String := "java/lang/Math"
abbrev cJ9_max_7cf53 : ByteArray := prog_16_method_65_code
def yJ9_max_7cf53 : MethodName := ⟨RJ9, "max", "(II)I"⟩
abbrev cJ9_min_7cf53 : ByteArray := prog_16_method_69_code
def yJ9_min_7cf53 : MethodName := ⟨RJ9, "min", "(II)I"⟩
def RJ10 : String := "java/lang/System"
def RJ7 : String := "java/util/Arrays"
abbrev cJ7_fill_d0a16 : ByteArray := prog_18_method_101_code
def yJ7_fill_d0a16 : MethodName := ⟨RJ7, "fill", "([JJ)V"⟩
abbrev cJ7_fill_53178 : ByteArray := prog_18_method_103_code
def yJ7_fill_53178 : MethodName := ⟨RJ7, "fill", "([II)V"⟩
def RL : String := "ShownPatternsLaw"
abbrev vwCl : List vw_C := [(RX0, TX0, 9), (RX1, TX1, 5), (RX2, TX2, 17), (RX3, TX3, 6), (RX4, TX4, 4), (RX5, TX5, 3), (RX6, TX6, 7), (RX7, TX7, 6), (RX8, TX8, 2), (RX9, TX9, 1), (RX10, TX10, 2), (RX11, TX11, 11), (RX12, TX12, 58)]
end
section
/-! memory as a function from addresses to pictures; a step of the machine as a predicate transformer over it -/
abbrev qLv : Type := List (Nat × Value)
abbrev qE : Type := (Nat × vp_A) ⊕ (Nat × List Value)
abbrev qM : Type := Nat × (Nat → Option qE)
abbrev qMI : Type := MethodName × ByteArray × Nat × Option FieldType
/-- what is fixed for a run: class numbers, array classes by code (1 int, 2 long, 3 boolean, 4 byte, 5 Nodes[]; 6 is an int table that nobody writes), the heap at the law's entry, the two tables' addresses -/
abbrev qC : Type := va_G × (Nat → ClassId) × Heap × Nat × Nat
def q_A (G : qC) : Nat → Prop := fun q => G.2.2.1.size ≤ q
def q_tys (G : qC) : List (ClassId × FieldType) := [(G.2.1 1, .int), (G.2.1 2, .long), (G.2.1 3, .boolean), (G.2.1 4, .byte), (G.2.1 5, .object "ShownPatterns$Nodes")]
def q_own (k : Nat) : Int32 := match k with
  | 0 => 2
  | 1 => 3
  | 2 => 1
  | _ => 2
def q_pow (k : Nat) : Int32 := nI (3 ^ k)
def q_gw : List Cond := lw_tbl.filter goodWord
def q_nest : Cond → Bool
  | .methodLinkNest _ _ _ _ => true
  | .fieldLinkNest _ _ _ _ _ _ => true
  | _ => false
theorem q_in {w : Cond} {i : Nat} (h : tables_1[i]? = some w) (hg : goodWord w = true) : w ∈ q_gw := List.mem_filter.mpr ⟨List.mem_append_right _ (List.mem_of_getElem? h), hg⟩
theorem q_inS {w : Cond} {i : Nat} (h : (k2_sels lw_privs)[i]? = some w) (hg : goodWord w = true) : w ∈ q_gw := List.mem_filter.mpr ⟨List.mem_append_left _ (List.mem_of_getElem? h), hg⟩
theorem q_inN {w : Cond} {i : Nat} (h : tables_1[i]? = some w) : w ∈ lw_tbl := List.mem_append_right _ (List.mem_of_getElem? h)
def q_K (G : qC) (U : State) : Prop :=
  va_K G.1 vwCl (q_tys G) U ∧ (∀ w ∈ lw_tbl, q_nest w = true → va_Nw w U) ∧ va_AO "ShownPatterns$Nodes" U ∧
  va_Z "ShownPatterns" "OWN_COST" "[I" (.ref G.2.2.2.1) (q_A G) U G.2.2.1 ∧ va_T .int G.2.2.2.1 6 (fun j => .int (q_own j)) (q_A G) U G.2.2.1 ∧
  va_Z "ShownPatterns" "POWERS" "[I" (.ref G.2.2.2.2) (q_A G) U G.2.2.1 ∧ va_T .int G.2.2.2.2 13 (fun j => .int (q_pow j)) (q_A G) U G.2.2.1
theorem q_nest_warm {w : Cond} {s U : State} (hn : q_nest w = true) (hW : s.WarmedH U.vm) (h : va_Nw w s) : va_Nw w U := by
  cases w <;> first | exact va_Nw.warmM hW h | exact va_Nw.warmF hW h | cases hn
theorem q_K.warm {G : qC} {s U : State} (hW : s.WarmedH U.vm) (h : q_K G s) : q_K G U := by
  obtain ⟨h1, h2, h3, h4, h5, h6, h7⟩ := h
  exact ⟨va_K.moved hW.alike h1, fun w hw hn => q_nest_warm hn hW (h2 w hw hn), va_AO.moved hW.alike h3, va_Z.moved hW.alike h4, va_T.moved hW.alike h5, va_Z.moved hW.alike h6, va_T.moved hW.alike h7⟩
def q_Pf (G : qC) (H : Heap) : Prop := G.2.2.1.size ≤ H.size ∧ ∀ q : Nat, q < G.2.2.1.size → H[q]? = G.2.2.1[q]?
def q_roO : qE := .inl (6, 6, .inl q_own)
def q_roW : qE := .inl (6, 13, .inl q_pow)
/-- the heap holds the memory -/
def q_H (G : qC) (M : qM) (H : Heap) : Prop :=
  M.1 = H.size ∧ q_Pf G H ∧ (G.2.2.2.1 < G.2.2.1.size ∧ G.2.2.2.2 < G.2.2.1.size) ∧ (M.2 G.2.2.2.1 = some q_roO ∧ M.2 G.2.2.2.2 = some q_roW) ∧
  (∀ (a : Nat) (x : vp_A), M.2 a = some (.inl (6, x)) → (a = G.2.2.2.1 ∧ x = (6, .inl q_own)) ∨ (a = G.2.2.2.2 ∧ x = (13, .inl q_pow))) ∧
  (∀ (a t : Nat) (x : vp_A), M.2 a = some (.inl (t, x)) → t ≠ 6 → G.2.2.1.size ≤ a ∧ H[a]? = some (vp_cell (G.2.1 t) x)) ∧
  (∀ (a : Nat) (y : Nat × List Value), M.2 a = some (.inr y) → G.2.2.1.size ≤ a ∧ va_at G.1 vwCl (a, .inr y) H)
def q_set (M : qM) (a : Nat) (e : qE) : qM := (M.1, va_up M.2 a (some e))
def q_new (M : qM) (e : qE) : qM := (M.1 + 1, va_up M.2 M.1 (some e))
/-- an address of the memory lies in the heap -/
theorem q_H.lt {G : qC} {M : qM} {H : Heap} (h : q_H G M H) {a : Nat} {e : qE} (ha : M.2 a = some e) : a < M.1 := by
  obtain ⟨h1, h2, h3, h4, h5, h6, h7⟩ := h
  rw [h1]
  rcases e with ⟨t, x⟩ | y
  · by_cases ht : t = 6
    · subst ht
      rcases h5 a x ha with ⟨rfl, -⟩ | ⟨rfl, -⟩
      · exact Nat.lt_of_lt_of_le h3.1 h2.1
      · exact Nat.lt_of_lt_of_le h3.2 h2.1
    · exact (Array.getElem?_eq_some_iff.mp (h6 a t x ha ht).2).1
  · exact (h7 a y ha).2.lt
theorem q_H.fresh {G : qC} {M : qM} {H : Heap} (h : q_H G M H) {a : Nat} (ha : M.1 ≤ a) : M.2 a = none := by
  cases he : M.2 a with
  | none => rfl
  | some e => have := h.lt he; omega
/-- one cell is written -/
theorem q_H.setA {G : qC} {M : qM} {H H1 : Heap} {a t : Nat} {x x1 : vp_A} (h : q_H G M H) (ha : M.2 a = some (.inl (t, x))) (ht : t ≠ 6) (hz : H1.size = H.size) (hq : ∀ q : Nat, q ≠ a → H1[q]? = H[q]?) (hc : H1[a]? = some (vp_cell (G.2.1 t) x1)) : q_H G (q_set M a (.inl (t, x1))) H1 := by
  obtain ⟨h1, h2, h3, h4, h5, h6, h7⟩ := h
  have hA := (h6 a t x ha ht).1
  have no : G.2.2.2.1 ≠ a := fun e => by have := h3.1; omega
  have nw : G.2.2.2.2 ≠ a := fun e => by have := h3.2; omega
  refine ⟨h1.trans hz.symm, ⟨by rw [hz]; exact h2.1, fun q hl => by rw [hq q (by omega)]; exact h2.2 q hl⟩, h3, ⟨(va_up_ne _ _ no).trans h4.1, (va_up_ne _ _ nw).trans h4.2⟩, ?_, ?_, ?_⟩
  · intro b y hb
    by_cases e : b = a
    · subst e
      have : some (Sum.inl (t, x1)) = some (Sum.inl (6, y)) := (va_up_self M.2 b (some (Sum.inl (t, x1) : qE))).symm.trans hb
      cases this
      exact absurd rfl ht
    · exact h5 b y ((va_up_ne _ _ e).symm.trans hb)
  · intro b t2 y hb ht2
    by_cases e : b = a
    · subst e
      have : some (Sum.inl (t, x1) : qE) = some (Sum.inl (t2, y)) := (va_up_self M.2 b (some (Sum.inl (t, x1) : qE))).symm.trans hb
      cases this
      exact ⟨hA, hc⟩
    · obtain ⟨g1, g2⟩ := h6 b t2 y ((va_up_ne _ _ e).symm.trans hb) ht2
      exact ⟨g1, by rw [hq b e]; exact g2⟩
  · intro b y hb
    by_cases e : b = a
    · subst e
      have : some (Sum.inl (t, x1) : qE) = some (Sum.inr y) := (va_up_self M.2 b (some (Sum.inl (t, x1) : qE))).symm.trans hb
      cases this
    · obtain ⟨g1, g2⟩ := h7 b y ((va_up_ne _ _ e).symm.trans hb)
      exact ⟨g1, g2.kept (hq b e)⟩
theorem q_H.setO {G : qC} {M : qM} {H H1 : Heap} {a : Nat} {y y1 : Nat × List Value} (h : q_H G M H) (ha : M.2 a = some (.inr y)) (hz : H1.size = H.size) (hq : ∀ q : Nat, q ≠ a → H1[q]? = H[q]?) (hc : va_at G.1 vwCl (a, .inr y1) H1) : q_H G (q_set M a (.inr y1)) H1 := by
  obtain ⟨h1, h2, h3, h4, h5, h6, h7⟩ := h
  have hA := (h7 a y ha).1
  have no : G.2.2.2.1 ≠ a := fun e => by have := h3.1; omega
  have nw : G.2.2.2.2 ≠ a := fun e => by have := h3.2; omega
  refine ⟨h1.trans hz.symm, ⟨by rw [hz]; exact h2.1, fun q hl => by rw [hq q (by omega)]; exact h2.2 q hl⟩, h3, ⟨(va_up_ne _ _ no).trans h4.1, (va_up_ne _ _ nw).trans h4.2⟩, ?_, ?_, ?_⟩
  · intro b z hb
    by_cases e : b = a
    · subst e
      have : some (Sum.inr y1 : qE) = some (Sum.inl (6, z)) := (va_up_self M.2 b (some (Sum.inr y1 : qE))).symm.trans hb
      cases this
    · exact h5 b z ((va_up_ne _ _ e).symm.trans hb)
  · intro b t2 z hb ht2
    by_cases e : b = a
    · subst e
      have : some (Sum.inr y1 : qE) = some (Sum.inl (t2, z)) := (va_up_self M.2 b (some (Sum.inr y1 : qE))).symm.trans hb
      cases this
    · obtain ⟨g1, g2⟩ := h6 b t2 z ((va_up_ne _ _ e).symm.trans hb) ht2
      exact ⟨g1, by rw [hq b e]; exact g2⟩
  · intro b z hb
    by_cases e : b = a
    · subst e
      have : some (Sum.inr y1 : qE) = some (Sum.inr z) := (va_up_self M.2 b (some (Sum.inr y1 : qE))).symm.trans hb
      cases this
      exact ⟨hA, hc⟩
    · obtain ⟨g1, g2⟩ := h7 b z ((va_up_ne _ _ e).symm.trans hb)
      exact ⟨g1, g2.kept (hq b e)⟩
/-- one cell is made -/
theorem q_H.push {G : qC} {M : qM} {H H1 : Heap} {en : qE} (h : q_H G M H) (hz : H1.size = H.size + 1) (hq : ∀ q : Nat, q < H.size → H1[q]? = H[q]?) (he : (∃ (t : Nat) (x : vp_A), en = .inl (t, x) ∧ t ≠ 6 ∧ H1[H.size]? = some (vp_cell (G.2.1 t) x)) ∨ (∃ y : Nat × List Value, en = .inr y ∧ va_at G.1 vwCl (H.size, .inr y) H1)) : q_H G (q_new M en) H1 := by
  have hlt := fun (a : Nat) (e : qE) (ha : M.2 a = some e) => h.lt ha
  obtain ⟨h1, h2, h3, h4, h5, h6, h7⟩ := h
  have hA : G.2.2.1.size ≤ M.1 := by rw [h1]; exact h2.1
  have no : G.2.2.2.1 ≠ M.1 := fun e => by have := h3.1; omega
  have nw : G.2.2.2.2 ≠ M.1 := fun e => by have := h3.2; omega
  have hk : ∀ q : Nat, q < M.1 → H1[q]? = H[q]? := fun q hl => hq q (by rw [← h1]; exact hl)
  refine ⟨by show M.1 + 1 = _; rw [hz, h1], ⟨by rw [hz]; exact Nat.le_succ_of_le h2.1, fun q hl => by rw [hk q (by omega)]; exact h2.2 q hl⟩, h3, ⟨(va_up_ne _ _ no).trans h4.1, (va_up_ne _ _ nw).trans h4.2⟩, ?_, ?_, ?_⟩
  · intro b z hb
    by_cases e : b = M.1
    · have e2 : some en = some (Sum.inl (6, z)) := by rw [← hb, e]; exact (va_up_self M.2 M.1 (some en)).symm
      rcases he with ⟨t, x, rfl, g, -⟩ | ⟨y, rfl, -⟩
      · cases e2; exact absurd rfl g
      · cases e2
    · exact h5 b z ((va_up_ne _ _ e).symm.trans hb)
  · intro b t2 z hb ht2
    by_cases e : b = M.1
    · have e2 : some en = some (Sum.inl (t2, z)) := by rw [← hb, e]; exact (va_up_self M.2 M.1 (some en)).symm
      rcases he with ⟨t, x, rfl, g, g2⟩ | ⟨y, rfl, -⟩
      · cases e2; exact ⟨by rw [e]; exact hA, by rw [e, h1]; exact g2⟩
      · cases e2
    · have hb2 := (va_up_ne _ _ e).symm.trans hb
      obtain ⟨g1, g2⟩ := h6 b t2 z hb2 ht2
      exact ⟨g1, by rw [hk b (hlt b _ hb2)]; exact g2⟩
  · intro b z hb
    by_cases e : b = M.1
    · have e2 : some en = some (Sum.inr z) := by rw [← hb, e]; exact (va_up_self M.2 M.1 (some en)).symm
      rcases he with ⟨t, x, rfl, -, -⟩ | ⟨y, rfl, g2⟩
      · cases e2
      · cases e2; exact ⟨by rw [e]; exact hA, by rw [e, h1]; exact g2⟩
    · have hb2 := (va_up_ne _ _ e).symm.trans hb
      obtain ⟨g1, g2⟩ := h7 b z hb2
      exact ⟨g1, g2.kept (hk b (hlt b _ hb2))⟩
theorem q_S.push {A : Nat → Prop} {H0 H H1 : Heap} {locs : List Loc} (h : va_S A H0 H locs) (hz : H1.size = H.size + 1) (hq : ∀ q : Nat, q < H.size → H1[q]? = H[q]?) : va_S A H0 H1 locs :=
  ⟨Nat.le_trans h.1 (by omega), fun q a b => (hq q (Nat.lt_of_lt_of_le a h.1)).trans (h.2.1 q a b), h.2.2⟩
/-! locals -/
def q_lg : qLv → Nat → Option Value
  | [], _ => none
  | q :: l, i => if q.1 = i then some q.2 else q_lg l i
def q_cat : Value → Nat
  | .int _ => 1
  | .long _ => 2
  | .float _ => 1
  | .double _ => 2
  | .null => 1
  | .ref _ => 1
  | .retAddr _ => 1
def q_ld : qLv → Nat → qLv
  | [], _ => []
  | q :: l, i => if q.1 = i ∨ (q.1 + 1 = i ∧ q_cat q.2 = 2) then q_ld l i else q :: q_ld l i
def q_ls (l : qLv) (i : Nat) (v : Value) : qLv := (i, v) :: q_ld l i
def q_ls2 (l : qLv) (i : Nat) (v : Value) : qLv := (i, v) :: q_ld (l.filter (fun q => !(q.1 == i + 1))) i
def q_wd : List Value → Nat
  | [] => 0
  | v :: l => q_cat v + q_wd l
theorem q_cat_eq (v : Value) : v.category = q_cat v := by cases v <;> rfl
theorem q_lg_at {ls : Array Slot} {nL : Nat} {i : Nat} {v : Value} : ∀ {l : qLv}, lv_has ls nL l → q_lg l i = some v → ls[i]? = some (.val v)
  | [], _, h => by cases h
  | q :: l, h, hg => by
    unfold q_lg at hg
    by_cases e : q.1 = i
    · rw [if_pos e] at hg
      cases hg
      rw [← e]
      exact h.2.2 q List.mem_cons_self
    · rw [if_neg e] at hg
      exact q_lg_at ⟨h.1, h.2.1, fun x hx => h.2.2 x (List.mem_cons_of_mem _ hx)⟩ hg
theorem q_ld_eq (i : Nat) : ∀ l : qLv, q_ld l i = l.filter (fun q => !(q.1 == i) && !(q.1 + 1 == i && q.2.category == 2))
  | [] => rfl
  | q :: l => by
    unfold q_ld
    rw [q_ld_eq i l, List.filter_cons, q_cat_eq]
    by_cases h1 : q.1 = i
    · simp [h1]
    · by_cases h2 : q.1 + 1 = i ∧ q_cat q.2 = 2
      · simp [h1, h2]
      · rw [if_neg (fun z => z.elim h1 h2), if_pos]
        simp only [Bool.and_eq_true, Bool.not_eq_true', beq_eq_false_iff_ne, ne_eq, h1, not_false_eq_true, true_and, Bool.and_eq_false_iff]
        by_cases h3 : q.1 + 1 = i
        · exact Or.inr (fun z => h2 ⟨h3, z⟩)
        · exact Or.inl h3
theorem q_ls2_eq (i : Nat) (l : qLv) : q_ld (l.filter (fun q => !(q.1 == i + 1))) i = l.filter (fun q => !(q.1 == i) && (!(q.1 == i + 1) && !(q.1 + 1 == i && q.2.category == 2))) := by
  rw [q_ld_eq, List.filter_filter]
  congr 1
  funext q
  cases (q.1 == i) <;> cases (q.1 == i + 1) <;> cases (q.1 + 1 == i && q.2.category == 2) <;> rfl
theorem q_wd_eq : ∀ l : List Value, (l.map fun v => v.category).sum = q_wd l
  | [] => rfl
  | v :: l => by rw [List.map_cons, List.sum_cons, q_wd_eq l, q_cat_eq]; rfl
theorem q_wd_sl : ∀ l : List Value, (lg_sl l).length = q_wd l
  | [] => rfl
  | v :: l => by
    have h := q_wd_sl l
    unfold lg_sl at h ⊢
    rw [List.flatMap_cons, List.length_append, h]
    cases v <;> simp [q_wd, q_cat, Value.category]
/-! operations -/
abbrev qKt : Type := Nat → qLv → List Value → qM → Nat → Nat → Prop
abbrev qCt : Type := qMI → Nat → Nat → List Value → qM → (Option Value → qM → Prop) → Prop
abbrev qRt : Type := Option Value → qM → Nat → Nat → Prop
/-- after a call; the calls; the return; depth; cells and slots that may be made; the two tables -/
abbrev qB : Type := qKt × qCt × qRt × Nat × Nat × Nat × Nat × Nat
abbrev qP : Type := qLv → List Value → qM → Nat → Nat → qB → qKt → Prop
def q_pop : Nat → List Value → List Value → Option (List Value × List Value)
  | 0, acc, st => some (acc, st)
  | _ + 1, _, [] => none
  | n + 1, acc, v :: st => q_pop n (v :: acc) st
theorem q_pop_spec : ∀ (n : Nat) (acc st As r : List Value), q_pop n acc st = some (As, r) → ∃ t : List Value, As = t.reverse ++ acc ∧ st = t ++ r ∧ t.length = n
  | 0, acc, st, As, r, h => by
    cases h
    exact ⟨[], rfl, rfl, rfl⟩
  | n + 1, acc, [], As, r, h => by cases h
  | n + 1, acc, v :: st, As, r, h => by
    obtain ⟨t, h1, h2, h3⟩ := q_pop_spec n (v :: acc) st As r h
    exact ⟨v :: t, by rw [h1]; simp, by rw [h2]; rfl, by rw [← h3]; rfl⟩
def q_rm (d mc ms : Nat) : Room := { frames := d, cells := mc, slots := ms, locals := 40 * d }
def q_Q (G : qC) (Q : Option Value → qM → Prop) : Array Value → State → Outcome → State → Prop := fun _ st oc t => ∃ (r : Option Value) (M : qM), oc = .returned r ∧ Q r M ∧ q_H G M t.heap ∧ st.heap.size ≤ t.heap.size
def q_Pc (G : qC) (M : qM) : State → Prop := fun U => q_K G U ∧ q_H G M U.heap
def q_ws (mi : qMI) : List Cond := Cond.code mi.1 mi.2.1 mi.2.2.1 mi.2.2.2 :: q_gw
def q_Ev (G : qC) (mi : qMI) (p : Program) (σ : State) (m : MethodId) (args : Array Value) (meth : Method) (c : Code) : Prop :=
  p.tables.exec = Jvm.exec ∧ c.code = mi.2.1 ∧ c.maxLocals = mi.2.2.1 ∧ σ.vm.findClass mi.1.cls = some m.cls ∧ (∀ w ∈ q_gw, w.before args σ = true) ∧ meth.sig.returnType = mi.2.2.2 ∧ meth.locks = false ∧ meth.name = mi.1.name ∧ q_K G σ ∧ q_Pf G σ.heap
def q_Y (G : qC) (L : Launch) (R : Room) (mi : qMI) (Z : State → Prop) (p : Program) (e : Env) (σ : State) (m : MethodId) (args : Array Value) (below : List Frame) (meth : Method) (c : Code) : qKt := fun pc l st M cs ss =>
  ∀ (H : Heap) (locs : List Loc) (ls : Array Slot), lv_has ls mi.2.2.1 l → q_H G M H → va_S (q_A G) σ.heap H locs → W p L e R σ m args below meth c H locs cs ss Z (F0 m pc ls st)
def q_BOk (G : qC) (L : Launch) (R : Room) (mi : qMI) (Z : State → Prop) (p : Program) (e : Env) (σ : State) (m : MethodId) (args : Array Value) (below : List Frame) (meth : Method) (c : Code) (B : qB) : Prop :=
  (∀ pc l st M cs ss, B.1 pc l st M cs ss → q_Y G L R mi Z p e σ m args below meth c pc l st M cs ss) ∧
  (∀ (mi' : qMI) (mc ms : Nat) (As : List Value) (M : qM) (Q : Option Value → qM → Prop), plainName mi'.1.cls = true → B.2.1 mi' mc ms As M Q → ∃ d' : Nat, d' + 1 ≤ R.frames ∧ 40 * (d' + 1) ≤ R.locals ∧ Met L mi'.1 (q_ws mi') (q_rm d' mc ms) (va_Pc As (q_Pc G M)) (q_Q G Q) mc ms (q_A G)) ∧
  (∀ (pc : Nat) (l : qLv) (st : List Value) (r : Option Value) (M : qM) (cs ss : Nat), B.2.2.1 r M cs ss →
    ((∃ (v : Int32) (ty : FieldType), r = some (.int v) ∧ st = [.int v] ∧ mi.2.2.2 = some ty ∧ narrow ty (.int v) = .int v ∧ decode mi.2.1 pc = .ok (.ireturn, 1)) ∨
     (∃ v : Int64, r = some (.long v) ∧ st = [.long v] ∧ mi.2.2.2 = some .long ∧ decode mi.2.1 pc = .ok (.lreturn, 1)) ∨
     (∃ (v : Value) (n : String), r = some v ∧ st = [v] ∧ mi.2.2.2 = some (.object n) ∧ (v = .null ∨ ∃ a, v = .ref a) ∧ decode mi.2.1 pc = .ok (.areturn, 1)) ∨
     (r = none ∧ st = [] ∧ mi.2.2.2 = none ∧ decode mi.2.1 pc = .ok (.return_, 1))) → q_Y G L R mi Z p e σ m args below meth c pc l st M cs ss) ∧
  (B.2.2.2.1 ≤ R.frames ∧ 40 * B.2.2.2.1 ≤ R.locals) ∧ B.2.2.2.2.1 ≤ R.cells ∧ B.2.2.2.2.2.1 ≤ R.slots ∧ B.2.2.2.2.2.2.1 = G.2.2.2.1 ∧ B.2.2.2.2.2.2.2 = G.2.2.2.2
/-- an operation speaks truly of the instruction at a place -/
def q_Ok (mi : qMI) (pc : Nat) (T : qP) : Prop :=
  ∀ (G : qC) (L : Launch) (R : Room) (Z : State → Prop) (p : Program) (e : Env) (σ : State) (m : MethodId) (args : Array Value) (below : List Frame) (meth : Method) (c : Code), q_Ev G mi p σ m args meth c → ∀ B : qB, q_BOk G L R mi Z p e σ m args below meth c B →
    ∀ K : qKt, (∀ pc l st M cs ss, K pc l st M cs ss → q_Y G L R mi Z p e σ m args below meth c pc l st M cs ss) → ∀ l st M cs ss, T l st M cs ss B K → q_Y G L R mi Z p e σ m args below meth c pc l st M cs ss

def oK (v : Value) (n : Nat) : qP := fun l st M c s _ K => K n l (v :: st) M c s
theorem ok_iconst {mi : qMI} {pc n : Nat} {k : Int} {v : Int32} (hd : decode mi.2.1 pc = .ok (.iconst k, 1)) (hn : pc + 1 = n) (hv : Int32.ofInt k = v) : q_Ok mi pc (oK (.int v) n) := by
  intro G L R Z p e σ m args below meth c E B hB K hK l st M cs ss h H locs ls hl hH hS
  subst hn
  exact lv_iconst E.1 E.2.1 hd hv (hK _ _ _ _ _ _ h H locs ls hl hH hS)
theorem ok_bipush {mi : qMI} {pc n : Nat} {k : Int} {v : Int32} (hd : decode mi.2.1 pc = .ok (.bipush k, 2)) (hn : pc + 2 = n) (hv : (Int8.ofInt k).toInt32 = v) : q_Ok mi pc (oK (.int v) n) := by
  intro G L R Z p e σ m args below meth c E B hB K hK l st M cs ss h H locs ls hl hH hS
  subst hn
  exact lv_bipush E.1 E.2.1 hd hv (hK _ _ _ _ _ _ h H locs ls hl hH hS)
theorem ok_sipush {mi : qMI} {pc n : Nat} {k : Int} {v : Int32} (hd : decode mi.2.1 pc = .ok (.sipush k, 3)) (hn : pc + 3 = n) (hv : (Int16.ofInt k).toInt32 = v) : q_Ok mi pc (oK (.int v) n) := by
  intro G L R Z p e σ m args below meth c E B hB K hK l st M cs ss h H locs ls hl hH hS
  subst hn
  exact lv_sipush E.1 E.2.1 hd hv (hK _ _ _ _ _ _ h H locs ls hl hH hS)
theorem ok_lconst {mi : qMI} {pc n : Nat} {k : Fin 2} {v : Int64} (hd : decode mi.2.1 pc = .ok (.lconst k, 1)) (hn : pc + 1 = n) (hv : Int64.ofNat (k : Nat) = v) : q_Ok mi pc (oK (.long v) n) := by
  intro G L R Z p e σ m args below meth c E B hB K hK l st M cs ss h H locs ls hl hH hS
  subst hn
  exact lv_lconst E.1 E.2.1 hd hv (hK _ _ _ _ _ _ h H locs ls hl hH hS)
theorem ok_null {mi : qMI} {pc n : Nat} (hd : decode mi.2.1 pc = .ok (.aconst_null, 1)) (hn : pc + 1 = n) : q_Ok mi pc (oK .null n) := by
  intro G L R Z p e σ m args below meth c E B hB K hK l st M cs ss h H locs ls hl hH hS
  subst hn
  exact lv_null E.1 E.2.1 hd (hK _ _ _ _ _ _ h H locs ls hl hH hS)
theorem ok_ldc {mi : qMI} {pc n : Nat} {k : Nat} {v : Int32} (hd : decode mi.2.1 pc = .ok (.ldc k, 2)) (hn : pc + 2 = n) (hc : Cond.constant mi.1.cls k v ∈ q_gw) : q_Ok mi pc (oK (.int v) n) := by
  intro G L R Z p e σ m args below meth c E B hB K hK l st M cs ss h H locs ls hl hH hS
  subst hn
  exact lv_ldc E.1 E.2.1 E.2.2.2.1 (E.2.2.2.2.1 _ hc) hd (hK _ _ _ _ _ _ h H locs ls hl hH hS)
theorem ok_ldc2 {mi : qMI} {pc n : Nat} {k : Nat} {v : Int64} (hd : decode mi.2.1 pc = .ok (.ldc2_w k, 3)) (hn : pc + 3 = n) (hc : Cond.constantLong mi.1.cls k v ∈ q_gw) : q_Ok mi pc (oK (.long v) n) := by
  intro G L R Z p e σ m args below meth c E B hB K hK l st M cs ss h H locs ls hl hH hS
  subst hn
  exact lv_ldc2 E.1 E.2.1 E.2.2.2.1 (E.2.2.2.2.1 _ hc) hd (hK _ _ _ _ _ _ h H locs ls hl hH hS)
def oIl (i n : Nat) : qP := fun l st M c s _ K => match q_lg l i with
  | some (.int x) => K n l (.int x :: st) M c s
  | _ => False
def oLl (i n : Nat) : qP := fun l st M c s _ K => match q_lg l i with
  | some (.long x) => K n l (.long x :: st) M c s
  | _ => False
def oAl (i n : Nat) : qP := fun l st M c s _ K => match q_lg l i with
  | some (.ref x) => K n l (.ref x :: st) M c s
  | some .null => K n l (.null :: st) M c s
  | _ => False
theorem ok_iload_n {mi : qMI} {pc n : Nat} {k : Fin 4} {i : Nat} (hd : decode mi.2.1 pc = .ok (.iload_n k, 1)) (hi : (k : Nat) = i) (hn : pc + 1 = n) : q_Ok mi pc (oIl i n) := by
  intro G L R Z p e σ m args below meth c E B hB K hK l st M cs ss h H locs ls hl hH hS
  unfold oIl at h
  split at h
  · next x hx => subst hn; exact lv_iload_n E.1 E.2.1 hd hi (q_lg_at hl hx) (hK _ _ _ _ _ _ h H locs ls hl hH hS)
  · exact h.elim
theorem ok_iload {mi : qMI} {pc n : Nat} {i : Nat} (hd : decode mi.2.1 pc = .ok (.iload i, 2)) (hn : pc + 2 = n) : q_Ok mi pc (oIl i n) := by
  intro G L R Z p e σ m args below meth c E B hB K hK l st M cs ss h H locs ls hl hH hS
  unfold oIl at h
  split at h
  · next x hx => subst hn; exact lv_iload E.1 E.2.1 hd (q_lg_at hl hx) (hK _ _ _ _ _ _ h H locs ls hl hH hS)
  · exact h.elim
theorem ok_lload_n {mi : qMI} {pc n : Nat} {k : Fin 4} {i : Nat} (hd : decode mi.2.1 pc = .ok (.lload_n k, 1)) (hi : (k : Nat) = i) (hn : pc + 1 = n) : q_Ok mi pc (oLl i n) := by
  intro G L R Z p e σ m args below meth c E B hB K hK l st M cs ss h H locs ls hl hH hS
  unfold oLl at h
  split at h
  · next x hx => subst hn; exact lv_lload_n E.1 E.2.1 hd hi (q_lg_at hl hx) (hK _ _ _ _ _ _ h H locs ls hl hH hS)
  · exact h.elim
theorem ok_lload {mi : qMI} {pc n : Nat} {i : Nat} (hd : decode mi.2.1 pc = .ok (.lload i, 2)) (hn : pc + 2 = n) : q_Ok mi pc (oLl i n) := by
  intro G L R Z p e σ m args below meth c E B hB K hK l st M cs ss h H locs ls hl hH hS
  unfold oLl at h
  split at h
  · next x hx => subst hn; exact lv_lload E.1 E.2.1 hd (q_lg_at hl hx) (hK _ _ _ _ _ _ h H locs ls hl hH hS)
  · exact h.elim
theorem ok_aload_n {mi : qMI} {pc n : Nat} {k : Fin 4} {i : Nat} (hd : decode mi.2.1 pc = .ok (.aload_n k, 1)) (hi : (k : Nat) = i) (hn : pc + 1 = n) : q_Ok mi pc (oAl i n) := by
  intro G L R Z p e σ m args below meth c E B hB K hK l st M cs ss h H locs ls hl hH hS
  unfold oAl at h
  split at h
  · next x hx => subst hn; exact lv_aload_n E.1 E.2.1 hd hi (q_lg_at hl hx) (hK _ _ _ _ _ _ h H locs ls hl hH hS)
  · next hx => subst hn; exact lv_aload_nN E.1 E.2.1 hd hi (q_lg_at hl hx) (hK _ _ _ _ _ _ h H locs ls hl hH hS)
  · exact h.elim
theorem ok_aload {mi : qMI} {pc n : Nat} {i : Nat} (hd : decode mi.2.1 pc = .ok (.aload i, 2)) (hn : pc + 2 = n) : q_Ok mi pc (oAl i n) := by
  intro G L R Z p e σ m args below meth c E B hB K hK l st M cs ss h H locs ls hl hH hS
  unfold oAl at h
  split at h
  · next x hx => subst hn; exact lv_aload E.1 E.2.1 hd (q_lg_at hl hx) (hK _ _ _ _ _ _ h H locs ls hl hH hS)
  · next hx => subst hn; exact lv_aloadN E.1 E.2.1 hd (q_lg_at hl hx) (hK _ _ _ _ _ _ h H locs ls hl hH hS)
  · exact h.elim
def oIs (i n : Nat) : qP := fun l st M c s _ K => match st with
  | .int x :: r => K n (q_ls l i (.int x)) r M c s
  | _ => False
def oLs (i n : Nat) : qP := fun l st M c s _ K => match st with
  | .long x :: r => K n (q_ls2 l i (.long x)) r M c s
  | _ => False
def oAs (i n : Nat) : qP := fun l st M c s _ K => match st with
  | .ref x :: r => K n (q_ls l i (.ref x)) r M c s
  | .null :: r => K n (q_ls l i .null) r M c s
  | _ => False
def oInc (i : Nat) (v : Int32) (n : Nat) : qP := fun l st M c s _ K => match q_lg l i with
  | some (.int x) => K n (q_ls l i (.int (x + v))) st M c s
  | _ => False
theorem ok_istore_n {mi : qMI} {pc n : Nat} {k : Fin 4} {i : Nat} (hd : decode mi.2.1 pc = .ok (.istore_n k, 1)) (hi : (k : Nat) = i) (hn : pc + 1 = n) (hm : i < mi.2.2.1) : q_Ok mi pc (oIs i n) := by
  intro G L R Z p e σ m args below meth c E B hB K hK l st M cs ss h H locs ls hl hH hS
  unfold oIs at h
  split at h
  · next x r => subst hn; exact lv_istore_n E.1 E.2.1 hd hi hl hm (by unfold q_ls; rw [q_ld_eq]) (fun ls' hl' => hK _ _ _ _ _ _ h H locs ls' hl' hH hS)
  · exact h.elim
theorem ok_istore {mi : qMI} {pc n : Nat} {i : Nat} (hd : decode mi.2.1 pc = .ok (.istore i, 2)) (hn : pc + 2 = n) (hm : i < mi.2.2.1) : q_Ok mi pc (oIs i n) := by
  intro G L R Z p e σ m args below meth c E B hB K hK l st M cs ss h H locs ls hl hH hS
  unfold oIs at h
  split at h
  · next x r => subst hn; exact lv_istore E.1 E.2.1 hd hl hm (by unfold q_ls; rw [q_ld_eq]) (fun ls' hl' => hK _ _ _ _ _ _ h H locs ls' hl' hH hS)
  · exact h.elim
theorem ok_lstore_n {mi : qMI} {pc n : Nat} {k : Fin 4} {i : Nat} (hd : decode mi.2.1 pc = .ok (.lstore_n k, 1)) (hi : (k : Nat) = i) (hn : pc + 1 = n) (hm : i + 1 < mi.2.2.1) : q_Ok mi pc (oLs i n) := by
  intro G L R Z p e σ m args below meth c E B hB K hK l st M cs ss h H locs ls hl hH hS
  unfold oLs at h
  split at h
  · next x r => subst hn; exact lv_lstore_n E.1 E.2.1 hd hi hl hm (by unfold q_ls2; rw [q_ls2_eq]) (fun ls' hl' => hK _ _ _ _ _ _ h H locs ls' hl' hH hS)
  · exact h.elim
theorem ok_lstore {mi : qMI} {pc n : Nat} {i : Nat} (hd : decode mi.2.1 pc = .ok (.lstore i, 2)) (hn : pc + 2 = n) (hm : i + 1 < mi.2.2.1) : q_Ok mi pc (oLs i n) := by
  intro G L R Z p e σ m args below meth c E B hB K hK l st M cs ss h H locs ls hl hH hS
  unfold oLs at h
  split at h
  · next x r => subst hn; exact lv_lstore E.1 E.2.1 hd hl hm (by unfold q_ls2; rw [q_ls2_eq]) (fun ls' hl' => hK _ _ _ _ _ _ h H locs ls' hl' hH hS)
  · exact h.elim
theorem ok_astore_n {mi : qMI} {pc n : Nat} {k : Fin 4} {i : Nat} (hd : decode mi.2.1 pc = .ok (.astore_n k, 1)) (hi : (k : Nat) = i) (hn : pc + 1 = n) (hm : i < mi.2.2.1) : q_Ok mi pc (oAs i n) := by
  intro G L R Z p e σ m args below meth c E B hB K hK l st M cs ss h H locs ls hl hH hS
  unfold oAs at h
  split at h
  · next x r => subst hn; exact lv_astore_n E.1 E.2.1 hd hi hl hm (by unfold q_ls; rw [q_ld_eq]) (fun ls' hl' => hK _ _ _ _ _ _ h H locs ls' hl' hH hS)
  · next r => subst hn; exact lv_astore_nN E.1 E.2.1 hd hi hl hm (by unfold q_ls; rw [q_ld_eq]) (fun ls' hl' => hK _ _ _ _ _ _ h H locs ls' hl' hH hS)
  · exact h.elim
theorem ok_astore {mi : qMI} {pc n : Nat} {i : Nat} (hd : decode mi.2.1 pc = .ok (.astore i, 2)) (hn : pc + 2 = n) (hm : i < mi.2.2.1) : q_Ok mi pc (oAs i n) := by
  intro G L R Z p e σ m args below meth c E B hB K hK l st M cs ss h H locs ls hl hH hS
  unfold oAs at h
  split at h
  · next x r => subst hn; exact lv_astore E.1 E.2.1 hd hl hm (by unfold q_ls; rw [q_ld_eq]) (fun ls' hl' => hK _ _ _ _ _ _ h H locs ls' hl' hH hS)
  · next r => subst hn; exact lv_astoreN E.1 E.2.1 hd hl hm (by unfold q_ls; rw [q_ld_eq]) (fun ls' hl' => hK _ _ _ _ _ _ h H locs ls' hl' hH hS)
  · exact h.elim
theorem q_lg_mem {i : Nat} {v : Value} : ∀ {l : qLv}, q_lg l i = some v → ∃ k : Nat, l[k]? = some (i, v)
  | [], h => by cases h
  | q :: l, hg => by
    unfold q_lg at hg
    by_cases e : q.1 = i
    · rw [if_pos e] at hg
      cases hg
      exact ⟨0, by rw [← e]; rfl⟩
    · rw [if_neg e] at hg
      obtain ⟨k, hk⟩ := q_lg_mem hg
      exact ⟨k + 1, by simpa using hk⟩
theorem ok_iinc {mi : qMI} {pc n i : Nat} {k : Int} {v : Int32} (hd : decode mi.2.1 pc = .ok (.iinc i k, 3)) (hn : pc + 3 = n) (hv : Int32.ofInt k = v) (hm : i < mi.2.2.1) : q_Ok mi pc (oInc i v n) := by
  intro G L R Z p e σ m args below meth c E B hB K hK l st M cs ss h H locs ls hl hH hS
  unfold oInc at h
  split at h
  · next x hx =>
    subst hn
    obtain ⟨k, hk⟩ := q_lg_mem hx
    exact lv_iinc E.1 E.2.1 hd hl hk (by rw [hv]) hm (by unfold q_ls; rw [q_ld_eq]) (fun ls' hl' => hK _ _ _ _ _ _ h H locs ls' hl' hH hS)
  · exact h.elim
def oDup (n : Nat) : qP := fun l st M c s _ K => match st with
  | v :: r => q_cat v = 1 ∧ K n l (v :: v :: r) M c s
  | _ => False
def oDup2 (n : Nat) : qP := fun l st M c s _ K => match st with
  | v :: u :: r => q_cat v = 1 ∧ q_cat u = 1 ∧ K n l (v :: u :: v :: u :: r) M c s
  | _ => False
def oPop (n : Nat) : qP := fun l st M c s _ K => match st with
  | v :: r => q_cat v = 1 ∧ K n l r M c s
  | _ => False
theorem ok_dup {mi : qMI} {pc n : Nat} (hd : decode mi.2.1 pc = .ok (.dup, 1)) (hn : pc + 1 = n) : q_Ok mi pc (oDup n) := by
  intro G L R Z p e σ m args below meth c E B hB K hK l st M cs ss h H locs ls hl hH hS
  unfold oDup at h
  split at h
  · next v r => subst hn; exact lv_dup E.1 E.2.1 hd (by rw [q_cat_eq]; exact h.1) (hK _ _ _ _ _ _ h.2 H locs ls hl hH hS)
  · exact h.elim
theorem ok_pop {mi : qMI} {pc n : Nat} (hd : decode mi.2.1 pc = .ok (.pop, 1)) (hn : pc + 1 = n) : q_Ok mi pc (oPop n) := by
  intro G L R Z p e σ m args below meth c E B hB K hK l st M cs ss h H locs ls hl hH hS
  unfold oPop at h
  split at h
  · next v r => subst hn; exact lv_pop E.1 E.2.1 hd (by rw [q_cat_eq]; exact h.1) (hK _ _ _ _ _ _ h.2 H locs ls hl hH hS)
  · exact h.elim
theorem ok_dup2 {mi : qMI} {pc n : Nat} (hd : decode mi.2.1 pc = .ok (.dup2, 1)) (hn : pc + 1 = n) : q_Ok mi pc (oDup2 n) := by
  intro G L R Z p e σ m args below meth c E B hB K hK l st M cs ss h H locs ls hl hH hS
  unfold oDup2 at h
  split at h
  · next v u r => subst hn; exact lv_dup2_11 E.1 E.2.1 hd (by rw [q_cat_eq]; exact h.1) (by rw [q_cat_eq]; exact h.2.1) (hK _ _ _ _ _ _ h.2.2 H locs ls hl hH hS)
  · exact h.elim
def oAdd (n : Nat) : qP := fun l st M c s _ K => match st with
  | .int y :: .int x :: r => K n l (.int (x + y) :: r) M c s
  | _ => False
theorem ok_iadd {mi : qMI} {pc n : Nat} (hd : decode mi.2.1 pc = .ok (.iadd, 1)) (hn : pc + 1 = n) : q_Ok mi pc (oAdd n) := by
  intro G L R Z p e σ m args below meth c E B hB K hK l st M cs ss h H locs ls hl hH hS
  unfold oAdd at h
  split at h
  · subst hn; exact lv_iadd E.1 E.2.1 hd (hK _ _ _ _ _ _ h H locs ls hl hH hS)
  · exact h.elim
def oSub (n : Nat) : qP := fun l st M c s _ K => match st with
  | .int y :: .int x :: r => K n l (.int (x - y) :: r) M c s
  | _ => False
theorem ok_isub {mi : qMI} {pc n : Nat} (hd : decode mi.2.1 pc = .ok (.isub, 1)) (hn : pc + 1 = n) : q_Ok mi pc (oSub n) := by
  intro G L R Z p e σ m args below meth c E B hB K hK l st M cs ss h H locs ls hl hH hS
  unfold oSub at h
  split at h
  · subst hn; exact lv_isub E.1 E.2.1 hd (hK _ _ _ _ _ _ h H locs ls hl hH hS)
  · exact h.elim
def oMul (n : Nat) : qP := fun l st M c s _ K => match st with
  | .int y :: .int x :: r => K n l (.int (x * y) :: r) M c s
  | _ => False
theorem ok_imul {mi : qMI} {pc n : Nat} (hd : decode mi.2.1 pc = .ok (.imul, 1)) (hn : pc + 1 = n) : q_Ok mi pc (oMul n) := by
  intro G L R Z p e σ m args below meth c E B hB K hK l st M cs ss h H locs ls hl hH hS
  unfold oMul at h
  split at h
  · subst hn; exact lv_imul E.1 E.2.1 hd (hK _ _ _ _ _ _ h H locs ls hl hH hS)
  · exact h.elim
def oAnd (n : Nat) : qP := fun l st M c s _ K => match st with
  | .int y :: .int x :: r => K n l (.int (x &&& y) :: r) M c s
  | _ => False
theorem ok_iand {mi : qMI} {pc n : Nat} (hd : decode mi.2.1 pc = .ok (.iand, 1)) (hn : pc + 1 = n) : q_Ok mi pc (oAnd n) := by
  intro G L R Z p e σ m args below meth c E B hB K hK l st M cs ss h H locs ls hl hH hS
  unfold oAnd at h
  split at h
  · subst hn; exact lv_iand E.1 E.2.1 hd (hK _ _ _ _ _ _ h H locs ls hl hH hS)
  · exact h.elim
def oOr (n : Nat) : qP := fun l st M c s _ K => match st with
  | .int y :: .int x :: r => K n l (.int (x ||| y) :: r) M c s
  | _ => False
theorem ok_ior {mi : qMI} {pc n : Nat} (hd : decode mi.2.1 pc = .ok (.ior, 1)) (hn : pc + 1 = n) : q_Ok mi pc (oOr n) := by
  intro G L R Z p e σ m args below meth c E B hB K hK l st M cs ss h H locs ls hl hH hS
  unfold oOr at h
  split at h
  · subst hn; exact lv_ior E.1 E.2.1 hd (hK _ _ _ _ _ _ h H locs ls hl hH hS)
  · exact h.elim
def oXor (n : Nat) : qP := fun l st M c s _ K => match st with
  | .int y :: .int x :: r => K n l (.int (x ^^^ y) :: r) M c s
  | _ => False
theorem ok_ixor {mi : qMI} {pc n : Nat} (hd : decode mi.2.1 pc = .ok (.ixor, 1)) (hn : pc + 1 = n) : q_Ok mi pc (oXor n) := by
  intro G L R Z p e σ m args below meth c E B hB K hK l st M cs ss h H locs ls hl hH hS
  unfold oXor at h
  split at h
  · subst hn; exact lv_ixor E.1 E.2.1 hd (hK _ _ _ _ _ _ h H locs ls hl hH hS)
  · exact h.elim
def oShl (n : Nat) : qP := fun l st M c s _ K => match st with
  | .int y :: .int x :: r => K n l (.int (x <<< (y &&& 31)) :: r) M c s
  | _ => False
theorem ok_ishl {mi : qMI} {pc n : Nat} (hd : decode mi.2.1 pc = .ok (.ishl, 1)) (hn : pc + 1 = n) : q_Ok mi pc (oShl n) := by
  intro G L R Z p e σ m args below meth c E B hB K hK l st M cs ss h H locs ls hl hH hS
  unfold oShl at h
  split at h
  · subst hn; exact lv_ishl E.1 E.2.1 hd (hK _ _ _ _ _ _ h H locs ls hl hH hS)
  · exact h.elim
def oShr (n : Nat) : qP := fun l st M c s _ K => match st with
  | .int y :: .int x :: r => K n l (.int (x >>> (y &&& 31)) :: r) M c s
  | _ => False
theorem ok_ishr {mi : qMI} {pc n : Nat} (hd : decode mi.2.1 pc = .ok (.ishr, 1)) (hn : pc + 1 = n) : q_Ok mi pc (oShr n) := by
  intro G L R Z p e σ m args below meth c E B hB K hK l st M cs ss h H locs ls hl hH hS
  unfold oShr at h
  split at h
  · subst hn; exact lv_ishr E.1 E.2.1 hd (hK _ _ _ _ _ _ h H locs ls hl hH hS)
  · exact h.elim
def oUshr (n : Nat) : qP := fun l st M c s _ K => match st with
  | .int y :: .int x :: r => K n l (.int ((x.toUInt32 >>> (y.toUInt32 &&& Int32.toUInt32 31)).toInt32) :: r) M c s
  | _ => False
theorem ok_iushr {mi : qMI} {pc n : Nat} (hd : decode mi.2.1 pc = .ok (.iushr, 1)) (hn : pc + 1 = n) : q_Ok mi pc (oUshr n) := by
  intro G L R Z p e σ m args below meth c E B hB K hK l st M cs ss h H locs ls hl hH hS
  unfold oUshr at h
  split at h
  · subst hn; exact lv_iushr E.1 E.2.1 hd rfl (hK _ _ _ _ _ _ h H locs ls hl hH hS)
  · exact h.elim
def oDiv (n : Nat) : qP := fun l st M c s _ K => match st with
  | .int y :: .int x :: r => ¬ y = 0 ∧ K n l (.int (x / y) :: r) M c s
  | _ => False
theorem ok_idiv {mi : qMI} {pc n : Nat} (hd : decode mi.2.1 pc = .ok (.idiv, 1)) (hn : pc + 1 = n) : q_Ok mi pc (oDiv n) := by
  intro G L R Z p e σ m args below meth c E B hB K hK l st M cs ss h H locs ls hl hH hS
  unfold oDiv at h
  split at h
  · subst hn; exact lv_idiv E.1 E.2.1 hd h.1 (hK _ _ _ _ _ _ h.2 H locs ls hl hH hS)
  · exact h.elim
def oRem (n : Nat) : qP := fun l st M c s _ K => match st with
  | .int y :: .int x :: r => ¬ y = 0 ∧ K n l (.int (x - x / y * y) :: r) M c s
  | _ => False
theorem ok_irem {mi : qMI} {pc n : Nat} (hd : decode mi.2.1 pc = .ok (.irem, 1)) (hn : pc + 1 = n) : q_Ok mi pc (oRem n) := by
  intro G L R Z p e σ m args below meth c E B hB K hK l st M cs ss h H locs ls hl hH hS
  unfold oRem at h
  split at h
  · subst hn; exact lv_irem E.1 E.2.1 hd h.1 (hK _ _ _ _ _ _ h.2 H locs ls hl hH hS)
  · exact h.elim
def oLmul (n : Nat) : qP := fun l st M c s _ K => match st with
  | .long y :: .long x :: r => K n l (.long (x * y) :: r) M c s
  | _ => False
theorem ok_lmul {mi : qMI} {pc n : Nat} (hd : decode mi.2.1 pc = .ok (.lmul, 1)) (hn : pc + 1 = n) : q_Ok mi pc (oLmul n) := by
  intro G L R Z p e σ m args below meth c E B hB K hK l st M cs ss h H locs ls hl hH hS
  unfold oLmul at h
  split at h
  · subst hn; exact lv_lmul E.1 E.2.1 hd (hK _ _ _ _ _ _ h H locs ls hl hH hS)
  · exact h.elim
def oLand (n : Nat) : qP := fun l st M c s _ K => match st with
  | .long y :: .long x :: r => K n l (.long (x &&& y) :: r) M c s
  | _ => False
theorem ok_land {mi : qMI} {pc n : Nat} (hd : decode mi.2.1 pc = .ok (.land, 1)) (hn : pc + 1 = n) : q_Ok mi pc (oLand n) := by
  intro G L R Z p e σ m args below meth c E B hB K hK l st M cs ss h H locs ls hl hH hS
  unfold oLand at h
  split at h
  · subst hn; exact lv_land E.1 E.2.1 hd (hK _ _ _ _ _ _ h H locs ls hl hH hS)
  · exact h.elim
def oLor (n : Nat) : qP := fun l st M c s _ K => match st with
  | .long y :: .long x :: r => K n l (.long (x ||| y) :: r) M c s
  | _ => False
theorem ok_lor {mi : qMI} {pc n : Nat} (hd : decode mi.2.1 pc = .ok (.lor, 1)) (hn : pc + 1 = n) : q_Ok mi pc (oLor n) := by
  intro G L R Z p e σ m args below meth c E B hB K hK l st M cs ss h H locs ls hl hH hS
  unfold oLor at h
  split at h
  · subst hn; exact lv_lor E.1 E.2.1 hd (hK _ _ _ _ _ _ h H locs ls hl hH hS)
  · exact h.elim
def oLshl (n : Nat) : qP := fun l st M c s _ K => match st with
  | .int y :: .long x :: r => K n l (.long (x <<< (y.toInt64 &&& 63)) :: r) M c s
  | _ => False
theorem ok_lshl {mi : qMI} {pc n : Nat} (hd : decode mi.2.1 pc = .ok (.lshl, 1)) (hn : pc + 1 = n) : q_Ok mi pc (oLshl n) := by
  intro G L R Z p e σ m args below meth c E B hB K hK l st M cs ss h H locs ls hl hH hS
  unfold oLshl at h
  split at h
  · subst hn; exact lv_lshl E.1 E.2.1 hd rfl (hK _ _ _ _ _ _ h H locs ls hl hH hS)
  · exact h.elim
def oLshr (n : Nat) : qP := fun l st M c s _ K => match st with
  | .int y :: .long x :: r => K n l (.long (x >>> (y.toInt64 &&& 63)) :: r) M c s
  | _ => False
theorem ok_lshr {mi : qMI} {pc n : Nat} (hd : decode mi.2.1 pc = .ok (.lshr, 1)) (hn : pc + 1 = n) : q_Ok mi pc (oLshr n) := by
  intro G L R Z p e σ m args below meth c E B hB K hK l st M cs ss h H locs ls hl hH hS
  unfold oLshr at h
  split at h
  · subst hn; exact lv_lshr E.1 E.2.1 hd rfl (hK _ _ _ _ _ _ h H locs ls hl hH hS)
  · exact h.elim
def oLushr (n : Nat) : qP := fun l st M c s _ K => match st with
  | .int y :: .long x :: r => K n l (.long ((x.toUInt64 >>> (y.toInt64.toUInt64 &&& Int64.toUInt64 63)).toInt64) :: r) M c s
  | _ => False
theorem ok_lushr {mi : qMI} {pc n : Nat} (hd : decode mi.2.1 pc = .ok (.lushr, 1)) (hn : pc + 1 = n) : q_Ok mi pc (oLushr n) := by
  intro G L R Z p e σ m args below meth c E B hB K hK l st M cs ss h H locs ls hl hH hS
  unfold oLushr at h
  split at h
  · subst hn; exact lv_lushr E.1 E.2.1 hd rfl (hK _ _ _ _ _ _ h H locs ls hl hH hS)
  · exact h.elim
def oLcmp (n : Nat) : qP := fun l st M c s _ K => match st with
  | .long y :: .long x :: r => K n l (.int (lg_cmp x y) :: r) M c s
  | _ => False
theorem ok_lcmp {mi : qMI} {pc n : Nat} (hd : decode mi.2.1 pc = .ok (.lcmp, 1)) (hn : pc + 1 = n) : q_Ok mi pc (oLcmp n) := by
  intro G L R Z p e σ m args below meth c E B hB K hK l st M cs ss h H locs ls hl hH hS
  unfold oLcmp at h
  split at h
  · subst hn; exact W.lcmp E.1 E.2.1 hd (hK _ _ _ _ _ _ h H locs ls hl hH hS)
  · exact h.elim
def oI2b (n : Nat) : qP := fun l st M c s _ K => match st with
  | .int x :: r => K n l (.int x.toInt8.toInt32 :: r) M c s
  | _ => False
theorem ok_i2b {mi : qMI} {pc n : Nat} (hd : decode mi.2.1 pc = .ok (.i2b, 1)) (hn : pc + 1 = n) : q_Ok mi pc (oI2b n) := by
  intro G L R Z p e σ m args below meth c E B hB K hK l st M cs ss h H locs ls hl hH hS
  unfold oI2b at h
  split at h
  · subst hn; exact lv_i2b E.1 E.2.1 hd rfl (hK _ _ _ _ _ _ h H locs ls hl hH hS)
  · exact h.elim
def oL2i (n : Nat) : qP := fun l st M c s _ K => match st with
  | .long x :: r => K n l (.int x.toInt32 :: r) M c s
  | _ => False
theorem ok_l2i {mi : qMI} {pc n : Nat} (hd : decode mi.2.1 pc = .ok (.l2i, 1)) (hn : pc + 1 = n) : q_Ok mi pc (oL2i n) := by
  intro G L R Z p e σ m args below meth c E B hB K hK l st M cs ss h H locs ls hl hH hS
  unfold oL2i at h
  split at h
  · subst hn; exact lv_l2i E.1 E.2.1 hd rfl (hK _ _ _ _ _ _ h H locs ls hl hH hS)
  · exact h.elim
def oIf1eq (t n : Nat) : qP := fun l st M c s _ K => match st with
  | .int x :: r => if x = 0 then K t l r M c s else K n l r M c s
  | _ => False
theorem ok_if1eq {mi : qMI} {pc t n : Nat} {k : Int} (hd : decode mi.2.1 pc = .ok (.ifCond .eq k, 3)) (ht : (pc : Int) + k = (t : Int)) (hn : pc + 3 = n) : q_Ok mi pc (oIf1eq t n) := by
  intro G L R Z p e σ m args below meth c E B hB K hK l st M cs ss h H locs ls hl hH hS
  unfold oIf1eq at h
  split at h
  · subst hn; exact lv_if_eq E.1 E.2.1 hd ht (fun g => hK _ _ _ _ _ _ (by rw [if_pos g] at h; exact h) H locs ls hl hH hS) (fun g => hK _ _ _ _ _ _ (by rw [if_neg g] at h; exact h) H locs ls hl hH hS)
  · exact h.elim
def oIf2eq (t n : Nat) : qP := fun l st M c s _ K => match st with
  | .int y :: .int x :: r => if x = y then K t l r M c s else K n l r M c s
  | _ => False
theorem ok_if2eq {mi : qMI} {pc t n : Nat} {k : Int} (hd : decode mi.2.1 pc = .ok (.if_icmp .eq k, 3)) (ht : (pc : Int) + k = (t : Int)) (hn : pc + 3 = n) : q_Ok mi pc (oIf2eq t n) := by
  intro G L R Z p e σ m args below meth c E B hB K hK l st M cs ss h H locs ls hl hH hS
  unfold oIf2eq at h
  split at h
  · subst hn; exact lv_icmp_eq E.1 E.2.1 hd ht (fun g => hK _ _ _ _ _ _ (by rw [if_pos g] at h; exact h) H locs ls hl hH hS) (fun g => hK _ _ _ _ _ _ (by rw [if_neg g] at h; exact h) H locs ls hl hH hS)
  · exact h.elim
def oIf1ne (t n : Nat) : qP := fun l st M c s _ K => match st with
  | .int x :: r => if x = 0 then K n l r M c s else K t l r M c s
  | _ => False
theorem ok_if1ne {mi : qMI} {pc t n : Nat} {k : Int} (hd : decode mi.2.1 pc = .ok (.ifCond .ne k, 3)) (ht : (pc : Int) + k = (t : Int)) (hn : pc + 3 = n) : q_Ok mi pc (oIf1ne t n) := by
  intro G L R Z p e σ m args below meth c E B hB K hK l st M cs ss h H locs ls hl hH hS
  unfold oIf1ne at h
  split at h
  · subst hn; exact lv_if_ne E.1 E.2.1 hd ht (fun g => hK _ _ _ _ _ _ (by rw [if_neg g] at h; exact h) H locs ls hl hH hS) (fun g => hK _ _ _ _ _ _ (by rw [if_pos g] at h; exact h) H locs ls hl hH hS)
  · exact h.elim
def oIf2ne (t n : Nat) : qP := fun l st M c s _ K => match st with
  | .int y :: .int x :: r => if x = y then K n l r M c s else K t l r M c s
  | _ => False
theorem ok_if2ne {mi : qMI} {pc t n : Nat} {k : Int} (hd : decode mi.2.1 pc = .ok (.if_icmp .ne k, 3)) (ht : (pc : Int) + k = (t : Int)) (hn : pc + 3 = n) : q_Ok mi pc (oIf2ne t n) := by
  intro G L R Z p e σ m args below meth c E B hB K hK l st M cs ss h H locs ls hl hH hS
  unfold oIf2ne at h
  split at h
  · subst hn; exact lv_icmp_ne E.1 E.2.1 hd ht (fun g => hK _ _ _ _ _ _ (by rw [if_neg g] at h; exact h) H locs ls hl hH hS) (fun g => hK _ _ _ _ _ _ (by rw [if_pos g] at h; exact h) H locs ls hl hH hS)
  · exact h.elim
def oIf1lt (t n : Nat) : qP := fun l st M c s _ K => match st with
  | .int x :: r => if x < 0 then K t l r M c s else K n l r M c s
  | _ => False
theorem ok_if1lt {mi : qMI} {pc t n : Nat} {k : Int} (hd : decode mi.2.1 pc = .ok (.ifCond .lt k, 3)) (ht : (pc : Int) + k = (t : Int)) (hn : pc + 3 = n) : q_Ok mi pc (oIf1lt t n) := by
  intro G L R Z p e σ m args below meth c E B hB K hK l st M cs ss h H locs ls hl hH hS
  unfold oIf1lt at h
  split at h
  · subst hn; exact lv_if_lt E.1 E.2.1 hd ht (fun g => hK _ _ _ _ _ _ (by rw [if_pos g] at h; exact h) H locs ls hl hH hS) (fun g => hK _ _ _ _ _ _ (by rw [if_neg g] at h; exact h) H locs ls hl hH hS)
  · exact h.elim
def oIf2lt (t n : Nat) : qP := fun l st M c s _ K => match st with
  | .int y :: .int x :: r => if x < y then K t l r M c s else K n l r M c s
  | _ => False
theorem ok_if2lt {mi : qMI} {pc t n : Nat} {k : Int} (hd : decode mi.2.1 pc = .ok (.if_icmp .lt k, 3)) (ht : (pc : Int) + k = (t : Int)) (hn : pc + 3 = n) : q_Ok mi pc (oIf2lt t n) := by
  intro G L R Z p e σ m args below meth c E B hB K hK l st M cs ss h H locs ls hl hH hS
  unfold oIf2lt at h
  split at h
  · subst hn; exact lv_icmp_lt E.1 E.2.1 hd ht (fun g => hK _ _ _ _ _ _ (by rw [if_pos g] at h; exact h) H locs ls hl hH hS) (fun g => hK _ _ _ _ _ _ (by rw [if_neg g] at h; exact h) H locs ls hl hH hS)
  · exact h.elim
def oIf1ge (t n : Nat) : qP := fun l st M c s _ K => match st with
  | .int x :: r => if 0 ≤ x then K t l r M c s else K n l r M c s
  | _ => False
theorem ok_if1ge {mi : qMI} {pc t n : Nat} {k : Int} (hd : decode mi.2.1 pc = .ok (.ifCond .ge k, 3)) (ht : (pc : Int) + k = (t : Int)) (hn : pc + 3 = n) : q_Ok mi pc (oIf1ge t n) := by
  intro G L R Z p e σ m args below meth c E B hB K hK l st M cs ss h H locs ls hl hH hS
  unfold oIf1ge at h
  split at h
  · subst hn; exact lv_if_ge E.1 E.2.1 hd ht (fun g => hK _ _ _ _ _ _ (by rw [if_pos g] at h; exact h) H locs ls hl hH hS) (fun g => hK _ _ _ _ _ _ (by rw [if_neg g] at h; exact h) H locs ls hl hH hS)
  · exact h.elim
def oIf2ge (t n : Nat) : qP := fun l st M c s _ K => match st with
  | .int y :: .int x :: r => if y ≤ x then K t l r M c s else K n l r M c s
  | _ => False
theorem ok_if2ge {mi : qMI} {pc t n : Nat} {k : Int} (hd : decode mi.2.1 pc = .ok (.if_icmp .ge k, 3)) (ht : (pc : Int) + k = (t : Int)) (hn : pc + 3 = n) : q_Ok mi pc (oIf2ge t n) := by
  intro G L R Z p e σ m args below meth c E B hB K hK l st M cs ss h H locs ls hl hH hS
  unfold oIf2ge at h
  split at h
  · subst hn; exact lv_icmp_ge E.1 E.2.1 hd ht (fun g => hK _ _ _ _ _ _ (by rw [if_pos g] at h; exact h) H locs ls hl hH hS) (fun g => hK _ _ _ _ _ _ (by rw [if_neg g] at h; exact h) H locs ls hl hH hS)
  · exact h.elim
def oIf1gt (t n : Nat) : qP := fun l st M c s _ K => match st with
  | .int x :: r => if 0 < x then K t l r M c s else K n l r M c s
  | _ => False
theorem ok_if1gt {mi : qMI} {pc t n : Nat} {k : Int} (hd : decode mi.2.1 pc = .ok (.ifCond .gt k, 3)) (ht : (pc : Int) + k = (t : Int)) (hn : pc + 3 = n) : q_Ok mi pc (oIf1gt t n) := by
  intro G L R Z p e σ m args below meth c E B hB K hK l st M cs ss h H locs ls hl hH hS
  unfold oIf1gt at h
  split at h
  · subst hn; exact lv_if_gt E.1 E.2.1 hd ht (fun g => hK _ _ _ _ _ _ (by rw [if_pos g] at h; exact h) H locs ls hl hH hS) (fun g => hK _ _ _ _ _ _ (by rw [if_neg g] at h; exact h) H locs ls hl hH hS)
  · exact h.elim
def oIf2gt (t n : Nat) : qP := fun l st M c s _ K => match st with
  | .int y :: .int x :: r => if y < x then K t l r M c s else K n l r M c s
  | _ => False
theorem ok_if2gt {mi : qMI} {pc t n : Nat} {k : Int} (hd : decode mi.2.1 pc = .ok (.if_icmp .gt k, 3)) (ht : (pc : Int) + k = (t : Int)) (hn : pc + 3 = n) : q_Ok mi pc (oIf2gt t n) := by
  intro G L R Z p e σ m args below meth c E B hB K hK l st M cs ss h H locs ls hl hH hS
  unfold oIf2gt at h
  split at h
  · subst hn; exact lv_icmp_gt E.1 E.2.1 hd ht (fun g => hK _ _ _ _ _ _ (by rw [if_pos g] at h; exact h) H locs ls hl hH hS) (fun g => hK _ _ _ _ _ _ (by rw [if_neg g] at h; exact h) H locs ls hl hH hS)
  · exact h.elim
def oIf1le (t n : Nat) : qP := fun l st M c s _ K => match st with
  | .int x :: r => if x ≤ 0 then K t l r M c s else K n l r M c s
  | _ => False
theorem ok_if1le {mi : qMI} {pc t n : Nat} {k : Int} (hd : decode mi.2.1 pc = .ok (.ifCond .le k, 3)) (ht : (pc : Int) + k = (t : Int)) (hn : pc + 3 = n) : q_Ok mi pc (oIf1le t n) := by
  intro G L R Z p e σ m args below meth c E B hB K hK l st M cs ss h H locs ls hl hH hS
  unfold oIf1le at h
  split at h
  · subst hn; exact lv_if_le E.1 E.2.1 hd ht (fun g => hK _ _ _ _ _ _ (by rw [if_pos g] at h; exact h) H locs ls hl hH hS) (fun g => hK _ _ _ _ _ _ (by rw [if_neg g] at h; exact h) H locs ls hl hH hS)
  · exact h.elim
def oIf2le (t n : Nat) : qP := fun l st M c s _ K => match st with
  | .int y :: .int x :: r => if x ≤ y then K t l r M c s else K n l r M c s
  | _ => False
theorem ok_if2le {mi : qMI} {pc t n : Nat} {k : Int} (hd : decode mi.2.1 pc = .ok (.if_icmp .le k, 3)) (ht : (pc : Int) + k = (t : Int)) (hn : pc + 3 = n) : q_Ok mi pc (oIf2le t n) := by
  intro G L R Z p e σ m args below meth c E B hB K hK l st M cs ss h H locs ls hl hH hS
  unfold oIf2le at h
  split at h
  · subst hn; exact lv_icmp_le E.1 E.2.1 hd ht (fun g => hK _ _ _ _ _ _ (by rw [if_pos g] at h; exact h) H locs ls hl hH hS) (fun g => hK _ _ _ _ _ _ (by rw [if_neg g] at h; exact h) H locs ls hl hH hS)
  · exact h.elim
def oGo (t : Nat) : qP := fun l st M c s _ K => K t l st M c s
theorem ok_goto {mi : qMI} {pc t : Nat} {k : Int} (hd : decode mi.2.1 pc = .ok (.goto k, 3)) (ht : (pc : Int) + k = (t : Int)) : q_Ok mi pc (oGo t) := by
  intro G L R Z p e σ m args below meth c E B hB K hK l st M cs ss h H locs ls hl hH hS
  exact lv_goto E.1 E.2.1 hd ht (hK _ _ _ _ _ _ h H locs ls hl hH hS)
def oIfn (t n : Nat) : qP := fun l st M c s _ K => match st with
  | .null :: r => K t l r M c s
  | .ref _ :: r => K n l r M c s
  | _ => False
theorem ok_ifnull {mi : qMI} {pc t n : Nat} {k : Int} (hd : decode mi.2.1 pc = .ok (.ifnull k, 3)) (ht : (pc : Int) + k = (t : Int)) (hn : pc + 3 = n) : q_Ok mi pc (oIfn t n) := by
  intro G L R Z p e σ m args below meth c E B hB K hK l st M cs ss h H locs ls hl hH hS
  unfold oIfn at h
  split at h
  · exact lv_ifnullN E.1 E.2.1 hd ht (hK _ _ _ _ _ _ h H locs ls hl hH hS)
  · subst hn; exact lv_ifnull E.1 E.2.1 hd (hK _ _ _ _ _ _ h H locs ls hl hH hS)
  · exact h.elim
def oIfnn (t n : Nat) : qP := fun l st M c s _ K => match st with
  | .null :: r => K n l r M c s
  | .ref _ :: r => K t l r M c s
  | _ => False
theorem ok_ifnonnull {mi : qMI} {pc t n : Nat} {k : Int} (hd : decode mi.2.1 pc = .ok (.ifnonnull k, 3)) (ht : (pc : Int) + k = (t : Int)) (hn : pc + 3 = n) : q_Ok mi pc (oIfnn t n) := by
  intro G L R Z p e σ m args below meth c E B hB K hK l st M cs ss h H locs ls hl hH hS
  unfold oIfnn at h
  split at h
  · subst hn; exact lv_ifnonnullN E.1 E.2.1 hd (hK _ _ _ _ _ _ h H locs ls hl hH hS)
  · exact lv_ifnonnull E.1 E.2.1 hd ht (hK _ _ _ _ _ _ h H locs ls hl hH hS)
  · exact h.elim
def q_tab (x : Int32) (F : Nat → Prop) : Nat → List Nat → Nat → Prop
  | _, [], d => F d
  | k, t :: ts, d => if x = nI k then F t else q_tab x F (k + 1) ts d
def oTab (lo : Nat) (ts : List Nat) (d : Nat) : qP := fun l st M c s _ K => match st with
  | .int x :: r => q_tab x (fun t => K t l r M c s) lo ts d
  | _ => False
def q_look (x : Int32) (F : Nat → Prop) : List (Nat × Nat) → Nat → Prop
  | [], d => F d
  | q :: ts, d => if x = nI q.1 then F q.2 else q_look x F ts d
def oLook (ts : List (Nat × Nat)) (d : Nat) : qP := fun l st M c s _ K => match st with
  | .int x :: r => q_look x (fun t => K t l r M c s) ts d
  | _ => False
end
section
/-! switches -/
theorem q_ofi {k : Int} (h1 : -2147483648 ≤ k) (h2 : k < 2147483648) : (Int32.ofInt k).toInt = k := by
  rw [Int32.toInt_ofInt]
  have hs : ((Int32.size : Nat) : Int) = 4294967296 := rfl
  simp only [Int.bmod, hs]
  omega
theorem q_nIt {k : Nat} (h : k < 2147483648) : (nI k).toInt = (k : Int) := nI_toInt h
theorem q_tab_in {x : Int32} {F : Nat → Prop} {d : Nat} : ∀ (ts : List Nat) (k i t : Nat), k + ts.length < 2147483648 → q_tab x F k ts d → ts[i]? = some t → x.toInt = k + i → F t
  | [], _, _, _, _, _, h, _ => by simp at h
  | t0 :: ts, k, 0, t, h2, h, ht, hx => by
    have e : t0 = t := by simpa using ht
    have hl : (t0 :: ts).length = ts.length + 1 := rfl
    have hk : x = nI k := by
      have h3 : x.toInt = (nI k).toInt := by rw [q_nIt (by omega)]; omega
      exact Int32.toInt_inj.mp h3
    unfold q_tab at h
    rw [if_pos hk] at h
    rw [← e]
    exact h
  | t0 :: ts, k, i + 1, t, h2, h, ht, hx => by
    have hl : (t0 :: ts).length = ts.length + 1 := rfl
    have hk : ¬ x = nI k := fun e => by
      have h3 : x.toInt = k := by rw [e]; exact q_nIt (by omega)
      omega
    unfold q_tab at h
    rw [if_neg hk] at h
    exact q_tab_in ts (k + 1) i t (by omega) h (by simpa using ht) (by omega)
theorem q_tab_out {x : Int32} {F : Nat → Prop} {d : Nat} : ∀ (ts : List Nat) (k : Nat), k + ts.length < 2147483648 → q_tab x F k ts d → (x.toInt < k ∨ (k : Int) + ts.length ≤ x.toInt) → F d
  | [], _, _, h, _ => h
  | t0 :: ts, k, h2, h, hx => by
    have hl : (t0 :: ts).length = ts.length + 1 := rfl
    have hk : ¬ x = nI k := fun e => by
      have h3 : x.toInt = k := by rw [e]; exact q_nIt (by omega)
      omega
    unfold q_tab at h
    rw [if_neg hk] at h
    exact q_tab_out ts (k + 1) (by omega) h (by omega)
theorem ok_table {mi : qMI} {pc d len lo : Nat} {dflt lo' hi : Int} {offs : Array Int} {ts : List Nat} (hd : decode mi.2.1 pc = .ok (.tableswitch dflt lo' hi offs, len)) (hlo : lo' = (lo : Int)) (hdf : (pc : Int) + dflt = (d : Int)) (hts : offs.toList.map (fun z => (pc : Int) + z) = ts.map (fun t : Nat => (t : Int))) (h2 : (lo : Int) + ts.length = hi + 1) (h3 : lo + ts.length < 2147483648) : q_Ok mi pc (oTab lo ts d) := by
  intro G L R Z p e σ m args below meth c E B hB K hK l st M cs ss h H locs ls hl hH hS
  unfold oTab at h
  subst hlo
  split at h
  · next x r =>
    by_cases hin : x.toInt < lo ∨ hi < x.toInt
    · exact lv_tableOut E.1 E.2.1 hd hin hdf (hK _ _ _ _ _ _ (q_tab_out (x := x) (F := fun t => K t l r M cs ss) ts lo h3 h (by omega)) H locs ls hl hH hS)
    · have g1 : ¬ x.toInt < lo := fun z => hin (Or.inl z)
      have g2 : ¬ hi < x.toInt := fun z => hin (Or.inr z)
      have hi2 : (x.toInt - lo).toNat < ts.length := by omega
      obtain ⟨t, ht⟩ : ∃ t, ts[(x.toInt - lo).toNat]? = some t := ⟨_, List.getElem?_eq_getElem hi2⟩
      have e1 : (offs.toList.map (fun z => (pc : Int) + z))[(x.toInt - lo).toNat]? = some (t : Int) := by rw [hts, List.getElem?_map, ht]; rfl
      rw [List.getElem?_map] at e1
      cases ho : offs.toList[(x.toInt - lo).toNat]? with
      | none => rw [ho] at e1; cases e1
      | some off =>
        rw [ho] at e1
        have e2 : (pc : Int) + off = (t : Int) := Option.some.inj e1
        exact lv_tableIn E.1 E.2.1 hd g1 g2 (by rw [← Array.getElem?_toList]; exact ho) e2 (hK _ _ _ _ _ _ (q_tab_in (x := x) (F := fun t => K t l r M cs ss) ts lo _ t h3 h ht (by omega)) H locs ls hl hH hS)
  · exact h.elim
theorem q_look_at {x : Int32} {F : Nat → Prop} {d : Nat} {df : Int} {pc : Nat} (hdf : (pc : Int) + df = (d : Int)) : ∀ (ps : List (Int × Int)) (ts : List (Nat × Nat)), ps.map (fun z => (z.1, (pc : Int) + z.2)) = ts.map (fun t : Nat × Nat => ((t.1 : Int), (t.2 : Int))) → (∀ z ∈ ts, z.1 < 2147483648) → q_look x F ts d → ∃ t : Nat, (pc : Int) + Op.lookupswitch.offset ps df x.toInt = (t : Int) ∧ F t
  | [], [], _, _, h => ⟨d, hdf, h⟩
  | [], _ :: _, hz, _, _ => by cases hz
  | _ :: _, [], hz, _, _ => by cases hz
  | z :: ps, t :: ts, hz, hb, h => by
    have e0 := List.cons.inj hz
    have e1 : z.1 = (t.1 : Int) := congrArg Prod.fst e0.1
    have e2 : (pc : Int) + z.2 = (t.2 : Int) := congrArg Prod.snd e0.1
    have hbz := hb t List.mem_cons_self
    obtain ⟨z1, z2⟩ := z
    have e6 : z1 = (t.1 : Int) := e1
    unfold q_look at h
    by_cases hx : x = nI t.1
    · rw [if_pos hx] at h
      refine ⟨t.2, ?_, h⟩
      have e3 : x.toInt = z1 := by rw [hx, e6]; exact q_nIt hbz
      rw [Op.lookupswitch.offset_cons, if_pos (by first | exact e3.symm | exact e3)]
      exact e2
    · rw [if_neg hx] at h
      obtain ⟨t', g1, g2⟩ := q_look_at hdf ps ts e0.2 (fun y hy => hb y (List.mem_cons_of_mem _ hy)) h
      refine ⟨t', ?_, g2⟩
      rw [Op.lookupswitch.offset_cons, if_neg]
      · exact g1
      · intro e4
        apply hx
        have e5 : x.toInt = z1 := by first | exact e4 | exact e4.symm
        exact Int32.toInt_inj.mp (by rw [e5, e6, q_nIt hbz])
theorem ok_lookup {mi : qMI} {pc d len : Nat} {dflt : Int} {ps : Array (Int × Int)} {ts : List (Nat × Nat)} (hd : decode mi.2.1 pc = .ok (.lookupswitch dflt ps, len)) (hp : (ps.toList.zip (ps.toList.drop 1)).all (fun (a, next) => a.1 < next.1) = true) (hdf : (pc : Int) + dflt = (d : Int)) (hts : ps.toList.map (fun z => (z.1, (pc : Int) + z.2)) = ts.map (fun t : Nat × Nat => ((t.1 : Int), (t.2 : Int)))) (hb : ∀ z ∈ ts, z.1 < 2147483648) : q_Ok mi pc (oLook ts d) := by
  intro G L R Z p e σ m args below meth c E B hB K hK l st M cs ss h H locs ls hl hH hS
  unfold oLook at h
  split at h
  · next x r =>
    obtain ⟨t, g1, g2⟩ := q_look_at hdf ps.toList ts hts hb h
    exact lv_lookup E.1 E.2.1 hd hp rfl g1 (hK _ _ _ _ _ _ g2 H locs ls hl hH hS)
  · exact h.elim
/-! fields -/
theorem q_P1 {D : va_G} {q : Nat × va_E} {H : Heap} (h : va_at D vwCl q H) : va_P D vwCl [q] H := by
  intro k q' hk
  cases k with
  | zero => cases hk; exact h
  | succ k => simp at hk
def oGet (ci k n : Nat) : qP := fun l st M c s _ K => match st with
  | .ref a :: r => (match M.2 a with
    | some (.inr (ci', fs)) => ci' = ci ∧ (match fs[k]? with
      | some v => K n l (v :: r) M c s
      | none => False)
    | _ => False)
  | _ => False
theorem ok_get {mi : qMI} {pc n ci k idx N : Nat} {C : String} {T : u_T} (hd : decode mi.2.1 pc = .ok (.getfield idx, 3)) (hn : pc + 3 = n) (hc : vwCl[ci]? = some (C, T, N)) (hin : ∀ w ∈ u_ws C T N, w ∈ q_gw) (hk : k < N) (hlink : Cond.fieldLink mi.1.cls idx (T k).1 (T k).2.1 (T k).2.2.1 ∈ q_gw) : q_Ok mi pc (oGet ci k n) := by
  intro G L R Z p e σ m args below meth c E B hB K hK l st M cs ss h H locs ls hl hH hS
  unfold oGet at h
  split at h
  · next a r =>
    split at h
    · next ci' fs hM =>
      obtain ⟨rfl, h⟩ := h
      split at h
      · next v hv =>
        subst hn
        exact va_get (D := G.1) (tys := q_tys G) (ws := [(a, .inr (ci', fs))]) E.1 E.2.1 E.2.2.2.2.1 hin E.2.2.2.1 E.2.2.2.2.2.2.2.2.1.1 (q_P1 (hH.2.2.2.2.2.2 a _ hM).2) 0 rfl hc k hk (E.2.2.2.2.1 _ hlink) (fun _ h9 => h9) hv hd (hK _ _ _ _ _ _ h H locs ls hl hH hS)
      · exact h.elim
    · exact h.elim
  · exact h.elim
/-- what a putfield does to the picture -/
theorem q_put {mi : qMI} {pc ci k idx N a : Nat} {C : String} {T : u_T} {ty : FieldType} {v : Value} {fs r : List Value} (ty0 : Nat → FieldType) (hd : decode mi.2.1 pc = .ok (.putfield idx, 3)) (hc : vwCl[ci]? = some (C, T, N)) (hin : ∀ w ∈ u_ws C T N, w ∈ q_gw) (hty : ∀ k, k < N → parseFieldDescriptor (T k).2.2.1 = some (ty0 k)) (hnm : ∀ a, a < N → ∀ b, b < N → a ≠ b → (T a).2.1 ≠ (T b).2.1) (hk : k < N) (hlink : Cond.fieldLink mi.1.cls idx (T k).1 (T k).2.1 (T k).2.2.1 ∈ q_gw)
    (hfin : (T k).2.2.2 = false ∨ ((T k).2.2.2 = true ∧ mi.1.name = "<init>" ∧ (T k).1 = mi.1.cls)) (hd2 : parseFieldDescriptor (T k).2.2.1 = some ty) (hnar : narrow ty v = v) (hfit : fits ty v = true)
    {G : qC} {L : Launch} {R : Room} {Z : State → Prop} {p : Program} {e : Env} {σ : State} {m : MethodId} {args : Array Value} {below : List Frame} {meth : Method} {c : Code} (E : q_Ev G mi p σ m args meth c) {H : Heap} {locs : List Loc} {ls : Array Slot} {M : qM} {cs ss : Nat} (hH : q_H G M H) (hS : va_S (q_A G) σ.heap H locs) (hM : M.2 a = some (.inr (ci, fs))) (hl : k < fs.length)
    (kk : ∀ (H1 : Heap) (locs1 : List Loc), q_H G (q_set M a (.inr (ci, fs.set k v))) H1 → va_S (q_A G) σ.heap H1 locs1 → W p L e R σ m args below meth c H1 locs1 cs ss Z (F0 m (pc + 3) ls r)) : W p L e R σ m args below meth c H locs cs ss Z (F0 m pc ls (v :: .ref a :: r)) := by
  have hts := E.2.2.2.2.1
  have hown := E.2.2.2.1
  have hKk := E.2.2.2.2.2.2.2.2.1.1
  have hap := va_apart (own := mi.1.cls) hts hin ty0 hty hnm hKk hc
  obtain ⟨hA, r', h1, cell, q1, q2, q3, q4⟩ := hH.2.2.2.2.2.2 a _ hM
  have hr : r' = (C, T, N) := Option.some.inj (h1.symm.trans hc)
  subst hr
  obtain ⟨hS2, hfc, kC, hkC, hkind⟩ := hKk.1 ci _ hc
  obtain ⟨cf, kf, fi, f, hi, hsl⟩ := hS2 k hk
  have hst := (u_facts hfc hkC (u_lays hts hin hk) hi).1
  have fin : ∀ H' : Heap, H'[a]? = some (cell.setSlot f.slot v) → H'.size = H.size → (∀ q : Nat, q ≠ a → H'[q]? = H[q]?) → W p L e R σ m args below meth c H' (locs ++ [⟨a, f.slot⟩]) cs ss Z (F0 m (pc + 3) ls r) := by
    intro H' e1 e2 e3
    rw [hsl] at e1
    exact kk H' _ (hH.setO hM e2 e3 ⟨_, hc, t_OB.to (V := updV (vp_V fs) k v) ⟨_, e1, q2, q3, t_set q4 hap hk v⟩ (fun j _ => vp_updV_set hl v j)⟩) (hS.put e2 e3 hA)
  rcases hfin with hfin | ⟨hfin, hin2, hdecl⟩
  · have hlay := hts _ (hin _ (u_in_lay hk))
    unfold u_lay at hlay
    rw [if_neg (by rw [hfin]; decide)] at hlay
    have h6 := u_store hfc hkC hkind hlay hi hd2 hnar hfit
    exact W.putK E.1 E.2.1 (f := f) ⟨hown, hts _ hlink, ⟨_, _, _, hi⟩, hst⟩ (by rw [q2]; exact h6) q1 q3 (by rw [hsl]; exact k2_hasslot (q4 k hk)) rfl rfl hd fin
  · have hlay := hts _ (hin _ (u_in_lay hk))
    unfold u_lay at hlay
    rw [if_pos hfin] at hlay
    have hcf : m.cls = cf := by
      obtain ⟨_, _, c', _, _, _, -, -, hf', -, -, -, hown2, -⟩ := Cond.laysFinal_spec hlay
      have e1 : c' = cf := by have := hi.symm.trans hf'; simp at this; exact this.1.symm
      rw [hdecl] at hown2
      rw [← e1]; exact Option.some.inj (hown.symm.trans hown2)
    have h6 := u_fits hfc hkC hkind (Or.inr hlay) hi hd2 hnar hfit
    exact W.putFinK E.1 E.2.1 hown (hts _ hlink) hi hst hcf (E.2.2.2.2.2.2.2.1.trans hin2) (by rw [q2]; exact h6) q1 q3 (by rw [hsl]; exact k2_hasslot (q4 k hk)) rfl rfl hd fin
def oPutI (ci k n : Nat) : qP := fun l st M c s _ K => match st with
  | .int x :: .ref a :: r => (match M.2 a with
    | some (.inr (ci', fs)) => ci' = ci ∧ k < fs.length ∧ K n l r (q_set M a (.inr (ci, fs.set k (.int x)))) c s
    | _ => False)
  | _ => False
def oPutZ (ci k n : Nat) : qP := fun l st M c s _ K => match st with
  | .int x :: .ref a :: r => (match M.2 a with
    | some (.inr (ci', fs)) => ci' = ci ∧ k < fs.length ∧ (x = 0 ∨ x = 1) ∧ K n l r (q_set M a (.inr (ci, fs.set k (.int x)))) c s
    | _ => False)
  | _ => False
def oPutR (ci k n : Nat) : qP := fun l st M c s _ K => match st with
  | .ref x :: .ref a :: r => (match M.2 a with
    | some (.inr (ci', fs)) => ci' = ci ∧ k < fs.length ∧ K n l r (q_set M a (.inr (ci, fs.set k (.ref x)))) c s
    | _ => False)
  | _ => False
theorem ok_putI {mi : qMI} {pc n ci k idx N : Nat} {C : String} {T : u_T} (ty0 : Nat → FieldType) (hd : decode mi.2.1 pc = .ok (.putfield idx, 3)) (hn : pc + 3 = n) (hc : vwCl[ci]? = some (C, T, N)) (hin : ∀ w ∈ u_ws C T N, w ∈ q_gw) (hty : ∀ k, k < N → parseFieldDescriptor (T k).2.2.1 = some (ty0 k)) (hnm : ∀ a, a < N → ∀ b, b < N → a ≠ b → (T a).2.1 ≠ (T b).2.1) (hk : k < N) (hlink : Cond.fieldLink mi.1.cls idx (T k).1 (T k).2.1 (T k).2.2.1 ∈ q_gw) (hfin : (T k).2.2.2 = false ∨ ((T k).2.2.2 = true ∧ mi.1.name = "<init>" ∧ (T k).1 = mi.1.cls)) (hd2 : parseFieldDescriptor (T k).2.2.1 = some .int) : q_Ok mi pc (oPutI ci k n) := by
  intro G L R Z p e σ m args below meth c E B hB K hK l st M cs ss h H locs ls hl hH hS
  unfold oPutI at h
  split at h
  · next x a r =>
    split at h
    · next ci' fs hM =>
      obtain ⟨rfl, h⟩ := h
      subst hn
      exact q_put ty0 hd hc hin hty hnm hk hlink hfin hd2 rfl rfl E hH hS hM h.1 (fun H1 locs1 g1 g2 => hK _ _ _ _ _ _ h.2 H1 locs1 ls hl g1 g2)
    · exact h.elim
  · exact h.elim
theorem ok_putZ {mi : qMI} {pc n ci k idx N : Nat} {C : String} {T : u_T} (ty0 : Nat → FieldType) (hd : decode mi.2.1 pc = .ok (.putfield idx, 3)) (hn : pc + 3 = n) (hc : vwCl[ci]? = some (C, T, N)) (hin : ∀ w ∈ u_ws C T N, w ∈ q_gw) (hty : ∀ k, k < N → parseFieldDescriptor (T k).2.2.1 = some (ty0 k)) (hnm : ∀ a, a < N → ∀ b, b < N → a ≠ b → (T a).2.1 ≠ (T b).2.1) (hk : k < N) (hlink : Cond.fieldLink mi.1.cls idx (T k).1 (T k).2.1 (T k).2.2.1 ∈ q_gw) (hfin : (T k).2.2.2 = false ∨ ((T k).2.2.2 = true ∧ mi.1.name = "<init>" ∧ (T k).1 = mi.1.cls)) (hd2 : parseFieldDescriptor (T k).2.2.1 = some .boolean) : q_Ok mi pc (oPutZ ci k n) := by
  intro G L R Z p e σ m args below meth c E B hB K hK l st M cs ss h H locs ls hl hH hS
  unfold oPutZ at h
  split at h
  · next x a r =>
    split at h
    · next ci' fs hM =>
      obtain ⟨rfl, h⟩ := h
      subst hn
      have hx := h.2.1
      exact q_put ty0 hd hc hin hty hnm hk hlink hfin hd2 (by rcases hx with rfl | rfl <;> rfl) (by rcases hx with rfl | rfl <;> rfl) E hH hS hM h.1 (fun H1 locs1 g1 g2 => hK _ _ _ _ _ _ h.2.2 H1 locs1 ls hl g1 g2)
    · exact h.elim
  · exact h.elim
theorem ok_putR {mi : qMI} {pc n ci k idx N : Nat} {C : String} {T : u_T} (ty0 : Nat → FieldType) (hd : decode mi.2.1 pc = .ok (.putfield idx, 3)) (hn : pc + 3 = n) (hc : vwCl[ci]? = some (C, T, N)) (hin : ∀ w ∈ u_ws C T N, w ∈ q_gw) (hty : ∀ k, k < N → parseFieldDescriptor (T k).2.2.1 = some (ty0 k)) (hnm : ∀ a, a < N → ∀ b, b < N → a ≠ b → (T a).2.1 ≠ (T b).2.1) (hk : k < N) (hlink : Cond.fieldLink mi.1.cls idx (T k).1 (T k).2.1 (T k).2.2.1 ∈ q_gw) (hfin : (T k).2.2.2 = false ∨ ((T k).2.2.2 = true ∧ mi.1.name = "<init>" ∧ (T k).1 = mi.1.cls)) {ty : FieldType} (hd2 : parseFieldDescriptor (T k).2.2.1 = some ty) (hr : ∀ x : Nat, narrow ty (.ref x) = .ref x ∧ fits ty (.ref x) = true) : q_Ok mi pc (oPutR ci k n) := by
  intro G L R Z p e σ m args below meth c E B hB K hK l st M cs ss h H locs ls hl hH hS
  unfold oPutR at h
  split at h
  · next x a r =>
    split at h
    · next ci' fs hM =>
      obtain ⟨rfl, h⟩ := h
      subst hn
      exact q_put ty0 hd hc hin hty hnm hk hlink hfin hd2 (hr x).1 (hr x).2 E hH hS hM h.1 (fun H1 locs1 g1 g2 => hK _ _ _ _ _ _ h.2 H1 locs1 ls hl g1 g2)
    · exact h.elim
  · exact h.elim
theorem q_rfO (s : String) (x : Nat) : narrow (.object s) (.ref x) = .ref x ∧ fits (.object s) (.ref x) = true := ⟨rfl, rfl⟩
theorem q_rfA (t : FieldType) (x : Nat) : narrow (.array t) (.ref x) = .ref x ∧ fits (.array t) (.ref x) = true := ⟨rfl, rfl⟩
/-! the two tables -/
def oStO (n : Nat) : qP := fun l st M c s B K => K n l (.ref B.2.2.2.2.2.2.1 :: st) M c s
def oStW (n : Nat) : qP := fun l st M c s B K => K n l (.ref B.2.2.2.2.2.2.2 :: st) M c s
theorem q_Zk {G : qC} {C n d : String} {v : Value} {σ : State} (h : va_Z C n d v (q_A G) σ G.2.2.1) (hp : q_Pf G σ.heap) : va_Z C n d v (q_A G) σ σ.heap := h.kept (fun a ha _ => hp.2 a ha)
theorem q_Tk {G : qC} {ty : FieldType} {t N : Nat} {f : Nat → Value} {σ : State} (h : va_T ty t N f (q_A G) σ G.2.2.1) (hp : q_Pf G σ.heap) : va_T ty t N f (q_A G) σ σ.heap := h.kept (fun a ha _ => hp.2 a ha)
theorem ok_stO {mi : qMI} {pc n idx : Nat} (hd : decode mi.2.1 pc = .ok (.getstatic idx, 3)) (hn : pc + 3 = n) (hlink : Cond.fieldLink mi.1.cls idx "ShownPatterns" "OWN_COST" "[I" ∈ q_gw) : q_Ok mi pc (oStO n) := by
  intro G L R Z p e σ m args below meth c E B hB K hK l st M cs ss h H locs ls hl hH hS
  subst hn
  have h2 : K (pc + 3) l (.ref G.2.2.2.1 :: st) M cs ss := by rw [← hB.2.2.2.2.2.2.1]; exact h
  exact va_gets E.1 E.2.1 (q_Zk E.2.2.2.2.2.2.2.2.1.2.2.2.1 E.2.2.2.2.2.2.2.2.2) hS E.2.2.2.1 (E.2.2.2.2.1 _ hlink) (fun _ h9 => h9) hd (hK _ _ _ _ _ _ h2 H locs ls hl hH hS)
theorem ok_stW {mi : qMI} {pc n idx : Nat} (hd : decode mi.2.1 pc = .ok (.getstatic idx, 3)) (hn : pc + 3 = n) (hlink : Cond.fieldLink mi.1.cls idx "ShownPatterns" "POWERS" "[I" ∈ q_gw) : q_Ok mi pc (oStW n) := by
  intro G L R Z p e σ m args below meth c E B hB K hK l st M cs ss h H locs ls hl hH hS
  subst hn
  have h2 : K (pc + 3) l (.ref G.2.2.2.2 :: st) M cs ss := by rw [← hB.2.2.2.2.2.2.2]; exact h
  exact va_gets E.1 E.2.1 (q_Zk E.2.2.2.2.2.2.2.2.1.2.2.2.2.2.1 E.2.2.2.2.2.2.2.2.2) hS E.2.2.2.1 (E.2.2.2.2.1 _ hlink) (fun _ h9 => h9) hd (hK _ _ _ _ _ _ h2 H locs ls hl hH hS)
theorem ok_stWN {mi : qMI} {pc n idx : Nat} {host : String} (hd : decode mi.2.1 pc = .ok (.getstatic idx, 3)) (hn : pc + 3 = n) (hlink : Cond.fieldLinkNest mi.1.cls idx "ShownPatterns" "POWERS" "[I" host ∈ lw_tbl) : q_Ok mi pc (oStW n) := by
  intro G L R Z p e σ m args below meth c E B hB K hK l st M cs ss h H locs ls hl hH hS
  subst hn
  have h2 : K (pc + 3) l (.ref G.2.2.2.2 :: st) M cs ss := by rw [← hB.2.2.2.2.2.2.2]; exact h
  exact va_getsN E.1 E.2.1 (q_Zk E.2.2.2.2.2.2.2.2.1.2.2.2.2.2.1 E.2.2.2.2.2.2.2.2.2) hS E.2.2.2.1 (va_Nw.use rfl (E.2.2.2.2.2.2.2.2.1.2.1 _ hlink rfl)) (fun _ h9 => h9) hd (hK _ _ _ _ _ _ h2 H locs ls hl hH hS)
/-! arrays -/
def oIald (n : Nat) : qP := fun l st M c s _ K => match st with
  | .int j :: .ref a :: r => (match M.2 a with
    | some (.inl (t, m, .inl f)) => (t = 1 ∨ t = 6) ∧ vp_in j m ∧ K n l (.int (f j.toNatClampNeg) :: r) M c s
    | _ => False)
  | _ => False
theorem ok_iaload {mi : qMI} {pc n : Nat} (hd : decode mi.2.1 pc = .ok (.iaload, 1)) (hn : pc + 1 = n) : q_Ok mi pc (oIald n) := by
  intro G L R Z p e σ m args below meth c E B hB K hK l st M cs ss h H locs ls hl hH hS
  unfold oIald at h
  split at h
  · next j a r =>
    split at h
    · next t m' f hM =>
      obtain ⟨ht, hin, h⟩ := h
      subst hn
      rcases ht with rfl | rfl
      · exact va_iald (D := G.1) (cl := vwCl) (tys := q_tys G) (ws := [(a, .inl (G.2.1 1, m', .inl f))]) E.1 E.2.1 E.2.2.2.2.2.2.2.2.1.1 (q_P1 (hH.2.2.2.2.2.1 a 1 _ hM (by decide)).2) 0 0 rfl rfl hin hd (hK _ _ _ _ _ _ h H locs ls hl hH hS)
      · rcases hH.2.2.2.2.1 a _ hM with ⟨rfl, hx⟩ | ⟨rfl, hx⟩
        · cases hx
          exact va_ti E.1 E.2.1 (q_Tk E.2.2.2.2.2.2.2.2.1.2.2.2.2.1 E.2.2.2.2.2.2.2.2.2) hS hin rfl hd (hK _ _ _ _ _ _ h H locs ls hl hH hS)
        · cases hx
          exact va_ti E.1 E.2.1 (q_Tk E.2.2.2.2.2.2.2.2.1.2.2.2.2.2.2 E.2.2.2.2.2.2.2.2.2) hS hin rfl hd (hK _ _ _ _ _ _ h H locs ls hl hH hS)
    · exact h.elim
  · exact h.elim
def oZald (n : Nat) : qP := fun l st M c s _ K => match st with
  | .int j :: .ref a :: r => (match M.2 a with
    | some (.inl (t, m, .inl f)) => t = 3 ∧ vp_in j m ∧ K n l (.int (f j.toNatClampNeg) :: r) M c s
    | _ => False)
  | _ => False
theorem ok_zaload {mi : qMI} {pc n : Nat} (hd : decode mi.2.1 pc = .ok (.baload, 1)) (hn : pc + 1 = n) : q_Ok mi pc (oZald n) := by
  intro G L R Z p e σ m args below meth c E B hB K hK l st M cs ss h H locs ls hl hH hS
  unfold oZald at h
  split at h
  · next j a r =>
    split at h
    · next t m' f hM =>
      obtain ⟨rfl, hin, h⟩ := h
      subst hn
      exact va_zald (D := G.1) (cl := vwCl) (tys := q_tys G) (ws := [(a, .inl (G.2.1 3, m', .inl f))]) E.1 E.2.1 E.2.2.2.2.2.2.2.2.1.1 (q_P1 (hH.2.2.2.2.2.1 a 3 _ hM (by decide)).2) 0 2 rfl rfl hin hd (hK _ _ _ _ _ _ h H locs ls hl hH hS)
    · exact h.elim
  · exact h.elim
def oYald (n : Nat) : qP := fun l st M c s _ K => match st with
  | .int j :: .ref a :: r => (match M.2 a with
    | some (.inl (t, m, .inl f)) => t = 4 ∧ vp_in j m ∧ K n l (.int (f j.toNatClampNeg) :: r) M c s
    | _ => False)
  | _ => False
theorem ok_yaload {mi : qMI} {pc n : Nat} (hd : decode mi.2.1 pc = .ok (.baload, 1)) (hn : pc + 1 = n) : q_Ok mi pc (oYald n) := by
  intro G L R Z p e σ m args below meth c E B hB K hK l st M cs ss h H locs ls hl hH hS
  unfold oYald at h
  split at h
  · next j a r =>
    split at h
    · next t m' f hM =>
      obtain ⟨rfl, hin, h⟩ := h
      subst hn
      exact va_bald (D := G.1) (cl := vwCl) (tys := q_tys G) (ws := [(a, .inl (G.2.1 4, m', .inl f))]) E.1 E.2.1 E.2.2.2.2.2.2.2.2.1.1 (q_P1 (hH.2.2.2.2.2.1 a 4 _ hM (by decide)).2) 0 3 rfl rfl hin hd (hK _ _ _ _ _ _ h H locs ls hl hH hS)
    · exact h.elim
  · exact h.elim
def oLald (n : Nat) : qP := fun l st M c s _ K => match st with
  | .int j :: .ref a :: r => (match M.2 a with
    | some (.inl (t, m, .inr (.inl f))) => t = 2 ∧ vp_in j m ∧ K n l (.long (f j.toNatClampNeg) :: r) M c s
    | _ => False)
  | _ => False
theorem ok_laload {mi : qMI} {pc n : Nat} (hd : decode mi.2.1 pc = .ok (.laload, 1)) (hn : pc + 1 = n) : q_Ok mi pc (oLald n) := by
  intro G L R Z p e σ m args below meth c E B hB K hK l st M cs ss h H locs ls hl hH hS
  unfold oLald at h
  split at h
  · next j a r =>
    split at h
    · next t m' f hM =>
      obtain ⟨rfl, hin, h⟩ := h
      subst hn
      exact va_lald (D := G.1) (cl := vwCl) (tys := q_tys G) (ws := [(a, .inl (G.2.1 2, m', .inr (.inl f)))]) E.1 E.2.1 E.2.2.2.2.2.2.2.2.1.1 (q_P1 (hH.2.2.2.2.2.1 a 2 _ hM (by decide)).2) 0 1 rfl rfl hin hd (hK _ _ _ _ _ _ h H locs ls hl hH hS)
    · exact h.elim
  · exact h.elim
def oAald (n : Nat) : qP := fun l st M c s _ K => match st with
  | .int j :: .ref a :: r => (match M.2 a with
    | some (.inl (t, m, .inr (.inr (.inr (.inr f))))) => t = 5 ∧ vp_in j m ∧ K n l (va_rf (f j.toNatClampNeg) :: r) M c s
    | _ => False)
  | _ => False
theorem ok_aaload {mi : qMI} {pc n : Nat} (hd : decode mi.2.1 pc = .ok (.aaload, 1)) (hn : pc + 1 = n) : q_Ok mi pc (oAald n) := by
  intro G L R Z p e σ m args below meth c E B hB K hK l st M cs ss h H locs ls hl hH hS
  unfold oAald at h
  split at h
  · next j a r =>
    split at h
    · next t m' f hM =>
      obtain ⟨rfl, hin, h⟩ := h
      subst hn
      exact va_aldq (D := G.1) (cl := vwCl) (tys := q_tys G) (ws := [(a, .inl (G.2.1 5, m', .inr (.inr (.inr (.inr f)))))]) E.1 E.2.1 E.2.2.2.2.2.2.2.2.1.1 (q_P1 (hH.2.2.2.2.2.1 a 5 _ hM (by decide)).2) 0 4 rfl rfl hin hd (hK _ _ _ _ _ _ h H locs ls hl hH hS)
    · exact h.elim
  · exact h.elim
def oIast (n : Nat) : qP := fun l st M c s _ K => match st with
  | .int x :: .int j :: .ref a :: r => (match M.2 a with
    | some (.inl (t, m, .inl f)) => t = 1 ∧ vp_in j m ∧ K n l r (q_set M a (.inl (1, m, .inl (upd f j.toNatClampNeg x)))) c s
    | _ => False)
  | _ => False
theorem ok_iastore {mi : qMI} {pc n : Nat} (hd : decode mi.2.1 pc = .ok (.iastore, 1)) (hn : pc + 1 = n) : q_Ok mi pc (oIast n) := by
  intro G L R Z p e σ m args below meth c E B hB K hK l st M cs ss h H locs ls hl hH hS
  unfold oIast at h
  split at h
  · next x j a r =>
    split at h
    · next t m' f hM =>
      obtain ⟨rfl, hin, h⟩ := h
      subst hn
      obtain ⟨hA, hcell⟩ := hH.2.2.2.2.2.1 a 1 _ hM (by decide)
      refine W.iast E.1 E.2.1 hcell ((E.2.2.2.2.2.2.2.2.1.1.2 0 _ rfl).1 m' (fun j => .int (f j))) (fun q => by cases q) (by show ¬ (j < 0 ∨ (arrV _ _ _).slots.size ≤ _); rw [arrV_size]; exact hin) rfl rfl hd fun H1 e1 z oq => ?_
      refine hK _ _ _ _ _ _ h H1 _ ls hl (hH.setA hM (by decide) z oq ?_) (hS.put z oq hA)
      rw [e1, vp_cell_i, vp_cell_i, arrV_store]
      congr 2
      funext q
      by_cases hq : q = j.toNatClampNeg
      · subst hq
        simp [updV, upd]
        try rfl
      · simp [updV, upd, hq]
    · exact h.elim
  · exact h.elim
def oYast (n : Nat) : qP := fun l st M c s _ K => match st with
  | .int x :: .int j :: .ref a :: r => (match M.2 a with
    | some (.inl (t, m, .inl f)) => t = 4 ∧ vp_in j m ∧ K n l r (q_set M a (.inl (4, m, .inl (upd f j.toNatClampNeg (vp_nar .byte x))))) c s
    | _ => False)
  | _ => False
theorem ok_yastore {mi : qMI} {pc n : Nat} (hd : decode mi.2.1 pc = .ok (.bastore, 1)) (hn : pc + 1 = n) : q_Ok mi pc (oYast n) := by
  intro G L R Z p e σ m args below meth c E B hB K hK l st M cs ss h H locs ls hl hH hS
  unfold oYast at h
  split at h
  · next x j a r =>
    split at h
    · next t m' f hM =>
      obtain ⟨rfl, hin, h⟩ := h
      subst hn
      obtain ⟨hA, hcell⟩ := hH.2.2.2.2.2.1 a 4 _ hM (by decide)
      refine W.bast E.1 E.2.1 hcell ((E.2.2.2.2.2.2.2.2.1.1.2 3 _ rfl).1 m' (fun j => .int (f j))) (fun q => by cases q) (by show ¬ (j < 0 ∨ (arrV _ _ _).slots.size ≤ _); rw [arrV_size]; exact hin) rfl rfl hd fun H1 e1 z oq => ?_
      refine hK _ _ _ _ _ _ h H1 _ ls hl (hH.setA hM (by decide) z oq ?_) (hS.put z oq hA)
      rw [e1, vp_cell_i, vp_cell_i, arrV_store]
      congr 2
      funext q
      by_cases hq : q = j.toNatClampNeg
      · subst hq
        simp [updV, upd, vp_nar]
        try rfl
      · simp [updV, upd, vp_nar, hq]
    · exact h.elim
  · exact h.elim
def oLast (n : Nat) : qP := fun l st M c s _ K => match st with
  | .long x :: .int j :: .ref a :: r => (match M.2 a with
    | some (.inl (t, m, .inr (.inl f))) => t = 2 ∧ vp_in j m ∧ K n l r (q_set M a (.inl (2, m, .inr (.inl (vp_updL f j.toNatClampNeg x))))) c s
    | _ => False)
  | _ => False
theorem ok_lastore {mi : qMI} {pc n : Nat} (hd : decode mi.2.1 pc = .ok (.lastore, 1)) (hn : pc + 1 = n) : q_Ok mi pc (oLast n) := by
  intro G L R Z p e σ m args below meth c E B hB K hK l st M cs ss h H locs ls hl hH hS
  unfold oLast at h
  split at h
  · next x j a r =>
    split at h
    · next t m' f hM =>
      obtain ⟨rfl, hin, h⟩ := h
      subst hn
      obtain ⟨hA, hcell⟩ := hH.2.2.2.2.2.1 a 2 _ hM (by decide)
      refine W.last E.1 E.2.1 hcell ((E.2.2.2.2.2.2.2.2.1.1.2 1 _ rfl).1 m' (fun j => .long (f j))) (fun q => by cases q) (by show ¬ (j < 0 ∨ (arrV _ _ _).slots.size ≤ _); rw [arrV_size]; exact hin) rfl rfl hd fun H1 e1 z oq => ?_
      refine hK _ _ _ _ _ _ h H1 _ ls hl (hH.setA hM (by decide) z oq ?_) (hS.put z oq hA)
      rw [e1, vp_cell_l, vp_cell_l, arrV_store]
      congr 2
      funext q
      by_cases hq : q = j.toNatClampNeg
      · subst hq
        simp [updV, vp_updL]
        try rfl
      · simp [updV, vp_updL, hq]
    · exact h.elim
  · exact h.elim
def oZast (n : Nat) : qP := fun l st M c s _ K => match st with
  | .int x :: .int j :: .ref a :: r => (match M.2 a with
    | some (.inl (t, m, .inl f)) => t = 3 ∧ vp_in j m ∧ (x = 0 ∨ x = 1) ∧ K n l r (q_set M a (.inl (3, m, .inl (upd f j.toNatClampNeg x)))) c s
    | _ => False)
  | _ => False
theorem ok_zastore {mi : qMI} {pc n : Nat} (hd : decode mi.2.1 pc = .ok (.bastore, 1)) (hn : pc + 1 = n) : q_Ok mi pc (oZast n) := by
  intro G L R Z p e σ m args below meth c E B hB K hK l st M cs ss h H locs ls hl hH hS
  unfold oZast at h
  split at h
  · next x j a r =>
    split at h
    · next t m' f hM =>
      obtain ⟨rfl, hin, hx01, h⟩ := h
      subst hn
      obtain ⟨hA, hcell⟩ := hH.2.2.2.2.2.1 a 3 _ hM (by decide)
      refine W.zast E.1 E.2.1 hcell ((E.2.2.2.2.2.2.2.2.1.1.2 2 _ rfl).1 m' (fun j => .int (f j))) (fun q => by cases q) (by show ¬ (j < 0 ∨ (arrV _ _ _).slots.size ≤ _); rw [arrV_size]; exact hin) rfl rfl hd fun H1 e1 z oq => ?_
      refine hK _ _ _ _ _ _ h H1 _ ls hl (hH.setA hM (by decide) z oq ?_) (hS.put z oq hA)
      rw [e1, vp_cell_i, vp_cell_i, arrV_store]
      congr 2
      funext q
      by_cases hq : q = j.toNatClampNeg
      · subst hq
        simp [updV, upd, vp_nar]
        first | rfl | (rcases hx01 with rfl | rfl <;> rfl)
      · simp [updV, upd, vp_nar, hq]
    · exact h.elim
  · exact h.elim
def oAast (n : Nat) : qP := fun l st M c s _ K => match st with
  | .ref v :: .int j :: .ref a :: r => (match M.2 a with
    | some (.inl (t, m, .inr (.inr (.inr (.inr f))))) => t = 5 ∧ vp_in j m ∧ (match M.2 v with
      | some (.inr (ci, _)) => ci = 4
      | _ => False) ∧ K n l r (q_set M a (.inl (5, m, .inr (.inr (.inr (.inr (va_up f j.toNatClampNeg (some v)))))))) c s
    | _ => False)
  | _ => False
theorem ok_aastore {mi : qMI} {pc n : Nat} (hd : decode mi.2.1 pc = .ok (.aastore, 1)) (hn : pc + 1 = n) : q_Ok mi pc (oAast n) := by
  intro G L R Z p e σ m args below meth c E B hB K hK l st M cs ss h H locs ls hl hH hS
  unfold oAast at h
  split at h
  · next v j a r =>
    split at h
    · next t m' f hM =>
      obtain ⟨rfl, hin, hv, h⟩ := h
      split at hv
      · next ci vs hMv =>
        subst hv
        subst hn
        obtain ⟨hA, hcell⟩ := hH.2.2.2.2.2.1 a 5 _ hM (by decide)
        have hlt : j.toNatClampNeg < m' := Nat.not_le.mp fun q => hin (Or.inr q)
        have h0 : ¬ j < 0 := fun q => hin (Or.inl q)
        have hKk := E.2.2.2.2.2.2.2.2.1.1
        obtain ⟨-, r', hr', cellV, g1, g2, g3, -⟩ := hH.2.2.2.2.2.2 v _ hMv
        have hcls := (hKk.1 4 (RX4, TX4, 4) rfl).2
        obtain ⟨kA, comp, k1, k2, k3, -⟩ := (hKk.2 4 (G.2.1 5, .object "ShownPatterns$Nodes") rfl).2
        have hcomp : comp = G.1.1 4 := Option.some.inj (k3.symm.trans hcls.1)
        subst hcomp
        obtain ⟨kC, hkC, -⟩ := hcls.2
        refine W.aast E.1 E.2.1 hcell (fun q h => by cases h) (fun h => by cases h) k1 k2 rfl hkC ⟨h0, by show _ < (arrV _ _ _).slots.size; rw [arrV_size]; exact hlt⟩ g1 (fun q h => by rw [g3] at h; cases h) (by rw [g2]; exact hkC) (by rw [g2]; exact va_assign hcls) rfl rfl hd fun H1 e1 z oq => ?_
        refine hK _ _ _ _ _ _ h H1 _ ls hl (hH.setA hM (by decide) z oq ?_) (hS.put z oq hA)
        rw [e1, vp_cell_q, vp_cell_q, arrV_store]
        congr 2
        funext q
        by_cases hq : q = j.toNatClampNeg
        · subst hq
          simp [updV, va_up, va_rf]
        · simp [updV, va_up, hq]
      · exact hv.elim
    · exact h.elim
  · exact h.elim
def oAlen (n : Nat) : qP := fun l st M c s _ K => match st with
  | .ref a :: r => (match M.2 a with
    | some (.inl (t, m, _)) => K n l (.int (nI m) :: r) M c s ∧ (t = 1 ∨ t = 2 ∨ t = 3 ∨ t = 4 ∨ t = 5 ∨ t = 6)
    | _ => False)
  | _ => False
theorem ok_alen {mi : qMI} {pc n : Nat} (hd : decode mi.2.1 pc = .ok (.arraylength, 1)) (hn : pc + 1 = n) : q_Ok mi pc (oAlen n) := by
  intro G L R Z p e σ m args below meth c E B hB K hK l st M cs ss h H locs ls hl hH hS
  unfold oAlen at h
  split at h
  · next a r =>
    split at h
    · next t m' f hM =>
      obtain ⟨h, ht⟩ := h
      subst hn
      have hKk := E.2.2.2.2.2.2.2.2.1.1
      have go := hK _ _ _ _ _ _ h H locs ls hl hH hS
      rcases ht with rfl | rfl | rfl | rfl | rfl | rfl
      · exact va_alen (D := G.1) (cl := vwCl) (tys := q_tys G) (ws := [(a, .inl (G.2.1 1, m', f))]) E.1 E.2.1 hKk (q_P1 (hH.2.2.2.2.2.1 a 1 _ hM (by decide)).2) 0 0 rfl rfl rfl hd go
      · exact va_alen (D := G.1) (cl := vwCl) (tys := q_tys G) (ws := [(a, .inl (G.2.1 2, m', f))]) E.1 E.2.1 hKk (q_P1 (hH.2.2.2.2.2.1 a 2 _ hM (by decide)).2) 0 1 rfl rfl rfl hd go
      · exact va_alen (D := G.1) (cl := vwCl) (tys := q_tys G) (ws := [(a, .inl (G.2.1 3, m', f))]) E.1 E.2.1 hKk (q_P1 (hH.2.2.2.2.2.1 a 3 _ hM (by decide)).2) 0 2 rfl rfl rfl hd go
      · exact va_alen (D := G.1) (cl := vwCl) (tys := q_tys G) (ws := [(a, .inl (G.2.1 4, m', f))]) E.1 E.2.1 hKk (q_P1 (hH.2.2.2.2.2.1 a 4 _ hM (by decide)).2) 0 3 rfl rfl rfl hd go
      · exact va_alen (D := G.1) (cl := vwCl) (tys := q_tys G) (ws := [(a, .inl (G.2.1 5, m', f))]) E.1 E.2.1 hKk (q_P1 (hH.2.2.2.2.2.1 a 5 _ hM (by decide)).2) 0 4 rfl rfl rfl hd go
      · rcases hH.2.2.2.2.1 a _ hM with ⟨rfl, hx⟩ | ⟨rfl, hx⟩
        · cases hx
          obtain ⟨cell, h1, h2, h3, h4, h5, h6, h7⟩ := q_Tk E.2.2.2.2.2.2.2.2.1.2.2.2.2.1 E.2.2.2.2.2.2.2.2.2
          exact W.alen E.1 E.2.1 (by rw [hS.2.1 _ (Array.getElem?_eq_some_iff.mp h1).1 h7]; exact h1) h2 h5 rfl rfl hd go
        · cases hx
          obtain ⟨cell, h1, h2, h3, h4, h5, h6, h7⟩ := q_Tk E.2.2.2.2.2.2.2.2.1.2.2.2.2.2.2 E.2.2.2.2.2.2.2.2.2
          exact W.alen E.1 E.2.1 (by rw [hS.2.1 _ (Array.getElem?_eq_some_iff.mp h1).1 h7]; exact h1) h2 h5 rfl rfl hd go
    · exact h.elim
  · exact h.elim
/-! making -/
def q_zero (t : Nat) : (Nat → Int32) ⊕ (Nat → Int64) ⊕ (Nat → UInt32) ⊕ (Nat → UInt64) ⊕ (Nat → Option Nat) := if t = 2 then .inr (.inl (fun _ => 0)) else .inl (fun _ => 0)
def oNewa (t n : Nat) : qP := fun l st M c s B K => match st with
  | .int j :: r => ¬ j < 0 ∧ j.toNatClampNeg ≤ 1000000 ∧ c + 1 ≤ B.2.2.2.2.1 ∧ s + j.toNatClampNeg ≤ B.2.2.2.2.2.1 ∧ K n l (.ref M.1 :: r) (q_new M (.inl (t, j.toNatClampNeg, q_zero t))) (c + 1) (s + j.toNatClampNeg)
  | _ => False
theorem ok_newa_int {mi : qMI} {pc n : Nat} (hd : decode mi.2.1 pc = .ok (.newarray .int, 2)) (hn : pc + 2 = n) (hw : Cond.arrayClass .int ∈ q_gw) : q_Ok mi pc (oNewa 1 n) := by
  intro G L R Z p e σ m args below meth c E B hB K hK l st M cs ss h H locs ls hl hH hS
  unfold oNewa at h
  split at h
  · next j r =>
    obtain ⟨h0, h1, h2, h3, h⟩ := h
    subst hn
    refine va_newaK (atype := .int) E.1 E.2.1 (E.2.2.2.2.1 _ hw) rfl hd rfl h0 rfl (by show j.toNatClampNeg * componentBytes .int ≤ _; have : componentBytes .int ≤ 8 := (by decide); have := Nat.mul_le_mul_left j.toNatClampNeg this; omega) (Nat.le_trans h2 hB.2.2.2.2.1) (Nat.le_trans h3 hB.2.2.2.2.2.1) rfl fun H1 cA e1 z1 o1 hAr hNm => ?_
    have hcA : cA = G.2.1 1 := Option.some.inj (hNm.symm.trans (E.2.2.2.2.2.2.2.2.1.1.2 0 _ rfl).2)
    subst hcA
    have hM1 : M.1 = H.size := hH.1
    have g := hK _ _ _ _ _ _ h H1 locs ls hl (hH.push z1 o1 (Or.inl ⟨1, _, rfl, by decide, e1⟩)) (q_S.push hS z1 o1)
    rw [hM1] at g
    exact g
  · exact h.elim
theorem ok_newa_long {mi : qMI} {pc n : Nat} (hd : decode mi.2.1 pc = .ok (.newarray .long, 2)) (hn : pc + 2 = n) (hw : Cond.arrayClass .long ∈ q_gw) : q_Ok mi pc (oNewa 2 n) := by
  intro G L R Z p e σ m args below meth c E B hB K hK l st M cs ss h H locs ls hl hH hS
  unfold oNewa at h
  split at h
  · next j r =>
    obtain ⟨h0, h1, h2, h3, h⟩ := h
    subst hn
    refine va_newaK (atype := .long) E.1 E.2.1 (E.2.2.2.2.1 _ hw) rfl hd rfl h0 rfl (by show j.toNatClampNeg * componentBytes .long ≤ _; have : componentBytes .long ≤ 8 := (by decide); have := Nat.mul_le_mul_left j.toNatClampNeg this; omega) (Nat.le_trans h2 hB.2.2.2.2.1) (Nat.le_trans h3 hB.2.2.2.2.2.1) rfl fun H1 cA e1 z1 o1 hAr hNm => ?_
    have hcA : cA = G.2.1 2 := Option.some.inj (hNm.symm.trans (E.2.2.2.2.2.2.2.2.1.1.2 1 _ rfl).2)
    subst hcA
    have hM1 : M.1 = H.size := hH.1
    have g := hK _ _ _ _ _ _ h H1 locs ls hl (hH.push z1 o1 (Or.inl ⟨2, _, rfl, by decide, e1⟩)) (q_S.push hS z1 o1)
    rw [hM1] at g
    exact g
  · exact h.elim
theorem ok_newa_boolean {mi : qMI} {pc n : Nat} (hd : decode mi.2.1 pc = .ok (.newarray .boolean, 2)) (hn : pc + 2 = n) (hw : Cond.arrayClass .boolean ∈ q_gw) : q_Ok mi pc (oNewa 3 n) := by
  intro G L R Z p e σ m args below meth c E B hB K hK l st M cs ss h H locs ls hl hH hS
  unfold oNewa at h
  split at h
  · next j r =>
    obtain ⟨h0, h1, h2, h3, h⟩ := h
    subst hn
    refine va_newaK (atype := .boolean) E.1 E.2.1 (E.2.2.2.2.1 _ hw) rfl hd rfl h0 rfl (by show j.toNatClampNeg * componentBytes .boolean ≤ _; have : componentBytes .boolean ≤ 8 := (by decide); have := Nat.mul_le_mul_left j.toNatClampNeg this; omega) (Nat.le_trans h2 hB.2.2.2.2.1) (Nat.le_trans h3 hB.2.2.2.2.2.1) rfl fun H1 cA e1 z1 o1 hAr hNm => ?_
    have hcA : cA = G.2.1 3 := Option.some.inj (hNm.symm.trans (E.2.2.2.2.2.2.2.2.1.1.2 2 _ rfl).2)
    subst hcA
    have hM1 : M.1 = H.size := hH.1
    have g := hK _ _ _ _ _ _ h H1 locs ls hl (hH.push z1 o1 (Or.inl ⟨3, _, rfl, by decide, e1⟩)) (q_S.push hS z1 o1)
    rw [hM1] at g
    exact g
  · exact h.elim
theorem ok_newa_byte {mi : qMI} {pc n : Nat} (hd : decode mi.2.1 pc = .ok (.newarray .byte, 2)) (hn : pc + 2 = n) (hw : Cond.arrayClass .byte ∈ q_gw) : q_Ok mi pc (oNewa 4 n) := by
  intro G L R Z p e σ m args below meth c E B hB K hK l st M cs ss h H locs ls hl hH hS
  unfold oNewa at h
  split at h
  · next j r =>
    obtain ⟨h0, h1, h2, h3, h⟩ := h
    subst hn
    refine va_newaK (atype := .byte) E.1 E.2.1 (E.2.2.2.2.1 _ hw) rfl hd rfl h0 rfl (by show j.toNatClampNeg * componentBytes .byte ≤ _; have : componentBytes .byte ≤ 8 := (by decide); have := Nat.mul_le_mul_left j.toNatClampNeg this; omega) (Nat.le_trans h2 hB.2.2.2.2.1) (Nat.le_trans h3 hB.2.2.2.2.2.1) rfl fun H1 cA e1 z1 o1 hAr hNm => ?_
    have hcA : cA = G.2.1 4 := Option.some.inj (hNm.symm.trans (E.2.2.2.2.2.2.2.2.1.1.2 3 _ rfl).2)
    subst hcA
    have hM1 : M.1 = H.size := hH.1
    have g := hK _ _ _ _ _ _ h H1 locs ls hl (hH.push z1 o1 (Or.inl ⟨4, _, rfl, by decide, e1⟩)) (q_S.push hS z1 o1)
    rw [hM1] at g
    exact g
  · exact h.elim
def oANew (n : Nat) : qP := fun l st M c s B K => match st with
  | .int j :: r => ¬ j < 0 ∧ j.toNatClampNeg ≤ 1000000 ∧ c + 1 ≤ B.2.2.2.2.1 ∧ s + j.toNatClampNeg ≤ B.2.2.2.2.2.1 ∧ K n l (.ref M.1 :: r) (q_new M (.inl (5, j.toNatClampNeg, .inr (.inr (.inr (.inr (fun _ => none))))))) (c + 1) (s + j.toNatClampNeg)
  | _ => False
theorem ok_anew {mi : qMI} {pc n idx : Nat} (hd : decode mi.2.1 pc = .ok (.anewarray idx, 3)) (hn : pc + 3 = n) (hw : Cond.classLink mi.1.cls idx "ShownPatterns$Nodes" ∈ q_gw) : q_Ok mi pc (oANew n) := by
  intro G L R Z p e σ m args below meth c E B hB K hK l st M cs ss h H locs ls hl hH hS
  unfold oANew at h
  split at h
  · next j r =>
    obtain ⟨h0, h1, h2, h3, h⟩ := h
    subst hn
    refine W.anew E.1 E.2.1 E.2.2.2.1 (E.2.2.2.2.1 _ hw) (va_AO.use E.2.2.2.2.2.2.2.2.1.2.2.1) rfl hd rfl h0 (by omega) (Nat.le_trans h2 hB.2.2.2.2.1) (Nat.le_trans h3 hB.2.2.2.2.2.1) fun cA kA comp f1 f2 f3 f4 => ?_
    obtain ⟨kA', comp', g1, g2, g3, g4⟩ := (E.2.2.2.2.2.2.2.2.1.1.2 4 (G.2.1 5, .object "ShownPatterns$Nodes") rfl).2
    have hcA : cA = G.2.1 5 := Option.some.inj (f1.symm.trans g4)
    subst hcA
    have hM1 : M.1 = H.size := hH.1
    generalize hH1 : H.push ({ cls := G.2.1 5, slots := Array.replicate j.toNatClampNeg .null, vm := .none } : Cell) = H1
    have z1 : H1.size = H.size + 1 := by rw [← hH1, Array.size_push]
    have e1 : H1[H.size]? = some (arrV (G.2.1 5) j.toNatClampNeg (fun _ => .null)) := by rw [← hH1, Array.getElem?_push_size, ← arrV_new]
    have o1 : ∀ q : Nat, q < H.size → H1[q]? = H[q]? := fun q hq => by rw [← hH1, Array.getElem?_push, if_neg (Nat.ne_of_lt hq)]
    have g := hK _ _ _ _ _ _ h H1 locs ls hl (hH.push z1 o1 (Or.inl ⟨5, _, rfl, by decide, e1⟩)) (q_S.push hS z1 o1)
    rw [hM1] at g
    exact g
  · exact h.elim
def oNew (ci N : Nat) (fs : List Value) (n : Nat) : qP := fun l st M c s B K => c + 1 ≤ B.2.2.2.2.1 ∧ s + N ≤ B.2.2.2.2.2.1 ∧ K n l (.ref M.1 :: st) (q_new M (.inr (ci, fs))) (c + 1) (s + N)
theorem ok_new {mi : qMI} {pc n ci N idx : Nat} {C : String} {T : u_T} {fs : List Value} (ty0 : Nat → FieldType) (hd : decode mi.2.1 pc = .ok (.new idx, 3)) (hn : pc + 3 = n) (hc : vwCl[ci]? = some (C, T, N)) (hin : ∀ w ∈ u_ws C T N, w ∈ q_gw) (hty : ∀ k, k < N → parseFieldDescriptor (T k).2.2.1 = some (ty0 k)) (hcl : Cond.classLink mi.1.cls idx C ∈ q_gw) (hinst : Cond.instantiable C N ∈ q_gw) (hini : Cond.initialized C ∈ q_gw) (hfs : ∀ j, j < N → defaultValue (ty0 j) = vp_V fs j) : q_Ok mi pc (oNew ci N fs n) := by
  intro G L R Z p e σ m args below meth c E B hB K hK l st M cs ss h H locs ls hl hH hS
  obtain ⟨h1, h2, h⟩ := h
  subst hn
  have hKn := E.2.2.2.2.2.2.2.2.1.1.1 ci _ hc
  refine W.newcK E.1 E.2.1 E.2.2.2.1 (E.2.2.2.2.1 _ hcl) (E.2.2.2.2.1 _ hinst) (E.2.2.2.2.1 _ hini) rfl hd (Nat.le_trans h1 hB.2.2.2.2.1) (Nat.le_trans h2 hB.2.2.2.2.2.1) hKn.2.1 rfl fun H1 kC hkC e1 z1 o1 => ?_
  have hM1 : M.1 = H.size := hH.1
  have g := hK _ _ _ _ _ _ h H1 locs ls hl (hH.push z1 o1 (Or.inr ⟨_, rfl, ⟨_, hc, (u_born ty0 E.2.2.2.2.1 hin hKn hkC e1 hty).to hfs⟩⟩)) (q_S.push hS z1 o1)
  rw [hM1] at g
  exact g
end
section
/-! calls -/
theorem q_blind {G : qC} {M : qM} {As : List Value} : FrameBlind (va_Pc As (q_Pc G M)) := by
  intro a U g mk q
  obtain ⟨q0, qK, qH⟩ := q
  obtain ⟨h1, h2, h3, h4, h5, h6, h7⟩ := qK
  have al : U.vm.Alike (U.calling g mk a).vm := Vm.Alike.refl U.vm
  have h2' : ∀ w ∈ lw_tbl, q_nest w = true → va_Nw w (U.calling g mk a) := by
    intro w hw hn
    cases w <;> first | exact va_Nw.same rfl rfl (h2 _ hw hn) | cases hn
  exact ⟨q0, ⟨va_K.moved al h1, h2', va_AO.moved al h3, va_Z.moved al h4, va_T.moved al h5, va_Z.moved al h6, va_T.moved al h7⟩, qH⟩
theorem q_pre {G : qC} {M : qM} {As : List Value} {σ : State} {H : Heap} (hK : q_K G σ) (hH : q_H G M H) : ∀ U : State, U.heap = H → σ.WarmedH U.vm → va_Pc As (q_Pc G M) As.toArray U := fun U hU hW => ⟨rfl, hK.warm hW, by rw [hU]; exact hH⟩
/-- behind a call -/
theorem q_back {G : qC} {L : Launch} {R : Room} {mi : qMI} {Z : State → Prop} {p : Program} {e : Env} {σ : State} {m : MethodId} {args : Array Value} {below : List Frame} {meth : Method} {c : Code} (E : q_Ev G mi p σ m args meth c) {H : Heap} {locs : List Loc} {ls : Array Slot} {cs ss mc ms pc : Nat} {l : qLv} {st r : List Value} {a : Array Value} {Q : Option Value → qM → Prop}
    (hr : va_Run p L e R σ m args below meth c H locs cs ss mc ms (F0 m pc ls st) r (q_Q G Q a) (q_A G)) (hl : lv_has ls mi.2.2.1 l) (hS : va_S (q_A G) σ.heap H locs)
    (kk : ∀ (v : Option Value) (M' : qM), Q v M' → q_Y G L R mi Z p e σ m args below meth c (pc + 3) l (v.toList ++ r) M' (cs + mc) (ss + ms)) : W p L e R σ m args below meth c H locs cs ss Z (F0 m pc ls st) := by
  intro T hT Xs
  obtain ⟨v, st₀, t, T', LL, h0, X', hL, e1, e2, ⟨r', M', hv, hQ, hH', hz⟩, stp⟩ := hr T hT Xs
  cases hv
  obtain ⟨t2, a1, b1⟩ := kk v M' hQ T'.heap (locs ++ LL) ls hl (by rw [e1]; exact hH') ⟨Nat.le_trans hS.1 (by rw [e1, ← h0]; exact hz), fun q g1 g2 => by
      have hq : q < G.2.2.1.size := Nat.not_le.mp g2
      rw [e1, hH'.2.1.2 q hq]
      exact (E.2.2.2.2.2.2.2.2.2.2 q hq).symm, fun q hq => by
      rcases List.mem_append.mp hq with h | h
      · exact hS.2.2 q h
      · exact hL q h⟩ T' rfl X'
  exact ⟨t2, stp t2 a1, b1⟩
theorem q_good {mi : qMI} (hcode : Cond.code mi.1 mi.2.1 mi.2.2.1 mi.2.2.2 ∈ q_gw) : GoodIn q_gw (q_ws mi) := by
  intro w hw
  have h : w ∈ q_gw := (List.mem_cons.mp hw).elim (fun e => e ▸ hcode) id
  exact ⟨h, good_of_word (List.mem_filter.mp h).2⟩
theorem q_room {R : Room} {d mc ms maxL : Nat} (h1 : d + 1 ≤ R.frames) (h2 : 40 * (d + 1) ≤ R.locals) (hm : maxL ≤ 20) : (q_rm d mc ms).frames + 1 ≤ R.frames ∧ 8 + (maxL + 11) + (q_rm d mc ms).locals ≤ R.locals := ⟨h1, by show 8 + (maxL + 11) + 40 * d ≤ R.locals; omega⟩
def oCallS (y : qMI) (na n : Nat) : qP := fun l st M c s B _ => match q_pop na [] st with
  | some (As, r) => q_wd r ≤ 8 ∧ c ≤ B.2.2.2.2.1 ∧ s ≤ B.2.2.2.2.2.1 ∧ B.2.1 y 0 0 As M (fun v M' => B.1 n l (v.toList ++ r) M' c s)
  | none => False
def oCallV (ci : Nat) (y : qMI) (na n : Nat) : qP := fun l st M c s B _ => match q_pop na [] st with
  | some (As, .ref b :: r) => (match M.2 b with
    | some (.inr (ci', _)) => ci' = ci
    | _ => False) ∧ q_wd r ≤ 8 ∧ c ≤ B.2.2.2.2.1 ∧ s ≤ B.2.2.2.2.2.1 ∧ B.2.1 y 0 0 (.ref b :: As) M (fun v M' => B.1 n l (v.toList ++ r) M' c s)
  | _ => False
def oCallVA (ci : Nat) (y : qMI) (na n : Nat) : qP := fun l st M c s B _ => match q_pop na [] st with
  | some (As, .ref b :: r) => (match M.2 b with
    | some (.inr (ci', _)) => ci' = ci
    | _ => False) ∧ q_wd r ≤ 8 ∧ ∃ mc ms : Nat, c + mc ≤ B.2.2.2.2.1 ∧ s + ms ≤ B.2.2.2.2.2.1 ∧ B.2.1 y mc ms (.ref b :: As) M (fun v M' => B.1 n l (v.toList ++ r) M' (c + mc) (s + ms))
  | _ => False
def oCallI (y : qMI) (na n : Nat) : qP := fun l st M c s B _ => match q_pop na [] st with
  | some (As, .ref b :: r) => q_wd r ≤ 8 ∧ ∃ mc ms : Nat, c + mc ≤ B.2.2.2.2.1 ∧ s + ms ≤ B.2.2.2.2.2.1 ∧ B.2.1 y mc ms (.ref b :: As) M (fun v M' => B.1 n l (v.toList ++ r) M' (c + mc) (s + ms))
  | _ => False
theorem ok_callS {mi y : qMI} {pc n na idx : Nat} (hd : decode mi.2.1 pc = .ok (.invokestatic idx, 3)) (hn : pc + 3 = n) (hpl : plainName y.1.cls = true) (hcode : Cond.code y.1 y.2.1 y.2.2.1 y.2.2.2 ∈ q_gw) (hini : Cond.initialized y.1.cls ∈ q_gw) (hd2 : y.1.cls ≠ "java/lang/invoke/MethodHandle" ∧ y.1.cls ≠ "java/lang/invoke/VarHandle" ∧ (parseMethodDescriptor y.1.desc).map (fun d => d.parameters.length) = some na) (hm : y.2.2.1 ≤ 20) (hst : Cond.static y.1 ∈ q_gw) (hlink : Cond.methodLink mi.1.cls idx y.1 ∈ q_gw) : q_Ok mi pc (oCallS y na n) := by
  intro G L R Z p e σ m args below meth c E B hB K hK l st M cs ss h H locs ls hl hH hS
  unfold oCallS at h
  split at h
  · next As r hp =>
    obtain ⟨t, t1, t2, t3⟩ := q_pop_spec _ _ _ _ _ hp
    rw [List.append_nil] at t1
    obtain ⟨hr, hc1, hc2, h⟩ := h
    subst hn
    obtain ⟨d', g1, g2, hM⟩ := hB.2.1 y 0 0 As M _ hpl h
    have hrun := va_runS (e := e) (below := below) (locs := locs) (cells := cs) (slots := ss) (R := R) (meth := meth) (As := As) (rest := r) (g := F0 m pc ls st) (H := H) ⟨E.1, E.2.1, E.2.2.1, E.2.2.2.1, E.2.2.2.2.1⟩ hM ⟨callB_of na E.2.2.2.2.1 (q_good hcode) rfl rfl rfl (E.2.2.2.2.1 _ hini) (E.2.2.2.2.1 _ hlink) hd2 (q_room g1 g2 hm), E.2.2.2.2.1 _ hst⟩ ⟨q_blind, q_pre E.2.2.2.2.2.2.2.2.1 hH⟩ rfl (by rw [t1, List.length_reverse]; exact t3) hl.1 (by show st = _; rw [t1, List.reverse_reverse]; exact t2) (lv_room (by rw [q_wd_eq]; exact hr)) hd ⟨Nat.le_trans hc1 hB.2.2.2.2.1, Nat.le_trans hc2 hB.2.2.2.2.2.1⟩
    exact q_back (mi := mi) E hrun hl hS (fun v M' hQ => hB.1 _ _ _ _ _ _ hQ)
  · exact h.elim
theorem ok_callSN {mi y : qMI} {pc n na idx : Nat} {host : String} (hd : decode mi.2.1 pc = .ok (.invokestatic idx, 3)) (hn : pc + 3 = n) (hpl : plainName y.1.cls = true) (hcode : Cond.code y.1 y.2.1 y.2.2.1 y.2.2.2 ∈ q_gw) (hini : Cond.initialized y.1.cls ∈ q_gw) (hd2 : y.1.cls ≠ "java/lang/invoke/MethodHandle" ∧ y.1.cls ≠ "java/lang/invoke/VarHandle" ∧ (parseMethodDescriptor y.1.desc).map (fun d => d.parameters.length) = some na) (hm : y.2.2.1 ≤ 20) (hst : Cond.static y.1 ∈ q_gw) (hlink : Cond.methodLinkNest mi.1.cls idx y.1 host ∈ lw_tbl) : q_Ok mi pc (oCallS y na n) := by
  intro G L R Z p e σ m args below meth c E B hB K hK l st M cs ss h H locs ls hl hH hS
  unfold oCallS at h
  split at h
  · next As r hp =>
    obtain ⟨t, t1, t2, t3⟩ := q_pop_spec _ _ _ _ _ hp
    rw [List.append_nil] at t1
    obtain ⟨hr, hc1, hc2, h⟩ := h
    subst hn
    obtain ⟨d', g1, g2, hM⟩ := hB.2.1 y 0 0 As M _ hpl h
    have hrun := va_runSN (e := e) (below := below) (locs := locs) (cells := cs) (slots := ss) (R := R) (meth := meth) (As := As) (rest := r) (g := F0 m pc ls st) (H := H) ⟨E.1, E.2.1, E.2.2.1, E.2.2.2.1, E.2.2.2.2.1⟩ hM ⟨va_cnB na E.2.2.2.2.1 (q_good hcode) rfl rfl rfl (E.2.2.2.2.2.2.2.2.1.2.1 _ hlink rfl) (E.2.2.2.2.1 _ hini) hd2 (q_room g1 g2 hm), E.2.2.2.2.1 _ hst, trivial⟩ ⟨q_blind, q_pre E.2.2.2.2.2.2.2.2.1 hH⟩ rfl (by rw [t1, List.length_reverse]; exact t3) hl.1 (by show st = _; rw [t1, List.reverse_reverse]; exact t2) (lv_room (by rw [q_wd_eq]; exact hr)) hd ⟨Nat.le_trans hc1 hB.2.2.2.2.1, Nat.le_trans hc2 hB.2.2.2.2.2.1⟩
    exact q_back (mi := mi) E hrun hl hS (fun v M' hQ => hB.1 _ _ _ _ _ _ hQ)
  · exact h.elim
theorem ok_callV {mi y : qMI} {pc n na idx : Nat} {ci N : Nat} {T : u_T} (hd : decode mi.2.1 pc = .ok (.invokevirtual idx, 3)) (hn : pc + 3 = n) (hpl : plainName y.1.cls = true) (hcode : Cond.code y.1 y.2.1 y.2.2.1 y.2.2.2 ∈ q_gw) (hini : Cond.initialized y.1.cls ∈ q_gw) (hd2 : y.1.cls ≠ "java/lang/invoke/MethodHandle" ∧ y.1.cls ≠ "java/lang/invoke/VarHandle" ∧ (parseMethodDescriptor y.1.desc).map (fun d => d.parameters.length) = some na) (hm : y.2.2.1 ≤ 20) (hcl : vwCl[ci]? = some (y.1.cls, T, N)) (hins : Cond.instanceMethod y.1 ∈ q_gw) (hsel : Cond.selects y.1.cls y.1 y.1 ∈ q_gw) (hlink : Cond.methodLink mi.1.cls idx y.1 ∈ q_gw) : q_Ok mi pc (oCallV ci y na n) := by
  intro G L R Z p e σ m args below meth c E B hB K hK l st M cs ss h H locs ls hl hH hS
  unfold oCallV at h
  split at h
  · next As b r hp =>
    obtain ⟨t, t1, t2, t3⟩ := q_pop_spec _ _ _ _ _ hp
    rw [List.append_nil] at t1
    obtain ⟨hrc, hr, hc1, hc2, h⟩ := h
    split at hrc
    · next ci' fs hMb =>
      subst hrc
      subst hn
      obtain ⟨d', g1, g2, hM⟩ := hB.2.1 y 0 0 (.ref b :: As) M _ hpl h
      have hrun := va_runV (e := e) (below := below) (locs := locs) (cells := cs) (slots := ss) (R := R) (meth := meth) (As := As) (rest := r) (g := F0 m pc ls st) (H := H) (b := b) (C := y.1.cls) ⟨E.1, E.2.1, E.2.2.1, E.2.2.2.1, E.2.2.2.2.1⟩ hM ⟨callB_of na E.2.2.2.2.1 (q_good hcode) rfl rfl rfl (E.2.2.2.2.1 _ hini) (E.2.2.2.2.1 _ hlink) hd2 (q_room g1 g2 hm), E.2.2.2.2.1 _ hins, E.2.2.2.2.1 _ hsel⟩ ⟨q_blind, va_recv (q0 := 0) (ws := [(b, .inr (ci', fs))]) E.2.2.2.2.2.2.2.2.1.1 (q_P1 (hH.2.2.2.2.2.2 b _ hMb).2) hcl rfl, q_pre E.2.2.2.2.2.2.2.2.1 hH⟩ rfl (by rw [t1, List.length_reverse]; exact t3) hl.1 (by show st = _; rw [t1, List.reverse_reverse]; exact t2) (lv_room (by rw [q_wd_eq]; exact hr)) hd ⟨Nat.le_trans hc1 hB.2.2.2.2.1, Nat.le_trans hc2 hB.2.2.2.2.2.1⟩
      exact q_back (mi := mi) E hrun hl hS (fun v M' hQ => hB.1 _ _ _ _ _ _ hQ)
    · exact hrc.elim
  · exact h.elim
theorem ok_callVN {mi y : qMI} {pc n na idx : Nat} {ci N : Nat} {T : u_T} {host : String} (hd : decode mi.2.1 pc = .ok (.invokevirtual idx, 3)) (hn : pc + 3 = n) (hpl : plainName y.1.cls = true) (hcode : Cond.code y.1 y.2.1 y.2.2.1 y.2.2.2 ∈ q_gw) (hini : Cond.initialized y.1.cls ∈ q_gw) (hd2 : y.1.cls ≠ "java/lang/invoke/MethodHandle" ∧ y.1.cls ≠ "java/lang/invoke/VarHandle" ∧ (parseMethodDescriptor y.1.desc).map (fun d => d.parameters.length) = some na) (hm : y.2.2.1 ≤ 20) (hcl : vwCl[ci]? = some (y.1.cls, T, N)) (hins : Cond.instanceMethod y.1 ∈ q_gw) (hsel : Cond.selects y.1.cls y.1 y.1 ∈ q_gw) (hlink : Cond.methodLinkNest mi.1.cls idx y.1 host ∈ lw_tbl) : q_Ok mi pc (oCallV ci y na n) := by
  intro G L R Z p e σ m args below meth c E B hB K hK l st M cs ss h H locs ls hl hH hS
  unfold oCallV at h
  split at h
  · next As b r hp =>
    obtain ⟨t, t1, t2, t3⟩ := q_pop_spec _ _ _ _ _ hp
    rw [List.append_nil] at t1
    obtain ⟨hrc, hr, hc1, hc2, h⟩ := h
    split at hrc
    · next ci' fs hMb =>
      subst hrc
      subst hn
      obtain ⟨d', g1, g2, hM⟩ := hB.2.1 y 0 0 (.ref b :: As) M _ hpl h
      have hrun := va_runVN (e := e) (below := below) (locs := locs) (cells := cs) (slots := ss) (R := R) (meth := meth) (As := As) (rest := r) (g := F0 m pc ls st) (H := H) (b := b) (C := y.1.cls) ⟨E.1, E.2.1, E.2.2.1, E.2.2.2.1, E.2.2.2.2.1⟩ hM ⟨va_cnB na E.2.2.2.2.1 (q_good hcode) rfl rfl rfl (E.2.2.2.2.2.2.2.2.1.2.1 _ hlink rfl) (E.2.2.2.2.1 _ hini) hd2 (q_room g1 g2 hm), E.2.2.2.2.1 _ hins, E.2.2.2.2.1 _ hsel⟩ ⟨q_blind, va_recv (q0 := 0) (ws := [(b, .inr (ci', fs))]) E.2.2.2.2.2.2.2.2.1.1 (q_P1 (hH.2.2.2.2.2.2 b _ hMb).2) hcl rfl, q_pre E.2.2.2.2.2.2.2.2.1 hH⟩ rfl (by rw [t1, List.length_reverse]; exact t3) hl.1 (by show st = _; rw [t1, List.reverse_reverse]; exact t2) (lv_room (by rw [q_wd_eq]; exact hr)) hd ⟨Nat.le_trans hc1 hB.2.2.2.2.1, Nat.le_trans hc2 hB.2.2.2.2.2.1⟩
      exact q_back (mi := mi) E hrun hl hS (fun v M' hQ => hB.1 _ _ _ _ _ _ hQ)
    · exact hrc.elim
  · exact h.elim
theorem ok_callVA {mi y : qMI} {pc n na idx : Nat} {ci N : Nat} {T : u_T} (hd : decode mi.2.1 pc = .ok (.invokevirtual idx, 3)) (hn : pc + 3 = n) (hpl : plainName y.1.cls = true) (hcode : Cond.code y.1 y.2.1 y.2.2.1 y.2.2.2 ∈ q_gw) (hini : Cond.initialized y.1.cls ∈ q_gw) (hd2 : y.1.cls ≠ "java/lang/invoke/MethodHandle" ∧ y.1.cls ≠ "java/lang/invoke/VarHandle" ∧ (parseMethodDescriptor y.1.desc).map (fun d => d.parameters.length) = some na) (hm : y.2.2.1 ≤ 20) (hcl : vwCl[ci]? = some (y.1.cls, T, N)) (hins : Cond.instanceMethod y.1 ∈ q_gw) (hsel : Cond.selects y.1.cls y.1 y.1 ∈ q_gw) (hlink : Cond.methodLink mi.1.cls idx y.1 ∈ q_gw) : q_Ok mi pc (oCallVA ci y na n) := by
  intro G L R Z p e σ m args below meth c E B hB K hK l st M cs ss h H locs ls hl hH hS
  unfold oCallVA at h
  split at h
  · next As b r hp =>
    obtain ⟨t, t1, t2, t3⟩ := q_pop_spec _ _ _ _ _ hp
    rw [List.append_nil] at t1
    obtain ⟨hrc, hr, mc, ms, hc1, hc2, h⟩ := h
    split at hrc
    · next ci' fs hMb =>
      subst hrc
      subst hn
      obtain ⟨d', g1, g2, hM⟩ := hB.2.1 y mc ms (.ref b :: As) M _ hpl h
      have hrun := va_runV (e := e) (below := below) (locs := locs) (cells := cs) (slots := ss) (R := R) (meth := meth) (As := As) (rest := r) (g := F0 m pc ls st) (H := H) (b := b) (C := y.1.cls) ⟨E.1, E.2.1, E.2.2.1, E.2.2.2.1, E.2.2.2.2.1⟩ hM ⟨callB_of na E.2.2.2.2.1 (q_good hcode) rfl rfl rfl (E.2.2.2.2.1 _ hini) (E.2.2.2.2.1 _ hlink) hd2 (q_room g1 g2 hm), E.2.2.2.2.1 _ hins, E.2.2.2.2.1 _ hsel⟩ ⟨q_blind, va_recv (q0 := 0) (ws := [(b, .inr (ci', fs))]) E.2.2.2.2.2.2.2.2.1.1 (q_P1 (hH.2.2.2.2.2.2 b _ hMb).2) hcl rfl, q_pre E.2.2.2.2.2.2.2.2.1 hH⟩ rfl (by rw [t1, List.length_reverse]; exact t3) hl.1 (by show st = _; rw [t1, List.reverse_reverse]; exact t2) (lv_room (by rw [q_wd_eq]; exact hr)) hd ⟨Nat.le_trans hc1 hB.2.2.2.2.1, Nat.le_trans hc2 hB.2.2.2.2.2.1⟩
      exact q_back (mi := mi) E hrun hl hS (fun v M' hQ => hB.1 _ _ _ _ _ _ hQ)
    · exact hrc.elim
  · exact h.elim
theorem ok_callVAN {mi y : qMI} {pc n na idx : Nat} {ci N : Nat} {T : u_T} {host : String} (hd : decode mi.2.1 pc = .ok (.invokevirtual idx, 3)) (hn : pc + 3 = n) (hpl : plainName y.1.cls = true) (hcode : Cond.code y.1 y.2.1 y.2.2.1 y.2.2.2 ∈ q_gw) (hini : Cond.initialized y.1.cls ∈ q_gw) (hd2 : y.1.cls ≠ "java/lang/invoke/MethodHandle" ∧ y.1.cls ≠ "java/lang/invoke/VarHandle" ∧ (parseMethodDescriptor y.1.desc).map (fun d => d.parameters.length) = some na) (hm : y.2.2.1 ≤ 20) (hcl : vwCl[ci]? = some (y.1.cls, T, N)) (hins : Cond.instanceMethod y.1 ∈ q_gw) (hsel : Cond.selects y.1.cls y.1 y.1 ∈ q_gw) (hlink : Cond.methodLinkNest mi.1.cls idx y.1 host ∈ lw_tbl) : q_Ok mi pc (oCallVA ci y na n) := by
  intro G L R Z p e σ m args below meth c E B hB K hK l st M cs ss h H locs ls hl hH hS
  unfold oCallVA at h
  split at h
  · next As b r hp =>
    obtain ⟨t, t1, t2, t3⟩ := q_pop_spec _ _ _ _ _ hp
    rw [List.append_nil] at t1
    obtain ⟨hrc, hr, mc, ms, hc1, hc2, h⟩ := h
    split at hrc
    · next ci' fs hMb =>
      subst hrc
      subst hn
      obtain ⟨d', g1, g2, hM⟩ := hB.2.1 y mc ms (.ref b :: As) M _ hpl h
      have hrun := va_runVN (e := e) (below := below) (locs := locs) (cells := cs) (slots := ss) (R := R) (meth := meth) (As := As) (rest := r) (g := F0 m pc ls st) (H := H) (b := b) (C := y.1.cls) ⟨E.1, E.2.1, E.2.2.1, E.2.2.2.1, E.2.2.2.2.1⟩ hM ⟨va_cnB na E.2.2.2.2.1 (q_good hcode) rfl rfl rfl (E.2.2.2.2.2.2.2.2.1.2.1 _ hlink rfl) (E.2.2.2.2.1 _ hini) hd2 (q_room g1 g2 hm), E.2.2.2.2.1 _ hins, E.2.2.2.2.1 _ hsel⟩ ⟨q_blind, va_recv (q0 := 0) (ws := [(b, .inr (ci', fs))]) E.2.2.2.2.2.2.2.2.1.1 (q_P1 (hH.2.2.2.2.2.2 b _ hMb).2) hcl rfl, q_pre E.2.2.2.2.2.2.2.2.1 hH⟩ rfl (by rw [t1, List.length_reverse]; exact t3) hl.1 (by show st = _; rw [t1, List.reverse_reverse]; exact t2) (lv_room (by rw [q_wd_eq]; exact hr)) hd ⟨Nat.le_trans hc1 hB.2.2.2.2.1, Nat.le_trans hc2 hB.2.2.2.2.2.1⟩
      exact q_back (mi := mi) E hrun hl hS (fun v M' hQ => hB.1 _ _ _ _ _ _ hQ)
    · exact hrc.elim
  · exact h.elim
theorem ok_callI {mi y : qMI} {pc n na idx : Nat} (hd : decode mi.2.1 pc = .ok (.invokespecial idx, 3)) (hn : pc + 3 = n) (hpl : plainName y.1.cls = true) (hcode : Cond.code y.1 y.2.1 y.2.2.1 y.2.2.2 ∈ q_gw) (hini : Cond.initialized y.1.cls ∈ q_gw) (hd2 : y.1.cls ≠ "java/lang/invoke/MethodHandle" ∧ y.1.cls ≠ "java/lang/invoke/VarHandle" ∧ (parseMethodDescriptor y.1.desc).map (fun d => d.parameters.length) = some na) (hm : y.2.2.1 ≤ 20) (hret : y.2.2.2 = none) (hnm : y.1.name = "<init>") (hins : Cond.instanceMethod y.1 ∈ q_gw) (hlink : Cond.methodLink mi.1.cls idx y.1 ∈ q_gw) : q_Ok mi pc (oCallI y na n) := by
  intro G L R Z p e σ m args below meth c E B hB K hK l st M cs ss h H locs ls hl hH hS
  unfold oCallI at h
  split at h
  · next As b r hp =>
    obtain ⟨t, t1, t2, t3⟩ := q_pop_spec _ _ _ _ _ hp
    rw [List.append_nil] at t1
    obtain ⟨hr, mc, ms, hc1, hc2, h⟩ := h
    subst hn
    obtain ⟨d', g1, g2, hM⟩ := hB.2.1 y mc ms (.ref b :: As) M _ hpl h
    have hrun := va_runI (e := e) (below := below) (locs := locs) (cells := cs) (slots := ss) (R := R) (meth := meth) (As := As) (rest := r) (g := F0 m pc ls st) (H := H) (b := b) (bytes := y.2.1) (maxL := y.2.2.1) ⟨E.1, E.2.1, E.2.2.1, E.2.2.2.1, E.2.2.2.2.1⟩ hM ⟨callB_of na E.2.2.2.2.1 (q_good hcode) (by show q_ws y = _; unfold q_ws; rw [hret]) rfl rfl (E.2.2.2.2.1 _ hini) (E.2.2.2.2.1 _ hlink) hd2 (q_room g1 g2 hm), hnm, E.2.2.2.2.1 _ hins⟩ ⟨q_blind, q_pre E.2.2.2.2.2.2.2.2.1 hH⟩ rfl (by rw [t1, List.length_reverse]; exact t3) hl.1 (by show st = _; rw [t1, List.reverse_reverse]; exact t2) (lv_room (by rw [q_wd_eq]; exact hr)) hd ⟨Nat.le_trans hc1 hB.2.2.2.2.1, Nat.le_trans hc2 hB.2.2.2.2.2.1⟩
    exact q_back (mi := mi) E hrun hl hS (fun v M' hQ => hB.1 _ _ _ _ _ _ hQ)
  · exact h.elim
theorem ok_callIN {mi y : qMI} {pc n na idx : Nat} {host : String} (hd : decode mi.2.1 pc = .ok (.invokespecial idx, 3)) (hn : pc + 3 = n) (hpl : plainName y.1.cls = true) (hcode : Cond.code y.1 y.2.1 y.2.2.1 y.2.2.2 ∈ q_gw) (hini : Cond.initialized y.1.cls ∈ q_gw) (hd2 : y.1.cls ≠ "java/lang/invoke/MethodHandle" ∧ y.1.cls ≠ "java/lang/invoke/VarHandle" ∧ (parseMethodDescriptor y.1.desc).map (fun d => d.parameters.length) = some na) (hm : y.2.2.1 ≤ 20) (hret : y.2.2.2 = none) (hnm : y.1.name = "<init>") (hins : Cond.instanceMethod y.1 ∈ q_gw) (hlink : Cond.methodLinkNest mi.1.cls idx y.1 host ∈ lw_tbl) : q_Ok mi pc (oCallI y na n) := by
  intro G L R Z p e σ m args below meth c E B hB K hK l st M cs ss h H locs ls hl hH hS
  unfold oCallI at h
  split at h
  · next As b r hp =>
    obtain ⟨t, t1, t2, t3⟩ := q_pop_spec _ _ _ _ _ hp
    rw [List.append_nil] at t1
    obtain ⟨hr, mc, ms, hc1, hc2, h⟩ := h
    subst hn
    obtain ⟨d', g1, g2, hM⟩ := hB.2.1 y mc ms (.ref b :: As) M _ hpl h
    have hrun := va_runIN (e := e) (below := below) (locs := locs) (cells := cs) (slots := ss) (R := R) (meth := meth) (As := As) (rest := r) (g := F0 m pc ls st) (H := H) (b := b) (bytes := y.2.1) (maxL := y.2.2.1) ⟨E.1, E.2.1, E.2.2.1, E.2.2.2.1, E.2.2.2.2.1⟩ hM ⟨va_cnB na E.2.2.2.2.1 (q_good hcode) (by show q_ws y = _; unfold q_ws; rw [hret]) rfl rfl (E.2.2.2.2.2.2.2.2.1.2.1 _ hlink rfl) (E.2.2.2.2.1 _ hini) hd2 (q_room g1 g2 hm), hnm, E.2.2.2.2.1 _ hins⟩ ⟨q_blind, q_pre E.2.2.2.2.2.2.2.2.1 hH⟩ rfl (by rw [t1, List.length_reverse]; exact t3) hl.1 (by show st = _; rw [t1, List.reverse_reverse]; exact t2) (lv_room (by rw [q_wd_eq]; exact hr)) hd ⟨Nat.le_trans hc1 hB.2.2.2.2.1, Nat.le_trans hc2 hB.2.2.2.2.2.1⟩
    exact q_back (mi := mi) E hrun hl hS (fun v M' hQ => hB.1 _ _ _ _ _ _ hQ)
  · exact h.elim
def oObj (n : Nat) : qP := fun l st M c s B K => match st with
  | .ref _ :: r => 0 < B.2.2.2.1 ∧ q_wd r ≤ 8 ∧ K n l r M c s
  | _ => False
theorem ok_obj {mi : qMI} {pc n idx : Nat} (hd : decode mi.2.1 pc = .ok (.invokespecial idx, 3)) (hn : pc + 3 = n) (hlink : Cond.methodLink mi.1.cls idx objectInit ∈ q_gw) (hins : Cond.instanceMethod objectInit ∈ q_gw) (hcode : Cond.code objectInit ⟨#[0xb1]⟩ 1 none ∈ q_gw) : q_Ok mi pc (oObj n) := by
  intro G L R Z p e σ m args below meth c E B hB K hK l st M cs ss h H locs ls hl hH hS
  unfold oObj at h
  split at h
  · next a r =>
    obtain ⟨h1, h2, h⟩ := h
    subst hn
    have hd4 := hB.2.2.2.1
    refine W.objInit E.1 E.2.1 E.2.2.2.1 (E.2.2.2.2.1 _ hlink) (E.2.2.2.2.1 _ hins) (E.2.2.2.2.1 _ hcode) rfl (by rw [E.2.2.1]; exact hl.1) rfl hd (by omega) (by
      have := lv_room (m := m) (pc := pc) (ls := ls) (rest := (.ref a :: r)) (st := r) (by rw [q_wd_eq]; exact h2)
      omega) ?_
    exact hK _ _ _ _ _ _ h H locs ls hl hH hS
  · exact h.elim
/-! returns -/
def oIret : qP := fun _ st M c s B _ => match st with
  | [.int v] => B.2.2.1 (some (.int v)) M c s
  | _ => False
def oZret : qP := fun _ st M c s B _ => match st with
  | [.int v] => (v = 0 ∨ v = 1) ∧ B.2.2.1 (some (.int v)) M c s
  | _ => False
def oLret : qP := fun _ st M c s B _ => match st with
  | [.long v] => B.2.2.1 (some (.long v)) M c s
  | _ => False
def oAret : qP := fun _ st M c s B _ => match st with
  | [.ref v] => B.2.2.1 (some (.ref v)) M c s
  | [.null] => B.2.2.1 (some .null) M c s
  | _ => False
def oVret : qP := fun _ st M c s B _ => match st with
  | [] => B.2.2.1 none M c s
  | _ => False
theorem ok_iret {mi : qMI} {pc : Nat} (hd : decode mi.2.1 pc = .ok (.ireturn, 1)) (hr : mi.2.2.2 = some .int) : q_Ok mi pc oIret := by
  intro G L R Z p e σ m args below meth c E B hB K hK l st M cs ss h H locs ls hl hH hS
  unfold oIret at h
  split at h
  · next v => exact hB.2.2.1 pc l _ _ M cs ss h (Or.inl ⟨v, .int, rfl, rfl, hr, rfl, hd⟩) H locs ls hl hH hS
  · exact h.elim
theorem ok_zret {mi : qMI} {pc : Nat} (hd : decode mi.2.1 pc = .ok (.ireturn, 1)) (hr : mi.2.2.2 = some .boolean) : q_Ok mi pc oZret := by
  intro G L R Z p e σ m args below meth c E B hB K hK l st M cs ss h H locs ls hl hH hS
  unfold oZret at h
  split at h
  · next v => exact hB.2.2.1 pc l _ _ M cs ss h.2 (Or.inl ⟨v, .boolean, rfl, rfl, hr, by rcases h.1 with rfl | rfl <;> rfl, hd⟩) H locs ls hl hH hS
  · exact h.elim
theorem ok_lret {mi : qMI} {pc : Nat} (hd : decode mi.2.1 pc = .ok (.lreturn, 1)) (hr : mi.2.2.2 = some .long) : q_Ok mi pc oLret := by
  intro G L R Z p e σ m args below meth c E B hB K hK l st M cs ss h H locs ls hl hH hS
  unfold oLret at h
  split at h
  · next v => exact hB.2.2.1 pc l _ _ M cs ss h (Or.inr (Or.inl ⟨v, rfl, rfl, hr, hd⟩)) H locs ls hl hH hS
  · exact h.elim
theorem ok_aret {mi : qMI} {pc : Nat} {s : String} (hd : decode mi.2.1 pc = .ok (.areturn, 1)) (hr : mi.2.2.2 = some (.object s)) : q_Ok mi pc oAret := by
  intro G L R Z p e σ m args below meth c E B hB K hK l st M cs ss h H locs ls hl hH hS
  unfold oAret at h
  split at h
  · next v => exact hB.2.2.1 pc l _ _ M cs ss h (Or.inr (Or.inr (Or.inl ⟨_, s, rfl, rfl, hr, Or.inr ⟨v, rfl⟩, hd⟩))) H locs ls hl hH hS
  · exact hB.2.2.1 pc l _ _ M cs ss h (Or.inr (Or.inr (Or.inl ⟨_, s, rfl, rfl, hr, Or.inl rfl, hd⟩))) H locs ls hl hH hS
  · exact h.elim
theorem ok_vret {mi : qMI} {pc : Nat} (hd : decode mi.2.1 pc = .ok (.return_, 1)) (hr : mi.2.2.2 = none) : q_Ok mi pc oVret := by
  intro G L R Z p e σ m args below meth c E B hB K hK l st M cs ss h H locs ls hl hH hS
  unfold oVret at h
  split at h
  · exact hB.2.2.1 pc l _ _ M cs ss h (Or.inr (Or.inr (Or.inr ⟨rfl, rfl, hr, hd⟩))) H locs ls hl hH hS
  · exact h.elim
/-! arraycopy of ints -/
def oCpy (n : Nat) : qP := fun l st M c s B K => match st with
  | .int k :: .int dp :: .ref a :: .int sp :: .ref b :: r => (match M.2 b, M.2 a with
    | some (.inl (t0, n0, .inl f)), some (.inl (t1, n1, .inl g)) => (t0 = 1 ∧ t1 = 1) ∧ 0 < B.2.2.2.1 ∧ q_wd r ≤ 8 ∧ ¬ sp < 0 ∧ ¬ dp < 0 ∧ ¬ k < 0 ∧ sp.toNatClampNeg + k.toNatClampNeg ≤ n0 ∧ dp.toNatClampNeg + k.toNatClampNeg ≤ n1 ∧ K n l r (q_set M a (.inl (1, n1, .inl (va_cpy f g sp.toNatClampNeg dp.toNatClampNeg k.toNatClampNeg)))) c s
    | _, _ => False)
  | _ => False
theorem ok_cpy {mi : qMI} {pc n idx : Nat} (hd : decode mi.2.1 pc = .ok (.invokestatic idx, 3)) (hn : pc + 3 = n) (hlink : Cond.methodLink mi.1.cls idx arraycopyName ∈ q_gw) (hnat : Cond.native arraycopyName ∈ q_gw) (hst : Cond.static arraycopyName ∈ q_gw) (hini : Cond.initialized "java/lang/System" ∈ q_gw) : q_Ok mi pc (oCpy n) := by
  intro G L R Z p e σ m args below meth c E B hB K hK l st M cs ss h H locs ls hl hH hS
  unfold oCpy at h
  split at h
  · next k dp a sp b r =>
    split at h
    · next t0 n0 f t1 n1 g hMb hMa =>
      obtain ⟨⟨rfl, rfl⟩, h0, hr, h1, h2, h3, h4, h5, h⟩ := h
      subst hn
      have hKk := E.2.2.2.2.2.2.2.2.1.1
      obtain ⟨hA, hc1⟩ := hH.2.2.2.2.2.1 a 1 _ hMa (by decide)
      obtain ⟨-, hc0⟩ := hH.2.2.2.2.2.1 b 1 _ hMb (by decide)
      have nn : ∀ z : Int32, ¬ z < 0 → z.toInt = (z.toNatClampNeg : Int) := by
        intro z hz
        have hz0 : (0 : Int) ≤ z.toInt := by
          have := Int32.not_lt.mp hz
          simpa using Int32.le_iff_toInt_le.mp this
        show z.toInt = ((z.toInt.toNat : Nat) : Int)
        omega
      intro T hT Xs
      obtain ⟨-, k0, hk0, cm0, hkk0⟩ := (hKk.2 0 _ rfl).1 n0 (fun j => .int (f j))
      obtain ⟨-, k1, hk1, cm1, hkk1⟩ := (hKk.2 0 _ rfl).1 n1 (fun j => .int (g j))
      have hdd := hB.2.2.2.1
      obtain ⟨vm', X', step⟩ := Xs.arraycopy E.1 E.2.2.2.1 (E.2.2.2.2.1 _ hlink) (E.2.2.2.2.1 _ hnat) (E.2.2.2.2.1 _ hst) (E.2.2.2.2.1 _ hini) (src := b) (dst := a) (cs := vp_cell (G.2.1 1) (n0, .inl f)) (cd := vp_cell (G.2.1 1) (n1, .inl g)) (srcPos := sp) (destPos := dp) (n := k) (by rw [hT]; exact hc0) (by rw [hT]; exact hc1)
        (fun _ h => by cases h) (fun _ h => by cases h) (fun h => by cases h) (fun h => by cases h) hk0 hk1 hkk0 hkk1 (by simp [refKind]) h1 h2 h3
        (by rw [nn sp h1, nn k h3]; show ¬ _ > ((arrV (G.2.1 1) n0 (fun j => .int (f j))).slots.size : Int); rw [arrV_size]; omega)
        (by rw [nn dp h2, nn k h3]; show ¬ _ > ((arrV (G.2.1 1) n1 (fun j => .int (g j))).slots.size : Int); rw [arrV_size]; omega)
        (fun vm₁ _ i hi => by
          have e : (vp_cell (G.2.1 1) (n0, .inl f)).slots.getD (sp.toNatClampNeg + i) .null = .int (f (sp.toNatClampNeg + i)) := by
            show (arrV (G.2.1 1) n0 (fun j => .int (f j))).slots.getD _ _ = _
            rw [Array.getD_eq_getD_getElem?, arrV_read _ _ (by omega)]
            rfl
          refine ⟨?_, ?_⟩
          · rw [e]; rfl
          · rw [e]; exact trivial)
        (g := F0 m pc ls (.int k :: .int dp :: .ref a :: .int sp :: .ref b :: r)) rfl (by rw [E.2.2.1]; exact hl.1) (rest := r) rfl (by rw [E.2.1]; exact hd) (by omega) (by
          have := lv_room (m := m) (pc := pc) (ls := ls) (rest := (.ref a :: r)) (st := r) (by rw [q_wd_eq]; exact hr)
          have e0 : nativeFrameWords "java/lang/System" "arraycopy" 5 = 7 := by decide
          show 2 * 0 + _ + _ ≤ _
          have e1 : 2 * (F0 m pc ls (.ref a :: r)).monitorRoom = 0 := rfl
          rw [e0]
          omega)
      have e1 : copied (vp_cell (G.2.1 1) (n0, .inl f)) (vp_cell (G.2.1 1) (n1, .inl g)) sp dp k = vp_cell (G.2.1 1) (n1, .inl (va_cpy f g sp.toNatClampNeg dp.toNatClampNeg k.toNatClampNeg)) := va_copied (fun z => .int z) (G.2.1 1) (G.2.1 1) f g h4
      rw [e1] at X' step
      have hlt : a < H.size := (Array.getElem?_eq_some_iff.mp hc1).1
      have hheap : ((T.setVm vm').setCell a (vp_cell (G.2.1 1) (n1, .inl (va_cpy f g sp.toNatClampNeg dp.toNatClampNeg k.toNatClampNeg)))).heap = H.setIfInBounds a (vp_cell (G.2.1 1) (n1, .inl (va_cpy f g sp.toNatClampNeg dp.toNatClampNeg k.toNatClampNeg))) := by rw [← hT]; rfl
      have oq : ∀ q : Nat, q ≠ a → (H.setIfInBounds a (vp_cell (G.2.1 1) (n1, .inl (va_cpy f g sp.toNatClampNeg dp.toNatClampNeg k.toNatClampNeg))))[q]? = H[q]? := fun q hq => by simp [Array.getElem?_setIfInBounds, Ne.symm hq]
      obtain ⟨t, a1, b1⟩ := hK _ _ _ _ _ _ h _ _ ls hl (hH.setA hMa (by decide) (by simp) oq (by simp [Array.getElem?_setIfInBounds, hlt])) ⟨by simp; exact hS.1, fun q g1 g2 => by
          rw [oq q (fun e => g2 (by rw [e]; exact hA))]
          exact hS.2.1 q g1 g2, fun q hq => by
          rcases List.mem_append.mp hq with h | h
          · exact hS.2.2 q h
          · obtain ⟨z, -, hz⟩ := List.mem_map.mp h
            rw [← hz]
            exact hA⟩ _ hheap X'
      exact ⟨t, step t a1, b1⟩
    · exact h.elim
  · exact h.elim
/-! contracts -/
/-- from a place in a method's body the method comes to its end with Q -/
def q_X (G : qC) (L : Launch) (d : Nat) (mi : qMI) (mc ms : Nat) (Q : Option Value → qM → Prop) : qKt := fun pc l st M cs ss =>
  ∀ (p : Program) (e : Env) (σ : State) (m : MethodId) (args : Array Value) (below : List Frame) (meth : Method) (c : Code), q_Ev G mi p σ m args meth c → q_Y G L (q_rm d mc ms) mi (MQ below (q_Q G Q) args σ mc ms (q_A G)) p e σ m args below meth c pc l st M cs ss
/-- a call comes back with Q -/
def q_Call (G : qC) (L : Launch) (d : Nat) (mi : qMI) (mc ms : Nat) (As : List Value) (M : qM) (Q : Option Value → qM → Prop) : Prop := q_X G L d mi mc ms Q 0 (lv_args 0 As) [] M 0 0
theorem q_Call.met {G : qC} {L : Launch} {d : Nat} {mi : qMI} {mc ms : Nat} {As : List Value} {M : qM} {Q : Option Value → qM → Prop} (hpl : plainName mi.1.cls = true) (hw : q_wd As ≤ mi.2.2.1) (h : q_Call G L d mi mc ms As M Q) : Met L mi.1 (q_ws mi) (q_rm d mc ms) (va_Pc As (q_Pc G M)) (q_Q G Q) mc ms (q_A G) := by
  refine Met.ofW (cc := mi.2.1) (maxL := mi.2.2.1) (ret := mi.2.2.2) hpl rfl ?_
  intro p e s m args below meth c s₁ B hml hv
  obtain ⟨rfl, hK, hH⟩ := hv
  have hts := atoms_spec (ws := q_ws mi) B.pre
  have hl := lv_entry As (n := mi.2.2.1) (by rw [q_wd_sl]; exact hw)
  rw [lg_entry_eq]
  exact h p e s m _ below meth c ⟨B.exec, B.bytes, hml, findClass_of_methodNamed B.named, fun w hw => hts w (List.mem_cons_of_mem _ hw), B.returns, B.notSynchronized, (name_of_methodNamed B.named B.method).1, hK, hH.2.1⟩ s.heap [] _ hl hH va_S.rf
def q_bx (G : qC) (L : Launch) (d : Nat) (mi : qMI) (mc ms : Nat) (Q : Option Value → qM → Prop) : qB :=
  (q_X G L d mi mc ms Q, fun y mc' ms' As M Q' => 0 < d ∧ q_wd As ≤ y.2.2.1 ∧ q_Call G L (d - 1) y mc' ms' As M Q', fun r M cs ss => cs ≤ mc ∧ ss ≤ ms ∧ Q r M, d, mc, ms, G.2.2.2.1, G.2.2.2.2)
theorem q_bx_ok {G : qC} {L : Launch} {d : Nat} {mi : qMI} {mc ms : Nat} {Q : Option Value → qM → Prop} {p : Program} {e : Env} {σ : State} {m : MethodId} {args : Array Value} {below : List Frame} {meth : Method} {c : Code} (E : q_Ev G mi p σ m args meth c) : q_BOk G L (q_rm d mc ms) mi (MQ below (q_Q G Q) args σ mc ms (q_A G)) p e σ m args below meth c (q_bx G L d mi mc ms Q) := by
  refine ⟨fun pc l st M cs ss h => h p e σ m args below meth c E, fun y mc' ms' As M Q' hpl h => ⟨d - 1, ?_, ?_, h.2.2.met hpl h.2.1⟩, ?_, ⟨Nat.le_refl _, Nat.le_refl _⟩, Nat.le_refl _, Nat.le_refl _, rfl, rfl⟩
  · have := h.1; show d - 1 + 1 ≤ d; omega
  · have := h.1; show 40 * (d - 1 + 1) ≤ 40 * d; omega
  · intro pc l st r M cs ss hR hk H locs ls hl hH hS
    obtain ⟨h1, h2, hQ⟩ := hR
    have fin : ∀ t : State, t.heap = H → σ.WarmedH t.vm → q_Q G Q args σ (.returned r) t := fun t ht _ => ⟨r, M, rfl, hQ, by rw [ht]; exact hH, by rw [ht]; exact hS.1⟩
    have hlocks : meth.locks = false := E.2.2.2.2.2.2.1
    refine W.widen (k := mc) (n := ms) h1 h2 ?_
    rcases hk with ⟨v, ty, rfl, rfl, g1, g2, g3⟩ | ⟨v, rfl, rfl, g1, g3⟩ | ⟨v, n, rfl, rfl, g1, g2, g3⟩ | ⟨rfl, rfl, g1, g3⟩
    · exact W.zret E.1 E.2.1 (E.2.2.2.2.2.1.trans g1) g2 fin hS.2.2 g3
    · exact W.lret E.1 E.2.1 (E.2.2.2.2.2.1.trans g1) fin hS.2.2 g3
    · exact W.aret E.1 E.2.1 (E.2.2.2.2.2.1.trans g1) (Or.inl ⟨n, rfl⟩) g2 fin hS.2.2 g3
    · exact W.vret E.1 E.2.1 (E.2.2.2.2.2.1.trans g1) fin hS.2.2 g3
/-! runs -/
def q_stop (ps : List Nat) (pc : Nat) : Bool := match ps with
  | [] => false
  | q :: r => if pc = q then true else q_stop r pc
def q_run (t : Nat → qP) (ps : List Nat) (B : qB) : Nat → qKt
  | 0, pc, l, st, M, cs, ss => B.1 pc l st M cs ss
  | n + 1, pc, l, st, M, cs, ss => t pc l st M cs ss B (fun pc' l' st' M' cs' ss' => if q_stop ps pc' = true then B.1 pc' l' st' M' cs' ss' else q_run t ps B n pc' l' st' M' cs' ss')
def q_Snd (mi : qMI) (t : Nat → qP) : Prop := ∀ pc, q_Ok mi pc (t pc)
theorem q_run_Y {mi : qMI} {t : Nat → qP} (hs : q_Snd mi t) (ps : List Nat) {G : qC} {L : Launch} {R : Room} {Z : State → Prop} {p : Program} {e : Env} {σ : State} {m : MethodId} {args : Array Value} {below : List Frame} {meth : Method} {c : Code} (E : q_Ev G mi p σ m args meth c) {B : qB} (hB : q_BOk G L R mi Z p e σ m args below meth c B) :
    ∀ (n pc : Nat) (l : qLv) (st : List Value) (M : qM) (cs ss : Nat), q_run t ps B n pc l st M cs ss → q_Y G L R mi Z p e σ m args below meth c pc l st M cs ss
  | 0, _, _, _, _, _, _, h => hB.1 _ _ _ _ _ _ h
  | n + 1, pc, l, st, M, cs, ss, h => hs pc G L R Z p e σ m args below meth c E B hB _ (fun pc' l' st' M' cs' ss' g => by
      by_cases hq : q_stop ps pc' = true
      · rw [if_pos hq] at g; exact hB.1 _ _ _ _ _ _ g
      · rw [if_neg hq] at g; exact q_run_Y hs ps E hB n pc' l' st' M' cs' ss' g) l st M cs ss h
theorem q_X.run {G : qC} {L : Launch} {d : Nat} {mi : qMI} {mc ms : Nat} {Q : Option Value → qM → Prop} {t : Nat → qP} (hs : q_Snd mi t) (ps : List Nat) (n : Nat) {pc : Nat} {l : qLv} {st : List Value} {M : qM} {cs ss : Nat} (h : q_run t ps (q_bx G L d mi mc ms Q) n pc l st M cs ss) : q_X G L d mi mc ms Q pc l st M cs ss :=
  fun _ _ _ _ _ _ _ _ E => q_run_Y hs ps E (q_bx_ok E) n pc l st M cs ss h
/-- fewer locals, in any order -/
theorem q_X.lv {G : qC} {L : Launch} {d : Nat} {mi : qMI} {mc ms : Nat} {Q : Option Value → qM → Prop} {pc : Nat} {l : qLv} {st : List Value} {M : qM} {cs ss : Nat} (l' : qLv) (hl : ∀ q ∈ l', q_lg l q.1 = some q.2) (h : q_X G L d mi mc ms Q pc l' st M cs ss) : q_X G L d mi mc ms Q pc l st M cs ss :=
  fun p e σ m args below meth c E H locs ls g1 g2 g3 => h p e σ m args below meth c E H locs ls ⟨g1.1, g1.2.1, fun q hq => q_lg_at g1 (hl q hq)⟩ g2 g3
/-- what the memory always is -/
theorem q_X.mem {G : qC} {L : Launch} {d : Nat} {mi : qMI} {mc ms : Nat} {Q : Option Value → qM → Prop} {pc : Nat} {l : qLv} {st : List Value} {M : qM} {cs ss : Nat} (h : (M.2 G.2.2.2.1 = some q_roO ∧ M.2 G.2.2.2.2 = some q_roW) → (∀ a e, M.2 a = some e → a < M.1) → q_X G L d mi mc ms Q pc l st M cs ss) : q_X G L d mi mc ms Q pc l st M cs ss :=
  fun p e σ m args below meth c E H locs ls g1 g2 g3 => h g2.2.2.2.1 (fun _ _ ha => g2.lt ha) p e σ m args below meth c E H locs ls g1 g2 g3
/-- a weaker end -/
theorem q_X.mono {G : qC} {L : Launch} {d : Nat} {mi : qMI} {mc ms : Nat} {Q Q' : Option Value → qM → Prop} {pc : Nat} {l : qLv} {st : List Value} {M : qM} {cs ss : Nat} (hQ : ∀ r M, Q r M → Q' r M) (h : q_X G L d mi mc ms Q pc l st M cs ss) : q_X G L d mi mc ms Q' pc l st M cs ss := by
  intro p e σ m args below meth c E H locs ls g1 g2 g3 T hT Xs
  obtain ⟨t, a, o, b1, b2, ⟨r, M', e1, e2, e3, e4⟩, b4⟩ := h p e σ m args below meth c E H locs ls g1 g2 g3 T hT Xs
  exact ⟨t, a, o, b1, b2, ⟨r, M', e1, hQ _ _ e2, e3, e4⟩, b4⟩
end
section
theorem ok_ldcw {mi : qMI} {pc n : Nat} {k : Nat} {v : Int32} (hd : decode mi.2.1 pc = .ok (.ldc_w k, 3)) (hn : pc + 3 = n) (hc : Cond.constant mi.1.cls k v ∈ q_gw) : q_Ok mi pc (oK (.int v) n) := by
  intro G L R Z p e σ m args below meth c E B hB K hK l st M cs ss h H locs ls hl hH hS
  subst hn
  exact lv_ldcw E.1 E.2.1 E.2.2.2.1 (E.2.2.2.2.1 _ hc) hd (hK _ _ _ _ _ _ h H locs ls hl hH hS)
/-! tables of operations -/
def oNo : qP := fun _ _ _ _ _ _ _ => False
def q_tb : List (Nat × qP) → Nat → qP
  | [], _ => oNo
  | q :: r, pc => match Nat.beq pc q.1 with
    | true => q.2
    | false => q_tb r pc
theorem q_tb_ok {mi : qMI} : ∀ {L : List (Nat × qP)}, (∀ q ∈ L, q_Ok mi q.1 q.2) → q_Snd mi (q_tb L)
  | [], _ => fun pc => by
    intro G L R Z p e σ m args below meth c E B hB K hK l st M cs ss h
    exact h.elim
  | q :: r, h => fun pc => by
    have ih := q_tb_ok (L := r) (fun x hx => h x (List.mem_cons_of_mem _ hx)) pc
    unfold q_tb
    split
    · next e =>
      have e2 : pc = q.1 := Nat.eq_of_beq_eq_true e
      rw [e2]
      exact h q List.mem_cons_self
    · exact ih
theorem q_fa {α : Type} {P : α → Prop} {a : α} {l : List α} (h : P a) (t : ∀ q ∈ l, P q) : ∀ q ∈ a :: l, P q := fun q hq => (List.mem_cons.mp hq).elim (fun e => e ▸ h) (t q)
theorem q_fa0 {α : Type} {P : α → Prop} : ∀ q ∈ ([] : List α), P q := fun _ h => absurd h List.not_mem_nil
theorem q_ntables_1_1 {w : Cond} {i : Nat} (h : tables_1_1[i]? = some w) : w ∈ lw_tbl := List.mem_append_right _ (show w ∈ tables_1 from List.mem_append_left _ (List.mem_of_getElem? h))
theorem q_tables_1_1 {w : Cond} {i : Nat} (h : tables_1_1[i]? = some w) (hg : goodWord w = true) : w ∈ q_gw := List.mem_filter.mpr ⟨q_ntables_1_1 h, hg⟩
theorem q_ntables_1_2 {w : Cond} {i : Nat} (h : tables_1_2[i]? = some w) : w ∈ lw_tbl := List.mem_append_right _ (show w ∈ tables_1 from List.mem_append_right _ (List.mem_append_left _ (List.mem_of_getElem? h)))
theorem q_tables_1_2 {w : Cond} {i : Nat} (h : tables_1_2[i]? = some w) (hg : goodWord w = true) : w ∈ q_gw := List.mem_filter.mpr ⟨q_ntables_1_2 h, hg⟩
theorem q_ntables_1_3 {w : Cond} {i : Nat} (h : tables_1_3[i]? = some w) : w ∈ lw_tbl := List.mem_append_right _ (show w ∈ tables_1 from List.mem_append_right _ (List.mem_append_right _ (List.mem_append_left _ (List.mem_of_getElem? h))))
theorem q_tables_1_3 {w : Cond} {i : Nat} (h : tables_1_3[i]? = some w) (hg : goodWord w = true) : w ∈ q_gw := List.mem_filter.mpr ⟨q_ntables_1_3 h, hg⟩
theorem q_ntables_1_4 {w : Cond} {i : Nat} (h : tables_1_4[i]? = some w) : w ∈ lw_tbl := List.mem_append_right _ (show w ∈ tables_1 from List.mem_append_right _ (List.mem_append_right _ (List.mem_append_right _ (List.mem_append_left _ (List.mem_of_getElem? h)))))
theorem q_tables_1_4 {w : Cond} {i : Nat} (h : tables_1_4[i]? = some w) (hg : goodWord w = true) : w ∈ q_gw := List.mem_filter.mpr ⟨q_ntables_1_4 h, hg⟩
theorem q_ntables_1_5 {w : Cond} {i : Nat} (h : tables_1_5[i]? = some w) : w ∈ lw_tbl := List.mem_append_right _ (show w ∈ tables_1 from List.mem_append_right _ (List.mem_append_right _ (List.mem_append_right _ (List.mem_append_right _ (List.mem_append_left _ (List.mem_of_getElem? h))))))
theorem q_tables_1_5 {w : Cond} {i : Nat} (h : tables_1_5[i]? = some w) (hg : goodWord w = true) : w ∈ q_gw := List.mem_filter.mpr ⟨q_ntables_1_5 h, hg⟩
theorem q_ntables_1_6 {w : Cond} {i : Nat} (h : tables_1_6[i]? = some w) : w ∈ lw_tbl := List.mem_append_right _ (show w ∈ tables_1 from List.mem_append_right _ (List.mem_append_right _ (List.mem_append_right _ (List.mem_append_right _ (List.mem_append_right _ (List.mem_append_left _ (List.mem_of_getElem? h)))))))
theorem q_tables_1_6 {w : Cond} {i : Nat} (h : tables_1_6[i]? = some w) (hg : goodWord w = true) : w ∈ q_gw := List.mem_filter.mpr ⟨q_ntables_1_6 h, hg⟩
theorem q_ntables_1_7 {w : Cond} {i : Nat} (h : tables_1_7[i]? = some w) : w ∈ lw_tbl := List.mem_append_right _ (show w ∈ tables_1 from List.mem_append_right _ (List.mem_append_right _ (List.mem_append_right _ (List.mem_append_right _ (List.mem_append_right _ (List.mem_append_right _ (List.mem_of_getElem? h)))))))
theorem q_tables_1_7 {w : Cond} {i : Nat} (h : tables_1_7[i]? = some w) (hg : goodWord w = true) : w ∈ q_gw := List.mem_filter.mpr ⟨q_ntables_1_7 h, hg⟩
def oMax (n : Nat) : qP := fun l st M c s B K => match st with
  | .int y :: .int x :: r => 0 < B.2.2.2.1 ∧ q_wd r ≤ 8 ∧ c ≤ B.2.2.2.2.1 ∧ s ≤ B.2.2.2.2.2.1 ∧ K n l (.int (if x < y then y else x) :: r) M c s
  | _ => False
theorem ok_max {mi : qMI} {pc n idx : Nat} (hd : decode mi.2.1 pc = .ok (.invokestatic idx, 3)) (hn : pc + 3 = n) (hlink : Cond.methodLink mi.1.cls idx Lib.Math.max.name ∈ q_gw) (hst : Cond.static Lib.Math.max.name ∈ q_gw) (hini : Cond.initialized "java/lang/Math" ∈ q_gw) (hcode : Cond.code Lib.Math.max.name Lib.Math.max.code 2 (some .int) ∈ q_gw) : q_Ok mi pc (oMax n) := by
  intro G L R Z p e σ m args below meth c E B hB K hK l st M cs ss h H locs ls hl hH hS
  unfold oMax at h
  split at h
  · next y x r =>
    obtain ⟨h1, h2, h3, h4, h⟩ := h
    subst hn
    have hd4 := hB.2.2.2.1
    exact va_mmax E.1 E.2.1 (by rw [E.2.2.1]; exact hl.1.symm) E.2.2.2.1 (E.2.2.2.2.1 _ hlink) (E.2.2.2.2.1 _ hst) (E.2.2.2.2.1 _ hini) (E.2.2.2.2.1 _ hcode) (by omega) (by rw [q_wd_eq]; omega) (Nat.le_trans h3 hB.2.2.2.2.1) (Nat.le_trans h4 hB.2.2.2.2.2.1) hd (hK _ _ _ _ _ _ h H locs ls hl hH hS)
  · exact h.elim
def oMin (n : Nat) : qP := fun l st M c s B K => match st with
  | .int y :: .int x :: r => 0 < B.2.2.2.1 ∧ q_wd r ≤ 8 ∧ c ≤ B.2.2.2.2.1 ∧ s ≤ B.2.2.2.2.2.1 ∧ K n l (.int (if y < x then y else x) :: r) M c s
  | _ => False
theorem ok_min {mi : qMI} {pc n idx : Nat} (hd : decode mi.2.1 pc = .ok (.invokestatic idx, 3)) (hn : pc + 3 = n) (hlink : Cond.methodLink mi.1.cls idx Lib.Math.min.name ∈ q_gw) (hst : Cond.static Lib.Math.min.name ∈ q_gw) (hini : Cond.initialized "java/lang/Math" ∈ q_gw) (hcode : Cond.code Lib.Math.min.name Lib.Math.min.code 2 (some .int) ∈ q_gw) : q_Ok mi pc (oMin n) := by
  intro G L R Z p e σ m args below meth c E B hB K hK l st M cs ss h H locs ls hl hH hS
  unfold oMin at h
  split at h
  · next y x r =>
    obtain ⟨h1, h2, h3, h4, h⟩ := h
    subst hn
    have hd4 := hB.2.2.2.1
    exact va_mmin E.1 E.2.1 (by rw [E.2.2.1]; exact hl.1.symm) E.2.2.2.1 (E.2.2.2.2.1 _ hlink) (E.2.2.2.2.1 _ hst) (E.2.2.2.2.1 _ hini) (E.2.2.2.2.1 _ hcode) (by omega) (by rw [q_wd_eq]; omega) (Nat.le_trans h3 hB.2.2.2.2.1) (Nat.le_trans h4 hB.2.2.2.2.2.1) hd (hK _ _ _ _ _ _ h H locs ls hl hH hS)
  · exact h.elim
abbrev mX0_init : qMI := (yX0_init, cX0_init, 1, none)
abbrev mX0_build : qMI := (yX0_build, cX0_build, 4, none)
abbrev mX0_addNode : qMI := (yX0_addNode, cX0_addNode, 6, none)
abbrev mX0_addLeaf : qMI := (yX0_addLeaf, cX0_addLeaf, 4, none)
abbrev mX0_follow : qMI := (yX0_follow, cX0_follow, 4, none)
abbrev mX0_fillSteps : qMI := (yX0_fillSteps, cX0_fillSteps, 6, none)
abbrev mX0_after : qMI := (yX0_after, cX0_after, 4, some .int)
abbrev mX0_endsAt : qMI := (yX0_endsAt, cX0_endsAt, 2, some .boolean)
abbrev mX0_longestFit : qMI := (yX0_longestFit, cX0_longestFit, 7, some .int)
abbrev mX1_init : qMI := (yX1_init, cX1_init, 2, none)
abbrev mX1_nodes : qMI := (yX1_nodes, cX1_nodes, 1, some (.object "ShownPatterns$Nodes"))
abbrev mX1_begin : qMI := (yX1_begin, cX1_begin, 2, some .int)
abbrev mX1_end : qMI := (yX1_end, cX1_end, 2, some .int)
abbrev mX1_size : qMI := (yX1_size, cX1_size, 2, some .int)
abbrev mX1_kindsOf : qMI := (yX1_kindsOf, cX1_kindsOf, 2, some .int)
abbrev mX1_addLeaves : qMI := (yX1_addLeaves, cX1_addLeaves, 6, none)
abbrev mX1_addPairs : qMI := (yX1_addPairs, cX1_addPairs, 8, none)
abbrev mX1_addSingles : qMI := (yX1_addSingles, cX1_addSingles, 5, none)
abbrev mX1_add : qMI := (yX1_add, cX1_add, 6, none)
abbrev mX1_numberOf : qMI := (yX1_numberOf, cX1_numberOf, 4, some .int)
abbrev mX1_numberNode : qMI := (yX1_numberNode, cX1_numberNode, 6, none)
abbrev mX1_numberAmong : qMI := (yX1_numberAmong, cX1_numberAmong, 6, some .int)
abbrev mX2_init : qMI := (yX2_init, cX2_init, 9, none)
abbrev mX2_meaningAt : qMI := (yX2_meaningAt, cX2_meaningAt, 2, some .int)
abbrev mX2_judgeNew : qMI := (yX2_judgeNew, cX2_judgeNew, 4, none)
abbrev mX2_isOfKinds : qMI := (yX2_isOfKinds, cX2_isOfKinds, 3, some .boolean)
abbrev mX2_against : qMI := (yX2_against, cX2_against, 2, some .int)
abbrev mX2_begin : qMI := (yX2_begin, cX2_begin, 3, none)
abbrev mX2_hasBegun : qMI := (yX2_hasBegun, cX2_hasBegun, 1, some .boolean)
abbrev mX2_foundSoFar : qMI := (yX2_foundSoFar, cX2_foundSoFar, 1, some .int)
abbrev mX2_goOn : qMI := (yX2_goOn, cX2_goOn, 1, some .int)
abbrev mX2_isNew : qMI := (yX2_isNew, cX2_isNew, 3, some .boolean)
abbrev mX2_countOpen : qMI := (yX2_countOpen, cX2_countOpen, 6, some .int)
abbrev mX2_countRows : qMI := (yX2_countRows, cX2_countRows, 3, none)
abbrev mX2_addRows : qMI := (yX2_addRows, cX2_addRows, 3, none)
abbrev mX2_evenestRow : qMI := (yX2_evenestRow, cX2_evenestRow, 8, some .int)
abbrev mX2_rowBy : qMI := (yX2_rowBy, cX2_rowBy, 3, some .int)
abbrev mX2_haveAskedRow : qMI := (yX2_haveAskedRow, cX2_haveAskedRow, 1, some .int)
abbrev mX2_cheapest : qMI := (yX2_cheapest, cX2_cheapest, 9, some .int)
abbrev mX2_priceOf : qMI := (yX2_priceOf, cX2_priceOf, 2, some .int)
abbrev mX3_init : qMI := (yX3_init, cX3_init, 1, none)
abbrev mX3_size : qMI := (yX3_size, cX3_size, 1, some .int)
abbrev mX3_hasRow : qMI := (yX3_hasRow, cX3_hasRow, 4, some .boolean)
abbrev mX3_wordOf : qMI := (yX3_wordOf, cX3_wordOf, 4, some .int)
abbrev mX3_meaningOf : qMI := (yX3_meaningOf, cX3_meaningOf, 4, some .int)
abbrev mX3_load : qMI := (yX3_load, cX3_load, 4, none)
abbrev mX3_addAll : qMI := (yX3_addAll, cX3_addAll, 3, none)
abbrev mX3_repeat : qMI := (yX3_repeat, cX3_repeat, 2, none)
abbrev mX3_addJoined : qMI := (yX3_addJoined, cX3_addJoined, 4, none)
abbrev mX3_keep : qMI := (yX3_keep, cX3_keep, 4, some .int)
abbrev mX3_isMade : qMI := (yX3_isMade, cX3_isMade, 3, some .boolean)
abbrev mX3_keepNew : qMI := (yX3_keepNew, cX3_keepNew, 1, some .int)
abbrev mX4_init : qMI := (yX4_init, cX4_init, 3, none)
abbrev mX4_size : qMI := (yX4_size, cX4_size, 1, some .int)
abbrev mX4_clear : qMI := (yX4_clear, cX4_clear, 1, none)
abbrev mX4_add : qMI := (yX4_add, cX4_add, 4, some .int)
abbrev mX4_kindOf : qMI := (yX4_kindOf, cX4_kindOf, 2, some .int)
abbrev mX4_leftOf : qMI := (yX4_leftOf, cX4_leftOf, 2, some .int)
abbrev mX4_rightOf : qMI := (yX4_rightOf, cX4_rightOf, 2, some .int)
abbrev mX4_setRight : qMI := (yX4_setRight, cX4_setRight, 3, none)
abbrev mX4_cost : qMI := (yX4_cost, cX4_cost, 3, some .int)
abbrev mX4_become : qMI := (yX4_become, cX4_become, 3, none)
abbrev mX4_copy : qMI := (yX4_copy, cX4_copy, 7, some .int)
abbrev mX5_init : qMI := (yX5_init, cX5_init, 1, none)
abbrev mX5_firstRow : qMI := (yX5_firstRow, cX5_firstRow, 12, some .int)
abbrev mX5_rowTo : qMI := (yX5_rowTo, cX5_rowTo, 2, some .int)
abbrev mX5_reach : qMI := (yX5_reach, cX5_reach, 3, none)
abbrev mX5_longer : qMI := (yX5_longer, cX5_longer, 2, some .int)
abbrev mX6_init : qMI := (yX6_init, cX6_init, 1, none)
abbrev mX6_length : qMI := (yX6_length, cX6_length, 1, some .int)
abbrev mX6_nodes : qMI := (yX6_nodes, cX6_nodes, 1, some (.object "ShownPatterns$Nodes"))
abbrev mX6_fault : qMI := (yX6_fault, cX6_fault, 1, some .int)
abbrev mX6_take : qMI := (yX6_take, cX6_take, 5, some .int)
abbrev mX6_put : qMI := (yX6_put, cX6_put, 2, none)
abbrev mX6_parse : qMI := (yX6_parse, cX6_parse, 2, some .int)
abbrev mX6_sign : qMI := (yX6_sign, cX6_sign, 1, some .int)
abbrev mX6_push : qMI := (yX6_push, cX6_push, 2, none)
abbrev mX6_pop : qMI := (yX6_pop, cX6_pop, 1, some .int)
abbrev mX6_readChoice : qMI := (yX6_readChoice, cX6_readChoice, 5, some .int)
abbrev mX6_readChain : qMI := (yX6_readChain, cX6_readChain, 5, some .int)
abbrev mX6_beginsPart : qMI := (yX6_beginsPart, cX6_beginsPart, 1, some .boolean)
abbrev mX6_isLetter : qMI := (yX6_isLetter, cX6_isLetter, 1, some .boolean)
abbrev mX6_chain : qMI := (yX6_chain, cX6_chain, 5, some .int)
abbrev mX6_readRepeats : qMI := (yX6_readRepeats, cX6_readRepeats, 4, some .int)
abbrev mX6_readPart : qMI := (yX6_readPart, cX6_readPart, 4, some .int)
abbrev mX6_readClass : qMI := (yX6_readClass, cX6_readClass, 3, some .int)
abbrev mX7_init : qMI := (yX7_init, cX7_init, 1, none)
abbrev mX7_size : qMI := (yX7_size, cX7_size, 1, some .int)
abbrev mX7_has : qMI := (yX7_has, cX7_has, 2, some .boolean)
abbrev mX7_add : qMI := (yX7_add, cX7_add, 5, some .int)
abbrev mX7_takeBack : qMI := (yX7_takeBack, cX7_takeBack, 4, some .int)
abbrev mX7_standing : qMI := (yX7_standing, cX7_standing, 1, some .int)
abbrev mX7_priceOf : qMI := (yX7_priceOf, cX7_priceOf, 4, some .int)
abbrev mX7_rowOf : qMI := (yX7_rowOf, cX7_rowOf, 2, some .int)
abbrev mX7_isSo : qMI := (yX7_isSo, cX7_isSo, 5, some .boolean)
abbrev mX8_init : qMI := (yX8_init, cX8_init, 2, none)
abbrev mX8_lay : qMI := (yX8_lay, cX8_lay, 5, none)
abbrev mX8_fill : qMI := (yX8_fill, cX8_fill, 4, none)
abbrev mX8_of : qMI := (yX8_of, cX8_of, 2, some .long)
abbrev mX8_spanOf : qMI := (yX8_spanOf, cX8_spanOf, 4, some .long)
abbrev mX8_ofClass : qMI := (yX8_ofClass, cX8_ofClass, 5, some .long)
abbrev mX8_behind : qMI := (yX8_behind, cX8_behind, 7, some .long)
abbrev mX8_again : qMI := (yX8_again, cX8_again, 5, some .long)
abbrev mX8_has : qMI := (yX8_has, cX8_has, 4, some .boolean)
abbrev mX8_partOut : qMI := (yX8_partOut, cX8_partOut, 5, some .int)
abbrev mX9_init : qMI := (yX9_init, cX9_init, 1, none)
abbrev mX9_fill : qMI := (yX9_fill, cX9_fill, 8, none)
abbrev mX9_from : qMI := (yX9_from, cX9_from, 4, some .int)
abbrev mX9_rowAt : qMI := (yX9_rowAt, cX9_rowAt, 10, some .int)
abbrev mX10_init : qMI := (yX10_init, cX10_init, 1, none)
abbrev mX10_length : qMI := (yX10_length, cX10_length, 1, some .int)
abbrev mX10_signAt : qMI := (yX10_signAt, cX10_signAt, 2, some .int)
abbrev mX10_write : qMI := (yX10_write, cX10_write, 2, none)
abbrev mX10_put : qMI := (yX10_put, cX10_put, 2, none)
abbrev mX10_writeNode : qMI := (yX10_writeNode, cX10_writeNode, 7, none)
abbrev mX10_writePart : qMI := (yX10_writePart, cX10_writePart, 5, none)
abbrev mX10_putClass : qMI := (yX10_putClass, cX10_putClass, 3, none)
abbrev mX11_init : qMI := (yX11_init, cX11_init, 2, none)
abbrev mX11_feed : qMI := (yX11_feed, cX11_feed, 3, some .int)
abbrev mX11_read : qMI := (yX11_read, cX11_read, 4, some .int)
abbrev mX11_say : qMI := (yX11_say, cX11_say, 4, some .int)
abbrev mX11_drop : qMI := (yX11_drop, cX11_drop, 3, some .int)
abbrev mX11_about : qMI := (yX11_about, cX11_about, 6, some .int)
abbrev mX11_nth : qMI := (yX11_nth, cX11_nth, 6, some .int)
abbrev mX11_fits : qMI := (yX11_fits, cX11_fits, 5, some .int)
abbrev mX11_out : qMI := (yX11_out, cX11_out, 7, some .int)
abbrev mX11_many : qMI := (yX11_many, cX11_many, 4, some .int)
abbrev mX11_row : qMI := (yX11_row, cX11_row, 5, some .int)
abbrev mX11_alike : qMI := (yX11_alike, cX11_alike, 4, some .int)
abbrev mX11_parted : qMI := (yX11_parted, cX11_parted, 3, some .int)
abbrev mX11_inside : qMI := (yX11_inside, cX11_inside, 4, some .int)
abbrev mX11_show : qMI := (yX11_show, cX11_show, 6, some .int)
abbrev mX11_back : qMI := (yX11_back, cX11_back, 3, some .int)
abbrev mX11_agrees : qMI := (yX11_agrees, cX11_agrees, 4, some .int)
abbrev mX11_paid : qMI := (yX11_paid, cX11_paid, 5, some .int)
abbrev mX11_find : qMI := (yX11_find, cX11_find, 6, some .int)
abbrev mX11_next : qMI := (yX11_next, cX11_next, 3, some .int)
abbrev mX11_found : qMI := (yX11_found, cX11_found, 1, some .int)
abbrev mX11_open : qMI := (yX11_open, cX11_open, 3, some .int)
abbrev mX11_ask : qMI := (yX11_ask, cX11_ask, 3, some .int)
abbrev mX11_asked : qMI := (yX11_asked, cX11_asked, 1, some .int)
abbrev mX11_noise : qMI := (yX11_noise, cX11_noise, 7, some .int)
abbrev mX11_count : qMI := (yX11_count, cX11_count, 2, some .int)
abbrev mX11_placeAt : qMI := (yX11_placeAt, cX11_placeAt, 2, some (.object "ShownPatterns$Nodes"))
abbrev mX11_patternAt : qMI := (yX11_patternAt, cX11_patternAt, 3, some (.object "ShownPatterns$Nodes"))
abbrev mX11_patternsInPlaces : qMI := (yX11_patternsInPlaces, cX11_patternsInPlaces, 3, some .int)
abbrev mX11_theCatalogue : qMI := (yX11_theCatalogue, cX11_theCatalogue, 1, some (.object "ShownPatterns$Catalogue"))
abbrev mX11_theFinder : qMI := (yX11_theFinder, cX11_theFinder, 1, some (.object "ShownPatterns$Finder"))
abbrev mX11_putFound : qMI := (yX11_putFound, cX11_putFound, 3, some .int)
abbrev mX11_partingRow : qMI := (yX11_partingRow, cX11_partingRow, 6, some .int)
abbrev mX11_agreesWith : qMI := (yX11_agreesWith, cX11_agreesWith, 3, some .boolean)
abbrev mX11_isPart : qMI := (yX11_isPart, cX11_isPart, 3, some .boolean)
abbrev mX11_isKinds : qMI := (yX11_isKinds, cX11_isKinds, 1, some .boolean)
abbrev mX11_isCost : qMI := (yX11_isCost, cX11_isCost, 1, some .boolean)
abbrev mX11_lengthOf : qMI := (yX11_lengthOf, cX11_lengthOf, 2, some .int)
abbrev mX11_letterAt : qMI := (yX11_letterAt, cX11_letterAt, 5, some .int)
abbrev mX11_ownCost : qMI := (yX11_ownCost, cX11_ownCost, 1, some .int)
abbrev mX11_isLeaf : qMI := (yX11_isLeaf, cX11_isLeaf, 1, some .boolean)
abbrev mX11_hasTwoParts : qMI := (yX11_hasTwoParts, cX11_hasTwoParts, 1, some .boolean)
abbrev mX12_init : qMI := (yX12_init, cX12_init, 1, none)
abbrev mX12_in : qMI := (yX12_in, cX12_in, 3, some .boolean)
abbrev mX12_take : qMI := (yX12_take, cX12_take, 6, some .boolean)
abbrev mX12_price : qMI := (yX12_price, cX12_price, 1, some .int)
abbrev mX12_lays : qMI := (yX12_lays, cX12_lays, 6, none)
abbrev mX12_make : qMI := (yX12_make, cX12_make, 5, some .int)
abbrev mX12_add : qMI := (yX12_add, cX12_add, 5, none)
abbrev mX12_lay : qMI := (yX12_lay, cX12_lay, 6, none)
abbrev mX12_ends : qMI := (yX12_ends, cX12_ends, 3, some .int)
abbrev mX12_behind : qMI := (yX12_behind, cX12_behind, 5, some .int)
abbrev mX12_again : qMI := (yX12_again, cX12_again, 5, some .int)
abbrev mX12_isFit : qMI := (yX12_isFit, cX12_isFit, 2, some .boolean)
abbrev mX12_outOf : qMI := (yX12_outOf, cX12_outOf, 5, some .int)
abbrev mX12_isPlace : qMI := (yX12_isPlace, cX12_isPlace, 1, some .boolean)
abbrev mX12_has : qMI := (yX12_has, cX12_has, 2, some .boolean)
abbrev mX12_grow : qMI := (yX12_grow, cX12_grow, 5, some .int)
abbrev mX12_treeOf : qMI := (yX12_treeOf, cX12_treeOf, 2, some .int)
abbrev mX12_flatten : qMI := (yX12_flatten, cX12_flatten, 2, none)
abbrev mX12_put : qMI := (yX12_put, cX12_put, 3, none)
abbrev mX12_feed : qMI := (yX12_feed, cX12_feed, 4, some .int)
abbrev mX12_look : qMI := (yX12_look, cX12_look, 1, some .int)
abbrev mX12_wrong : qMI := (yX12_wrong, cX12_wrong, 1, some .int)
abbrev mX12_begins : qMI := (yX12_begins, cX12_begins, 1, some .boolean)
abbrev mX12_either : qMI := (yX12_either, cX12_either, 3, some .int)
abbrev mX12_row0 : qMI := (yX12_row0, cX12_row0, 3, some .int)
abbrev mX12_joined : qMI := (yX12_joined, cX12_joined, 3, some .int)
abbrev mX12_repeated : qMI := (yX12_repeated, cX12_repeated, 2, some .int)
abbrev mX12_base : qMI := (yX12_base, cX12_base, 3, some .int)
abbrev mX12_set : qMI := (yX12_set, cX12_set, 3, some .int)
abbrev mX12_read : qMI := (yX12_read, cX12_read, 3, some .int)
abbrev mX12_sign : qMI := (yX12_sign, cX12_sign, 2, none)
abbrev mX12_sayIn : qMI := (yX12_sayIn, cX12_sayIn, 3, none)
abbrev mX12_say0 : qMI := (yX12_say0, cX12_say0, 4, none)
abbrev mX12_say : qMI := (yX12_say, cX12_say, 3, some .int)
abbrev mX12_drop : qMI := (yX12_drop, cX12_drop, 2, some .int)
abbrev mX12_find0 : qMI := (yX12_find0, cX12_find0, 5, some .int)
abbrev mX12_about : qMI := (yX12_about, cX12_about, 4, some .int)
abbrev mX12_nth : qMI := (yX12_nth, cX12_nth, 4, some .int)
abbrev mX12_fits : qMI := (yX12_fits, cX12_fits, 3, some .int)
abbrev mX12_out : qMI := (yX12_out, cX12_out, 3, some .int)
abbrev mX12_study : qMI := (yX12_study, cX12_study, 7, none)
abbrev mX12_follow : qMI := (yX12_follow, cX12_follow, 5, none)
abbrev mX12_study0 : qMI := (yX12_study0, cX12_study0, 3, none)
abbrev mX12_steps : qMI := (yX12_steps, cX12_steps, 7, some .int)
abbrev mX12_ends0 : qMI := (yX12_ends0, cX12_ends0, 3, some .boolean)
abbrev mX12_countWays : qMI := (yX12_countWays, cX12_countWays, 7, none)
abbrev mX12_many : qMI := (yX12_many, cX12_many, 3, some .int)
abbrev mX12_row : qMI := (yX12_row, cX12_row, 9, some .int)
abbrev mX12_findPair : qMI := (yX12_findPair, cX12_findPair, 11, some .int)
abbrev mX12_alike : qMI := (yX12_alike, cX12_alike, 3, some .int)
abbrev mX12_parted : qMI := (yX12_parted, cX12_parted, 7, some .int)
abbrev mX12_inside : qMI := (yX12_inside, cX12_inside, 3, some .int)
abbrev mX12_show : qMI := (yX12_show, cX12_show, 5, some .int)
abbrev mX12_isShowing : qMI := (yX12_isShowing, cX12_isShowing, 2, some .boolean)
abbrev mX12_back : qMI := (yX12_back, cX12_back, 4, some .int)
abbrev mX12_agrees0 : qMI := (yX12_agrees0, cX12_agrees0, 4, some .boolean)
abbrev mX12_agrees : qMI := (yX12_agrees, cX12_agrees, 3, some .int)
abbrev mX12_paidBy : qMI := (yX12_paidBy, cX12_paidBy, 4, some .int)
abbrev mX12_paid : qMI := (yX12_paid, cX12_paid, 2, some .int)
abbrev mX12_number : qMI := (yX12_number, cX12_number, 5, none)
abbrev mX12_know : qMI := (yX12_know, cX12_know, 4, none)
abbrev mX12_agreesAll : qMI := (yX12_agreesAll, cX12_agreesAll, 3, some .boolean)
abbrev mX12_isOf : qMI := (yX12_isOf, cX12_isOf, 4, some .boolean)
abbrev mX12_areAsked : qMI := (yX12_areAsked, cX12_areAsked, 2, some .boolean)
abbrev mX12_isNew : qMI := (yX12_isNew, cX12_isNew, 3, some .boolean)
abbrev mX12_note : qMI := (yX12_note, cX12_note, 2, none)
abbrev mX12_goOn : qMI := (yX12_goOn, cX12_goOn, 3, some .int)
abbrev mX12_find : qMI := (yX12_find, cX12_find, 4, some .int)
abbrev mX12_next : qMI := (yX12_next, cX12_next, 2, some .int)
abbrev mX12_found : qMI := (yX12_found, cX12_found, 1, some .int)
abbrev mX12_gather : qMI := (yX12_gather, cX12_gather, 6, none)
abbrev mX12_open : qMI := (yX12_open, cX12_open, 3, some .int)
abbrev mX12_ask : qMI := (yX12_ask, cX12_ask, 8, some .int)
abbrev mX12_asked : qMI := (yX12_asked, cX12_asked, 1, some .int)
abbrev mX12_noise : qMI := (yX12_noise, cX12_noise, 8, some .int)
abbrev mX12_count : qMI := (yX12_count, cX12_count, 4, some .int)
abbrev mJ6_bitCount_0f7a4 : qMI := (yJ6_bitCount_0f7a4, cJ6_bitCount_0f7a4, 1, some .int)
abbrev mJ7_fill_d0a16 : qMI := (yJ7_fill_d0a16, cJ7_fill_d0a16, 5, none)
abbrev mJ7_fill_53178 : qMI := (yJ7_fill_53178, cJ7_fill_53178, 4, none)
abbrev mL_law : qMI := (x, code, 4, some .boolean)
theorem inX0 : ∀ w ∈ u_ws RX0 TX0 9, w ∈ q_gw := fun w hw => List.mem_filter.mpr ⟨(by decide +kernel : ∀ w ∈ u_ws RX0 TX0 9, w ∈ lw_tbl) w hw, (by decide +kernel : ∀ w ∈ u_ws RX0 TX0 9, goodWord w = true) w hw⟩
theorem inX1 : ∀ w ∈ u_ws RX1 TX1 5, w ∈ q_gw := fun w hw => List.mem_filter.mpr ⟨(by decide +kernel : ∀ w ∈ u_ws RX1 TX1 5, w ∈ lw_tbl) w hw, (by decide +kernel : ∀ w ∈ u_ws RX1 TX1 5, goodWord w = true) w hw⟩
theorem inX2 : ∀ w ∈ u_ws RX2 TX2 17, w ∈ q_gw := fun w hw => List.mem_filter.mpr ⟨(by decide +kernel : ∀ w ∈ u_ws RX2 TX2 17, w ∈ lw_tbl) w hw, (by decide +kernel : ∀ w ∈ u_ws RX2 TX2 17, goodWord w = true) w hw⟩
theorem inX3 : ∀ w ∈ u_ws RX3 TX3 6, w ∈ q_gw := fun w hw => List.mem_filter.mpr ⟨(by decide +kernel : ∀ w ∈ u_ws RX3 TX3 6, w ∈ lw_tbl) w hw, (by decide +kernel : ∀ w ∈ u_ws RX3 TX3 6, goodWord w = true) w hw⟩
theorem inX4 : ∀ w ∈ u_ws RX4 TX4 4, w ∈ q_gw := fun w hw => List.mem_filter.mpr ⟨(by decide +kernel : ∀ w ∈ u_ws RX4 TX4 4, w ∈ lw_tbl) w hw, (by decide +kernel : ∀ w ∈ u_ws RX4 TX4 4, goodWord w = true) w hw⟩
theorem inX5 : ∀ w ∈ u_ws RX5 TX5 3, w ∈ q_gw := fun w hw => List.mem_filter.mpr ⟨(by decide +kernel : ∀ w ∈ u_ws RX5 TX5 3, w ∈ lw_tbl) w hw, (by decide +kernel : ∀ w ∈ u_ws RX5 TX5 3, goodWord w = true) w hw⟩
theorem inX6 : ∀ w ∈ u_ws RX6 TX6 7, w ∈ q_gw := fun w hw => List.mem_filter.mpr ⟨(by decide +kernel : ∀ w ∈ u_ws RX6 TX6 7, w ∈ lw_tbl) w hw, (by decide +kernel : ∀ w ∈ u_ws RX6 TX6 7, goodWord w = true) w hw⟩
theorem inX7 : ∀ w ∈ u_ws RX7 TX7 6, w ∈ q_gw := fun w hw => List.mem_filter.mpr ⟨(by decide +kernel : ∀ w ∈ u_ws RX7 TX7 6, w ∈ lw_tbl) w hw, (by decide +kernel : ∀ w ∈ u_ws RX7 TX7 6, goodWord w = true) w hw⟩
theorem inX8 : ∀ w ∈ u_ws RX8 TX8 2, w ∈ q_gw := fun w hw => List.mem_filter.mpr ⟨(by decide +kernel : ∀ w ∈ u_ws RX8 TX8 2, w ∈ lw_tbl) w hw, (by decide +kernel : ∀ w ∈ u_ws RX8 TX8 2, goodWord w = true) w hw⟩
theorem inX9 : ∀ w ∈ u_ws RX9 TX9 1, w ∈ q_gw := fun w hw => List.mem_filter.mpr ⟨(by decide +kernel : ∀ w ∈ u_ws RX9 TX9 1, w ∈ lw_tbl) w hw, (by decide +kernel : ∀ w ∈ u_ws RX9 TX9 1, goodWord w = true) w hw⟩
theorem inX10 : ∀ w ∈ u_ws RX10 TX10 2, w ∈ q_gw := fun w hw => List.mem_filter.mpr ⟨(by decide +kernel : ∀ w ∈ u_ws RX10 TX10 2, w ∈ lw_tbl) w hw, (by decide +kernel : ∀ w ∈ u_ws RX10 TX10 2, goodWord w = true) w hw⟩
theorem inX11 : ∀ w ∈ u_ws RX11 TX11 11, w ∈ q_gw := fun w hw => List.mem_filter.mpr ⟨(by decide +kernel : ∀ w ∈ u_ws RX11 TX11 11, w ∈ lw_tbl) w hw, (by decide +kernel : ∀ w ∈ u_ws RX11 TX11 11, goodWord w = true) w hw⟩
theorem inX12 : ∀ w ∈ u_ws RX12 TX12 58, w ∈ q_gw := fun w hw => List.mem_filter.mpr ⟨(by decide +kernel : ∀ w ∈ u_ws RX12 TX12 58, w ∈ lw_tbl) w hw, (by decide +kernel : ∀ w ∈ u_ws RX12 TX12 58, goodWord w = true) w hw⟩
theorem g97 : Cond.methodLink "ShownPatterns$Automaton" (3 : Nat) ({ cls := "java/lang/Object", name := "<init>", desc := "()V" } : MethodName) ∈ q_gw := q_tables_1_1 (i := 97) rfl rfl
theorem g24 : Cond.instanceMethod ({ cls := "java/lang/Object", name := "<init>", desc := "()V" } : MethodName) ∈ q_gw := q_tables_1_1 (i := 24) rfl rfl
theorem g25 : Cond.code ({ cls := "java/lang/Object", name := "<init>", desc := "()V" } : MethodName) object_method_1_code (1 : Nat) (Option.none : Option FieldType) ∈ q_gw := q_tables_1_1 (i := 25) rfl rfl
theorem g126 : Cond.arrayClass FieldType.boolean ∈ q_gw := q_tables_1_1 (i := 126) rfl rfl
theorem g98 : Cond.fieldLink "ShownPatterns$Automaton" (9 : Nat) "ShownPatterns$Automaton" "empty" "[Z" ∈ q_gw := q_tables_1_1 (i := 98) rfl rfl
theorem g56 : Cond.arrayClass FieldType.int ∈ q_gw := q_tables_1_1 (i := 56) rfl rfl
theorem g99 : Cond.fieldLink "ShownPatterns$Automaton" (15 : Nat) "ShownPatterns$Automaton" "firsts" "[I" ∈ q_gw := q_tables_1_1 (i := 99) rfl rfl
theorem g100 : Cond.fieldLink "ShownPatterns$Automaton" (19 : Nat) "ShownPatterns$Automaton" "lasts" "[I" ∈ q_gw := q_tables_1_1 (i := 100) rfl rfl
theorem g101 : Cond.fieldLink "ShownPatterns$Automaton" (22 : Nat) "ShownPatterns$Automaton" "followers" "[I" ∈ q_gw := q_tables_1_1 (i := 101) rfl rfl
theorem g102 : Cond.fieldLink "ShownPatterns$Automaton" (25 : Nat) "ShownPatterns$Automaton" "takers" "[I" ∈ q_gw := q_tables_1_1 (i := 102) rfl rfl
theorem g103 : Cond.fieldLink "ShownPatterns$Automaton" (28 : Nat) "ShownPatterns$Automaton" "steps" "[I" ∈ q_gw := q_tables_1_1 (i := 103) rfl rfl
theorem g104 : Cond.fieldLink "ShownPatterns$Automaton" (31 : Nat) "ShownPatterns$Automaton" "leaves" "I" ∈ q_gw := q_tables_1_1 (i := 104) rfl rfl
theorem g495 : Cond.methodLink "ShownPatterns$Automaton" (35 : Nat) ({ cls := "java/util/Arrays", name := "fill", desc := "([II)V" } : MethodName) ∈ q_gw := q_tables_1_3 (i := 15) rfl rfl
theorem g497 : Cond.code ({ cls := "java/util/Arrays", name := "fill", desc := "([II)V" } : MethodName) prog_18_method_103_code (4 : Nat) (Option.none : Option FieldType) ∈ q_gw := q_tables_1_3 (i := 17) rfl rfl
theorem g12 : Cond.initialized "java/util/Arrays" ∈ q_gw := q_tables_1_1 (i := 12) rfl rfl
theorem kJ7_fill_53178 : plainName mJ7_fill_53178.1.cls = true ∧ Cond.code mJ7_fill_53178.1 mJ7_fill_53178.2.1 mJ7_fill_53178.2.2.1 mJ7_fill_53178.2.2.2 ∈ q_gw ∧ Cond.initialized mJ7_fill_53178.1.cls ∈ q_gw ∧ (mJ7_fill_53178.1.cls ≠ "java/lang/invoke/MethodHandle" ∧ mJ7_fill_53178.1.cls ≠ "java/lang/invoke/VarHandle" ∧ (parseMethodDescriptor mJ7_fill_53178.1.desc).map (fun d => d.parameters.length) = some 2) ∧ mJ7_fill_53178.2.2.1 ≤ 20 := ⟨by decide +kernel, g497, g12, by decide +kernel, by decide⟩
theorem g496 : Cond.static ({ cls := "java/util/Arrays", name := "fill", desc := "([II)V" } : MethodName) ∈ q_gw := q_tables_1_3 (i := 16) rfl rfl
theorem g498 : Cond.methodLink "ShownPatterns$Automaton" (41 : Nat) ({ cls := "ShownPatterns$Nodes", name := "size", desc := "()I" } : MethodName) ∈ q_gw := q_tables_1_3 (i := 18) rfl rfl
theorem g309 : Cond.code ({ cls := "ShownPatterns$Nodes", name := "size", desc := "()I" } : MethodName) prog_6_method_2_code (1 : Nat) (Option.some FieldType.int) ∈ q_gw := q_tables_1_2 (i := 69) rfl rfl
theorem g3 : Cond.initialized "ShownPatterns$Nodes" ∈ q_gw := q_tables_1_1 (i := 3) rfl rfl
theorem kX4_size : plainName mX4_size.1.cls = true ∧ Cond.code mX4_size.1 mX4_size.2.1 mX4_size.2.2.1 mX4_size.2.2.2 ∈ q_gw ∧ Cond.initialized mX4_size.1.cls ∈ q_gw ∧ (mX4_size.1.cls ≠ "java/lang/invoke/MethodHandle" ∧ mX4_size.1.cls ≠ "java/lang/invoke/VarHandle" ∧ (parseMethodDescriptor mX4_size.1.desc).map (fun d => d.parameters.length) = some 0) ∧ mX4_size.2.2.1 ≤ 20 := ⟨by decide +kernel, g309, g3, by decide +kernel, by decide⟩
theorem g307 : Cond.instanceMethod ({ cls := "ShownPatterns$Nodes", name := "size", desc := "()I" } : MethodName) ∈ q_gw := q_tables_1_2 (i := 67) rfl rfl
theorem g308 : Cond.selects "ShownPatterns$Nodes" ({ cls := "ShownPatterns$Nodes", name := "size", desc := "()I" } : MethodName) ({ cls := "ShownPatterns$Nodes", name := "size", desc := "()I" } : MethodName) ∈ q_gw := q_tables_1_2 (i := 68) rfl rfl
theorem g499 : Cond.methodLink "ShownPatterns$Automaton" (47 : Nat) ({ cls := "java/lang/Math", name := "min", desc := "(II)I" } : MethodName) ∈ q_gw := q_tables_1_3 (i := 19) rfl rfl
theorem g456 : Cond.static ({ cls := "java/lang/Math", name := "min", desc := "(II)I" } : MethodName) ∈ q_gw := q_tables_1_2 (i := 216) rfl rfl
theorem g4 : Cond.initialized "java/lang/Math" ∈ q_gw := q_tables_1_1 (i := 4) rfl rfl
theorem g457 : Cond.code ({ cls := "java/lang/Math", name := "min", desc := "(II)I" } : MethodName) prog_16_method_69_code (2 : Nat) (Option.some FieldType.int) ∈ q_gw := q_tables_1_2 (i := 217) rfl rfl
theorem g500 : Cond.methodLink "ShownPatterns$Automaton" (53 : Nat) ({ cls := "ShownPatterns$Automaton", name := "addNode", desc := "(LShownPatterns$Nodes;I)V" } : MethodName) ∈ q_gw := q_tables_1_3 (i := 20) rfl rfl
theorem g503 : Cond.code ({ cls := "ShownPatterns$Automaton", name := "addNode", desc := "(LShownPatterns$Nodes;I)V" } : MethodName) prog_2_method_3_code (6 : Nat) (Option.none : Option FieldType) ∈ q_gw := q_tables_1_3 (i := 23) rfl rfl
theorem g6 : Cond.initialized "ShownPatterns$Automaton" ∈ q_gw := q_tables_1_1 (i := 6) rfl rfl
theorem kX0_addNode : plainName mX0_addNode.1.cls = true ∧ Cond.code mX0_addNode.1 mX0_addNode.2.1 mX0_addNode.2.2.1 mX0_addNode.2.2.2 ∈ q_gw ∧ Cond.initialized mX0_addNode.1.cls ∈ q_gw ∧ (mX0_addNode.1.cls ≠ "java/lang/invoke/MethodHandle" ∧ mX0_addNode.1.cls ≠ "java/lang/invoke/VarHandle" ∧ (parseMethodDescriptor mX0_addNode.1.desc).map (fun d => d.parameters.length) = some 2) ∧ mX0_addNode.2.2.1 ≤ 20 := ⟨by decide +kernel, g503, g6, by decide +kernel, by decide⟩
theorem g502 : Cond.instanceMethod ({ cls := "ShownPatterns$Automaton", name := "addNode", desc := "(LShownPatterns$Nodes;I)V" } : MethodName) ∈ q_gw := q_tables_1_3 (i := 22) rfl rfl
theorem gs21 : Cond.selects "ShownPatterns$Automaton" ((⟨"ShownPatterns$Automaton", "addNode", "(LShownPatterns$Nodes;I)V"⟩ : MethodName)) (⟨"ShownPatterns$Automaton", "addNode", "(LShownPatterns$Nodes;I)V"⟩) ∈ q_gw := q_inS (i := 21) rfl rfl
theorem g516 : Cond.methodLink "ShownPatterns$Automaton" (57 : Nat) ({ cls := "java/lang/Math", name := "max", desc := "(II)I" } : MethodName) ∈ q_gw := q_tables_1_3 (i := 36) rfl rfl
theorem g41 : Cond.static ({ cls := "java/lang/Math", name := "max", desc := "(II)I" } : MethodName) ∈ q_gw := q_tables_1_1 (i := 41) rfl rfl
theorem g42 : Cond.code ({ cls := "java/lang/Math", name := "max", desc := "(II)I" } : MethodName) prog_16_method_65_code (2 : Nat) (Option.some FieldType.int) ∈ q_gw := q_tables_1_1 (i := 42) rfl rfl
theorem g105 : Cond.fieldLink "ShownPatterns$Automaton" (60 : Nat) "ShownPatterns$Automaton" "ends" "I" ∈ q_gw := q_tables_1_1 (i := 105) rfl rfl
theorem g106 : Cond.fieldLink "ShownPatterns$Automaton" (63 : Nat) "ShownPatterns$Automaton" "endsAtStart" "Z" ∈ q_gw := q_tables_1_1 (i := 106) rfl rfl
theorem g517 : Cond.methodLink "ShownPatterns$Automaton" (67 : Nat) ({ cls := "ShownPatterns$Automaton", name := "fillSteps", desc := "(I)V" } : MethodName) ∈ q_gw := q_tables_1_3 (i := 37) rfl rfl
theorem g520 : Cond.code ({ cls := "ShownPatterns$Automaton", name := "fillSteps", desc := "(I)V" } : MethodName) prog_2_method_6_code (6 : Nat) (Option.none : Option FieldType) ∈ q_gw := q_tables_1_3 (i := 40) rfl rfl
theorem kX0_fillSteps : plainName mX0_fillSteps.1.cls = true ∧ Cond.code mX0_fillSteps.1 mX0_fillSteps.2.1 mX0_fillSteps.2.2.1 mX0_fillSteps.2.2.2 ∈ q_gw ∧ Cond.initialized mX0_fillSteps.1.cls ∈ q_gw ∧ (mX0_fillSteps.1.cls ≠ "java/lang/invoke/MethodHandle" ∧ mX0_fillSteps.1.cls ≠ "java/lang/invoke/VarHandle" ∧ (parseMethodDescriptor mX0_fillSteps.1.desc).map (fun d => d.parameters.length) = some 1) ∧ mX0_fillSteps.2.2.1 ≤ 20 := ⟨by decide +kernel, g520, g6, by decide +kernel, by decide⟩
theorem g519 : Cond.instanceMethod ({ cls := "ShownPatterns$Automaton", name := "fillSteps", desc := "(I)V" } : MethodName) ∈ q_gw := q_tables_1_3 (i := 39) rfl rfl
theorem gs24 : Cond.selects "ShownPatterns$Automaton" ((⟨"ShownPatterns$Automaton", "fillSteps", "(I)V"⟩ : MethodName)) (⟨"ShownPatterns$Automaton", "fillSteps", "(I)V"⟩) ∈ q_gw := q_inS (i := 24) rfl rfl
theorem g504 : Cond.methodLink "ShownPatterns$Automaton" (71 : Nat) ({ cls := "ShownPatterns$Nodes", name := "kindOf", desc := "(I)I" } : MethodName) ∈ q_gw := q_tables_1_3 (i := 24) rfl rfl
theorem g289 : Cond.code ({ cls := "ShownPatterns$Nodes", name := "kindOf", desc := "(I)I" } : MethodName) prog_6_method_5_code (2 : Nat) (Option.some FieldType.int) ∈ q_gw := q_tables_1_2 (i := 49) rfl rfl
theorem kX4_kindOf : plainName mX4_kindOf.1.cls = true ∧ Cond.code mX4_kindOf.1 mX4_kindOf.2.1 mX4_kindOf.2.2.1 mX4_kindOf.2.2.2 ∈ q_gw ∧ Cond.initialized mX4_kindOf.1.cls ∈ q_gw ∧ (mX4_kindOf.1.cls ≠ "java/lang/invoke/MethodHandle" ∧ mX4_kindOf.1.cls ≠ "java/lang/invoke/VarHandle" ∧ (parseMethodDescriptor mX4_kindOf.1.desc).map (fun d => d.parameters.length) = some 1) ∧ mX4_kindOf.2.2.1 ≤ 20 := ⟨by decide +kernel, g289, g3, by decide +kernel, by decide⟩
theorem g287 : Cond.instanceMethod ({ cls := "ShownPatterns$Nodes", name := "kindOf", desc := "(I)I" } : MethodName) ∈ q_gw := q_tables_1_2 (i := 47) rfl rfl
theorem g288 : Cond.selects "ShownPatterns$Nodes" ({ cls := "ShownPatterns$Nodes", name := "kindOf", desc := "(I)I" } : MethodName) ({ cls := "ShownPatterns$Nodes", name := "kindOf", desc := "(I)I" } : MethodName) ∈ q_gw := q_tables_1_2 (i := 48) rfl rfl
theorem g505 : Cond.methodLink "ShownPatterns$Automaton" (75 : Nat) ({ cls := "ShownPatterns$Nodes", name := "leftOf", desc := "(I)I" } : MethodName) ∈ q_gw := q_tables_1_3 (i := 25) rfl rfl
theorem g324 : Cond.code ({ cls := "ShownPatterns$Nodes", name := "leftOf", desc := "(I)I" } : MethodName) prog_6_method_6_code (2 : Nat) (Option.some FieldType.int) ∈ q_gw := q_tables_1_2 (i := 84) rfl rfl
theorem kX4_leftOf : plainName mX4_leftOf.1.cls = true ∧ Cond.code mX4_leftOf.1 mX4_leftOf.2.1 mX4_leftOf.2.2.1 mX4_leftOf.2.2.2 ∈ q_gw ∧ Cond.initialized mX4_leftOf.1.cls ∈ q_gw ∧ (mX4_leftOf.1.cls ≠ "java/lang/invoke/MethodHandle" ∧ mX4_leftOf.1.cls ≠ "java/lang/invoke/VarHandle" ∧ (parseMethodDescriptor mX4_leftOf.1.desc).map (fun d => d.parameters.length) = some 1) ∧ mX4_leftOf.2.2.1 ≤ 20 := ⟨by decide +kernel, g324, g3, by decide +kernel, by decide⟩
theorem g322 : Cond.instanceMethod ({ cls := "ShownPatterns$Nodes", name := "leftOf", desc := "(I)I" } : MethodName) ∈ q_gw := q_tables_1_2 (i := 82) rfl rfl
theorem g323 : Cond.selects "ShownPatterns$Nodes" ({ cls := "ShownPatterns$Nodes", name := "leftOf", desc := "(I)I" } : MethodName) ({ cls := "ShownPatterns$Nodes", name := "leftOf", desc := "(I)I" } : MethodName) ∈ q_gw := q_tables_1_2 (i := 83) rfl rfl
theorem g506 : Cond.methodLink "ShownPatterns$Automaton" (78 : Nat) ({ cls := "ShownPatterns$Nodes", name := "rightOf", desc := "(I)I" } : MethodName) ∈ q_gw := q_tables_1_3 (i := 26) rfl rfl
theorem g293 : Cond.code ({ cls := "ShownPatterns$Nodes", name := "rightOf", desc := "(I)I" } : MethodName) prog_6_method_7_code (2 : Nat) (Option.some FieldType.int) ∈ q_gw := q_tables_1_2 (i := 53) rfl rfl
theorem kX4_rightOf : plainName mX4_rightOf.1.cls = true ∧ Cond.code mX4_rightOf.1 mX4_rightOf.2.1 mX4_rightOf.2.2.1 mX4_rightOf.2.2.2 ∈ q_gw ∧ Cond.initialized mX4_rightOf.1.cls ∈ q_gw ∧ (mX4_rightOf.1.cls ≠ "java/lang/invoke/MethodHandle" ∧ mX4_rightOf.1.cls ≠ "java/lang/invoke/VarHandle" ∧ (parseMethodDescriptor mX4_rightOf.1.desc).map (fun d => d.parameters.length) = some 1) ∧ mX4_rightOf.2.2.1 ≤ 20 := ⟨by decide +kernel, g293, g3, by decide +kernel, by decide⟩
theorem g291 : Cond.instanceMethod ({ cls := "ShownPatterns$Nodes", name := "rightOf", desc := "(I)I" } : MethodName) ∈ q_gw := q_tables_1_2 (i := 51) rfl rfl
theorem g292 : Cond.selects "ShownPatterns$Nodes" ({ cls := "ShownPatterns$Nodes", name := "rightOf", desc := "(I)I" } : MethodName) ({ cls := "ShownPatterns$Nodes", name := "rightOf", desc := "(I)I" } : MethodName) ∈ q_gw := q_tables_1_2 (i := 52) rfl rfl
theorem gn507 : Cond.methodLinkNest "ShownPatterns$Automaton" (81 : Nat) ({ cls := "ShownPatterns", name := "isLeaf", desc := "(I)Z" } : MethodName) "ShownPatterns" ∈ lw_tbl := q_ntables_1_3 (i := 27) rfl
theorem g320 : Cond.code ({ cls := "ShownPatterns", name := "isLeaf", desc := "(I)Z" } : MethodName) prog_1_method_41_code (1 : Nat) (Option.some FieldType.boolean) ∈ q_gw := q_tables_1_2 (i := 80) rfl rfl
theorem g1 : Cond.initialized "ShownPatterns" ∈ q_gw := q_tables_1_1 (i := 1) rfl rfl
theorem kX11_isLeaf : plainName mX11_isLeaf.1.cls = true ∧ Cond.code mX11_isLeaf.1 mX11_isLeaf.2.1 mX11_isLeaf.2.2.1 mX11_isLeaf.2.2.2 ∈ q_gw ∧ Cond.initialized mX11_isLeaf.1.cls ∈ q_gw ∧ (mX11_isLeaf.1.cls ≠ "java/lang/invoke/MethodHandle" ∧ mX11_isLeaf.1.cls ≠ "java/lang/invoke/VarHandle" ∧ (parseMethodDescriptor mX11_isLeaf.1.desc).map (fun d => d.parameters.length) = some 1) ∧ mX11_isLeaf.2.2.1 ≤ 20 := ⟨by decide +kernel, g320, g1, by decide +kernel, by decide⟩
theorem g319 : Cond.static ({ cls := "ShownPatterns", name := "isLeaf", desc := "(I)Z" } : MethodName) ∈ q_gw := q_tables_1_2 (i := 79) rfl rfl
theorem g508 : Cond.methodLink "ShownPatterns$Automaton" (85 : Nat) ({ cls := "ShownPatterns$Automaton", name := "addLeaf", desc := "(II)V" } : MethodName) ∈ q_gw := q_tables_1_3 (i := 28) rfl rfl
theorem g511 : Cond.code ({ cls := "ShownPatterns$Automaton", name := "addLeaf", desc := "(II)V" } : MethodName) prog_2_method_4_code (4 : Nat) (Option.none : Option FieldType) ∈ q_gw := q_tables_1_3 (i := 31) rfl rfl
theorem kX0_addLeaf : plainName mX0_addLeaf.1.cls = true ∧ Cond.code mX0_addLeaf.1 mX0_addLeaf.2.1 mX0_addLeaf.2.2.1 mX0_addLeaf.2.2.2 ∈ q_gw ∧ Cond.initialized mX0_addLeaf.1.cls ∈ q_gw ∧ (mX0_addLeaf.1.cls ≠ "java/lang/invoke/MethodHandle" ∧ mX0_addLeaf.1.cls ≠ "java/lang/invoke/VarHandle" ∧ (parseMethodDescriptor mX0_addLeaf.1.desc).map (fun d => d.parameters.length) = some 2) ∧ mX0_addLeaf.2.2.1 ≤ 20 := ⟨by decide +kernel, g511, g6, by decide +kernel, by decide⟩
theorem g510 : Cond.instanceMethod ({ cls := "ShownPatterns$Automaton", name := "addLeaf", desc := "(II)V" } : MethodName) ∈ q_gw := q_tables_1_3 (i := 30) rfl rfl
theorem gs22 : Cond.selects "ShownPatterns$Automaton" ((⟨"ShownPatterns$Automaton", "addLeaf", "(II)V"⟩ : MethodName)) (⟨"ShownPatterns$Automaton", "addLeaf", "(II)V"⟩) ∈ q_gw := q_inS (i := 22) rfl rfl
theorem g512 : Cond.methodLink "ShownPatterns$Automaton" (89 : Nat) ({ cls := "ShownPatterns$Automaton", name := "follow", desc := "(II)V" } : MethodName) ∈ q_gw := q_tables_1_3 (i := 32) rfl rfl
theorem g515 : Cond.code ({ cls := "ShownPatterns$Automaton", name := "follow", desc := "(II)V" } : MethodName) prog_2_method_5_code (4 : Nat) (Option.none : Option FieldType) ∈ q_gw := q_tables_1_3 (i := 35) rfl rfl
theorem kX0_follow : plainName mX0_follow.1.cls = true ∧ Cond.code mX0_follow.1 mX0_follow.2.1 mX0_follow.2.2.1 mX0_follow.2.2.2 ∈ q_gw ∧ Cond.initialized mX0_follow.1.cls ∈ q_gw ∧ (mX0_follow.1.cls ≠ "java/lang/invoke/MethodHandle" ∧ mX0_follow.1.cls ≠ "java/lang/invoke/VarHandle" ∧ (parseMethodDescriptor mX0_follow.1.desc).map (fun d => d.parameters.length) = some 2) ∧ mX0_follow.2.2.1 ≤ 20 := ⟨by decide +kernel, g515, g6, by decide +kernel, by decide⟩
theorem g514 : Cond.instanceMethod ({ cls := "ShownPatterns$Automaton", name := "follow", desc := "(II)V" } : MethodName) ∈ q_gw := q_tables_1_3 (i := 34) rfl rfl
theorem gs23 : Cond.selects "ShownPatterns$Automaton" ((⟨"ShownPatterns$Automaton", "follow", "(II)V"⟩ : MethodName)) (⟨"ShownPatterns$Automaton", "follow", "(II)V"⟩) ∈ q_gw := q_inS (i := 23) rfl rfl
theorem gn525 : Cond.methodLinkNest "ShownPatterns$Automaton" (92 : Nat) ({ cls := "ShownPatterns", name := "letterAt", desc := "(III)I" } : MethodName) "ShownPatterns" ∈ lw_tbl := q_ntables_1_3 (i := 45) rfl
theorem g527 : Cond.code ({ cls := "ShownPatterns", name := "letterAt", desc := "(III)I" } : MethodName) prog_1_method_39_code (5 : Nat) (Option.some FieldType.int) ∈ q_gw := q_tables_1_3 (i := 47) rfl rfl
theorem kX11_letterAt : plainName mX11_letterAt.1.cls = true ∧ Cond.code mX11_letterAt.1 mX11_letterAt.2.1 mX11_letterAt.2.2.1 mX11_letterAt.2.2.2 ∈ q_gw ∧ Cond.initialized mX11_letterAt.1.cls ∈ q_gw ∧ (mX11_letterAt.1.cls ≠ "java/lang/invoke/MethodHandle" ∧ mX11_letterAt.1.cls ≠ "java/lang/invoke/VarHandle" ∧ (parseMethodDescriptor mX11_letterAt.1.desc).map (fun d => d.parameters.length) = some 3) ∧ mX11_letterAt.2.2.1 ≤ 20 := ⟨by decide +kernel, g527, g1, by decide +kernel, by decide⟩
theorem g526 : Cond.static ({ cls := "ShownPatterns", name := "letterAt", desc := "(III)I" } : MethodName) ∈ q_gw := q_tables_1_3 (i := 46) rfl rfl
theorem g528 : Cond.methodLink "ShownPatterns$Automaton" (96 : Nat) ({ cls := "ShownPatterns$Automaton", name := "after", desc := "(II)I" } : MethodName) ∈ q_gw := q_tables_1_3 (i := 48) rfl rfl
theorem g531 : Cond.code ({ cls := "ShownPatterns$Automaton", name := "after", desc := "(II)I" } : MethodName) prog_2_method_7_code (4 : Nat) (Option.some FieldType.int) ∈ q_gw := q_tables_1_3 (i := 51) rfl rfl
theorem kX0_after : plainName mX0_after.1.cls = true ∧ Cond.code mX0_after.1 mX0_after.2.1 mX0_after.2.2.1 mX0_after.2.2.2 ∈ q_gw ∧ Cond.initialized mX0_after.1.cls ∈ q_gw ∧ (mX0_after.1.cls ≠ "java/lang/invoke/MethodHandle" ∧ mX0_after.1.cls ≠ "java/lang/invoke/VarHandle" ∧ (parseMethodDescriptor mX0_after.1.desc).map (fun d => d.parameters.length) = some 2) ∧ mX0_after.2.2.1 ≤ 20 := ⟨by decide +kernel, g531, g6, by decide +kernel, by decide⟩
theorem g529 : Cond.instanceMethod ({ cls := "ShownPatterns$Automaton", name := "after", desc := "(II)I" } : MethodName) ∈ q_gw := q_tables_1_3 (i := 49) rfl rfl
theorem g530 : Cond.selects "ShownPatterns$Automaton" ({ cls := "ShownPatterns$Automaton", name := "after", desc := "(II)I" } : MethodName) ({ cls := "ShownPatterns$Automaton", name := "after", desc := "(II)I" } : MethodName) ∈ q_gw := q_tables_1_3 (i := 50) rfl rfl
theorem g532 : Cond.methodLink "ShownPatterns$Automaton" (99 : Nat) ({ cls := "ShownPatterns$Automaton", name := "endsAt", desc := "(I)Z" } : MethodName) ∈ q_gw := q_tables_1_3 (i := 52) rfl rfl
theorem g535 : Cond.code ({ cls := "ShownPatterns$Automaton", name := "endsAt", desc := "(I)Z" } : MethodName) prog_2_method_8_code (2 : Nat) (Option.some FieldType.boolean) ∈ q_gw := q_tables_1_3 (i := 55) rfl rfl
theorem kX0_endsAt : plainName mX0_endsAt.1.cls = true ∧ Cond.code mX0_endsAt.1 mX0_endsAt.2.1 mX0_endsAt.2.2.1 mX0_endsAt.2.2.2 ∈ q_gw ∧ Cond.initialized mX0_endsAt.1.cls ∈ q_gw ∧ (mX0_endsAt.1.cls ≠ "java/lang/invoke/MethodHandle" ∧ mX0_endsAt.1.cls ≠ "java/lang/invoke/VarHandle" ∧ (parseMethodDescriptor mX0_endsAt.1.desc).map (fun d => d.parameters.length) = some 1) ∧ mX0_endsAt.2.2.1 ≤ 20 := ⟨by decide +kernel, g535, g6, by decide +kernel, by decide⟩
theorem g533 : Cond.instanceMethod ({ cls := "ShownPatterns$Automaton", name := "endsAt", desc := "(I)Z" } : MethodName) ∈ q_gw := q_tables_1_3 (i := 53) rfl rfl
theorem g534 : Cond.selects "ShownPatterns$Automaton" ({ cls := "ShownPatterns$Automaton", name := "endsAt", desc := "(I)Z" } : MethodName) ({ cls := "ShownPatterns$Automaton", name := "endsAt", desc := "(I)Z" } : MethodName) ∈ q_gw := q_tables_1_3 (i := 54) rfl rfl
theorem g396 : Cond.methodLink "ShownPatterns$Catalogue" (3 : Nat) ({ cls := "java/lang/Object", name := "<init>", desc := "()V" } : MethodName) ∈ q_gw := q_tables_1_2 (i := 156) rfl rfl
theorem g397 : Cond.classLink "ShownPatterns$Catalogue" (9 : Nat) "ShownPatterns$Nodes" ∈ q_gw := q_tables_1_2 (i := 157) rfl rfl
theorem g35 : Cond.instantiable "ShownPatterns$Nodes" (4 : Nat) ∈ q_gw := q_tables_1_1 (i := 35) rfl rfl
theorem g398 : Cond.methodLink "ShownPatterns$Catalogue" (11 : Nat) ({ cls := "ShownPatterns$Nodes", name := "<init>", desc := "(I)V" } : MethodName) ∈ q_gw := q_tables_1_2 (i := 158) rfl rfl
theorem g38 : Cond.code ({ cls := "ShownPatterns$Nodes", name := "<init>", desc := "(I)V" } : MethodName) prog_6_method_1_code (3 : Nat) (Option.none : Option FieldType) ∈ q_gw := q_tables_1_1 (i := 38) rfl rfl
theorem kX4_init : plainName mX4_init.1.cls = true ∧ Cond.code mX4_init.1 mX4_init.2.1 mX4_init.2.2.1 mX4_init.2.2.2 ∈ q_gw ∧ Cond.initialized mX4_init.1.cls ∈ q_gw ∧ (mX4_init.1.cls ≠ "java/lang/invoke/MethodHandle" ∧ mX4_init.1.cls ≠ "java/lang/invoke/VarHandle" ∧ (parseMethodDescriptor mX4_init.1.desc).map (fun d => d.parameters.length) = some 1) ∧ mX4_init.2.2.1 ≤ 20 := ⟨by decide +kernel, g38, g3, by decide +kernel, by decide⟩
theorem g37 : Cond.instanceMethod ({ cls := "ShownPatterns$Nodes", name := "<init>", desc := "(I)V" } : MethodName) ∈ q_gw := q_tables_1_1 (i := 37) rfl rfl
theorem g431 : Cond.fieldLink "ShownPatterns$Catalogue" (14 : Nat) "ShownPatterns$Catalogue" "nodes" "LShownPatterns$Nodes;" ∈ q_gw := q_tables_1_2 (i := 191) rfl rfl
theorem g432 : Cond.fieldLink "ShownPatterns$Catalogue" (20 : Nat) "ShownPatterns$Catalogue" "begins" "[I" ∈ q_gw := q_tables_1_2 (i := 192) rfl rfl
theorem g433 : Cond.fieldLink "ShownPatterns$Catalogue" (24 : Nat) "ShownPatterns$Catalogue" "kinds" "[I" ∈ q_gw := q_tables_1_2 (i := 193) rfl rfl
theorem g434 : Cond.fieldLink "ShownPatterns$Catalogue" (27 : Nat) "ShownPatterns$Catalogue" "numbers" "[I" ∈ q_gw := q_tables_1_2 (i := 194) rfl rfl
theorem g435 : Cond.fieldLink "ShownPatterns$Catalogue" (30 : Nat) "ShownPatterns$Catalogue" "costs" "[I" ∈ q_gw := q_tables_1_2 (i := 195) rfl rfl
theorem g399 : Cond.methodLink "ShownPatterns$Catalogue" (33 : Nat) ({ cls := "ShownPatterns$Nodes", name := "size", desc := "()I" } : MethodName) ∈ q_gw := q_tables_1_2 (i := 159) rfl rfl
theorem g400 : Cond.methodLink "ShownPatterns$Catalogue" (37 : Nat) ({ cls := "ShownPatterns$Catalogue", name := "addLeaves", desc := "(IIII)V" } : MethodName) ∈ q_gw := q_tables_1_2 (i := 160) rfl rfl
theorem g403 : Cond.code ({ cls := "ShownPatterns$Catalogue", name := "addLeaves", desc := "(IIII)V" } : MethodName) prog_3_method_7_code (6 : Nat) (Option.none : Option FieldType) ∈ q_gw := q_tables_1_2 (i := 163) rfl rfl
theorem g11 : Cond.initialized "ShownPatterns$Catalogue" ∈ q_gw := q_tables_1_1 (i := 11) rfl rfl
theorem kX1_addLeaves : plainName mX1_addLeaves.1.cls = true ∧ Cond.code mX1_addLeaves.1 mX1_addLeaves.2.1 mX1_addLeaves.2.2.1 mX1_addLeaves.2.2.2 ∈ q_gw ∧ Cond.initialized mX1_addLeaves.1.cls ∈ q_gw ∧ (mX1_addLeaves.1.cls ≠ "java/lang/invoke/MethodHandle" ∧ mX1_addLeaves.1.cls ≠ "java/lang/invoke/VarHandle" ∧ (parseMethodDescriptor mX1_addLeaves.1.desc).map (fun d => d.parameters.length) = some 4) ∧ mX1_addLeaves.2.2.1 ≤ 20 := ⟨by decide +kernel, g403, g11, by decide +kernel, by decide⟩
theorem g402 : Cond.instanceMethod ({ cls := "ShownPatterns$Catalogue", name := "addLeaves", desc := "(IIII)V" } : MethodName) ∈ q_gw := q_tables_1_2 (i := 162) rfl rfl
theorem gs15 : Cond.selects "ShownPatterns$Catalogue" ((⟨"ShownPatterns$Catalogue", "addLeaves", "(IIII)V"⟩ : MethodName)) (⟨"ShownPatterns$Catalogue", "addLeaves", "(IIII)V"⟩) ∈ q_gw := q_inS (i := 15) rfl rfl
theorem g410 : Cond.methodLink "ShownPatterns$Catalogue" (41 : Nat) ({ cls := "ShownPatterns$Catalogue", name := "addPairs", desc := "(II)V" } : MethodName) ∈ q_gw := q_tables_1_2 (i := 170) rfl rfl
theorem g413 : Cond.code ({ cls := "ShownPatterns$Catalogue", name := "addPairs", desc := "(II)V" } : MethodName) prog_3_method_8_code (8 : Nat) (Option.none : Option FieldType) ∈ q_gw := q_tables_1_2 (i := 173) rfl rfl
theorem kX1_addPairs : plainName mX1_addPairs.1.cls = true ∧ Cond.code mX1_addPairs.1 mX1_addPairs.2.1 mX1_addPairs.2.2.1 mX1_addPairs.2.2.2 ∈ q_gw ∧ Cond.initialized mX1_addPairs.1.cls ∈ q_gw ∧ (mX1_addPairs.1.cls ≠ "java/lang/invoke/MethodHandle" ∧ mX1_addPairs.1.cls ≠ "java/lang/invoke/VarHandle" ∧ (parseMethodDescriptor mX1_addPairs.1.desc).map (fun d => d.parameters.length) = some 2) ∧ mX1_addPairs.2.2.1 ≤ 20 := ⟨by decide +kernel, g413, g11, by decide +kernel, by decide⟩
theorem g412 : Cond.instanceMethod ({ cls := "ShownPatterns$Catalogue", name := "addPairs", desc := "(II)V" } : MethodName) ∈ q_gw := q_tables_1_2 (i := 172) rfl rfl
theorem gs17 : Cond.selects "ShownPatterns$Catalogue" ((⟨"ShownPatterns$Catalogue", "addPairs", "(II)V"⟩ : MethodName)) (⟨"ShownPatterns$Catalogue", "addPairs", "(II)V"⟩) ∈ q_gw := q_inS (i := 17) rfl rfl
theorem g427 : Cond.methodLink "ShownPatterns$Catalogue" (45 : Nat) ({ cls := "ShownPatterns$Catalogue", name := "addSingles", desc := "(II)V" } : MethodName) ∈ q_gw := q_tables_1_2 (i := 187) rfl rfl
theorem g430 : Cond.code ({ cls := "ShownPatterns$Catalogue", name := "addSingles", desc := "(II)V" } : MethodName) prog_3_method_9_code (5 : Nat) (Option.none : Option FieldType) ∈ q_gw := q_tables_1_2 (i := 190) rfl rfl
theorem kX1_addSingles : plainName mX1_addSingles.1.cls = true ∧ Cond.code mX1_addSingles.1 mX1_addSingles.2.1 mX1_addSingles.2.2.1 mX1_addSingles.2.2.2 ∈ q_gw ∧ Cond.initialized mX1_addSingles.1.cls ∈ q_gw ∧ (mX1_addSingles.1.cls ≠ "java/lang/invoke/MethodHandle" ∧ mX1_addSingles.1.cls ≠ "java/lang/invoke/VarHandle" ∧ (parseMethodDescriptor mX1_addSingles.1.desc).map (fun d => d.parameters.length) = some 2) ∧ mX1_addSingles.2.2.1 ≤ 20 := ⟨by decide +kernel, g430, g11, by decide +kernel, by decide⟩
theorem g429 : Cond.instanceMethod ({ cls := "ShownPatterns$Catalogue", name := "addSingles", desc := "(II)V" } : MethodName) ∈ q_gw := q_tables_1_2 (i := 189) rfl rfl
theorem gs18 : Cond.selects "ShownPatterns$Catalogue" ((⟨"ShownPatterns$Catalogue", "addSingles", "(II)V"⟩ : MethodName)) (⟨"ShownPatterns$Catalogue", "addSingles", "(II)V"⟩) ∈ q_gw := q_inS (i := 18) rfl rfl
theorem g414 : Cond.methodLink "ShownPatterns$Catalogue" (48 : Nat) ({ cls := "ShownPatterns$Catalogue", name := "begin", desc := "(I)I" } : MethodName) ∈ q_gw := q_tables_1_2 (i := 174) rfl rfl
theorem g417 : Cond.code ({ cls := "ShownPatterns$Catalogue", name := "begin", desc := "(I)I" } : MethodName) prog_3_method_3_code (2 : Nat) (Option.some FieldType.int) ∈ q_gw := q_tables_1_2 (i := 177) rfl rfl
theorem kX1_begin : plainName mX1_begin.1.cls = true ∧ Cond.code mX1_begin.1 mX1_begin.2.1 mX1_begin.2.2.1 mX1_begin.2.2.2 ∈ q_gw ∧ Cond.initialized mX1_begin.1.cls ∈ q_gw ∧ (mX1_begin.1.cls ≠ "java/lang/invoke/MethodHandle" ∧ mX1_begin.1.cls ≠ "java/lang/invoke/VarHandle" ∧ (parseMethodDescriptor mX1_begin.1.desc).map (fun d => d.parameters.length) = some 1) ∧ mX1_begin.2.2.1 ≤ 20 := ⟨by decide +kernel, g417, g11, by decide +kernel, by decide⟩
theorem g415 : Cond.instanceMethod ({ cls := "ShownPatterns$Catalogue", name := "begin", desc := "(I)I" } : MethodName) ∈ q_gw := q_tables_1_2 (i := 175) rfl rfl
theorem g416 : Cond.selects "ShownPatterns$Catalogue" ({ cls := "ShownPatterns$Catalogue", name := "begin", desc := "(I)I" } : MethodName) ({ cls := "ShownPatterns$Catalogue", name := "begin", desc := "(I)I" } : MethodName) ∈ q_gw := q_tables_1_2 (i := 176) rfl rfl
theorem g418 : Cond.methodLink "ShownPatterns$Catalogue" (52 : Nat) ({ cls := "ShownPatterns$Catalogue", name := "end", desc := "(I)I" } : MethodName) ∈ q_gw := q_tables_1_2 (i := 178) rfl rfl
theorem g421 : Cond.code ({ cls := "ShownPatterns$Catalogue", name := "end", desc := "(I)I" } : MethodName) prog_3_method_4_code (2 : Nat) (Option.some FieldType.int) ∈ q_gw := q_tables_1_2 (i := 181) rfl rfl
theorem kX1_end : plainName mX1_end.1.cls = true ∧ Cond.code mX1_end.1 mX1_end.2.1 mX1_end.2.2.1 mX1_end.2.2.2 ∈ q_gw ∧ Cond.initialized mX1_end.1.cls ∈ q_gw ∧ (mX1_end.1.cls ≠ "java/lang/invoke/MethodHandle" ∧ mX1_end.1.cls ≠ "java/lang/invoke/VarHandle" ∧ (parseMethodDescriptor mX1_end.1.desc).map (fun d => d.parameters.length) = some 1) ∧ mX1_end.2.2.1 ≤ 20 := ⟨by decide +kernel, g421, g11, by decide +kernel, by decide⟩
theorem g419 : Cond.instanceMethod ({ cls := "ShownPatterns$Catalogue", name := "end", desc := "(I)I" } : MethodName) ∈ q_gw := q_tables_1_2 (i := 179) rfl rfl
theorem g420 : Cond.selects "ShownPatterns$Catalogue" ({ cls := "ShownPatterns$Catalogue", name := "end", desc := "(I)I" } : MethodName) ({ cls := "ShownPatterns$Catalogue", name := "end", desc := "(I)I" } : MethodName) ∈ q_gw := q_tables_1_2 (i := 180) rfl rfl
theorem gn404 : Cond.methodLinkNest "ShownPatterns$Catalogue" (55 : Nat) ({ cls := "ShownPatterns", name := "ownCost", desc := "(I)I" } : MethodName) "ShownPatterns" ∈ lw_tbl := q_ntables_1_2 (i := 164) rfl
theorem g336 : Cond.code ({ cls := "ShownPatterns", name := "ownCost", desc := "(I)I" } : MethodName) prog_1_method_40_code (1 : Nat) (Option.some FieldType.int) ∈ q_gw := q_tables_1_2 (i := 96) rfl rfl
theorem kX11_ownCost : plainName mX11_ownCost.1.cls = true ∧ Cond.code mX11_ownCost.1 mX11_ownCost.2.1 mX11_ownCost.2.2.1 mX11_ownCost.2.2.2 ∈ q_gw ∧ Cond.initialized mX11_ownCost.1.cls ∈ q_gw ∧ (mX11_ownCost.1.cls ≠ "java/lang/invoke/MethodHandle" ∧ mX11_ownCost.1.cls ≠ "java/lang/invoke/VarHandle" ∧ (parseMethodDescriptor mX11_ownCost.1.desc).map (fun d => d.parameters.length) = some 1) ∧ mX11_ownCost.2.2.1 ≤ 20 := ⟨by decide +kernel, g336, g1, by decide +kernel, by decide⟩
theorem g335 : Cond.static ({ cls := "ShownPatterns", name := "ownCost", desc := "(I)I" } : MethodName) ∈ q_gw := q_tables_1_2 (i := 95) rfl rfl
theorem g405 : Cond.methodLink "ShownPatterns$Catalogue" (58 : Nat) ({ cls := "ShownPatterns$Catalogue", name := "add", desc := "(IIII)V" } : MethodName) ∈ q_gw := q_tables_1_2 (i := 165) rfl rfl
theorem g408 : Cond.code ({ cls := "ShownPatterns$Catalogue", name := "add", desc := "(IIII)V" } : MethodName) prog_3_method_10_code (6 : Nat) (Option.none : Option FieldType) ∈ q_gw := q_tables_1_2 (i := 168) rfl rfl
theorem kX1_add : plainName mX1_add.1.cls = true ∧ Cond.code mX1_add.1 mX1_add.2.1 mX1_add.2.2.1 mX1_add.2.2.2 ∈ q_gw ∧ Cond.initialized mX1_add.1.cls ∈ q_gw ∧ (mX1_add.1.cls ≠ "java/lang/invoke/MethodHandle" ∧ mX1_add.1.cls ≠ "java/lang/invoke/VarHandle" ∧ (parseMethodDescriptor mX1_add.1.desc).map (fun d => d.parameters.length) = some 4) ∧ mX1_add.2.2.1 ≤ 20 := ⟨by decide +kernel, g408, g11, by decide +kernel, by decide⟩
theorem g407 : Cond.instanceMethod ({ cls := "ShownPatterns$Catalogue", name := "add", desc := "(IIII)V" } : MethodName) ∈ q_gw := q_tables_1_2 (i := 167) rfl rfl
theorem gs16 : Cond.selects "ShownPatterns$Catalogue" ((⟨"ShownPatterns$Catalogue", "add", "(IIII)V"⟩ : MethodName)) (⟨"ShownPatterns$Catalogue", "add", "(IIII)V"⟩) ∈ q_gw := q_inS (i := 16) rfl rfl
theorem g422 : Cond.methodLink "ShownPatterns$Catalogue" (61 : Nat) ({ cls := "ShownPatterns$Nodes", name := "kindOf", desc := "(I)I" } : MethodName) ∈ q_gw := q_tables_1_2 (i := 182) rfl rfl
theorem g423 : Cond.methodLink "ShownPatterns$Catalogue" (64 : Nat) ({ cls := "ShownPatterns$Catalogue", name := "kindsOf", desc := "(I)I" } : MethodName) ∈ q_gw := q_tables_1_2 (i := 183) rfl rfl
theorem g426 : Cond.code ({ cls := "ShownPatterns$Catalogue", name := "kindsOf", desc := "(I)I" } : MethodName) prog_3_method_6_code (2 : Nat) (Option.some FieldType.int) ∈ q_gw := q_tables_1_2 (i := 186) rfl rfl
theorem kX1_kindsOf : plainName mX1_kindsOf.1.cls = true ∧ Cond.code mX1_kindsOf.1 mX1_kindsOf.2.1 mX1_kindsOf.2.2.1 mX1_kindsOf.2.2.2 ∈ q_gw ∧ Cond.initialized mX1_kindsOf.1.cls ∈ q_gw ∧ (mX1_kindsOf.1.cls ≠ "java/lang/invoke/MethodHandle" ∧ mX1_kindsOf.1.cls ≠ "java/lang/invoke/VarHandle" ∧ (parseMethodDescriptor mX1_kindsOf.1.desc).map (fun d => d.parameters.length) = some 1) ∧ mX1_kindsOf.2.2.1 ≤ 20 := ⟨by decide +kernel, g426, g11, by decide +kernel, by decide⟩
theorem g424 : Cond.instanceMethod ({ cls := "ShownPatterns$Catalogue", name := "kindsOf", desc := "(I)I" } : MethodName) ∈ q_gw := q_tables_1_2 (i := 184) rfl rfl
theorem g425 : Cond.selects "ShownPatterns$Catalogue" ({ cls := "ShownPatterns$Catalogue", name := "kindsOf", desc := "(I)I" } : MethodName) ({ cls := "ShownPatterns$Catalogue", name := "kindsOf", desc := "(I)I" } : MethodName) ∈ q_gw := q_tables_1_2 (i := 185) rfl rfl
theorem g409 : Cond.methodLink "ShownPatterns$Catalogue" (67 : Nat) ({ cls := "ShownPatterns$Nodes", name := "add", desc := "(III)I" } : MethodName) ∈ q_gw := q_tables_1_2 (i := 169) rfl rfl
theorem g266 : Cond.code ({ cls := "ShownPatterns$Nodes", name := "add", desc := "(III)I" } : MethodName) prog_6_method_4_code (4 : Nat) (Option.some FieldType.int) ∈ q_gw := q_tables_1_2 (i := 26) rfl rfl
theorem kX4_add : plainName mX4_add.1.cls = true ∧ Cond.code mX4_add.1 mX4_add.2.1 mX4_add.2.2.1 mX4_add.2.2.2 ∈ q_gw ∧ Cond.initialized mX4_add.1.cls ∈ q_gw ∧ (mX4_add.1.cls ≠ "java/lang/invoke/MethodHandle" ∧ mX4_add.1.cls ≠ "java/lang/invoke/VarHandle" ∧ (parseMethodDescriptor mX4_add.1.desc).map (fun d => d.parameters.length) = some 3) ∧ mX4_add.2.2.1 ≤ 20 := ⟨by decide +kernel, g266, g3, by decide +kernel, by decide⟩
theorem g264 : Cond.instanceMethod ({ cls := "ShownPatterns$Nodes", name := "add", desc := "(III)I" } : MethodName) ∈ q_gw := q_tables_1_2 (i := 24) rfl rfl
theorem g265 : Cond.selects "ShownPatterns$Nodes" ({ cls := "ShownPatterns$Nodes", name := "add", desc := "(III)I" } : MethodName) ({ cls := "ShownPatterns$Nodes", name := "add", desc := "(III)I" } : MethodName) ∈ q_gw := q_tables_1_2 (i := 25) rfl rfl
theorem g455 : Cond.methodLink "ShownPatterns$Catalogue" (70 : Nat) ({ cls := "java/lang/Math", name := "min", desc := "(II)I" } : MethodName) ∈ q_gw := q_tables_1_2 (i := 215) rfl rfl
theorem g458 : Cond.methodLink "ShownPatterns$Catalogue" (76 : Nat) ({ cls := "ShownPatterns$Catalogue", name := "numberNode", desc := "(LShownPatterns$Nodes;I)V" } : MethodName) ∈ q_gw := q_tables_1_2 (i := 218) rfl rfl
theorem g461 : Cond.code ({ cls := "ShownPatterns$Catalogue", name := "numberNode", desc := "(LShownPatterns$Nodes;I)V" } : MethodName) prog_3_method_12_code (6 : Nat) (Option.none : Option FieldType) ∈ q_gw := q_tables_1_2 (i := 221) rfl rfl
theorem kX1_numberNode : plainName mX1_numberNode.1.cls = true ∧ Cond.code mX1_numberNode.1 mX1_numberNode.2.1 mX1_numberNode.2.2.1 mX1_numberNode.2.2.2 ∈ q_gw ∧ Cond.initialized mX1_numberNode.1.cls ∈ q_gw ∧ (mX1_numberNode.1.cls ≠ "java/lang/invoke/MethodHandle" ∧ mX1_numberNode.1.cls ≠ "java/lang/invoke/VarHandle" ∧ (parseMethodDescriptor mX1_numberNode.1.desc).map (fun d => d.parameters.length) = some 2) ∧ mX1_numberNode.2.2.1 ≤ 20 := ⟨by decide +kernel, g461, g11, by decide +kernel, by decide⟩
theorem g460 : Cond.instanceMethod ({ cls := "ShownPatterns$Catalogue", name := "numberNode", desc := "(LShownPatterns$Nodes;I)V" } : MethodName) ∈ q_gw := q_tables_1_2 (i := 220) rfl rfl
theorem gs19 : Cond.selects "ShownPatterns$Catalogue" ((⟨"ShownPatterns$Catalogue", "numberNode", "(LShownPatterns$Nodes;I)V"⟩ : MethodName)) (⟨"ShownPatterns$Catalogue", "numberNode", "(LShownPatterns$Nodes;I)V"⟩) ∈ q_gw := q_inS (i := 19) rfl rfl
theorem g462 : Cond.methodLink "ShownPatterns$Catalogue" (80 : Nat) ({ cls := "ShownPatterns$Nodes", name := "leftOf", desc := "(I)I" } : MethodName) ∈ q_gw := q_tables_1_2 (i := 222) rfl rfl
theorem g463 : Cond.methodLink "ShownPatterns$Catalogue" (83 : Nat) ({ cls := "ShownPatterns$Nodes", name := "rightOf", desc := "(I)I" } : MethodName) ∈ q_gw := q_tables_1_2 (i := 223) rfl rfl
theorem gn464 : Cond.methodLinkNest "ShownPatterns$Catalogue" (86 : Nat) ({ cls := "ShownPatterns", name := "isLeaf", desc := "(I)Z" } : MethodName) "ShownPatterns" ∈ lw_tbl := q_ntables_1_2 (i := 224) rfl
theorem gn465 : Cond.methodLinkNest "ShownPatterns$Catalogue" (90 : Nat) ({ cls := "ShownPatterns", name := "hasTwoParts", desc := "(I)Z" } : MethodName) "ShownPatterns" ∈ lw_tbl := q_ntables_1_2 (i := 225) rfl
theorem g328 : Cond.code ({ cls := "ShownPatterns", name := "hasTwoParts", desc := "(I)Z" } : MethodName) prog_1_method_42_code (1 : Nat) (Option.some FieldType.boolean) ∈ q_gw := q_tables_1_2 (i := 88) rfl rfl
theorem kX11_hasTwoParts : plainName mX11_hasTwoParts.1.cls = true ∧ Cond.code mX11_hasTwoParts.1 mX11_hasTwoParts.2.1 mX11_hasTwoParts.2.2.1 mX11_hasTwoParts.2.2.2 ∈ q_gw ∧ Cond.initialized mX11_hasTwoParts.1.cls ∈ q_gw ∧ (mX11_hasTwoParts.1.cls ≠ "java/lang/invoke/MethodHandle" ∧ mX11_hasTwoParts.1.cls ≠ "java/lang/invoke/VarHandle" ∧ (parseMethodDescriptor mX11_hasTwoParts.1.desc).map (fun d => d.parameters.length) = some 1) ∧ mX11_hasTwoParts.2.2.1 ≤ 20 := ⟨by decide +kernel, g328, g1, by decide +kernel, by decide⟩
theorem g327 : Cond.static ({ cls := "ShownPatterns", name := "hasTwoParts", desc := "(I)Z" } : MethodName) ∈ q_gw := q_tables_1_2 (i := 87) rfl rfl
theorem g466 : Cond.methodLink "ShownPatterns$Catalogue" (93 : Nat) ({ cls := "ShownPatterns$Catalogue", name := "numberAmong", desc := "(IIII)I" } : MethodName) ∈ q_gw := q_tables_1_2 (i := 226) rfl rfl
theorem g469 : Cond.code ({ cls := "ShownPatterns$Catalogue", name := "numberAmong", desc := "(IIII)I" } : MethodName) prog_3_method_13_code (6 : Nat) (Option.some FieldType.int) ∈ q_gw := q_tables_1_2 (i := 229) rfl rfl
theorem kX1_numberAmong : plainName mX1_numberAmong.1.cls = true ∧ Cond.code mX1_numberAmong.1 mX1_numberAmong.2.1 mX1_numberAmong.2.2.1 mX1_numberAmong.2.2.2 ∈ q_gw ∧ Cond.initialized mX1_numberAmong.1.cls ∈ q_gw ∧ (mX1_numberAmong.1.cls ≠ "java/lang/invoke/MethodHandle" ∧ mX1_numberAmong.1.cls ≠ "java/lang/invoke/VarHandle" ∧ (parseMethodDescriptor mX1_numberAmong.1.desc).map (fun d => d.parameters.length) = some 4) ∧ mX1_numberAmong.2.2.1 ≤ 20 := ⟨by decide +kernel, g469, g11, by decide +kernel, by decide⟩
theorem g468 : Cond.instanceMethod ({ cls := "ShownPatterns$Catalogue", name := "numberAmong", desc := "(IIII)I" } : MethodName) ∈ q_gw := q_tables_1_2 (i := 228) rfl rfl
theorem gs20 : Cond.selects "ShownPatterns$Catalogue" ((⟨"ShownPatterns$Catalogue", "numberAmong", "(IIII)I"⟩ : MethodName)) (⟨"ShownPatterns$Catalogue", "numberAmong", "(IIII)I"⟩) ∈ q_gw := q_inS (i := 20) rfl rfl
theorem g735 : Cond.methodLink "ShownPatterns$Finder" (3 : Nat) ({ cls := "java/lang/Object", name := "<init>", desc := "()V" } : MethodName) ∈ q_gw := q_tables_1_4 (i := 15) rfl rfl
theorem g736 : Cond.classLink "ShownPatterns$Finder" (9 : Nat) "ShownPatterns$Meanings" ∈ q_gw := q_tables_1_4 (i := 16) rfl rfl
theorem g737 : Cond.instantiable "ShownPatterns$Meanings" (6 : Nat) ∈ q_gw := q_tables_1_4 (i := 17) rfl rfl
theorem g15 : Cond.initialized "ShownPatterns$Meanings" ∈ q_gw := q_tables_1_1 (i := 15) rfl rfl
theorem gn738 : Cond.methodLinkNest "ShownPatterns$Finder" (11 : Nat) ({ cls := "ShownPatterns$Meanings", name := "<init>", desc := "()V" } : MethodName) "ShownPatterns" ∈ lw_tbl := q_ntables_1_4 (i := 18) rfl
theorem g740 : Cond.code ({ cls := "ShownPatterns$Meanings", name := "<init>", desc := "()V" } : MethodName) prog_5_method_1_code (1 : Nat) (Option.none : Option FieldType) ∈ q_gw := q_tables_1_4 (i := 20) rfl rfl
theorem kX3_init : plainName mX3_init.1.cls = true ∧ Cond.code mX3_init.1 mX3_init.2.1 mX3_init.2.2.1 mX3_init.2.2.2 ∈ q_gw ∧ Cond.initialized mX3_init.1.cls ∈ q_gw ∧ (mX3_init.1.cls ≠ "java/lang/invoke/MethodHandle" ∧ mX3_init.1.cls ≠ "java/lang/invoke/VarHandle" ∧ (parseMethodDescriptor mX3_init.1.desc).map (fun d => d.parameters.length) = some 0) ∧ mX3_init.2.2.1 ≤ 20 := ⟨by decide +kernel, g740, g15, by decide +kernel, by decide⟩
theorem g739 : Cond.instanceMethod ({ cls := "ShownPatterns$Meanings", name := "<init>", desc := "()V" } : MethodName) ∈ q_gw := q_tables_1_4 (i := 19) rfl rfl
theorem g816 : Cond.fieldLink "ShownPatterns$Finder" (12 : Nat) "ShownPatterns$Finder" "meanings" "LShownPatterns$Meanings;" ∈ q_gw := q_tables_1_4 (i := 96) rfl rfl
theorem g817 : Cond.fieldLink "ShownPatterns$Finder" (18 : Nat) "ShownPatterns$Finder" "meaningOf" "[I" ∈ q_gw := q_tables_1_4 (i := 97) rfl rfl
theorem g818 : Cond.fieldLink "ShownPatterns$Finder" (22 : Nat) "ShownPatterns$Finder" "agreed" "[I" ∈ q_gw := q_tables_1_4 (i := 98) rfl rfl
theorem g761 : Cond.classLink "ShownPatterns$Finder" (25 : Nat) "ShownPatterns$Spans" ∈ q_gw := q_tables_1_4 (i := 41) rfl rfl
theorem g138 : Cond.instantiable "ShownPatterns$Spans" (2 : Nat) ∈ q_gw := q_tables_1_1 (i := 138) rfl rfl
theorem g8 : Cond.initialized "ShownPatterns$Spans" ∈ q_gw := q_tables_1_1 (i := 8) rfl rfl
theorem g762 : Cond.methodLink "ShownPatterns$Finder" (27 : Nat) ({ cls := "ShownPatterns$Spans", name := "<init>", desc := "(I)V" } : MethodName) ∈ q_gw := q_tables_1_4 (i := 42) rfl rfl
theorem g141 : Cond.code ({ cls := "ShownPatterns$Spans", name := "<init>", desc := "(I)V" } : MethodName) prog_10_method_1_code (2 : Nat) (Option.none : Option FieldType) ∈ q_gw := q_tables_1_1 (i := 141) rfl rfl
theorem kX8_init : plainName mX8_init.1.cls = true ∧ Cond.code mX8_init.1 mX8_init.2.1 mX8_init.2.2.1 mX8_init.2.2.2 ∈ q_gw ∧ Cond.initialized mX8_init.1.cls ∈ q_gw ∧ (mX8_init.1.cls ≠ "java/lang/invoke/MethodHandle" ∧ mX8_init.1.cls ≠ "java/lang/invoke/VarHandle" ∧ (parseMethodDescriptor mX8_init.1.desc).map (fun d => d.parameters.length) = some 1) ∧ mX8_init.2.2.1 ≤ 20 := ⟨by decide +kernel, g141, g8, by decide +kernel, by decide⟩
theorem g140 : Cond.instanceMethod ({ cls := "ShownPatterns$Spans", name := "<init>", desc := "(I)V" } : MethodName) ∈ q_gw := q_tables_1_1 (i := 140) rfl rfl
theorem g819 : Cond.fieldLink "ShownPatterns$Finder" (30 : Nat) "ShownPatterns$Finder" "spans" "LShownPatterns$Spans;" ∈ q_gw := q_tables_1_4 (i := 99) rfl rfl
theorem g821 : Cond.fieldLink "ShownPatterns$Finder" (34 : Nat) "ShownPatterns$Finder" "metIn" "[I" ∈ q_gw := q_tables_1_4 (i := 101) rfl rfl
theorem g823 : Cond.fieldLink "ShownPatterns$Finder" (37 : Nat) "ShownPatterns$Finder" "having" "[I" ∈ q_gw := q_tables_1_4 (i := 103) rfl rfl
theorem g825 : Cond.fieldLink "ShownPatterns$Finder" (40 : Nat) "ShownPatterns$Finder" "foundIn" "[I" ∈ q_gw := q_tables_1_4 (i := 105) rfl rfl
theorem g814 : Cond.fieldLink "ShownPatterns$Finder" (43 : Nat) "ShownPatterns$Finder" "all" "LShownPatterns$Catalogue;" ∈ q_gw := q_tables_1_4 (i := 94) rfl rfl
theorem g815 : Cond.fieldLink "ShownPatterns$Finder" (47 : Nat) "ShownPatterns$Finder" "showings" "LShownPatterns$Showings;" ∈ q_gw := q_tables_1_4 (i := 95) rfl rfl
theorem g763 : Cond.methodLink "ShownPatterns$Finder" (51 : Nat) ({ cls := "ShownPatterns$Catalogue", name := "nodes", desc := "()LShownPatterns$Nodes;" } : MethodName) ∈ q_gw := q_tables_1_4 (i := 43) rfl rfl
theorem g481 : Cond.code ({ cls := "ShownPatterns$Catalogue", name := "nodes", desc := "()LShownPatterns$Nodes;" } : MethodName) prog_3_method_2_code (1 : Nat) (Option.some (FieldType.object "ShownPatterns$Nodes")) ∈ q_gw := q_tables_1_3 (i := 1) rfl rfl
theorem kX1_nodes : plainName mX1_nodes.1.cls = true ∧ Cond.code mX1_nodes.1 mX1_nodes.2.1 mX1_nodes.2.2.1 mX1_nodes.2.2.2 ∈ q_gw ∧ Cond.initialized mX1_nodes.1.cls ∈ q_gw ∧ (mX1_nodes.1.cls ≠ "java/lang/invoke/MethodHandle" ∧ mX1_nodes.1.cls ≠ "java/lang/invoke/VarHandle" ∧ (parseMethodDescriptor mX1_nodes.1.desc).map (fun d => d.parameters.length) = some 0) ∧ mX1_nodes.2.2.1 ≤ 20 := ⟨by decide +kernel, g481, g11, by decide +kernel, by decide⟩
theorem g479 : Cond.instanceMethod ({ cls := "ShownPatterns$Catalogue", name := "nodes", desc := "()LShownPatterns$Nodes;" } : MethodName) ∈ q_gw := q_tables_1_2 (i := 239) rfl rfl
theorem g480 : Cond.selects "ShownPatterns$Catalogue" ({ cls := "ShownPatterns$Catalogue", name := "nodes", desc := "()LShownPatterns$Nodes;" } : MethodName) ({ cls := "ShownPatterns$Catalogue", name := "nodes", desc := "()LShownPatterns$Nodes;" } : MethodName) ∈ q_gw := q_tables_1_3 (i := 0) rfl rfl
theorem g764 : Cond.methodLink "ShownPatterns$Finder" (57 : Nat) ({ cls := "ShownPatterns$Nodes", name := "size", desc := "()I" } : MethodName) ∈ q_gw := q_tables_1_4 (i := 44) rfl rfl
theorem g765 : Cond.methodLink "ShownPatterns$Finder" (63 : Nat) ({ cls := "java/lang/Math", name := "min", desc := "(II)I" } : MethodName) ∈ q_gw := q_tables_1_4 (i := 45) rfl rfl
theorem g766 : Cond.methodLink "ShownPatterns$Finder" (69 : Nat) ({ cls := "ShownPatterns$Nodes", name := "kindOf", desc := "(I)I" } : MethodName) ∈ q_gw := q_tables_1_4 (i := 46) rfl rfl
theorem g767 : Cond.methodLink "ShownPatterns$Finder" (73 : Nat) ({ cls := "ShownPatterns$Nodes", name := "leftOf", desc := "(I)I" } : MethodName) ∈ q_gw := q_tables_1_4 (i := 47) rfl rfl
theorem g768 : Cond.methodLink "ShownPatterns$Finder" (76 : Nat) ({ cls := "ShownPatterns$Nodes", name := "rightOf", desc := "(I)I" } : MethodName) ∈ q_gw := q_tables_1_4 (i := 48) rfl rfl
theorem gn769 : Cond.methodLinkNest "ShownPatterns$Finder" (79 : Nat) ({ cls := "ShownPatterns", name := "isLeaf", desc := "(I)Z" } : MethodName) "ShownPatterns" ∈ lw_tbl := q_ntables_1_4 (i := 49) rfl
theorem g770 : Cond.methodLink "ShownPatterns$Finder" (83 : Nat) ({ cls := "ShownPatterns$Meanings", name := "meaningOf", desc := "(III)I" } : MethodName) ∈ q_gw := q_tables_1_4 (i := 50) rfl rfl
theorem g773 : Cond.code ({ cls := "ShownPatterns$Meanings", name := "meaningOf", desc := "(III)I" } : MethodName) prog_5_method_5_code (4 : Nat) (Option.some FieldType.int) ∈ q_gw := q_tables_1_4 (i := 53) rfl rfl
theorem kX3_meaningOf : plainName mX3_meaningOf.1.cls = true ∧ Cond.code mX3_meaningOf.1 mX3_meaningOf.2.1 mX3_meaningOf.2.2.1 mX3_meaningOf.2.2.2 ∈ q_gw ∧ Cond.initialized mX3_meaningOf.1.cls ∈ q_gw ∧ (mX3_meaningOf.1.cls ≠ "java/lang/invoke/MethodHandle" ∧ mX3_meaningOf.1.cls ≠ "java/lang/invoke/VarHandle" ∧ (parseMethodDescriptor mX3_meaningOf.1.desc).map (fun d => d.parameters.length) = some 3) ∧ mX3_meaningOf.2.2.1 ≤ 20 := ⟨by decide +kernel, g773, g15, by decide +kernel, by decide⟩
theorem g771 : Cond.instanceMethod ({ cls := "ShownPatterns$Meanings", name := "meaningOf", desc := "(III)I" } : MethodName) ∈ q_gw := q_tables_1_4 (i := 51) rfl rfl
theorem g772 : Cond.selects "ShownPatterns$Meanings" ({ cls := "ShownPatterns$Meanings", name := "meaningOf", desc := "(III)I" } : MethodName) ({ cls := "ShownPatterns$Meanings", name := "meaningOf", desc := "(III)I" } : MethodName) ∈ q_gw := q_tables_1_4 (i := 52) rfl rfl
theorem g810 : Cond.methodLink "ShownPatterns$Finder" (86 : Nat) ({ cls := "ShownPatterns$Finder", name := "meaningAt", desc := "(I)I" } : MethodName) ∈ q_gw := q_tables_1_4 (i := 90) rfl rfl
theorem g813 : Cond.code ({ cls := "ShownPatterns$Finder", name := "meaningAt", desc := "(I)I" } : MethodName) prog_4_method_2_code (2 : Nat) (Option.some FieldType.int) ∈ q_gw := q_tables_1_4 (i := 93) rfl rfl
theorem g14 : Cond.initialized "ShownPatterns$Finder" ∈ q_gw := q_tables_1_1 (i := 14) rfl rfl
theorem kX2_meaningAt : plainName mX2_meaningAt.1.cls = true ∧ Cond.code mX2_meaningAt.1 mX2_meaningAt.2.1 mX2_meaningAt.2.2.1 mX2_meaningAt.2.2.2 ∈ q_gw ∧ Cond.initialized mX2_meaningAt.1.cls ∈ q_gw ∧ (mX2_meaningAt.1.cls ≠ "java/lang/invoke/MethodHandle" ∧ mX2_meaningAt.1.cls ≠ "java/lang/invoke/VarHandle" ∧ (parseMethodDescriptor mX2_meaningAt.1.desc).map (fun d => d.parameters.length) = some 1) ∧ mX2_meaningAt.2.2.1 ≤ 20 := ⟨by decide +kernel, g813, g14, by decide +kernel, by decide⟩
theorem g812 : Cond.instanceMethod ({ cls := "ShownPatterns$Finder", name := "meaningAt", desc := "(I)I" } : MethodName) ∈ q_gw := q_tables_1_4 (i := 92) rfl rfl
theorem gs39 : Cond.selects "ShownPatterns$Finder" ((⟨"ShownPatterns$Finder", "meaningAt", "(I)I"⟩ : MethodName)) (⟨"ShownPatterns$Finder", "meaningAt", "(I)I"⟩) ∈ q_gw := q_inS (i := 39) rfl rfl
theorem g820 : Cond.fieldLink "ShownPatterns$Finder" (89 : Nat) "ShownPatterns$Finder" "judged" "I" ∈ q_gw := q_tables_1_4 (i := 100) rfl rfl
theorem g879 : Cond.methodLink "ShownPatterns$Finder" (93 : Nat) ({ cls := "ShownPatterns$Showings", name := "size", desc := "()I" } : MethodName) ∈ q_gw := q_tables_1_4 (i := 159) rfl rfl
theorem g710 : Cond.code ({ cls := "ShownPatterns$Showings", name := "size", desc := "()I" } : MethodName) prog_9_method_2_code (1 : Nat) (Option.some FieldType.int) ∈ q_gw := q_tables_1_3 (i := 230) rfl rfl
theorem g9 : Cond.initialized "ShownPatterns$Showings" ∈ q_gw := q_tables_1_1 (i := 9) rfl rfl
theorem kX7_size : plainName mX7_size.1.cls = true ∧ Cond.code mX7_size.1 mX7_size.2.1 mX7_size.2.2.1 mX7_size.2.2.2 ∈ q_gw ∧ Cond.initialized mX7_size.1.cls ∈ q_gw ∧ (mX7_size.1.cls ≠ "java/lang/invoke/MethodHandle" ∧ mX7_size.1.cls ≠ "java/lang/invoke/VarHandle" ∧ (parseMethodDescriptor mX7_size.1.desc).map (fun d => d.parameters.length) = some 0) ∧ mX7_size.2.2.1 ≤ 20 := ⟨by decide +kernel, g710, g9, by decide +kernel, by decide⟩
theorem g708 : Cond.instanceMethod ({ cls := "ShownPatterns$Showings", name := "size", desc := "()I" } : MethodName) ∈ q_gw := q_tables_1_3 (i := 228) rfl rfl
theorem g709 : Cond.selects "ShownPatterns$Showings" ({ cls := "ShownPatterns$Showings", name := "size", desc := "()I" } : MethodName) ({ cls := "ShownPatterns$Showings", name := "size", desc := "()I" } : MethodName) ∈ q_gw := q_tables_1_3 (i := 229) rfl rfl
theorem g880 : Cond.methodLink "ShownPatterns$Finder" (96 : Nat) ({ cls := "ShownPatterns$Showings", name := "rowOf", desc := "(I)I" } : MethodName) ∈ q_gw := q_tables_1_4 (i := 160) rfl rfl
theorem g650 : Cond.code ({ cls := "ShownPatterns$Showings", name := "rowOf", desc := "(I)I" } : MethodName) prog_9_method_8_code (2 : Nat) (Option.some FieldType.int) ∈ q_gw := q_tables_1_3 (i := 170) rfl rfl
theorem kX7_rowOf : plainName mX7_rowOf.1.cls = true ∧ Cond.code mX7_rowOf.1 mX7_rowOf.2.1 mX7_rowOf.2.2.1 mX7_rowOf.2.2.2 ∈ q_gw ∧ Cond.initialized mX7_rowOf.1.cls ∈ q_gw ∧ (mX7_rowOf.1.cls ≠ "java/lang/invoke/MethodHandle" ∧ mX7_rowOf.1.cls ≠ "java/lang/invoke/VarHandle" ∧ (parseMethodDescriptor mX7_rowOf.1.desc).map (fun d => d.parameters.length) = some 1) ∧ mX7_rowOf.2.2.1 ≤ 20 := ⟨by decide +kernel, g650, g9, by decide +kernel, by decide⟩
theorem g648 : Cond.instanceMethod ({ cls := "ShownPatterns$Showings", name := "rowOf", desc := "(I)I" } : MethodName) ∈ q_gw := q_tables_1_3 (i := 168) rfl rfl
theorem g649 : Cond.selects "ShownPatterns$Showings" ({ cls := "ShownPatterns$Showings", name := "rowOf", desc := "(I)I" } : MethodName) ({ cls := "ShownPatterns$Showings", name := "rowOf", desc := "(I)I" } : MethodName) ∈ q_gw := q_tables_1_3 (i := 169) rfl rfl
theorem gn881 : Cond.methodLinkNest "ShownPatterns$Finder" (99 : Nat) ({ cls := "ShownPatterns", name := "lengthOf", desc := "(I)I" } : MethodName) "ShownPatterns" ∈ lw_tbl := q_ntables_1_4 (i := 161) rfl
theorem g488 : Cond.code ({ cls := "ShownPatterns", name := "lengthOf", desc := "(I)I" } : MethodName) prog_1_method_38_code (2 : Nat) (Option.some FieldType.int) ∈ q_gw := q_tables_1_3 (i := 8) rfl rfl
theorem kX11_lengthOf : plainName mX11_lengthOf.1.cls = true ∧ Cond.code mX11_lengthOf.1 mX11_lengthOf.2.1 mX11_lengthOf.2.2.1 mX11_lengthOf.2.2.2 ∈ q_gw ∧ Cond.initialized mX11_lengthOf.1.cls ∈ q_gw ∧ (mX11_lengthOf.1.cls ≠ "java/lang/invoke/MethodHandle" ∧ mX11_lengthOf.1.cls ≠ "java/lang/invoke/VarHandle" ∧ (parseMethodDescriptor mX11_lengthOf.1.desc).map (fun d => d.parameters.length) = some 1) ∧ mX11_lengthOf.2.2.1 ≤ 20 := ⟨by decide +kernel, g488, g1, by decide +kernel, by decide⟩
theorem g487 : Cond.static ({ cls := "ShownPatterns", name := "lengthOf", desc := "(I)I" } : MethodName) ∈ q_gw := q_tables_1_3 (i := 7) rfl rfl
theorem g882 : Cond.methodLink "ShownPatterns$Finder" (102 : Nat) ({ cls := "ShownPatterns$Spans", name := "lay", desc := "(II)V" } : MethodName) ∈ q_gw := q_tables_1_4 (i := 162) rfl rfl
theorem g655 : Cond.code ({ cls := "ShownPatterns$Spans", name := "lay", desc := "(II)V" } : MethodName) prog_10_method_2_code (5 : Nat) (Option.none : Option FieldType) ∈ q_gw := q_tables_1_3 (i := 175) rfl rfl
theorem kX8_lay : plainName mX8_lay.1.cls = true ∧ Cond.code mX8_lay.1 mX8_lay.2.1 mX8_lay.2.2.1 mX8_lay.2.2.2 ∈ q_gw ∧ Cond.initialized mX8_lay.1.cls ∈ q_gw ∧ (mX8_lay.1.cls ≠ "java/lang/invoke/MethodHandle" ∧ mX8_lay.1.cls ≠ "java/lang/invoke/VarHandle" ∧ (parseMethodDescriptor mX8_lay.1.desc).map (fun d => d.parameters.length) = some 2) ∧ mX8_lay.2.2.1 ≤ 20 := ⟨by decide +kernel, g655, g8, by decide +kernel, by decide⟩
theorem g653 : Cond.instanceMethod ({ cls := "ShownPatterns$Spans", name := "lay", desc := "(II)V" } : MethodName) ∈ q_gw := q_tables_1_3 (i := 173) rfl rfl
theorem g654 : Cond.selects "ShownPatterns$Spans" ({ cls := "ShownPatterns$Spans", name := "lay", desc := "(II)V" } : MethodName) ({ cls := "ShownPatterns$Spans", name := "lay", desc := "(II)V" } : MethodName) ∈ q_gw := q_tables_1_3 (i := 174) rfl rfl
theorem g883 : Cond.methodLink "ShownPatterns$Finder" (106 : Nat) ({ cls := "ShownPatterns$Spans", name := "fill", desc := "(LShownPatterns$Nodes;)V" } : MethodName) ∈ q_gw := q_tables_1_4 (i := 163) rfl rfl
theorem g663 : Cond.code ({ cls := "ShownPatterns$Spans", name := "fill", desc := "(LShownPatterns$Nodes;)V" } : MethodName) prog_10_method_3_code (4 : Nat) (Option.none : Option FieldType) ∈ q_gw := q_tables_1_3 (i := 183) rfl rfl
theorem kX8_fill : plainName mX8_fill.1.cls = true ∧ Cond.code mX8_fill.1 mX8_fill.2.1 mX8_fill.2.2.1 mX8_fill.2.2.2 ∈ q_gw ∧ Cond.initialized mX8_fill.1.cls ∈ q_gw ∧ (mX8_fill.1.cls ≠ "java/lang/invoke/MethodHandle" ∧ mX8_fill.1.cls ≠ "java/lang/invoke/VarHandle" ∧ (parseMethodDescriptor mX8_fill.1.desc).map (fun d => d.parameters.length) = some 1) ∧ mX8_fill.2.2.1 ≤ 20 := ⟨by decide +kernel, g663, g8, by decide +kernel, by decide⟩
theorem g661 : Cond.instanceMethod ({ cls := "ShownPatterns$Spans", name := "fill", desc := "(LShownPatterns$Nodes;)V" } : MethodName) ∈ q_gw := q_tables_1_3 (i := 181) rfl rfl
theorem g662 : Cond.selects "ShownPatterns$Spans" ({ cls := "ShownPatterns$Spans", name := "fill", desc := "(LShownPatterns$Nodes;)V" } : MethodName) ({ cls := "ShownPatterns$Spans", name := "fill", desc := "(LShownPatterns$Nodes;)V" } : MethodName) ∈ q_gw := q_tables_1_3 (i := 182) rfl rfl
theorem g884 : Cond.methodLink "ShownPatterns$Finder" (110 : Nat) ({ cls := "ShownPatterns$Spans", name := "of", desc := "(I)J" } : MethodName) ∈ q_gw := q_tables_1_4 (i := 164) rfl rfl
theorem g680 : Cond.code ({ cls := "ShownPatterns$Spans", name := "of", desc := "(I)J" } : MethodName) prog_10_method_4_code (2 : Nat) (Option.some FieldType.long) ∈ q_gw := q_tables_1_3 (i := 200) rfl rfl
theorem kX8_of : plainName mX8_of.1.cls = true ∧ Cond.code mX8_of.1 mX8_of.2.1 mX8_of.2.2.1 mX8_of.2.2.2 ∈ q_gw ∧ Cond.initialized mX8_of.1.cls ∈ q_gw ∧ (mX8_of.1.cls ≠ "java/lang/invoke/MethodHandle" ∧ mX8_of.1.cls ≠ "java/lang/invoke/VarHandle" ∧ (parseMethodDescriptor mX8_of.1.desc).map (fun d => d.parameters.length) = some 1) ∧ mX8_of.2.2.1 ≤ 20 := ⟨by decide +kernel, g680, g8, by decide +kernel, by decide⟩
theorem g678 : Cond.instanceMethod ({ cls := "ShownPatterns$Spans", name := "of", desc := "(I)J" } : MethodName) ∈ q_gw := q_tables_1_3 (i := 198) rfl rfl
theorem g679 : Cond.selects "ShownPatterns$Spans" ({ cls := "ShownPatterns$Spans", name := "of", desc := "(I)J" } : MethodName) ({ cls := "ShownPatterns$Spans", name := "of", desc := "(I)J" } : MethodName) ∈ q_gw := q_tables_1_3 (i := 199) rfl rfl
theorem g885 : Cond.methodLink "ShownPatterns$Finder" (114 : Nat) ({ cls := "ShownPatterns$Showings", name := "isSo", desc := "(IJ)Z" } : MethodName) ∈ q_gw := q_tables_1_4 (i := 165) rfl rfl
theorem g694 : Cond.code ({ cls := "ShownPatterns$Showings", name := "isSo", desc := "(IJ)Z" } : MethodName) prog_9_method_9_code (5 : Nat) (Option.some FieldType.boolean) ∈ q_gw := q_tables_1_3 (i := 214) rfl rfl
theorem kX7_isSo : plainName mX7_isSo.1.cls = true ∧ Cond.code mX7_isSo.1 mX7_isSo.2.1 mX7_isSo.2.2.1 mX7_isSo.2.2.2 ∈ q_gw ∧ Cond.initialized mX7_isSo.1.cls ∈ q_gw ∧ (mX7_isSo.1.cls ≠ "java/lang/invoke/MethodHandle" ∧ mX7_isSo.1.cls ≠ "java/lang/invoke/VarHandle" ∧ (parseMethodDescriptor mX7_isSo.1.desc).map (fun d => d.parameters.length) = some 2) ∧ mX7_isSo.2.2.1 ≤ 20 := ⟨by decide +kernel, g694, g9, by decide +kernel, by decide⟩
theorem g692 : Cond.instanceMethod ({ cls := "ShownPatterns$Showings", name := "isSo", desc := "(IJ)Z" } : MethodName) ∈ q_gw := q_tables_1_3 (i := 212) rfl rfl
theorem g693 : Cond.selects "ShownPatterns$Showings" ({ cls := "ShownPatterns$Showings", name := "isSo", desc := "(IJ)Z" } : MethodName) ({ cls := "ShownPatterns$Showings", name := "isSo", desc := "(IJ)Z" } : MethodName) ∈ q_gw := q_tables_1_3 (i := 213) rfl rfl
theorem g890 : Cond.methodLink "ShownPatterns$Finder" (118 : Nat) ({ cls := "ShownPatterns$Catalogue", name := "kindsOf", desc := "(I)I" } : MethodName) ∈ q_gw := q_tables_1_4 (i := 170) rfl rfl
theorem g895 : Cond.methodLink "ShownPatterns$Finder" (121 : Nat) ({ cls := "ShownPatterns$Showings", name := "standing", desc := "()I" } : MethodName) ∈ q_gw := q_tables_1_4 (i := 175) rfl rfl
theorem g714 : Cond.code ({ cls := "ShownPatterns$Showings", name := "standing", desc := "()I" } : MethodName) prog_9_method_6_code (1 : Nat) (Option.some FieldType.int) ∈ q_gw := q_tables_1_3 (i := 234) rfl rfl
theorem kX7_standing : plainName mX7_standing.1.cls = true ∧ Cond.code mX7_standing.1 mX7_standing.2.1 mX7_standing.2.2.1 mX7_standing.2.2.2 ∈ q_gw ∧ Cond.initialized mX7_standing.1.cls ∈ q_gw ∧ (mX7_standing.1.cls ≠ "java/lang/invoke/MethodHandle" ∧ mX7_standing.1.cls ≠ "java/lang/invoke/VarHandle" ∧ (parseMethodDescriptor mX7_standing.1.desc).map (fun d => d.parameters.length) = some 0) ∧ mX7_standing.2.2.1 ≤ 20 := ⟨by decide +kernel, g714, g9, by decide +kernel, by decide⟩
theorem g712 : Cond.instanceMethod ({ cls := "ShownPatterns$Showings", name := "standing", desc := "()I" } : MethodName) ∈ q_gw := q_tables_1_3 (i := 232) rfl rfl
theorem g713 : Cond.selects "ShownPatterns$Showings" ({ cls := "ShownPatterns$Showings", name := "standing", desc := "()I" } : MethodName) ({ cls := "ShownPatterns$Showings", name := "standing", desc := "()I" } : MethodName) ∈ q_gw := q_tables_1_3 (i := 233) rfl rfl
theorem g826 : Cond.fieldLink "ShownPatterns$Finder" (124 : Nat) "ShownPatterns$Finder" "searches" "I" ∈ q_gw := q_tables_1_4 (i := 106) rfl rfl
theorem g827 : Cond.fieldLink "ShownPatterns$Finder" (127 : Nat) "ShownPatterns$Finder" "kindsSought" "I" ∈ q_gw := q_tables_1_4 (i := 107) rfl rfl
theorem g828 : Cond.fieldLink "ShownPatterns$Finder" (130 : Nat) "ShownPatterns$Finder" "at" "I" ∈ q_gw := q_tables_1_4 (i := 108) rfl rfl
theorem g870 : Cond.methodLink "ShownPatterns$Finder" (133 : Nat) ({ cls := "ShownPatterns$Catalogue", name := "end", desc := "(I)I" } : MethodName) ∈ q_gw := q_tables_1_4 (i := 150) rfl rfl
theorem g829 : Cond.fieldLink "ShownPatterns$Finder" (136 : Nat) "ShownPatterns$Finder" "end" "I" ∈ q_gw := q_tables_1_4 (i := 109) rfl rfl
theorem g830 : Cond.fieldLink "ShownPatterns$Finder" (138 : Nat) "ShownPatterns$Finder" "foundHere" "I" ∈ q_gw := q_tables_1_4 (i := 110) rfl rfl
theorem g875 : Cond.methodLink "ShownPatterns$Finder" (141 : Nat) ({ cls := "ShownPatterns$Finder", name := "judgeNew", desc := "()V" } : MethodName) ∈ q_gw := q_tables_1_4 (i := 155) rfl rfl
theorem g878 : Cond.code ({ cls := "ShownPatterns$Finder", name := "judgeNew", desc := "()V" } : MethodName) prog_4_method_3_code (4 : Nat) (Option.none : Option FieldType) ∈ q_gw := q_tables_1_4 (i := 158) rfl rfl
theorem kX2_judgeNew : plainName mX2_judgeNew.1.cls = true ∧ Cond.code mX2_judgeNew.1 mX2_judgeNew.2.1 mX2_judgeNew.2.2.1 mX2_judgeNew.2.2.2 ∈ q_gw ∧ Cond.initialized mX2_judgeNew.1.cls ∈ q_gw ∧ (mX2_judgeNew.1.cls ≠ "java/lang/invoke/MethodHandle" ∧ mX2_judgeNew.1.cls ≠ "java/lang/invoke/VarHandle" ∧ (parseMethodDescriptor mX2_judgeNew.1.desc).map (fun d => d.parameters.length) = some 0) ∧ mX2_judgeNew.2.2.1 ≤ 20 := ⟨by decide +kernel, g878, g14, by decide +kernel, by decide⟩
theorem g877 : Cond.instanceMethod ({ cls := "ShownPatterns$Finder", name := "judgeNew", desc := "()V" } : MethodName) ∈ q_gw := q_tables_1_4 (i := 157) rfl rfl
theorem gs40 : Cond.selects "ShownPatterns$Finder" ((⟨"ShownPatterns$Finder", "judgeNew", "()V"⟩ : MethodName)) (⟨"ShownPatterns$Finder", "judgeNew", "()V"⟩) ∈ q_gw := q_inS (i := 40) rfl rfl
theorem g886 : Cond.methodLink "ShownPatterns$Finder" (144 : Nat) ({ cls := "ShownPatterns$Finder", name := "isOfKinds", desc := "(II)Z" } : MethodName) ∈ q_gw := q_tables_1_4 (i := 166) rfl rfl
theorem g889 : Cond.code ({ cls := "ShownPatterns$Finder", name := "isOfKinds", desc := "(II)Z" } : MethodName) prog_4_method_4_code (3 : Nat) (Option.some FieldType.boolean) ∈ q_gw := q_tables_1_4 (i := 169) rfl rfl
theorem kX2_isOfKinds : plainName mX2_isOfKinds.1.cls = true ∧ Cond.code mX2_isOfKinds.1 mX2_isOfKinds.2.1 mX2_isOfKinds.2.2.1 mX2_isOfKinds.2.2.2 ∈ q_gw ∧ Cond.initialized mX2_isOfKinds.1.cls ∈ q_gw ∧ (mX2_isOfKinds.1.cls ≠ "java/lang/invoke/MethodHandle" ∧ mX2_isOfKinds.1.cls ≠ "java/lang/invoke/VarHandle" ∧ (parseMethodDescriptor mX2_isOfKinds.1.desc).map (fun d => d.parameters.length) = some 2) ∧ mX2_isOfKinds.2.2.1 ≤ 20 := ⟨by decide +kernel, g889, g14, by decide +kernel, by decide⟩
theorem g888 : Cond.instanceMethod ({ cls := "ShownPatterns$Finder", name := "isOfKinds", desc := "(II)Z" } : MethodName) ∈ q_gw := q_tables_1_4 (i := 168) rfl rfl
theorem gs41 : Cond.selects "ShownPatterns$Finder" ((⟨"ShownPatterns$Finder", "isOfKinds", "(II)Z"⟩ : MethodName)) (⟨"ShownPatterns$Finder", "isOfKinds", "(II)Z"⟩) ∈ q_gw := q_inS (i := 41) rfl rfl
theorem g891 : Cond.methodLink "ShownPatterns$Finder" (148 : Nat) ({ cls := "ShownPatterns$Finder", name := "against", desc := "(I)I" } : MethodName) ∈ q_gw := q_tables_1_4 (i := 171) rfl rfl
theorem g894 : Cond.code ({ cls := "ShownPatterns$Finder", name := "against", desc := "(I)I" } : MethodName) prog_4_method_5_code (2 : Nat) (Option.some FieldType.int) ∈ q_gw := q_tables_1_4 (i := 174) rfl rfl
theorem kX2_against : plainName mX2_against.1.cls = true ∧ Cond.code mX2_against.1 mX2_against.2.1 mX2_against.2.2.1 mX2_against.2.2.2 ∈ q_gw ∧ Cond.initialized mX2_against.1.cls ∈ q_gw ∧ (mX2_against.1.cls ≠ "java/lang/invoke/MethodHandle" ∧ mX2_against.1.cls ≠ "java/lang/invoke/VarHandle" ∧ (parseMethodDescriptor mX2_against.1.desc).map (fun d => d.parameters.length) = some 1) ∧ mX2_against.2.2.1 ≤ 20 := ⟨by decide +kernel, g894, g14, by decide +kernel, by decide⟩
theorem g893 : Cond.instanceMethod ({ cls := "ShownPatterns$Finder", name := "against", desc := "(I)I" } : MethodName) ∈ q_gw := q_tables_1_4 (i := 173) rfl rfl
theorem gs42 : Cond.selects "ShownPatterns$Finder" ((⟨"ShownPatterns$Finder", "against", "(I)I"⟩ : MethodName)) (⟨"ShownPatterns$Finder", "against", "(I)I"⟩) ∈ q_gw := q_inS (i := 42) rfl rfl
theorem g896 : Cond.methodLink "ShownPatterns$Finder" (151 : Nat) ({ cls := "ShownPatterns$Finder", name := "isNew", desc := "([III)Z" } : MethodName) ∈ q_gw := q_tables_1_4 (i := 176) rfl rfl
theorem g898 : Cond.code ({ cls := "ShownPatterns$Finder", name := "isNew", desc := "([III)Z" } : MethodName) prog_4_method_10_code (3 : Nat) (Option.some FieldType.boolean) ∈ q_gw := q_tables_1_4 (i := 178) rfl rfl
theorem kX2_isNew : plainName mX2_isNew.1.cls = true ∧ Cond.code mX2_isNew.1 mX2_isNew.2.1 mX2_isNew.2.2.1 mX2_isNew.2.2.2 ∈ q_gw ∧ Cond.initialized mX2_isNew.1.cls ∈ q_gw ∧ (mX2_isNew.1.cls ≠ "java/lang/invoke/MethodHandle" ∧ mX2_isNew.1.cls ≠ "java/lang/invoke/VarHandle" ∧ (parseMethodDescriptor mX2_isNew.1.desc).map (fun d => d.parameters.length) = some 3) ∧ mX2_isNew.2.2.1 ≤ 20 := ⟨by decide +kernel, g898, g14, by decide +kernel, by decide⟩
theorem g897 : Cond.static ({ cls := "ShownPatterns$Finder", name := "isNew", desc := "([III)Z" } : MethodName) ∈ q_gw := q_tables_1_4 (i := 177) rfl rfl
theorem g822 : Cond.fieldLink "ShownPatterns$Finder" (155 : Nat) "ShownPatterns$Finder" "counts" "I" ∈ q_gw := q_tables_1_4 (i := 102) rfl rfl
theorem g940 : Cond.methodLink "ShownPatterns$Finder" (158 : Nat) ({ cls := "java/util/Arrays", name := "fill", desc := "([II)V" } : MethodName) ∈ q_gw := q_tables_1_4 (i := 220) rfl rfl
theorem g941 : Cond.methodLink "ShownPatterns$Finder" (163 : Nat) ({ cls := "ShownPatterns$Meanings", name := "size", desc := "()I" } : MethodName) ∈ q_gw := q_tables_1_4 (i := 221) rfl rfl
theorem g944 : Cond.code ({ cls := "ShownPatterns$Meanings", name := "size", desc := "()I" } : MethodName) prog_5_method_2_code (1 : Nat) (Option.some FieldType.int) ∈ q_gw := q_tables_1_4 (i := 224) rfl rfl
theorem kX3_size : plainName mX3_size.1.cls = true ∧ Cond.code mX3_size.1 mX3_size.2.1 mX3_size.2.2.1 mX3_size.2.2.2 ∈ q_gw ∧ Cond.initialized mX3_size.1.cls ∈ q_gw ∧ (mX3_size.1.cls ≠ "java/lang/invoke/MethodHandle" ∧ mX3_size.1.cls ≠ "java/lang/invoke/VarHandle" ∧ (parseMethodDescriptor mX3_size.1.desc).map (fun d => d.parameters.length) = some 0) ∧ mX3_size.2.2.1 ≤ 20 := ⟨by decide +kernel, g944, g15, by decide +kernel, by decide⟩
theorem g942 : Cond.instanceMethod ({ cls := "ShownPatterns$Meanings", name := "size", desc := "()I" } : MethodName) ∈ q_gw := q_tables_1_4 (i := 222) rfl rfl
theorem g943 : Cond.selects "ShownPatterns$Meanings" ({ cls := "ShownPatterns$Meanings", name := "size", desc := "()I" } : MethodName) ({ cls := "ShownPatterns$Meanings", name := "size", desc := "()I" } : MethodName) ∈ q_gw := q_tables_1_4 (i := 223) rfl rfl
theorem g945 : Cond.methodLink "ShownPatterns$Finder" (164 : Nat) ({ cls := "ShownPatterns$Finder", name := "addRows", desc := "(I)V" } : MethodName) ∈ q_gw := q_tables_1_4 (i := 225) rfl rfl
theorem g948 : Cond.code ({ cls := "ShownPatterns$Finder", name := "addRows", desc := "(I)V" } : MethodName) prog_4_method_13_code (3 : Nat) (Option.none : Option FieldType) ∈ q_gw := q_tables_1_4 (i := 228) rfl rfl
theorem kX2_addRows : plainName mX2_addRows.1.cls = true ∧ Cond.code mX2_addRows.1 mX2_addRows.2.1 mX2_addRows.2.2.1 mX2_addRows.2.2.2 ∈ q_gw ∧ Cond.initialized mX2_addRows.1.cls ∈ q_gw ∧ (mX2_addRows.1.cls ≠ "java/lang/invoke/MethodHandle" ∧ mX2_addRows.1.cls ≠ "java/lang/invoke/VarHandle" ∧ (parseMethodDescriptor mX2_addRows.1.desc).map (fun d => d.parameters.length) = some 1) ∧ mX2_addRows.2.2.1 ≤ 20 := ⟨by decide +kernel, g948, g14, by decide +kernel, by decide⟩
theorem g947 : Cond.instanceMethod ({ cls := "ShownPatterns$Finder", name := "addRows", desc := "(I)V" } : MethodName) ∈ q_gw := q_tables_1_4 (i := 227) rfl rfl
theorem gs45 : Cond.selects "ShownPatterns$Finder" ((⟨"ShownPatterns$Finder", "addRows", "(I)V"⟩ : MethodName)) (⟨"ShownPatterns$Finder", "addRows", "(I)V"⟩) ∈ q_gw := q_inS (i := 45) rfl rfl
theorem g949 : Cond.methodLink "ShownPatterns$Finder" (167 : Nat) ({ cls := "ShownPatterns$Meanings", name := "hasRow", desc := "(II)Z" } : MethodName) ∈ q_gw := q_tables_1_4 (i := 229) rfl rfl
theorem g952 : Cond.code ({ cls := "ShownPatterns$Meanings", name := "hasRow", desc := "(II)Z" } : MethodName) prog_5_method_3_code (4 : Nat) (Option.some FieldType.boolean) ∈ q_gw := q_tables_1_4 (i := 232) rfl rfl
theorem kX3_hasRow : plainName mX3_hasRow.1.cls = true ∧ Cond.code mX3_hasRow.1 mX3_hasRow.2.1 mX3_hasRow.2.2.1 mX3_hasRow.2.2.2 ∈ q_gw ∧ Cond.initialized mX3_hasRow.1.cls ∈ q_gw ∧ (mX3_hasRow.1.cls ≠ "java/lang/invoke/MethodHandle" ∧ mX3_hasRow.1.cls ≠ "java/lang/invoke/VarHandle" ∧ (parseMethodDescriptor mX3_hasRow.1.desc).map (fun d => d.parameters.length) = some 2) ∧ mX3_hasRow.2.2.1 ≤ 20 := ⟨by decide +kernel, g952, g15, by decide +kernel, by decide⟩
theorem g950 : Cond.instanceMethod ({ cls := "ShownPatterns$Meanings", name := "hasRow", desc := "(II)Z" } : MethodName) ∈ q_gw := q_tables_1_4 (i := 230) rfl rfl
theorem g951 : Cond.selects "ShownPatterns$Meanings" ({ cls := "ShownPatterns$Meanings", name := "hasRow", desc := "(II)Z" } : MethodName) ({ cls := "ShownPatterns$Meanings", name := "hasRow", desc := "(II)Z" } : MethodName) ∈ q_gw := q_tables_1_4 (i := 231) rfl rfl
theorem g935 : Cond.methodLink "ShownPatterns$Finder" (170 : Nat) ({ cls := "ShownPatterns$Finder", name := "countOpen", desc := "(II)I" } : MethodName) ∈ q_gw := q_tables_1_4 (i := 215) rfl rfl
theorem g926 : Cond.code ({ cls := "ShownPatterns$Finder", name := "countOpen", desc := "(II)I" } : MethodName) prog_4_method_11_code (6 : Nat) (Option.some FieldType.int) ∈ q_gw := q_tables_1_4 (i := 206) rfl rfl
theorem kX2_countOpen : plainName mX2_countOpen.1.cls = true ∧ Cond.code mX2_countOpen.1 mX2_countOpen.2.1 mX2_countOpen.2.2.1 mX2_countOpen.2.2.2 ∈ q_gw ∧ Cond.initialized mX2_countOpen.1.cls ∈ q_gw ∧ (mX2_countOpen.1.cls ≠ "java/lang/invoke/MethodHandle" ∧ mX2_countOpen.1.cls ≠ "java/lang/invoke/VarHandle" ∧ (parseMethodDescriptor mX2_countOpen.1.desc).map (fun d => d.parameters.length) = some 2) ∧ mX2_countOpen.2.2.1 ≤ 20 := ⟨by decide +kernel, g926, g14, by decide +kernel, by decide⟩
theorem g924 : Cond.instanceMethod ({ cls := "ShownPatterns$Finder", name := "countOpen", desc := "(II)I" } : MethodName) ∈ q_gw := q_tables_1_4 (i := 204) rfl rfl
theorem g925 : Cond.selects "ShownPatterns$Finder" ({ cls := "ShownPatterns$Finder", name := "countOpen", desc := "(II)I" } : MethodName) ({ cls := "ShownPatterns$Finder", name := "countOpen", desc := "(II)I" } : MethodName) ∈ q_gw := q_tables_1_4 (i := 205) rfl rfl
theorem g936 : Cond.methodLink "ShownPatterns$Finder" (173 : Nat) ({ cls := "ShownPatterns$Finder", name := "countRows", desc := "()V" } : MethodName) ∈ q_gw := q_tables_1_4 (i := 216) rfl rfl
theorem g939 : Cond.code ({ cls := "ShownPatterns$Finder", name := "countRows", desc := "()V" } : MethodName) prog_4_method_12_code (3 : Nat) (Option.none : Option FieldType) ∈ q_gw := q_tables_1_4 (i := 219) rfl rfl
theorem kX2_countRows : plainName mX2_countRows.1.cls = true ∧ Cond.code mX2_countRows.1 mX2_countRows.2.1 mX2_countRows.2.2.1 mX2_countRows.2.2.2 ∈ q_gw ∧ Cond.initialized mX2_countRows.1.cls ∈ q_gw ∧ (mX2_countRows.1.cls ≠ "java/lang/invoke/MethodHandle" ∧ mX2_countRows.1.cls ≠ "java/lang/invoke/VarHandle" ∧ (parseMethodDescriptor mX2_countRows.1.desc).map (fun d => d.parameters.length) = some 0) ∧ mX2_countRows.2.2.1 ≤ 20 := ⟨by decide +kernel, g939, g14, by decide +kernel, by decide⟩
theorem g938 : Cond.instanceMethod ({ cls := "ShownPatterns$Finder", name := "countRows", desc := "()V" } : MethodName) ∈ q_gw := q_tables_1_4 (i := 218) rfl rfl
theorem gs44 : Cond.selects "ShownPatterns$Finder" ((⟨"ShownPatterns$Finder", "countRows", "()V"⟩ : MethodName)) (⟨"ShownPatterns$Finder", "countRows", "()V"⟩) ∈ q_gw := q_inS (i := 44) rfl rfl
theorem g824 : Cond.fieldLink "ShownPatterns$Finder" (176 : Nat) "ShownPatterns$Finder" "haveAsked" "I" ∈ q_gw := q_tables_1_4 (i := 104) rfl rfl
theorem g953 : Cond.methodLink "ShownPatterns$Finder" (179 : Nat) ({ cls := "ShownPatterns$Finder", name := "rowBy", desc := "(I)I" } : MethodName) ∈ q_gw := q_tables_1_4 (i := 233) rfl rfl
theorem g955 : Cond.code ({ cls := "ShownPatterns$Finder", name := "rowBy", desc := "(I)I" } : MethodName) prog_4_method_15_code (3 : Nat) (Option.some FieldType.int) ∈ q_gw := q_tables_1_4 (i := 235) rfl rfl
theorem kX2_rowBy : plainName mX2_rowBy.1.cls = true ∧ Cond.code mX2_rowBy.1 mX2_rowBy.2.1 mX2_rowBy.2.2.1 mX2_rowBy.2.2.2 ∈ q_gw ∧ Cond.initialized mX2_rowBy.1.cls ∈ q_gw ∧ (mX2_rowBy.1.cls ≠ "java/lang/invoke/MethodHandle" ∧ mX2_rowBy.1.cls ≠ "java/lang/invoke/VarHandle" ∧ (parseMethodDescriptor mX2_rowBy.1.desc).map (fun d => d.parameters.length) = some 1) ∧ mX2_rowBy.2.2.1 ≤ 20 := ⟨by decide +kernel, g955, g14, by decide +kernel, by decide⟩
theorem g954 : Cond.static ({ cls := "ShownPatterns$Finder", name := "rowBy", desc := "(I)I" } : MethodName) ∈ q_gw := q_tables_1_4 (i := 234) rfl rfl
theorem gn956 : Cond.fieldLinkNest "ShownPatterns$Finder" (182 : Nat) "ShownPatterns" "POWERS" "[I" "ShownPatterns" ∈ lw_tbl := q_ntables_1_4 (i := 236) rfl
theorem g973 : Cond.methodLink "ShownPatterns$Finder" (185 : Nat) ({ cls := "ShownPatterns$Catalogue", name := "begin", desc := "(I)I" } : MethodName) ∈ q_gw := q_tables_1_5 (i := 13) rfl rfl
theorem g974 : Cond.methodLink "ShownPatterns$Finder" (188 : Nat) ({ cls := "ShownPatterns$Finder", name := "priceOf", desc := "(I)I" } : MethodName) ∈ q_gw := q_tables_1_5 (i := 14) rfl rfl
theorem g977 : Cond.code ({ cls := "ShownPatterns$Finder", name := "priceOf", desc := "(I)I" } : MethodName) prog_4_method_18_code (2 : Nat) (Option.some FieldType.int) ∈ q_gw := q_tables_1_5 (i := 17) rfl rfl
theorem kX2_priceOf : plainName mX2_priceOf.1.cls = true ∧ Cond.code mX2_priceOf.1 mX2_priceOf.2.1 mX2_priceOf.2.2.1 mX2_priceOf.2.2.2 ∈ q_gw ∧ Cond.initialized mX2_priceOf.1.cls ∈ q_gw ∧ (mX2_priceOf.1.cls ≠ "java/lang/invoke/MethodHandle" ∧ mX2_priceOf.1.cls ≠ "java/lang/invoke/VarHandle" ∧ (parseMethodDescriptor mX2_priceOf.1.desc).map (fun d => d.parameters.length) = some 1) ∧ mX2_priceOf.2.2.1 ≤ 20 := ⟨by decide +kernel, g977, g14, by decide +kernel, by decide⟩
theorem g975 : Cond.instanceMethod ({ cls := "ShownPatterns$Finder", name := "priceOf", desc := "(I)I" } : MethodName) ∈ q_gw := q_tables_1_5 (i := 15) rfl rfl
theorem g976 : Cond.selects "ShownPatterns$Finder" ({ cls := "ShownPatterns$Finder", name := "priceOf", desc := "(I)I" } : MethodName) ({ cls := "ShownPatterns$Finder", name := "priceOf", desc := "(I)I" } : MethodName) ∈ q_gw := q_tables_1_5 (i := 16) rfl rfl
theorem g978 : Cond.methodLink "ShownPatterns$Finder" (191 : Nat) ({ cls := "ShownPatterns$Showings", name := "priceOf", desc := "(I)I" } : MethodName) ∈ q_gw := q_tables_1_5 (i := 18) rfl rfl
theorem g718 : Cond.code ({ cls := "ShownPatterns$Showings", name := "priceOf", desc := "(I)I" } : MethodName) prog_9_method_7_code (4 : Nat) (Option.some FieldType.int) ∈ q_gw := q_tables_1_3 (i := 238) rfl rfl
theorem kX7_priceOf : plainName mX7_priceOf.1.cls = true ∧ Cond.code mX7_priceOf.1 mX7_priceOf.2.1 mX7_priceOf.2.2.1 mX7_priceOf.2.2.2 ∈ q_gw ∧ Cond.initialized mX7_priceOf.1.cls ∈ q_gw ∧ (mX7_priceOf.1.cls ≠ "java/lang/invoke/MethodHandle" ∧ mX7_priceOf.1.cls ≠ "java/lang/invoke/VarHandle" ∧ (parseMethodDescriptor mX7_priceOf.1.desc).map (fun d => d.parameters.length) = some 1) ∧ mX7_priceOf.2.2.1 ≤ 20 := ⟨by decide +kernel, g718, g9, by decide +kernel, by decide⟩
theorem g716 : Cond.instanceMethod ({ cls := "ShownPatterns$Showings", name := "priceOf", desc := "(I)I" } : MethodName) ∈ q_gw := q_tables_1_3 (i := 236) rfl rfl
theorem g717 : Cond.selects "ShownPatterns$Showings" ({ cls := "ShownPatterns$Showings", name := "priceOf", desc := "(I)I" } : MethodName) ({ cls := "ShownPatterns$Showings", name := "priceOf", desc := "(I)I" } : MethodName) ∈ q_gw := q_tables_1_3 (i := 237) rfl rfl
theorem g741 : Cond.methodLink "ShownPatterns$Meanings" (3 : Nat) ({ cls := "java/lang/Object", name := "<init>", desc := "()V" } : MethodName) ∈ q_gw := q_tables_1_4 (i := 21) rfl rfl
theorem g742 : Cond.fieldLink "ShownPatterns$Meanings" (11 : Nat) "ShownPatterns$Meanings" "kept" "[I" ∈ q_gw := q_tables_1_4 (i := 22) rfl rfl
theorem g743 : Cond.fieldLink "ShownPatterns$Meanings" (15 : Nat) "ShownPatterns$Meanings" "slots" "[I" ∈ q_gw := q_tables_1_4 (i := 23) rfl rfl
theorem g744 : Cond.fieldLink "ShownPatterns$Meanings" (18 : Nat) "ShownPatterns$Meanings" "made" "[I" ∈ q_gw := q_tables_1_4 (i := 24) rfl rfl
theorem g745 : Cond.fieldLink "ShownPatterns$Meanings" (21 : Nat) "ShownPatterns$Meanings" "ahead" "[I" ∈ q_gw := q_tables_1_4 (i := 25) rfl rfl
theorem g746 : Cond.fieldLink "ShownPatterns$Meanings" (24 : Nat) "ShownPatterns$Meanings" "behind" "[I" ∈ q_gw := q_tables_1_4 (i := 26) rfl rfl
theorem g747 : Cond.fieldLink "ShownPatterns$Meanings" (27 : Nat) "ShownPatterns$Meanings" "size" "I" ∈ q_gw := q_tables_1_4 (i := 27) rfl rfl
theorem g779 : Cond.methodLink "ShownPatterns$Meanings" (31 : Nat) ({ cls := "ShownPatterns$Meanings", name := "wordOf", desc := "(II)I" } : MethodName) ∈ q_gw := q_tables_1_4 (i := 59) rfl rfl
theorem g782 : Cond.code ({ cls := "ShownPatterns$Meanings", name := "wordOf", desc := "(II)I" } : MethodName) prog_5_method_4_code (4 : Nat) (Option.some FieldType.int) ∈ q_gw := q_tables_1_4 (i := 62) rfl rfl
theorem kX3_wordOf : plainName mX3_wordOf.1.cls = true ∧ Cond.code mX3_wordOf.1 mX3_wordOf.2.1 mX3_wordOf.2.2.1 mX3_wordOf.2.2.2 ∈ q_gw ∧ Cond.initialized mX3_wordOf.1.cls ∈ q_gw ∧ (mX3_wordOf.1.cls ≠ "java/lang/invoke/MethodHandle" ∧ mX3_wordOf.1.cls ≠ "java/lang/invoke/VarHandle" ∧ (parseMethodDescriptor mX3_wordOf.1.desc).map (fun d => d.parameters.length) = some 2) ∧ mX3_wordOf.2.2.1 ≤ 20 := ⟨by decide +kernel, g782, g15, by decide +kernel, by decide⟩
theorem g781 : Cond.instanceMethod ({ cls := "ShownPatterns$Meanings", name := "wordOf", desc := "(II)I" } : MethodName) ∈ q_gw := q_tables_1_4 (i := 61) rfl rfl
theorem gs33 : Cond.selects "ShownPatterns$Meanings" ((⟨"ShownPatterns$Meanings", "wordOf", "(II)I"⟩ : MethodName)) (⟨"ShownPatterns$Meanings", "wordOf", "(II)I"⟩) ∈ q_gw := q_inS (i := 33) rfl rfl
theorem g774 : Cond.methodLink "ShownPatterns$Meanings" (35 : Nat) ({ cls := "java/util/Arrays", name := "fill", desc := "([II)V" } : MethodName) ∈ q_gw := q_tables_1_4 (i := 54) rfl rfl
theorem g775 : Cond.methodLink "ShownPatterns$Meanings" (41 : Nat) ({ cls := "ShownPatterns$Meanings", name := "load", desc := "(I[I)V" } : MethodName) ∈ q_gw := q_tables_1_4 (i := 55) rfl rfl
theorem g778 : Cond.code ({ cls := "ShownPatterns$Meanings", name := "load", desc := "(I[I)V" } : MethodName) prog_5_method_6_code (4 : Nat) (Option.none : Option FieldType) ∈ q_gw := q_tables_1_4 (i := 58) rfl rfl
theorem kX3_load : plainName mX3_load.1.cls = true ∧ Cond.code mX3_load.1 mX3_load.2.1 mX3_load.2.2.1 mX3_load.2.2.2 ∈ q_gw ∧ Cond.initialized mX3_load.1.cls ∈ q_gw ∧ (mX3_load.1.cls ≠ "java/lang/invoke/MethodHandle" ∧ mX3_load.1.cls ≠ "java/lang/invoke/VarHandle" ∧ (parseMethodDescriptor mX3_load.1.desc).map (fun d => d.parameters.length) = some 2) ∧ mX3_load.2.2.1 ≤ 20 := ⟨by decide +kernel, g778, g15, by decide +kernel, by decide⟩
theorem g777 : Cond.instanceMethod ({ cls := "ShownPatterns$Meanings", name := "load", desc := "(I[I)V" } : MethodName) ∈ q_gw := q_tables_1_4 (i := 57) rfl rfl
theorem gs32 : Cond.selects "ShownPatterns$Meanings" ((⟨"ShownPatterns$Meanings", "load", "(I[I)V"⟩ : MethodName)) (⟨"ShownPatterns$Meanings", "load", "(I[I)V"⟩) ∈ q_gw := q_inS (i := 32) rfl rfl
theorem g783 : Cond.methodLink "ShownPatterns$Meanings" (45 : Nat) ({ cls := "ShownPatterns$Meanings", name := "addJoined", desc := "()V" } : MethodName) ∈ q_gw := q_tables_1_4 (i := 63) rfl rfl
theorem g786 : Cond.code ({ cls := "ShownPatterns$Meanings", name := "addJoined", desc := "()V" } : MethodName) prog_5_method_9_code (4 : Nat) (Option.none : Option FieldType) ∈ q_gw := q_tables_1_4 (i := 66) rfl rfl
theorem kX3_addJoined : plainName mX3_addJoined.1.cls = true ∧ Cond.code mX3_addJoined.1 mX3_addJoined.2.1 mX3_addJoined.2.2.1 mX3_addJoined.2.2.2 ∈ q_gw ∧ Cond.initialized mX3_addJoined.1.cls ∈ q_gw ∧ (mX3_addJoined.1.cls ≠ "java/lang/invoke/MethodHandle" ∧ mX3_addJoined.1.cls ≠ "java/lang/invoke/VarHandle" ∧ (parseMethodDescriptor mX3_addJoined.1.desc).map (fun d => d.parameters.length) = some 0) ∧ mX3_addJoined.2.2.1 ≤ 20 := ⟨by decide +kernel, g786, g15, by decide +kernel, by decide⟩
theorem g785 : Cond.instanceMethod ({ cls := "ShownPatterns$Meanings", name := "addJoined", desc := "()V" } : MethodName) ∈ q_gw := q_tables_1_4 (i := 65) rfl rfl
theorem gs34 : Cond.selects "ShownPatterns$Meanings" ((⟨"ShownPatterns$Meanings", "addJoined", "()V"⟩ : MethodName)) (⟨"ShownPatterns$Meanings", "addJoined", "()V"⟩) ∈ q_gw := q_inS (i := 34) rfl rfl
theorem g787 : Cond.methodLink "ShownPatterns$Meanings" (48 : Nat) ({ cls := "ShownPatterns$Meanings", name := "addAll", desc := "([I[I)V" } : MethodName) ∈ q_gw := q_tables_1_4 (i := 67) rfl rfl
theorem g789 : Cond.code ({ cls := "ShownPatterns$Meanings", name := "addAll", desc := "([I[I)V" } : MethodName) prog_5_method_7_code (3 : Nat) (Option.none : Option FieldType) ∈ q_gw := q_tables_1_4 (i := 69) rfl rfl
theorem kX3_addAll : plainName mX3_addAll.1.cls = true ∧ Cond.code mX3_addAll.1 mX3_addAll.2.1 mX3_addAll.2.2.1 mX3_addAll.2.2.2 ∈ q_gw ∧ Cond.initialized mX3_addAll.1.cls ∈ q_gw ∧ (mX3_addAll.1.cls ≠ "java/lang/invoke/MethodHandle" ∧ mX3_addAll.1.cls ≠ "java/lang/invoke/VarHandle" ∧ (parseMethodDescriptor mX3_addAll.1.desc).map (fun d => d.parameters.length) = some 2) ∧ mX3_addAll.2.2.1 ≤ 20 := ⟨by decide +kernel, g789, g15, by decide +kernel, by decide⟩
theorem g788 : Cond.static ({ cls := "ShownPatterns$Meanings", name := "addAll", desc := "([I[I)V" } : MethodName) ∈ q_gw := q_tables_1_4 (i := 68) rfl rfl
theorem g790 : Cond.methodLink "ShownPatterns$Meanings" (52 : Nat) ({ cls := "ShownPatterns$Meanings", name := "repeat", desc := "()V" } : MethodName) ∈ q_gw := q_tables_1_4 (i := 70) rfl rfl
theorem g793 : Cond.code ({ cls := "ShownPatterns$Meanings", name := "repeat", desc := "()V" } : MethodName) prog_5_method_8_code (2 : Nat) (Option.none : Option FieldType) ∈ q_gw := q_tables_1_4 (i := 73) rfl rfl
theorem kX3_repeat : plainName mX3_repeat.1.cls = true ∧ Cond.code mX3_repeat.1 mX3_repeat.2.1 mX3_repeat.2.2.1 mX3_repeat.2.2.2 ∈ q_gw ∧ Cond.initialized mX3_repeat.1.cls ∈ q_gw ∧ (mX3_repeat.1.cls ≠ "java/lang/invoke/MethodHandle" ∧ mX3_repeat.1.cls ≠ "java/lang/invoke/VarHandle" ∧ (parseMethodDescriptor mX3_repeat.1.desc).map (fun d => d.parameters.length) = some 0) ∧ mX3_repeat.2.2.1 ≤ 20 := ⟨by decide +kernel, g793, g15, by decide +kernel, by decide⟩
theorem g792 : Cond.instanceMethod ({ cls := "ShownPatterns$Meanings", name := "repeat", desc := "()V" } : MethodName) ∈ q_gw := q_tables_1_4 (i := 72) rfl rfl
theorem gs35 : Cond.selects "ShownPatterns$Meanings" ((⟨"ShownPatterns$Meanings", "repeat", "()V"⟩ : MethodName)) (⟨"ShownPatterns$Meanings", "repeat", "()V"⟩) ∈ q_gw := q_inS (i := 35) rfl rfl
theorem g797 : Cond.methodLink "ShownPatterns$Meanings" (55 : Nat) ({ cls := "ShownPatterns$Meanings", name := "keep", desc := "()I" } : MethodName) ∈ q_gw := q_tables_1_4 (i := 77) rfl rfl
theorem g800 : Cond.code ({ cls := "ShownPatterns$Meanings", name := "keep", desc := "()I" } : MethodName) prog_5_method_10_code (4 : Nat) (Option.some FieldType.int) ∈ q_gw := q_tables_1_4 (i := 80) rfl rfl
theorem kX3_keep : plainName mX3_keep.1.cls = true ∧ Cond.code mX3_keep.1 mX3_keep.2.1 mX3_keep.2.2.1 mX3_keep.2.2.2 ∈ q_gw ∧ Cond.initialized mX3_keep.1.cls ∈ q_gw ∧ (mX3_keep.1.cls ≠ "java/lang/invoke/MethodHandle" ∧ mX3_keep.1.cls ≠ "java/lang/invoke/VarHandle" ∧ (parseMethodDescriptor mX3_keep.1.desc).map (fun d => d.parameters.length) = some 0) ∧ mX3_keep.2.2.1 ≤ 20 := ⟨by decide +kernel, g800, g15, by decide +kernel, by decide⟩
theorem g799 : Cond.instanceMethod ({ cls := "ShownPatterns$Meanings", name := "keep", desc := "()I" } : MethodName) ∈ q_gw := q_tables_1_4 (i := 79) rfl rfl
theorem gs36 : Cond.selects "ShownPatterns$Meanings" ((⟨"ShownPatterns$Meanings", "keep", "()I"⟩ : MethodName)) (⟨"ShownPatterns$Meanings", "keep", "()I"⟩) ∈ q_gw := q_inS (i := 36) rfl rfl
theorem g794 : Cond.methodLink "ShownPatterns$Meanings" (59 : Nat) ({ cls := "java/lang/System", name := "arraycopy", desc := "(Ljava/lang/Object;ILjava/lang/Object;II)V" } : MethodName) ∈ q_gw := q_tables_1_4 (i := 74) rfl rfl
theorem g796 : Cond.native ({ cls := "java/lang/System", name := "arraycopy", desc := "(Ljava/lang/Object;ILjava/lang/Object;II)V" } : MethodName) ∈ q_gw := q_tables_1_4 (i := 76) rfl rfl
theorem g795 : Cond.static ({ cls := "java/lang/System", name := "arraycopy", desc := "(Ljava/lang/Object;ILjava/lang/Object;II)V" } : MethodName) ∈ q_gw := q_tables_1_4 (i := 75) rfl rfl
theorem g16 : Cond.initialized "java/lang/System" ∈ q_gw := q_tables_1_1 (i := 16) rfl rfl
theorem g801 : Cond.constant "ShownPatterns$Meanings" (65 : Nat) (625341585 : Int32) ∈ q_gw := q_tables_1_4 (i := 81) rfl rfl
theorem g802 : Cond.methodLink "ShownPatterns$Meanings" (66 : Nat) ({ cls := "ShownPatterns$Meanings", name := "keepNew", desc := "()I" } : MethodName) ∈ q_gw := q_tables_1_4 (i := 82) rfl rfl
theorem g805 : Cond.code ({ cls := "ShownPatterns$Meanings", name := "keepNew", desc := "()I" } : MethodName) prog_5_method_12_code (1 : Nat) (Option.some FieldType.int) ∈ q_gw := q_tables_1_4 (i := 85) rfl rfl
theorem kX3_keepNew : plainName mX3_keepNew.1.cls = true ∧ Cond.code mX3_keepNew.1 mX3_keepNew.2.1 mX3_keepNew.2.2.1 mX3_keepNew.2.2.2 ∈ q_gw ∧ Cond.initialized mX3_keepNew.1.cls ∈ q_gw ∧ (mX3_keepNew.1.cls ≠ "java/lang/invoke/MethodHandle" ∧ mX3_keepNew.1.cls ≠ "java/lang/invoke/VarHandle" ∧ (parseMethodDescriptor mX3_keepNew.1.desc).map (fun d => d.parameters.length) = some 0) ∧ mX3_keepNew.2.2.1 ≤ 20 := ⟨by decide +kernel, g805, g15, by decide +kernel, by decide⟩
theorem g804 : Cond.instanceMethod ({ cls := "ShownPatterns$Meanings", name := "keepNew", desc := "()I" } : MethodName) ∈ q_gw := q_tables_1_4 (i := 84) rfl rfl
theorem gs37 : Cond.selects "ShownPatterns$Meanings" ((⟨"ShownPatterns$Meanings", "keepNew", "()I"⟩ : MethodName)) (⟨"ShownPatterns$Meanings", "keepNew", "()I"⟩) ∈ q_gw := q_inS (i := 37) rfl rfl
theorem g806 : Cond.methodLink "ShownPatterns$Meanings" (69 : Nat) ({ cls := "ShownPatterns$Meanings", name := "isMade", desc := "(I)Z" } : MethodName) ∈ q_gw := q_tables_1_4 (i := 86) rfl rfl
theorem g809 : Cond.code ({ cls := "ShownPatterns$Meanings", name := "isMade", desc := "(I)Z" } : MethodName) prog_5_method_11_code (3 : Nat) (Option.some FieldType.boolean) ∈ q_gw := q_tables_1_4 (i := 89) rfl rfl
theorem kX3_isMade : plainName mX3_isMade.1.cls = true ∧ Cond.code mX3_isMade.1 mX3_isMade.2.1 mX3_isMade.2.2.1 mX3_isMade.2.2.2 ∈ q_gw ∧ Cond.initialized mX3_isMade.1.cls ∈ q_gw ∧ (mX3_isMade.1.cls ≠ "java/lang/invoke/MethodHandle" ∧ mX3_isMade.1.cls ≠ "java/lang/invoke/VarHandle" ∧ (parseMethodDescriptor mX3_isMade.1.desc).map (fun d => d.parameters.length) = some 1) ∧ mX3_isMade.2.2.1 ≤ 20 := ⟨by decide +kernel, g809, g15, by decide +kernel, by decide⟩
theorem g808 : Cond.instanceMethod ({ cls := "ShownPatterns$Meanings", name := "isMade", desc := "(I)Z" } : MethodName) ∈ q_gw := q_tables_1_4 (i := 88) rfl rfl
theorem gs38 : Cond.selects "ShownPatterns$Meanings" ((⟨"ShownPatterns$Meanings", "isMade", "(I)Z"⟩ : MethodName)) (⟨"ShownPatterns$Meanings", "isMade", "(I)Z"⟩) ∈ q_gw := q_inS (i := 38) rfl rfl
theorem g39 : Cond.methodLink "ShownPatterns$Nodes" (3 : Nat) ({ cls := "java/lang/Object", name := "<init>", desc := "()V" } : MethodName) ∈ q_gw := q_tables_1_1 (i := 39) rfl rfl
theorem g40 : Cond.methodLink "ShownPatterns$Nodes" (9 : Nat) ({ cls := "java/lang/Math", name := "max", desc := "(II)I" } : MethodName) ∈ q_gw := q_tables_1_1 (i := 40) rfl rfl
theorem g43 : Cond.fieldLink "ShownPatterns$Nodes" (15 : Nat) "ShownPatterns$Nodes" "kind" "[I" ∈ q_gw := q_tables_1_1 (i := 43) rfl rfl
theorem g44 : Cond.fieldLink "ShownPatterns$Nodes" (21 : Nat) "ShownPatterns$Nodes" "left" "[I" ∈ q_gw := q_tables_1_1 (i := 44) rfl rfl
theorem g45 : Cond.fieldLink "ShownPatterns$Nodes" (24 : Nat) "ShownPatterns$Nodes" "right" "[I" ∈ q_gw := q_tables_1_1 (i := 45) rfl rfl
theorem g46 : Cond.fieldLink "ShownPatterns$Nodes" (27 : Nat) "ShownPatterns$Nodes" "size" "I" ∈ q_gw := q_tables_1_1 (i := 46) rfl rfl
theorem gn334 : Cond.methodLinkNest "ShownPatterns$Nodes" (31 : Nat) ({ cls := "ShownPatterns", name := "ownCost", desc := "(I)I" } : MethodName) "ShownPatterns" ∈ lw_tbl := q_ntables_1_2 (i := 94) rfl
theorem g314 : Cond.methodLink "ShownPatterns$Nodes" (35 : Nat) ({ cls := "ShownPatterns$Nodes", name := "copy", desc := "(LShownPatterns$Nodes;ILShownPatterns$Nodes;I)I" } : MethodName) ∈ q_gw := q_tables_1_2 (i := 74) rfl rfl
theorem g316 : Cond.code ({ cls := "ShownPatterns$Nodes", name := "copy", desc := "(LShownPatterns$Nodes;ILShownPatterns$Nodes;I)I" } : MethodName) prog_6_method_11_code (7 : Nat) (Option.some FieldType.int) ∈ q_gw := q_tables_1_2 (i := 76) rfl rfl
theorem kX4_copy : plainName mX4_copy.1.cls = true ∧ Cond.code mX4_copy.1 mX4_copy.2.1 mX4_copy.2.2.1 mX4_copy.2.2.2 ∈ q_gw ∧ Cond.initialized mX4_copy.1.cls ∈ q_gw ∧ (mX4_copy.1.cls ≠ "java/lang/invoke/MethodHandle" ∧ mX4_copy.1.cls ≠ "java/lang/invoke/VarHandle" ∧ (parseMethodDescriptor mX4_copy.1.desc).map (fun d => d.parameters.length) = some 4) ∧ mX4_copy.2.2.1 ≤ 20 := ⟨by decide +kernel, g316, g3, by decide +kernel, by decide⟩
theorem g315 : Cond.static ({ cls := "ShownPatterns$Nodes", name := "copy", desc := "(LShownPatterns$Nodes;ILShownPatterns$Nodes;I)I" } : MethodName) ∈ q_gw := q_tables_1_2 (i := 75) rfl rfl
theorem g317 : Cond.methodLink "ShownPatterns$Nodes" (39 : Nat) ({ cls := "ShownPatterns$Nodes", name := "kindOf", desc := "(I)I" } : MethodName) ∈ q_gw := q_tables_1_2 (i := 77) rfl rfl
theorem gn318 : Cond.methodLinkNest "ShownPatterns$Nodes" (42 : Nat) ({ cls := "ShownPatterns", name := "isLeaf", desc := "(I)Z" } : MethodName) "ShownPatterns" ∈ lw_tbl := q_ntables_1_2 (i := 78) rfl
theorem g321 : Cond.methodLink "ShownPatterns$Nodes" (46 : Nat) ({ cls := "ShownPatterns$Nodes", name := "leftOf", desc := "(I)I" } : MethodName) ∈ q_gw := q_tables_1_2 (i := 81) rfl rfl
theorem g325 : Cond.methodLink "ShownPatterns$Nodes" (49 : Nat) ({ cls := "ShownPatterns$Nodes", name := "add", desc := "(III)I" } : MethodName) ∈ q_gw := q_tables_1_2 (i := 85) rfl rfl
theorem gn326 : Cond.methodLinkNest "ShownPatterns$Nodes" (53 : Nat) ({ cls := "ShownPatterns", name := "hasTwoParts", desc := "(I)Z" } : MethodName) "ShownPatterns" ∈ lw_tbl := q_ntables_1_2 (i := 86) rfl
theorem g329 : Cond.methodLink "ShownPatterns$Nodes" (56 : Nat) ({ cls := "ShownPatterns$Nodes", name := "rightOf", desc := "(I)I" } : MethodName) ∈ q_gw := q_tables_1_2 (i := 89) rfl rfl
theorem g578 : Cond.methodLink "ShownPatterns$Pairs" (3 : Nat) ({ cls := "java/lang/Object", name := "<init>", desc := "()V" } : MethodName) ∈ q_gw := q_tables_1_3 (i := 98) rfl rfl
theorem g579 : Cond.fieldLink "ShownPatterns$Pairs" (9 : Nat) "ShownPatterns$Pairs" "rows" "[I" ∈ q_gw := q_tables_1_3 (i := 99) rfl rfl
theorem g580 : Cond.fieldLink "ShownPatterns$Pairs" (15 : Nat) "ShownPatterns$Pairs" "queue" "[I" ∈ q_gw := q_tables_1_3 (i := 100) rfl rfl
theorem g593 : Cond.methodLink "ShownPatterns$Pairs" (18 : Nat) ({ cls := "java/util/Arrays", name := "fill", desc := "([II)V" } : MethodName) ∈ q_gw := q_tables_1_3 (i := 113) rfl rfl
theorem g581 : Cond.fieldLink "ShownPatterns$Pairs" (24 : Nat) "ShownPatterns$Pairs" "waiting" "I" ∈ q_gw := q_tables_1_3 (i := 101) rfl rfl
theorem g594 : Cond.methodLink "ShownPatterns$Pairs" (28 : Nat) ({ cls := "ShownPatterns$Pairs", name := "reach", desc := "(II)V" } : MethodName) ∈ q_gw := q_tables_1_3 (i := 114) rfl rfl
theorem g597 : Cond.code ({ cls := "ShownPatterns$Pairs", name := "reach", desc := "(II)V" } : MethodName) prog_7_method_4_code (3 : Nat) (Option.none : Option FieldType) ∈ q_gw := q_tables_1_3 (i := 117) rfl rfl
theorem g13 : Cond.initialized "ShownPatterns$Pairs" ∈ q_gw := q_tables_1_1 (i := 13) rfl rfl
theorem kX5_reach : plainName mX5_reach.1.cls = true ∧ Cond.code mX5_reach.1 mX5_reach.2.1 mX5_reach.2.2.1 mX5_reach.2.2.2 ∈ q_gw ∧ Cond.initialized mX5_reach.1.cls ∈ q_gw ∧ (mX5_reach.1.cls ≠ "java/lang/invoke/MethodHandle" ∧ mX5_reach.1.cls ≠ "java/lang/invoke/VarHandle" ∧ (parseMethodDescriptor mX5_reach.1.desc).map (fun d => d.parameters.length) = some 2) ∧ mX5_reach.2.2.1 ≤ 20 := ⟨by decide +kernel, g597, g13, by decide +kernel, by decide⟩
theorem g596 : Cond.instanceMethod ({ cls := "ShownPatterns$Pairs", name := "reach", desc := "(II)V" } : MethodName) ∈ q_gw := q_tables_1_3 (i := 116) rfl rfl
theorem gs26 : Cond.selects "ShownPatterns$Pairs" ((⟨"ShownPatterns$Pairs", "reach", "(II)V"⟩ : MethodName)) (⟨"ShownPatterns$Pairs", "reach", "(II)V"⟩) ∈ q_gw := q_inS (i := 26) rfl rfl
theorem g598 : Cond.methodLink "ShownPatterns$Pairs" (32 : Nat) ({ cls := "ShownPatterns$Pairs", name := "rowTo", desc := "(I)I" } : MethodName) ∈ q_gw := q_tables_1_3 (i := 118) rfl rfl
theorem g601 : Cond.code ({ cls := "ShownPatterns$Pairs", name := "rowTo", desc := "(I)I" } : MethodName) prog_7_method_3_code (2 : Nat) (Option.some FieldType.int) ∈ q_gw := q_tables_1_3 (i := 121) rfl rfl
theorem kX5_rowTo : plainName mX5_rowTo.1.cls = true ∧ Cond.code mX5_rowTo.1 mX5_rowTo.2.1 mX5_rowTo.2.2.1 mX5_rowTo.2.2.2 ∈ q_gw ∧ Cond.initialized mX5_rowTo.1.cls ∈ q_gw ∧ (mX5_rowTo.1.cls ≠ "java/lang/invoke/MethodHandle" ∧ mX5_rowTo.1.cls ≠ "java/lang/invoke/VarHandle" ∧ (parseMethodDescriptor mX5_rowTo.1.desc).map (fun d => d.parameters.length) = some 1) ∧ mX5_rowTo.2.2.1 ≤ 20 := ⟨by decide +kernel, g601, g13, by decide +kernel, by decide⟩
theorem g600 : Cond.instanceMethod ({ cls := "ShownPatterns$Pairs", name := "rowTo", desc := "(I)I" } : MethodName) ∈ q_gw := q_tables_1_3 (i := 120) rfl rfl
theorem gs27 : Cond.selects "ShownPatterns$Pairs" ((⟨"ShownPatterns$Pairs", "rowTo", "(I)I"⟩ : MethodName)) (⟨"ShownPatterns$Pairs", "rowTo", "(I)I"⟩) ∈ q_gw := q_inS (i := 27) rfl rfl
theorem g602 : Cond.methodLink "ShownPatterns$Pairs" (36 : Nat) ({ cls := "ShownPatterns$Automaton", name := "endsAt", desc := "(I)Z" } : MethodName) ∈ q_gw := q_tables_1_3 (i := 122) rfl rfl
theorem g603 : Cond.methodLink "ShownPatterns$Pairs" (42 : Nat) ({ cls := "ShownPatterns$Automaton", name := "after", desc := "(II)I" } : MethodName) ∈ q_gw := q_tables_1_3 (i := 123) rfl rfl
theorem g604 : Cond.methodLink "ShownPatterns$Pairs" (46 : Nat) ({ cls := "ShownPatterns$Pairs", name := "longer", desc := "(II)I" } : MethodName) ∈ q_gw := q_tables_1_3 (i := 124) rfl rfl
theorem g606 : Cond.code ({ cls := "ShownPatterns$Pairs", name := "longer", desc := "(II)I" } : MethodName) prog_7_method_5_code (2 : Nat) (Option.some FieldType.int) ∈ q_gw := q_tables_1_3 (i := 126) rfl rfl
theorem kX5_longer : plainName mX5_longer.1.cls = true ∧ Cond.code mX5_longer.1 mX5_longer.2.1 mX5_longer.2.2.1 mX5_longer.2.2.2 ∈ q_gw ∧ Cond.initialized mX5_longer.1.cls ∈ q_gw ∧ (mX5_longer.1.cls ≠ "java/lang/invoke/MethodHandle" ∧ mX5_longer.1.cls ≠ "java/lang/invoke/VarHandle" ∧ (parseMethodDescriptor mX5_longer.1.desc).map (fun d => d.parameters.length) = some 2) ∧ mX5_longer.2.2.1 ≤ 20 := ⟨by decide +kernel, g606, g13, by decide +kernel, by decide⟩
theorem g605 : Cond.static ({ cls := "ShownPatterns$Pairs", name := "longer", desc := "(II)I" } : MethodName) ∈ q_gw := q_tables_1_3 (i := 125) rfl rfl
theorem gn607 : Cond.fieldLinkNest "ShownPatterns$Pairs" (49 : Nat) "ShownPatterns" "POWERS" "[I" "ShownPatterns" ∈ lw_tbl := q_ntables_1_3 (i := 127) rfl
theorem g33 : Cond.methodLink "ShownPatterns$Reader" (3 : Nat) ({ cls := "java/lang/Object", name := "<init>", desc := "()V" } : MethodName) ∈ q_gw := q_tables_1_1 (i := 33) rfl rfl
theorem g57 : Cond.fieldLink "ShownPatterns$Reader" (9 : Nat) "ShownPatterns$Reader" "bytes" "[I" ∈ q_gw := q_tables_1_1 (i := 57) rfl rfl
theorem g34 : Cond.classLink "ShownPatterns$Reader" (15 : Nat) "ShownPatterns$Nodes" ∈ q_gw := q_tables_1_1 (i := 34) rfl rfl
theorem g36 : Cond.methodLink "ShownPatterns$Reader" (17 : Nat) ({ cls := "ShownPatterns$Nodes", name := "<init>", desc := "(I)V" } : MethodName) ∈ q_gw := q_tables_1_1 (i := 36) rfl rfl
theorem g59 : Cond.fieldLink "ShownPatterns$Reader" (20 : Nat) "ShownPatterns$Reader" "nodes" "LShownPatterns$Nodes;" ∈ q_gw := q_tables_1_1 (i := 59) rfl rfl
theorem g60 : Cond.fieldLink "ShownPatterns$Reader" (24 : Nat) "ShownPatterns$Reader" "pile" "[I" ∈ q_gw := q_tables_1_1 (i := 60) rfl rfl
theorem g58 : Cond.fieldLink "ShownPatterns$Reader" (27 : Nat) "ShownPatterns$Reader" "length" "I" ∈ q_gw := q_tables_1_1 (i := 58) rfl rfl
theorem g62 : Cond.fieldLink "ShownPatterns$Reader" (31 : Nat) "ShownPatterns$Reader" "at" "I" ∈ q_gw := q_tables_1_1 (i := 62) rfl rfl
theorem g220 : Cond.methodLink "ShownPatterns$Reader" (34 : Nat) ({ cls := "ShownPatterns$Reader", name := "put", desc := "(I)V" } : MethodName) ∈ q_gw := q_tables_1_1 (i := 220) rfl rfl
theorem g223 : Cond.code ({ cls := "ShownPatterns$Reader", name := "put", desc := "(I)V" } : MethodName) prog_8_method_6_code (2 : Nat) (Option.none : Option FieldType) ∈ q_gw := q_tables_1_1 (i := 223) rfl rfl
theorem g2 : Cond.initialized "ShownPatterns$Reader" ∈ q_gw := q_tables_1_1 (i := 2) rfl rfl
theorem kX6_put : plainName mX6_put.1.cls = true ∧ Cond.code mX6_put.1 mX6_put.2.1 mX6_put.2.2.1 mX6_put.2.2.2 ∈ q_gw ∧ Cond.initialized mX6_put.1.cls ∈ q_gw ∧ (mX6_put.1.cls ≠ "java/lang/invoke/MethodHandle" ∧ mX6_put.1.cls ≠ "java/lang/invoke/VarHandle" ∧ (parseMethodDescriptor mX6_put.1.desc).map (fun d => d.parameters.length) = some 1) ∧ mX6_put.2.2.1 ≤ 20 := ⟨by decide +kernel, g223, g2, by decide +kernel, by decide⟩
theorem g222 : Cond.instanceMethod ({ cls := "ShownPatterns$Reader", name := "put", desc := "(I)V" } : MethodName) ∈ q_gw := q_tables_1_1 (i := 222) rfl rfl
theorem gs0 : Cond.selects "ShownPatterns$Reader" ((⟨"ShownPatterns$Reader", "put", "(I)V"⟩ : MethodName)) (⟨"ShownPatterns$Reader", "put", "(I)V"⟩) ∈ q_gw := q_inS (i := 0) rfl rfl
theorem g236 : Cond.methodLink "ShownPatterns$Reader" (37 : Nat) ({ cls := "ShownPatterns$Nodes", name := "clear", desc := "()V" } : MethodName) ∈ q_gw := q_tables_1_1 (i := 236) rfl rfl
theorem g239 : Cond.code ({ cls := "ShownPatterns$Nodes", name := "clear", desc := "()V" } : MethodName) prog_6_method_3_code (1 : Nat) (Option.none : Option FieldType) ∈ q_gw := q_tables_1_1 (i := 239) rfl rfl
theorem kX4_clear : plainName mX4_clear.1.cls = true ∧ Cond.code mX4_clear.1 mX4_clear.2.1 mX4_clear.2.2.1 mX4_clear.2.2.2 ∈ q_gw ∧ Cond.initialized mX4_clear.1.cls ∈ q_gw ∧ (mX4_clear.1.cls ≠ "java/lang/invoke/MethodHandle" ∧ mX4_clear.1.cls ≠ "java/lang/invoke/VarHandle" ∧ (parseMethodDescriptor mX4_clear.1.desc).map (fun d => d.parameters.length) = some 0) ∧ mX4_clear.2.2.1 ≤ 20 := ⟨by decide +kernel, g239, g3, by decide +kernel, by decide⟩
theorem g237 : Cond.instanceMethod ({ cls := "ShownPatterns$Nodes", name := "clear", desc := "()V" } : MethodName) ∈ q_gw := q_tables_1_1 (i := 237) rfl rfl
theorem g238 : Cond.selects "ShownPatterns$Nodes" ({ cls := "ShownPatterns$Nodes", name := "clear", desc := "()V" } : MethodName) ({ cls := "ShownPatterns$Nodes", name := "clear", desc := "()V" } : MethodName) ∈ q_gw := q_tables_1_1 (i := 238) rfl rfl
theorem g61 : Cond.fieldLink "ShownPatterns$Reader" (40 : Nat) "ShownPatterns$Reader" "height" "I" ∈ q_gw := q_tables_1_1 (i := 61) rfl rfl
theorem g63 : Cond.fieldLink "ShownPatterns$Reader" (43 : Nat) "ShownPatterns$Reader" "end" "I" ∈ q_gw := q_tables_1_1 (i := 63) rfl rfl
theorem g240 : Cond.methodLink "ShownPatterns$Reader" (46 : Nat) ({ cls := "ShownPatterns$Reader", name := "readChoice", desc := "(I)I" } : MethodName) ∈ q_gw := q_tables_1_2 (i := 0) rfl rfl
theorem g243 : Cond.code ({ cls := "ShownPatterns$Reader", name := "readChoice", desc := "(I)I" } : MethodName) prog_8_method_11_code (5 : Nat) (Option.some FieldType.int) ∈ q_gw := q_tables_1_2 (i := 3) rfl rfl
theorem kX6_readChoice : plainName mX6_readChoice.1.cls = true ∧ Cond.code mX6_readChoice.1 mX6_readChoice.2.1 mX6_readChoice.2.2.1 mX6_readChoice.2.2.2 ∈ q_gw ∧ Cond.initialized mX6_readChoice.1.cls ∈ q_gw ∧ (mX6_readChoice.1.cls ≠ "java/lang/invoke/MethodHandle" ∧ mX6_readChoice.1.cls ≠ "java/lang/invoke/VarHandle" ∧ (parseMethodDescriptor mX6_readChoice.1.desc).map (fun d => d.parameters.length) = some 1) ∧ mX6_readChoice.2.2.1 ≤ 20 := ⟨by decide +kernel, g243, g2, by decide +kernel, by decide⟩
theorem g242 : Cond.instanceMethod ({ cls := "ShownPatterns$Reader", name := "readChoice", desc := "(I)I" } : MethodName) ∈ q_gw := q_tables_1_2 (i := 2) rfl rfl
theorem gs2 : Cond.selects "ShownPatterns$Reader" ((⟨"ShownPatterns$Reader", "readChoice", "(I)I"⟩ : MethodName)) (⟨"ShownPatterns$Reader", "readChoice", "(I)I"⟩) ∈ q_gw := q_inS (i := 2) rfl rfl
theorem g244 : Cond.methodLink "ShownPatterns$Reader" (50 : Nat) ({ cls := "ShownPatterns$Reader", name := "readChain", desc := "(I)I" } : MethodName) ∈ q_gw := q_tables_1_2 (i := 4) rfl rfl
theorem g247 : Cond.code ({ cls := "ShownPatterns$Reader", name := "readChain", desc := "(I)I" } : MethodName) prog_8_method_12_code (5 : Nat) (Option.some FieldType.int) ∈ q_gw := q_tables_1_2 (i := 7) rfl rfl
theorem kX6_readChain : plainName mX6_readChain.1.cls = true ∧ Cond.code mX6_readChain.1 mX6_readChain.2.1 mX6_readChain.2.2.1 mX6_readChain.2.2.2 ∈ q_gw ∧ Cond.initialized mX6_readChain.1.cls ∈ q_gw ∧ (mX6_readChain.1.cls ≠ "java/lang/invoke/MethodHandle" ∧ mX6_readChain.1.cls ≠ "java/lang/invoke/VarHandle" ∧ (parseMethodDescriptor mX6_readChain.1.desc).map (fun d => d.parameters.length) = some 1) ∧ mX6_readChain.2.2.1 ≤ 20 := ⟨by decide +kernel, g247, g2, by decide +kernel, by decide⟩
theorem g246 : Cond.instanceMethod ({ cls := "ShownPatterns$Reader", name := "readChain", desc := "(I)I" } : MethodName) ∈ q_gw := q_tables_1_2 (i := 6) rfl rfl
theorem gs3 : Cond.selects "ShownPatterns$Reader" ((⟨"ShownPatterns$Reader", "readChain", "(I)I"⟩ : MethodName)) (⟨"ShownPatterns$Reader", "readChain", "(I)I"⟩) ∈ q_gw := q_inS (i := 3) rfl rfl
theorem g256 : Cond.methodLink "ShownPatterns$Reader" (53 : Nat) ({ cls := "ShownPatterns$Reader", name := "sign", desc := "()I" } : MethodName) ∈ q_gw := q_tables_1_2 (i := 16) rfl rfl
theorem g259 : Cond.code ({ cls := "ShownPatterns$Reader", name := "sign", desc := "()I" } : MethodName) prog_8_method_8_code (1 : Nat) (Option.some FieldType.int) ∈ q_gw := q_tables_1_2 (i := 19) rfl rfl
theorem kX6_sign : plainName mX6_sign.1.cls = true ∧ Cond.code mX6_sign.1 mX6_sign.2.1 mX6_sign.2.2.1 mX6_sign.2.2.2 ∈ q_gw ∧ Cond.initialized mX6_sign.1.cls ∈ q_gw ∧ (mX6_sign.1.cls ≠ "java/lang/invoke/MethodHandle" ∧ mX6_sign.1.cls ≠ "java/lang/invoke/VarHandle" ∧ (parseMethodDescriptor mX6_sign.1.desc).map (fun d => d.parameters.length) = some 0) ∧ mX6_sign.2.2.1 ≤ 20 := ⟨by decide +kernel, g259, g2, by decide +kernel, by decide⟩
theorem g258 : Cond.instanceMethod ({ cls := "ShownPatterns$Reader", name := "sign", desc := "()I" } : MethodName) ∈ q_gw := q_tables_1_2 (i := 18) rfl rfl
theorem gs6 : Cond.selects "ShownPatterns$Reader" ((⟨"ShownPatterns$Reader", "sign", "()I"⟩ : MethodName)) (⟨"ShownPatterns$Reader", "sign", "()I"⟩) ∈ q_gw := q_inS (i := 6) rfl rfl
theorem g274 : Cond.methodLink "ShownPatterns$Reader" (57 : Nat) ({ cls := "ShownPatterns$Reader", name := "push", desc := "(I)V" } : MethodName) ∈ q_gw := q_tables_1_2 (i := 34) rfl rfl
theorem g277 : Cond.code ({ cls := "ShownPatterns$Reader", name := "push", desc := "(I)V" } : MethodName) prog_8_method_9_code (2 : Nat) (Option.none : Option FieldType) ∈ q_gw := q_tables_1_2 (i := 37) rfl rfl
theorem kX6_push : plainName mX6_push.1.cls = true ∧ Cond.code mX6_push.1 mX6_push.2.1 mX6_push.2.2.1 mX6_push.2.2.2 ∈ q_gw ∧ Cond.initialized mX6_push.1.cls ∈ q_gw ∧ (mX6_push.1.cls ≠ "java/lang/invoke/MethodHandle" ∧ mX6_push.1.cls ≠ "java/lang/invoke/VarHandle" ∧ (parseMethodDescriptor mX6_push.1.desc).map (fun d => d.parameters.length) = some 1) ∧ mX6_push.2.2.1 ≤ 20 := ⟨by decide +kernel, g277, g2, by decide +kernel, by decide⟩
theorem g276 : Cond.instanceMethod ({ cls := "ShownPatterns$Reader", name := "push", desc := "(I)V" } : MethodName) ∈ q_gw := q_tables_1_2 (i := 36) rfl rfl
theorem gs8 : Cond.selects "ShownPatterns$Reader" ((⟨"ShownPatterns$Reader", "push", "(I)V"⟩ : MethodName)) (⟨"ShownPatterns$Reader", "push", "(I)V"⟩) ∈ q_gw := q_inS (i := 8) rfl rfl
theorem g278 : Cond.methodLink "ShownPatterns$Reader" (60 : Nat) ({ cls := "ShownPatterns$Reader", name := "pop", desc := "()I" } : MethodName) ∈ q_gw := q_tables_1_2 (i := 38) rfl rfl
theorem g281 : Cond.code ({ cls := "ShownPatterns$Reader", name := "pop", desc := "()I" } : MethodName) prog_8_method_10_code (1 : Nat) (Option.some FieldType.int) ∈ q_gw := q_tables_1_2 (i := 41) rfl rfl
theorem kX6_pop : plainName mX6_pop.1.cls = true ∧ Cond.code mX6_pop.1 mX6_pop.2.1 mX6_pop.2.2.1 mX6_pop.2.2.2 ∈ q_gw ∧ Cond.initialized mX6_pop.1.cls ∈ q_gw ∧ (mX6_pop.1.cls ≠ "java/lang/invoke/MethodHandle" ∧ mX6_pop.1.cls ≠ "java/lang/invoke/VarHandle" ∧ (parseMethodDescriptor mX6_pop.1.desc).map (fun d => d.parameters.length) = some 0) ∧ mX6_pop.2.2.1 ≤ 20 := ⟨by decide +kernel, g281, g2, by decide +kernel, by decide⟩
theorem g280 : Cond.instanceMethod ({ cls := "ShownPatterns$Reader", name := "pop", desc := "()I" } : MethodName) ∈ q_gw := q_tables_1_2 (i := 40) rfl rfl
theorem gs9 : Cond.selects "ShownPatterns$Reader" ((⟨"ShownPatterns$Reader", "pop", "()I"⟩ : MethodName)) (⟨"ShownPatterns$Reader", "pop", "()I"⟩) ∈ q_gw := q_inS (i := 9) rfl rfl
theorem g263 : Cond.methodLink "ShownPatterns$Reader" (63 : Nat) ({ cls := "ShownPatterns$Nodes", name := "add", desc := "(III)I" } : MethodName) ∈ q_gw := q_tables_1_2 (i := 23) rfl rfl
theorem g248 : Cond.methodLink "ShownPatterns$Reader" (67 : Nat) ({ cls := "ShownPatterns$Reader", name := "readRepeats", desc := "(I)I" } : MethodName) ∈ q_gw := q_tables_1_2 (i := 8) rfl rfl
theorem g251 : Cond.code ({ cls := "ShownPatterns$Reader", name := "readRepeats", desc := "(I)I" } : MethodName) prog_8_method_16_code (4 : Nat) (Option.some FieldType.int) ∈ q_gw := q_tables_1_2 (i := 11) rfl rfl
theorem kX6_readRepeats : plainName mX6_readRepeats.1.cls = true ∧ Cond.code mX6_readRepeats.1 mX6_readRepeats.2.1 mX6_readRepeats.2.2.1 mX6_readRepeats.2.2.2 ∈ q_gw ∧ Cond.initialized mX6_readRepeats.1.cls ∈ q_gw ∧ (mX6_readRepeats.1.cls ≠ "java/lang/invoke/MethodHandle" ∧ mX6_readRepeats.1.cls ≠ "java/lang/invoke/VarHandle" ∧ (parseMethodDescriptor mX6_readRepeats.1.desc).map (fun d => d.parameters.length) = some 1) ∧ mX6_readRepeats.2.2.1 ≤ 20 := ⟨by decide +kernel, g251, g2, by decide +kernel, by decide⟩
theorem g250 : Cond.instanceMethod ({ cls := "ShownPatterns$Reader", name := "readRepeats", desc := "(I)I" } : MethodName) ∈ q_gw := q_tables_1_2 (i := 10) rfl rfl
theorem gs4 : Cond.selects "ShownPatterns$Reader" ((⟨"ShownPatterns$Reader", "readRepeats", "(I)I"⟩ : MethodName)) (⟨"ShownPatterns$Reader", "readRepeats", "(I)I"⟩) ∈ q_gw := q_inS (i := 4) rfl rfl
theorem g271 : Cond.methodLink "ShownPatterns$Reader" (70 : Nat) ({ cls := "ShownPatterns$Reader", name := "beginsPart", desc := "(I)Z" } : MethodName) ∈ q_gw := q_tables_1_2 (i := 31) rfl rfl
theorem g273 : Cond.code ({ cls := "ShownPatterns$Reader", name := "beginsPart", desc := "(I)Z" } : MethodName) prog_8_method_13_code (1 : Nat) (Option.some FieldType.boolean) ∈ q_gw := q_tables_1_2 (i := 33) rfl rfl
theorem kX6_beginsPart : plainName mX6_beginsPart.1.cls = true ∧ Cond.code mX6_beginsPart.1 mX6_beginsPart.2.1 mX6_beginsPart.2.2.1 mX6_beginsPart.2.2.2 ∈ q_gw ∧ Cond.initialized mX6_beginsPart.1.cls ∈ q_gw ∧ (mX6_beginsPart.1.cls ≠ "java/lang/invoke/MethodHandle" ∧ mX6_beginsPart.1.cls ≠ "java/lang/invoke/VarHandle" ∧ (parseMethodDescriptor mX6_beginsPart.1.desc).map (fun d => d.parameters.length) = some 1) ∧ mX6_beginsPart.2.2.1 ≤ 20 := ⟨by decide +kernel, g273, g2, by decide +kernel, by decide⟩
theorem g272 : Cond.static ({ cls := "ShownPatterns$Reader", name := "beginsPart", desc := "(I)Z" } : MethodName) ∈ q_gw := q_tables_1_2 (i := 32) rfl rfl
theorem g282 : Cond.methodLink "ShownPatterns$Reader" (74 : Nat) ({ cls := "ShownPatterns$Reader", name := "chain", desc := "(II)I" } : MethodName) ∈ q_gw := q_tables_1_2 (i := 42) rfl rfl
theorem g285 : Cond.code ({ cls := "ShownPatterns$Reader", name := "chain", desc := "(II)I" } : MethodName) prog_8_method_15_code (5 : Nat) (Option.some FieldType.int) ∈ q_gw := q_tables_1_2 (i := 45) rfl rfl
theorem kX6_chain : plainName mX6_chain.1.cls = true ∧ Cond.code mX6_chain.1 mX6_chain.2.1 mX6_chain.2.2.1 mX6_chain.2.2.2 ∈ q_gw ∧ Cond.initialized mX6_chain.1.cls ∈ q_gw ∧ (mX6_chain.1.cls ≠ "java/lang/invoke/MethodHandle" ∧ mX6_chain.1.cls ≠ "java/lang/invoke/VarHandle" ∧ (parseMethodDescriptor mX6_chain.1.desc).map (fun d => d.parameters.length) = some 2) ∧ mX6_chain.2.2.1 ≤ 20 := ⟨by decide +kernel, g285, g2, by decide +kernel, by decide⟩
theorem g284 : Cond.instanceMethod ({ cls := "ShownPatterns$Reader", name := "chain", desc := "(II)I" } : MethodName) ∈ q_gw := q_tables_1_2 (i := 44) rfl rfl
theorem gs10 : Cond.selects "ShownPatterns$Reader" ((⟨"ShownPatterns$Reader", "chain", "(II)I"⟩ : MethodName)) (⟨"ShownPatterns$Reader", "chain", "(II)I"⟩) ∈ q_gw := q_inS (i := 10) rfl rfl
theorem g260 : Cond.methodLink "ShownPatterns$Reader" (78 : Nat) ({ cls := "ShownPatterns$Reader", name := "isLetter", desc := "(I)Z" } : MethodName) ∈ q_gw := q_tables_1_2 (i := 20) rfl rfl
theorem g262 : Cond.code ({ cls := "ShownPatterns$Reader", name := "isLetter", desc := "(I)Z" } : MethodName) prog_8_method_14_code (1 : Nat) (Option.some FieldType.boolean) ∈ q_gw := q_tables_1_2 (i := 22) rfl rfl
theorem kX6_isLetter : plainName mX6_isLetter.1.cls = true ∧ Cond.code mX6_isLetter.1 mX6_isLetter.2.1 mX6_isLetter.2.2.1 mX6_isLetter.2.2.2 ∈ q_gw ∧ Cond.initialized mX6_isLetter.1.cls ∈ q_gw ∧ (mX6_isLetter.1.cls ≠ "java/lang/invoke/MethodHandle" ∧ mX6_isLetter.1.cls ≠ "java/lang/invoke/VarHandle" ∧ (parseMethodDescriptor mX6_isLetter.1.desc).map (fun d => d.parameters.length) = some 1) ∧ mX6_isLetter.2.2.1 ≤ 20 := ⟨by decide +kernel, g262, g2, by decide +kernel, by decide⟩
theorem g261 : Cond.static ({ cls := "ShownPatterns$Reader", name := "isLetter", desc := "(I)Z" } : MethodName) ∈ q_gw := q_tables_1_2 (i := 21) rfl rfl
theorem g286 : Cond.methodLink "ShownPatterns$Reader" (81 : Nat) ({ cls := "ShownPatterns$Nodes", name := "kindOf", desc := "(I)I" } : MethodName) ∈ q_gw := q_tables_1_2 (i := 46) rfl rfl
theorem g290 : Cond.methodLink "ShownPatterns$Reader" (84 : Nat) ({ cls := "ShownPatterns$Nodes", name := "rightOf", desc := "(I)I" } : MethodName) ∈ q_gw := q_tables_1_2 (i := 50) rfl rfl
theorem g294 : Cond.methodLink "ShownPatterns$Reader" (87 : Nat) ({ cls := "ShownPatterns$Nodes", name := "setRight", desc := "(II)V" } : MethodName) ∈ q_gw := q_tables_1_2 (i := 54) rfl rfl
theorem g297 : Cond.code ({ cls := "ShownPatterns$Nodes", name := "setRight", desc := "(II)V" } : MethodName) prog_6_method_8_code (3 : Nat) (Option.none : Option FieldType) ∈ q_gw := q_tables_1_2 (i := 57) rfl rfl
theorem kX4_setRight : plainName mX4_setRight.1.cls = true ∧ Cond.code mX4_setRight.1 mX4_setRight.2.1 mX4_setRight.2.2.1 mX4_setRight.2.2.2 ∈ q_gw ∧ Cond.initialized mX4_setRight.1.cls ∈ q_gw ∧ (mX4_setRight.1.cls ≠ "java/lang/invoke/MethodHandle" ∧ mX4_setRight.1.cls ≠ "java/lang/invoke/VarHandle" ∧ (parseMethodDescriptor mX4_setRight.1.desc).map (fun d => d.parameters.length) = some 2) ∧ mX4_setRight.2.2.1 ≤ 20 := ⟨by decide +kernel, g297, g3, by decide +kernel, by decide⟩
theorem g295 : Cond.instanceMethod ({ cls := "ShownPatterns$Nodes", name := "setRight", desc := "(II)V" } : MethodName) ∈ q_gw := q_tables_1_2 (i := 55) rfl rfl
theorem g296 : Cond.selects "ShownPatterns$Nodes" ({ cls := "ShownPatterns$Nodes", name := "setRight", desc := "(II)V" } : MethodName) ({ cls := "ShownPatterns$Nodes", name := "setRight", desc := "(II)V" } : MethodName) ∈ q_gw := q_tables_1_2 (i := 56) rfl rfl
theorem g252 : Cond.methodLink "ShownPatterns$Reader" (91 : Nat) ({ cls := "ShownPatterns$Reader", name := "readPart", desc := "(I)I" } : MethodName) ∈ q_gw := q_tables_1_2 (i := 12) rfl rfl
theorem g255 : Cond.code ({ cls := "ShownPatterns$Reader", name := "readPart", desc := "(I)I" } : MethodName) prog_8_method_17_code (4 : Nat) (Option.some FieldType.int) ∈ q_gw := q_tables_1_2 (i := 15) rfl rfl
theorem kX6_readPart : plainName mX6_readPart.1.cls = true ∧ Cond.code mX6_readPart.1 mX6_readPart.2.1 mX6_readPart.2.2.1 mX6_readPart.2.2.2 ∈ q_gw ∧ Cond.initialized mX6_readPart.1.cls ∈ q_gw ∧ (mX6_readPart.1.cls ≠ "java/lang/invoke/MethodHandle" ∧ mX6_readPart.1.cls ≠ "java/lang/invoke/VarHandle" ∧ (parseMethodDescriptor mX6_readPart.1.desc).map (fun d => d.parameters.length) = some 1) ∧ mX6_readPart.2.2.1 ≤ 20 := ⟨by decide +kernel, g255, g2, by decide +kernel, by decide⟩
theorem g254 : Cond.instanceMethod ({ cls := "ShownPatterns$Reader", name := "readPart", desc := "(I)I" } : MethodName) ∈ q_gw := q_tables_1_2 (i := 14) rfl rfl
theorem gs5 : Cond.selects "ShownPatterns$Reader" ((⟨"ShownPatterns$Reader", "readPart", "(I)I"⟩ : MethodName)) (⟨"ShownPatterns$Reader", "readPart", "(I)I"⟩) ∈ q_gw := q_inS (i := 5) rfl rfl
theorem g267 : Cond.methodLink "ShownPatterns$Reader" (94 : Nat) ({ cls := "ShownPatterns$Reader", name := "readClass", desc := "()I" } : MethodName) ∈ q_gw := q_tables_1_2 (i := 27) rfl rfl
theorem g270 : Cond.code ({ cls := "ShownPatterns$Reader", name := "readClass", desc := "()I" } : MethodName) prog_8_method_18_code (3 : Nat) (Option.some FieldType.int) ∈ q_gw := q_tables_1_2 (i := 30) rfl rfl
theorem kX6_readClass : plainName mX6_readClass.1.cls = true ∧ Cond.code mX6_readClass.1 mX6_readClass.2.1 mX6_readClass.2.2.1 mX6_readClass.2.2.2 ∈ q_gw ∧ Cond.initialized mX6_readClass.1.cls ∈ q_gw ∧ (mX6_readClass.1.cls ≠ "java/lang/invoke/MethodHandle" ∧ mX6_readClass.1.cls ≠ "java/lang/invoke/VarHandle" ∧ (parseMethodDescriptor mX6_readClass.1.desc).map (fun d => d.parameters.length) = some 0) ∧ mX6_readClass.2.2.1 ≤ 20 := ⟨by decide +kernel, g270, g2, by decide +kernel, by decide⟩
theorem g269 : Cond.instanceMethod ({ cls := "ShownPatterns$Reader", name := "readClass", desc := "()I" } : MethodName) ∈ q_gw := q_tables_1_2 (i := 29) rfl rfl
theorem gs7 : Cond.selects "ShownPatterns$Reader" ((⟨"ShownPatterns$Reader", "readClass", "()I"⟩ : MethodName)) (⟨"ShownPatterns$Reader", "readClass", "()I"⟩) ∈ q_gw := q_inS (i := 7) rfl rfl
theorem g157 : Cond.methodLink "ShownPatterns$Showings" (3 : Nat) ({ cls := "java/lang/Object", name := "<init>", desc := "()V" } : MethodName) ∈ q_gw := q_tables_1_1 (i := 157) rfl rfl
theorem g158 : Cond.fieldLink "ShownPatterns$Showings" (9 : Nat) "ShownPatterns$Showings" "rows" "[I" ∈ q_gw := q_tables_1_1 (i := 158) rfl rfl
theorem g159 : Cond.fieldLink "ShownPatterns$Showings" (15 : Nat) "ShownPatterns$Showings" "said" "[I" ∈ q_gw := q_tables_1_1 (i := 159) rfl rfl
theorem g160 : Cond.fieldLink "ShownPatterns$Showings" (18 : Nat) "ShownPatterns$Showings" "parts" "[I" ∈ q_gw := q_tables_1_1 (i := 160) rfl rfl
theorem g161 : Cond.fieldLink "ShownPatterns$Showings" (21 : Nat) "ShownPatterns$Showings" "prices" "[I" ∈ q_gw := q_tables_1_1 (i := 161) rfl rfl
theorem g162 : Cond.fieldLink "ShownPatterns$Showings" (24 : Nat) "ShownPatterns$Showings" "size" "I" ∈ q_gw := q_tables_1_1 (i := 162) rfl rfl
theorem g163 : Cond.fieldLink "ShownPatterns$Showings" (28 : Nat) "ShownPatterns$Showings" "takenBack" "I" ∈ q_gw := q_tables_1_1 (i := 163) rfl rfl
theorem g651 : Cond.methodLink "ShownPatterns$Showings" (31 : Nat) ({ cls := "ShownPatterns$Showings", name := "has", desc := "(I)Z" } : MethodName) ∈ q_gw := q_tables_1_3 (i := 171) rfl rfl
theorem g634 : Cond.code ({ cls := "ShownPatterns$Showings", name := "has", desc := "(I)Z" } : MethodName) prog_9_method_3_code (2 : Nat) (Option.some FieldType.boolean) ∈ q_gw := q_tables_1_3 (i := 154) rfl rfl
theorem kX7_has : plainName mX7_has.1.cls = true ∧ Cond.code mX7_has.1 mX7_has.2.1 mX7_has.2.2.1 mX7_has.2.2.2 ∈ q_gw ∧ Cond.initialized mX7_has.1.cls ∈ q_gw ∧ (mX7_has.1.cls ≠ "java/lang/invoke/MethodHandle" ∧ mX7_has.1.cls ≠ "java/lang/invoke/VarHandle" ∧ (parseMethodDescriptor mX7_has.1.desc).map (fun d => d.parameters.length) = some 1) ∧ mX7_has.2.2.1 ≤ 20 := ⟨by decide +kernel, g634, g9, by decide +kernel, by decide⟩
theorem g632 : Cond.instanceMethod ({ cls := "ShownPatterns$Showings", name := "has", desc := "(I)Z" } : MethodName) ∈ q_gw := q_tables_1_3 (i := 152) rfl rfl
theorem g633 : Cond.selects "ShownPatterns$Showings" ({ cls := "ShownPatterns$Showings", name := "has", desc := "(I)Z" } : MethodName) ({ cls := "ShownPatterns$Showings", name := "has", desc := "(I)Z" } : MethodName) ∈ q_gw := q_tables_1_3 (i := 153) rfl rfl
theorem gn695 : Cond.methodLinkNest "ShownPatterns$Showings" (35 : Nat) ({ cls := "ShownPatterns", name := "lengthOf", desc := "(I)I" } : MethodName) "ShownPatterns" ∈ lw_tbl := q_ntables_1_3 (i := 215) rfl
theorem g696 : Cond.methodLink "ShownPatterns$Showings" (39 : Nat) ({ cls := "ShownPatterns$Spans", name := "has", desc := "(JII)Z" } : MethodName) ∈ q_gw := q_tables_1_3 (i := 216) rfl rfl
theorem g698 : Cond.code ({ cls := "ShownPatterns$Spans", name := "has", desc := "(JII)Z" } : MethodName) prog_10_method_9_code (4 : Nat) (Option.some FieldType.boolean) ∈ q_gw := q_tables_1_3 (i := 218) rfl rfl
theorem kX8_has : plainName mX8_has.1.cls = true ∧ Cond.code mX8_has.1 mX8_has.2.1 mX8_has.2.2.1 mX8_has.2.2.2 ∈ q_gw ∧ Cond.initialized mX8_has.1.cls ∈ q_gw ∧ (mX8_has.1.cls ≠ "java/lang/invoke/MethodHandle" ∧ mX8_has.1.cls ≠ "java/lang/invoke/VarHandle" ∧ (parseMethodDescriptor mX8_has.1.desc).map (fun d => d.parameters.length) = some 3) ∧ mX8_has.2.2.1 ≤ 20 := ⟨by decide +kernel, g698, g8, by decide +kernel, by decide⟩
theorem g697 : Cond.static ({ cls := "ShownPatterns$Spans", name := "has", desc := "(JII)Z" } : MethodName) ∈ q_gw := q_tables_1_3 (i := 217) rfl rfl
theorem g699 : Cond.methodLink "ShownPatterns$Showings" (44 : Nat) ({ cls := "ShownPatterns$Spans", name := "partOut", desc := "(JI)I" } : MethodName) ∈ q_gw := q_tables_1_3 (i := 219) rfl rfl
theorem g701 : Cond.code ({ cls := "ShownPatterns$Spans", name := "partOut", desc := "(JI)I" } : MethodName) prog_10_method_10_code (5 : Nat) (Option.some FieldType.int) ∈ q_gw := q_tables_1_3 (i := 221) rfl rfl
theorem kX8_partOut : plainName mX8_partOut.1.cls = true ∧ Cond.code mX8_partOut.1 mX8_partOut.2.1 mX8_partOut.2.2.1 mX8_partOut.2.2.2 ∈ q_gw ∧ Cond.initialized mX8_partOut.1.cls ∈ q_gw ∧ (mX8_partOut.1.cls ≠ "java/lang/invoke/MethodHandle" ∧ mX8_partOut.1.cls ≠ "java/lang/invoke/VarHandle" ∧ (parseMethodDescriptor mX8_partOut.1.desc).map (fun d => d.parameters.length) = some 2) ∧ mX8_partOut.2.2.1 ≤ 20 := ⟨by decide +kernel, g701, g8, by decide +kernel, by decide⟩
theorem g700 : Cond.static ({ cls := "ShownPatterns$Spans", name := "partOut", desc := "(JI)I" } : MethodName) ∈ q_gw := q_tables_1_3 (i := 220) rfl rfl
theorem g142 : Cond.methodLink "ShownPatterns$Spans" (3 : Nat) ({ cls := "java/lang/Object", name := "<init>", desc := "()V" } : MethodName) ∈ q_gw := q_tables_1_1 (i := 142) rfl rfl
theorem g151 : Cond.arrayClass FieldType.long ∈ q_gw := q_tables_1_1 (i := 151) rfl rfl
theorem g145 : Cond.fieldLink "ShownPatterns$Spans" (9 : Nat) "ShownPatterns$Spans" "ofLetter" "[J" ∈ q_gw := q_tables_1_1 (i := 145) rfl rfl
theorem g143 : Cond.methodLink "ShownPatterns$Spans" (15 : Nat) ({ cls := "java/lang/Math", name := "max", desc := "(II)I" } : MethodName) ∈ q_gw := q_tables_1_1 (i := 143) rfl rfl
theorem g144 : Cond.fieldLink "ShownPatterns$Spans" (21 : Nat) "ShownPatterns$Spans" "spans" "[J" ∈ q_gw := q_tables_1_1 (i := 144) rfl rfl
theorem g656 : Cond.methodLink "ShownPatterns$Spans" (24 : Nat) ({ cls := "java/util/Arrays", name := "fill", desc := "([JJ)V" } : MethodName) ∈ q_gw := q_tables_1_3 (i := 176) rfl rfl
theorem g658 : Cond.code ({ cls := "java/util/Arrays", name := "fill", desc := "([JJ)V" } : MethodName) prog_18_method_101_code (5 : Nat) (Option.none : Option FieldType) ∈ q_gw := q_tables_1_3 (i := 178) rfl rfl
theorem kJ7_fill_d0a16 : plainName mJ7_fill_d0a16.1.cls = true ∧ Cond.code mJ7_fill_d0a16.1 mJ7_fill_d0a16.2.1 mJ7_fill_d0a16.2.2.1 mJ7_fill_d0a16.2.2.2 ∈ q_gw ∧ Cond.initialized mJ7_fill_d0a16.1.cls ∈ q_gw ∧ (mJ7_fill_d0a16.1.cls ≠ "java/lang/invoke/MethodHandle" ∧ mJ7_fill_d0a16.1.cls ≠ "java/lang/invoke/VarHandle" ∧ (parseMethodDescriptor mJ7_fill_d0a16.1.desc).map (fun d => d.parameters.length) = some 2) ∧ mJ7_fill_d0a16.2.2.1 ≤ 20 := ⟨by decide +kernel, g658, g12, by decide +kernel, by decide⟩
theorem g657 : Cond.static ({ cls := "java/util/Arrays", name := "fill", desc := "([JJ)V" } : MethodName) ∈ q_gw := q_tables_1_3 (i := 177) rfl rfl
theorem gn659 : Cond.methodLinkNest "ShownPatterns$Spans" (30 : Nat) ({ cls := "ShownPatterns", name := "letterAt", desc := "(III)I" } : MethodName) "ShownPatterns" ∈ lw_tbl := q_ntables_1_3 (i := 179) rfl
theorem g664 : Cond.methodLink "ShownPatterns$Spans" (34 : Nat) ({ cls := "ShownPatterns$Nodes", name := "size", desc := "()I" } : MethodName) ∈ q_gw := q_tables_1_3 (i := 184) rfl rfl
theorem g665 : Cond.methodLink "ShownPatterns$Spans" (40 : Nat) ({ cls := "java/lang/Math", name := "min", desc := "(II)I" } : MethodName) ∈ q_gw := q_tables_1_3 (i := 185) rfl rfl
theorem g666 : Cond.methodLink "ShownPatterns$Spans" (43 : Nat) ({ cls := "ShownPatterns$Nodes", name := "kindOf", desc := "(I)I" } : MethodName) ∈ q_gw := q_tables_1_3 (i := 186) rfl rfl
theorem g667 : Cond.methodLink "ShownPatterns$Spans" (47 : Nat) ({ cls := "ShownPatterns$Nodes", name := "leftOf", desc := "(I)I" } : MethodName) ∈ q_gw := q_tables_1_3 (i := 187) rfl rfl
theorem g668 : Cond.methodLink "ShownPatterns$Spans" (50 : Nat) ({ cls := "ShownPatterns$Nodes", name := "rightOf", desc := "(I)I" } : MethodName) ∈ q_gw := q_tables_1_3 (i := 188) rfl rfl
theorem g669 : Cond.methodLink "ShownPatterns$Spans" (53 : Nat) ({ cls := "ShownPatterns$Spans", name := "spanOf", desc := "(III)J" } : MethodName) ∈ q_gw := q_tables_1_3 (i := 189) rfl rfl
theorem g672 : Cond.code ({ cls := "ShownPatterns$Spans", name := "spanOf", desc := "(III)J" } : MethodName) prog_10_method_5_code (4 : Nat) (Option.some FieldType.long) ∈ q_gw := q_tables_1_3 (i := 192) rfl rfl
theorem kX8_spanOf : plainName mX8_spanOf.1.cls = true ∧ Cond.code mX8_spanOf.1 mX8_spanOf.2.1 mX8_spanOf.2.2.1 mX8_spanOf.2.2.2 ∈ q_gw ∧ Cond.initialized mX8_spanOf.1.cls ∈ q_gw ∧ (mX8_spanOf.1.cls ≠ "java/lang/invoke/MethodHandle" ∧ mX8_spanOf.1.cls ≠ "java/lang/invoke/VarHandle" ∧ (parseMethodDescriptor mX8_spanOf.1.desc).map (fun d => d.parameters.length) = some 3) ∧ mX8_spanOf.2.2.1 ≤ 20 := ⟨by decide +kernel, g672, g8, by decide +kernel, by decide⟩
theorem g671 : Cond.instanceMethod ({ cls := "ShownPatterns$Spans", name := "spanOf", desc := "(III)J" } : MethodName) ∈ q_gw := q_tables_1_3 (i := 191) rfl rfl
theorem gs29 : Cond.selects "ShownPatterns$Spans" ((⟨"ShownPatterns$Spans", "spanOf", "(III)J"⟩ : MethodName)) (⟨"ShownPatterns$Spans", "spanOf", "(III)J"⟩) ∈ q_gw := q_inS (i := 29) rfl rfl
theorem g673 : Cond.methodLink "ShownPatterns$Spans" (57 : Nat) ({ cls := "ShownPatterns$Spans", name := "ofClass", desc := "(I)J" } : MethodName) ∈ q_gw := q_tables_1_3 (i := 193) rfl rfl
theorem g676 : Cond.code ({ cls := "ShownPatterns$Spans", name := "ofClass", desc := "(I)J" } : MethodName) prog_10_method_6_code (5 : Nat) (Option.some FieldType.long) ∈ q_gw := q_tables_1_3 (i := 196) rfl rfl
theorem kX8_ofClass : plainName mX8_ofClass.1.cls = true ∧ Cond.code mX8_ofClass.1 mX8_ofClass.2.1 mX8_ofClass.2.2.1 mX8_ofClass.2.2.2 ∈ q_gw ∧ Cond.initialized mX8_ofClass.1.cls ∈ q_gw ∧ (mX8_ofClass.1.cls ≠ "java/lang/invoke/MethodHandle" ∧ mX8_ofClass.1.cls ≠ "java/lang/invoke/VarHandle" ∧ (parseMethodDescriptor mX8_ofClass.1.desc).map (fun d => d.parameters.length) = some 1) ∧ mX8_ofClass.2.2.1 ≤ 20 := ⟨by decide +kernel, g676, g8, by decide +kernel, by decide⟩
theorem g675 : Cond.instanceMethod ({ cls := "ShownPatterns$Spans", name := "ofClass", desc := "(I)J" } : MethodName) ∈ q_gw := q_tables_1_3 (i := 195) rfl rfl
theorem gs30 : Cond.selects "ShownPatterns$Spans" ((⟨"ShownPatterns$Spans", "ofClass", "(I)J"⟩ : MethodName)) (⟨"ShownPatterns$Spans", "ofClass", "(I)J"⟩) ∈ q_gw := q_inS (i := 30) rfl rfl
theorem g677 : Cond.methodLink "ShownPatterns$Spans" (61 : Nat) ({ cls := "ShownPatterns$Spans", name := "of", desc := "(I)J" } : MethodName) ∈ q_gw := q_tables_1_3 (i := 197) rfl rfl
theorem g681 : Cond.methodLink "ShownPatterns$Spans" (64 : Nat) ({ cls := "ShownPatterns$Spans", name := "behind", desc := "(JJ)J" } : MethodName) ∈ q_gw := q_tables_1_3 (i := 201) rfl rfl
theorem g683 : Cond.code ({ cls := "ShownPatterns$Spans", name := "behind", desc := "(JJ)J" } : MethodName) prog_10_method_7_code (7 : Nat) (Option.some FieldType.long) ∈ q_gw := q_tables_1_3 (i := 203) rfl rfl
theorem kX8_behind : plainName mX8_behind.1.cls = true ∧ Cond.code mX8_behind.1 mX8_behind.2.1 mX8_behind.2.2.1 mX8_behind.2.2.2 ∈ q_gw ∧ Cond.initialized mX8_behind.1.cls ∈ q_gw ∧ (mX8_behind.1.cls ≠ "java/lang/invoke/MethodHandle" ∧ mX8_behind.1.cls ≠ "java/lang/invoke/VarHandle" ∧ (parseMethodDescriptor mX8_behind.1.desc).map (fun d => d.parameters.length) = some 2) ∧ mX8_behind.2.2.1 ≤ 20 := ⟨by decide +kernel, g683, g8, by decide +kernel, by decide⟩
theorem g682 : Cond.static ({ cls := "ShownPatterns$Spans", name := "behind", desc := "(JJ)J" } : MethodName) ∈ q_gw := q_tables_1_3 (i := 202) rfl rfl
theorem g686 : Cond.methodLink "ShownPatterns$Spans" (68 : Nat) ({ cls := "ShownPatterns$Spans", name := "again", desc := "(J)J" } : MethodName) ∈ q_gw := q_tables_1_3 (i := 206) rfl rfl
theorem g688 : Cond.code ({ cls := "ShownPatterns$Spans", name := "again", desc := "(J)J" } : MethodName) prog_10_method_8_code (5 : Nat) (Option.some FieldType.long) ∈ q_gw := q_tables_1_3 (i := 208) rfl rfl
theorem kX8_again : plainName mX8_again.1.cls = true ∧ Cond.code mX8_again.1 mX8_again.2.1 mX8_again.2.2.1 mX8_again.2.2.2 ∈ q_gw ∧ Cond.initialized mX8_again.1.cls ∈ q_gw ∧ (mX8_again.1.cls ≠ "java/lang/invoke/MethodHandle" ∧ mX8_again.1.cls ≠ "java/lang/invoke/VarHandle" ∧ (parseMethodDescriptor mX8_again.1.desc).map (fun d => d.parameters.length) = some 1) ∧ mX8_again.2.2.1 ≤ 20 := ⟨by decide +kernel, g688, g8, by decide +kernel, by decide⟩
theorem g687 : Cond.static ({ cls := "ShownPatterns$Spans", name := "again", desc := "(J)J" } : MethodName) ∈ q_gw := q_tables_1_3 (i := 207) rfl rfl
theorem g689 : Cond.constantLong "ShownPatterns$Spans" (72 : Nat) (-9205322385119247871 : Int64) ∈ q_gw := q_tables_1_3 (i := 209) rfl rfl
theorem g684 : Cond.constantLong "ShownPatterns$Spans" (74 : Nat) (72340172838076673 : Int64) ∈ q_gw := q_tables_1_3 (i := 204) rfl rfl
theorem g685 : Cond.constantLong "ShownPatterns$Spans" (76 : Nat) (255 : Int64) ∈ q_gw := q_tables_1_3 (i := 205) rfl rfl
theorem g702 : Cond.methodLink "ShownPatterns$Spans" (78 : Nat) ({ cls := "ShownPatterns$Spans", name := "has", desc := "(JII)Z" } : MethodName) ∈ q_gw := q_tables_1_3 (i := 222) rfl rfl
theorem g132 : Cond.methodLink "ShownPatterns$Ways" (3 : Nat) ({ cls := "java/lang/Object", name := "<init>", desc := "()V" } : MethodName) ∈ q_gw := q_tables_1_1 (i := 132) rfl rfl
theorem g133 : Cond.fieldLink "ShownPatterns$Ways" (9 : Nat) "ShownPatterns$Ways" "ways" "[I" ∈ q_gw := q_tables_1_1 (i := 133) rfl rfl
theorem g548 : Cond.methodLink "ShownPatterns$Ways" (15 : Nat) ({ cls := "java/lang/Math", name := "min", desc := "(II)I" } : MethodName) ∈ q_gw := q_tables_1_3 (i := 68) rfl rfl
theorem g549 : Cond.methodLink "ShownPatterns$Ways" (21 : Nat) ({ cls := "ShownPatterns$Automaton", name := "endsAt", desc := "(I)Z" } : MethodName) ∈ q_gw := q_tables_1_3 (i := 69) rfl rfl
theorem g550 : Cond.methodLink "ShownPatterns$Ways" (27 : Nat) ({ cls := "ShownPatterns$Automaton", name := "after", desc := "(II)I" } : MethodName) ∈ q_gw := q_tables_1_3 (i := 70) rfl rfl
theorem g551 : Cond.methodLink "ShownPatterns$Ways" (30 : Nat) ({ cls := "ShownPatterns$Ways", name := "from", desc := "(II)I" } : MethodName) ∈ q_gw := q_tables_1_3 (i := 71) rfl rfl
theorem g554 : Cond.code ({ cls := "ShownPatterns$Ways", name := "from", desc := "(II)I" } : MethodName) prog_11_method_3_code (4 : Nat) (Option.some FieldType.int) ∈ q_gw := q_tables_1_3 (i := 74) rfl rfl
theorem g7 : Cond.initialized "ShownPatterns$Ways" ∈ q_gw := q_tables_1_1 (i := 7) rfl rfl
theorem kX9_from : plainName mX9_from.1.cls = true ∧ Cond.code mX9_from.1 mX9_from.2.1 mX9_from.2.2.1 mX9_from.2.2.2 ∈ q_gw ∧ Cond.initialized mX9_from.1.cls ∈ q_gw ∧ (mX9_from.1.cls ≠ "java/lang/invoke/MethodHandle" ∧ mX9_from.1.cls ≠ "java/lang/invoke/VarHandle" ∧ (parseMethodDescriptor mX9_from.1.desc).map (fun d => d.parameters.length) = some 2) ∧ mX9_from.2.2.1 ≤ 20 := ⟨by decide +kernel, g554, g7, by decide +kernel, by decide⟩
theorem g552 : Cond.instanceMethod ({ cls := "ShownPatterns$Ways", name := "from", desc := "(II)I" } : MethodName) ∈ q_gw := q_tables_1_3 (i := 72) rfl rfl
theorem g553 : Cond.selects "ShownPatterns$Ways" ({ cls := "ShownPatterns$Ways", name := "from", desc := "(II)I" } : MethodName) ({ cls := "ShownPatterns$Ways", name := "from", desc := "(II)I" } : MethodName) ∈ q_gw := q_tables_1_3 (i := 73) rfl rfl
theorem g84 : Cond.methodLink "ShownPatterns$Writer" (3 : Nat) ({ cls := "java/lang/Object", name := "<init>", desc := "()V" } : MethodName) ∈ q_gw := q_tables_1_1 (i := 84) rfl rfl
theorem g85 : Cond.fieldLink "ShownPatterns$Writer" (9 : Nat) "ShownPatterns$Writer" "signs" "[I" ∈ q_gw := q_tables_1_1 (i := 85) rfl rfl
theorem g86 : Cond.fieldLink "ShownPatterns$Writer" (15 : Nat) "ShownPatterns$Writer" "length" "I" ∈ q_gw := q_tables_1_1 (i := 86) rfl rfl
theorem g351 : Cond.methodLink "ShownPatterns$Writer" (19 : Nat) ({ cls := "ShownPatterns$Nodes", name := "size", desc := "()I" } : MethodName) ∈ q_gw := q_tables_1_2 (i := 111) rfl rfl
theorem g352 : Cond.methodLink "ShownPatterns$Writer" (25 : Nat) ({ cls := "ShownPatterns$Writer", name := "writeNode", desc := "(LShownPatterns$Writer;LShownPatterns$Nodes;II)V" } : MethodName) ∈ q_gw := q_tables_1_2 (i := 112) rfl rfl
theorem g354 : Cond.code ({ cls := "ShownPatterns$Writer", name := "writeNode", desc := "(LShownPatterns$Writer;LShownPatterns$Nodes;II)V" } : MethodName) prog_12_method_6_code (7 : Nat) (Option.none : Option FieldType) ∈ q_gw := q_tables_1_2 (i := 114) rfl rfl
theorem g5 : Cond.initialized "ShownPatterns$Writer" ∈ q_gw := q_tables_1_1 (i := 5) rfl rfl
theorem kX10_writeNode : plainName mX10_writeNode.1.cls = true ∧ Cond.code mX10_writeNode.1 mX10_writeNode.2.1 mX10_writeNode.2.2.1 mX10_writeNode.2.2.2 ∈ q_gw ∧ Cond.initialized mX10_writeNode.1.cls ∈ q_gw ∧ (mX10_writeNode.1.cls ≠ "java/lang/invoke/MethodHandle" ∧ mX10_writeNode.1.cls ≠ "java/lang/invoke/VarHandle" ∧ (parseMethodDescriptor mX10_writeNode.1.desc).map (fun d => d.parameters.length) = some 4) ∧ mX10_writeNode.2.2.1 ≤ 20 := ⟨by decide +kernel, g354, g5, by decide +kernel, by decide⟩
theorem g353 : Cond.static ({ cls := "ShownPatterns$Writer", name := "writeNode", desc := "(LShownPatterns$Writer;LShownPatterns$Nodes;II)V" } : MethodName) ∈ q_gw := q_tables_1_2 (i := 113) rfl rfl
theorem g355 : Cond.methodLink "ShownPatterns$Writer" (29 : Nat) ({ cls := "ShownPatterns$Nodes", name := "kindOf", desc := "(I)I" } : MethodName) ∈ q_gw := q_tables_1_2 (i := 115) rfl rfl
theorem g356 : Cond.methodLink "ShownPatterns$Writer" (33 : Nat) ({ cls := "ShownPatterns$Nodes", name := "leftOf", desc := "(I)I" } : MethodName) ∈ q_gw := q_tables_1_2 (i := 116) rfl rfl
theorem g357 : Cond.methodLink "ShownPatterns$Writer" (36 : Nat) ({ cls := "ShownPatterns$Nodes", name := "rightOf", desc := "(I)I" } : MethodName) ∈ q_gw := q_tables_1_2 (i := 117) rfl rfl
theorem g358 : Cond.methodLink "ShownPatterns$Writer" (39 : Nat) ({ cls := "ShownPatterns$Writer", name := "put", desc := "(I)V" } : MethodName) ∈ q_gw := q_tables_1_2 (i := 118) rfl rfl
theorem g361 : Cond.code ({ cls := "ShownPatterns$Writer", name := "put", desc := "(I)V" } : MethodName) prog_12_method_5_code (2 : Nat) (Option.none : Option FieldType) ∈ q_gw := q_tables_1_2 (i := 121) rfl rfl
theorem kX10_put : plainName mX10_put.1.cls = true ∧ Cond.code mX10_put.1 mX10_put.2.1 mX10_put.2.2.1 mX10_put.2.2.2 ∈ q_gw ∧ Cond.initialized mX10_put.1.cls ∈ q_gw ∧ (mX10_put.1.cls ≠ "java/lang/invoke/MethodHandle" ∧ mX10_put.1.cls ≠ "java/lang/invoke/VarHandle" ∧ (parseMethodDescriptor mX10_put.1.desc).map (fun d => d.parameters.length) = some 1) ∧ mX10_put.2.2.1 ≤ 20 := ⟨by decide +kernel, g361, g5, by decide +kernel, by decide⟩
theorem g360 : Cond.instanceMethod ({ cls := "ShownPatterns$Writer", name := "put", desc := "(I)V" } : MethodName) ∈ q_gw := q_tables_1_2 (i := 120) rfl rfl
theorem gs12 : Cond.selects "ShownPatterns$Writer" ((⟨"ShownPatterns$Writer", "put", "(I)V"⟩ : MethodName)) (⟨"ShownPatterns$Writer", "put", "(I)V"⟩) ∈ q_gw := q_inS (i := 12) rfl rfl
theorem g362 : Cond.methodLink "ShownPatterns$Writer" (43 : Nat) ({ cls := "ShownPatterns$Writer", name := "putClass", desc := "(I)V" } : MethodName) ∈ q_gw := q_tables_1_2 (i := 122) rfl rfl
theorem g365 : Cond.code ({ cls := "ShownPatterns$Writer", name := "putClass", desc := "(I)V" } : MethodName) prog_12_method_8_code (3 : Nat) (Option.none : Option FieldType) ∈ q_gw := q_tables_1_2 (i := 125) rfl rfl
theorem kX10_putClass : plainName mX10_putClass.1.cls = true ∧ Cond.code mX10_putClass.1 mX10_putClass.2.1 mX10_putClass.2.2.1 mX10_putClass.2.2.2 ∈ q_gw ∧ Cond.initialized mX10_putClass.1.cls ∈ q_gw ∧ (mX10_putClass.1.cls ≠ "java/lang/invoke/MethodHandle" ∧ mX10_putClass.1.cls ≠ "java/lang/invoke/VarHandle" ∧ (parseMethodDescriptor mX10_putClass.1.desc).map (fun d => d.parameters.length) = some 1) ∧ mX10_putClass.2.2.1 ≤ 20 := ⟨by decide +kernel, g365, g5, by decide +kernel, by decide⟩
theorem g364 : Cond.instanceMethod ({ cls := "ShownPatterns$Writer", name := "putClass", desc := "(I)V" } : MethodName) ∈ q_gw := q_tables_1_2 (i := 124) rfl rfl
theorem gs13 : Cond.selects "ShownPatterns$Writer" ((⟨"ShownPatterns$Writer", "putClass", "(I)V"⟩ : MethodName)) (⟨"ShownPatterns$Writer", "putClass", "(I)V"⟩) ∈ q_gw := q_inS (i := 13) rfl rfl
theorem g366 : Cond.methodLink "ShownPatterns$Writer" (46 : Nat) ({ cls := "ShownPatterns$Writer", name := "writePart", desc := "(LShownPatterns$Writer;LShownPatterns$Nodes;IZI)V" } : MethodName) ∈ q_gw := q_tables_1_2 (i := 126) rfl rfl
theorem g368 : Cond.code ({ cls := "ShownPatterns$Writer", name := "writePart", desc := "(LShownPatterns$Writer;LShownPatterns$Nodes;IZI)V" } : MethodName) prog_12_method_7_code (5 : Nat) (Option.none : Option FieldType) ∈ q_gw := q_tables_1_2 (i := 128) rfl rfl
theorem kX10_writePart : plainName mX10_writePart.1.cls = true ∧ Cond.code mX10_writePart.1 mX10_writePart.2.1 mX10_writePart.2.2.1 mX10_writePart.2.2.2 ∈ q_gw ∧ Cond.initialized mX10_writePart.1.cls ∈ q_gw ∧ (mX10_writePart.1.cls ≠ "java/lang/invoke/MethodHandle" ∧ mX10_writePart.1.cls ≠ "java/lang/invoke/VarHandle" ∧ (parseMethodDescriptor mX10_writePart.1.desc).map (fun d => d.parameters.length) = some 5) ∧ mX10_writePart.2.2.1 ≤ 20 := ⟨by decide +kernel, g368, g5, by decide +kernel, by decide⟩
theorem g367 : Cond.static ({ cls := "ShownPatterns$Writer", name := "writePart", desc := "(LShownPatterns$Writer;LShownPatterns$Nodes;IZI)V" } : MethodName) ∈ q_gw := q_tables_1_2 (i := 127) rfl rfl
theorem gn369 : Cond.methodLinkNest "ShownPatterns$Writer" (50 : Nat) ({ cls := "ShownPatterns", name := "hasTwoParts", desc := "(I)Z" } : MethodName) "ShownPatterns" ∈ lw_tbl := q_ntables_1_2 (i := 129) rfl
theorem g23 : Cond.methodLink "ShownPatterns" (3 : Nat) ({ cls := "java/lang/Object", name := "<init>", desc := "()V" } : MethodName) ∈ q_gw := q_tables_1_1 (i := 23) rfl rfl
theorem g26 : Cond.classLink "ShownPatterns" (9 : Nat) "ShownPatterns$Nodes" ∈ q_gw := q_tables_1_1 (i := 26) rfl rfl
theorem g178 : Cond.fieldLink "ShownPatterns" (11 : Nat) "ShownPatterns" "places" "[LShownPatterns$Nodes;" ∈ q_gw := q_tables_1_1 (i := 178) rfl rfl
theorem g28 : Cond.classLink "ShownPatterns" (15 : Nat) "ShownPatterns$Reader" ∈ q_gw := q_tables_1_1 (i := 28) rfl rfl
theorem g29 : Cond.instantiable "ShownPatterns$Reader" (7 : Nat) ∈ q_gw := q_tables_1_1 (i := 29) rfl rfl
theorem gn30 : Cond.methodLinkNest "ShownPatterns" (17 : Nat) ({ cls := "ShownPatterns$Reader", name := "<init>", desc := "()V" } : MethodName) "ShownPatterns" ∈ lw_tbl := q_ntables_1_1 (i := 30) rfl
theorem g32 : Cond.code ({ cls := "ShownPatterns$Reader", name := "<init>", desc := "()V" } : MethodName) prog_8_method_1_code (1 : Nat) (Option.none : Option FieldType) ∈ q_gw := q_tables_1_1 (i := 32) rfl rfl
theorem kX6_init : plainName mX6_init.1.cls = true ∧ Cond.code mX6_init.1 mX6_init.2.1 mX6_init.2.2.1 mX6_init.2.2.2 ∈ q_gw ∧ Cond.initialized mX6_init.1.cls ∈ q_gw ∧ (mX6_init.1.cls ≠ "java/lang/invoke/MethodHandle" ∧ mX6_init.1.cls ≠ "java/lang/invoke/VarHandle" ∧ (parseMethodDescriptor mX6_init.1.desc).map (fun d => d.parameters.length) = some 0) ∧ mX6_init.2.2.1 ≤ 20 := ⟨by decide +kernel, g32, g2, by decide +kernel, by decide⟩
theorem g31 : Cond.instanceMethod ({ cls := "ShownPatterns$Reader", name := "<init>", desc := "()V" } : MethodName) ∈ q_gw := q_tables_1_1 (i := 31) rfl rfl
theorem g179 : Cond.fieldLink "ShownPatterns" (18 : Nat) "ShownPatterns" "reader" "LShownPatterns$Reader;" ∈ q_gw := q_tables_1_1 (i := 179) rfl rfl
theorem g79 : Cond.classLink "ShownPatterns" (22 : Nat) "ShownPatterns$Writer" ∈ q_gw := q_tables_1_1 (i := 79) rfl rfl
theorem g80 : Cond.instantiable "ShownPatterns$Writer" (2 : Nat) ∈ q_gw := q_tables_1_1 (i := 80) rfl rfl
theorem gn81 : Cond.methodLinkNest "ShownPatterns" (24 : Nat) ({ cls := "ShownPatterns$Writer", name := "<init>", desc := "()V" } : MethodName) "ShownPatterns" ∈ lw_tbl := q_ntables_1_1 (i := 81) rfl
theorem g83 : Cond.code ({ cls := "ShownPatterns$Writer", name := "<init>", desc := "()V" } : MethodName) prog_12_method_1_code (1 : Nat) (Option.none : Option FieldType) ∈ q_gw := q_tables_1_1 (i := 83) rfl rfl
theorem kX10_init : plainName mX10_init.1.cls = true ∧ Cond.code mX10_init.1 mX10_init.2.1 mX10_init.2.2.1 mX10_init.2.2.2 ∈ q_gw ∧ Cond.initialized mX10_init.1.cls ∈ q_gw ∧ (mX10_init.1.cls ≠ "java/lang/invoke/MethodHandle" ∧ mX10_init.1.cls ≠ "java/lang/invoke/VarHandle" ∧ (parseMethodDescriptor mX10_init.1.desc).map (fun d => d.parameters.length) = some 0) ∧ mX10_init.2.2.1 ≤ 20 := ⟨by decide +kernel, g83, g5, by decide +kernel, by decide⟩
theorem g82 : Cond.instanceMethod ({ cls := "ShownPatterns$Writer", name := "<init>", desc := "()V" } : MethodName) ∈ q_gw := q_tables_1_1 (i := 82) rfl rfl
theorem g180 : Cond.fieldLink "ShownPatterns" (25 : Nat) "ShownPatterns" "writer" "LShownPatterns$Writer;" ∈ q_gw := q_tables_1_1 (i := 180) rfl rfl
theorem g92 : Cond.classLink "ShownPatterns" (29 : Nat) "ShownPatterns$Automaton" ∈ q_gw := q_tables_1_1 (i := 92) rfl rfl
theorem g93 : Cond.instantiable "ShownPatterns$Automaton" (9 : Nat) ∈ q_gw := q_tables_1_1 (i := 93) rfl rfl
theorem gn94 : Cond.methodLinkNest "ShownPatterns" (31 : Nat) ({ cls := "ShownPatterns$Automaton", name := "<init>", desc := "()V" } : MethodName) "ShownPatterns" ∈ lw_tbl := q_ntables_1_1 (i := 94) rfl
theorem g96 : Cond.code ({ cls := "ShownPatterns$Automaton", name := "<init>", desc := "()V" } : MethodName) prog_2_method_1_code (1 : Nat) (Option.none : Option FieldType) ∈ q_gw := q_tables_1_1 (i := 96) rfl rfl
theorem kX0_init : plainName mX0_init.1.cls = true ∧ Cond.code mX0_init.1 mX0_init.2.1 mX0_init.2.2.1 mX0_init.2.2.2 ∈ q_gw ∧ Cond.initialized mX0_init.1.cls ∈ q_gw ∧ (mX0_init.1.cls ≠ "java/lang/invoke/MethodHandle" ∧ mX0_init.1.cls ≠ "java/lang/invoke/VarHandle" ∧ (parseMethodDescriptor mX0_init.1.desc).map (fun d => d.parameters.length) = some 0) ∧ mX0_init.2.2.1 ≤ 20 := ⟨by decide +kernel, g96, g6, by decide +kernel, by decide⟩
theorem g95 : Cond.instanceMethod ({ cls := "ShownPatterns$Automaton", name := "<init>", desc := "()V" } : MethodName) ∈ q_gw := q_tables_1_1 (i := 95) rfl rfl
theorem g181 : Cond.fieldLink "ShownPatterns" (32 : Nat) "ShownPatterns" "one" "LShownPatterns$Automaton;" ∈ q_gw := q_tables_1_1 (i := 181) rfl rfl
theorem g182 : Cond.fieldLink "ShownPatterns" (36 : Nat) "ShownPatterns" "other" "LShownPatterns$Automaton;" ∈ q_gw := q_tables_1_1 (i := 182) rfl rfl
theorem g127 : Cond.classLink "ShownPatterns" (39 : Nat) "ShownPatterns$Ways" ∈ q_gw := q_tables_1_1 (i := 127) rfl rfl
theorem g128 : Cond.instantiable "ShownPatterns$Ways" (1 : Nat) ∈ q_gw := q_tables_1_1 (i := 128) rfl rfl
theorem gn129 : Cond.methodLinkNest "ShownPatterns" (41 : Nat) ({ cls := "ShownPatterns$Ways", name := "<init>", desc := "()V" } : MethodName) "ShownPatterns" ∈ lw_tbl := q_ntables_1_1 (i := 129) rfl
theorem g131 : Cond.code ({ cls := "ShownPatterns$Ways", name := "<init>", desc := "()V" } : MethodName) prog_11_method_1_code (1 : Nat) (Option.none : Option FieldType) ∈ q_gw := q_tables_1_1 (i := 131) rfl rfl
theorem kX9_init : plainName mX9_init.1.cls = true ∧ Cond.code mX9_init.1 mX9_init.2.1 mX9_init.2.2.1 mX9_init.2.2.2 ∈ q_gw ∧ Cond.initialized mX9_init.1.cls ∈ q_gw ∧ (mX9_init.1.cls ≠ "java/lang/invoke/MethodHandle" ∧ mX9_init.1.cls ≠ "java/lang/invoke/VarHandle" ∧ (parseMethodDescriptor mX9_init.1.desc).map (fun d => d.parameters.length) = some 0) ∧ mX9_init.2.2.1 ≤ 20 := ⟨by decide +kernel, g131, g7, by decide +kernel, by decide⟩
theorem g130 : Cond.instanceMethod ({ cls := "ShownPatterns$Ways", name := "<init>", desc := "()V" } : MethodName) ∈ q_gw := q_tables_1_1 (i := 130) rfl rfl
theorem g183 : Cond.fieldLink "ShownPatterns" (42 : Nat) "ShownPatterns" "ways" "LShownPatterns$Ways;" ∈ q_gw := q_tables_1_1 (i := 183) rfl rfl
theorem g137 : Cond.classLink "ShownPatterns" (46 : Nat) "ShownPatterns$Spans" ∈ q_gw := q_tables_1_1 (i := 137) rfl rfl
theorem g139 : Cond.methodLink "ShownPatterns" (48 : Nat) ({ cls := "ShownPatterns$Spans", name := "<init>", desc := "(I)V" } : MethodName) ∈ q_gw := q_tables_1_1 (i := 139) rfl rfl
theorem g184 : Cond.fieldLink "ShownPatterns" (51 : Nat) "ShownPatterns" "spans" "LShownPatterns$Spans;" ∈ q_gw := q_tables_1_1 (i := 184) rfl rfl
theorem g152 : Cond.classLink "ShownPatterns" (55 : Nat) "ShownPatterns$Showings" ∈ q_gw := q_tables_1_1 (i := 152) rfl rfl
theorem g153 : Cond.instantiable "ShownPatterns$Showings" (6 : Nat) ∈ q_gw := q_tables_1_1 (i := 153) rfl rfl
theorem gn154 : Cond.methodLinkNest "ShownPatterns" (57 : Nat) ({ cls := "ShownPatterns$Showings", name := "<init>", desc := "()V" } : MethodName) "ShownPatterns" ∈ lw_tbl := q_ntables_1_1 (i := 154) rfl
theorem g156 : Cond.code ({ cls := "ShownPatterns$Showings", name := "<init>", desc := "()V" } : MethodName) prog_9_method_1_code (1 : Nat) (Option.none : Option FieldType) ∈ q_gw := q_tables_1_1 (i := 156) rfl rfl
theorem kX7_init : plainName mX7_init.1.cls = true ∧ Cond.code mX7_init.1 mX7_init.2.1 mX7_init.2.2.1 mX7_init.2.2.2 ∈ q_gw ∧ Cond.initialized mX7_init.1.cls ∈ q_gw ∧ (mX7_init.1.cls ≠ "java/lang/invoke/MethodHandle" ∧ mX7_init.1.cls ≠ "java/lang/invoke/VarHandle" ∧ (parseMethodDescriptor mX7_init.1.desc).map (fun d => d.parameters.length) = some 0) ∧ mX7_init.2.2.1 ≤ 20 := ⟨by decide +kernel, g156, g9, by decide +kernel, by decide⟩
theorem g155 : Cond.instanceMethod ({ cls := "ShownPatterns$Showings", name := "<init>", desc := "()V" } : MethodName) ∈ q_gw := q_tables_1_1 (i := 155) rfl rfl
theorem g185 : Cond.fieldLink "ShownPatterns" (58 : Nat) "ShownPatterns" "showings" "LShownPatterns$Showings;" ∈ q_gw := q_tables_1_1 (i := 185) rfl rfl
theorem g177 : Cond.methodLink "ShownPatterns" (62 : Nat) ({ cls := "ShownPatterns$Nodes", name := "<init>", desc := "(I)V" } : MethodName) ∈ q_gw := q_tables_1_1 (i := 177) rfl rfl
theorem g216 : Cond.methodLink "ShownPatterns" (63 : Nat) ({ cls := "ShownPatterns$Reader", name := "take", desc := "(II)I" } : MethodName) ∈ q_gw := q_tables_1_1 (i := 216) rfl rfl
theorem g219 : Cond.code ({ cls := "ShownPatterns$Reader", name := "take", desc := "(II)I" } : MethodName) prog_8_method_5_code (5 : Nat) (Option.some FieldType.int) ∈ q_gw := q_tables_1_1 (i := 219) rfl rfl
theorem kX6_take : plainName mX6_take.1.cls = true ∧ Cond.code mX6_take.1 mX6_take.2.1 mX6_take.2.2.1 mX6_take.2.2.2 ∈ q_gw ∧ Cond.initialized mX6_take.1.cls ∈ q_gw ∧ (mX6_take.1.cls ≠ "java/lang/invoke/MethodHandle" ∧ mX6_take.1.cls ≠ "java/lang/invoke/VarHandle" ∧ (parseMethodDescriptor mX6_take.1.desc).map (fun d => d.parameters.length) = some 2) ∧ mX6_take.2.2.1 ≤ 20 := ⟨by decide +kernel, g219, g2, by decide +kernel, by decide⟩
theorem g217 : Cond.instanceMethod ({ cls := "ShownPatterns$Reader", name := "take", desc := "(II)I" } : MethodName) ∈ q_gw := q_tables_1_1 (i := 217) rfl rfl
theorem g218 : Cond.selects "ShownPatterns$Reader" ({ cls := "ShownPatterns$Reader", name := "take", desc := "(II)I" } : MethodName) ({ cls := "ShownPatterns$Reader", name := "take", desc := "(II)I" } : MethodName) ∈ q_gw := q_tables_1_1 (i := 218) rfl rfl
theorem g228 : Cond.methodLink "ShownPatterns" (67 : Nat) ({ cls := "ShownPatterns", name := "placeAt", desc := "(I)LShownPatterns$Nodes;" } : MethodName) ∈ q_gw := q_tables_1_1 (i := 228) rfl rfl
theorem g231 : Cond.code ({ cls := "ShownPatterns", name := "placeAt", desc := "(I)LShownPatterns$Nodes;" } : MethodName) prog_1_method_27_code (2 : Nat) (Option.some (FieldType.object "ShownPatterns$Nodes")) ∈ q_gw := q_tables_1_1 (i := 231) rfl rfl
theorem kX11_placeAt : plainName mX11_placeAt.1.cls = true ∧ Cond.code mX11_placeAt.1 mX11_placeAt.2.1 mX11_placeAt.2.2.1 mX11_placeAt.2.2.2 ∈ q_gw ∧ Cond.initialized mX11_placeAt.1.cls ∈ q_gw ∧ (mX11_placeAt.1.cls ≠ "java/lang/invoke/MethodHandle" ∧ mX11_placeAt.1.cls ≠ "java/lang/invoke/VarHandle" ∧ (parseMethodDescriptor mX11_placeAt.1.desc).map (fun d => d.parameters.length) = some 1) ∧ mX11_placeAt.2.2.1 ≤ 20 := ⟨by decide +kernel, g231, g1, by decide +kernel, by decide⟩
theorem g230 : Cond.instanceMethod ({ cls := "ShownPatterns", name := "placeAt", desc := "(I)LShownPatterns$Nodes;" } : MethodName) ∈ q_gw := q_tables_1_1 (i := 230) rfl rfl
theorem gs1 : Cond.selects "ShownPatterns" ((⟨"ShownPatterns", "placeAt", "(I)LShownPatterns$Nodes;"⟩ : MethodName)) (⟨"ShownPatterns", "placeAt", "(I)LShownPatterns$Nodes;"⟩) ∈ q_gw := q_inS (i := 1) rfl rfl
theorem g232 : Cond.methodLink "ShownPatterns" (71 : Nat) ({ cls := "ShownPatterns$Reader", name := "parse", desc := "()I" } : MethodName) ∈ q_gw := q_tables_1_1 (i := 232) rfl rfl
theorem g235 : Cond.code ({ cls := "ShownPatterns$Reader", name := "parse", desc := "()I" } : MethodName) prog_8_method_7_code (2 : Nat) (Option.some FieldType.int) ∈ q_gw := q_tables_1_1 (i := 235) rfl rfl
theorem kX6_parse : plainName mX6_parse.1.cls = true ∧ Cond.code mX6_parse.1 mX6_parse.2.1 mX6_parse.2.2.1 mX6_parse.2.2.2 ∈ q_gw ∧ Cond.initialized mX6_parse.1.cls ∈ q_gw ∧ (mX6_parse.1.cls ≠ "java/lang/invoke/MethodHandle" ∧ mX6_parse.1.cls ≠ "java/lang/invoke/VarHandle" ∧ (parseMethodDescriptor mX6_parse.1.desc).map (fun d => d.parameters.length) = some 0) ∧ mX6_parse.2.2.1 ≤ 20 := ⟨by decide +kernel, g235, g2, by decide +kernel, by decide⟩
theorem g233 : Cond.instanceMethod ({ cls := "ShownPatterns$Reader", name := "parse", desc := "()I" } : MethodName) ∈ q_gw := q_tables_1_1 (i := 233) rfl rfl
theorem g234 : Cond.selects "ShownPatterns$Reader" ({ cls := "ShownPatterns$Reader", name := "parse", desc := "()I" } : MethodName) ({ cls := "ShownPatterns$Reader", name := "parse", desc := "()I" } : MethodName) ∈ q_gw := q_tables_1_1 (i := 234) rfl rfl
theorem g298 : Cond.methodLink "ShownPatterns" (75 : Nat) ({ cls := "ShownPatterns$Reader", name := "fault", desc := "()I" } : MethodName) ∈ q_gw := q_tables_1_2 (i := 58) rfl rfl
theorem g301 : Cond.code ({ cls := "ShownPatterns$Reader", name := "fault", desc := "()I" } : MethodName) prog_8_method_4_code (1 : Nat) (Option.some FieldType.int) ∈ q_gw := q_tables_1_2 (i := 61) rfl rfl
theorem kX6_fault : plainName mX6_fault.1.cls = true ∧ Cond.code mX6_fault.1 mX6_fault.2.1 mX6_fault.2.2.1 mX6_fault.2.2.2 ∈ q_gw ∧ Cond.initialized mX6_fault.1.cls ∈ q_gw ∧ (mX6_fault.1.cls ≠ "java/lang/invoke/MethodHandle" ∧ mX6_fault.1.cls ≠ "java/lang/invoke/VarHandle" ∧ (parseMethodDescriptor mX6_fault.1.desc).map (fun d => d.parameters.length) = some 0) ∧ mX6_fault.2.2.1 ≤ 20 := ⟨by decide +kernel, g301, g2, by decide +kernel, by decide⟩
theorem g299 : Cond.instanceMethod ({ cls := "ShownPatterns$Reader", name := "fault", desc := "()I" } : MethodName) ∈ q_gw := q_tables_1_2 (i := 59) rfl rfl
theorem g300 : Cond.selects "ShownPatterns$Reader" ({ cls := "ShownPatterns$Reader", name := "fault", desc := "()I" } : MethodName) ({ cls := "ShownPatterns$Reader", name := "fault", desc := "()I" } : MethodName) ∈ q_gw := q_tables_1_2 (i := 60) rfl rfl
theorem g302 : Cond.methodLink "ShownPatterns" (78 : Nat) ({ cls := "ShownPatterns$Reader", name := "nodes", desc := "()LShownPatterns$Nodes;" } : MethodName) ∈ q_gw := q_tables_1_2 (i := 62) rfl rfl
theorem g305 : Cond.code ({ cls := "ShownPatterns$Reader", name := "nodes", desc := "()LShownPatterns$Nodes;" } : MethodName) prog_8_method_3_code (1 : Nat) (Option.some (FieldType.object "ShownPatterns$Nodes")) ∈ q_gw := q_tables_1_2 (i := 65) rfl rfl
theorem kX6_nodes : plainName mX6_nodes.1.cls = true ∧ Cond.code mX6_nodes.1 mX6_nodes.2.1 mX6_nodes.2.2.1 mX6_nodes.2.2.2 ∈ q_gw ∧ Cond.initialized mX6_nodes.1.cls ∈ q_gw ∧ (mX6_nodes.1.cls ≠ "java/lang/invoke/MethodHandle" ∧ mX6_nodes.1.cls ≠ "java/lang/invoke/VarHandle" ∧ (parseMethodDescriptor mX6_nodes.1.desc).map (fun d => d.parameters.length) = some 0) ∧ mX6_nodes.2.2.1 ≤ 20 := ⟨by decide +kernel, g305, g2, by decide +kernel, by decide⟩
theorem g303 : Cond.instanceMethod ({ cls := "ShownPatterns$Reader", name := "nodes", desc := "()LShownPatterns$Nodes;" } : MethodName) ∈ q_gw := q_tables_1_2 (i := 63) rfl rfl
theorem g304 : Cond.selects "ShownPatterns$Reader" ({ cls := "ShownPatterns$Reader", name := "nodes", desc := "()LShownPatterns$Nodes;" } : MethodName) ({ cls := "ShownPatterns$Reader", name := "nodes", desc := "()LShownPatterns$Nodes;" } : MethodName) ∈ q_gw := q_tables_1_2 (i := 64) rfl rfl
theorem g306 : Cond.methodLink "ShownPatterns" (82 : Nat) ({ cls := "ShownPatterns$Nodes", name := "size", desc := "()I" } : MethodName) ∈ q_gw := q_tables_1_2 (i := 66) rfl rfl
theorem g310 : Cond.methodLink "ShownPatterns" (85 : Nat) ({ cls := "ShownPatterns$Nodes", name := "become", desc := "(LShownPatterns$Nodes;I)V" } : MethodName) ∈ q_gw := q_tables_1_2 (i := 70) rfl rfl
theorem g313 : Cond.code ({ cls := "ShownPatterns$Nodes", name := "become", desc := "(LShownPatterns$Nodes;I)V" } : MethodName) prog_6_method_10_code (3 : Nat) (Option.none : Option FieldType) ∈ q_gw := q_tables_1_2 (i := 73) rfl rfl
theorem kX4_become : plainName mX4_become.1.cls = true ∧ Cond.code mX4_become.1 mX4_become.2.1 mX4_become.2.2.1 mX4_become.2.2.2 ∈ q_gw ∧ Cond.initialized mX4_become.1.cls ∈ q_gw ∧ (mX4_become.1.cls ≠ "java/lang/invoke/MethodHandle" ∧ mX4_become.1.cls ≠ "java/lang/invoke/VarHandle" ∧ (parseMethodDescriptor mX4_become.1.desc).map (fun d => d.parameters.length) = some 2) ∧ mX4_become.2.2.1 ≤ 20 := ⟨by decide +kernel, g313, g3, by decide +kernel, by decide⟩
theorem g311 : Cond.instanceMethod ({ cls := "ShownPatterns$Nodes", name := "become", desc := "(LShownPatterns$Nodes;I)V" } : MethodName) ∈ q_gw := q_tables_1_2 (i := 71) rfl rfl
theorem g312 : Cond.selects "ShownPatterns$Nodes" ({ cls := "ShownPatterns$Nodes", name := "become", desc := "(LShownPatterns$Nodes;I)V" } : MethodName) ({ cls := "ShownPatterns$Nodes", name := "become", desc := "(LShownPatterns$Nodes;I)V" } : MethodName) ∈ q_gw := q_tables_1_2 (i := 72) rfl rfl
theorem g330 : Cond.methodLink "ShownPatterns" (89 : Nat) ({ cls := "ShownPatterns$Nodes", name := "cost", desc := "()I" } : MethodName) ∈ q_gw := q_tables_1_2 (i := 90) rfl rfl
theorem g333 : Cond.code ({ cls := "ShownPatterns$Nodes", name := "cost", desc := "()I" } : MethodName) prog_6_method_9_code (3 : Nat) (Option.some FieldType.int) ∈ q_gw := q_tables_1_2 (i := 93) rfl rfl
theorem kX4_cost : plainName mX4_cost.1.cls = true ∧ Cond.code mX4_cost.1 mX4_cost.2.1 mX4_cost.2.2.1 mX4_cost.2.2.2 ∈ q_gw ∧ Cond.initialized mX4_cost.1.cls ∈ q_gw ∧ (mX4_cost.1.cls ≠ "java/lang/invoke/MethodHandle" ∧ mX4_cost.1.cls ≠ "java/lang/invoke/VarHandle" ∧ (parseMethodDescriptor mX4_cost.1.desc).map (fun d => d.parameters.length) = some 0) ∧ mX4_cost.2.2.1 ≤ 20 := ⟨by decide +kernel, g333, g3, by decide +kernel, by decide⟩
theorem g331 : Cond.instanceMethod ({ cls := "ShownPatterns$Nodes", name := "cost", desc := "()I" } : MethodName) ∈ q_gw := q_tables_1_2 (i := 91) rfl rfl
theorem g332 : Cond.selects "ShownPatterns$Nodes" ({ cls := "ShownPatterns$Nodes", name := "cost", desc := "()I" } : MethodName) ({ cls := "ShownPatterns$Nodes", name := "cost", desc := "()I" } : MethodName) ∈ q_gw := q_tables_1_2 (i := 92) rfl rfl
theorem g343 : Cond.methodLink "ShownPatterns" (92 : Nat) ({ cls := "ShownPatterns", name := "patternAt", desc := "(I)LShownPatterns$Nodes;" } : MethodName) ∈ q_gw := q_tables_1_2 (i := 103) rfl rfl
theorem g346 : Cond.code ({ cls := "ShownPatterns", name := "patternAt", desc := "(I)LShownPatterns$Nodes;" } : MethodName) prog_1_method_28_code (3 : Nat) (Option.some (FieldType.object "ShownPatterns$Nodes")) ∈ q_gw := q_tables_1_2 (i := 106) rfl rfl
theorem kX11_patternAt : plainName mX11_patternAt.1.cls = true ∧ Cond.code mX11_patternAt.1 mX11_patternAt.2.1 mX11_patternAt.2.2.1 mX11_patternAt.2.2.2 ∈ q_gw ∧ Cond.initialized mX11_patternAt.1.cls ∈ q_gw ∧ (mX11_patternAt.1.cls ≠ "java/lang/invoke/MethodHandle" ∧ mX11_patternAt.1.cls ≠ "java/lang/invoke/VarHandle" ∧ (parseMethodDescriptor mX11_patternAt.1.desc).map (fun d => d.parameters.length) = some 1) ∧ mX11_patternAt.2.2.1 ≤ 20 := ⟨by decide +kernel, g346, g1, by decide +kernel, by decide⟩
theorem g345 : Cond.instanceMethod ({ cls := "ShownPatterns", name := "patternAt", desc := "(I)LShownPatterns$Nodes;" } : MethodName) ∈ q_gw := q_tables_1_2 (i := 105) rfl rfl
theorem gs11 : Cond.selects "ShownPatterns" ((⟨"ShownPatterns", "patternAt", "(I)LShownPatterns$Nodes;"⟩ : MethodName)) (⟨"ShownPatterns", "patternAt", "(I)LShownPatterns$Nodes;"⟩) ∈ q_gw := q_inS (i := 11) rfl rfl
theorem g347 : Cond.methodLink "ShownPatterns" (95 : Nat) ({ cls := "ShownPatterns$Writer", name := "write", desc := "(LShownPatterns$Nodes;)V" } : MethodName) ∈ q_gw := q_tables_1_2 (i := 107) rfl rfl
theorem g350 : Cond.code ({ cls := "ShownPatterns$Writer", name := "write", desc := "(LShownPatterns$Nodes;)V" } : MethodName) prog_12_method_4_code (2 : Nat) (Option.none : Option FieldType) ∈ q_gw := q_tables_1_2 (i := 110) rfl rfl
theorem kX10_write : plainName mX10_write.1.cls = true ∧ Cond.code mX10_write.1 mX10_write.2.1 mX10_write.2.2.1 mX10_write.2.2.2 ∈ q_gw ∧ Cond.initialized mX10_write.1.cls ∈ q_gw ∧ (mX10_write.1.cls ≠ "java/lang/invoke/MethodHandle" ∧ mX10_write.1.cls ≠ "java/lang/invoke/VarHandle" ∧ (parseMethodDescriptor mX10_write.1.desc).map (fun d => d.parameters.length) = some 1) ∧ mX10_write.2.2.1 ≤ 20 := ⟨by decide +kernel, g350, g5, by decide +kernel, by decide⟩
theorem g348 : Cond.instanceMethod ({ cls := "ShownPatterns$Writer", name := "write", desc := "(LShownPatterns$Nodes;)V" } : MethodName) ∈ q_gw := q_tables_1_2 (i := 108) rfl rfl
theorem g349 : Cond.selects "ShownPatterns$Writer" ({ cls := "ShownPatterns$Writer", name := "write", desc := "(LShownPatterns$Nodes;)V" } : MethodName) ({ cls := "ShownPatterns$Writer", name := "write", desc := "(LShownPatterns$Nodes;)V" } : MethodName) ∈ q_gw := q_tables_1_2 (i := 109) rfl rfl
theorem g370 : Cond.methodLink "ShownPatterns" (99 : Nat) ({ cls := "ShownPatterns$Writer", name := "length", desc := "()I" } : MethodName) ∈ q_gw := q_tables_1_2 (i := 130) rfl rfl
theorem g373 : Cond.code ({ cls := "ShownPatterns$Writer", name := "length", desc := "()I" } : MethodName) prog_12_method_2_code (1 : Nat) (Option.some FieldType.int) ∈ q_gw := q_tables_1_2 (i := 133) rfl rfl
theorem kX10_length : plainName mX10_length.1.cls = true ∧ Cond.code mX10_length.1 mX10_length.2.1 mX10_length.2.2.1 mX10_length.2.2.2 ∈ q_gw ∧ Cond.initialized mX10_length.1.cls ∈ q_gw ∧ (mX10_length.1.cls ≠ "java/lang/invoke/MethodHandle" ∧ mX10_length.1.cls ≠ "java/lang/invoke/VarHandle" ∧ (parseMethodDescriptor mX10_length.1.desc).map (fun d => d.parameters.length) = some 0) ∧ mX10_length.2.2.1 ≤ 20 := ⟨by decide +kernel, g373, g5, by decide +kernel, by decide⟩
theorem g371 : Cond.instanceMethod ({ cls := "ShownPatterns$Writer", name := "length", desc := "()I" } : MethodName) ∈ q_gw := q_tables_1_2 (i := 131) rfl rfl
theorem g372 : Cond.selects "ShownPatterns$Writer" ({ cls := "ShownPatterns$Writer", name := "length", desc := "()I" } : MethodName) ({ cls := "ShownPatterns$Writer", name := "length", desc := "()I" } : MethodName) ∈ q_gw := q_tables_1_2 (i := 132) rfl rfl
theorem g374 : Cond.methodLink "ShownPatterns" (102 : Nat) ({ cls := "ShownPatterns$Writer", name := "signAt", desc := "(I)I" } : MethodName) ∈ q_gw := q_tables_1_2 (i := 134) rfl rfl
theorem g377 : Cond.code ({ cls := "ShownPatterns$Writer", name := "signAt", desc := "(I)I" } : MethodName) prog_12_method_3_code (2 : Nat) (Option.some FieldType.int) ∈ q_gw := q_tables_1_2 (i := 137) rfl rfl
theorem kX10_signAt : plainName mX10_signAt.1.cls = true ∧ Cond.code mX10_signAt.1 mX10_signAt.2.1 mX10_signAt.2.2.1 mX10_signAt.2.2.2 ∈ q_gw ∧ Cond.initialized mX10_signAt.1.cls ∈ q_gw ∧ (mX10_signAt.1.cls ≠ "java/lang/invoke/MethodHandle" ∧ mX10_signAt.1.cls ≠ "java/lang/invoke/VarHandle" ∧ (parseMethodDescriptor mX10_signAt.1.desc).map (fun d => d.parameters.length) = some 1) ∧ mX10_signAt.2.2.1 ≤ 20 := ⟨by decide +kernel, g377, g5, by decide +kernel, by decide⟩
theorem g375 : Cond.instanceMethod ({ cls := "ShownPatterns$Writer", name := "signAt", desc := "(I)I" } : MethodName) ∈ q_gw := q_tables_1_2 (i := 135) rfl rfl
theorem g376 : Cond.selects "ShownPatterns$Writer" ({ cls := "ShownPatterns$Writer", name := "signAt", desc := "(I)I" } : MethodName) ({ cls := "ShownPatterns$Writer", name := "signAt", desc := "(I)I" } : MethodName) ∈ q_gw := q_tables_1_2 (i := 136) rfl rfl
theorem g382 : Cond.methodLink "ShownPatterns" (106 : Nat) ({ cls := "ShownPatterns$Nodes", name := "clear", desc := "()V" } : MethodName) ∈ q_gw := q_tables_1_2 (i := 142) rfl rfl
theorem g387 : Cond.methodLink "ShownPatterns" (109 : Nat) ({ cls := "ShownPatterns", name := "theCatalogue", desc := "()LShownPatterns$Catalogue;" } : MethodName) ∈ q_gw := q_tables_1_2 (i := 147) rfl rfl
theorem g390 : Cond.code ({ cls := "ShownPatterns", name := "theCatalogue", desc := "()LShownPatterns$Catalogue;" } : MethodName) prog_1_method_30_code (1 : Nat) (Option.some (FieldType.object "ShownPatterns$Catalogue")) ∈ q_gw := q_tables_1_2 (i := 150) rfl rfl
theorem kX11_theCatalogue : plainName mX11_theCatalogue.1.cls = true ∧ Cond.code mX11_theCatalogue.1 mX11_theCatalogue.2.1 mX11_theCatalogue.2.2.1 mX11_theCatalogue.2.2.2 ∈ q_gw ∧ Cond.initialized mX11_theCatalogue.1.cls ∈ q_gw ∧ (mX11_theCatalogue.1.cls ≠ "java/lang/invoke/MethodHandle" ∧ mX11_theCatalogue.1.cls ≠ "java/lang/invoke/VarHandle" ∧ (parseMethodDescriptor mX11_theCatalogue.1.desc).map (fun d => d.parameters.length) = some 0) ∧ mX11_theCatalogue.2.2.1 ≤ 20 := ⟨by decide +kernel, g390, g1, by decide +kernel, by decide⟩
theorem g389 : Cond.instanceMethod ({ cls := "ShownPatterns", name := "theCatalogue", desc := "()LShownPatterns$Catalogue;" } : MethodName) ∈ q_gw := q_tables_1_2 (i := 149) rfl rfl
theorem gs14 : Cond.selects "ShownPatterns" ((⟨"ShownPatterns", "theCatalogue", "()LShownPatterns$Catalogue;"⟩ : MethodName)) (⟨"ShownPatterns", "theCatalogue", "()LShownPatterns$Catalogue;"⟩) ∈ q_gw := q_inS (i := 14) rfl rfl
theorem g447 : Cond.methodLink "ShownPatterns" (113 : Nat) ({ cls := "ShownPatterns$Catalogue", name := "size", desc := "(I)I" } : MethodName) ∈ q_gw := q_tables_1_2 (i := 207) rfl rfl
theorem g450 : Cond.code ({ cls := "ShownPatterns$Catalogue", name := "size", desc := "(I)I" } : MethodName) prog_3_method_5_code (2 : Nat) (Option.some FieldType.int) ∈ q_gw := q_tables_1_2 (i := 210) rfl rfl
theorem kX1_size : plainName mX1_size.1.cls = true ∧ Cond.code mX1_size.1 mX1_size.2.1 mX1_size.2.2.1 mX1_size.2.2.2 ∈ q_gw ∧ Cond.initialized mX1_size.1.cls ∈ q_gw ∧ (mX1_size.1.cls ≠ "java/lang/invoke/MethodHandle" ∧ mX1_size.1.cls ≠ "java/lang/invoke/VarHandle" ∧ (parseMethodDescriptor mX1_size.1.desc).map (fun d => d.parameters.length) = some 1) ∧ mX1_size.2.2.1 ≤ 20 := ⟨by decide +kernel, g450, g11, by decide +kernel, by decide⟩
theorem g448 : Cond.instanceMethod ({ cls := "ShownPatterns$Catalogue", name := "size", desc := "(I)I" } : MethodName) ∈ q_gw := q_tables_1_2 (i := 208) rfl rfl
theorem g449 : Cond.selects "ShownPatterns$Catalogue" ({ cls := "ShownPatterns$Catalogue", name := "size", desc := "(I)I" } : MethodName) ({ cls := "ShownPatterns$Catalogue", name := "size", desc := "(I)I" } : MethodName) ∈ q_gw := q_tables_1_2 (i := 209) rfl rfl
theorem g451 : Cond.methodLink "ShownPatterns" (117 : Nat) ({ cls := "ShownPatterns$Catalogue", name := "numberOf", desc := "(LShownPatterns$Nodes;)I" } : MethodName) ∈ q_gw := q_tables_1_2 (i := 211) rfl rfl
theorem g454 : Cond.code ({ cls := "ShownPatterns$Catalogue", name := "numberOf", desc := "(LShownPatterns$Nodes;)I" } : MethodName) prog_3_method_11_code (4 : Nat) (Option.some FieldType.int) ∈ q_gw := q_tables_1_2 (i := 214) rfl rfl
theorem kX1_numberOf : plainName mX1_numberOf.1.cls = true ∧ Cond.code mX1_numberOf.1 mX1_numberOf.2.1 mX1_numberOf.2.2.1 mX1_numberOf.2.2.2 ∈ q_gw ∧ Cond.initialized mX1_numberOf.1.cls ∈ q_gw ∧ (mX1_numberOf.1.cls ≠ "java/lang/invoke/MethodHandle" ∧ mX1_numberOf.1.cls ≠ "java/lang/invoke/VarHandle" ∧ (parseMethodDescriptor mX1_numberOf.1.desc).map (fun d => d.parameters.length) = some 1) ∧ mX1_numberOf.2.2.1 ≤ 20 := ⟨by decide +kernel, g454, g11, by decide +kernel, by decide⟩
theorem g452 : Cond.instanceMethod ({ cls := "ShownPatterns$Catalogue", name := "numberOf", desc := "(LShownPatterns$Nodes;)I" } : MethodName) ∈ q_gw := q_tables_1_2 (i := 212) rfl rfl
theorem g453 : Cond.selects "ShownPatterns$Catalogue" ({ cls := "ShownPatterns$Catalogue", name := "numberOf", desc := "(LShownPatterns$Nodes;)I" } : MethodName) ({ cls := "ShownPatterns$Catalogue", name := "numberOf", desc := "(LShownPatterns$Nodes;)I" } : MethodName) ∈ q_gw := q_tables_1_2 (i := 213) rfl rfl
theorem g470 : Cond.methodLink "ShownPatterns" (121 : Nat) ({ cls := "ShownPatterns$Catalogue", name := "begin", desc := "(I)I" } : MethodName) ∈ q_gw := q_tables_1_2 (i := 230) rfl rfl
theorem g475 : Cond.methodLink "ShownPatterns" (124 : Nat) ({ cls := "ShownPatterns", name := "isCost", desc := "(I)Z" } : MethodName) ∈ q_gw := q_tables_1_2 (i := 235) rfl rfl
theorem g477 : Cond.code ({ cls := "ShownPatterns", name := "isCost", desc := "(I)Z" } : MethodName) prog_1_method_37_code (1 : Nat) (Option.some FieldType.boolean) ∈ q_gw := q_tables_1_2 (i := 237) rfl rfl
theorem kX11_isCost : plainName mX11_isCost.1.cls = true ∧ Cond.code mX11_isCost.1 mX11_isCost.2.1 mX11_isCost.2.2.1 mX11_isCost.2.2.2 ∈ q_gw ∧ Cond.initialized mX11_isCost.1.cls ∈ q_gw ∧ (mX11_isCost.1.cls ≠ "java/lang/invoke/MethodHandle" ∧ mX11_isCost.1.cls ≠ "java/lang/invoke/VarHandle" ∧ (parseMethodDescriptor mX11_isCost.1.desc).map (fun d => d.parameters.length) = some 1) ∧ mX11_isCost.2.2.1 ≤ 20 := ⟨by decide +kernel, g477, g1, by decide +kernel, by decide⟩
theorem g476 : Cond.static ({ cls := "ShownPatterns", name := "isCost", desc := "(I)Z" } : MethodName) ∈ q_gw := q_tables_1_2 (i := 236) rfl rfl
theorem g478 : Cond.methodLink "ShownPatterns" (128 : Nat) ({ cls := "ShownPatterns$Catalogue", name := "nodes", desc := "()LShownPatterns$Nodes;" } : MethodName) ∈ q_gw := q_tables_1_2 (i := 238) rfl rfl
theorem g486 : Cond.methodLink "ShownPatterns" (129 : Nat) ({ cls := "ShownPatterns", name := "lengthOf", desc := "(I)I" } : MethodName) ∈ q_gw := q_tables_1_3 (i := 6) rfl rfl
theorem g491 : Cond.methodLink "ShownPatterns" (132 : Nat) ({ cls := "ShownPatterns$Automaton", name := "build", desc := "(LShownPatterns$Nodes;)V" } : MethodName) ∈ q_gw := q_tables_1_3 (i := 11) rfl rfl
theorem g494 : Cond.code ({ cls := "ShownPatterns$Automaton", name := "build", desc := "(LShownPatterns$Nodes;)V" } : MethodName) prog_2_method_2_code (4 : Nat) (Option.none : Option FieldType) ∈ q_gw := q_tables_1_3 (i := 14) rfl rfl
theorem kX0_build : plainName mX0_build.1.cls = true ∧ Cond.code mX0_build.1 mX0_build.2.1 mX0_build.2.2.1 mX0_build.2.2.2 ∈ q_gw ∧ Cond.initialized mX0_build.1.cls ∈ q_gw ∧ (mX0_build.1.cls ≠ "java/lang/invoke/MethodHandle" ∧ mX0_build.1.cls ≠ "java/lang/invoke/VarHandle" ∧ (parseMethodDescriptor mX0_build.1.desc).map (fun d => d.parameters.length) = some 1) ∧ mX0_build.2.2.1 ≤ 20 := ⟨by decide +kernel, g494, g6, by decide +kernel, by decide⟩
theorem g492 : Cond.instanceMethod ({ cls := "ShownPatterns$Automaton", name := "build", desc := "(LShownPatterns$Nodes;)V" } : MethodName) ∈ q_gw := q_tables_1_3 (i := 12) rfl rfl
theorem g493 : Cond.selects "ShownPatterns$Automaton" ({ cls := "ShownPatterns$Automaton", name := "build", desc := "(LShownPatterns$Nodes;)V" } : MethodName) ({ cls := "ShownPatterns$Automaton", name := "build", desc := "(LShownPatterns$Nodes;)V" } : MethodName) ∈ q_gw := q_tables_1_3 (i := 13) rfl rfl
theorem g521 : Cond.methodLink "ShownPatterns" (135 : Nat) ({ cls := "ShownPatterns$Automaton", name := "longestFit", desc := "(III)I" } : MethodName) ∈ q_gw := q_tables_1_3 (i := 41) rfl rfl
theorem g524 : Cond.code ({ cls := "ShownPatterns$Automaton", name := "longestFit", desc := "(III)I" } : MethodName) prog_2_method_9_code (7 : Nat) (Option.some FieldType.int) ∈ q_gw := q_tables_1_3 (i := 44) rfl rfl
theorem kX0_longestFit : plainName mX0_longestFit.1.cls = true ∧ Cond.code mX0_longestFit.1 mX0_longestFit.2.1 mX0_longestFit.2.2.1 mX0_longestFit.2.2.2 ∈ q_gw ∧ Cond.initialized mX0_longestFit.1.cls ∈ q_gw ∧ (mX0_longestFit.1.cls ≠ "java/lang/invoke/MethodHandle" ∧ mX0_longestFit.1.cls ≠ "java/lang/invoke/VarHandle" ∧ (parseMethodDescriptor mX0_longestFit.1.desc).map (fun d => d.parameters.length) = some 3) ∧ mX0_longestFit.2.2.1 ≤ 20 := ⟨by decide +kernel, g524, g6, by decide +kernel, by decide⟩
theorem g522 : Cond.instanceMethod ({ cls := "ShownPatterns$Automaton", name := "longestFit", desc := "(III)I" } : MethodName) ∈ q_gw := q_tables_1_3 (i := 42) rfl rfl
theorem g523 : Cond.selects "ShownPatterns$Automaton" ({ cls := "ShownPatterns$Automaton", name := "longestFit", desc := "(III)I" } : MethodName) ({ cls := "ShownPatterns$Automaton", name := "longestFit", desc := "(III)I" } : MethodName) ∈ q_gw := q_tables_1_3 (i := 43) rfl rfl
theorem g544 : Cond.methodLink "ShownPatterns" (139 : Nat) ({ cls := "ShownPatterns$Ways", name := "fill", desc := "(LShownPatterns$Automaton;I)V" } : MethodName) ∈ q_gw := q_tables_1_3 (i := 64) rfl rfl
theorem g547 : Cond.code ({ cls := "ShownPatterns$Ways", name := "fill", desc := "(LShownPatterns$Automaton;I)V" } : MethodName) prog_11_method_2_code (8 : Nat) (Option.none : Option FieldType) ∈ q_gw := q_tables_1_3 (i := 67) rfl rfl
theorem kX9_fill : plainName mX9_fill.1.cls = true ∧ Cond.code mX9_fill.1 mX9_fill.2.1 mX9_fill.2.2.1 mX9_fill.2.2.2 ∈ q_gw ∧ Cond.initialized mX9_fill.1.cls ∈ q_gw ∧ (mX9_fill.1.cls ≠ "java/lang/invoke/MethodHandle" ∧ mX9_fill.1.cls ≠ "java/lang/invoke/VarHandle" ∧ (parseMethodDescriptor mX9_fill.1.desc).map (fun d => d.parameters.length) = some 2) ∧ mX9_fill.2.2.1 ≤ 20 := ⟨by decide +kernel, g547, g7, by decide +kernel, by decide⟩
theorem g545 : Cond.instanceMethod ({ cls := "ShownPatterns$Ways", name := "fill", desc := "(LShownPatterns$Automaton;I)V" } : MethodName) ∈ q_gw := q_tables_1_3 (i := 65) rfl rfl
theorem g546 : Cond.selects "ShownPatterns$Ways" ({ cls := "ShownPatterns$Ways", name := "fill", desc := "(LShownPatterns$Automaton;I)V" } : MethodName) ({ cls := "ShownPatterns$Ways", name := "fill", desc := "(LShownPatterns$Automaton;I)V" } : MethodName) ∈ q_gw := q_tables_1_3 (i := 66) rfl rfl
theorem g555 : Cond.methodLink "ShownPatterns" (143 : Nat) ({ cls := "ShownPatterns$Ways", name := "from", desc := "(II)I" } : MethodName) ∈ q_gw := q_tables_1_3 (i := 75) rfl rfl
theorem g560 : Cond.methodLink "ShownPatterns" (146 : Nat) ({ cls := "ShownPatterns", name := "many", desc := "(II)I" } : MethodName) ∈ q_gw := q_tables_1_3 (i := 80) rfl rfl
theorem g543 : Cond.code ({ cls := "ShownPatterns", name := "many", desc := "(II)I" } : MethodName) prog_1_method_10_code (4 : Nat) (Option.some FieldType.int) ∈ q_gw := q_tables_1_3 (i := 63) rfl rfl
theorem kX11_many : plainName mX11_many.1.cls = true ∧ Cond.code mX11_many.1 mX11_many.2.1 mX11_many.2.2.1 mX11_many.2.2.2 ∈ q_gw ∧ Cond.initialized mX11_many.1.cls ∈ q_gw ∧ (mX11_many.1.cls ≠ "java/lang/invoke/MethodHandle" ∧ mX11_many.1.cls ≠ "java/lang/invoke/VarHandle" ∧ (parseMethodDescriptor mX11_many.1.desc).map (fun d => d.parameters.length) = some 2) ∧ mX11_many.2.2.1 ≤ 20 := ⟨by decide +kernel, g543, g1, by decide +kernel, by decide⟩
theorem g541 : Cond.instanceMethod ({ cls := "ShownPatterns", name := "many", desc := "(II)I" } : MethodName) ∈ q_gw := q_tables_1_3 (i := 61) rfl rfl
theorem g542 : Cond.selects "ShownPatterns" ({ cls := "ShownPatterns", name := "many", desc := "(II)I" } : MethodName) ({ cls := "ShownPatterns", name := "many", desc := "(II)I" } : MethodName) ∈ q_gw := q_tables_1_3 (i := 62) rfl rfl
theorem g561 : Cond.methodLink "ShownPatterns" (149 : Nat) ({ cls := "ShownPatterns$Ways", name := "rowAt", desc := "(LShownPatterns$Automaton;II)I" } : MethodName) ∈ q_gw := q_tables_1_3 (i := 81) rfl rfl
theorem g564 : Cond.code ({ cls := "ShownPatterns$Ways", name := "rowAt", desc := "(LShownPatterns$Automaton;II)I" } : MethodName) prog_11_method_4_code (10 : Nat) (Option.some FieldType.int) ∈ q_gw := q_tables_1_3 (i := 84) rfl rfl
theorem kX9_rowAt : plainName mX9_rowAt.1.cls = true ∧ Cond.code mX9_rowAt.1 mX9_rowAt.2.1 mX9_rowAt.2.2.1 mX9_rowAt.2.2.2 ∈ q_gw ∧ Cond.initialized mX9_rowAt.1.cls ∈ q_gw ∧ (mX9_rowAt.1.cls ≠ "java/lang/invoke/MethodHandle" ∧ mX9_rowAt.1.cls ≠ "java/lang/invoke/VarHandle" ∧ (parseMethodDescriptor mX9_rowAt.1.desc).map (fun d => d.parameters.length) = some 3) ∧ mX9_rowAt.2.2.1 ≤ 20 := ⟨by decide +kernel, g564, g7, by decide +kernel, by decide⟩
theorem g562 : Cond.instanceMethod ({ cls := "ShownPatterns$Ways", name := "rowAt", desc := "(LShownPatterns$Automaton;II)I" } : MethodName) ∈ q_gw := q_tables_1_3 (i := 82) rfl rfl
theorem g563 : Cond.selects "ShownPatterns$Ways" ({ cls := "ShownPatterns$Ways", name := "rowAt", desc := "(LShownPatterns$Automaton;II)I" } : MethodName) ({ cls := "ShownPatterns$Ways", name := "rowAt", desc := "(LShownPatterns$Automaton;II)I" } : MethodName) ∈ q_gw := q_tables_1_3 (i := 83) rfl rfl
theorem g569 : Cond.methodLink "ShownPatterns" (153 : Nat) ({ cls := "ShownPatterns", name := "partingRow", desc := "(IIZ)I" } : MethodName) ∈ q_gw := q_tables_1_3 (i := 89) rfl rfl
theorem g572 : Cond.code ({ cls := "ShownPatterns", name := "partingRow", desc := "(IIZ)I" } : MethodName) prog_1_method_33_code (6 : Nat) (Option.some FieldType.int) ∈ q_gw := q_tables_1_3 (i := 92) rfl rfl
theorem kX11_partingRow : plainName mX11_partingRow.1.cls = true ∧ Cond.code mX11_partingRow.1 mX11_partingRow.2.1 mX11_partingRow.2.2.1 mX11_partingRow.2.2.2 ∈ q_gw ∧ Cond.initialized mX11_partingRow.1.cls ∈ q_gw ∧ (mX11_partingRow.1.cls ≠ "java/lang/invoke/MethodHandle" ∧ mX11_partingRow.1.cls ≠ "java/lang/invoke/VarHandle" ∧ (parseMethodDescriptor mX11_partingRow.1.desc).map (fun d => d.parameters.length) = some 3) ∧ mX11_partingRow.2.2.1 ≤ 20 := ⟨by decide +kernel, g572, g1, by decide +kernel, by decide⟩
theorem g571 : Cond.instanceMethod ({ cls := "ShownPatterns", name := "partingRow", desc := "(IIZ)I" } : MethodName) ∈ q_gw := q_tables_1_3 (i := 91) rfl rfl
theorem gs25 : Cond.selects "ShownPatterns" ((⟨"ShownPatterns", "partingRow", "(IIZ)I"⟩ : MethodName)) (⟨"ShownPatterns", "partingRow", "(IIZ)I"⟩) ∈ q_gw := q_inS (i := 25) rfl rfl
theorem g620 : Cond.methodLink "ShownPatterns" (157 : Nat) ({ cls := "ShownPatterns", name := "isPart", desc := "(III)Z" } : MethodName) ∈ q_gw := q_tables_1_3 (i := 140) rfl rfl
theorem g622 : Cond.code ({ cls := "ShownPatterns", name := "isPart", desc := "(III)Z" } : MethodName) prog_1_method_35_code (3 : Nat) (Option.some FieldType.boolean) ∈ q_gw := q_tables_1_3 (i := 142) rfl rfl
theorem kX11_isPart : plainName mX11_isPart.1.cls = true ∧ Cond.code mX11_isPart.1 mX11_isPart.2.1 mX11_isPart.2.2.1 mX11_isPart.2.2.2 ∈ q_gw ∧ Cond.initialized mX11_isPart.1.cls ∈ q_gw ∧ (mX11_isPart.1.cls ≠ "java/lang/invoke/MethodHandle" ∧ mX11_isPart.1.cls ≠ "java/lang/invoke/VarHandle" ∧ (parseMethodDescriptor mX11_isPart.1.desc).map (fun d => d.parameters.length) = some 3) ∧ mX11_isPart.2.2.1 ≤ 20 := ⟨by decide +kernel, g622, g1, by decide +kernel, by decide⟩
theorem g621 : Cond.static ({ cls := "ShownPatterns", name := "isPart", desc := "(III)Z" } : MethodName) ∈ q_gw := q_tables_1_3 (i := 141) rfl rfl
theorem g623 : Cond.methodLink "ShownPatterns" (161 : Nat) ({ cls := "ShownPatterns$Showings", name := "add", desc := "(IIII)I" } : MethodName) ∈ q_gw := q_tables_1_3 (i := 143) rfl rfl
theorem g626 : Cond.code ({ cls := "ShownPatterns$Showings", name := "add", desc := "(IIII)I" } : MethodName) prog_9_method_4_code (5 : Nat) (Option.some FieldType.int) ∈ q_gw := q_tables_1_3 (i := 146) rfl rfl
theorem kX7_add : plainName mX7_add.1.cls = true ∧ Cond.code mX7_add.1 mX7_add.2.1 mX7_add.2.2.1 mX7_add.2.2.2 ∈ q_gw ∧ Cond.initialized mX7_add.1.cls ∈ q_gw ∧ (mX7_add.1.cls ≠ "java/lang/invoke/MethodHandle" ∧ mX7_add.1.cls ≠ "java/lang/invoke/VarHandle" ∧ (parseMethodDescriptor mX7_add.1.desc).map (fun d => d.parameters.length) = some 4) ∧ mX7_add.2.2.1 ≤ 20 := ⟨by decide +kernel, g626, g9, by decide +kernel, by decide⟩
theorem g624 : Cond.instanceMethod ({ cls := "ShownPatterns$Showings", name := "add", desc := "(IIII)I" } : MethodName) ∈ q_gw := q_tables_1_3 (i := 144) rfl rfl
theorem g625 : Cond.selects "ShownPatterns$Showings" ({ cls := "ShownPatterns$Showings", name := "add", desc := "(IIII)I" } : MethodName) ({ cls := "ShownPatterns$Showings", name := "add", desc := "(IIII)I" } : MethodName) ∈ q_gw := q_tables_1_3 (i := 145) rfl rfl
theorem g631 : Cond.methodLink "ShownPatterns" (165 : Nat) ({ cls := "ShownPatterns$Showings", name := "has", desc := "(I)Z" } : MethodName) ∈ q_gw := q_tables_1_3 (i := 151) rfl rfl
theorem g635 : Cond.methodLink "ShownPatterns" (168 : Nat) ({ cls := "ShownPatterns$Showings", name := "takeBack", desc := "(II)I" } : MethodName) ∈ q_gw := q_tables_1_3 (i := 155) rfl rfl
theorem g638 : Cond.code ({ cls := "ShownPatterns$Showings", name := "takeBack", desc := "(II)I" } : MethodName) prog_9_method_5_code (4 : Nat) (Option.some FieldType.int) ∈ q_gw := q_tables_1_3 (i := 158) rfl rfl
theorem kX7_takeBack : plainName mX7_takeBack.1.cls = true ∧ Cond.code mX7_takeBack.1 mX7_takeBack.2.1 mX7_takeBack.2.2.1 mX7_takeBack.2.2.2 ∈ q_gw ∧ Cond.initialized mX7_takeBack.1.cls ∈ q_gw ∧ (mX7_takeBack.1.cls ≠ "java/lang/invoke/MethodHandle" ∧ mX7_takeBack.1.cls ≠ "java/lang/invoke/VarHandle" ∧ (parseMethodDescriptor mX7_takeBack.1.desc).map (fun d => d.parameters.length) = some 2) ∧ mX7_takeBack.2.2.1 ≤ 20 := ⟨by decide +kernel, g638, g9, by decide +kernel, by decide⟩
theorem g636 : Cond.instanceMethod ({ cls := "ShownPatterns$Showings", name := "takeBack", desc := "(II)I" } : MethodName) ∈ q_gw := q_tables_1_3 (i := 156) rfl rfl
theorem g637 : Cond.selects "ShownPatterns$Showings" ({ cls := "ShownPatterns$Showings", name := "takeBack", desc := "(II)I" } : MethodName) ({ cls := "ShownPatterns$Showings", name := "takeBack", desc := "(II)I" } : MethodName) ∈ q_gw := q_tables_1_3 (i := 157) rfl rfl
theorem g643 : Cond.methodLink "ShownPatterns" (171 : Nat) ({ cls := "ShownPatterns", name := "agreesWith", desc := "(LShownPatterns$Nodes;I)Z" } : MethodName) ∈ q_gw := q_tables_1_3 (i := 163) rfl rfl
theorem g646 : Cond.code ({ cls := "ShownPatterns", name := "agreesWith", desc := "(LShownPatterns$Nodes;I)Z" } : MethodName) prog_1_method_34_code (3 : Nat) (Option.some FieldType.boolean) ∈ q_gw := q_tables_1_3 (i := 166) rfl rfl
theorem kX11_agreesWith : plainName mX11_agreesWith.1.cls = true ∧ Cond.code mX11_agreesWith.1 mX11_agreesWith.2.1 mX11_agreesWith.2.2.1 mX11_agreesWith.2.2.2 ∈ q_gw ∧ Cond.initialized mX11_agreesWith.1.cls ∈ q_gw ∧ (mX11_agreesWith.1.cls ≠ "java/lang/invoke/MethodHandle" ∧ mX11_agreesWith.1.cls ≠ "java/lang/invoke/VarHandle" ∧ (parseMethodDescriptor mX11_agreesWith.1.desc).map (fun d => d.parameters.length) = some 2) ∧ mX11_agreesWith.2.2.1 ≤ 20 := ⟨by decide +kernel, g646, g1, by decide +kernel, by decide⟩
theorem g645 : Cond.instanceMethod ({ cls := "ShownPatterns", name := "agreesWith", desc := "(LShownPatterns$Nodes;I)Z" } : MethodName) ∈ q_gw := q_tables_1_3 (i := 165) rfl rfl
theorem gs28 : Cond.selects "ShownPatterns" ((⟨"ShownPatterns", "agreesWith", "(LShownPatterns$Nodes;I)Z"⟩ : MethodName)) (⟨"ShownPatterns", "agreesWith", "(LShownPatterns$Nodes;I)Z"⟩) ∈ q_gw := q_inS (i := 28) rfl rfl
theorem g707 : Cond.methodLink "ShownPatterns" (175 : Nat) ({ cls := "ShownPatterns$Showings", name := "size", desc := "()I" } : MethodName) ∈ q_gw := q_tables_1_3 (i := 227) rfl rfl
theorem g711 : Cond.methodLink "ShownPatterns" (176 : Nat) ({ cls := "ShownPatterns$Showings", name := "standing", desc := "()I" } : MethodName) ∈ q_gw := q_tables_1_3 (i := 231) rfl rfl
theorem g715 : Cond.methodLink "ShownPatterns" (179 : Nat) ({ cls := "ShownPatterns$Showings", name := "priceOf", desc := "(I)I" } : MethodName) ∈ q_gw := q_tables_1_3 (i := 235) rfl rfl
theorem g723 : Cond.methodLink "ShownPatterns" (182 : Nat) ({ cls := "ShownPatterns", name := "isKinds", desc := "(I)Z" } : MethodName) ∈ q_gw := q_tables_1_4 (i := 3) rfl rfl
theorem g725 : Cond.code ({ cls := "ShownPatterns", name := "isKinds", desc := "(I)Z" } : MethodName) prog_1_method_36_code (1 : Nat) (Option.some FieldType.boolean) ∈ q_gw := q_tables_1_4 (i := 5) rfl rfl
theorem kX11_isKinds : plainName mX11_isKinds.1.cls = true ∧ Cond.code mX11_isKinds.1 mX11_isKinds.2.1 mX11_isKinds.2.2.1 mX11_isKinds.2.2.2 ∈ q_gw ∧ Cond.initialized mX11_isKinds.1.cls ∈ q_gw ∧ (mX11_isKinds.1.cls ≠ "java/lang/invoke/MethodHandle" ∧ mX11_isKinds.1.cls ≠ "java/lang/invoke/VarHandle" ∧ (parseMethodDescriptor mX11_isKinds.1.desc).map (fun d => d.parameters.length) = some 1) ∧ mX11_isKinds.2.2.1 ≤ 20 := ⟨by decide +kernel, g725, g1, by decide +kernel, by decide⟩
theorem g724 : Cond.static ({ cls := "ShownPatterns", name := "isKinds", desc := "(I)Z" } : MethodName) ∈ q_gw := q_tables_1_4 (i := 4) rfl rfl
theorem g726 : Cond.methodLink "ShownPatterns" (185 : Nat) ({ cls := "ShownPatterns", name := "theFinder", desc := "()LShownPatterns$Finder;" } : MethodName) ∈ q_gw := q_tables_1_4 (i := 6) rfl rfl
theorem g729 : Cond.code ({ cls := "ShownPatterns", name := "theFinder", desc := "()LShownPatterns$Finder;" } : MethodName) prog_1_method_31_code (1 : Nat) (Option.some (FieldType.object "ShownPatterns$Finder")) ∈ q_gw := q_tables_1_4 (i := 9) rfl rfl
theorem kX11_theFinder : plainName mX11_theFinder.1.cls = true ∧ Cond.code mX11_theFinder.1 mX11_theFinder.2.1 mX11_theFinder.2.2.1 mX11_theFinder.2.2.2 ∈ q_gw ∧ Cond.initialized mX11_theFinder.1.cls ∈ q_gw ∧ (mX11_theFinder.1.cls ≠ "java/lang/invoke/MethodHandle" ∧ mX11_theFinder.1.cls ≠ "java/lang/invoke/VarHandle" ∧ (parseMethodDescriptor mX11_theFinder.1.desc).map (fun d => d.parameters.length) = some 0) ∧ mX11_theFinder.2.2.1 ≤ 20 := ⟨by decide +kernel, g729, g1, by decide +kernel, by decide⟩
theorem g728 : Cond.instanceMethod ({ cls := "ShownPatterns", name := "theFinder", desc := "()LShownPatterns$Finder;" } : MethodName) ∈ q_gw := q_tables_1_4 (i := 8) rfl rfl
theorem gs31 : Cond.selects "ShownPatterns" ((⟨"ShownPatterns", "theFinder", "()LShownPatterns$Finder;"⟩ : MethodName)) (⟨"ShownPatterns", "theFinder", "()LShownPatterns$Finder;"⟩) ∈ q_gw := q_inS (i := 31) rfl rfl
theorem g866 : Cond.methodLink "ShownPatterns" (189 : Nat) ({ cls := "ShownPatterns$Finder", name := "begin", desc := "(II)V" } : MethodName) ∈ q_gw := q_tables_1_4 (i := 146) rfl rfl
theorem g869 : Cond.code ({ cls := "ShownPatterns$Finder", name := "begin", desc := "(II)V" } : MethodName) prog_4_method_6_code (3 : Nat) (Option.none : Option FieldType) ∈ q_gw := q_tables_1_4 (i := 149) rfl rfl
theorem kX2_begin : plainName mX2_begin.1.cls = true ∧ Cond.code mX2_begin.1 mX2_begin.2.1 mX2_begin.2.2.1 mX2_begin.2.2.2 ∈ q_gw ∧ Cond.initialized mX2_begin.1.cls ∈ q_gw ∧ (mX2_begin.1.cls ≠ "java/lang/invoke/MethodHandle" ∧ mX2_begin.1.cls ≠ "java/lang/invoke/VarHandle" ∧ (parseMethodDescriptor mX2_begin.1.desc).map (fun d => d.parameters.length) = some 2) ∧ mX2_begin.2.2.1 ≤ 20 := ⟨by decide +kernel, g869, g14, by decide +kernel, by decide⟩
theorem g867 : Cond.instanceMethod ({ cls := "ShownPatterns$Finder", name := "begin", desc := "(II)V" } : MethodName) ∈ q_gw := q_tables_1_4 (i := 147) rfl rfl
theorem g868 : Cond.selects "ShownPatterns$Finder" ({ cls := "ShownPatterns$Finder", name := "begin", desc := "(II)V" } : MethodName) ({ cls := "ShownPatterns$Finder", name := "begin", desc := "(II)V" } : MethodName) ∈ q_gw := q_tables_1_4 (i := 148) rfl rfl
theorem g871 : Cond.methodLink "ShownPatterns" (194 : Nat) ({ cls := "ShownPatterns$Finder", name := "goOn", desc := "()I" } : MethodName) ∈ q_gw := q_tables_1_4 (i := 151) rfl rfl
theorem g874 : Cond.code ({ cls := "ShownPatterns$Finder", name := "goOn", desc := "()I" } : MethodName) prog_4_method_9_code (1 : Nat) (Option.some FieldType.int) ∈ q_gw := q_tables_1_4 (i := 154) rfl rfl
theorem kX2_goOn : plainName mX2_goOn.1.cls = true ∧ Cond.code mX2_goOn.1 mX2_goOn.2.1 mX2_goOn.2.2.1 mX2_goOn.2.2.2 ∈ q_gw ∧ Cond.initialized mX2_goOn.1.cls ∈ q_gw ∧ (mX2_goOn.1.cls ≠ "java/lang/invoke/MethodHandle" ∧ mX2_goOn.1.cls ≠ "java/lang/invoke/VarHandle" ∧ (parseMethodDescriptor mX2_goOn.1.desc).map (fun d => d.parameters.length) = some 0) ∧ mX2_goOn.2.2.1 ≤ 20 := ⟨by decide +kernel, g874, g14, by decide +kernel, by decide⟩
theorem g872 : Cond.instanceMethod ({ cls := "ShownPatterns$Finder", name := "goOn", desc := "()I" } : MethodName) ∈ q_gw := q_tables_1_4 (i := 152) rfl rfl
theorem g873 : Cond.selects "ShownPatterns$Finder" ({ cls := "ShownPatterns$Finder", name := "goOn", desc := "()I" } : MethodName) ({ cls := "ShownPatterns$Finder", name := "goOn", desc := "()I" } : MethodName) ∈ q_gw := q_tables_1_4 (i := 153) rfl rfl
theorem g899 : Cond.methodLink "ShownPatterns" (197 : Nat) ({ cls := "ShownPatterns", name := "putFound", desc := "(LShownPatterns$Nodes;I)I" } : MethodName) ∈ q_gw := q_tables_1_4 (i := 179) rfl rfl
theorem g902 : Cond.code ({ cls := "ShownPatterns", name := "putFound", desc := "(LShownPatterns$Nodes;I)I" } : MethodName) prog_1_method_32_code (3 : Nat) (Option.some FieldType.int) ∈ q_gw := q_tables_1_4 (i := 182) rfl rfl
theorem kX11_putFound : plainName mX11_putFound.1.cls = true ∧ Cond.code mX11_putFound.1 mX11_putFound.2.1 mX11_putFound.2.2.1 mX11_putFound.2.2.2 ∈ q_gw ∧ Cond.initialized mX11_putFound.1.cls ∈ q_gw ∧ (mX11_putFound.1.cls ≠ "java/lang/invoke/MethodHandle" ∧ mX11_putFound.1.cls ≠ "java/lang/invoke/VarHandle" ∧ (parseMethodDescriptor mX11_putFound.1.desc).map (fun d => d.parameters.length) = some 2) ∧ mX11_putFound.2.2.1 ≤ 20 := ⟨by decide +kernel, g902, g1, by decide +kernel, by decide⟩
theorem g901 : Cond.instanceMethod ({ cls := "ShownPatterns", name := "putFound", desc := "(LShownPatterns$Nodes;I)I" } : MethodName) ∈ q_gw := q_tables_1_4 (i := 181) rfl rfl
theorem gs43 : Cond.selects "ShownPatterns" ((⟨"ShownPatterns", "putFound", "(LShownPatterns$Nodes;I)I"⟩ : MethodName)) (⟨"ShownPatterns", "putFound", "(LShownPatterns$Nodes;I)I"⟩) ∈ q_gw := q_inS (i := 43) rfl rfl
theorem g188 : Cond.fieldLink "ShownPatterns" (201 : Nat) "ShownPatterns" "finder" "LShownPatterns$Finder;" ∈ q_gw := q_tables_1_1 (i := 188) rfl rfl
theorem g907 : Cond.methodLink "ShownPatterns" (205 : Nat) ({ cls := "ShownPatterns$Finder", name := "hasBegun", desc := "()Z" } : MethodName) ∈ q_gw := q_tables_1_4 (i := 187) rfl rfl
theorem g910 : Cond.code ({ cls := "ShownPatterns$Finder", name := "hasBegun", desc := "()Z" } : MethodName) prog_4_method_7_code (1 : Nat) (Option.some FieldType.boolean) ∈ q_gw := q_tables_1_4 (i := 190) rfl rfl
theorem kX2_hasBegun : plainName mX2_hasBegun.1.cls = true ∧ Cond.code mX2_hasBegun.1 mX2_hasBegun.2.1 mX2_hasBegun.2.2.1 mX2_hasBegun.2.2.2 ∈ q_gw ∧ Cond.initialized mX2_hasBegun.1.cls ∈ q_gw ∧ (mX2_hasBegun.1.cls ≠ "java/lang/invoke/MethodHandle" ∧ mX2_hasBegun.1.cls ≠ "java/lang/invoke/VarHandle" ∧ (parseMethodDescriptor mX2_hasBegun.1.desc).map (fun d => d.parameters.length) = some 0) ∧ mX2_hasBegun.2.2.1 ≤ 20 := ⟨by decide +kernel, g910, g14, by decide +kernel, by decide⟩
theorem g908 : Cond.instanceMethod ({ cls := "ShownPatterns$Finder", name := "hasBegun", desc := "()Z" } : MethodName) ∈ q_gw := q_tables_1_4 (i := 188) rfl rfl
theorem g909 : Cond.selects "ShownPatterns$Finder" ({ cls := "ShownPatterns$Finder", name := "hasBegun", desc := "()Z" } : MethodName) ({ cls := "ShownPatterns$Finder", name := "hasBegun", desc := "()Z" } : MethodName) ∈ q_gw := q_tables_1_4 (i := 189) rfl rfl
theorem g915 : Cond.methodLink "ShownPatterns" (209 : Nat) ({ cls := "ShownPatterns$Finder", name := "foundSoFar", desc := "()I" } : MethodName) ∈ q_gw := q_tables_1_4 (i := 195) rfl rfl
theorem g918 : Cond.code ({ cls := "ShownPatterns$Finder", name := "foundSoFar", desc := "()I" } : MethodName) prog_4_method_8_code (1 : Nat) (Option.some FieldType.int) ∈ q_gw := q_tables_1_4 (i := 198) rfl rfl
theorem kX2_foundSoFar : plainName mX2_foundSoFar.1.cls = true ∧ Cond.code mX2_foundSoFar.1 mX2_foundSoFar.2.1 mX2_foundSoFar.2.2.1 mX2_foundSoFar.2.2.2 ∈ q_gw ∧ Cond.initialized mX2_foundSoFar.1.cls ∈ q_gw ∧ (mX2_foundSoFar.1.cls ≠ "java/lang/invoke/MethodHandle" ∧ mX2_foundSoFar.1.cls ≠ "java/lang/invoke/VarHandle" ∧ (parseMethodDescriptor mX2_foundSoFar.1.desc).map (fun d => d.parameters.length) = some 0) ∧ mX2_foundSoFar.2.2.1 ≤ 20 := ⟨by decide +kernel, g918, g14, by decide +kernel, by decide⟩
theorem g916 : Cond.instanceMethod ({ cls := "ShownPatterns$Finder", name := "foundSoFar", desc := "()I" } : MethodName) ∈ q_gw := q_tables_1_4 (i := 196) rfl rfl
theorem g917 : Cond.selects "ShownPatterns$Finder" ({ cls := "ShownPatterns$Finder", name := "foundSoFar", desc := "()I" } : MethodName) ({ cls := "ShownPatterns$Finder", name := "foundSoFar", desc := "()I" } : MethodName) ∈ q_gw := q_tables_1_4 (i := 197) rfl rfl
theorem g923 : Cond.methodLink "ShownPatterns" (212 : Nat) ({ cls := "ShownPatterns$Finder", name := "countOpen", desc := "(II)I" } : MethodName) ∈ q_gw := q_tables_1_4 (i := 203) rfl rfl
theorem g931 : Cond.methodLink "ShownPatterns" (215 : Nat) ({ cls := "ShownPatterns$Finder", name := "evenestRow", desc := "(II)I" } : MethodName) ∈ q_gw := q_tables_1_4 (i := 211) rfl rfl
theorem g934 : Cond.code ({ cls := "ShownPatterns$Finder", name := "evenestRow", desc := "(II)I" } : MethodName) prog_4_method_14_code (8 : Nat) (Option.some FieldType.int) ∈ q_gw := q_tables_1_4 (i := 214) rfl rfl
theorem kX2_evenestRow : plainName mX2_evenestRow.1.cls = true ∧ Cond.code mX2_evenestRow.1 mX2_evenestRow.2.1 mX2_evenestRow.2.2.1 mX2_evenestRow.2.2.2 ∈ q_gw ∧ Cond.initialized mX2_evenestRow.1.cls ∈ q_gw ∧ (mX2_evenestRow.1.cls ≠ "java/lang/invoke/MethodHandle" ∧ mX2_evenestRow.1.cls ≠ "java/lang/invoke/VarHandle" ∧ (parseMethodDescriptor mX2_evenestRow.1.desc).map (fun d => d.parameters.length) = some 2) ∧ mX2_evenestRow.2.2.1 ≤ 20 := ⟨by decide +kernel, g934, g14, by decide +kernel, by decide⟩
theorem g932 : Cond.instanceMethod ({ cls := "ShownPatterns$Finder", name := "evenestRow", desc := "(II)I" } : MethodName) ∈ q_gw := q_tables_1_4 (i := 212) rfl rfl
theorem g933 : Cond.selects "ShownPatterns$Finder" ({ cls := "ShownPatterns$Finder", name := "evenestRow", desc := "(II)I" } : MethodName) ({ cls := "ShownPatterns$Finder", name := "evenestRow", desc := "(II)I" } : MethodName) ∈ q_gw := q_tables_1_4 (i := 213) rfl rfl
theorem g961 : Cond.methodLink "ShownPatterns" (218 : Nat) ({ cls := "ShownPatterns$Finder", name := "haveAskedRow", desc := "()I" } : MethodName) ∈ q_gw := q_tables_1_5 (i := 1) rfl rfl
theorem g964 : Cond.code ({ cls := "ShownPatterns$Finder", name := "haveAskedRow", desc := "()I" } : MethodName) prog_4_method_16_code (1 : Nat) (Option.some FieldType.int) ∈ q_gw := q_tables_1_5 (i := 4) rfl rfl
theorem kX2_haveAskedRow : plainName mX2_haveAskedRow.1.cls = true ∧ Cond.code mX2_haveAskedRow.1 mX2_haveAskedRow.2.1 mX2_haveAskedRow.2.2.1 mX2_haveAskedRow.2.2.2 ∈ q_gw ∧ Cond.initialized mX2_haveAskedRow.1.cls ∈ q_gw ∧ (mX2_haveAskedRow.1.cls ≠ "java/lang/invoke/MethodHandle" ∧ mX2_haveAskedRow.1.cls ≠ "java/lang/invoke/VarHandle" ∧ (parseMethodDescriptor mX2_haveAskedRow.1.desc).map (fun d => d.parameters.length) = some 0) ∧ mX2_haveAskedRow.2.2.1 ≤ 20 := ⟨by decide +kernel, g964, g14, by decide +kernel, by decide⟩
theorem g962 : Cond.instanceMethod ({ cls := "ShownPatterns$Finder", name := "haveAskedRow", desc := "()I" } : MethodName) ∈ q_gw := q_tables_1_5 (i := 2) rfl rfl
theorem g963 : Cond.selects "ShownPatterns$Finder" ({ cls := "ShownPatterns$Finder", name := "haveAskedRow", desc := "()I" } : MethodName) ({ cls := "ShownPatterns$Finder", name := "haveAskedRow", desc := "()I" } : MethodName) ∈ q_gw := q_tables_1_5 (i := 3) rfl rfl
theorem g969 : Cond.methodLink "ShownPatterns" (221 : Nat) ({ cls := "ShownPatterns$Finder", name := "cheapest", desc := "(II)I" } : MethodName) ∈ q_gw := q_tables_1_5 (i := 9) rfl rfl
theorem g972 : Cond.code ({ cls := "ShownPatterns$Finder", name := "cheapest", desc := "(II)I" } : MethodName) prog_4_method_17_code (9 : Nat) (Option.some FieldType.int) ∈ q_gw := q_tables_1_5 (i := 12) rfl rfl
theorem kX2_cheapest : plainName mX2_cheapest.1.cls = true ∧ Cond.code mX2_cheapest.1 mX2_cheapest.2.1 mX2_cheapest.2.2.1 mX2_cheapest.2.2.2 ∈ q_gw ∧ Cond.initialized mX2_cheapest.1.cls ∈ q_gw ∧ (mX2_cheapest.1.cls ≠ "java/lang/invoke/MethodHandle" ∧ mX2_cheapest.1.cls ≠ "java/lang/invoke/VarHandle" ∧ (parseMethodDescriptor mX2_cheapest.1.desc).map (fun d => d.parameters.length) = some 2) ∧ mX2_cheapest.2.2.1 ≤ 20 := ⟨by decide +kernel, g972, g14, by decide +kernel, by decide⟩
theorem g970 : Cond.instanceMethod ({ cls := "ShownPatterns$Finder", name := "cheapest", desc := "(II)I" } : MethodName) ∈ q_gw := q_tables_1_5 (i := 10) rfl rfl
theorem g971 : Cond.selects "ShownPatterns$Finder" ({ cls := "ShownPatterns$Finder", name := "cheapest", desc := "(II)I" } : MethodName) ({ cls := "ShownPatterns$Finder", name := "cheapest", desc := "(II)I" } : MethodName) ∈ q_gw := q_tables_1_5 (i := 11) rfl rfl
theorem g979 : Cond.methodLink "ShownPatterns" (224 : Nat) ({ cls := "ShownPatterns$Finder", name := "priceOf", desc := "(I)I" } : MethodName) ∈ q_gw := q_tables_1_5 (i := 19) rfl rfl
theorem g984 : Cond.methodLink "ShownPatterns" (225 : Nat) ({ cls := "ShownPatterns", name := "patternsInPlaces", desc := "()I" } : MethodName) ∈ q_gw := q_tables_1_5 (i := 24) rfl rfl
theorem g987 : Cond.code ({ cls := "ShownPatterns", name := "patternsInPlaces", desc := "()I" } : MethodName) prog_1_method_29_code (3 : Nat) (Option.some FieldType.int) ∈ q_gw := q_tables_1_5 (i := 27) rfl rfl
theorem kX11_patternsInPlaces : plainName mX11_patternsInPlaces.1.cls = true ∧ Cond.code mX11_patternsInPlaces.1 mX11_patternsInPlaces.2.1 mX11_patternsInPlaces.2.2.1 mX11_patternsInPlaces.2.2.2 ∈ q_gw ∧ Cond.initialized mX11_patternsInPlaces.1.cls ∈ q_gw ∧ (mX11_patternsInPlaces.1.cls ≠ "java/lang/invoke/MethodHandle" ∧ mX11_patternsInPlaces.1.cls ≠ "java/lang/invoke/VarHandle" ∧ (parseMethodDescriptor mX11_patternsInPlaces.1.desc).map (fun d => d.parameters.length) = some 0) ∧ mX11_patternsInPlaces.2.2.1 ≤ 20 := ⟨by decide +kernel, g987, g1, by decide +kernel, by decide⟩
theorem g986 : Cond.instanceMethod ({ cls := "ShownPatterns", name := "patternsInPlaces", desc := "()I" } : MethodName) ∈ q_gw := q_tables_1_5 (i := 26) rfl rfl
theorem gs46 : Cond.selects "ShownPatterns" ((⟨"ShownPatterns", "patternsInPlaces", "()I"⟩ : MethodName)) (⟨"ShownPatterns", "patternsInPlaces", "()I"⟩) ∈ q_gw := q_inS (i := 46) rfl rfl
theorem g988 : Cond.methodLink "ShownPatterns" (228 : Nat) ({ cls := "java/lang/Integer", name := "bitCount", desc := "(I)I" } : MethodName) ∈ q_gw := q_tables_1_5 (i := 28) rfl rfl
theorem g990 : Cond.code ({ cls := "java/lang/Integer", name := "bitCount", desc := "(I)I" } : MethodName) prog_15_method_49_code (1 : Nat) (Option.some FieldType.int) ∈ q_gw := q_tables_1_5 (i := 30) rfl rfl
theorem g17 : Cond.initialized "java/lang/Integer" ∈ q_gw := q_tables_1_1 (i := 17) rfl rfl
theorem kJ6_bitCount_0f7a4 : plainName mJ6_bitCount_0f7a4.1.cls = true ∧ Cond.code mJ6_bitCount_0f7a4.1 mJ6_bitCount_0f7a4.2.1 mJ6_bitCount_0f7a4.2.2.1 mJ6_bitCount_0f7a4.2.2.2 ∈ q_gw ∧ Cond.initialized mJ6_bitCount_0f7a4.1.cls ∈ q_gw ∧ (mJ6_bitCount_0f7a4.1.cls ≠ "java/lang/invoke/MethodHandle" ∧ mJ6_bitCount_0f7a4.1.cls ≠ "java/lang/invoke/VarHandle" ∧ (parseMethodDescriptor mJ6_bitCount_0f7a4.1.desc).map (fun d => d.parameters.length) = some 1) ∧ mJ6_bitCount_0f7a4.2.2.1 ≤ 20 := ⟨by decide +kernel, g990, g17, by decide +kernel, by decide⟩
theorem g989 : Cond.static ({ cls := "java/lang/Integer", name := "bitCount", desc := "(I)I" } : MethodName) ∈ q_gw := q_tables_1_5 (i := 29) rfl rfl
theorem g994 : Cond.methodLink "ShownPatterns" (233 : Nat) ({ cls := "ShownPatterns$Reader", name := "length", desc := "()I" } : MethodName) ∈ q_gw := q_tables_1_5 (i := 34) rfl rfl
theorem g997 : Cond.code ({ cls := "ShownPatterns$Reader", name := "length", desc := "()I" } : MethodName) prog_8_method_2_code (1 : Nat) (Option.some FieldType.int) ∈ q_gw := q_tables_1_5 (i := 37) rfl rfl
theorem kX6_length : plainName mX6_length.1.cls = true ∧ Cond.code mX6_length.1 mX6_length.2.1 mX6_length.2.2.1 mX6_length.2.2.2 ∈ q_gw ∧ Cond.initialized mX6_length.1.cls ∈ q_gw ∧ (mX6_length.1.cls ≠ "java/lang/invoke/MethodHandle" ∧ mX6_length.1.cls ≠ "java/lang/invoke/VarHandle" ∧ (parseMethodDescriptor mX6_length.1.desc).map (fun d => d.parameters.length) = some 0) ∧ mX6_length.2.2.1 ≤ 20 := ⟨by decide +kernel, g997, g2, by decide +kernel, by decide⟩
theorem g995 : Cond.instanceMethod ({ cls := "ShownPatterns$Reader", name := "length", desc := "()I" } : MethodName) ∈ q_gw := q_tables_1_5 (i := 35) rfl rfl
theorem g996 : Cond.selects "ShownPatterns$Reader" ({ cls := "ShownPatterns$Reader", name := "length", desc := "()I" } : MethodName) ({ cls := "ShownPatterns$Reader", name := "length", desc := "()I" } : MethodName) ∈ q_gw := q_tables_1_5 (i := 36) rfl rfl
theorem g187 : Cond.fieldLink "ShownPatterns" (234 : Nat) "ShownPatterns" "catalogue" "LShownPatterns$Catalogue;" ∈ q_gw := q_tables_1_1 (i := 187) rfl rfl
theorem g391 : Cond.classLink "ShownPatterns" (114 : Nat) "ShownPatterns$Catalogue" ∈ q_gw := q_tables_1_2 (i := 151) rfl rfl
theorem g392 : Cond.instantiable "ShownPatterns$Catalogue" (5 : Nat) ∈ q_gw := q_tables_1_2 (i := 152) rfl rfl
theorem g393 : Cond.methodLink "ShownPatterns" (238 : Nat) ({ cls := "ShownPatterns$Catalogue", name := "<init>", desc := "()V" } : MethodName) ∈ q_gw := q_tables_1_2 (i := 153) rfl rfl
theorem g395 : Cond.code ({ cls := "ShownPatterns$Catalogue", name := "<init>", desc := "()V" } : MethodName) prog_3_method_1_code (2 : Nat) (Option.none : Option FieldType) ∈ q_gw := q_tables_1_2 (i := 155) rfl rfl
theorem kX1_init : plainName mX1_init.1.cls = true ∧ Cond.code mX1_init.1 mX1_init.2.1 mX1_init.2.2.1 mX1_init.2.2.2 ∈ q_gw ∧ Cond.initialized mX1_init.1.cls ∈ q_gw ∧ (mX1_init.1.cls ≠ "java/lang/invoke/MethodHandle" ∧ mX1_init.1.cls ≠ "java/lang/invoke/VarHandle" ∧ (parseMethodDescriptor mX1_init.1.desc).map (fun d => d.parameters.length) = some 0) ∧ mX1_init.2.2.1 ≤ 20 := ⟨by decide +kernel, g395, g11, by decide +kernel, by decide⟩
theorem g394 : Cond.instanceMethod ({ cls := "ShownPatterns$Catalogue", name := "<init>", desc := "()V" } : MethodName) ∈ q_gw := q_tables_1_2 (i := 154) rfl rfl
theorem g730 : Cond.classLink "ShownPatterns" (190 : Nat) "ShownPatterns$Finder" ∈ q_gw := q_tables_1_4 (i := 10) rfl rfl
theorem g731 : Cond.instantiable "ShownPatterns$Finder" (17 : Nat) ∈ q_gw := q_tables_1_4 (i := 11) rfl rfl
theorem g732 : Cond.methodLink "ShownPatterns" (239 : Nat) ({ cls := "ShownPatterns$Finder", name := "<init>", desc := "(LShownPatterns$Catalogue;LShownPatterns$Showings;)V" } : MethodName) ∈ q_gw := q_tables_1_4 (i := 12) rfl rfl
theorem g734 : Cond.code ({ cls := "ShownPatterns$Finder", name := "<init>", desc := "(LShownPatterns$Catalogue;LShownPatterns$Showings;)V" } : MethodName) prog_4_method_1_code (9 : Nat) (Option.none : Option FieldType) ∈ q_gw := q_tables_1_4 (i := 14) rfl rfl
theorem kX2_init : plainName mX2_init.1.cls = true ∧ Cond.code mX2_init.1 mX2_init.2.1 mX2_init.2.2.1 mX2_init.2.2.2 ∈ q_gw ∧ Cond.initialized mX2_init.1.cls ∈ q_gw ∧ (mX2_init.1.cls ≠ "java/lang/invoke/MethodHandle" ∧ mX2_init.1.cls ≠ "java/lang/invoke/VarHandle" ∧ (parseMethodDescriptor mX2_init.1.desc).map (fun d => d.parameters.length) = some 2) ∧ mX2_init.2.2.1 ≤ 20 := ⟨by decide +kernel, g734, g14, by decide +kernel, by decide⟩
theorem g733 : Cond.instanceMethod ({ cls := "ShownPatterns$Finder", name := "<init>", desc := "(LShownPatterns$Catalogue;LShownPatterns$Showings;)V" } : MethodName) ∈ q_gw := q_tables_1_4 (i := 13) rfl rfl
theorem g186 : Cond.fieldLink "ShownPatterns" (242 : Nat) "ShownPatterns" "pairs" "LShownPatterns$Pairs;" ∈ q_gw := q_tables_1_1 (i := 186) rfl rfl
theorem g573 : Cond.classLink "ShownPatterns" (246 : Nat) "ShownPatterns$Pairs" ∈ q_gw := q_tables_1_3 (i := 93) rfl rfl
theorem g574 : Cond.instantiable "ShownPatterns$Pairs" (3 : Nat) ∈ q_gw := q_tables_1_3 (i := 94) rfl rfl
theorem gn575 : Cond.methodLinkNest "ShownPatterns" (248 : Nat) ({ cls := "ShownPatterns$Pairs", name := "<init>", desc := "()V" } : MethodName) "ShownPatterns" ∈ lw_tbl := q_ntables_1_3 (i := 95) rfl
theorem g577 : Cond.code ({ cls := "ShownPatterns$Pairs", name := "<init>", desc := "()V" } : MethodName) prog_7_method_1_code (1 : Nat) (Option.none : Option FieldType) ∈ q_gw := q_tables_1_3 (i := 97) rfl rfl
theorem kX5_init : plainName mX5_init.1.cls = true ∧ Cond.code mX5_init.1 mX5_init.2.1 mX5_init.2.2.1 mX5_init.2.2.2 ∈ q_gw ∧ Cond.initialized mX5_init.1.cls ∈ q_gw ∧ (mX5_init.1.cls ≠ "java/lang/invoke/MethodHandle" ∧ mX5_init.1.cls ≠ "java/lang/invoke/VarHandle" ∧ (parseMethodDescriptor mX5_init.1.desc).map (fun d => d.parameters.length) = some 0) ∧ mX5_init.2.2.1 ≤ 20 := ⟨by decide +kernel, g577, g13, by decide +kernel, by decide⟩
theorem g576 : Cond.instanceMethod ({ cls := "ShownPatterns$Pairs", name := "<init>", desc := "()V" } : MethodName) ∈ q_gw := q_tables_1_3 (i := 96) rfl rfl
theorem g589 : Cond.methodLink "ShownPatterns" (249 : Nat) ({ cls := "ShownPatterns$Pairs", name := "firstRow", desc := "(LShownPatterns$Automaton;LShownPatterns$Automaton;Z)I" } : MethodName) ∈ q_gw := q_tables_1_3 (i := 109) rfl rfl
theorem g592 : Cond.code ({ cls := "ShownPatterns$Pairs", name := "firstRow", desc := "(LShownPatterns$Automaton;LShownPatterns$Automaton;Z)I" } : MethodName) prog_7_method_2_code (12 : Nat) (Option.some FieldType.int) ∈ q_gw := q_tables_1_3 (i := 112) rfl rfl
theorem kX5_firstRow : plainName mX5_firstRow.1.cls = true ∧ Cond.code mX5_firstRow.1 mX5_firstRow.2.1 mX5_firstRow.2.2.1 mX5_firstRow.2.2.2 ∈ q_gw ∧ Cond.initialized mX5_firstRow.1.cls ∈ q_gw ∧ (mX5_firstRow.1.cls ≠ "java/lang/invoke/MethodHandle" ∧ mX5_firstRow.1.cls ≠ "java/lang/invoke/VarHandle" ∧ (parseMethodDescriptor mX5_firstRow.1.desc).map (fun d => d.parameters.length) = some 3) ∧ mX5_firstRow.2.2.1 ≤ 20 := ⟨by decide +kernel, g592, g13, by decide +kernel, by decide⟩
theorem g590 : Cond.instanceMethod ({ cls := "ShownPatterns$Pairs", name := "firstRow", desc := "(LShownPatterns$Automaton;LShownPatterns$Automaton;Z)I" } : MethodName) ∈ q_gw := q_tables_1_3 (i := 110) rfl rfl
theorem g591 : Cond.selects "ShownPatterns$Pairs" ({ cls := "ShownPatterns$Pairs", name := "firstRow", desc := "(LShownPatterns$Automaton;LShownPatterns$Automaton;Z)I" } : MethodName) ({ cls := "ShownPatterns$Pairs", name := "firstRow", desc := "(LShownPatterns$Automaton;LShownPatterns$Automaton;Z)I" } : MethodName) ∈ q_gw := q_tables_1_3 (i := 111) rfl rfl
theorem g647 : Cond.methodLink "ShownPatterns" (253 : Nat) ({ cls := "ShownPatterns$Showings", name := "rowOf", desc := "(I)I" } : MethodName) ∈ q_gw := q_tables_1_3 (i := 167) rfl rfl
theorem g652 : Cond.methodLink "ShownPatterns" (256 : Nat) ({ cls := "ShownPatterns$Spans", name := "lay", desc := "(II)V" } : MethodName) ∈ q_gw := q_tables_1_3 (i := 172) rfl rfl
theorem g660 : Cond.methodLink "ShownPatterns" (259 : Nat) ({ cls := "ShownPatterns$Spans", name := "fill", desc := "(LShownPatterns$Nodes;)V" } : MethodName) ∈ q_gw := q_tables_1_3 (i := 180) rfl rfl
theorem g690 : Cond.methodLink "ShownPatterns" (261 : Nat) ({ cls := "ShownPatterns$Spans", name := "of", desc := "(I)J" } : MethodName) ∈ q_gw := q_tables_1_3 (i := 210) rfl rfl
theorem g691 : Cond.methodLink "ShownPatterns" (265 : Nat) ({ cls := "ShownPatterns$Showings", name := "isSo", desc := "(IJ)Z" } : MethodName) ∈ q_gw := q_tables_1_3 (i := 211) rfl rfl
theorem g489 : Cond.fieldLink "ShownPatterns" (269 : Nat) "ShownPatterns" "POWERS" "[I" ∈ q_gw := q_tables_1_3 (i := 9) rfl rfl
theorem g337 : Cond.fieldLink "ShownPatterns" (273 : Nat) "ShownPatterns" "OWN_COST" "[I" ∈ q_gw := q_tables_1_2 (i := 97) rfl rfl
theorem g1003 : Cond.methodLink "ShownPatternsModel" (1 : Nat) ({ cls := "java/lang/Object", name := "<init>", desc := "()V" } : MethodName) ∈ q_gw := q_tables_1_5 (i := 43) rfl rfl
theorem g1005 : Cond.fieldLink "ShownPatternsModel" (7 : Nat) "ShownPatternsModel" "row" "[I" ∈ q_gw := q_tables_1_5 (i := 45) rfl rfl
theorem g1007 : Cond.fieldLink "ShownPatternsModel" (13 : Nat) "ShownPatternsModel" "kind" "[I" ∈ q_gw := q_tables_1_5 (i := 47) rfl rfl
theorem g1008 : Cond.fieldLink "ShownPatternsModel" (16 : Nat) "ShownPatternsModel" "val" "[I" ∈ q_gw := q_tables_1_5 (i := 48) rfl rfl
theorem g1009 : Cond.fieldLink "ShownPatternsModel" (19 : Nat) "ShownPatternsModel" "one" "[I" ∈ q_gw := q_tables_1_5 (i := 49) rfl rfl
theorem g1010 : Cond.fieldLink "ShownPatternsModel" (22 : Nat) "ShownPatternsModel" "two" "[I" ∈ q_gw := q_tables_1_5 (i := 50) rfl rfl
theorem g1011 : Cond.fieldLink "ShownPatternsModel" (25 : Nat) "ShownPatternsModel" "cost" "[I" ∈ q_gw := q_tables_1_5 (i := 51) rfl rfl
theorem g1012 : Cond.fieldLink "ShownPatternsModel" (28 : Nat) "ShownPatternsModel" "nodes" "[I" ∈ q_gw := q_tables_1_5 (i := 52) rfl rfl
theorem g1013 : Cond.fieldLink "ShownPatternsModel" (31 : Nat) "ShownPatternsModel" "uses" "[I" ∈ q_gw := q_tables_1_5 (i := 53) rfl rfl
theorem g1014 : Cond.fieldLink "ShownPatternsModel" (34 : Nat) "ShownPatternsModel" "top" "I" ∈ q_gw := q_tables_1_5 (i := 54) rfl rfl
theorem g1016 : Cond.fieldLink "ShownPatternsModel" (38 : Nat) "ShownPatternsModel" "costFrom" "[I" ∈ q_gw := q_tables_1_5 (i := 56) rfl rfl
theorem g1017 : Cond.fieldLink "ShownPatternsModel" (41 : Nat) "ShownPatternsModel" "placed" "[I" ∈ q_gw := q_tables_1_5 (i := 57) rfl rfl
theorem g1018 : Cond.fieldLink "ShownPatternsModel" (44 : Nat) "ShownPatternsModel" "rowKind" "[I" ∈ q_gw := q_tables_1_5 (i := 58) rfl rfl
theorem g1019 : Cond.fieldLink "ShownPatternsModel" (47 : Nat) "ShownPatternsModel" "rowVal" "[I" ∈ q_gw := q_tables_1_5 (i := 59) rfl rfl
theorem g1179 : Cond.arrayClass FieldType.byte ∈ q_gw := q_tables_1_5 (i := 219) rfl rfl
theorem g1021 : Cond.fieldLink "ShownPatternsModel" (50 : Nat) "ShownPatternsModel" "tape" "[B" ∈ q_gw := q_tables_1_5 (i := 61) rfl rfl
theorem g1027 : Cond.fieldLink "ShownPatternsModel" (54 : Nat) "ShownPatternsModel" "says" "[I" ∈ q_gw := q_tables_1_5 (i := 67) rfl rfl
theorem g1028 : Cond.fieldLink "ShownPatternsModel" (57 : Nat) "ShownPatternsModel" "letters" "[I" ∈ q_gw := q_tables_1_5 (i := 68) rfl rfl
theorem g1029 : Cond.fieldLink "ShownPatternsModel" (60 : Nat) "ShownPatternsModel" "accepts" "[I" ∈ q_gw := q_tables_1_5 (i := 69) rfl rfl
theorem g1030 : Cond.fieldLink "ShownPatternsModel" (63 : Nat) "ShownPatternsModel" "follows" "[I" ∈ q_gw := q_tables_1_5 (i := 70) rfl rfl
theorem g1031 : Cond.fieldLink "ShownPatternsModel" (66 : Nat) "ShownPatternsModel" "firsts" "[I" ∈ q_gw := q_tables_1_5 (i := 71) rfl rfl
theorem g1032 : Cond.fieldLink "ShownPatternsModel" (69 : Nat) "ShownPatternsModel" "lasts" "[I" ∈ q_gw := q_tables_1_5 (i := 72) rfl rfl
theorem g1033 : Cond.fieldLink "ShownPatternsModel" (72 : Nat) "ShownPatternsModel" "mayBeEmpty" "[Z" ∈ q_gw := q_tables_1_5 (i := 73) rfl rfl
theorem g1037 : Cond.fieldLink "ShownPatternsModel" (76 : Nat) "ShownPatternsModel" "ways" "[I" ∈ q_gw := q_tables_1_5 (i := 77) rfl rfl
theorem g1004 : Cond.constant "ShownPatternsModel" (79 : Nat) (65536 : Int32) ∈ q_gw := q_tables_1_5 (i := 44) rfl rfl
theorem g1038 : Cond.fieldLink "ShownPatternsModel" (80 : Nat) "ShownPatternsModel" "pairs" "[I" ∈ q_gw := q_tables_1_5 (i := 78) rfl rfl
theorem g1039 : Cond.fieldLink "ShownPatternsModel" (83 : Nat) "ShownPatternsModel" "pairFrom" "[I" ∈ q_gw := q_tables_1_5 (i := 79) rfl rfl
theorem g1040 : Cond.fieldLink "ShownPatternsModel" (86 : Nat) "ShownPatternsModel" "seen" "[Z" ∈ q_gw := q_tables_1_5 (i := 80) rfl rfl
theorem g1043 : Cond.fieldLink "ShownPatternsModel" (89 : Nat) "ShownPatternsModel" "shownRow" "[I" ∈ q_gw := q_tables_1_5 (i := 83) rfl rfl
theorem g1044 : Cond.fieldLink "ShownPatternsModel" (92 : Nat) "ShownPatternsModel" "shownSays" "[I" ∈ q_gw := q_tables_1_5 (i := 84) rfl rfl
theorem g1045 : Cond.fieldLink "ShownPatternsModel" (95 : Nat) "ShownPatternsModel" "shownPart" "[I" ∈ q_gw := q_tables_1_5 (i := 85) rfl rfl
theorem g1046 : Cond.fieldLink "ShownPatternsModel" (98 : Nat) "ShownPatternsModel" "shownPrice" "[I" ∈ q_gw := q_tables_1_5 (i := 86) rfl rfl
theorem g1047 : Cond.fieldLink "ShownPatternsModel" (101 : Nat) "ShownPatternsModel" "isBack" "[Z" ∈ q_gw := q_tables_1_5 (i := 87) rfl rfl
theorem g1048 : Cond.fieldLink "ShownPatternsModel" (104 : Nat) "ShownPatternsModel" "isKnown" "[Z" ∈ q_gw := q_tables_1_5 (i := 88) rfl rfl
theorem g1049 : Cond.fieldLink "ShownPatternsModel" (107 : Nat) "ShownPatternsModel" "low" "[J" ∈ q_gw := q_tables_1_5 (i := 89) rfl rfl
theorem g1050 : Cond.fieldLink "ShownPatternsModel" (111 : Nat) "ShownPatternsModel" "high" "[J" ∈ q_gw := q_tables_1_5 (i := 90) rfl rfl
theorem g1051 : Cond.fieldLink "ShownPatternsModel" (114 : Nat) "ShownPatternsModel" "rowNumber" "[I" ∈ q_gw := q_tables_1_5 (i := 91) rfl rfl
theorem g1052 : Cond.fieldLink "ShownPatternsModel" (117 : Nat) "ShownPatternsModel" "searchKinds" "I" ∈ q_gw := q_tables_1_5 (i := 92) rfl rfl
theorem g1056 : Cond.fieldLink "ShownPatternsModel" (120 : Nat) "ShownPatternsModel" "foundLow" "[J" ∈ q_gw := q_tables_1_5 (i := 96) rfl rfl
theorem g1057 : Cond.fieldLink "ShownPatternsModel" (123 : Nat) "ShownPatternsModel" "foundHigh" "[J" ∈ q_gw := q_tables_1_5 (i := 97) rfl rfl
theorem g1059 : Cond.fieldLink "ShownPatternsModel" (126 : Nat) "ShownPatternsModel" "meaningLow" "[J" ∈ q_gw := q_tables_1_5 (i := 99) rfl rfl
theorem g1060 : Cond.fieldLink "ShownPatternsModel" (129 : Nat) "ShownPatternsModel" "meaningHigh" "[J" ∈ q_gw := q_tables_1_5 (i := 100) rfl rfl
theorem g1006 : Cond.fieldLink "ShownPatternsModel" (135 : Nat) "ShownPatternsModel" "rowSize" "I" ∈ q_gw := q_tables_1_5 (i := 46) rfl rfl
theorem g1222 : Cond.methodLink "ShownPatternsModel" (138 : Nat) ({ cls := "ShownPatternsModel", name := "price", desc := "(I)I" } : MethodName) ∈ q_gw := q_tables_1_6 (i := 22) rfl rfl
theorem g1224 : Cond.code ({ cls := "ShownPatternsModel", name := "price", desc := "(I)I" } : MethodName) prog_14_method_5_code (1 : Nat) (Option.some FieldType.int) ∈ q_gw := q_tables_1_6 (i := 24) rfl rfl
theorem g10 : Cond.initialized "ShownPatternsModel" ∈ q_gw := q_tables_1_1 (i := 10) rfl rfl
theorem kX12_price : plainName mX12_price.1.cls = true ∧ Cond.code mX12_price.1 mX12_price.2.1 mX12_price.2.2.1 mX12_price.2.2.2 ∈ q_gw ∧ Cond.initialized mX12_price.1.cls ∈ q_gw ∧ (mX12_price.1.cls ≠ "java/lang/invoke/MethodHandle" ∧ mX12_price.1.cls ≠ "java/lang/invoke/VarHandle" ∧ (parseMethodDescriptor mX12_price.1.desc).map (fun d => d.parameters.length) = some 1) ∧ mX12_price.2.2.1 ≤ 20 := ⟨by decide +kernel, g1224, g10, by decide +kernel, by decide⟩
theorem g1223 : Cond.static ({ cls := "ShownPatternsModel", name := "price", desc := "(I)I" } : MethodName) ∈ q_gw := q_tables_1_6 (i := 23) rfl rfl
theorem g1218 : Cond.methodLink "ShownPatternsModel" (142 : Nat) ({ cls := "ShownPatternsModel", name := "lays", desc := "(IIIII)V" } : MethodName) ∈ q_gw := q_tables_1_6 (i := 18) rfl rfl
theorem g1221 : Cond.code ({ cls := "ShownPatternsModel", name := "lays", desc := "(IIIII)V" } : MethodName) prog_14_method_6_code (6 : Nat) (Option.none : Option FieldType) ∈ q_gw := q_tables_1_6 (i := 21) rfl rfl
theorem kX12_lays : plainName mX12_lays.1.cls = true ∧ Cond.code mX12_lays.1 mX12_lays.2.1 mX12_lays.2.2.1 mX12_lays.2.2.2 ∈ q_gw ∧ Cond.initialized mX12_lays.1.cls ∈ q_gw ∧ (mX12_lays.1.cls ≠ "java/lang/invoke/MethodHandle" ∧ mX12_lays.1.cls ≠ "java/lang/invoke/VarHandle" ∧ (parseMethodDescriptor mX12_lays.1.desc).map (fun d => d.parameters.length) = some 5) ∧ mX12_lays.2.2.1 ≤ 20 := ⟨by decide +kernel, g1221, g10, by decide +kernel, by decide⟩
theorem g1220 : Cond.instanceMethod ({ cls := "ShownPatternsModel", name := "lays", desc := "(IIIII)V" } : MethodName) ∈ q_gw := q_tables_1_6 (i := 20) rfl rfl
theorem gs53 : Cond.selects "ShownPatternsModel" ((⟨"ShownPatternsModel", "lays", "(IIIII)V"⟩ : MethodName)) (⟨"ShownPatternsModel", "lays", "(IIIII)V"⟩) ∈ q_gw := q_inS (i := 53) rfl rfl
theorem g1015 : Cond.fieldLink "ShownPatternsModel" (146 : Nat) "ShownPatternsModel" "all" "I" ∈ q_gw := q_tables_1_5 (i := 55) rfl rfl
theorem g1289 : Cond.methodLink "ShownPatternsModel" (149 : Nat) ({ cls := "ShownPatternsModel", name := "add", desc := "(IIII)V" } : MethodName) ∈ q_gw := q_tables_1_6 (i := 89) rfl rfl
theorem g1292 : Cond.code ({ cls := "ShownPatternsModel", name := "add", desc := "(IIII)V" } : MethodName) prog_14_method_8_code (5 : Nat) (Option.none : Option FieldType) ∈ q_gw := q_tables_1_6 (i := 92) rfl rfl
theorem kX12_add : plainName mX12_add.1.cls = true ∧ Cond.code mX12_add.1 mX12_add.2.1 mX12_add.2.2.1 mX12_add.2.2.2 ∈ q_gw ∧ Cond.initialized mX12_add.1.cls ∈ q_gw ∧ (mX12_add.1.cls ≠ "java/lang/invoke/MethodHandle" ∧ mX12_add.1.cls ≠ "java/lang/invoke/VarHandle" ∧ (parseMethodDescriptor mX12_add.1.desc).map (fun d => d.parameters.length) = some 4) ∧ mX12_add.2.2.1 ≤ 20 := ⟨by decide +kernel, g1292, g10, by decide +kernel, by decide⟩
theorem g1291 : Cond.instanceMethod ({ cls := "ShownPatternsModel", name := "add", desc := "(IIII)V" } : MethodName) ∈ q_gw := q_tables_1_6 (i := 91) rfl rfl
theorem gs67 : Cond.selects "ShownPatternsModel" ((⟨"ShownPatternsModel", "add", "(IIII)V"⟩ : MethodName)) (⟨"ShownPatternsModel", "add", "(IIII)V"⟩) ∈ q_gw := q_inS (i := 67) rfl rfl
theorem g1313 : Cond.methodLink "ShownPatternsModel" (153 : Nat) ({ cls := "ShownPatternsModel", name := "ends", desc := "(II)I" } : MethodName) ∈ q_gw := q_tables_1_6 (i := 113) rfl rfl
theorem g1316 : Cond.code ({ cls := "ShownPatternsModel", name := "ends", desc := "(II)I" } : MethodName) prog_14_method_10_code (3 : Nat) (Option.some FieldType.int) ∈ q_gw := q_tables_1_6 (i := 116) rfl rfl
theorem kX12_ends : plainName mX12_ends.1.cls = true ∧ Cond.code mX12_ends.1 mX12_ends.2.1 mX12_ends.2.2.1 mX12_ends.2.2.2 ∈ q_gw ∧ Cond.initialized mX12_ends.1.cls ∈ q_gw ∧ (mX12_ends.1.cls ≠ "java/lang/invoke/MethodHandle" ∧ mX12_ends.1.cls ≠ "java/lang/invoke/VarHandle" ∧ (parseMethodDescriptor mX12_ends.1.desc).map (fun d => d.parameters.length) = some 2) ∧ mX12_ends.2.2.1 ≤ 20 := ⟨by decide +kernel, g1316, g10, by decide +kernel, by decide⟩
theorem g1315 : Cond.instanceMethod ({ cls := "ShownPatternsModel", name := "ends", desc := "(II)I" } : MethodName) ∈ q_gw := q_tables_1_6 (i := 115) rfl rfl
theorem gs71 : Cond.selects "ShownPatternsModel" ((⟨"ShownPatternsModel", "ends", "(II)I"⟩ : MethodName)) (⟨"ShownPatternsModel", "ends", "(II)I"⟩) ∈ q_gw := q_inS (i := 71) rfl rfl
theorem g1317 : Cond.methodLink "ShownPatternsModel" (157 : Nat) ({ cls := "ShownPatternsModel", name := "behind", desc := "(II)I" } : MethodName) ∈ q_gw := q_tables_1_6 (i := 117) rfl rfl
theorem g1320 : Cond.code ({ cls := "ShownPatternsModel", name := "behind", desc := "(II)I" } : MethodName) prog_14_method_11_code (5 : Nat) (Option.some FieldType.int) ∈ q_gw := q_tables_1_6 (i := 120) rfl rfl
theorem kX12_behind : plainName mX12_behind.1.cls = true ∧ Cond.code mX12_behind.1 mX12_behind.2.1 mX12_behind.2.2.1 mX12_behind.2.2.2 ∈ q_gw ∧ Cond.initialized mX12_behind.1.cls ∈ q_gw ∧ (mX12_behind.1.cls ≠ "java/lang/invoke/MethodHandle" ∧ mX12_behind.1.cls ≠ "java/lang/invoke/VarHandle" ∧ (parseMethodDescriptor mX12_behind.1.desc).map (fun d => d.parameters.length) = some 2) ∧ mX12_behind.2.2.1 ≤ 20 := ⟨by decide +kernel, g1320, g10, by decide +kernel, by decide⟩
theorem g1319 : Cond.instanceMethod ({ cls := "ShownPatternsModel", name := "behind", desc := "(II)I" } : MethodName) ∈ q_gw := q_tables_1_6 (i := 119) rfl rfl
theorem gs72 : Cond.selects "ShownPatternsModel" ((⟨"ShownPatternsModel", "behind", "(II)I"⟩ : MethodName)) (⟨"ShownPatternsModel", "behind", "(II)I"⟩) ∈ q_gw := q_inS (i := 72) rfl rfl
theorem g1321 : Cond.methodLink "ShownPatternsModel" (160 : Nat) ({ cls := "ShownPatternsModel", name := "again", desc := "(II)I" } : MethodName) ∈ q_gw := q_tables_1_6 (i := 121) rfl rfl
theorem g1324 : Cond.code ({ cls := "ShownPatternsModel", name := "again", desc := "(II)I" } : MethodName) prog_14_method_12_code (5 : Nat) (Option.some FieldType.int) ∈ q_gw := q_tables_1_6 (i := 124) rfl rfl
theorem kX12_again : plainName mX12_again.1.cls = true ∧ Cond.code mX12_again.1 mX12_again.2.1 mX12_again.2.2.1 mX12_again.2.2.2 ∈ q_gw ∧ Cond.initialized mX12_again.1.cls ∈ q_gw ∧ (mX12_again.1.cls ≠ "java/lang/invoke/MethodHandle" ∧ mX12_again.1.cls ≠ "java/lang/invoke/VarHandle" ∧ (parseMethodDescriptor mX12_again.1.desc).map (fun d => d.parameters.length) = some 2) ∧ mX12_again.2.2.1 ≤ 20 := ⟨by decide +kernel, g1324, g10, by decide +kernel, by decide⟩
theorem g1323 : Cond.instanceMethod ({ cls := "ShownPatternsModel", name := "again", desc := "(II)I" } : MethodName) ∈ q_gw := q_tables_1_6 (i := 123) rfl rfl
theorem gs73 : Cond.selects "ShownPatternsModel" ((⟨"ShownPatternsModel", "again", "(II)I"⟩ : MethodName)) (⟨"ShownPatternsModel", "again", "(II)I"⟩) ∈ q_gw := q_inS (i := 73) rfl rfl
theorem g1184 : Cond.methodLink "ShownPatternsModel" (163 : Nat) ({ cls := "ShownPatternsModel", name := "in", desc := "(III)Z" } : MethodName) ∈ q_gw := q_tables_1_5 (i := 224) rfl rfl
theorem g1186 : Cond.code ({ cls := "ShownPatternsModel", name := "in", desc := "(III)Z" } : MethodName) prog_14_method_3_code (3 : Nat) (Option.some FieldType.boolean) ∈ q_gw := q_tables_1_5 (i := 226) rfl rfl
theorem kX12_in : plainName mX12_in.1.cls = true ∧ Cond.code mX12_in.1 mX12_in.2.1 mX12_in.2.2.1 mX12_in.2.2.2 ∈ q_gw ∧ Cond.initialized mX12_in.1.cls ∈ q_gw ∧ (mX12_in.1.cls ≠ "java/lang/invoke/MethodHandle" ∧ mX12_in.1.cls ≠ "java/lang/invoke/VarHandle" ∧ (parseMethodDescriptor mX12_in.1.desc).map (fun d => d.parameters.length) = some 3) ∧ mX12_in.2.2.1 ≤ 20 := ⟨by decide +kernel, g1186, g10, by decide +kernel, by decide⟩
theorem g1185 : Cond.static ({ cls := "ShownPatternsModel", name := "in", desc := "(III)Z" } : MethodName) ∈ q_gw := q_tables_1_5 (i := 225) rfl rfl
theorem g1191 : Cond.methodLink "ShownPatternsModel" (167 : Nat) ({ cls := "ShownPatternsModel", name := "isPlace", desc := "(I)Z" } : MethodName) ∈ q_gw := q_tables_1_5 (i := 231) rfl rfl
theorem g1193 : Cond.code ({ cls := "ShownPatternsModel", name := "isPlace", desc := "(I)Z" } : MethodName) prog_14_method_15_code (1 : Nat) (Option.some FieldType.boolean) ∈ q_gw := q_tables_1_5 (i := 233) rfl rfl
theorem kX12_isPlace : plainName mX12_isPlace.1.cls = true ∧ Cond.code mX12_isPlace.1 mX12_isPlace.2.1 mX12_isPlace.2.2.1 mX12_isPlace.2.2.2 ∈ q_gw ∧ Cond.initialized mX12_isPlace.1.cls ∈ q_gw ∧ (mX12_isPlace.1.cls ≠ "java/lang/invoke/MethodHandle" ∧ mX12_isPlace.1.cls ≠ "java/lang/invoke/VarHandle" ∧ (parseMethodDescriptor mX12_isPlace.1.desc).map (fun d => d.parameters.length) = some 1) ∧ mX12_isPlace.2.2.1 ≤ 20 := ⟨by decide +kernel, g1193, g10, by decide +kernel, by decide⟩
theorem g1192 : Cond.static ({ cls := "ShownPatternsModel", name := "isPlace", desc := "(I)Z" } : MethodName) ∈ q_gw := q_tables_1_5 (i := 232) rfl rfl
theorem g1020 : Cond.fieldLink "ShownPatternsModel" (171 : Nat) "ShownPatternsModel" "at" "I" ∈ q_gw := q_tables_1_5 (i := 60) rfl rfl
theorem g1261 : Cond.methodLink "ShownPatternsModel" (174 : Nat) ({ cls := "ShownPatternsModel", name := "grow", desc := "()I" } : MethodName) ∈ q_gw := q_tables_1_6 (i := 61) rfl rfl
theorem g1264 : Cond.code ({ cls := "ShownPatternsModel", name := "grow", desc := "()I" } : MethodName) prog_14_method_17_code (5 : Nat) (Option.some FieldType.int) ∈ q_gw := q_tables_1_6 (i := 64) rfl rfl
theorem kX12_grow : plainName mX12_grow.1.cls = true ∧ Cond.code mX12_grow.1 mX12_grow.2.1 mX12_grow.2.2.1 mX12_grow.2.2.2 ∈ q_gw ∧ Cond.initialized mX12_grow.1.cls ∈ q_gw ∧ (mX12_grow.1.cls ≠ "java/lang/invoke/MethodHandle" ∧ mX12_grow.1.cls ≠ "java/lang/invoke/VarHandle" ∧ (parseMethodDescriptor mX12_grow.1.desc).map (fun d => d.parameters.length) = some 0) ∧ mX12_grow.2.2.1 ≤ 20 := ⟨by decide +kernel, g1264, g10, by decide +kernel, by decide⟩
theorem g1263 : Cond.instanceMethod ({ cls := "ShownPatternsModel", name := "grow", desc := "()I" } : MethodName) ∈ q_gw := q_tables_1_6 (i := 63) rfl rfl
theorem gs62 : Cond.selects "ShownPatternsModel" ((⟨"ShownPatternsModel", "grow", "()I"⟩ : MethodName)) (⟨"ShownPatternsModel", "grow", "()I"⟩) ∈ q_gw := q_inS (i := 62) rfl rfl
theorem g1214 : Cond.methodLink "ShownPatternsModel" (178 : Nat) ({ cls := "ShownPatternsModel", name := "make", desc := "(IIII)I" } : MethodName) ∈ q_gw := q_tables_1_6 (i := 14) rfl rfl
theorem g1217 : Cond.code ({ cls := "ShownPatternsModel", name := "make", desc := "(IIII)I" } : MethodName) prog_14_method_7_code (5 : Nat) (Option.some FieldType.int) ∈ q_gw := q_tables_1_6 (i := 17) rfl rfl
theorem kX12_make : plainName mX12_make.1.cls = true ∧ Cond.code mX12_make.1 mX12_make.2.1 mX12_make.2.2.1 mX12_make.2.2.2 ∈ q_gw ∧ Cond.initialized mX12_make.1.cls ∈ q_gw ∧ (mX12_make.1.cls ≠ "java/lang/invoke/MethodHandle" ∧ mX12_make.1.cls ≠ "java/lang/invoke/VarHandle" ∧ (parseMethodDescriptor mX12_make.1.desc).map (fun d => d.parameters.length) = some 4) ∧ mX12_make.2.2.1 ≤ 20 := ⟨by decide +kernel, g1217, g10, by decide +kernel, by decide⟩
theorem g1216 : Cond.instanceMethod ({ cls := "ShownPatternsModel", name := "make", desc := "(IIII)I" } : MethodName) ∈ q_gw := q_tables_1_6 (i := 16) rfl rfl
theorem gs52 : Cond.selects "ShownPatternsModel" ((⟨"ShownPatternsModel", "make", "(IIII)I"⟩ : MethodName)) (⟨"ShownPatternsModel", "make", "(IIII)I"⟩) ∈ q_gw := q_inS (i := 52) rfl rfl
theorem g1245 : Cond.methodLink "ShownPatternsModel" (182 : Nat) ({ cls := "ShownPatternsModel", name := "flatten", desc := "(I)V" } : MethodName) ∈ q_gw := q_tables_1_6 (i := 45) rfl rfl
theorem g1248 : Cond.code ({ cls := "ShownPatternsModel", name := "flatten", desc := "(I)V" } : MethodName) prog_14_method_19_code (2 : Nat) (Option.none : Option FieldType) ∈ q_gw := q_tables_1_6 (i := 48) rfl rfl
theorem kX12_flatten : plainName mX12_flatten.1.cls = true ∧ Cond.code mX12_flatten.1 mX12_flatten.2.1 mX12_flatten.2.2.1 mX12_flatten.2.2.2 ∈ q_gw ∧ Cond.initialized mX12_flatten.1.cls ∈ q_gw ∧ (mX12_flatten.1.cls ≠ "java/lang/invoke/MethodHandle" ∧ mX12_flatten.1.cls ≠ "java/lang/invoke/VarHandle" ∧ (parseMethodDescriptor mX12_flatten.1.desc).map (fun d => d.parameters.length) = some 1) ∧ mX12_flatten.2.2.1 ≤ 20 := ⟨by decide +kernel, g1248, g10, by decide +kernel, by decide⟩
theorem g1247 : Cond.instanceMethod ({ cls := "ShownPatternsModel", name := "flatten", desc := "(I)V" } : MethodName) ∈ q_gw := q_tables_1_6 (i := 47) rfl rfl
theorem gs59 : Cond.selects "ShownPatternsModel" ((⟨"ShownPatternsModel", "flatten", "(I)V"⟩ : MethodName)) (⟨"ShownPatternsModel", "flatten", "(I)V"⟩) ∈ q_gw := q_inS (i := 59) rfl rfl
theorem g1022 : Cond.fieldLink "ShownPatternsModel" (186 : Nat) "ShownPatternsModel" "taped" "I" ∈ q_gw := q_tables_1_5 (i := 62) rfl rfl
theorem g1023 : Cond.fieldLink "ShownPatternsModel" (189 : Nat) "ShownPatternsModel" "here" "I" ∈ q_gw := q_tables_1_5 (i := 63) rfl rfl
theorem g1024 : Cond.fieldLink "ShownPatternsModel" (192 : Nat) "ShownPatternsModel" "fault" "I" ∈ q_gw := q_tables_1_5 (i := 64) rfl rfl
theorem g1210 : Cond.methodLink "ShownPatternsModel" (195 : Nat) ({ cls := "ShownPatternsModel", name := "look", desc := "()I" } : MethodName) ∈ q_gw := q_tables_1_6 (i := 10) rfl rfl
theorem g1213 : Cond.code ({ cls := "ShownPatternsModel", name := "look", desc := "()I" } : MethodName) prog_14_method_22_code (1 : Nat) (Option.some FieldType.int) ∈ q_gw := q_tables_1_6 (i := 13) rfl rfl
theorem kX12_look : plainName mX12_look.1.cls = true ∧ Cond.code mX12_look.1 mX12_look.2.1 mX12_look.2.2.1 mX12_look.2.2.2 ∈ q_gw ∧ Cond.initialized mX12_look.1.cls ∈ q_gw ∧ (mX12_look.1.cls ≠ "java/lang/invoke/MethodHandle" ∧ mX12_look.1.cls ≠ "java/lang/invoke/VarHandle" ∧ (parseMethodDescriptor mX12_look.1.desc).map (fun d => d.parameters.length) = some 0) ∧ mX12_look.2.2.1 ≤ 20 := ⟨by decide +kernel, g1213, g10, by decide +kernel, by decide⟩
theorem g1212 : Cond.instanceMethod ({ cls := "ShownPatternsModel", name := "look", desc := "()I" } : MethodName) ∈ q_gw := q_tables_1_6 (i := 12) rfl rfl
theorem gs51 : Cond.selects "ShownPatternsModel" ((⟨"ShownPatternsModel", "look", "()I"⟩ : MethodName)) (⟨"ShownPatternsModel", "look", "()I"⟩) ∈ q_gw := q_inS (i := 51) rfl rfl
theorem g1198 : Cond.methodLink "ShownPatternsModel" (198 : Nat) ({ cls := "ShownPatternsModel", name := "row0", desc := "()I" } : MethodName) ∈ q_gw := q_tables_1_5 (i := 238) rfl rfl
theorem g1201 : Cond.code ({ cls := "ShownPatternsModel", name := "row0", desc := "()I" } : MethodName) prog_14_method_26_code (3 : Nat) (Option.some FieldType.int) ∈ q_gw := q_tables_1_6 (i := 1) rfl rfl
theorem kX12_row0 : plainName mX12_row0.1.cls = true ∧ Cond.code mX12_row0.1 mX12_row0.2.1 mX12_row0.2.2.1 mX12_row0.2.2.2 ∈ q_gw ∧ Cond.initialized mX12_row0.1.cls ∈ q_gw ∧ (mX12_row0.1.cls ≠ "java/lang/invoke/MethodHandle" ∧ mX12_row0.1.cls ≠ "java/lang/invoke/VarHandle" ∧ (parseMethodDescriptor mX12_row0.1.desc).map (fun d => d.parameters.length) = some 0) ∧ mX12_row0.2.2.1 ≤ 20 := ⟨by decide +kernel, g1201, g10, by decide +kernel, by decide⟩
theorem g1200 : Cond.instanceMethod ({ cls := "ShownPatternsModel", name := "row0", desc := "()I" } : MethodName) ∈ q_gw := q_tables_1_6 (i := 0) rfl rfl
theorem gs48 : Cond.selects "ShownPatternsModel" ((⟨"ShownPatternsModel", "row0", "()I"⟩ : MethodName)) (⟨"ShownPatternsModel", "row0", "()I"⟩) ∈ q_gw := q_inS (i := 48) rfl rfl
theorem g1194 : Cond.methodLink "ShownPatternsModel" (201 : Nat) ({ cls := "ShownPatternsModel", name := "either", desc := "()I" } : MethodName) ∈ q_gw := q_tables_1_5 (i := 234) rfl rfl
theorem g1197 : Cond.code ({ cls := "ShownPatternsModel", name := "either", desc := "()I" } : MethodName) prog_14_method_25_code (3 : Nat) (Option.some FieldType.int) ∈ q_gw := q_tables_1_5 (i := 237) rfl rfl
theorem kX12_either : plainName mX12_either.1.cls = true ∧ Cond.code mX12_either.1 mX12_either.2.1 mX12_either.2.2.1 mX12_either.2.2.2 ∈ q_gw ∧ Cond.initialized mX12_either.1.cls ∈ q_gw ∧ (mX12_either.1.cls ≠ "java/lang/invoke/MethodHandle" ∧ mX12_either.1.cls ≠ "java/lang/invoke/VarHandle" ∧ (parseMethodDescriptor mX12_either.1.desc).map (fun d => d.parameters.length) = some 0) ∧ mX12_either.2.2.1 ≤ 20 := ⟨by decide +kernel, g1197, g10, by decide +kernel, by decide⟩
theorem g1196 : Cond.instanceMethod ({ cls := "ShownPatternsModel", name := "either", desc := "()I" } : MethodName) ∈ q_gw := q_tables_1_5 (i := 236) rfl rfl
theorem gs47 : Cond.selects "ShownPatternsModel" ((⟨"ShownPatternsModel", "either", "()I"⟩ : MethodName)) (⟨"ShownPatternsModel", "either", "()I"⟩) ∈ q_gw := q_inS (i := 47) rfl rfl
theorem g1202 : Cond.methodLink "ShownPatternsModel" (204 : Nat) ({ cls := "ShownPatternsModel", name := "repeated", desc := "()I" } : MethodName) ∈ q_gw := q_tables_1_6 (i := 2) rfl rfl
theorem g1205 : Cond.code ({ cls := "ShownPatternsModel", name := "repeated", desc := "()I" } : MethodName) prog_14_method_28_code (2 : Nat) (Option.some FieldType.int) ∈ q_gw := q_tables_1_6 (i := 5) rfl rfl
theorem kX12_repeated : plainName mX12_repeated.1.cls = true ∧ Cond.code mX12_repeated.1 mX12_repeated.2.1 mX12_repeated.2.2.1 mX12_repeated.2.2.2 ∈ q_gw ∧ Cond.initialized mX12_repeated.1.cls ∈ q_gw ∧ (mX12_repeated.1.cls ≠ "java/lang/invoke/MethodHandle" ∧ mX12_repeated.1.cls ≠ "java/lang/invoke/VarHandle" ∧ (parseMethodDescriptor mX12_repeated.1.desc).map (fun d => d.parameters.length) = some 0) ∧ mX12_repeated.2.2.1 ≤ 20 := ⟨by decide +kernel, g1205, g10, by decide +kernel, by decide⟩
theorem g1204 : Cond.instanceMethod ({ cls := "ShownPatternsModel", name := "repeated", desc := "()I" } : MethodName) ∈ q_gw := q_tables_1_6 (i := 4) rfl rfl
theorem gs49 : Cond.selects "ShownPatternsModel" ((⟨"ShownPatternsModel", "repeated", "()I"⟩ : MethodName)) (⟨"ShownPatternsModel", "repeated", "()I"⟩) ∈ q_gw := q_inS (i := 49) rfl rfl
theorem g1233 : Cond.methodLink "ShownPatternsModel" (207 : Nat) ({ cls := "ShownPatternsModel", name := "begins", desc := "()Z" } : MethodName) ∈ q_gw := q_tables_1_6 (i := 33) rfl rfl
theorem g1236 : Cond.code ({ cls := "ShownPatternsModel", name := "begins", desc := "()Z" } : MethodName) prog_14_method_24_code (1 : Nat) (Option.some FieldType.boolean) ∈ q_gw := q_tables_1_6 (i := 36) rfl rfl
theorem kX12_begins : plainName mX12_begins.1.cls = true ∧ Cond.code mX12_begins.1 mX12_begins.2.1 mX12_begins.2.2.1 mX12_begins.2.2.2 ∈ q_gw ∧ Cond.initialized mX12_begins.1.cls ∈ q_gw ∧ (mX12_begins.1.cls ≠ "java/lang/invoke/MethodHandle" ∧ mX12_begins.1.cls ≠ "java/lang/invoke/VarHandle" ∧ (parseMethodDescriptor mX12_begins.1.desc).map (fun d => d.parameters.length) = some 0) ∧ mX12_begins.2.2.1 ≤ 20 := ⟨by decide +kernel, g1236, g10, by decide +kernel, by decide⟩
theorem g1235 : Cond.instanceMethod ({ cls := "ShownPatternsModel", name := "begins", desc := "()Z" } : MethodName) ∈ q_gw := q_tables_1_6 (i := 35) rfl rfl
theorem gs56 : Cond.selects "ShownPatternsModel" ((⟨"ShownPatternsModel", "begins", "()Z"⟩ : MethodName)) (⟨"ShownPatternsModel", "begins", "()Z"⟩) ∈ q_gw := q_inS (i := 56) rfl rfl
theorem g1237 : Cond.methodLink "ShownPatternsModel" (211 : Nat) ({ cls := "ShownPatternsModel", name := "joined", desc := "(II)I" } : MethodName) ∈ q_gw := q_tables_1_6 (i := 37) rfl rfl
theorem g1240 : Cond.code ({ cls := "ShownPatternsModel", name := "joined", desc := "(II)I" } : MethodName) prog_14_method_27_code (3 : Nat) (Option.some FieldType.int) ∈ q_gw := q_tables_1_6 (i := 40) rfl rfl
theorem kX12_joined : plainName mX12_joined.1.cls = true ∧ Cond.code mX12_joined.1 mX12_joined.2.1 mX12_joined.2.2.1 mX12_joined.2.2.2 ∈ q_gw ∧ Cond.initialized mX12_joined.1.cls ∈ q_gw ∧ (mX12_joined.1.cls ≠ "java/lang/invoke/MethodHandle" ∧ mX12_joined.1.cls ≠ "java/lang/invoke/VarHandle" ∧ (parseMethodDescriptor mX12_joined.1.desc).map (fun d => d.parameters.length) = some 2) ∧ mX12_joined.2.2.1 ≤ 20 := ⟨by decide +kernel, g1240, g10, by decide +kernel, by decide⟩
theorem g1239 : Cond.instanceMethod ({ cls := "ShownPatternsModel", name := "joined", desc := "(II)I" } : MethodName) ∈ q_gw := q_tables_1_6 (i := 39) rfl rfl
theorem gs57 : Cond.selects "ShownPatternsModel" ((⟨"ShownPatternsModel", "joined", "(II)I"⟩ : MethodName)) (⟨"ShownPatternsModel", "joined", "(II)I"⟩) ∈ q_gw := q_inS (i := 57) rfl rfl
theorem g1206 : Cond.methodLink "ShownPatternsModel" (214 : Nat) ({ cls := "ShownPatternsModel", name := "base", desc := "()I" } : MethodName) ∈ q_gw := q_tables_1_6 (i := 6) rfl rfl
theorem g1209 : Cond.code ({ cls := "ShownPatternsModel", name := "base", desc := "()I" } : MethodName) prog_14_method_29_code (3 : Nat) (Option.some FieldType.int) ∈ q_gw := q_tables_1_6 (i := 9) rfl rfl
theorem kX12_base : plainName mX12_base.1.cls = true ∧ Cond.code mX12_base.1 mX12_base.2.1 mX12_base.2.2.1 mX12_base.2.2.2 ∈ q_gw ∧ Cond.initialized mX12_base.1.cls ∈ q_gw ∧ (mX12_base.1.cls ≠ "java/lang/invoke/MethodHandle" ∧ mX12_base.1.cls ≠ "java/lang/invoke/VarHandle" ∧ (parseMethodDescriptor mX12_base.1.desc).map (fun d => d.parameters.length) = some 0) ∧ mX12_base.2.2.1 ≤ 20 := ⟨by decide +kernel, g1209, g10, by decide +kernel, by decide⟩
theorem g1208 : Cond.instanceMethod ({ cls := "ShownPatternsModel", name := "base", desc := "()I" } : MethodName) ∈ q_gw := q_tables_1_6 (i := 8) rfl rfl
theorem gs50 : Cond.selects "ShownPatternsModel" ((⟨"ShownPatternsModel", "base", "()I"⟩ : MethodName)) (⟨"ShownPatternsModel", "base", "()I"⟩) ∈ q_gw := q_inS (i := 50) rfl rfl
theorem g1225 : Cond.methodLink "ShownPatternsModel" (217 : Nat) ({ cls := "ShownPatternsModel", name := "set", desc := "()I" } : MethodName) ∈ q_gw := q_tables_1_6 (i := 25) rfl rfl
theorem g1228 : Cond.code ({ cls := "ShownPatternsModel", name := "set", desc := "()I" } : MethodName) prog_14_method_30_code (3 : Nat) (Option.some FieldType.int) ∈ q_gw := q_tables_1_6 (i := 28) rfl rfl
theorem kX12_set : plainName mX12_set.1.cls = true ∧ Cond.code mX12_set.1 mX12_set.2.1 mX12_set.2.2.1 mX12_set.2.2.2 ∈ q_gw ∧ Cond.initialized mX12_set.1.cls ∈ q_gw ∧ (mX12_set.1.cls ≠ "java/lang/invoke/MethodHandle" ∧ mX12_set.1.cls ≠ "java/lang/invoke/VarHandle" ∧ (parseMethodDescriptor mX12_set.1.desc).map (fun d => d.parameters.length) = some 0) ∧ mX12_set.2.2.1 ≤ 20 := ⟨by decide +kernel, g1228, g10, by decide +kernel, by decide⟩
theorem g1227 : Cond.instanceMethod ({ cls := "ShownPatternsModel", name := "set", desc := "()I" } : MethodName) ∈ q_gw := q_tables_1_6 (i := 27) rfl rfl
theorem gs54 : Cond.selects "ShownPatternsModel" ((⟨"ShownPatternsModel", "set", "()I"⟩ : MethodName)) (⟨"ShownPatternsModel", "set", "()I"⟩) ∈ q_gw := q_inS (i := 54) rfl rfl
theorem g1025 : Cond.fieldLink "ShownPatternsModel" (220 : Nat) "ShownPatternsModel" "open" "I" ∈ q_gw := q_tables_1_5 (i := 65) rfl rfl
theorem g1229 : Cond.methodLink "ShownPatternsModel" (223 : Nat) ({ cls := "ShownPatternsModel", name := "wrong", desc := "()I" } : MethodName) ∈ q_gw := q_tables_1_6 (i := 29) rfl rfl
theorem g1232 : Cond.code ({ cls := "ShownPatternsModel", name := "wrong", desc := "()I" } : MethodName) prog_14_method_23_code (1 : Nat) (Option.some FieldType.int) ∈ q_gw := q_tables_1_6 (i := 32) rfl rfl
theorem kX12_wrong : plainName mX12_wrong.1.cls = true ∧ Cond.code mX12_wrong.1 mX12_wrong.2.1 mX12_wrong.2.2.1 mX12_wrong.2.2.2 ∈ q_gw ∧ Cond.initialized mX12_wrong.1.cls ∈ q_gw ∧ (mX12_wrong.1.cls ≠ "java/lang/invoke/MethodHandle" ∧ mX12_wrong.1.cls ≠ "java/lang/invoke/VarHandle" ∧ (parseMethodDescriptor mX12_wrong.1.desc).map (fun d => d.parameters.length) = some 0) ∧ mX12_wrong.2.2.1 ≤ 20 := ⟨by decide +kernel, g1232, g10, by decide +kernel, by decide⟩
theorem g1231 : Cond.instanceMethod ({ cls := "ShownPatternsModel", name := "wrong", desc := "()I" } : MethodName) ∈ q_gw := q_tables_1_6 (i := 31) rfl rfl
theorem gs55 : Cond.selects "ShownPatternsModel" ((⟨"ShownPatternsModel", "wrong", "()I"⟩ : MethodName)) (⟨"ShownPatternsModel", "wrong", "()I"⟩) ∈ q_gw := q_inS (i := 55) rfl rfl
theorem g1241 : Cond.methodLink "ShownPatternsModel" (226 : Nat) ({ cls := "ShownPatternsModel", name := "put", desc := "(II)V" } : MethodName) ∈ q_gw := q_tables_1_6 (i := 41) rfl rfl
theorem g1244 : Cond.code ({ cls := "ShownPatternsModel", name := "put", desc := "(II)V" } : MethodName) prog_14_method_20_code (3 : Nat) (Option.none : Option FieldType) ∈ q_gw := q_tables_1_6 (i := 44) rfl rfl
theorem kX12_put : plainName mX12_put.1.cls = true ∧ Cond.code mX12_put.1 mX12_put.2.1 mX12_put.2.2.1 mX12_put.2.2.2 ∈ q_gw ∧ Cond.initialized mX12_put.1.cls ∈ q_gw ∧ (mX12_put.1.cls ≠ "java/lang/invoke/MethodHandle" ∧ mX12_put.1.cls ≠ "java/lang/invoke/VarHandle" ∧ (parseMethodDescriptor mX12_put.1.desc).map (fun d => d.parameters.length) = some 2) ∧ mX12_put.2.2.1 ≤ 20 := ⟨by decide +kernel, g1244, g10, by decide +kernel, by decide⟩
theorem g1243 : Cond.instanceMethod ({ cls := "ShownPatternsModel", name := "put", desc := "(II)V" } : MethodName) ∈ q_gw := q_tables_1_6 (i := 43) rfl rfl
theorem gs58 : Cond.selects "ShownPatternsModel" ((⟨"ShownPatternsModel", "put", "(II)V"⟩ : MethodName)) (⟨"ShownPatternsModel", "put", "(II)V"⟩) ∈ q_gw := q_inS (i := 58) rfl rfl
theorem g1026 : Cond.fieldLink "ShownPatternsModel" (230 : Nat) "ShownPatternsModel" "said" "I" ∈ q_gw := q_tables_1_5 (i := 66) rfl rfl
theorem g1269 : Cond.methodLink "ShownPatternsModel" (233 : Nat) ({ cls := "ShownPatternsModel", name := "sign", desc := "(I)V" } : MethodName) ∈ q_gw := q_tables_1_6 (i := 69) rfl rfl
theorem g1272 : Cond.code ({ cls := "ShownPatternsModel", name := "sign", desc := "(I)V" } : MethodName) prog_14_method_32_code (2 : Nat) (Option.none : Option FieldType) ∈ q_gw := q_tables_1_6 (i := 72) rfl rfl
theorem kX12_sign : plainName mX12_sign.1.cls = true ∧ Cond.code mX12_sign.1 mX12_sign.2.1 mX12_sign.2.2.1 mX12_sign.2.2.2 ∈ q_gw ∧ Cond.initialized mX12_sign.1.cls ∈ q_gw ∧ (mX12_sign.1.cls ≠ "java/lang/invoke/MethodHandle" ∧ mX12_sign.1.cls ≠ "java/lang/invoke/VarHandle" ∧ (parseMethodDescriptor mX12_sign.1.desc).map (fun d => d.parameters.length) = some 1) ∧ mX12_sign.2.2.1 ≤ 20 := ⟨by decide +kernel, g1272, g10, by decide +kernel, by decide⟩
theorem g1271 : Cond.instanceMethod ({ cls := "ShownPatternsModel", name := "sign", desc := "(I)V" } : MethodName) ∈ q_gw := q_tables_1_6 (i := 71) rfl rfl
theorem gs64 : Cond.selects "ShownPatternsModel" ((⟨"ShownPatternsModel", "sign", "(I)V"⟩ : MethodName)) (⟨"ShownPatternsModel", "sign", "(I)V"⟩) ∈ q_gw := q_inS (i := 64) rfl rfl
theorem g1265 : Cond.methodLink "ShownPatternsModel" (236 : Nat) ({ cls := "ShownPatternsModel", name := "say0", desc := "(I)V" } : MethodName) ∈ q_gw := q_tables_1_6 (i := 65) rfl rfl
theorem g1268 : Cond.code ({ cls := "ShownPatternsModel", name := "say0", desc := "(I)V" } : MethodName) prog_14_method_34_code (4 : Nat) (Option.none : Option FieldType) ∈ q_gw := q_tables_1_6 (i := 68) rfl rfl
theorem kX12_say0 : plainName mX12_say0.1.cls = true ∧ Cond.code mX12_say0.1 mX12_say0.2.1 mX12_say0.2.2.1 mX12_say0.2.2.2 ∈ q_gw ∧ Cond.initialized mX12_say0.1.cls ∈ q_gw ∧ (mX12_say0.1.cls ≠ "java/lang/invoke/MethodHandle" ∧ mX12_say0.1.cls ≠ "java/lang/invoke/VarHandle" ∧ (parseMethodDescriptor mX12_say0.1.desc).map (fun d => d.parameters.length) = some 1) ∧ mX12_say0.2.2.1 ≤ 20 := ⟨by decide +kernel, g1268, g10, by decide +kernel, by decide⟩
theorem g1267 : Cond.instanceMethod ({ cls := "ShownPatternsModel", name := "say0", desc := "(I)V" } : MethodName) ∈ q_gw := q_tables_1_6 (i := 67) rfl rfl
theorem gs63 : Cond.selects "ShownPatternsModel" ((⟨"ShownPatternsModel", "say0", "(I)V"⟩ : MethodName)) (⟨"ShownPatternsModel", "say0", "(I)V"⟩) ∈ q_gw := q_inS (i := 63) rfl rfl
theorem g1273 : Cond.methodLink "ShownPatternsModel" (239 : Nat) ({ cls := "ShownPatternsModel", name := "sayIn", desc := "(IZ)V" } : MethodName) ∈ q_gw := q_tables_1_6 (i := 73) rfl rfl
theorem g1276 : Cond.code ({ cls := "ShownPatternsModel", name := "sayIn", desc := "(IZ)V" } : MethodName) prog_14_method_33_code (3 : Nat) (Option.none : Option FieldType) ∈ q_gw := q_tables_1_6 (i := 76) rfl rfl
theorem kX12_sayIn : plainName mX12_sayIn.1.cls = true ∧ Cond.code mX12_sayIn.1 mX12_sayIn.2.1 mX12_sayIn.2.2.1 mX12_sayIn.2.2.2 ∈ q_gw ∧ Cond.initialized mX12_sayIn.1.cls ∈ q_gw ∧ (mX12_sayIn.1.cls ≠ "java/lang/invoke/MethodHandle" ∧ mX12_sayIn.1.cls ≠ "java/lang/invoke/VarHandle" ∧ (parseMethodDescriptor mX12_sayIn.1.desc).map (fun d => d.parameters.length) = some 2) ∧ mX12_sayIn.2.2.1 ≤ 20 := ⟨by decide +kernel, g1276, g10, by decide +kernel, by decide⟩
theorem g1275 : Cond.instanceMethod ({ cls := "ShownPatternsModel", name := "sayIn", desc := "(IZ)V" } : MethodName) ∈ q_gw := q_tables_1_6 (i := 75) rfl rfl
theorem gs65 : Cond.selects "ShownPatternsModel" ((⟨"ShownPatternsModel", "sayIn", "(IZ)V"⟩ : MethodName)) (⟨"ShownPatternsModel", "sayIn", "(IZ)V"⟩) ∈ q_gw := q_inS (i := 65) rfl rfl
theorem g1253 : Cond.methodLink "ShownPatternsModel" (243 : Nat) ({ cls := "ShownPatternsModel", name := "has", desc := "(I)Z" } : MethodName) ∈ q_gw := q_tables_1_6 (i := 53) rfl rfl
theorem g1256 : Cond.code ({ cls := "ShownPatternsModel", name := "has", desc := "(I)Z" } : MethodName) prog_14_method_16_code (2 : Nat) (Option.some FieldType.boolean) ∈ q_gw := q_tables_1_6 (i := 56) rfl rfl
theorem kX12_has : plainName mX12_has.1.cls = true ∧ Cond.code mX12_has.1 mX12_has.2.1 mX12_has.2.2.1 mX12_has.2.2.2 ∈ q_gw ∧ Cond.initialized mX12_has.1.cls ∈ q_gw ∧ (mX12_has.1.cls ≠ "java/lang/invoke/MethodHandle" ∧ mX12_has.1.cls ≠ "java/lang/invoke/VarHandle" ∧ (parseMethodDescriptor mX12_has.1.desc).map (fun d => d.parameters.length) = some 1) ∧ mX12_has.2.2.1 ≤ 20 := ⟨by decide +kernel, g1256, g10, by decide +kernel, by decide⟩
theorem g1255 : Cond.instanceMethod ({ cls := "ShownPatternsModel", name := "has", desc := "(I)Z" } : MethodName) ∈ q_gw := q_tables_1_6 (i := 55) rfl rfl
theorem gs60 : Cond.selects "ShownPatternsModel" ((⟨"ShownPatternsModel", "has", "(I)Z"⟩ : MethodName)) (⟨"ShownPatternsModel", "has", "(I)Z"⟩) ∈ q_gw := q_inS (i := 60) rfl rfl
theorem g1257 : Cond.methodLink "ShownPatternsModel" (246 : Nat) ({ cls := "ShownPatternsModel", name := "treeOf", desc := "(I)I" } : MethodName) ∈ q_gw := q_tables_1_6 (i := 57) rfl rfl
theorem g1260 : Cond.code ({ cls := "ShownPatternsModel", name := "treeOf", desc := "(I)I" } : MethodName) prog_14_method_18_code (2 : Nat) (Option.some FieldType.int) ∈ q_gw := q_tables_1_6 (i := 60) rfl rfl
theorem kX12_treeOf : plainName mX12_treeOf.1.cls = true ∧ Cond.code mX12_treeOf.1 mX12_treeOf.2.1 mX12_treeOf.2.2.1 mX12_treeOf.2.2.2 ∈ q_gw ∧ Cond.initialized mX12_treeOf.1.cls ∈ q_gw ∧ (mX12_treeOf.1.cls ≠ "java/lang/invoke/MethodHandle" ∧ mX12_treeOf.1.cls ≠ "java/lang/invoke/VarHandle" ∧ (parseMethodDescriptor mX12_treeOf.1.desc).map (fun d => d.parameters.length) = some 1) ∧ mX12_treeOf.2.2.1 ≤ 20 := ⟨by decide +kernel, g1260, g10, by decide +kernel, by decide⟩
theorem g1259 : Cond.instanceMethod ({ cls := "ShownPatternsModel", name := "treeOf", desc := "(I)I" } : MethodName) ∈ q_gw := q_tables_1_6 (i := 59) rfl rfl
theorem gs61 : Cond.selects "ShownPatternsModel" ((⟨"ShownPatternsModel", "treeOf", "(I)I"⟩ : MethodName)) (⟨"ShownPatternsModel", "treeOf", "(I)I"⟩) ∈ q_gw := q_inS (i := 61) rfl rfl
theorem g1293 : Cond.methodLink "ShownPatternsModel" (249 : Nat) ({ cls := "ShownPatternsModel", name := "find0", desc := "(I)I" } : MethodName) ∈ q_gw := q_tables_1_6 (i := 93) rfl rfl
theorem g1296 : Cond.code ({ cls := "ShownPatternsModel", name := "find0", desc := "(I)I" } : MethodName) prog_14_method_37_code (5 : Nat) (Option.some FieldType.int) ∈ q_gw := q_tables_1_6 (i := 96) rfl rfl
theorem kX12_find0 : plainName mX12_find0.1.cls = true ∧ Cond.code mX12_find0.1 mX12_find0.2.1 mX12_find0.2.2.1 mX12_find0.2.2.2 ∈ q_gw ∧ Cond.initialized mX12_find0.1.cls ∈ q_gw ∧ (mX12_find0.1.cls ≠ "java/lang/invoke/MethodHandle" ∧ mX12_find0.1.cls ≠ "java/lang/invoke/VarHandle" ∧ (parseMethodDescriptor mX12_find0.1.desc).map (fun d => d.parameters.length) = some 1) ∧ mX12_find0.2.2.1 ≤ 20 := ⟨by decide +kernel, g1296, g10, by decide +kernel, by decide⟩
theorem g1295 : Cond.instanceMethod ({ cls := "ShownPatternsModel", name := "find0", desc := "(I)I" } : MethodName) ∈ q_gw := q_tables_1_6 (i := 95) rfl rfl
theorem gs68 : Cond.selects "ShownPatternsModel" ((⟨"ShownPatternsModel", "find0", "(I)I"⟩ : MethodName)) (⟨"ShownPatternsModel", "find0", "(I)I"⟩) ∈ q_gw := q_inS (i := 68) rfl rfl
theorem g1285 : Cond.methodLink "ShownPatternsModel" (252 : Nat) ({ cls := "ShownPatternsModel", name := "lay", desc := "()V" } : MethodName) ∈ q_gw := q_tables_1_6 (i := 85) rfl rfl
theorem g1288 : Cond.code ({ cls := "ShownPatternsModel", name := "lay", desc := "()V" } : MethodName) prog_14_method_9_code (6 : Nat) (Option.none : Option FieldType) ∈ q_gw := q_tables_1_6 (i := 88) rfl rfl
theorem kX12_lay : plainName mX12_lay.1.cls = true ∧ Cond.code mX12_lay.1 mX12_lay.2.1 mX12_lay.2.2.1 mX12_lay.2.2.2 ∈ q_gw ∧ Cond.initialized mX12_lay.1.cls ∈ q_gw ∧ (mX12_lay.1.cls ≠ "java/lang/invoke/MethodHandle" ∧ mX12_lay.1.cls ≠ "java/lang/invoke/VarHandle" ∧ (parseMethodDescriptor mX12_lay.1.desc).map (fun d => d.parameters.length) = some 0) ∧ mX12_lay.2.2.1 ≤ 20 := ⟨by decide +kernel, g1288, g10, by decide +kernel, by decide⟩
theorem g1287 : Cond.instanceMethod ({ cls := "ShownPatternsModel", name := "lay", desc := "()V" } : MethodName) ∈ q_gw := q_tables_1_6 (i := 87) rfl rfl
theorem gs66 : Cond.selects "ShownPatternsModel" ((⟨"ShownPatternsModel", "lay", "()V"⟩ : MethodName)) (⟨"ShownPatternsModel", "lay", "()V"⟩) ∈ q_gw := q_inS (i := 66) rfl rfl
theorem g1305 : Cond.methodLink "ShownPatternsModel" (255 : Nat) ({ cls := "ShownPatternsModel", name := "take", desc := "(II)Z" } : MethodName) ∈ q_gw := q_tables_1_6 (i := 105) rfl rfl
theorem g1308 : Cond.code ({ cls := "ShownPatternsModel", name := "take", desc := "(II)Z" } : MethodName) prog_14_method_4_code (6 : Nat) (Option.some FieldType.boolean) ∈ q_gw := q_tables_1_6 (i := 108) rfl rfl
theorem kX12_take : plainName mX12_take.1.cls = true ∧ Cond.code mX12_take.1 mX12_take.2.1 mX12_take.2.2.1 mX12_take.2.2.2 ∈ q_gw ∧ Cond.initialized mX12_take.1.cls ∈ q_gw ∧ (mX12_take.1.cls ≠ "java/lang/invoke/MethodHandle" ∧ mX12_take.1.cls ≠ "java/lang/invoke/VarHandle" ∧ (parseMethodDescriptor mX12_take.1.desc).map (fun d => d.parameters.length) = some 2) ∧ mX12_take.2.2.1 ≤ 20 := ⟨by decide +kernel, g1308, g10, by decide +kernel, by decide⟩
theorem g1307 : Cond.instanceMethod ({ cls := "ShownPatternsModel", name := "take", desc := "(II)Z" } : MethodName) ∈ q_gw := q_tables_1_6 (i := 107) rfl rfl
theorem gs69 : Cond.selects "ShownPatternsModel" ((⟨"ShownPatternsModel", "take", "(II)Z"⟩ : MethodName)) (⟨"ShownPatternsModel", "take", "(II)Z"⟩) ∈ q_gw := q_inS (i := 69) rfl rfl
theorem g1309 : Cond.methodLink "ShownPatternsModel" (259 : Nat) ({ cls := "ShownPatternsModel", name := "isFit", desc := "(I)Z" } : MethodName) ∈ q_gw := q_tables_1_6 (i := 109) rfl rfl
theorem g1312 : Cond.code ({ cls := "ShownPatternsModel", name := "isFit", desc := "(I)Z" } : MethodName) prog_14_method_13_code (2 : Nat) (Option.some FieldType.boolean) ∈ q_gw := q_tables_1_6 (i := 112) rfl rfl
theorem kX12_isFit : plainName mX12_isFit.1.cls = true ∧ Cond.code mX12_isFit.1 mX12_isFit.2.1 mX12_isFit.2.2.1 mX12_isFit.2.2.2 ∈ q_gw ∧ Cond.initialized mX12_isFit.1.cls ∈ q_gw ∧ (mX12_isFit.1.cls ≠ "java/lang/invoke/MethodHandle" ∧ mX12_isFit.1.cls ≠ "java/lang/invoke/VarHandle" ∧ (parseMethodDescriptor mX12_isFit.1.desc).map (fun d => d.parameters.length) = some 1) ∧ mX12_isFit.2.2.1 ≤ 20 := ⟨by decide +kernel, g1312, g10, by decide +kernel, by decide⟩
theorem g1311 : Cond.instanceMethod ({ cls := "ShownPatternsModel", name := "isFit", desc := "(I)Z" } : MethodName) ∈ q_gw := q_tables_1_6 (i := 111) rfl rfl
theorem gs70 : Cond.selects "ShownPatternsModel" ((⟨"ShownPatternsModel", "isFit", "(I)Z"⟩ : MethodName)) (⟨"ShownPatternsModel", "isFit", "(I)Z"⟩) ∈ q_gw := q_inS (i := 70) rfl rfl
theorem g1329 : Cond.methodLink "ShownPatternsModel" (262 : Nat) ({ cls := "ShownPatternsModel", name := "outOf", desc := "(I)I" } : MethodName) ∈ q_gw := q_tables_1_6 (i := 129) rfl rfl
theorem g1332 : Cond.code ({ cls := "ShownPatternsModel", name := "outOf", desc := "(I)I" } : MethodName) prog_14_method_14_code (5 : Nat) (Option.some FieldType.int) ∈ q_gw := q_tables_1_6 (i := 132) rfl rfl
theorem kX12_outOf : plainName mX12_outOf.1.cls = true ∧ Cond.code mX12_outOf.1 mX12_outOf.2.1 mX12_outOf.2.2.1 mX12_outOf.2.2.2 ∈ q_gw ∧ Cond.initialized mX12_outOf.1.cls ∈ q_gw ∧ (mX12_outOf.1.cls ≠ "java/lang/invoke/MethodHandle" ∧ mX12_outOf.1.cls ≠ "java/lang/invoke/VarHandle" ∧ (parseMethodDescriptor mX12_outOf.1.desc).map (fun d => d.parameters.length) = some 1) ∧ mX12_outOf.2.2.1 ≤ 20 := ⟨by decide +kernel, g1332, g10, by decide +kernel, by decide⟩
theorem g1331 : Cond.instanceMethod ({ cls := "ShownPatternsModel", name := "outOf", desc := "(I)I" } : MethodName) ∈ q_gw := q_tables_1_6 (i := 131) rfl rfl
theorem gs74 : Cond.selects "ShownPatternsModel" ((⟨"ShownPatternsModel", "outOf", "(I)I"⟩ : MethodName)) (⟨"ShownPatternsModel", "outOf", "(I)I"⟩) ∈ q_gw := q_inS (i := 74) rfl rfl
theorem g1034 : Cond.fieldLink "ShownPatternsModel" (265 : Nat) "ShownPatternsModel" "partFirst" "I" ∈ q_gw := q_tables_1_5 (i := 74) rfl rfl
theorem g1035 : Cond.fieldLink "ShownPatternsModel" (268 : Nat) "ShownPatternsModel" "partLast" "I" ∈ q_gw := q_tables_1_5 (i := 75) rfl rfl
theorem g1036 : Cond.fieldLink "ShownPatternsModel" (271 : Nat) "ShownPatternsModel" "partEmpty" "Z" ∈ q_gw := q_tables_1_5 (i := 76) rfl rfl
theorem g1345 : Cond.methodLink "ShownPatternsModel" (275 : Nat) ({ cls := "ShownPatternsModel", name := "study", desc := "(II)V" } : MethodName) ∈ q_gw := q_tables_1_6 (i := 145) rfl rfl
theorem g1348 : Cond.code ({ cls := "ShownPatternsModel", name := "study", desc := "(II)V" } : MethodName) prog_14_method_42_code (7 : Nat) (Option.none : Option FieldType) ∈ q_gw := q_tables_1_6 (i := 148) rfl rfl
theorem kX12_study : plainName mX12_study.1.cls = true ∧ Cond.code mX12_study.1 mX12_study.2.1 mX12_study.2.2.1 mX12_study.2.2.2 ∈ q_gw ∧ Cond.initialized mX12_study.1.cls ∈ q_gw ∧ (mX12_study.1.cls ≠ "java/lang/invoke/MethodHandle" ∧ mX12_study.1.cls ≠ "java/lang/invoke/VarHandle" ∧ (parseMethodDescriptor mX12_study.1.desc).map (fun d => d.parameters.length) = some 2) ∧ mX12_study.2.2.1 ≤ 20 := ⟨by decide +kernel, g1348, g10, by decide +kernel, by decide⟩
theorem g1347 : Cond.instanceMethod ({ cls := "ShownPatternsModel", name := "study", desc := "(II)V" } : MethodName) ∈ q_gw := q_tables_1_6 (i := 147) rfl rfl
theorem gs77 : Cond.selects "ShownPatternsModel" ((⟨"ShownPatternsModel", "study", "(II)V"⟩ : MethodName)) (⟨"ShownPatternsModel", "study", "(II)V"⟩) ∈ q_gw := q_inS (i := 77) rfl rfl
theorem g1349 : Cond.methodLink "ShownPatternsModel" (278 : Nat) ({ cls := "ShownPatternsModel", name := "follow", desc := "(III)V" } : MethodName) ∈ q_gw := q_tables_1_6 (i := 149) rfl rfl
theorem g1352 : Cond.code ({ cls := "ShownPatternsModel", name := "follow", desc := "(III)V" } : MethodName) prog_14_method_43_code (5 : Nat) (Option.none : Option FieldType) ∈ q_gw := q_tables_1_6 (i := 152) rfl rfl
theorem kX12_follow : plainName mX12_follow.1.cls = true ∧ Cond.code mX12_follow.1 mX12_follow.2.1 mX12_follow.2.2.1 mX12_follow.2.2.2 ∈ q_gw ∧ Cond.initialized mX12_follow.1.cls ∈ q_gw ∧ (mX12_follow.1.cls ≠ "java/lang/invoke/MethodHandle" ∧ mX12_follow.1.cls ≠ "java/lang/invoke/VarHandle" ∧ (parseMethodDescriptor mX12_follow.1.desc).map (fun d => d.parameters.length) = some 3) ∧ mX12_follow.2.2.1 ≤ 20 := ⟨by decide +kernel, g1352, g10, by decide +kernel, by decide⟩
theorem g1351 : Cond.instanceMethod ({ cls := "ShownPatternsModel", name := "follow", desc := "(III)V" } : MethodName) ∈ q_gw := q_tables_1_6 (i := 151) rfl rfl
theorem gs78 : Cond.selects "ShownPatternsModel" ((⟨"ShownPatternsModel", "follow", "(III)V"⟩ : MethodName)) (⟨"ShownPatternsModel", "follow", "(III)V"⟩) ∈ q_gw := q_inS (i := 78) rfl rfl
theorem g1341 : Cond.methodLink "ShownPatternsModel" (282 : Nat) ({ cls := "ShownPatternsModel", name := "study0", desc := "(II)V" } : MethodName) ∈ q_gw := q_tables_1_6 (i := 141) rfl rfl
theorem g1344 : Cond.code ({ cls := "ShownPatternsModel", name := "study0", desc := "(II)V" } : MethodName) prog_14_method_44_code (3 : Nat) (Option.none : Option FieldType) ∈ q_gw := q_tables_1_6 (i := 144) rfl rfl
theorem kX12_study0 : plainName mX12_study0.1.cls = true ∧ Cond.code mX12_study0.1 mX12_study0.2.1 mX12_study0.2.2.1 mX12_study0.2.2.2 ∈ q_gw ∧ Cond.initialized mX12_study0.1.cls ∈ q_gw ∧ (mX12_study0.1.cls ≠ "java/lang/invoke/MethodHandle" ∧ mX12_study0.1.cls ≠ "java/lang/invoke/VarHandle" ∧ (parseMethodDescriptor mX12_study0.1.desc).map (fun d => d.parameters.length) = some 2) ∧ mX12_study0.2.2.1 ≤ 20 := ⟨by decide +kernel, g1344, g10, by decide +kernel, by decide⟩
theorem g1343 : Cond.instanceMethod ({ cls := "ShownPatternsModel", name := "study0", desc := "(II)V" } : MethodName) ∈ q_gw := q_tables_1_6 (i := 143) rfl rfl
theorem gs76 : Cond.selects "ShownPatternsModel" ((⟨"ShownPatternsModel", "study0", "(II)V"⟩ : MethodName)) (⟨"ShownPatternsModel", "study0", "(II)V"⟩) ∈ q_gw := q_inS (i := 76) rfl rfl
theorem g1353 : Cond.methodLink "ShownPatternsModel" (285 : Nat) ({ cls := "ShownPatternsModel", name := "ends0", desc := "(II)Z" } : MethodName) ∈ q_gw := q_tables_1_6 (i := 153) rfl rfl
theorem g1356 : Cond.code ({ cls := "ShownPatternsModel", name := "ends0", desc := "(II)Z" } : MethodName) prog_14_method_46_code (3 : Nat) (Option.some FieldType.boolean) ∈ q_gw := q_tables_1_6 (i := 156) rfl rfl
theorem kX12_ends0 : plainName mX12_ends0.1.cls = true ∧ Cond.code mX12_ends0.1 mX12_ends0.2.1 mX12_ends0.2.2.1 mX12_ends0.2.2.2 ∈ q_gw ∧ Cond.initialized mX12_ends0.1.cls ∈ q_gw ∧ (mX12_ends0.1.cls ≠ "java/lang/invoke/MethodHandle" ∧ mX12_ends0.1.cls ≠ "java/lang/invoke/VarHandle" ∧ (parseMethodDescriptor mX12_ends0.1.desc).map (fun d => d.parameters.length) = some 2) ∧ mX12_ends0.2.2.1 ≤ 20 := ⟨by decide +kernel, g1356, g10, by decide +kernel, by decide⟩
theorem g1355 : Cond.instanceMethod ({ cls := "ShownPatternsModel", name := "ends0", desc := "(II)Z" } : MethodName) ∈ q_gw := q_tables_1_6 (i := 155) rfl rfl
theorem gs79 : Cond.selects "ShownPatternsModel" ((⟨"ShownPatternsModel", "ends0", "(II)Z"⟩ : MethodName)) (⟨"ShownPatternsModel", "ends0", "(II)Z"⟩) ∈ q_gw := q_inS (i := 79) rfl rfl
theorem g1357 : Cond.methodLink "ShownPatternsModel" (288 : Nat) ({ cls := "ShownPatternsModel", name := "steps", desc := "(III)I" } : MethodName) ∈ q_gw := q_tables_1_6 (i := 157) rfl rfl
theorem g1360 : Cond.code ({ cls := "ShownPatternsModel", name := "steps", desc := "(III)I" } : MethodName) prog_14_method_45_code (7 : Nat) (Option.some FieldType.int) ∈ q_gw := q_tables_1_6 (i := 160) rfl rfl
theorem kX12_steps : plainName mX12_steps.1.cls = true ∧ Cond.code mX12_steps.1 mX12_steps.2.1 mX12_steps.2.2.1 mX12_steps.2.2.2 ∈ q_gw ∧ Cond.initialized mX12_steps.1.cls ∈ q_gw ∧ (mX12_steps.1.cls ≠ "java/lang/invoke/MethodHandle" ∧ mX12_steps.1.cls ≠ "java/lang/invoke/VarHandle" ∧ (parseMethodDescriptor mX12_steps.1.desc).map (fun d => d.parameters.length) = some 3) ∧ mX12_steps.2.2.1 ≤ 20 := ⟨by decide +kernel, g1360, g10, by decide +kernel, by decide⟩
theorem g1359 : Cond.instanceMethod ({ cls := "ShownPatternsModel", name := "steps", desc := "(III)I" } : MethodName) ∈ q_gw := q_tables_1_6 (i := 159) rfl rfl
theorem gs80 : Cond.selects "ShownPatternsModel" ((⟨"ShownPatternsModel", "steps", "(III)I"⟩ : MethodName)) (⟨"ShownPatternsModel", "steps", "(III)I"⟩) ∈ q_gw := q_inS (i := 80) rfl rfl
theorem g1337 : Cond.methodLink "ShownPatternsModel" (292 : Nat) ({ cls := "ShownPatternsModel", name := "countWays", desc := "(II)V" } : MethodName) ∈ q_gw := q_tables_1_6 (i := 137) rfl rfl
theorem g1340 : Cond.code ({ cls := "ShownPatternsModel", name := "countWays", desc := "(II)V" } : MethodName) prog_14_method_47_code (7 : Nat) (Option.none : Option FieldType) ∈ q_gw := q_tables_1_6 (i := 140) rfl rfl
theorem kX12_countWays : plainName mX12_countWays.1.cls = true ∧ Cond.code mX12_countWays.1 mX12_countWays.2.1 mX12_countWays.2.2.1 mX12_countWays.2.2.2 ∈ q_gw ∧ Cond.initialized mX12_countWays.1.cls ∈ q_gw ∧ (mX12_countWays.1.cls ≠ "java/lang/invoke/MethodHandle" ∧ mX12_countWays.1.cls ≠ "java/lang/invoke/VarHandle" ∧ (parseMethodDescriptor mX12_countWays.1.desc).map (fun d => d.parameters.length) = some 2) ∧ mX12_countWays.2.2.1 ≤ 20 := ⟨by decide +kernel, g1340, g10, by decide +kernel, by decide⟩
theorem g1339 : Cond.instanceMethod ({ cls := "ShownPatternsModel", name := "countWays", desc := "(II)V" } : MethodName) ∈ q_gw := q_tables_1_6 (i := 139) rfl rfl
theorem gs75 : Cond.selects "ShownPatternsModel" ((⟨"ShownPatternsModel", "countWays", "(II)V"⟩ : MethodName)) (⟨"ShownPatternsModel", "countWays", "(II)V"⟩) ∈ q_gw := q_inS (i := 75) rfl rfl
theorem g1373 : Cond.constant "ShownPatternsModel" (295 : Nat) (32896 : Int32) ∈ q_gw := q_tables_1_6 (i := 173) rfl rfl
theorem g1041 : Cond.fieldLink "ShownPatternsModel" (296 : Nat) "ShownPatternsModel" "pairMany" "I" ∈ q_gw := q_tables_1_5 (i := 81) rfl rfl
theorem g1369 : Cond.methodLink "ShownPatternsModel" (299 : Nat) ({ cls := "ShownPatternsModel", name := "findPair", desc := "(III)I" } : MethodName) ∈ q_gw := q_tables_1_6 (i := 169) rfl rfl
theorem g1372 : Cond.code ({ cls := "ShownPatternsModel", name := "findPair", desc := "(III)I" } : MethodName) prog_14_method_50_code (11 : Nat) (Option.some FieldType.int) ∈ q_gw := q_tables_1_6 (i := 172) rfl rfl
theorem kX12_findPair : plainName mX12_findPair.1.cls = true ∧ Cond.code mX12_findPair.1 mX12_findPair.2.1 mX12_findPair.2.2.1 mX12_findPair.2.2.2 ∈ q_gw ∧ Cond.initialized mX12_findPair.1.cls ∈ q_gw ∧ (mX12_findPair.1.cls ≠ "java/lang/invoke/MethodHandle" ∧ mX12_findPair.1.cls ≠ "java/lang/invoke/VarHandle" ∧ (parseMethodDescriptor mX12_findPair.1.desc).map (fun d => d.parameters.length) = some 3) ∧ mX12_findPair.2.2.1 ≤ 20 := ⟨by decide +kernel, g1372, g10, by decide +kernel, by decide⟩
theorem g1371 : Cond.instanceMethod ({ cls := "ShownPatternsModel", name := "findPair", desc := "(III)I" } : MethodName) ∈ q_gw := q_tables_1_6 (i := 171) rfl rfl
theorem gs81 : Cond.selects "ShownPatternsModel" ((⟨"ShownPatternsModel", "findPair", "(III)I"⟩ : MethodName)) (⟨"ShownPatternsModel", "findPair", "(III)I"⟩) ∈ q_gw := q_inS (i := 81) rfl rfl
theorem g1042 : Cond.fieldLink "ShownPatternsModel" (302 : Nat) "ShownPatternsModel" "showings" "I" ∈ q_gw := q_tables_1_5 (i := 82) rfl rfl
theorem g1390 : Cond.methodLink "ShownPatternsModel" (305 : Nat) ({ cls := "ShownPatternsModel", name := "isShowing", desc := "(I)Z" } : MethodName) ∈ q_gw := q_tables_1_6 (i := 190) rfl rfl
theorem g1393 : Cond.code ({ cls := "ShownPatternsModel", name := "isShowing", desc := "(I)Z" } : MethodName) prog_14_method_55_code (2 : Nat) (Option.some FieldType.boolean) ∈ q_gw := q_tables_1_6 (i := 193) rfl rfl
theorem kX12_isShowing : plainName mX12_isShowing.1.cls = true ∧ Cond.code mX12_isShowing.1 mX12_isShowing.2.1 mX12_isShowing.2.2.1 mX12_isShowing.2.2.2 ∈ q_gw ∧ Cond.initialized mX12_isShowing.1.cls ∈ q_gw ∧ (mX12_isShowing.1.cls ≠ "java/lang/invoke/MethodHandle" ∧ mX12_isShowing.1.cls ≠ "java/lang/invoke/VarHandle" ∧ (parseMethodDescriptor mX12_isShowing.1.desc).map (fun d => d.parameters.length) = some 1) ∧ mX12_isShowing.2.2.1 ≤ 20 := ⟨by decide +kernel, g1393, g10, by decide +kernel, by decide⟩
theorem g1392 : Cond.instanceMethod ({ cls := "ShownPatternsModel", name := "isShowing", desc := "(I)Z" } : MethodName) ∈ q_gw := q_tables_1_6 (i := 192) rfl rfl
theorem gs82 : Cond.selects "ShownPatternsModel" ((⟨"ShownPatternsModel", "isShowing", "(I)Z"⟩ : MethodName)) (⟨"ShownPatternsModel", "isShowing", "(I)Z"⟩) ∈ q_gw := q_inS (i := 82) rfl rfl
theorem g1398 : Cond.methodLink "ShownPatternsModel" (308 : Nat) ({ cls := "ShownPatternsModel", name := "agrees0", desc := "(II)Z" } : MethodName) ∈ q_gw := q_tables_1_6 (i := 198) rfl rfl
theorem g1401 : Cond.code ({ cls := "ShownPatternsModel", name := "agrees0", desc := "(II)Z" } : MethodName) prog_14_method_57_code (4 : Nat) (Option.some FieldType.boolean) ∈ q_gw := q_tables_1_6 (i := 201) rfl rfl
theorem kX12_agrees0 : plainName mX12_agrees0.1.cls = true ∧ Cond.code mX12_agrees0.1 mX12_agrees0.2.1 mX12_agrees0.2.2.1 mX12_agrees0.2.2.2 ∈ q_gw ∧ Cond.initialized mX12_agrees0.1.cls ∈ q_gw ∧ (mX12_agrees0.1.cls ≠ "java/lang/invoke/MethodHandle" ∧ mX12_agrees0.1.cls ≠ "java/lang/invoke/VarHandle" ∧ (parseMethodDescriptor mX12_agrees0.1.desc).map (fun d => d.parameters.length) = some 2) ∧ mX12_agrees0.2.2.1 ≤ 20 := ⟨by decide +kernel, g1401, g10, by decide +kernel, by decide⟩
theorem g1400 : Cond.instanceMethod ({ cls := "ShownPatternsModel", name := "agrees0", desc := "(II)Z" } : MethodName) ∈ q_gw := q_tables_1_6 (i := 200) rfl rfl
theorem gs83 : Cond.selects "ShownPatternsModel" ((⟨"ShownPatternsModel", "agrees0", "(II)Z"⟩ : MethodName)) (⟨"ShownPatternsModel", "agrees0", "(II)Z"⟩) ∈ q_gw := q_inS (i := 83) rfl rfl
theorem g1406 : Cond.methodLink "ShownPatternsModel" (311 : Nat) ({ cls := "ShownPatternsModel", name := "paidBy", desc := "(I)I" } : MethodName) ∈ q_gw := q_tables_1_6 (i := 206) rfl rfl
theorem g1409 : Cond.code ({ cls := "ShownPatternsModel", name := "paidBy", desc := "(I)I" } : MethodName) prog_14_method_59_code (4 : Nat) (Option.some FieldType.int) ∈ q_gw := q_tables_1_6 (i := 209) rfl rfl
theorem kX12_paidBy : plainName mX12_paidBy.1.cls = true ∧ Cond.code mX12_paidBy.1 mX12_paidBy.2.1 mX12_paidBy.2.2.1 mX12_paidBy.2.2.2 ∈ q_gw ∧ Cond.initialized mX12_paidBy.1.cls ∈ q_gw ∧ (mX12_paidBy.1.cls ≠ "java/lang/invoke/MethodHandle" ∧ mX12_paidBy.1.cls ≠ "java/lang/invoke/VarHandle" ∧ (parseMethodDescriptor mX12_paidBy.1.desc).map (fun d => d.parameters.length) = some 1) ∧ mX12_paidBy.2.2.1 ≤ 20 := ⟨by decide +kernel, g1409, g10, by decide +kernel, by decide⟩
theorem g1408 : Cond.instanceMethod ({ cls := "ShownPatternsModel", name := "paidBy", desc := "(I)I" } : MethodName) ∈ q_gw := q_tables_1_6 (i := 208) rfl rfl
theorem gs84 : Cond.selects "ShownPatternsModel" ((⟨"ShownPatternsModel", "paidBy", "(I)I"⟩ : MethodName)) (⟨"ShownPatternsModel", "paidBy", "(I)I"⟩) ∈ q_gw := q_inS (i := 84) rfl rfl
theorem g1433 : Cond.methodLink "ShownPatternsModel" (314 : Nat) ({ cls := "ShownPatternsModel", name := "number", desc := "()V" } : MethodName) ∈ q_gw := q_tables_1_6 (i := 233) rfl rfl
theorem g1436 : Cond.code ({ cls := "ShownPatternsModel", name := "number", desc := "()V" } : MethodName) prog_14_method_61_code (5 : Nat) (Option.none : Option FieldType) ∈ q_gw := q_tables_1_6 (i := 236) rfl rfl
theorem kX12_number : plainName mX12_number.1.cls = true ∧ Cond.code mX12_number.1 mX12_number.2.1 mX12_number.2.2.1 mX12_number.2.2.2 ∈ q_gw ∧ Cond.initialized mX12_number.1.cls ∈ q_gw ∧ (mX12_number.1.cls ≠ "java/lang/invoke/MethodHandle" ∧ mX12_number.1.cls ≠ "java/lang/invoke/VarHandle" ∧ (parseMethodDescriptor mX12_number.1.desc).map (fun d => d.parameters.length) = some 0) ∧ mX12_number.2.2.1 ≤ 20 := ⟨by decide +kernel, g1436, g10, by decide +kernel, by decide⟩
theorem g1435 : Cond.instanceMethod ({ cls := "ShownPatternsModel", name := "number", desc := "()V" } : MethodName) ∈ q_gw := q_tables_1_6 (i := 235) rfl rfl
theorem gs89 : Cond.selects "ShownPatternsModel" ((⟨"ShownPatternsModel", "number", "()V"⟩ : MethodName)) (⟨"ShownPatternsModel", "number", "()V"⟩) ∈ q_gw := q_inS (i := 89) rfl rfl
theorem g1055 : Cond.fieldLink "ShownPatternsModel" (317 : Nat) "ShownPatternsModel" "foundMany" "I" ∈ q_gw := q_tables_1_5 (i := 95) rfl rfl
theorem g1054 : Cond.fieldLink "ShownPatternsModel" (320 : Nat) "ShownPatternsModel" "searchAt" "I" ∈ q_gw := q_tables_1_5 (i := 94) rfl rfl
theorem g1053 : Cond.fieldLink "ShownPatternsModel" (323 : Nat) "ShownPatternsModel" "searchCost" "I" ∈ q_gw := q_tables_1_5 (i := 93) rfl rfl
theorem g1421 : Cond.methodLink "ShownPatternsModel" (326 : Nat) ({ cls := "ShownPatternsModel", name := "isOf", desc := "(III)Z" } : MethodName) ∈ q_gw := q_tables_1_6 (i := 221) rfl rfl
theorem g1424 : Cond.code ({ cls := "ShownPatternsModel", name := "isOf", desc := "(III)Z" } : MethodName) prog_14_method_64_code (4 : Nat) (Option.some FieldType.boolean) ∈ q_gw := q_tables_1_6 (i := 224) rfl rfl
theorem kX12_isOf : plainName mX12_isOf.1.cls = true ∧ Cond.code mX12_isOf.1 mX12_isOf.2.1 mX12_isOf.2.2.1 mX12_isOf.2.2.2 ∈ q_gw ∧ Cond.initialized mX12_isOf.1.cls ∈ q_gw ∧ (mX12_isOf.1.cls ≠ "java/lang/invoke/MethodHandle" ∧ mX12_isOf.1.cls ≠ "java/lang/invoke/VarHandle" ∧ (parseMethodDescriptor mX12_isOf.1.desc).map (fun d => d.parameters.length) = some 3) ∧ mX12_isOf.2.2.1 ≤ 20 := ⟨by decide +kernel, g1424, g10, by decide +kernel, by decide⟩
theorem g1423 : Cond.instanceMethod ({ cls := "ShownPatternsModel", name := "isOf", desc := "(III)Z" } : MethodName) ∈ q_gw := q_tables_1_6 (i := 223) rfl rfl
theorem gs86 : Cond.selects "ShownPatternsModel" ((⟨"ShownPatternsModel", "isOf", "(III)Z"⟩ : MethodName)) (⟨"ShownPatternsModel", "isOf", "(III)Z"⟩) ∈ q_gw := q_inS (i := 86) rfl rfl
theorem g1425 : Cond.methodLink "ShownPatternsModel" (329 : Nat) ({ cls := "ShownPatternsModel", name := "agreesAll", desc := "(I)Z" } : MethodName) ∈ q_gw := q_tables_1_6 (i := 225) rfl rfl
theorem g1428 : Cond.code ({ cls := "ShownPatternsModel", name := "agreesAll", desc := "(I)Z" } : MethodName) prog_14_method_63_code (3 : Nat) (Option.some FieldType.boolean) ∈ q_gw := q_tables_1_6 (i := 228) rfl rfl
theorem kX12_agreesAll : plainName mX12_agreesAll.1.cls = true ∧ Cond.code mX12_agreesAll.1 mX12_agreesAll.2.1 mX12_agreesAll.2.2.1 mX12_agreesAll.2.2.2 ∈ q_gw ∧ Cond.initialized mX12_agreesAll.1.cls ∈ q_gw ∧ (mX12_agreesAll.1.cls ≠ "java/lang/invoke/MethodHandle" ∧ mX12_agreesAll.1.cls ≠ "java/lang/invoke/VarHandle" ∧ (parseMethodDescriptor mX12_agreesAll.1.desc).map (fun d => d.parameters.length) = some 1) ∧ mX12_agreesAll.2.2.1 ≤ 20 := ⟨by decide +kernel, g1428, g10, by decide +kernel, by decide⟩
theorem g1427 : Cond.instanceMethod ({ cls := "ShownPatternsModel", name := "agreesAll", desc := "(I)Z" } : MethodName) ∈ q_gw := q_tables_1_6 (i := 227) rfl rfl
theorem gs87 : Cond.selects "ShownPatternsModel" ((⟨"ShownPatternsModel", "agreesAll", "(I)Z"⟩ : MethodName)) (⟨"ShownPatternsModel", "agreesAll", "(I)Z"⟩) ∈ q_gw := q_inS (i := 87) rfl rfl
theorem g1429 : Cond.methodLink "ShownPatternsModel" (332 : Nat) ({ cls := "ShownPatternsModel", name := "know", desc := "(I)V" } : MethodName) ∈ q_gw := q_tables_1_6 (i := 229) rfl rfl
theorem g1432 : Cond.code ({ cls := "ShownPatternsModel", name := "know", desc := "(I)V" } : MethodName) prog_14_method_62_code (4 : Nat) (Option.none : Option FieldType) ∈ q_gw := q_tables_1_6 (i := 232) rfl rfl
theorem kX12_know : plainName mX12_know.1.cls = true ∧ Cond.code mX12_know.1 mX12_know.2.1 mX12_know.2.2.1 mX12_know.2.2.2 ∈ q_gw ∧ Cond.initialized mX12_know.1.cls ∈ q_gw ∧ (mX12_know.1.cls ≠ "java/lang/invoke/MethodHandle" ∧ mX12_know.1.cls ≠ "java/lang/invoke/VarHandle" ∧ (parseMethodDescriptor mX12_know.1.desc).map (fun d => d.parameters.length) = some 1) ∧ mX12_know.2.2.1 ≤ 20 := ⟨by decide +kernel, g1432, g10, by decide +kernel, by decide⟩
theorem g1431 : Cond.instanceMethod ({ cls := "ShownPatternsModel", name := "know", desc := "(I)V" } : MethodName) ∈ q_gw := q_tables_1_6 (i := 231) rfl rfl
theorem gs88 : Cond.selects "ShownPatternsModel" ((⟨"ShownPatternsModel", "know", "(I)V"⟩ : MethodName)) (⟨"ShownPatternsModel", "know", "(I)V"⟩) ∈ q_gw := q_inS (i := 88) rfl rfl
theorem g1437 : Cond.methodLink "ShownPatternsModel" (335 : Nat) ({ cls := "ShownPatternsModel", name := "isNew", desc := "(I)Z" } : MethodName) ∈ q_gw := q_tables_1_6 (i := 237) rfl rfl
theorem g1440 : Cond.code ({ cls := "ShownPatternsModel", name := "isNew", desc := "(I)Z" } : MethodName) prog_14_method_66_code (3 : Nat) (Option.some FieldType.boolean) ∈ q_gw := q_tables_1_7 (i := 0) rfl rfl
theorem kX12_isNew : plainName mX12_isNew.1.cls = true ∧ Cond.code mX12_isNew.1 mX12_isNew.2.1 mX12_isNew.2.2.1 mX12_isNew.2.2.2 ∈ q_gw ∧ Cond.initialized mX12_isNew.1.cls ∈ q_gw ∧ (mX12_isNew.1.cls ≠ "java/lang/invoke/MethodHandle" ∧ mX12_isNew.1.cls ≠ "java/lang/invoke/VarHandle" ∧ (parseMethodDescriptor mX12_isNew.1.desc).map (fun d => d.parameters.length) = some 1) ∧ mX12_isNew.2.2.1 ≤ 20 := ⟨by decide +kernel, g1440, g10, by decide +kernel, by decide⟩
theorem g1439 : Cond.instanceMethod ({ cls := "ShownPatternsModel", name := "isNew", desc := "(I)Z" } : MethodName) ∈ q_gw := q_tables_1_6 (i := 239) rfl rfl
theorem gs90 : Cond.selects "ShownPatternsModel" ((⟨"ShownPatternsModel", "isNew", "(I)Z"⟩ : MethodName)) (⟨"ShownPatternsModel", "isNew", "(I)Z"⟩) ∈ q_gw := q_inS (i := 90) rfl rfl
theorem g1441 : Cond.methodLink "ShownPatternsModel" (338 : Nat) ({ cls := "ShownPatternsModel", name := "note", desc := "(I)V" } : MethodName) ∈ q_gw := q_tables_1_7 (i := 1) rfl rfl
theorem g1444 : Cond.code ({ cls := "ShownPatternsModel", name := "note", desc := "(I)V" } : MethodName) prog_14_method_67_code (2 : Nat) (Option.none : Option FieldType) ∈ q_gw := q_tables_1_7 (i := 4) rfl rfl
theorem kX12_note : plainName mX12_note.1.cls = true ∧ Cond.code mX12_note.1 mX12_note.2.1 mX12_note.2.2.1 mX12_note.2.2.2 ∈ q_gw ∧ Cond.initialized mX12_note.1.cls ∈ q_gw ∧ (mX12_note.1.cls ≠ "java/lang/invoke/MethodHandle" ∧ mX12_note.1.cls ≠ "java/lang/invoke/VarHandle" ∧ (parseMethodDescriptor mX12_note.1.desc).map (fun d => d.parameters.length) = some 1) ∧ mX12_note.2.2.1 ≤ 20 := ⟨by decide +kernel, g1444, g10, by decide +kernel, by decide⟩
theorem g1443 : Cond.instanceMethod ({ cls := "ShownPatternsModel", name := "note", desc := "(I)V" } : MethodName) ∈ q_gw := q_tables_1_7 (i := 3) rfl rfl
theorem gs91 : Cond.selects "ShownPatternsModel" ((⟨"ShownPatternsModel", "note", "(I)V"⟩ : MethodName)) (⟨"ShownPatternsModel", "note", "(I)V"⟩) ∈ q_gw := q_inS (i := 91) rfl rfl
theorem g1414 : Cond.methodLink "ShownPatternsModel" (341 : Nat) ({ cls := "ShownPatternsModel", name := "areAsked", desc := "(II)Z" } : MethodName) ∈ q_gw := q_tables_1_6 (i := 214) rfl rfl
theorem g1416 : Cond.code ({ cls := "ShownPatternsModel", name := "areAsked", desc := "(II)Z" } : MethodName) prog_14_method_65_code (2 : Nat) (Option.some FieldType.boolean) ∈ q_gw := q_tables_1_6 (i := 216) rfl rfl
theorem kX12_areAsked : plainName mX12_areAsked.1.cls = true ∧ Cond.code mX12_areAsked.1 mX12_areAsked.2.1 mX12_areAsked.2.2.1 mX12_areAsked.2.2.2 ∈ q_gw ∧ Cond.initialized mX12_areAsked.1.cls ∈ q_gw ∧ (mX12_areAsked.1.cls ≠ "java/lang/invoke/MethodHandle" ∧ mX12_areAsked.1.cls ≠ "java/lang/invoke/VarHandle" ∧ (parseMethodDescriptor mX12_areAsked.1.desc).map (fun d => d.parameters.length) = some 2) ∧ mX12_areAsked.2.2.1 ≤ 20 := ⟨by decide +kernel, g1416, g10, by decide +kernel, by decide⟩
theorem g1415 : Cond.static ({ cls := "ShownPatternsModel", name := "areAsked", desc := "(II)Z" } : MethodName) ∈ q_gw := q_tables_1_6 (i := 215) rfl rfl
theorem g1417 : Cond.methodLink "ShownPatternsModel" (344 : Nat) ({ cls := "ShownPatternsModel", name := "goOn", desc := "(I)I" } : MethodName) ∈ q_gw := q_tables_1_6 (i := 217) rfl rfl
theorem g1420 : Cond.code ({ cls := "ShownPatternsModel", name := "goOn", desc := "(I)I" } : MethodName) prog_14_method_68_code (3 : Nat) (Option.some FieldType.int) ∈ q_gw := q_tables_1_6 (i := 220) rfl rfl
theorem kX12_goOn : plainName mX12_goOn.1.cls = true ∧ Cond.code mX12_goOn.1 mX12_goOn.2.1 mX12_goOn.2.2.1 mX12_goOn.2.2.2 ∈ q_gw ∧ Cond.initialized mX12_goOn.1.cls ∈ q_gw ∧ (mX12_goOn.1.cls ≠ "java/lang/invoke/MethodHandle" ∧ mX12_goOn.1.cls ≠ "java/lang/invoke/VarHandle" ∧ (parseMethodDescriptor mX12_goOn.1.desc).map (fun d => d.parameters.length) = some 1) ∧ mX12_goOn.2.2.1 ≤ 20 := ⟨by decide +kernel, g1420, g10, by decide +kernel, by decide⟩
theorem g1419 : Cond.instanceMethod ({ cls := "ShownPatternsModel", name := "goOn", desc := "(I)I" } : MethodName) ∈ q_gw := q_tables_1_6 (i := 219) rfl rfl
theorem gs85 : Cond.selects "ShownPatternsModel" ((⟨"ShownPatternsModel", "goOn", "(I)I"⟩ : MethodName)) (⟨"ShownPatternsModel", "goOn", "(I)I"⟩) ∈ q_gw := q_inS (i := 85) rfl rfl
theorem g1058 : Cond.fieldLink "ShownPatternsModel" (347 : Nat) "ShownPatternsModel" "meanings" "I" ∈ q_gw := q_tables_1_5 (i := 98) rfl rfl
theorem g1457 : Cond.methodLink "ShownPatternsModel" (350 : Nat) ({ cls := "ShownPatternsModel", name := "gather", desc := "(II)V" } : MethodName) ∈ q_gw := q_tables_1_7 (i := 17) rfl rfl
theorem g1460 : Cond.code ({ cls := "ShownPatternsModel", name := "gather", desc := "(II)V" } : MethodName) prog_14_method_72_code (6 : Nat) (Option.none : Option FieldType) ∈ q_gw := q_tables_1_7 (i := 20) rfl rfl
theorem kX12_gather : plainName mX12_gather.1.cls = true ∧ Cond.code mX12_gather.1 mX12_gather.2.1 mX12_gather.2.2.1 mX12_gather.2.2.2 ∈ q_gw ∧ Cond.initialized mX12_gather.1.cls ∈ q_gw ∧ (mX12_gather.1.cls ≠ "java/lang/invoke/MethodHandle" ∧ mX12_gather.1.cls ≠ "java/lang/invoke/VarHandle" ∧ (parseMethodDescriptor mX12_gather.1.desc).map (fun d => d.parameters.length) = some 2) ∧ mX12_gather.2.2.1 ≤ 20 := ⟨by decide +kernel, g1460, g10, by decide +kernel, by decide⟩
theorem g1459 : Cond.instanceMethod ({ cls := "ShownPatternsModel", name := "gather", desc := "(II)V" } : MethodName) ∈ q_gw := q_tables_1_7 (i := 19) rfl rfl
theorem gs92 : Cond.selects "ShownPatternsModel" ((⟨"ShownPatternsModel", "gather", "(II)V"⟩ : MethodName)) (⟨"ShownPatternsModel", "gather", "(II)V"⟩) ∈ q_gw := q_inS (i := 92) rfl rfl
theorem g1061 : Cond.fieldLink "ShownPatternsModel" (353 : Nat) "ShownPatternsModel" "askedMany" "I" ∈ q_gw := q_tables_1_5 (i := 101) rfl rfl
theorem g991 : Cond.constant "java/lang/Integer" (265 : Nat) (1431655765 : Int32) ∈ q_gw := q_tables_1_5 (i := 31) rfl rfl
theorem g992 : Cond.constant "java/lang/Integer" (266 : Nat) (858993459 : Int32) ∈ q_gw := q_tables_1_5 (i := 32) rfl rfl
theorem g993 : Cond.constant "java/lang/Integer" (267 : Nat) (252645135 : Int32) ∈ q_gw := q_tables_1_5 (i := 33) rfl rfl
theorem g18 : Cond.classLink "ShownPatternsLaw" (7 : Nat) "ShownPatterns" ∈ q_gw := q_tables_1_1 (i := 18) rfl rfl
theorem g19 : Cond.instantiable "ShownPatterns" (11 : Nat) ∈ q_gw := q_tables_1_1 (i := 19) rfl rfl
theorem g20 : Cond.methodLink "ShownPatternsLaw" (9 : Nat) ({ cls := "ShownPatterns", name := "<init>", desc := "()V" } : MethodName) ∈ q_gw := q_tables_1_1 (i := 20) rfl rfl
theorem g22 : Cond.code ({ cls := "ShownPatterns", name := "<init>", desc := "()V" } : MethodName) prog_1_method_1_code (2 : Nat) (Option.none : Option FieldType) ∈ q_gw := q_tables_1_1 (i := 22) rfl rfl
theorem kX11_init : plainName mX11_init.1.cls = true ∧ Cond.code mX11_init.1 mX11_init.2.1 mX11_init.2.2.1 mX11_init.2.2.2 ∈ q_gw ∧ Cond.initialized mX11_init.1.cls ∈ q_gw ∧ (mX11_init.1.cls ≠ "java/lang/invoke/MethodHandle" ∧ mX11_init.1.cls ≠ "java/lang/invoke/VarHandle" ∧ (parseMethodDescriptor mX11_init.1.desc).map (fun d => d.parameters.length) = some 0) ∧ mX11_init.2.2.1 ≤ 20 := ⟨by decide +kernel, g22, g1, by decide +kernel, by decide⟩
theorem g21 : Cond.instanceMethod ({ cls := "ShownPatterns", name := "<init>", desc := "()V" } : MethodName) ∈ q_gw := q_tables_1_1 (i := 21) rfl rfl
theorem g998 : Cond.classLink "ShownPatternsLaw" (10 : Nat) "ShownPatternsModel" ∈ q_gw := q_tables_1_5 (i := 38) rfl rfl
theorem g999 : Cond.instantiable "ShownPatternsModel" (58 : Nat) ∈ q_gw := q_tables_1_5 (i := 39) rfl rfl
theorem g1000 : Cond.methodLink "ShownPatternsLaw" (12 : Nat) ({ cls := "ShownPatternsModel", name := "<init>", desc := "()V" } : MethodName) ∈ q_gw := q_tables_1_5 (i := 40) rfl rfl
theorem g1002 : Cond.code ({ cls := "ShownPatternsModel", name := "<init>", desc := "()V" } : MethodName) prog_14_method_1_code (1 : Nat) (Option.none : Option FieldType) ∈ q_gw := q_tables_1_5 (i := 42) rfl rfl
theorem kX12_init : plainName mX12_init.1.cls = true ∧ Cond.code mX12_init.1 mX12_init.2.1 mX12_init.2.2.1 mX12_init.2.2.2 ∈ q_gw ∧ Cond.initialized mX12_init.1.cls ∈ q_gw ∧ (mX12_init.1.cls ≠ "java/lang/invoke/MethodHandle" ∧ mX12_init.1.cls ≠ "java/lang/invoke/VarHandle" ∧ (parseMethodDescriptor mX12_init.1.desc).map (fun d => d.parameters.length) = some 0) ∧ mX12_init.2.2.1 ≤ 20 := ⟨by decide +kernel, g1002, g10, by decide +kernel, by decide⟩
theorem g1001 : Cond.instanceMethod ({ cls := "ShownPatternsModel", name := "<init>", desc := "()V" } : MethodName) ∈ q_gw := q_tables_1_5 (i := 41) rfl rfl
theorem g212 : Cond.methodLink "ShownPatternsLaw" (13 : Nat) ({ cls := "ShownPatterns", name := "feed", desc := "(II)I" } : MethodName) ∈ q_gw := q_tables_1_1 (i := 212) rfl rfl
theorem g215 : Cond.code ({ cls := "ShownPatterns", name := "feed", desc := "(II)I" } : MethodName) prog_1_method_2_code (3 : Nat) (Option.some FieldType.int) ∈ q_gw := q_tables_1_1 (i := 215) rfl rfl
theorem kX11_feed : plainName mX11_feed.1.cls = true ∧ Cond.code mX11_feed.1 mX11_feed.2.1 mX11_feed.2.2.1 mX11_feed.2.2.2 ∈ q_gw ∧ Cond.initialized mX11_feed.1.cls ∈ q_gw ∧ (mX11_feed.1.cls ≠ "java/lang/invoke/MethodHandle" ∧ mX11_feed.1.cls ≠ "java/lang/invoke/VarHandle" ∧ (parseMethodDescriptor mX11_feed.1.desc).map (fun d => d.parameters.length) = some 2) ∧ mX11_feed.2.2.1 ≤ 20 := ⟨by decide +kernel, g215, g1, by decide +kernel, by decide⟩
theorem g213 : Cond.instanceMethod ({ cls := "ShownPatterns", name := "feed", desc := "(II)I" } : MethodName) ∈ q_gw := q_tables_1_1 (i := 213) rfl rfl
theorem g214 : Cond.selects "ShownPatterns" ({ cls := "ShownPatterns", name := "feed", desc := "(II)I" } : MethodName) ({ cls := "ShownPatterns", name := "feed", desc := "(II)I" } : MethodName) ∈ q_gw := q_tables_1_1 (i := 214) rfl rfl
theorem g1180 : Cond.methodLink "ShownPatternsLaw" (17 : Nat) ({ cls := "ShownPatternsModel", name := "feed", desc := "(II)I" } : MethodName) ∈ q_gw := q_tables_1_5 (i := 220) rfl rfl
theorem g1183 : Cond.code ({ cls := "ShownPatternsModel", name := "feed", desc := "(II)I" } : MethodName) prog_14_method_21_code (4 : Nat) (Option.some FieldType.int) ∈ q_gw := q_tables_1_5 (i := 223) rfl rfl
theorem kX12_feed : plainName mX12_feed.1.cls = true ∧ Cond.code mX12_feed.1 mX12_feed.2.1 mX12_feed.2.2.1 mX12_feed.2.2.2 ∈ q_gw ∧ Cond.initialized mX12_feed.1.cls ∈ q_gw ∧ (mX12_feed.1.cls ≠ "java/lang/invoke/MethodHandle" ∧ mX12_feed.1.cls ≠ "java/lang/invoke/VarHandle" ∧ (parseMethodDescriptor mX12_feed.1.desc).map (fun d => d.parameters.length) = some 2) ∧ mX12_feed.2.2.1 ≤ 20 := ⟨by decide +kernel, g1183, g10, by decide +kernel, by decide⟩
theorem g1181 : Cond.instanceMethod ({ cls := "ShownPatternsModel", name := "feed", desc := "(II)I" } : MethodName) ∈ q_gw := q_tables_1_5 (i := 221) rfl rfl
theorem g1182 : Cond.selects "ShownPatternsModel" ({ cls := "ShownPatternsModel", name := "feed", desc := "(II)I" } : MethodName) ({ cls := "ShownPatternsModel", name := "feed", desc := "(II)I" } : MethodName) ∈ q_gw := q_tables_1_5 (i := 222) rfl rfl
theorem g224 : Cond.methodLink "ShownPatternsLaw" (18 : Nat) ({ cls := "ShownPatterns", name := "read", desc := "(I)I" } : MethodName) ∈ q_gw := q_tables_1_1 (i := 224) rfl rfl
theorem g227 : Cond.code ({ cls := "ShownPatterns", name := "read", desc := "(I)I" } : MethodName) prog_1_method_3_code (4 : Nat) (Option.some FieldType.int) ∈ q_gw := q_tables_1_1 (i := 227) rfl rfl
theorem kX11_read : plainName mX11_read.1.cls = true ∧ Cond.code mX11_read.1 mX11_read.2.1 mX11_read.2.2.1 mX11_read.2.2.2 ∈ q_gw ∧ Cond.initialized mX11_read.1.cls ∈ q_gw ∧ (mX11_read.1.cls ≠ "java/lang/invoke/MethodHandle" ∧ mX11_read.1.cls ≠ "java/lang/invoke/VarHandle" ∧ (parseMethodDescriptor mX11_read.1.desc).map (fun d => d.parameters.length) = some 1) ∧ mX11_read.2.2.1 ≤ 20 := ⟨by decide +kernel, g227, g1, by decide +kernel, by decide⟩
theorem g225 : Cond.instanceMethod ({ cls := "ShownPatterns", name := "read", desc := "(I)I" } : MethodName) ∈ q_gw := q_tables_1_1 (i := 225) rfl rfl
theorem g226 : Cond.selects "ShownPatterns" ({ cls := "ShownPatterns", name := "read", desc := "(I)I" } : MethodName) ({ cls := "ShownPatterns", name := "read", desc := "(I)I" } : MethodName) ∈ q_gw := q_tables_1_1 (i := 226) rfl rfl
theorem g1187 : Cond.methodLink "ShownPatternsLaw" (22 : Nat) ({ cls := "ShownPatternsModel", name := "read", desc := "(I)I" } : MethodName) ∈ q_gw := q_tables_1_5 (i := 227) rfl rfl
theorem g1190 : Cond.code ({ cls := "ShownPatternsModel", name := "read", desc := "(I)I" } : MethodName) prog_14_method_31_code (3 : Nat) (Option.some FieldType.int) ∈ q_gw := q_tables_1_5 (i := 230) rfl rfl
theorem kX12_read : plainName mX12_read.1.cls = true ∧ Cond.code mX12_read.1 mX12_read.2.1 mX12_read.2.2.1 mX12_read.2.2.2 ∈ q_gw ∧ Cond.initialized mX12_read.1.cls ∈ q_gw ∧ (mX12_read.1.cls ≠ "java/lang/invoke/MethodHandle" ∧ mX12_read.1.cls ≠ "java/lang/invoke/VarHandle" ∧ (parseMethodDescriptor mX12_read.1.desc).map (fun d => d.parameters.length) = some 1) ∧ mX12_read.2.2.1 ≤ 20 := ⟨by decide +kernel, g1190, g10, by decide +kernel, by decide⟩
theorem g1188 : Cond.instanceMethod ({ cls := "ShownPatternsModel", name := "read", desc := "(I)I" } : MethodName) ∈ q_gw := q_tables_1_5 (i := 228) rfl rfl
theorem g1189 : Cond.selects "ShownPatternsModel" ({ cls := "ShownPatternsModel", name := "read", desc := "(I)I" } : MethodName) ({ cls := "ShownPatternsModel", name := "read", desc := "(I)I" } : MethodName) ∈ q_gw := q_tables_1_5 (i := 229) rfl rfl
theorem g339 : Cond.methodLink "ShownPatternsLaw" (23 : Nat) ({ cls := "ShownPatterns", name := "say", desc := "(II)I" } : MethodName) ∈ q_gw := q_tables_1_2 (i := 99) rfl rfl
theorem g342 : Cond.code ({ cls := "ShownPatterns", name := "say", desc := "(II)I" } : MethodName) prog_1_method_4_code (4 : Nat) (Option.some FieldType.int) ∈ q_gw := q_tables_1_2 (i := 102) rfl rfl
theorem kX11_say : plainName mX11_say.1.cls = true ∧ Cond.code mX11_say.1 mX11_say.2.1 mX11_say.2.2.1 mX11_say.2.2.2 ∈ q_gw ∧ Cond.initialized mX11_say.1.cls ∈ q_gw ∧ (mX11_say.1.cls ≠ "java/lang/invoke/MethodHandle" ∧ mX11_say.1.cls ≠ "java/lang/invoke/VarHandle" ∧ (parseMethodDescriptor mX11_say.1.desc).map (fun d => d.parameters.length) = some 2) ∧ mX11_say.2.2.1 ≤ 20 := ⟨by decide +kernel, g342, g1, by decide +kernel, by decide⟩
theorem g340 : Cond.instanceMethod ({ cls := "ShownPatterns", name := "say", desc := "(II)I" } : MethodName) ∈ q_gw := q_tables_1_2 (i := 100) rfl rfl
theorem g341 : Cond.selects "ShownPatterns" ({ cls := "ShownPatterns", name := "say", desc := "(II)I" } : MethodName) ({ cls := "ShownPatterns", name := "say", desc := "(II)I" } : MethodName) ∈ q_gw := q_tables_1_2 (i := 101) rfl rfl
theorem g1249 : Cond.methodLink "ShownPatternsLaw" (26 : Nat) ({ cls := "ShownPatternsModel", name := "say", desc := "(II)I" } : MethodName) ∈ q_gw := q_tables_1_6 (i := 49) rfl rfl
theorem g1252 : Cond.code ({ cls := "ShownPatternsModel", name := "say", desc := "(II)I" } : MethodName) prog_14_method_35_code (3 : Nat) (Option.some FieldType.int) ∈ q_gw := q_tables_1_6 (i := 52) rfl rfl
theorem kX12_say : plainName mX12_say.1.cls = true ∧ Cond.code mX12_say.1 mX12_say.2.1 mX12_say.2.2.1 mX12_say.2.2.2 ∈ q_gw ∧ Cond.initialized mX12_say.1.cls ∈ q_gw ∧ (mX12_say.1.cls ≠ "java/lang/invoke/MethodHandle" ∧ mX12_say.1.cls ≠ "java/lang/invoke/VarHandle" ∧ (parseMethodDescriptor mX12_say.1.desc).map (fun d => d.parameters.length) = some 2) ∧ mX12_say.2.2.1 ≤ 20 := ⟨by decide +kernel, g1252, g10, by decide +kernel, by decide⟩
theorem g1250 : Cond.instanceMethod ({ cls := "ShownPatternsModel", name := "say", desc := "(II)I" } : MethodName) ∈ q_gw := q_tables_1_6 (i := 50) rfl rfl
theorem g1251 : Cond.selects "ShownPatternsModel" ({ cls := "ShownPatternsModel", name := "say", desc := "(II)I" } : MethodName) ({ cls := "ShownPatternsModel", name := "say", desc := "(II)I" } : MethodName) ∈ q_gw := q_tables_1_6 (i := 51) rfl rfl
theorem g378 : Cond.methodLink "ShownPatternsLaw" (27 : Nat) ({ cls := "ShownPatterns", name := "drop", desc := "(I)I" } : MethodName) ∈ q_gw := q_tables_1_2 (i := 138) rfl rfl
theorem g381 : Cond.code ({ cls := "ShownPatterns", name := "drop", desc := "(I)I" } : MethodName) prog_1_method_5_code (3 : Nat) (Option.some FieldType.int) ∈ q_gw := q_tables_1_2 (i := 141) rfl rfl
theorem kX11_drop : plainName mX11_drop.1.cls = true ∧ Cond.code mX11_drop.1 mX11_drop.2.1 mX11_drop.2.2.1 mX11_drop.2.2.2 ∈ q_gw ∧ Cond.initialized mX11_drop.1.cls ∈ q_gw ∧ (mX11_drop.1.cls ≠ "java/lang/invoke/MethodHandle" ∧ mX11_drop.1.cls ≠ "java/lang/invoke/VarHandle" ∧ (parseMethodDescriptor mX11_drop.1.desc).map (fun d => d.parameters.length) = some 1) ∧ mX11_drop.2.2.1 ≤ 20 := ⟨by decide +kernel, g381, g1, by decide +kernel, by decide⟩
theorem g379 : Cond.instanceMethod ({ cls := "ShownPatterns", name := "drop", desc := "(I)I" } : MethodName) ∈ q_gw := q_tables_1_2 (i := 139) rfl rfl
theorem g380 : Cond.selects "ShownPatterns" ({ cls := "ShownPatterns", name := "drop", desc := "(I)I" } : MethodName) ({ cls := "ShownPatterns", name := "drop", desc := "(I)I" } : MethodName) ∈ q_gw := q_tables_1_2 (i := 140) rfl rfl
theorem g1277 : Cond.methodLink "ShownPatternsLaw" (30 : Nat) ({ cls := "ShownPatternsModel", name := "drop", desc := "(I)I" } : MethodName) ∈ q_gw := q_tables_1_6 (i := 77) rfl rfl
theorem g1280 : Cond.code ({ cls := "ShownPatternsModel", name := "drop", desc := "(I)I" } : MethodName) prog_14_method_36_code (2 : Nat) (Option.some FieldType.int) ∈ q_gw := q_tables_1_6 (i := 80) rfl rfl
theorem kX12_drop : plainName mX12_drop.1.cls = true ∧ Cond.code mX12_drop.1 mX12_drop.2.1 mX12_drop.2.2.1 mX12_drop.2.2.2 ∈ q_gw ∧ Cond.initialized mX12_drop.1.cls ∈ q_gw ∧ (mX12_drop.1.cls ≠ "java/lang/invoke/MethodHandle" ∧ mX12_drop.1.cls ≠ "java/lang/invoke/VarHandle" ∧ (parseMethodDescriptor mX12_drop.1.desc).map (fun d => d.parameters.length) = some 1) ∧ mX12_drop.2.2.1 ≤ 20 := ⟨by decide +kernel, g1280, g10, by decide +kernel, by decide⟩
theorem g1278 : Cond.instanceMethod ({ cls := "ShownPatternsModel", name := "drop", desc := "(I)I" } : MethodName) ∈ q_gw := q_tables_1_6 (i := 78) rfl rfl
theorem g1279 : Cond.selects "ShownPatternsModel" ({ cls := "ShownPatternsModel", name := "drop", desc := "(I)I" } : MethodName) ({ cls := "ShownPatternsModel", name := "drop", desc := "(I)I" } : MethodName) ∈ q_gw := q_tables_1_6 (i := 79) rfl rfl
theorem g383 : Cond.methodLink "ShownPatternsLaw" (31 : Nat) ({ cls := "ShownPatterns", name := "about", desc := "(II)I" } : MethodName) ∈ q_gw := q_tables_1_2 (i := 143) rfl rfl
theorem g386 : Cond.code ({ cls := "ShownPatterns", name := "about", desc := "(II)I" } : MethodName) prog_1_method_6_code (6 : Nat) (Option.some FieldType.int) ∈ q_gw := q_tables_1_2 (i := 146) rfl rfl
theorem kX11_about : plainName mX11_about.1.cls = true ∧ Cond.code mX11_about.1 mX11_about.2.1 mX11_about.2.2.1 mX11_about.2.2.2 ∈ q_gw ∧ Cond.initialized mX11_about.1.cls ∈ q_gw ∧ (mX11_about.1.cls ≠ "java/lang/invoke/MethodHandle" ∧ mX11_about.1.cls ≠ "java/lang/invoke/VarHandle" ∧ (parseMethodDescriptor mX11_about.1.desc).map (fun d => d.parameters.length) = some 2) ∧ mX11_about.2.2.1 ≤ 20 := ⟨by decide +kernel, g386, g1, by decide +kernel, by decide⟩
theorem g384 : Cond.instanceMethod ({ cls := "ShownPatterns", name := "about", desc := "(II)I" } : MethodName) ∈ q_gw := q_tables_1_2 (i := 144) rfl rfl
theorem g385 : Cond.selects "ShownPatterns" ({ cls := "ShownPatterns", name := "about", desc := "(II)I" } : MethodName) ({ cls := "ShownPatterns", name := "about", desc := "(II)I" } : MethodName) ∈ q_gw := q_tables_1_2 (i := 145) rfl rfl
theorem g1281 : Cond.methodLink "ShownPatternsLaw" (34 : Nat) ({ cls := "ShownPatternsModel", name := "about", desc := "(II)I" } : MethodName) ∈ q_gw := q_tables_1_6 (i := 81) rfl rfl
theorem g1284 : Cond.code ({ cls := "ShownPatternsModel", name := "about", desc := "(II)I" } : MethodName) prog_14_method_38_code (4 : Nat) (Option.some FieldType.int) ∈ q_gw := q_tables_1_6 (i := 84) rfl rfl
theorem kX12_about : plainName mX12_about.1.cls = true ∧ Cond.code mX12_about.1 mX12_about.2.1 mX12_about.2.2.1 mX12_about.2.2.2 ∈ q_gw ∧ Cond.initialized mX12_about.1.cls ∈ q_gw ∧ (mX12_about.1.cls ≠ "java/lang/invoke/MethodHandle" ∧ mX12_about.1.cls ≠ "java/lang/invoke/VarHandle" ∧ (parseMethodDescriptor mX12_about.1.desc).map (fun d => d.parameters.length) = some 2) ∧ mX12_about.2.2.1 ≤ 20 := ⟨by decide +kernel, g1284, g10, by decide +kernel, by decide⟩
theorem g1282 : Cond.instanceMethod ({ cls := "ShownPatternsModel", name := "about", desc := "(II)I" } : MethodName) ∈ q_gw := q_tables_1_6 (i := 82) rfl rfl
theorem g1283 : Cond.selects "ShownPatternsModel" ({ cls := "ShownPatternsModel", name := "about", desc := "(II)I" } : MethodName) ({ cls := "ShownPatternsModel", name := "about", desc := "(II)I" } : MethodName) ∈ q_gw := q_tables_1_6 (i := 83) rfl rfl
theorem g471 : Cond.methodLink "ShownPatternsLaw" (35 : Nat) ({ cls := "ShownPatterns", name := "nth", desc := "(III)I" } : MethodName) ∈ q_gw := q_tables_1_2 (i := 231) rfl rfl
theorem g474 : Cond.code ({ cls := "ShownPatterns", name := "nth", desc := "(III)I" } : MethodName) prog_1_method_7_code (6 : Nat) (Option.some FieldType.int) ∈ q_gw := q_tables_1_2 (i := 234) rfl rfl
theorem kX11_nth : plainName mX11_nth.1.cls = true ∧ Cond.code mX11_nth.1 mX11_nth.2.1 mX11_nth.2.2.1 mX11_nth.2.2.2 ∈ q_gw ∧ Cond.initialized mX11_nth.1.cls ∈ q_gw ∧ (mX11_nth.1.cls ≠ "java/lang/invoke/MethodHandle" ∧ mX11_nth.1.cls ≠ "java/lang/invoke/VarHandle" ∧ (parseMethodDescriptor mX11_nth.1.desc).map (fun d => d.parameters.length) = some 3) ∧ mX11_nth.2.2.1 ≤ 20 := ⟨by decide +kernel, g474, g1, by decide +kernel, by decide⟩
theorem g472 : Cond.instanceMethod ({ cls := "ShownPatterns", name := "nth", desc := "(III)I" } : MethodName) ∈ q_gw := q_tables_1_2 (i := 232) rfl rfl
theorem g473 : Cond.selects "ShownPatterns" ({ cls := "ShownPatterns", name := "nth", desc := "(III)I" } : MethodName) ({ cls := "ShownPatterns", name := "nth", desc := "(III)I" } : MethodName) ∈ q_gw := q_tables_1_2 (i := 233) rfl rfl
theorem g1297 : Cond.methodLink "ShownPatternsLaw" (39 : Nat) ({ cls := "ShownPatternsModel", name := "nth", desc := "(III)I" } : MethodName) ∈ q_gw := q_tables_1_6 (i := 97) rfl rfl
theorem g1300 : Cond.code ({ cls := "ShownPatternsModel", name := "nth", desc := "(III)I" } : MethodName) prog_14_method_39_code (4 : Nat) (Option.some FieldType.int) ∈ q_gw := q_tables_1_6 (i := 100) rfl rfl
theorem kX12_nth : plainName mX12_nth.1.cls = true ∧ Cond.code mX12_nth.1 mX12_nth.2.1 mX12_nth.2.2.1 mX12_nth.2.2.2 ∈ q_gw ∧ Cond.initialized mX12_nth.1.cls ∈ q_gw ∧ (mX12_nth.1.cls ≠ "java/lang/invoke/MethodHandle" ∧ mX12_nth.1.cls ≠ "java/lang/invoke/VarHandle" ∧ (parseMethodDescriptor mX12_nth.1.desc).map (fun d => d.parameters.length) = some 3) ∧ mX12_nth.2.2.1 ≤ 20 := ⟨by decide +kernel, g1300, g10, by decide +kernel, by decide⟩
theorem g1298 : Cond.instanceMethod ({ cls := "ShownPatternsModel", name := "nth", desc := "(III)I" } : MethodName) ∈ q_gw := q_tables_1_6 (i := 98) rfl rfl
theorem g1299 : Cond.selects "ShownPatternsModel" ({ cls := "ShownPatternsModel", name := "nth", desc := "(III)I" } : MethodName) ({ cls := "ShownPatternsModel", name := "nth", desc := "(III)I" } : MethodName) ∈ q_gw := q_tables_1_6 (i := 99) rfl rfl
theorem g482 : Cond.methodLink "ShownPatternsLaw" (40 : Nat) ({ cls := "ShownPatterns", name := "fits", desc := "(II)I" } : MethodName) ∈ q_gw := q_tables_1_3 (i := 2) rfl rfl
theorem g485 : Cond.code ({ cls := "ShownPatterns", name := "fits", desc := "(II)I" } : MethodName) prog_1_method_8_code (5 : Nat) (Option.some FieldType.int) ∈ q_gw := q_tables_1_3 (i := 5) rfl rfl
theorem kX11_fits : plainName mX11_fits.1.cls = true ∧ Cond.code mX11_fits.1 mX11_fits.2.1 mX11_fits.2.2.1 mX11_fits.2.2.2 ∈ q_gw ∧ Cond.initialized mX11_fits.1.cls ∈ q_gw ∧ (mX11_fits.1.cls ≠ "java/lang/invoke/MethodHandle" ∧ mX11_fits.1.cls ≠ "java/lang/invoke/VarHandle" ∧ (parseMethodDescriptor mX11_fits.1.desc).map (fun d => d.parameters.length) = some 2) ∧ mX11_fits.2.2.1 ≤ 20 := ⟨by decide +kernel, g485, g1, by decide +kernel, by decide⟩
theorem g483 : Cond.instanceMethod ({ cls := "ShownPatterns", name := "fits", desc := "(II)I" } : MethodName) ∈ q_gw := q_tables_1_3 (i := 3) rfl rfl
theorem g484 : Cond.selects "ShownPatterns" ({ cls := "ShownPatterns", name := "fits", desc := "(II)I" } : MethodName) ({ cls := "ShownPatterns", name := "fits", desc := "(II)I" } : MethodName) ∈ q_gw := q_tables_1_3 (i := 4) rfl rfl
theorem g1301 : Cond.methodLink "ShownPatternsLaw" (43 : Nat) ({ cls := "ShownPatternsModel", name := "fits", desc := "(II)I" } : MethodName) ∈ q_gw := q_tables_1_6 (i := 101) rfl rfl
theorem g1304 : Cond.code ({ cls := "ShownPatternsModel", name := "fits", desc := "(II)I" } : MethodName) prog_14_method_40_code (3 : Nat) (Option.some FieldType.int) ∈ q_gw := q_tables_1_6 (i := 104) rfl rfl
theorem kX12_fits : plainName mX12_fits.1.cls = true ∧ Cond.code mX12_fits.1 mX12_fits.2.1 mX12_fits.2.2.1 mX12_fits.2.2.2 ∈ q_gw ∧ Cond.initialized mX12_fits.1.cls ∈ q_gw ∧ (mX12_fits.1.cls ≠ "java/lang/invoke/MethodHandle" ∧ mX12_fits.1.cls ≠ "java/lang/invoke/VarHandle" ∧ (parseMethodDescriptor mX12_fits.1.desc).map (fun d => d.parameters.length) = some 2) ∧ mX12_fits.2.2.1 ≤ 20 := ⟨by decide +kernel, g1304, g10, by decide +kernel, by decide⟩
theorem g1302 : Cond.instanceMethod ({ cls := "ShownPatternsModel", name := "fits", desc := "(II)I" } : MethodName) ∈ q_gw := q_tables_1_6 (i := 102) rfl rfl
theorem g1303 : Cond.selects "ShownPatternsModel" ({ cls := "ShownPatternsModel", name := "fits", desc := "(II)I" } : MethodName) ({ cls := "ShownPatternsModel", name := "fits", desc := "(II)I" } : MethodName) ∈ q_gw := q_tables_1_6 (i := 103) rfl rfl
theorem g536 : Cond.methodLink "ShownPatternsLaw" (44 : Nat) ({ cls := "ShownPatterns", name := "out", desc := "(II)I" } : MethodName) ∈ q_gw := q_tables_1_3 (i := 56) rfl rfl
theorem g539 : Cond.code ({ cls := "ShownPatterns", name := "out", desc := "(II)I" } : MethodName) prog_1_method_9_code (7 : Nat) (Option.some FieldType.int) ∈ q_gw := q_tables_1_3 (i := 59) rfl rfl
theorem kX11_out : plainName mX11_out.1.cls = true ∧ Cond.code mX11_out.1 mX11_out.2.1 mX11_out.2.2.1 mX11_out.2.2.2 ∈ q_gw ∧ Cond.initialized mX11_out.1.cls ∈ q_gw ∧ (mX11_out.1.cls ≠ "java/lang/invoke/MethodHandle" ∧ mX11_out.1.cls ≠ "java/lang/invoke/VarHandle" ∧ (parseMethodDescriptor mX11_out.1.desc).map (fun d => d.parameters.length) = some 2) ∧ mX11_out.2.2.1 ≤ 20 := ⟨by decide +kernel, g539, g1, by decide +kernel, by decide⟩
theorem g537 : Cond.instanceMethod ({ cls := "ShownPatterns", name := "out", desc := "(II)I" } : MethodName) ∈ q_gw := q_tables_1_3 (i := 57) rfl rfl
theorem g538 : Cond.selects "ShownPatterns" ({ cls := "ShownPatterns", name := "out", desc := "(II)I" } : MethodName) ({ cls := "ShownPatterns", name := "out", desc := "(II)I" } : MethodName) ∈ q_gw := q_tables_1_3 (i := 58) rfl rfl
theorem g1325 : Cond.methodLink "ShownPatternsLaw" (47 : Nat) ({ cls := "ShownPatternsModel", name := "out", desc := "(II)I" } : MethodName) ∈ q_gw := q_tables_1_6 (i := 125) rfl rfl
theorem g1328 : Cond.code ({ cls := "ShownPatternsModel", name := "out", desc := "(II)I" } : MethodName) prog_14_method_41_code (3 : Nat) (Option.some FieldType.int) ∈ q_gw := q_tables_1_6 (i := 128) rfl rfl
theorem kX12_out : plainName mX12_out.1.cls = true ∧ Cond.code mX12_out.1 mX12_out.2.1 mX12_out.2.2.1 mX12_out.2.2.2 ∈ q_gw ∧ Cond.initialized mX12_out.1.cls ∈ q_gw ∧ (mX12_out.1.cls ≠ "java/lang/invoke/MethodHandle" ∧ mX12_out.1.cls ≠ "java/lang/invoke/VarHandle" ∧ (parseMethodDescriptor mX12_out.1.desc).map (fun d => d.parameters.length) = some 2) ∧ mX12_out.2.2.1 ≤ 20 := ⟨by decide +kernel, g1328, g10, by decide +kernel, by decide⟩
theorem g1326 : Cond.instanceMethod ({ cls := "ShownPatternsModel", name := "out", desc := "(II)I" } : MethodName) ∈ q_gw := q_tables_1_6 (i := 126) rfl rfl
theorem g1327 : Cond.selects "ShownPatternsModel" ({ cls := "ShownPatternsModel", name := "out", desc := "(II)I" } : MethodName) ({ cls := "ShownPatternsModel", name := "out", desc := "(II)I" } : MethodName) ∈ q_gw := q_tables_1_6 (i := 127) rfl rfl
theorem g540 : Cond.methodLink "ShownPatternsLaw" (48 : Nat) ({ cls := "ShownPatterns", name := "many", desc := "(II)I" } : MethodName) ∈ q_gw := q_tables_1_3 (i := 60) rfl rfl
theorem g1333 : Cond.methodLink "ShownPatternsLaw" (51 : Nat) ({ cls := "ShownPatternsModel", name := "many", desc := "(II)I" } : MethodName) ∈ q_gw := q_tables_1_6 (i := 133) rfl rfl
theorem g1336 : Cond.code ({ cls := "ShownPatternsModel", name := "many", desc := "(II)I" } : MethodName) prog_14_method_48_code (3 : Nat) (Option.some FieldType.int) ∈ q_gw := q_tables_1_6 (i := 136) rfl rfl
theorem kX12_many : plainName mX12_many.1.cls = true ∧ Cond.code mX12_many.1 mX12_many.2.1 mX12_many.2.2.1 mX12_many.2.2.2 ∈ q_gw ∧ Cond.initialized mX12_many.1.cls ∈ q_gw ∧ (mX12_many.1.cls ≠ "java/lang/invoke/MethodHandle" ∧ mX12_many.1.cls ≠ "java/lang/invoke/VarHandle" ∧ (parseMethodDescriptor mX12_many.1.desc).map (fun d => d.parameters.length) = some 2) ∧ mX12_many.2.2.1 ≤ 20 := ⟨by decide +kernel, g1336, g10, by decide +kernel, by decide⟩
theorem g1334 : Cond.instanceMethod ({ cls := "ShownPatternsModel", name := "many", desc := "(II)I" } : MethodName) ∈ q_gw := q_tables_1_6 (i := 134) rfl rfl
theorem g1335 : Cond.selects "ShownPatternsModel" ({ cls := "ShownPatternsModel", name := "many", desc := "(II)I" } : MethodName) ({ cls := "ShownPatternsModel", name := "many", desc := "(II)I" } : MethodName) ∈ q_gw := q_tables_1_6 (i := 135) rfl rfl
theorem g556 : Cond.methodLink "ShownPatternsLaw" (52 : Nat) ({ cls := "ShownPatterns", name := "row", desc := "(III)I" } : MethodName) ∈ q_gw := q_tables_1_3 (i := 76) rfl rfl
theorem g559 : Cond.code ({ cls := "ShownPatterns", name := "row", desc := "(III)I" } : MethodName) prog_1_method_11_code (5 : Nat) (Option.some FieldType.int) ∈ q_gw := q_tables_1_3 (i := 79) rfl rfl
theorem kX11_row : plainName mX11_row.1.cls = true ∧ Cond.code mX11_row.1 mX11_row.2.1 mX11_row.2.2.1 mX11_row.2.2.2 ∈ q_gw ∧ Cond.initialized mX11_row.1.cls ∈ q_gw ∧ (mX11_row.1.cls ≠ "java/lang/invoke/MethodHandle" ∧ mX11_row.1.cls ≠ "java/lang/invoke/VarHandle" ∧ (parseMethodDescriptor mX11_row.1.desc).map (fun d => d.parameters.length) = some 3) ∧ mX11_row.2.2.1 ≤ 20 := ⟨by decide +kernel, g559, g1, by decide +kernel, by decide⟩
theorem g557 : Cond.instanceMethod ({ cls := "ShownPatterns", name := "row", desc := "(III)I" } : MethodName) ∈ q_gw := q_tables_1_3 (i := 77) rfl rfl
theorem g558 : Cond.selects "ShownPatterns" ({ cls := "ShownPatterns", name := "row", desc := "(III)I" } : MethodName) ({ cls := "ShownPatterns", name := "row", desc := "(III)I" } : MethodName) ∈ q_gw := q_tables_1_3 (i := 78) rfl rfl
theorem g1361 : Cond.methodLink "ShownPatternsLaw" (55 : Nat) ({ cls := "ShownPatternsModel", name := "row", desc := "(III)I" } : MethodName) ∈ q_gw := q_tables_1_6 (i := 161) rfl rfl
theorem g1364 : Cond.code ({ cls := "ShownPatternsModel", name := "row", desc := "(III)I" } : MethodName) prog_14_method_49_code (9 : Nat) (Option.some FieldType.int) ∈ q_gw := q_tables_1_6 (i := 164) rfl rfl
theorem kX12_row : plainName mX12_row.1.cls = true ∧ Cond.code mX12_row.1 mX12_row.2.1 mX12_row.2.2.1 mX12_row.2.2.2 ∈ q_gw ∧ Cond.initialized mX12_row.1.cls ∈ q_gw ∧ (mX12_row.1.cls ≠ "java/lang/invoke/MethodHandle" ∧ mX12_row.1.cls ≠ "java/lang/invoke/VarHandle" ∧ (parseMethodDescriptor mX12_row.1.desc).map (fun d => d.parameters.length) = some 3) ∧ mX12_row.2.2.1 ≤ 20 := ⟨by decide +kernel, g1364, g10, by decide +kernel, by decide⟩
theorem g1362 : Cond.instanceMethod ({ cls := "ShownPatternsModel", name := "row", desc := "(III)I" } : MethodName) ∈ q_gw := q_tables_1_6 (i := 162) rfl rfl
theorem g1363 : Cond.selects "ShownPatternsModel" ({ cls := "ShownPatternsModel", name := "row", desc := "(III)I" } : MethodName) ({ cls := "ShownPatternsModel", name := "row", desc := "(III)I" } : MethodName) ∈ q_gw := q_tables_1_6 (i := 163) rfl rfl
theorem g565 : Cond.methodLink "ShownPatternsLaw" (56 : Nat) ({ cls := "ShownPatterns", name := "alike", desc := "(II)I" } : MethodName) ∈ q_gw := q_tables_1_3 (i := 85) rfl rfl
theorem g568 : Cond.code ({ cls := "ShownPatterns", name := "alike", desc := "(II)I" } : MethodName) prog_1_method_12_code (4 : Nat) (Option.some FieldType.int) ∈ q_gw := q_tables_1_3 (i := 88) rfl rfl
theorem kX11_alike : plainName mX11_alike.1.cls = true ∧ Cond.code mX11_alike.1 mX11_alike.2.1 mX11_alike.2.2.1 mX11_alike.2.2.2 ∈ q_gw ∧ Cond.initialized mX11_alike.1.cls ∈ q_gw ∧ (mX11_alike.1.cls ≠ "java/lang/invoke/MethodHandle" ∧ mX11_alike.1.cls ≠ "java/lang/invoke/VarHandle" ∧ (parseMethodDescriptor mX11_alike.1.desc).map (fun d => d.parameters.length) = some 2) ∧ mX11_alike.2.2.1 ≤ 20 := ⟨by decide +kernel, g568, g1, by decide +kernel, by decide⟩
theorem g566 : Cond.instanceMethod ({ cls := "ShownPatterns", name := "alike", desc := "(II)I" } : MethodName) ∈ q_gw := q_tables_1_3 (i := 86) rfl rfl
theorem g567 : Cond.selects "ShownPatterns" ({ cls := "ShownPatterns", name := "alike", desc := "(II)I" } : MethodName) ({ cls := "ShownPatterns", name := "alike", desc := "(II)I" } : MethodName) ∈ q_gw := q_tables_1_3 (i := 87) rfl rfl
theorem g1365 : Cond.methodLink "ShownPatternsLaw" (59 : Nat) ({ cls := "ShownPatternsModel", name := "alike", desc := "(II)I" } : MethodName) ∈ q_gw := q_tables_1_6 (i := 165) rfl rfl
theorem g1368 : Cond.code ({ cls := "ShownPatternsModel", name := "alike", desc := "(II)I" } : MethodName) prog_14_method_51_code (3 : Nat) (Option.some FieldType.int) ∈ q_gw := q_tables_1_6 (i := 168) rfl rfl
theorem kX12_alike : plainName mX12_alike.1.cls = true ∧ Cond.code mX12_alike.1 mX12_alike.2.1 mX12_alike.2.2.1 mX12_alike.2.2.2 ∈ q_gw ∧ Cond.initialized mX12_alike.1.cls ∈ q_gw ∧ (mX12_alike.1.cls ≠ "java/lang/invoke/MethodHandle" ∧ mX12_alike.1.cls ≠ "java/lang/invoke/VarHandle" ∧ (parseMethodDescriptor mX12_alike.1.desc).map (fun d => d.parameters.length) = some 2) ∧ mX12_alike.2.2.1 ≤ 20 := ⟨by decide +kernel, g1368, g10, by decide +kernel, by decide⟩
theorem g1366 : Cond.instanceMethod ({ cls := "ShownPatternsModel", name := "alike", desc := "(II)I" } : MethodName) ∈ q_gw := q_tables_1_6 (i := 166) rfl rfl
theorem g1367 : Cond.selects "ShownPatternsModel" ({ cls := "ShownPatternsModel", name := "alike", desc := "(II)I" } : MethodName) ({ cls := "ShownPatternsModel", name := "alike", desc := "(II)I" } : MethodName) ∈ q_gw := q_tables_1_6 (i := 167) rfl rfl
theorem g608 : Cond.methodLink "ShownPatternsLaw" (60 : Nat) ({ cls := "ShownPatterns", name := "parted", desc := "(II)I" } : MethodName) ∈ q_gw := q_tables_1_3 (i := 128) rfl rfl
theorem g611 : Cond.code ({ cls := "ShownPatterns", name := "parted", desc := "(II)I" } : MethodName) prog_1_method_13_code (3 : Nat) (Option.some FieldType.int) ∈ q_gw := q_tables_1_3 (i := 131) rfl rfl
theorem kX11_parted : plainName mX11_parted.1.cls = true ∧ Cond.code mX11_parted.1 mX11_parted.2.1 mX11_parted.2.2.1 mX11_parted.2.2.2 ∈ q_gw ∧ Cond.initialized mX11_parted.1.cls ∈ q_gw ∧ (mX11_parted.1.cls ≠ "java/lang/invoke/MethodHandle" ∧ mX11_parted.1.cls ≠ "java/lang/invoke/VarHandle" ∧ (parseMethodDescriptor mX11_parted.1.desc).map (fun d => d.parameters.length) = some 2) ∧ mX11_parted.2.2.1 ≤ 20 := ⟨by decide +kernel, g611, g1, by decide +kernel, by decide⟩
theorem g609 : Cond.instanceMethod ({ cls := "ShownPatterns", name := "parted", desc := "(II)I" } : MethodName) ∈ q_gw := q_tables_1_3 (i := 129) rfl rfl
theorem g610 : Cond.selects "ShownPatterns" ({ cls := "ShownPatterns", name := "parted", desc := "(II)I" } : MethodName) ({ cls := "ShownPatterns", name := "parted", desc := "(II)I" } : MethodName) ∈ q_gw := q_tables_1_3 (i := 130) rfl rfl
theorem g1374 : Cond.methodLink "ShownPatternsLaw" (63 : Nat) ({ cls := "ShownPatternsModel", name := "parted", desc := "(II)I" } : MethodName) ∈ q_gw := q_tables_1_6 (i := 174) rfl rfl
theorem g1377 : Cond.code ({ cls := "ShownPatternsModel", name := "parted", desc := "(II)I" } : MethodName) prog_14_method_52_code (7 : Nat) (Option.some FieldType.int) ∈ q_gw := q_tables_1_6 (i := 177) rfl rfl
theorem kX12_parted : plainName mX12_parted.1.cls = true ∧ Cond.code mX12_parted.1 mX12_parted.2.1 mX12_parted.2.2.1 mX12_parted.2.2.2 ∈ q_gw ∧ Cond.initialized mX12_parted.1.cls ∈ q_gw ∧ (mX12_parted.1.cls ≠ "java/lang/invoke/MethodHandle" ∧ mX12_parted.1.cls ≠ "java/lang/invoke/VarHandle" ∧ (parseMethodDescriptor mX12_parted.1.desc).map (fun d => d.parameters.length) = some 2) ∧ mX12_parted.2.2.1 ≤ 20 := ⟨by decide +kernel, g1377, g10, by decide +kernel, by decide⟩
theorem g1375 : Cond.instanceMethod ({ cls := "ShownPatternsModel", name := "parted", desc := "(II)I" } : MethodName) ∈ q_gw := q_tables_1_6 (i := 175) rfl rfl
theorem g1376 : Cond.selects "ShownPatternsModel" ({ cls := "ShownPatternsModel", name := "parted", desc := "(II)I" } : MethodName) ({ cls := "ShownPatternsModel", name := "parted", desc := "(II)I" } : MethodName) ∈ q_gw := q_tables_1_6 (i := 176) rfl rfl
theorem g612 : Cond.methodLink "ShownPatternsLaw" (64 : Nat) ({ cls := "ShownPatterns", name := "inside", desc := "(II)I" } : MethodName) ∈ q_gw := q_tables_1_3 (i := 132) rfl rfl
theorem g615 : Cond.code ({ cls := "ShownPatterns", name := "inside", desc := "(II)I" } : MethodName) prog_1_method_14_code (4 : Nat) (Option.some FieldType.int) ∈ q_gw := q_tables_1_3 (i := 135) rfl rfl
theorem kX11_inside : plainName mX11_inside.1.cls = true ∧ Cond.code mX11_inside.1 mX11_inside.2.1 mX11_inside.2.2.1 mX11_inside.2.2.2 ∈ q_gw ∧ Cond.initialized mX11_inside.1.cls ∈ q_gw ∧ (mX11_inside.1.cls ≠ "java/lang/invoke/MethodHandle" ∧ mX11_inside.1.cls ≠ "java/lang/invoke/VarHandle" ∧ (parseMethodDescriptor mX11_inside.1.desc).map (fun d => d.parameters.length) = some 2) ∧ mX11_inside.2.2.1 ≤ 20 := ⟨by decide +kernel, g615, g1, by decide +kernel, by decide⟩
theorem g613 : Cond.instanceMethod ({ cls := "ShownPatterns", name := "inside", desc := "(II)I" } : MethodName) ∈ q_gw := q_tables_1_3 (i := 133) rfl rfl
theorem g614 : Cond.selects "ShownPatterns" ({ cls := "ShownPatterns", name := "inside", desc := "(II)I" } : MethodName) ({ cls := "ShownPatterns", name := "inside", desc := "(II)I" } : MethodName) ∈ q_gw := q_tables_1_3 (i := 134) rfl rfl
theorem g1378 : Cond.methodLink "ShownPatternsLaw" (67 : Nat) ({ cls := "ShownPatternsModel", name := "inside", desc := "(II)I" } : MethodName) ∈ q_gw := q_tables_1_6 (i := 178) rfl rfl
theorem g1381 : Cond.code ({ cls := "ShownPatternsModel", name := "inside", desc := "(II)I" } : MethodName) prog_14_method_53_code (3 : Nat) (Option.some FieldType.int) ∈ q_gw := q_tables_1_6 (i := 181) rfl rfl
theorem kX12_inside : plainName mX12_inside.1.cls = true ∧ Cond.code mX12_inside.1 mX12_inside.2.1 mX12_inside.2.2.1 mX12_inside.2.2.2 ∈ q_gw ∧ Cond.initialized mX12_inside.1.cls ∈ q_gw ∧ (mX12_inside.1.cls ≠ "java/lang/invoke/MethodHandle" ∧ mX12_inside.1.cls ≠ "java/lang/invoke/VarHandle" ∧ (parseMethodDescriptor mX12_inside.1.desc).map (fun d => d.parameters.length) = some 2) ∧ mX12_inside.2.2.1 ≤ 20 := ⟨by decide +kernel, g1381, g10, by decide +kernel, by decide⟩
theorem g1379 : Cond.instanceMethod ({ cls := "ShownPatternsModel", name := "inside", desc := "(II)I" } : MethodName) ∈ q_gw := q_tables_1_6 (i := 179) rfl rfl
theorem g1380 : Cond.selects "ShownPatternsModel" ({ cls := "ShownPatternsModel", name := "inside", desc := "(II)I" } : MethodName) ({ cls := "ShownPatternsModel", name := "inside", desc := "(II)I" } : MethodName) ∈ q_gw := q_tables_1_6 (i := 180) rfl rfl
theorem g616 : Cond.methodLink "ShownPatternsLaw" (68 : Nat) ({ cls := "ShownPatterns", name := "show", desc := "(IIII)I" } : MethodName) ∈ q_gw := q_tables_1_3 (i := 136) rfl rfl
theorem g619 : Cond.code ({ cls := "ShownPatterns", name := "show", desc := "(IIII)I" } : MethodName) prog_1_method_15_code (6 : Nat) (Option.some FieldType.int) ∈ q_gw := q_tables_1_3 (i := 139) rfl rfl
theorem kX11_show : plainName mX11_show.1.cls = true ∧ Cond.code mX11_show.1 mX11_show.2.1 mX11_show.2.2.1 mX11_show.2.2.2 ∈ q_gw ∧ Cond.initialized mX11_show.1.cls ∈ q_gw ∧ (mX11_show.1.cls ≠ "java/lang/invoke/MethodHandle" ∧ mX11_show.1.cls ≠ "java/lang/invoke/VarHandle" ∧ (parseMethodDescriptor mX11_show.1.desc).map (fun d => d.parameters.length) = some 4) ∧ mX11_show.2.2.1 ≤ 20 := ⟨by decide +kernel, g619, g1, by decide +kernel, by decide⟩
theorem g617 : Cond.instanceMethod ({ cls := "ShownPatterns", name := "show", desc := "(IIII)I" } : MethodName) ∈ q_gw := q_tables_1_3 (i := 137) rfl rfl
theorem g618 : Cond.selects "ShownPatterns" ({ cls := "ShownPatterns", name := "show", desc := "(IIII)I" } : MethodName) ({ cls := "ShownPatterns", name := "show", desc := "(IIII)I" } : MethodName) ∈ q_gw := q_tables_1_3 (i := 138) rfl rfl
theorem g1382 : Cond.methodLink "ShownPatternsLaw" (72 : Nat) ({ cls := "ShownPatternsModel", name := "show", desc := "(IIII)I" } : MethodName) ∈ q_gw := q_tables_1_6 (i := 182) rfl rfl
theorem g1385 : Cond.code ({ cls := "ShownPatternsModel", name := "show", desc := "(IIII)I" } : MethodName) prog_14_method_54_code (5 : Nat) (Option.some FieldType.int) ∈ q_gw := q_tables_1_6 (i := 185) rfl rfl
theorem kX12_show : plainName mX12_show.1.cls = true ∧ Cond.code mX12_show.1 mX12_show.2.1 mX12_show.2.2.1 mX12_show.2.2.2 ∈ q_gw ∧ Cond.initialized mX12_show.1.cls ∈ q_gw ∧ (mX12_show.1.cls ≠ "java/lang/invoke/MethodHandle" ∧ mX12_show.1.cls ≠ "java/lang/invoke/VarHandle" ∧ (parseMethodDescriptor mX12_show.1.desc).map (fun d => d.parameters.length) = some 4) ∧ mX12_show.2.2.1 ≤ 20 := ⟨by decide +kernel, g1385, g10, by decide +kernel, by decide⟩
theorem g1383 : Cond.instanceMethod ({ cls := "ShownPatternsModel", name := "show", desc := "(IIII)I" } : MethodName) ∈ q_gw := q_tables_1_6 (i := 183) rfl rfl
theorem g1384 : Cond.selects "ShownPatternsModel" ({ cls := "ShownPatternsModel", name := "show", desc := "(IIII)I" } : MethodName) ({ cls := "ShownPatternsModel", name := "show", desc := "(IIII)I" } : MethodName) ∈ q_gw := q_tables_1_6 (i := 184) rfl rfl
theorem g627 : Cond.methodLink "ShownPatternsLaw" (73 : Nat) ({ cls := "ShownPatterns", name := "back", desc := "(II)I" } : MethodName) ∈ q_gw := q_tables_1_3 (i := 147) rfl rfl
theorem g630 : Cond.code ({ cls := "ShownPatterns", name := "back", desc := "(II)I" } : MethodName) prog_1_method_16_code (3 : Nat) (Option.some FieldType.int) ∈ q_gw := q_tables_1_3 (i := 150) rfl rfl
theorem kX11_back : plainName mX11_back.1.cls = true ∧ Cond.code mX11_back.1 mX11_back.2.1 mX11_back.2.2.1 mX11_back.2.2.2 ∈ q_gw ∧ Cond.initialized mX11_back.1.cls ∈ q_gw ∧ (mX11_back.1.cls ≠ "java/lang/invoke/MethodHandle" ∧ mX11_back.1.cls ≠ "java/lang/invoke/VarHandle" ∧ (parseMethodDescriptor mX11_back.1.desc).map (fun d => d.parameters.length) = some 2) ∧ mX11_back.2.2.1 ≤ 20 := ⟨by decide +kernel, g630, g1, by decide +kernel, by decide⟩
theorem g628 : Cond.instanceMethod ({ cls := "ShownPatterns", name := "back", desc := "(II)I" } : MethodName) ∈ q_gw := q_tables_1_3 (i := 148) rfl rfl
theorem g629 : Cond.selects "ShownPatterns" ({ cls := "ShownPatterns", name := "back", desc := "(II)I" } : MethodName) ({ cls := "ShownPatterns", name := "back", desc := "(II)I" } : MethodName) ∈ q_gw := q_tables_1_3 (i := 149) rfl rfl
theorem g1386 : Cond.methodLink "ShownPatternsLaw" (76 : Nat) ({ cls := "ShownPatternsModel", name := "back", desc := "(II)I" } : MethodName) ∈ q_gw := q_tables_1_6 (i := 186) rfl rfl
theorem g1389 : Cond.code ({ cls := "ShownPatternsModel", name := "back", desc := "(II)I" } : MethodName) prog_14_method_56_code (4 : Nat) (Option.some FieldType.int) ∈ q_gw := q_tables_1_6 (i := 189) rfl rfl
theorem kX12_back : plainName mX12_back.1.cls = true ∧ Cond.code mX12_back.1 mX12_back.2.1 mX12_back.2.2.1 mX12_back.2.2.2 ∈ q_gw ∧ Cond.initialized mX12_back.1.cls ∈ q_gw ∧ (mX12_back.1.cls ≠ "java/lang/invoke/MethodHandle" ∧ mX12_back.1.cls ≠ "java/lang/invoke/VarHandle" ∧ (parseMethodDescriptor mX12_back.1.desc).map (fun d => d.parameters.length) = some 2) ∧ mX12_back.2.2.1 ≤ 20 := ⟨by decide +kernel, g1389, g10, by decide +kernel, by decide⟩
theorem g1387 : Cond.instanceMethod ({ cls := "ShownPatternsModel", name := "back", desc := "(II)I" } : MethodName) ∈ q_gw := q_tables_1_6 (i := 187) rfl rfl
theorem g1388 : Cond.selects "ShownPatternsModel" ({ cls := "ShownPatternsModel", name := "back", desc := "(II)I" } : MethodName) ({ cls := "ShownPatternsModel", name := "back", desc := "(II)I" } : MethodName) ∈ q_gw := q_tables_1_6 (i := 188) rfl rfl
theorem g639 : Cond.methodLink "ShownPatternsLaw" (77 : Nat) ({ cls := "ShownPatterns", name := "agrees", desc := "(II)I" } : MethodName) ∈ q_gw := q_tables_1_3 (i := 159) rfl rfl
theorem g642 : Cond.code ({ cls := "ShownPatterns", name := "agrees", desc := "(II)I" } : MethodName) prog_1_method_17_code (4 : Nat) (Option.some FieldType.int) ∈ q_gw := q_tables_1_3 (i := 162) rfl rfl
theorem kX11_agrees : plainName mX11_agrees.1.cls = true ∧ Cond.code mX11_agrees.1 mX11_agrees.2.1 mX11_agrees.2.2.1 mX11_agrees.2.2.2 ∈ q_gw ∧ Cond.initialized mX11_agrees.1.cls ∈ q_gw ∧ (mX11_agrees.1.cls ≠ "java/lang/invoke/MethodHandle" ∧ mX11_agrees.1.cls ≠ "java/lang/invoke/VarHandle" ∧ (parseMethodDescriptor mX11_agrees.1.desc).map (fun d => d.parameters.length) = some 2) ∧ mX11_agrees.2.2.1 ≤ 20 := ⟨by decide +kernel, g642, g1, by decide +kernel, by decide⟩
theorem g640 : Cond.instanceMethod ({ cls := "ShownPatterns", name := "agrees", desc := "(II)I" } : MethodName) ∈ q_gw := q_tables_1_3 (i := 160) rfl rfl
theorem g641 : Cond.selects "ShownPatterns" ({ cls := "ShownPatterns", name := "agrees", desc := "(II)I" } : MethodName) ({ cls := "ShownPatterns", name := "agrees", desc := "(II)I" } : MethodName) ∈ q_gw := q_tables_1_3 (i := 161) rfl rfl
theorem g1394 : Cond.methodLink "ShownPatternsLaw" (80 : Nat) ({ cls := "ShownPatternsModel", name := "agrees", desc := "(II)I" } : MethodName) ∈ q_gw := q_tables_1_6 (i := 194) rfl rfl
theorem g1397 : Cond.code ({ cls := "ShownPatternsModel", name := "agrees", desc := "(II)I" } : MethodName) prog_14_method_58_code (3 : Nat) (Option.some FieldType.int) ∈ q_gw := q_tables_1_6 (i := 197) rfl rfl
theorem kX12_agrees : plainName mX12_agrees.1.cls = true ∧ Cond.code mX12_agrees.1 mX12_agrees.2.1 mX12_agrees.2.2.1 mX12_agrees.2.2.2 ∈ q_gw ∧ Cond.initialized mX12_agrees.1.cls ∈ q_gw ∧ (mX12_agrees.1.cls ≠ "java/lang/invoke/MethodHandle" ∧ mX12_agrees.1.cls ≠ "java/lang/invoke/VarHandle" ∧ (parseMethodDescriptor mX12_agrees.1.desc).map (fun d => d.parameters.length) = some 2) ∧ mX12_agrees.2.2.1 ≤ 20 := ⟨by decide +kernel, g1397, g10, by decide +kernel, by decide⟩
theorem g1395 : Cond.instanceMethod ({ cls := "ShownPatternsModel", name := "agrees", desc := "(II)I" } : MethodName) ∈ q_gw := q_tables_1_6 (i := 195) rfl rfl
theorem g1396 : Cond.selects "ShownPatternsModel" ({ cls := "ShownPatternsModel", name := "agrees", desc := "(II)I" } : MethodName) ({ cls := "ShownPatternsModel", name := "agrees", desc := "(II)I" } : MethodName) ∈ q_gw := q_tables_1_6 (i := 196) rfl rfl
theorem g703 : Cond.methodLink "ShownPatternsLaw" (81 : Nat) ({ cls := "ShownPatterns", name := "paid", desc := "(I)I" } : MethodName) ∈ q_gw := q_tables_1_3 (i := 223) rfl rfl
theorem g706 : Cond.code ({ cls := "ShownPatterns", name := "paid", desc := "(I)I" } : MethodName) prog_1_method_18_code (5 : Nat) (Option.some FieldType.int) ∈ q_gw := q_tables_1_3 (i := 226) rfl rfl
theorem kX11_paid : plainName mX11_paid.1.cls = true ∧ Cond.code mX11_paid.1 mX11_paid.2.1 mX11_paid.2.2.1 mX11_paid.2.2.2 ∈ q_gw ∧ Cond.initialized mX11_paid.1.cls ∈ q_gw ∧ (mX11_paid.1.cls ≠ "java/lang/invoke/MethodHandle" ∧ mX11_paid.1.cls ≠ "java/lang/invoke/VarHandle" ∧ (parseMethodDescriptor mX11_paid.1.desc).map (fun d => d.parameters.length) = some 1) ∧ mX11_paid.2.2.1 ≤ 20 := ⟨by decide +kernel, g706, g1, by decide +kernel, by decide⟩
theorem g704 : Cond.instanceMethod ({ cls := "ShownPatterns", name := "paid", desc := "(I)I" } : MethodName) ∈ q_gw := q_tables_1_3 (i := 224) rfl rfl
theorem g705 : Cond.selects "ShownPatterns" ({ cls := "ShownPatterns", name := "paid", desc := "(I)I" } : MethodName) ({ cls := "ShownPatterns", name := "paid", desc := "(I)I" } : MethodName) ∈ q_gw := q_tables_1_3 (i := 225) rfl rfl
theorem g1402 : Cond.methodLink "ShownPatternsLaw" (84 : Nat) ({ cls := "ShownPatternsModel", name := "paid", desc := "(I)I" } : MethodName) ∈ q_gw := q_tables_1_6 (i := 202) rfl rfl
theorem g1405 : Cond.code ({ cls := "ShownPatternsModel", name := "paid", desc := "(I)I" } : MethodName) prog_14_method_60_code (2 : Nat) (Option.some FieldType.int) ∈ q_gw := q_tables_1_6 (i := 205) rfl rfl
theorem kX12_paid : plainName mX12_paid.1.cls = true ∧ Cond.code mX12_paid.1 mX12_paid.2.1 mX12_paid.2.2.1 mX12_paid.2.2.2 ∈ q_gw ∧ Cond.initialized mX12_paid.1.cls ∈ q_gw ∧ (mX12_paid.1.cls ≠ "java/lang/invoke/MethodHandle" ∧ mX12_paid.1.cls ≠ "java/lang/invoke/VarHandle" ∧ (parseMethodDescriptor mX12_paid.1.desc).map (fun d => d.parameters.length) = some 1) ∧ mX12_paid.2.2.1 ≤ 20 := ⟨by decide +kernel, g1405, g10, by decide +kernel, by decide⟩
theorem g1403 : Cond.instanceMethod ({ cls := "ShownPatternsModel", name := "paid", desc := "(I)I" } : MethodName) ∈ q_gw := q_tables_1_6 (i := 203) rfl rfl
theorem g1404 : Cond.selects "ShownPatternsModel" ({ cls := "ShownPatternsModel", name := "paid", desc := "(I)I" } : MethodName) ({ cls := "ShownPatternsModel", name := "paid", desc := "(I)I" } : MethodName) ∈ q_gw := q_tables_1_6 (i := 204) rfl rfl
theorem g719 : Cond.methodLink "ShownPatternsLaw" (85 : Nat) ({ cls := "ShownPatterns", name := "find", desc := "(III)I" } : MethodName) ∈ q_gw := q_tables_1_3 (i := 239) rfl rfl
theorem g722 : Cond.code ({ cls := "ShownPatterns", name := "find", desc := "(III)I" } : MethodName) prog_1_method_19_code (6 : Nat) (Option.some FieldType.int) ∈ q_gw := q_tables_1_4 (i := 2) rfl rfl
theorem kX11_find : plainName mX11_find.1.cls = true ∧ Cond.code mX11_find.1 mX11_find.2.1 mX11_find.2.2.1 mX11_find.2.2.2 ∈ q_gw ∧ Cond.initialized mX11_find.1.cls ∈ q_gw ∧ (mX11_find.1.cls ≠ "java/lang/invoke/MethodHandle" ∧ mX11_find.1.cls ≠ "java/lang/invoke/VarHandle" ∧ (parseMethodDescriptor mX11_find.1.desc).map (fun d => d.parameters.length) = some 3) ∧ mX11_find.2.2.1 ≤ 20 := ⟨by decide +kernel, g722, g1, by decide +kernel, by decide⟩
theorem g720 : Cond.instanceMethod ({ cls := "ShownPatterns", name := "find", desc := "(III)I" } : MethodName) ∈ q_gw := q_tables_1_4 (i := 0) rfl rfl
theorem g721 : Cond.selects "ShownPatterns" ({ cls := "ShownPatterns", name := "find", desc := "(III)I" } : MethodName) ({ cls := "ShownPatterns", name := "find", desc := "(III)I" } : MethodName) ∈ q_gw := q_tables_1_4 (i := 1) rfl rfl
theorem g1410 : Cond.methodLink "ShownPatternsLaw" (88 : Nat) ({ cls := "ShownPatternsModel", name := "find", desc := "(III)I" } : MethodName) ∈ q_gw := q_tables_1_6 (i := 210) rfl rfl
theorem g1413 : Cond.code ({ cls := "ShownPatternsModel", name := "find", desc := "(III)I" } : MethodName) prog_14_method_69_code (4 : Nat) (Option.some FieldType.int) ∈ q_gw := q_tables_1_6 (i := 213) rfl rfl
theorem kX12_find : plainName mX12_find.1.cls = true ∧ Cond.code mX12_find.1 mX12_find.2.1 mX12_find.2.2.1 mX12_find.2.2.2 ∈ q_gw ∧ Cond.initialized mX12_find.1.cls ∈ q_gw ∧ (mX12_find.1.cls ≠ "java/lang/invoke/MethodHandle" ∧ mX12_find.1.cls ≠ "java/lang/invoke/VarHandle" ∧ (parseMethodDescriptor mX12_find.1.desc).map (fun d => d.parameters.length) = some 3) ∧ mX12_find.2.2.1 ≤ 20 := ⟨by decide +kernel, g1413, g10, by decide +kernel, by decide⟩
theorem g1411 : Cond.instanceMethod ({ cls := "ShownPatternsModel", name := "find", desc := "(III)I" } : MethodName) ∈ q_gw := q_tables_1_6 (i := 211) rfl rfl
theorem g1412 : Cond.selects "ShownPatternsModel" ({ cls := "ShownPatternsModel", name := "find", desc := "(III)I" } : MethodName) ({ cls := "ShownPatternsModel", name := "find", desc := "(III)I" } : MethodName) ∈ q_gw := q_tables_1_6 (i := 212) rfl rfl
theorem g903 : Cond.methodLink "ShownPatternsLaw" (89 : Nat) ({ cls := "ShownPatterns", name := "next", desc := "(I)I" } : MethodName) ∈ q_gw := q_tables_1_4 (i := 183) rfl rfl
theorem g906 : Cond.code ({ cls := "ShownPatterns", name := "next", desc := "(I)I" } : MethodName) prog_1_method_20_code (3 : Nat) (Option.some FieldType.int) ∈ q_gw := q_tables_1_4 (i := 186) rfl rfl
theorem kX11_next : plainName mX11_next.1.cls = true ∧ Cond.code mX11_next.1 mX11_next.2.1 mX11_next.2.2.1 mX11_next.2.2.2 ∈ q_gw ∧ Cond.initialized mX11_next.1.cls ∈ q_gw ∧ (mX11_next.1.cls ≠ "java/lang/invoke/MethodHandle" ∧ mX11_next.1.cls ≠ "java/lang/invoke/VarHandle" ∧ (parseMethodDescriptor mX11_next.1.desc).map (fun d => d.parameters.length) = some 1) ∧ mX11_next.2.2.1 ≤ 20 := ⟨by decide +kernel, g906, g1, by decide +kernel, by decide⟩
theorem g904 : Cond.instanceMethod ({ cls := "ShownPatterns", name := "next", desc := "(I)I" } : MethodName) ∈ q_gw := q_tables_1_4 (i := 184) rfl rfl
theorem g905 : Cond.selects "ShownPatterns" ({ cls := "ShownPatterns", name := "next", desc := "(I)I" } : MethodName) ({ cls := "ShownPatterns", name := "next", desc := "(I)I" } : MethodName) ∈ q_gw := q_tables_1_4 (i := 185) rfl rfl
theorem g1445 : Cond.methodLink "ShownPatternsLaw" (92 : Nat) ({ cls := "ShownPatternsModel", name := "next", desc := "(I)I" } : MethodName) ∈ q_gw := q_tables_1_7 (i := 5) rfl rfl
theorem g1448 : Cond.code ({ cls := "ShownPatternsModel", name := "next", desc := "(I)I" } : MethodName) prog_14_method_70_code (2 : Nat) (Option.some FieldType.int) ∈ q_gw := q_tables_1_7 (i := 8) rfl rfl
theorem kX12_next : plainName mX12_next.1.cls = true ∧ Cond.code mX12_next.1 mX12_next.2.1 mX12_next.2.2.1 mX12_next.2.2.2 ∈ q_gw ∧ Cond.initialized mX12_next.1.cls ∈ q_gw ∧ (mX12_next.1.cls ≠ "java/lang/invoke/MethodHandle" ∧ mX12_next.1.cls ≠ "java/lang/invoke/VarHandle" ∧ (parseMethodDescriptor mX12_next.1.desc).map (fun d => d.parameters.length) = some 1) ∧ mX12_next.2.2.1 ≤ 20 := ⟨by decide +kernel, g1448, g10, by decide +kernel, by decide⟩
theorem g1446 : Cond.instanceMethod ({ cls := "ShownPatternsModel", name := "next", desc := "(I)I" } : MethodName) ∈ q_gw := q_tables_1_7 (i := 6) rfl rfl
theorem g1447 : Cond.selects "ShownPatternsModel" ({ cls := "ShownPatternsModel", name := "next", desc := "(I)I" } : MethodName) ({ cls := "ShownPatternsModel", name := "next", desc := "(I)I" } : MethodName) ∈ q_gw := q_tables_1_7 (i := 7) rfl rfl
theorem g911 : Cond.methodLink "ShownPatternsLaw" (93 : Nat) ({ cls := "ShownPatterns", name := "found", desc := "()I" } : MethodName) ∈ q_gw := q_tables_1_4 (i := 191) rfl rfl
theorem g914 : Cond.code ({ cls := "ShownPatterns", name := "found", desc := "()I" } : MethodName) prog_1_method_21_code (1 : Nat) (Option.some FieldType.int) ∈ q_gw := q_tables_1_4 (i := 194) rfl rfl
theorem kX11_found : plainName mX11_found.1.cls = true ∧ Cond.code mX11_found.1 mX11_found.2.1 mX11_found.2.2.1 mX11_found.2.2.2 ∈ q_gw ∧ Cond.initialized mX11_found.1.cls ∈ q_gw ∧ (mX11_found.1.cls ≠ "java/lang/invoke/MethodHandle" ∧ mX11_found.1.cls ≠ "java/lang/invoke/VarHandle" ∧ (parseMethodDescriptor mX11_found.1.desc).map (fun d => d.parameters.length) = some 0) ∧ mX11_found.2.2.1 ≤ 20 := ⟨by decide +kernel, g914, g1, by decide +kernel, by decide⟩
theorem g912 : Cond.instanceMethod ({ cls := "ShownPatterns", name := "found", desc := "()I" } : MethodName) ∈ q_gw := q_tables_1_4 (i := 192) rfl rfl
theorem g913 : Cond.selects "ShownPatterns" ({ cls := "ShownPatterns", name := "found", desc := "()I" } : MethodName) ({ cls := "ShownPatterns", name := "found", desc := "()I" } : MethodName) ∈ q_gw := q_tables_1_4 (i := 193) rfl rfl
theorem g1449 : Cond.methodLink "ShownPatternsLaw" (97 : Nat) ({ cls := "ShownPatternsModel", name := "found", desc := "()I" } : MethodName) ∈ q_gw := q_tables_1_7 (i := 9) rfl rfl
theorem g1452 : Cond.code ({ cls := "ShownPatternsModel", name := "found", desc := "()I" } : MethodName) prog_14_method_71_code (1 : Nat) (Option.some FieldType.int) ∈ q_gw := q_tables_1_7 (i := 12) rfl rfl
theorem kX12_found : plainName mX12_found.1.cls = true ∧ Cond.code mX12_found.1 mX12_found.2.1 mX12_found.2.2.1 mX12_found.2.2.2 ∈ q_gw ∧ Cond.initialized mX12_found.1.cls ∈ q_gw ∧ (mX12_found.1.cls ≠ "java/lang/invoke/MethodHandle" ∧ mX12_found.1.cls ≠ "java/lang/invoke/VarHandle" ∧ (parseMethodDescriptor mX12_found.1.desc).map (fun d => d.parameters.length) = some 0) ∧ mX12_found.2.2.1 ≤ 20 := ⟨by decide +kernel, g1452, g10, by decide +kernel, by decide⟩
theorem g1450 : Cond.instanceMethod ({ cls := "ShownPatternsModel", name := "found", desc := "()I" } : MethodName) ∈ q_gw := q_tables_1_7 (i := 10) rfl rfl
theorem g1451 : Cond.selects "ShownPatternsModel" ({ cls := "ShownPatternsModel", name := "found", desc := "()I" } : MethodName) ({ cls := "ShownPatternsModel", name := "found", desc := "()I" } : MethodName) ∈ q_gw := q_tables_1_7 (i := 11) rfl rfl
theorem g919 : Cond.methodLink "ShownPatternsLaw" (98 : Nat) ({ cls := "ShownPatterns", name := "open", desc := "(II)I" } : MethodName) ∈ q_gw := q_tables_1_4 (i := 199) rfl rfl
theorem g922 : Cond.code ({ cls := "ShownPatterns", name := "open", desc := "(II)I" } : MethodName) prog_1_method_22_code (3 : Nat) (Option.some FieldType.int) ∈ q_gw := q_tables_1_4 (i := 202) rfl rfl
theorem kX11_open : plainName mX11_open.1.cls = true ∧ Cond.code mX11_open.1 mX11_open.2.1 mX11_open.2.2.1 mX11_open.2.2.2 ∈ q_gw ∧ Cond.initialized mX11_open.1.cls ∈ q_gw ∧ (mX11_open.1.cls ≠ "java/lang/invoke/MethodHandle" ∧ mX11_open.1.cls ≠ "java/lang/invoke/VarHandle" ∧ (parseMethodDescriptor mX11_open.1.desc).map (fun d => d.parameters.length) = some 2) ∧ mX11_open.2.2.1 ≤ 20 := ⟨by decide +kernel, g922, g1, by decide +kernel, by decide⟩
theorem g920 : Cond.instanceMethod ({ cls := "ShownPatterns", name := "open", desc := "(II)I" } : MethodName) ∈ q_gw := q_tables_1_4 (i := 200) rfl rfl
theorem g921 : Cond.selects "ShownPatterns" ({ cls := "ShownPatterns", name := "open", desc := "(II)I" } : MethodName) ({ cls := "ShownPatterns", name := "open", desc := "(II)I" } : MethodName) ∈ q_gw := q_tables_1_4 (i := 201) rfl rfl
theorem g1453 : Cond.methodLink "ShownPatternsLaw" (101 : Nat) ({ cls := "ShownPatternsModel", name := "open", desc := "(II)I" } : MethodName) ∈ q_gw := q_tables_1_7 (i := 13) rfl rfl
theorem g1456 : Cond.code ({ cls := "ShownPatternsModel", name := "open", desc := "(II)I" } : MethodName) prog_14_method_73_code (3 : Nat) (Option.some FieldType.int) ∈ q_gw := q_tables_1_7 (i := 16) rfl rfl
theorem kX12_open : plainName mX12_open.1.cls = true ∧ Cond.code mX12_open.1 mX12_open.2.1 mX12_open.2.2.1 mX12_open.2.2.2 ∈ q_gw ∧ Cond.initialized mX12_open.1.cls ∈ q_gw ∧ (mX12_open.1.cls ≠ "java/lang/invoke/MethodHandle" ∧ mX12_open.1.cls ≠ "java/lang/invoke/VarHandle" ∧ (parseMethodDescriptor mX12_open.1.desc).map (fun d => d.parameters.length) = some 2) ∧ mX12_open.2.2.1 ≤ 20 := ⟨by decide +kernel, g1456, g10, by decide +kernel, by decide⟩
theorem g1454 : Cond.instanceMethod ({ cls := "ShownPatternsModel", name := "open", desc := "(II)I" } : MethodName) ∈ q_gw := q_tables_1_7 (i := 14) rfl rfl
theorem g1455 : Cond.selects "ShownPatternsModel" ({ cls := "ShownPatternsModel", name := "open", desc := "(II)I" } : MethodName) ({ cls := "ShownPatternsModel", name := "open", desc := "(II)I" } : MethodName) ∈ q_gw := q_tables_1_7 (i := 15) rfl rfl
theorem g927 : Cond.methodLink "ShownPatternsLaw" (102 : Nat) ({ cls := "ShownPatterns", name := "ask", desc := "(II)I" } : MethodName) ∈ q_gw := q_tables_1_4 (i := 207) rfl rfl
theorem g930 : Cond.code ({ cls := "ShownPatterns", name := "ask", desc := "(II)I" } : MethodName) prog_1_method_23_code (3 : Nat) (Option.some FieldType.int) ∈ q_gw := q_tables_1_4 (i := 210) rfl rfl
theorem kX11_ask : plainName mX11_ask.1.cls = true ∧ Cond.code mX11_ask.1 mX11_ask.2.1 mX11_ask.2.2.1 mX11_ask.2.2.2 ∈ q_gw ∧ Cond.initialized mX11_ask.1.cls ∈ q_gw ∧ (mX11_ask.1.cls ≠ "java/lang/invoke/MethodHandle" ∧ mX11_ask.1.cls ≠ "java/lang/invoke/VarHandle" ∧ (parseMethodDescriptor mX11_ask.1.desc).map (fun d => d.parameters.length) = some 2) ∧ mX11_ask.2.2.1 ≤ 20 := ⟨by decide +kernel, g930, g1, by decide +kernel, by decide⟩
theorem g928 : Cond.instanceMethod ({ cls := "ShownPatterns", name := "ask", desc := "(II)I" } : MethodName) ∈ q_gw := q_tables_1_4 (i := 208) rfl rfl
theorem g929 : Cond.selects "ShownPatterns" ({ cls := "ShownPatterns", name := "ask", desc := "(II)I" } : MethodName) ({ cls := "ShownPatterns", name := "ask", desc := "(II)I" } : MethodName) ∈ q_gw := q_tables_1_4 (i := 209) rfl rfl
theorem g1461 : Cond.methodLink "ShownPatternsLaw" (105 : Nat) ({ cls := "ShownPatternsModel", name := "ask", desc := "(II)I" } : MethodName) ∈ q_gw := q_tables_1_7 (i := 21) rfl rfl
theorem g1464 : Cond.code ({ cls := "ShownPatternsModel", name := "ask", desc := "(II)I" } : MethodName) prog_14_method_74_code (8 : Nat) (Option.some FieldType.int) ∈ q_gw := q_tables_1_7 (i := 24) rfl rfl
theorem kX12_ask : plainName mX12_ask.1.cls = true ∧ Cond.code mX12_ask.1 mX12_ask.2.1 mX12_ask.2.2.1 mX12_ask.2.2.2 ∈ q_gw ∧ Cond.initialized mX12_ask.1.cls ∈ q_gw ∧ (mX12_ask.1.cls ≠ "java/lang/invoke/MethodHandle" ∧ mX12_ask.1.cls ≠ "java/lang/invoke/VarHandle" ∧ (parseMethodDescriptor mX12_ask.1.desc).map (fun d => d.parameters.length) = some 2) ∧ mX12_ask.2.2.1 ≤ 20 := ⟨by decide +kernel, g1464, g10, by decide +kernel, by decide⟩
theorem g1462 : Cond.instanceMethod ({ cls := "ShownPatternsModel", name := "ask", desc := "(II)I" } : MethodName) ∈ q_gw := q_tables_1_7 (i := 22) rfl rfl
theorem g1463 : Cond.selects "ShownPatternsModel" ({ cls := "ShownPatternsModel", name := "ask", desc := "(II)I" } : MethodName) ({ cls := "ShownPatternsModel", name := "ask", desc := "(II)I" } : MethodName) ∈ q_gw := q_tables_1_7 (i := 23) rfl rfl
theorem g957 : Cond.methodLink "ShownPatternsLaw" (106 : Nat) ({ cls := "ShownPatterns", name := "asked", desc := "()I" } : MethodName) ∈ q_gw := q_tables_1_4 (i := 237) rfl rfl
theorem g960 : Cond.code ({ cls := "ShownPatterns", name := "asked", desc := "()I" } : MethodName) prog_1_method_24_code (1 : Nat) (Option.some FieldType.int) ∈ q_gw := q_tables_1_5 (i := 0) rfl rfl
theorem kX11_asked : plainName mX11_asked.1.cls = true ∧ Cond.code mX11_asked.1 mX11_asked.2.1 mX11_asked.2.2.1 mX11_asked.2.2.2 ∈ q_gw ∧ Cond.initialized mX11_asked.1.cls ∈ q_gw ∧ (mX11_asked.1.cls ≠ "java/lang/invoke/MethodHandle" ∧ mX11_asked.1.cls ≠ "java/lang/invoke/VarHandle" ∧ (parseMethodDescriptor mX11_asked.1.desc).map (fun d => d.parameters.length) = some 0) ∧ mX11_asked.2.2.1 ≤ 20 := ⟨by decide +kernel, g960, g1, by decide +kernel, by decide⟩
theorem g958 : Cond.instanceMethod ({ cls := "ShownPatterns", name := "asked", desc := "()I" } : MethodName) ∈ q_gw := q_tables_1_4 (i := 238) rfl rfl
theorem g959 : Cond.selects "ShownPatterns" ({ cls := "ShownPatterns", name := "asked", desc := "()I" } : MethodName) ({ cls := "ShownPatterns", name := "asked", desc := "()I" } : MethodName) ∈ q_gw := q_tables_1_4 (i := 239) rfl rfl
theorem g1465 : Cond.methodLink "ShownPatternsLaw" (109 : Nat) ({ cls := "ShownPatternsModel", name := "asked", desc := "()I" } : MethodName) ∈ q_gw := q_tables_1_7 (i := 25) rfl rfl
theorem g1468 : Cond.code ({ cls := "ShownPatternsModel", name := "asked", desc := "()I" } : MethodName) prog_14_method_75_code (1 : Nat) (Option.some FieldType.int) ∈ q_gw := q_tables_1_7 (i := 28) rfl rfl
theorem kX12_asked : plainName mX12_asked.1.cls = true ∧ Cond.code mX12_asked.1 mX12_asked.2.1 mX12_asked.2.2.1 mX12_asked.2.2.2 ∈ q_gw ∧ Cond.initialized mX12_asked.1.cls ∈ q_gw ∧ (mX12_asked.1.cls ≠ "java/lang/invoke/MethodHandle" ∧ mX12_asked.1.cls ≠ "java/lang/invoke/VarHandle" ∧ (parseMethodDescriptor mX12_asked.1.desc).map (fun d => d.parameters.length) = some 0) ∧ mX12_asked.2.2.1 ≤ 20 := ⟨by decide +kernel, g1468, g10, by decide +kernel, by decide⟩
theorem g1466 : Cond.instanceMethod ({ cls := "ShownPatternsModel", name := "asked", desc := "()I" } : MethodName) ∈ q_gw := q_tables_1_7 (i := 26) rfl rfl
theorem g1467 : Cond.selects "ShownPatternsModel" ({ cls := "ShownPatternsModel", name := "asked", desc := "()I" } : MethodName) ({ cls := "ShownPatternsModel", name := "asked", desc := "()I" } : MethodName) ∈ q_gw := q_tables_1_7 (i := 27) rfl rfl
theorem g965 : Cond.methodLink "ShownPatternsLaw" (110 : Nat) ({ cls := "ShownPatterns", name := "noise", desc := "(III)I" } : MethodName) ∈ q_gw := q_tables_1_5 (i := 5) rfl rfl
theorem g968 : Cond.code ({ cls := "ShownPatterns", name := "noise", desc := "(III)I" } : MethodName) prog_1_method_25_code (7 : Nat) (Option.some FieldType.int) ∈ q_gw := q_tables_1_5 (i := 8) rfl rfl
theorem kX11_noise : plainName mX11_noise.1.cls = true ∧ Cond.code mX11_noise.1 mX11_noise.2.1 mX11_noise.2.2.1 mX11_noise.2.2.2 ∈ q_gw ∧ Cond.initialized mX11_noise.1.cls ∈ q_gw ∧ (mX11_noise.1.cls ≠ "java/lang/invoke/MethodHandle" ∧ mX11_noise.1.cls ≠ "java/lang/invoke/VarHandle" ∧ (parseMethodDescriptor mX11_noise.1.desc).map (fun d => d.parameters.length) = some 3) ∧ mX11_noise.2.2.1 ≤ 20 := ⟨by decide +kernel, g968, g1, by decide +kernel, by decide⟩
theorem g966 : Cond.instanceMethod ({ cls := "ShownPatterns", name := "noise", desc := "(III)I" } : MethodName) ∈ q_gw := q_tables_1_5 (i := 6) rfl rfl
theorem g967 : Cond.selects "ShownPatterns" ({ cls := "ShownPatterns", name := "noise", desc := "(III)I" } : MethodName) ({ cls := "ShownPatterns", name := "noise", desc := "(III)I" } : MethodName) ∈ q_gw := q_tables_1_5 (i := 7) rfl rfl
theorem g1469 : Cond.methodLink "ShownPatternsLaw" (113 : Nat) ({ cls := "ShownPatternsModel", name := "noise", desc := "(III)I" } : MethodName) ∈ q_gw := q_tables_1_7 (i := 29) rfl rfl
theorem g1472 : Cond.code ({ cls := "ShownPatternsModel", name := "noise", desc := "(III)I" } : MethodName) prog_14_method_76_code (8 : Nat) (Option.some FieldType.int) ∈ q_gw := q_tables_1_7 (i := 32) rfl rfl
theorem kX12_noise : plainName mX12_noise.1.cls = true ∧ Cond.code mX12_noise.1 mX12_noise.2.1 mX12_noise.2.2.1 mX12_noise.2.2.2 ∈ q_gw ∧ Cond.initialized mX12_noise.1.cls ∈ q_gw ∧ (mX12_noise.1.cls ≠ "java/lang/invoke/MethodHandle" ∧ mX12_noise.1.cls ≠ "java/lang/invoke/VarHandle" ∧ (parseMethodDescriptor mX12_noise.1.desc).map (fun d => d.parameters.length) = some 3) ∧ mX12_noise.2.2.1 ≤ 20 := ⟨by decide +kernel, g1472, g10, by decide +kernel, by decide⟩
theorem g1470 : Cond.instanceMethod ({ cls := "ShownPatternsModel", name := "noise", desc := "(III)I" } : MethodName) ∈ q_gw := q_tables_1_7 (i := 30) rfl rfl
theorem g1471 : Cond.selects "ShownPatternsModel" ({ cls := "ShownPatternsModel", name := "noise", desc := "(III)I" } : MethodName) ({ cls := "ShownPatternsModel", name := "noise", desc := "(III)I" } : MethodName) ∈ q_gw := q_tables_1_7 (i := 31) rfl rfl
theorem g980 : Cond.methodLink "ShownPatternsLaw" (114 : Nat) ({ cls := "ShownPatterns", name := "count", desc := "(I)I" } : MethodName) ∈ q_gw := q_tables_1_5 (i := 20) rfl rfl
theorem g983 : Cond.code ({ cls := "ShownPatterns", name := "count", desc := "(I)I" } : MethodName) prog_1_method_26_code (2 : Nat) (Option.some FieldType.int) ∈ q_gw := q_tables_1_5 (i := 23) rfl rfl
theorem kX11_count : plainName mX11_count.1.cls = true ∧ Cond.code mX11_count.1 mX11_count.2.1 mX11_count.2.2.1 mX11_count.2.2.2 ∈ q_gw ∧ Cond.initialized mX11_count.1.cls ∈ q_gw ∧ (mX11_count.1.cls ≠ "java/lang/invoke/MethodHandle" ∧ mX11_count.1.cls ≠ "java/lang/invoke/VarHandle" ∧ (parseMethodDescriptor mX11_count.1.desc).map (fun d => d.parameters.length) = some 1) ∧ mX11_count.2.2.1 ≤ 20 := ⟨by decide +kernel, g983, g1, by decide +kernel, by decide⟩
theorem g981 : Cond.instanceMethod ({ cls := "ShownPatterns", name := "count", desc := "(I)I" } : MethodName) ∈ q_gw := q_tables_1_5 (i := 21) rfl rfl
theorem g982 : Cond.selects "ShownPatterns" ({ cls := "ShownPatterns", name := "count", desc := "(I)I" } : MethodName) ({ cls := "ShownPatterns", name := "count", desc := "(I)I" } : MethodName) ∈ q_gw := q_tables_1_5 (i := 22) rfl rfl
theorem g1473 : Cond.methodLink "ShownPatternsLaw" (117 : Nat) ({ cls := "ShownPatternsModel", name := "count", desc := "(I)I" } : MethodName) ∈ q_gw := q_tables_1_7 (i := 33) rfl rfl
theorem g1476 : Cond.code ({ cls := "ShownPatternsModel", name := "count", desc := "(I)I" } : MethodName) prog_14_method_77_code (4 : Nat) (Option.some FieldType.int) ∈ q_gw := q_tables_1_7 (i := 36) rfl rfl
theorem kX12_count : plainName mX12_count.1.cls = true ∧ Cond.code mX12_count.1 mX12_count.2.1 mX12_count.2.2.1 mX12_count.2.2.2 ∈ q_gw ∧ Cond.initialized mX12_count.1.cls ∈ q_gw ∧ (mX12_count.1.cls ≠ "java/lang/invoke/MethodHandle" ∧ mX12_count.1.cls ≠ "java/lang/invoke/VarHandle" ∧ (parseMethodDescriptor mX12_count.1.desc).map (fun d => d.parameters.length) = some 1) ∧ mX12_count.2.2.1 ≤ 20 := ⟨by decide +kernel, g1476, g10, by decide +kernel, by decide⟩
theorem g1474 : Cond.instanceMethod ({ cls := "ShownPatternsModel", name := "count", desc := "(I)I" } : MethodName) ∈ q_gw := q_tables_1_7 (i := 34) rfl rfl
theorem g1475 : Cond.selects "ShownPatternsModel" ({ cls := "ShownPatternsModel", name := "count", desc := "(I)I" } : MethodName) ({ cls := "ShownPatternsModel", name := "count", desc := "(I)I" } : MethodName) ∈ q_gw := q_tables_1_7 (i := 35) rfl rfl
end
section
def lJ6_bitCount_0f7a4 : List (Nat × qP) := [(0, oIl 0 1), (1, oIl 0 2), (2, oK (.int (nI 1)) 3), (3, oUshr 4), (4, oK (.int (nI 1431655765)) 7), (7, oAnd 8), (8, oSub 9), (9, oIs 0 10), (10, oIl 0 11), (11, oK (.int (nI 858993459)) 14), (14, oAnd 15), (15, oIl 0 16), (16, oK (.int (nI 2)) 17), (17, oUshr 18), (18, oK (.int (nI 858993459)) 21), (21, oAnd 22), (22, oAdd 23), (23, oIs 0 24), (24, oIl 0 25), (25, oIl 0 26), (26, oK (.int (nI 4)) 27), (27, oUshr 28), (28, oAdd 29), (29, oK (.int (nI 252645135)) 32), (32, oAnd 33), (33, oIs 0 34), (34, oIl 0 35), (35, oIl 0 36), (36, oK (.int (nI 8)) 38), (38, oUshr 39), (39, oAdd 40), (40, oIs 0 41), (41, oIl 0 42), (42, oIl 0 43), (43, oK (.int (nI 16)) 45), (45, oUshr 46), (46, oAdd 47), (47, oIs 0 48), (48, oIl 0 49), (49, oK (.int (nI 63)) 51), (51, oAnd 52), (52, oIret)]
def tJ6_bitCount_0f7a4 : Nat → qP := q_tb lJ6_bitCount_0f7a4
set_option maxRecDepth 20000 in
theorem sJ6_bitCount_0f7a4 : q_Snd mJ6_bitCount_0f7a4 tJ6_bitCount_0f7a4 := by
  refine q_tb_ok ?_
  unfold lJ6_bitCount_0f7a4
  refine q_fa (ok_iload_n (by decide +kernel : decode cJ6_bitCount_0f7a4 0 = .ok (.iload_n 0, 1)) rfl rfl) ?_
  refine q_fa (ok_iload_n (by decide +kernel : decode cJ6_bitCount_0f7a4 1 = .ok (.iload_n 0, 1)) rfl rfl) ?_
  refine q_fa (ok_iconst (by decide +kernel : decode cJ6_bitCount_0f7a4 2 = .ok (.iconst 1, 1)) rfl (by decide +kernel)) ?_
  refine q_fa (ok_iushr (by decide +kernel : decode cJ6_bitCount_0f7a4 3 = .ok (.iushr, 1)) rfl) ?_
  refine q_fa (ok_ldcw (by decide +kernel : decode cJ6_bitCount_0f7a4 4 = .ok (.ldc_w 265, 3)) rfl g991) ?_
  refine q_fa (ok_iand (by decide +kernel : decode cJ6_bitCount_0f7a4 7 = .ok (.iand, 1)) rfl) ?_
  refine q_fa (ok_isub (by decide +kernel : decode cJ6_bitCount_0f7a4 8 = .ok (.isub, 1)) rfl) ?_
  refine q_fa (ok_istore_n (by decide +kernel : decode cJ6_bitCount_0f7a4 9 = .ok (.istore_n 0, 1)) rfl rfl (by decide)) ?_
  refine q_fa (ok_iload_n (by decide +kernel : decode cJ6_bitCount_0f7a4 10 = .ok (.iload_n 0, 1)) rfl rfl) ?_
  refine q_fa (ok_ldcw (by decide +kernel : decode cJ6_bitCount_0f7a4 11 = .ok (.ldc_w 266, 3)) rfl g992) ?_
  refine q_fa (ok_iand (by decide +kernel : decode cJ6_bitCount_0f7a4 14 = .ok (.iand, 1)) rfl) ?_
  refine q_fa (ok_iload_n (by decide +kernel : decode cJ6_bitCount_0f7a4 15 = .ok (.iload_n 0, 1)) rfl rfl) ?_
  refine q_fa (ok_iconst (by decide +kernel : decode cJ6_bitCount_0f7a4 16 = .ok (.iconst 2, 1)) rfl (by decide +kernel)) ?_
  refine q_fa (ok_iushr (by decide +kernel : decode cJ6_bitCount_0f7a4 17 = .ok (.iushr, 1)) rfl) ?_
  refine q_fa (ok_ldcw (by decide +kernel : decode cJ6_bitCount_0f7a4 18 = .ok (.ldc_w 266, 3)) rfl g992) ?_
  refine q_fa (ok_iand (by decide +kernel : decode cJ6_bitCount_0f7a4 21 = .ok (.iand, 1)) rfl) ?_
  refine q_fa (ok_iadd (by decide +kernel : decode cJ6_bitCount_0f7a4 22 = .ok (.iadd, 1)) rfl) ?_
  refine q_fa (ok_istore_n (by decide +kernel : decode cJ6_bitCount_0f7a4 23 = .ok (.istore_n 0, 1)) rfl rfl (by decide)) ?_
  refine q_fa (ok_iload_n (by decide +kernel : decode cJ6_bitCount_0f7a4 24 = .ok (.iload_n 0, 1)) rfl rfl) ?_
  refine q_fa (ok_iload_n (by decide +kernel : decode cJ6_bitCount_0f7a4 25 = .ok (.iload_n 0, 1)) rfl rfl) ?_
  refine q_fa (ok_iconst (by decide +kernel : decode cJ6_bitCount_0f7a4 26 = .ok (.iconst 4, 1)) rfl (by decide +kernel)) ?_
  refine q_fa (ok_iushr (by decide +kernel : decode cJ6_bitCount_0f7a4 27 = .ok (.iushr, 1)) rfl) ?_
  refine q_fa (ok_iadd (by decide +kernel : decode cJ6_bitCount_0f7a4 28 = .ok (.iadd, 1)) rfl) ?_
  refine q_fa (ok_ldcw (by decide +kernel : decode cJ6_bitCount_0f7a4 29 = .ok (.ldc_w 267, 3)) rfl g993) ?_
  refine q_fa (ok_iand (by decide +kernel : decode cJ6_bitCount_0f7a4 32 = .ok (.iand, 1)) rfl) ?_
  refine q_fa (ok_istore_n (by decide +kernel : decode cJ6_bitCount_0f7a4 33 = .ok (.istore_n 0, 1)) rfl rfl (by decide)) ?_
  refine q_fa (ok_iload_n (by decide +kernel : decode cJ6_bitCount_0f7a4 34 = .ok (.iload_n 0, 1)) rfl rfl) ?_
  refine q_fa (ok_iload_n (by decide +kernel : decode cJ6_bitCount_0f7a4 35 = .ok (.iload_n 0, 1)) rfl rfl) ?_
  refine q_fa (ok_bipush (by decide +kernel : decode cJ6_bitCount_0f7a4 36 = .ok (.bipush 8, 2)) rfl (by decide +kernel)) ?_
  refine q_fa (ok_iushr (by decide +kernel : decode cJ6_bitCount_0f7a4 38 = .ok (.iushr, 1)) rfl) ?_
  refine q_fa (ok_iadd (by decide +kernel : decode cJ6_bitCount_0f7a4 39 = .ok (.iadd, 1)) rfl) ?_
  refine q_fa (ok_istore_n (by decide +kernel : decode cJ6_bitCount_0f7a4 40 = .ok (.istore_n 0, 1)) rfl rfl (by decide)) ?_
  refine q_fa (ok_iload_n (by decide +kernel : decode cJ6_bitCount_0f7a4 41 = .ok (.iload_n 0, 1)) rfl rfl) ?_
  refine q_fa (ok_iload_n (by decide +kernel : decode cJ6_bitCount_0f7a4 42 = .ok (.iload_n 0, 1)) rfl rfl) ?_
  refine q_fa (ok_bipush (by decide +kernel : decode cJ6_bitCount_0f7a4 43 = .ok (.bipush 16, 2)) rfl (by decide +kernel)) ?_
  refine q_fa (ok_iushr (by decide +kernel : decode cJ6_bitCount_0f7a4 45 = .ok (.iushr, 1)) rfl) ?_
  refine q_fa (ok_iadd (by decide +kernel : decode cJ6_bitCount_0f7a4 46 = .ok (.iadd, 1)) rfl) ?_
  refine q_fa (ok_istore_n (by decide +kernel : decode cJ6_bitCount_0f7a4 47 = .ok (.istore_n 0, 1)) rfl rfl (by decide)) ?_
  refine q_fa (ok_iload_n (by decide +kernel : decode cJ6_bitCount_0f7a4 48 = .ok (.iload_n 0, 1)) rfl rfl) ?_
  refine q_fa (ok_bipush (by decide +kernel : decode cJ6_bitCount_0f7a4 49 = .ok (.bipush 63, 2)) rfl (by decide +kernel)) ?_
  refine q_fa (ok_iand (by decide +kernel : decode cJ6_bitCount_0f7a4 51 = .ok (.iand, 1)) rfl) ?_
  refine q_fa (ok_iret (by decide +kernel : decode cJ6_bitCount_0f7a4 52 = .ok (.ireturn, 1)) rfl) ?_
  exact q_fa0
theorem tJ6_bitCount_0f7a4_0 : tJ6_bitCount_0f7a4 0 = oIl 0 1 := Eq.trans rfl rfl
theorem tJ6_bitCount_0f7a4_1 : tJ6_bitCount_0f7a4 1 = oIl 0 2 := Eq.trans rfl rfl
theorem tJ6_bitCount_0f7a4_2 : tJ6_bitCount_0f7a4 2 = oK (.int (nI 1)) 3 := Eq.trans rfl rfl
theorem tJ6_bitCount_0f7a4_3 : tJ6_bitCount_0f7a4 3 = oUshr 4 := Eq.trans rfl rfl
theorem tJ6_bitCount_0f7a4_4 : tJ6_bitCount_0f7a4 4 = oK (.int (nI 1431655765)) 7 := Eq.trans rfl rfl
theorem tJ6_bitCount_0f7a4_7 : tJ6_bitCount_0f7a4 7 = oAnd 8 := Eq.trans rfl rfl
theorem tJ6_bitCount_0f7a4_8 : tJ6_bitCount_0f7a4 8 = oSub 9 := Eq.trans rfl rfl
theorem tJ6_bitCount_0f7a4_9 : tJ6_bitCount_0f7a4 9 = oIs 0 10 := Eq.trans rfl rfl
theorem tJ6_bitCount_0f7a4_10 : tJ6_bitCount_0f7a4 10 = oIl 0 11 := Eq.trans rfl rfl
theorem tJ6_bitCount_0f7a4_11 : tJ6_bitCount_0f7a4 11 = oK (.int (nI 858993459)) 14 := Eq.trans rfl rfl
theorem tJ6_bitCount_0f7a4_14 : tJ6_bitCount_0f7a4 14 = oAnd 15 := Eq.trans rfl rfl
theorem tJ6_bitCount_0f7a4_15 : tJ6_bitCount_0f7a4 15 = oIl 0 16 := Eq.trans rfl rfl
theorem tJ6_bitCount_0f7a4_16 : tJ6_bitCount_0f7a4 16 = oK (.int (nI 2)) 17 := Eq.trans rfl rfl
theorem tJ6_bitCount_0f7a4_17 : tJ6_bitCount_0f7a4 17 = oUshr 18 := Eq.trans rfl rfl
theorem tJ6_bitCount_0f7a4_18 : tJ6_bitCount_0f7a4 18 = oK (.int (nI 858993459)) 21 := Eq.trans rfl rfl
theorem tJ6_bitCount_0f7a4_21 : tJ6_bitCount_0f7a4 21 = oAnd 22 := Eq.trans rfl rfl
theorem tJ6_bitCount_0f7a4_22 : tJ6_bitCount_0f7a4 22 = oAdd 23 := Eq.trans rfl rfl
theorem tJ6_bitCount_0f7a4_23 : tJ6_bitCount_0f7a4 23 = oIs 0 24 := Eq.trans rfl rfl
theorem tJ6_bitCount_0f7a4_24 : tJ6_bitCount_0f7a4 24 = oIl 0 25 := Eq.trans rfl rfl
theorem tJ6_bitCount_0f7a4_25 : tJ6_bitCount_0f7a4 25 = oIl 0 26 := Eq.trans rfl rfl
theorem tJ6_bitCount_0f7a4_26 : tJ6_bitCount_0f7a4 26 = oK (.int (nI 4)) 27 := Eq.trans rfl rfl
theorem tJ6_bitCount_0f7a4_27 : tJ6_bitCount_0f7a4 27 = oUshr 28 := Eq.trans rfl rfl
theorem tJ6_bitCount_0f7a4_28 : tJ6_bitCount_0f7a4 28 = oAdd 29 := Eq.trans rfl rfl
theorem tJ6_bitCount_0f7a4_29 : tJ6_bitCount_0f7a4 29 = oK (.int (nI 252645135)) 32 := Eq.trans rfl rfl
theorem tJ6_bitCount_0f7a4_32 : tJ6_bitCount_0f7a4 32 = oAnd 33 := Eq.trans rfl rfl
theorem tJ6_bitCount_0f7a4_33 : tJ6_bitCount_0f7a4 33 = oIs 0 34 := Eq.trans rfl rfl
theorem tJ6_bitCount_0f7a4_34 : tJ6_bitCount_0f7a4 34 = oIl 0 35 := Eq.trans rfl rfl
theorem tJ6_bitCount_0f7a4_35 : tJ6_bitCount_0f7a4 35 = oIl 0 36 := Eq.trans rfl rfl
theorem tJ6_bitCount_0f7a4_36 : tJ6_bitCount_0f7a4 36 = oK (.int (nI 8)) 38 := Eq.trans rfl rfl
theorem tJ6_bitCount_0f7a4_38 : tJ6_bitCount_0f7a4 38 = oUshr 39 := Eq.trans rfl rfl
theorem tJ6_bitCount_0f7a4_39 : tJ6_bitCount_0f7a4 39 = oAdd 40 := Eq.trans rfl rfl
theorem tJ6_bitCount_0f7a4_40 : tJ6_bitCount_0f7a4 40 = oIs 0 41 := Eq.trans rfl rfl
theorem tJ6_bitCount_0f7a4_41 : tJ6_bitCount_0f7a4 41 = oIl 0 42 := Eq.trans rfl rfl
theorem tJ6_bitCount_0f7a4_42 : tJ6_bitCount_0f7a4 42 = oIl 0 43 := Eq.trans rfl rfl
theorem tJ6_bitCount_0f7a4_43 : tJ6_bitCount_0f7a4 43 = oK (.int (nI 16)) 45 := Eq.trans rfl rfl
theorem tJ6_bitCount_0f7a4_45 : tJ6_bitCount_0f7a4 45 = oUshr 46 := Eq.trans rfl rfl
theorem tJ6_bitCount_0f7a4_46 : tJ6_bitCount_0f7a4 46 = oAdd 47 := Eq.trans rfl rfl
theorem tJ6_bitCount_0f7a4_47 : tJ6_bitCount_0f7a4 47 = oIs 0 48 := Eq.trans rfl rfl
theorem tJ6_bitCount_0f7a4_48 : tJ6_bitCount_0f7a4 48 = oIl 0 49 := Eq.trans rfl rfl
theorem tJ6_bitCount_0f7a4_49 : tJ6_bitCount_0f7a4 49 = oK (.int (nI 63)) 51 := Eq.trans rfl rfl
theorem tJ6_bitCount_0f7a4_51 : tJ6_bitCount_0f7a4 51 = oAnd 52 := Eq.trans rfl rfl
theorem tJ6_bitCount_0f7a4_52 : tJ6_bitCount_0f7a4 52 = oIret := Eq.trans rfl rfl
def lJ7_fill_d0a16 : List (Nat × qP) := [(0, oK (.int (nI 0)) 1), (1, oIs 3 2), (2, oAl 0 3), (3, oAlen 4), (4, oIs 4 6), (6, oIl 3 7), (7, oIl 4 9), (9, oIf2ge 22 12), (12, oAl 0 13), (13, oIl 3 14), (14, oLl 1 15), (15, oLast 16), (16, oInc 3 (nI 1) 19), (19, oGo 6), (22, oVret)]
def tJ7_fill_d0a16 : Nat → qP := q_tb lJ7_fill_d0a16
set_option maxRecDepth 20000 in
theorem sJ7_fill_d0a16 : q_Snd mJ7_fill_d0a16 tJ7_fill_d0a16 := by
  refine q_tb_ok ?_
  unfold lJ7_fill_d0a16
  refine q_fa (ok_iconst (by decide +kernel : decode cJ7_fill_d0a16 0 = .ok (.iconst 0, 1)) rfl (by decide +kernel)) ?_
  refine q_fa (ok_istore_n (by decide +kernel : decode cJ7_fill_d0a16 1 = .ok (.istore_n 3, 1)) rfl rfl (by decide)) ?_
  refine q_fa (ok_aload_n (by decide +kernel : decode cJ7_fill_d0a16 2 = .ok (.aload_n 0, 1)) rfl rfl) ?_
  refine q_fa (ok_alen (by decide +kernel : decode cJ7_fill_d0a16 3 = .ok (.arraylength, 1)) rfl) ?_
  refine q_fa (ok_istore (by decide +kernel : decode cJ7_fill_d0a16 4 = .ok (.istore 4, 2)) rfl (by decide)) ?_
  refine q_fa (ok_iload_n (by decide +kernel : decode cJ7_fill_d0a16 6 = .ok (.iload_n 3, 1)) rfl rfl) ?_
  refine q_fa (ok_iload (by decide +kernel : decode cJ7_fill_d0a16 7 = .ok (.iload 4, 2)) rfl) ?_
  refine q_fa (ok_if2ge (by decide +kernel : decode cJ7_fill_d0a16 9 = .ok (.if_icmp .ge 13, 3)) (by decide) rfl) ?_
  refine q_fa (ok_aload_n (by decide +kernel : decode cJ7_fill_d0a16 12 = .ok (.aload_n 0, 1)) rfl rfl) ?_
  refine q_fa (ok_iload_n (by decide +kernel : decode cJ7_fill_d0a16 13 = .ok (.iload_n 3, 1)) rfl rfl) ?_
  refine q_fa (ok_lload_n (by decide +kernel : decode cJ7_fill_d0a16 14 = .ok (.lload_n 1, 1)) rfl rfl) ?_
  refine q_fa (ok_lastore (by decide +kernel : decode cJ7_fill_d0a16 15 = .ok (.lastore, 1)) rfl) ?_
  refine q_fa (ok_iinc (by decide +kernel : decode cJ7_fill_d0a16 16 = .ok (.iinc 3 1, 3)) rfl (by decide +kernel) (by decide)) ?_
  refine q_fa (ok_goto (by decide +kernel : decode cJ7_fill_d0a16 19 = .ok (.goto (-13), 3)) (by decide)) ?_
  refine q_fa (ok_vret (by decide +kernel : decode cJ7_fill_d0a16 22 = .ok (.return_, 1)) rfl) ?_
  exact q_fa0
theorem tJ7_fill_d0a16_0 : tJ7_fill_d0a16 0 = oK (.int (nI 0)) 1 := Eq.trans rfl rfl
theorem tJ7_fill_d0a16_1 : tJ7_fill_d0a16 1 = oIs 3 2 := Eq.trans rfl rfl
theorem tJ7_fill_d0a16_2 : tJ7_fill_d0a16 2 = oAl 0 3 := Eq.trans rfl rfl
theorem tJ7_fill_d0a16_3 : tJ7_fill_d0a16 3 = oAlen 4 := Eq.trans rfl rfl
theorem tJ7_fill_d0a16_4 : tJ7_fill_d0a16 4 = oIs 4 6 := Eq.trans rfl rfl
theorem tJ7_fill_d0a16_6 : tJ7_fill_d0a16 6 = oIl 3 7 := Eq.trans rfl rfl
theorem tJ7_fill_d0a16_7 : tJ7_fill_d0a16 7 = oIl 4 9 := Eq.trans rfl rfl
theorem tJ7_fill_d0a16_9 : tJ7_fill_d0a16 9 = oIf2ge 22 12 := Eq.trans rfl rfl
theorem tJ7_fill_d0a16_12 : tJ7_fill_d0a16 12 = oAl 0 13 := Eq.trans rfl rfl
theorem tJ7_fill_d0a16_13 : tJ7_fill_d0a16 13 = oIl 3 14 := Eq.trans rfl rfl
theorem tJ7_fill_d0a16_14 : tJ7_fill_d0a16 14 = oLl 1 15 := Eq.trans rfl rfl
theorem tJ7_fill_d0a16_15 : tJ7_fill_d0a16 15 = oLast 16 := Eq.trans rfl rfl
theorem tJ7_fill_d0a16_16 : tJ7_fill_d0a16 16 = oInc 3 (nI 1) 19 := Eq.trans rfl rfl
theorem tJ7_fill_d0a16_19 : tJ7_fill_d0a16 19 = oGo 6 := Eq.trans rfl rfl
theorem tJ7_fill_d0a16_22 : tJ7_fill_d0a16 22 = oVret := Eq.trans rfl rfl
def lJ7_fill_53178 : List (Nat × qP) := [(0, oK (.int (nI 0)) 1), (1, oIs 2 2), (2, oAl 0 3), (3, oAlen 4), (4, oIs 3 5), (5, oIl 2 6), (6, oIl 3 7), (7, oIf2ge 20 10), (10, oAl 0 11), (11, oIl 2 12), (12, oIl 1 13), (13, oIast 14), (14, oInc 2 (nI 1) 17), (17, oGo 5), (20, oVret)]
def tJ7_fill_53178 : Nat → qP := q_tb lJ7_fill_53178
set_option maxRecDepth 20000 in
theorem sJ7_fill_53178 : q_Snd mJ7_fill_53178 tJ7_fill_53178 := by
  refine q_tb_ok ?_
  unfold lJ7_fill_53178
  refine q_fa (ok_iconst (by decide +kernel : decode cJ7_fill_53178 0 = .ok (.iconst 0, 1)) rfl (by decide +kernel)) ?_
  refine q_fa (ok_istore_n (by decide +kernel : decode cJ7_fill_53178 1 = .ok (.istore_n 2, 1)) rfl rfl (by decide)) ?_
  refine q_fa (ok_aload_n (by decide +kernel : decode cJ7_fill_53178 2 = .ok (.aload_n 0, 1)) rfl rfl) ?_
  refine q_fa (ok_alen (by decide +kernel : decode cJ7_fill_53178 3 = .ok (.arraylength, 1)) rfl) ?_
  refine q_fa (ok_istore_n (by decide +kernel : decode cJ7_fill_53178 4 = .ok (.istore_n 3, 1)) rfl rfl (by decide)) ?_
  refine q_fa (ok_iload_n (by decide +kernel : decode cJ7_fill_53178 5 = .ok (.iload_n 2, 1)) rfl rfl) ?_
  refine q_fa (ok_iload_n (by decide +kernel : decode cJ7_fill_53178 6 = .ok (.iload_n 3, 1)) rfl rfl) ?_
  refine q_fa (ok_if2ge (by decide +kernel : decode cJ7_fill_53178 7 = .ok (.if_icmp .ge 13, 3)) (by decide) rfl) ?_
  refine q_fa (ok_aload_n (by decide +kernel : decode cJ7_fill_53178 10 = .ok (.aload_n 0, 1)) rfl rfl) ?_
  refine q_fa (ok_iload_n (by decide +kernel : decode cJ7_fill_53178 11 = .ok (.iload_n 2, 1)) rfl rfl) ?_
  refine q_fa (ok_iload_n (by decide +kernel : decode cJ7_fill_53178 12 = .ok (.iload_n 1, 1)) rfl rfl) ?_
  refine q_fa (ok_iastore (by decide +kernel : decode cJ7_fill_53178 13 = .ok (.iastore, 1)) rfl) ?_
  refine q_fa (ok_iinc (by decide +kernel : decode cJ7_fill_53178 14 = .ok (.iinc 2 1, 3)) rfl (by decide +kernel) (by decide)) ?_
  refine q_fa (ok_goto (by decide +kernel : decode cJ7_fill_53178 17 = .ok (.goto (-12), 3)) (by decide)) ?_
  refine q_fa (ok_vret (by decide +kernel : decode cJ7_fill_53178 20 = .ok (.return_, 1)) rfl) ?_
  exact q_fa0
theorem tJ7_fill_53178_0 : tJ7_fill_53178 0 = oK (.int (nI 0)) 1 := Eq.trans rfl rfl
theorem tJ7_fill_53178_1 : tJ7_fill_53178 1 = oIs 2 2 := Eq.trans rfl rfl
theorem tJ7_fill_53178_2 : tJ7_fill_53178 2 = oAl 0 3 := Eq.trans rfl rfl
theorem tJ7_fill_53178_3 : tJ7_fill_53178 3 = oAlen 4 := Eq.trans rfl rfl
theorem tJ7_fill_53178_4 : tJ7_fill_53178 4 = oIs 3 5 := Eq.trans rfl rfl
theorem tJ7_fill_53178_5 : tJ7_fill_53178 5 = oIl 2 6 := Eq.trans rfl rfl
theorem tJ7_fill_53178_6 : tJ7_fill_53178 6 = oIl 3 7 := Eq.trans rfl rfl
theorem tJ7_fill_53178_7 : tJ7_fill_53178 7 = oIf2ge 20 10 := Eq.trans rfl rfl
theorem tJ7_fill_53178_10 : tJ7_fill_53178 10 = oAl 0 11 := Eq.trans rfl rfl
theorem tJ7_fill_53178_11 : tJ7_fill_53178 11 = oIl 2 12 := Eq.trans rfl rfl
theorem tJ7_fill_53178_12 : tJ7_fill_53178 12 = oIl 1 13 := Eq.trans rfl rfl
theorem tJ7_fill_53178_13 : tJ7_fill_53178 13 = oIast 14 := Eq.trans rfl rfl
theorem tJ7_fill_53178_14 : tJ7_fill_53178 14 = oInc 2 (nI 1) 17 := Eq.trans rfl rfl
theorem tJ7_fill_53178_17 : tJ7_fill_53178 17 = oGo 5 := Eq.trans rfl rfl
theorem tJ7_fill_53178_20 : tJ7_fill_53178 20 = oVret := Eq.trans rfl rfl
def lX4_init : List (Nat × qP) := [(0, oAl 0 1), (1, oObj 4), (4, oIl 1 5), (5, oK (.int (nI 0)) 6), (6, oMax 9), (9, oIs 2 10), (10, oAl 0 11), (11, oIl 2 12), (12, oNewa 1 14), (14, oPutR 4 0 17), (17, oAl 0 18), (18, oIl 2 19), (19, oNewa 1 21), (21, oPutR 4 1 24), (24, oAl 0 25), (25, oIl 2 26), (26, oNewa 1 28), (28, oPutR 4 2 31), (31, oVret)]
def tX4_init : Nat → qP := q_tb lX4_init
set_option maxRecDepth 20000 in
theorem sX4_init : q_Snd mX4_init tX4_init := by
  refine q_tb_ok ?_
  unfold lX4_init
  refine q_fa (ok_aload_n (by decide +kernel : decode cX4_init 0 = .ok (.aload_n 0, 1)) rfl rfl) ?_
  refine q_fa (ok_obj (by decide +kernel : decode cX4_init 1 = .ok (.invokespecial 3, 3)) rfl g39 g24 g25) ?_
  refine q_fa (ok_iload_n (by decide +kernel : decode cX4_init 4 = .ok (.iload_n 1, 1)) rfl rfl) ?_
  refine q_fa (ok_iconst (by decide +kernel : decode cX4_init 5 = .ok (.iconst 0, 1)) rfl (by decide +kernel)) ?_
  refine q_fa (ok_max (by decide +kernel : decode cX4_init 6 = .ok (.invokestatic 9, 3)) rfl g40 g41 g4 g42) ?_
  refine q_fa (ok_istore_n (by decide +kernel : decode cX4_init 9 = .ok (.istore_n 2, 1)) rfl rfl (by decide)) ?_
  refine q_fa (ok_aload_n (by decide +kernel : decode cX4_init 10 = .ok (.aload_n 0, 1)) rfl rfl) ?_
  refine q_fa (ok_iload_n (by decide +kernel : decode cX4_init 11 = .ok (.iload_n 2, 1)) rfl rfl) ?_
  refine q_fa (ok_newa_int (by decide +kernel : decode cX4_init 12 = .ok (.newarray .int, 2)) rfl g56) ?_
  refine q_fa (ok_putR tyX4 (by decide +kernel : decode cX4_init 14 = .ok (.putfield 15, 3)) rfl (rfl : vwCl[4]? = some (RX4, TX4, 4)) inX4 tyX4_ok nmX4 (by decide) g43 (Or.inr ⟨rfl, rfl, rfl⟩) (by decide +kernel : parseFieldDescriptor (TX4 0).2.2.1 = some (tyX4 0)) (q_rfA _)) ?_
  refine q_fa (ok_aload_n (by decide +kernel : decode cX4_init 17 = .ok (.aload_n 0, 1)) rfl rfl) ?_
  refine q_fa (ok_iload_n (by decide +kernel : decode cX4_init 18 = .ok (.iload_n 2, 1)) rfl rfl) ?_
  refine q_fa (ok_newa_int (by decide +kernel : decode cX4_init 19 = .ok (.newarray .int, 2)) rfl g56) ?_
  refine q_fa (ok_putR tyX4 (by decide +kernel : decode cX4_init 21 = .ok (.putfield 21, 3)) rfl (rfl : vwCl[4]? = some (RX4, TX4, 4)) inX4 tyX4_ok nmX4 (by decide) g44 (Or.inr ⟨rfl, rfl, rfl⟩) (by decide +kernel : parseFieldDescriptor (TX4 1).2.2.1 = some (tyX4 1)) (q_rfA _)) ?_
  refine q_fa (ok_aload_n (by decide +kernel : decode cX4_init 24 = .ok (.aload_n 0, 1)) rfl rfl) ?_
  refine q_fa (ok_iload_n (by decide +kernel : decode cX4_init 25 = .ok (.iload_n 2, 1)) rfl rfl) ?_
  refine q_fa (ok_newa_int (by decide +kernel : decode cX4_init 26 = .ok (.newarray .int, 2)) rfl g56) ?_
  refine q_fa (ok_putR tyX4 (by decide +kernel : decode cX4_init 28 = .ok (.putfield 24, 3)) rfl (rfl : vwCl[4]? = some (RX4, TX4, 4)) inX4 tyX4_ok nmX4 (by decide) g45 (Or.inr ⟨rfl, rfl, rfl⟩) (by decide +kernel : parseFieldDescriptor (TX4 2).2.2.1 = some (tyX4 2)) (q_rfA _)) ?_
  refine q_fa (ok_vret (by decide +kernel : decode cX4_init 31 = .ok (.return_, 1)) rfl) ?_
  exact q_fa0
theorem tX4_init_0 : tX4_init 0 = oAl 0 1 := Eq.trans rfl rfl
theorem tX4_init_1 : tX4_init 1 = oObj 4 := Eq.trans rfl rfl
theorem tX4_init_4 : tX4_init 4 = oIl 1 5 := Eq.trans rfl rfl
theorem tX4_init_5 : tX4_init 5 = oK (.int (nI 0)) 6 := Eq.trans rfl rfl
theorem tX4_init_6 : tX4_init 6 = oMax 9 := Eq.trans rfl rfl
theorem tX4_init_9 : tX4_init 9 = oIs 2 10 := Eq.trans rfl rfl
theorem tX4_init_10 : tX4_init 10 = oAl 0 11 := Eq.trans rfl rfl
theorem tX4_init_11 : tX4_init 11 = oIl 2 12 := Eq.trans rfl rfl
theorem tX4_init_12 : tX4_init 12 = oNewa 1 14 := Eq.trans rfl rfl
theorem tX4_init_14 : tX4_init 14 = oPutR 4 0 17 := Eq.trans rfl rfl
theorem tX4_init_17 : tX4_init 17 = oAl 0 18 := Eq.trans rfl rfl
theorem tX4_init_18 : tX4_init 18 = oIl 2 19 := Eq.trans rfl rfl
theorem tX4_init_19 : tX4_init 19 = oNewa 1 21 := Eq.trans rfl rfl
theorem tX4_init_21 : tX4_init 21 = oPutR 4 1 24 := Eq.trans rfl rfl
theorem tX4_init_24 : tX4_init 24 = oAl 0 25 := Eq.trans rfl rfl
theorem tX4_init_25 : tX4_init 25 = oIl 2 26 := Eq.trans rfl rfl
theorem tX4_init_26 : tX4_init 26 = oNewa 1 28 := Eq.trans rfl rfl
theorem tX4_init_28 : tX4_init 28 = oPutR 4 2 31 := Eq.trans rfl rfl
theorem tX4_init_31 : tX4_init 31 = oVret := Eq.trans rfl rfl
def lX4_size : List (Nat × qP) := [(0, oAl 0 1), (1, oGet 4 3 4), (4, oIret)]
def tX4_size : Nat → qP := q_tb lX4_size
set_option maxRecDepth 20000 in
theorem sX4_size : q_Snd mX4_size tX4_size := by
  refine q_tb_ok ?_
  unfold lX4_size
  refine q_fa (ok_aload_n (by decide +kernel : decode cX4_size 0 = .ok (.aload_n 0, 1)) rfl rfl) ?_
  refine q_fa (ok_get (by decide +kernel : decode cX4_size 1 = .ok (.getfield 27, 3)) rfl (rfl : vwCl[4]? = some (RX4, TX4, 4)) inX4 (by decide) g46) ?_
  refine q_fa (ok_iret (by decide +kernel : decode cX4_size 4 = .ok (.ireturn, 1)) rfl) ?_
  exact q_fa0
theorem tX4_size_0 : tX4_size 0 = oAl 0 1 := Eq.trans rfl rfl
theorem tX4_size_1 : tX4_size 1 = oGet 4 3 4 := Eq.trans rfl rfl
theorem tX4_size_4 : tX4_size 4 = oIret := Eq.trans rfl rfl
def lX4_clear : List (Nat × qP) := [(0, oAl 0 1), (1, oK (.int (nI 0)) 2), (2, oPutI 4 3 5), (5, oVret)]
def tX4_clear : Nat → qP := q_tb lX4_clear
set_option maxRecDepth 20000 in
theorem sX4_clear : q_Snd mX4_clear tX4_clear := by
  refine q_tb_ok ?_
  unfold lX4_clear
  refine q_fa (ok_aload_n (by decide +kernel : decode cX4_clear 0 = .ok (.aload_n 0, 1)) rfl rfl) ?_
  refine q_fa (ok_iconst (by decide +kernel : decode cX4_clear 1 = .ok (.iconst 0, 1)) rfl (by decide +kernel)) ?_
  refine q_fa (ok_putI tyX4 (by decide +kernel : decode cX4_clear 2 = .ok (.putfield 27, 3)) rfl (rfl : vwCl[4]? = some (RX4, TX4, 4)) inX4 tyX4_ok nmX4 (by decide) g46 (Or.inl rfl) (by decide +kernel)) ?_
  refine q_fa (ok_vret (by decide +kernel : decode cX4_clear 5 = .ok (.return_, 1)) rfl) ?_
  exact q_fa0
theorem tX4_clear_0 : tX4_clear 0 = oAl 0 1 := Eq.trans rfl rfl
theorem tX4_clear_1 : tX4_clear 1 = oK (.int (nI 0)) 2 := Eq.trans rfl rfl
theorem tX4_clear_2 : tX4_clear 2 = oPutI 4 3 5 := Eq.trans rfl rfl
theorem tX4_clear_5 : tX4_clear 5 = oVret := Eq.trans rfl rfl
def lX4_add : List (Nat × qP) := [(0, oAl 0 1), (1, oGet 4 3 4), (4, oAl 0 5), (5, oGet 4 0 8), (8, oAlen 9), (9, oIf2lt 14 12), (12, oK (.int (-1)) 13), (13, oIret), (14, oAl 0 15), (15, oGet 4 0 18), (18, oAl 0 19), (19, oGet 4 3 22), (22, oIl 1 23), (23, oIast 24), (24, oAl 0 25), (25, oGet 4 1 28), (28, oAl 0 29), (29, oGet 4 3 32), (32, oIl 2 33), (33, oIast 34), (34, oAl 0 35), (35, oGet 4 2 38), (38, oAl 0 39), (39, oGet 4 3 42), (42, oIl 3 43), (43, oIast 44), (44, oAl 0 45), (45, oDup 46), (46, oGet 4 3 49), (49, oK (.int (nI 1)) 50), (50, oAdd 51), (51, oPutI 4 3 54), (54, oAl 0 55), (55, oGet 4 3 58), (58, oK (.int (nI 1)) 59), (59, oSub 60), (60, oIret)]
def tX4_add : Nat → qP := q_tb lX4_add
set_option maxRecDepth 20000 in
theorem sX4_add : q_Snd mX4_add tX4_add := by
  refine q_tb_ok ?_
  unfold lX4_add
  refine q_fa (ok_aload_n (by decide +kernel : decode cX4_add 0 = .ok (.aload_n 0, 1)) rfl rfl) ?_
  refine q_fa (ok_get (by decide +kernel : decode cX4_add 1 = .ok (.getfield 27, 3)) rfl (rfl : vwCl[4]? = some (RX4, TX4, 4)) inX4 (by decide) g46) ?_
  refine q_fa (ok_aload_n (by decide +kernel : decode cX4_add 4 = .ok (.aload_n 0, 1)) rfl rfl) ?_
  refine q_fa (ok_get (by decide +kernel : decode cX4_add 5 = .ok (.getfield 15, 3)) rfl (rfl : vwCl[4]? = some (RX4, TX4, 4)) inX4 (by decide) g43) ?_
  refine q_fa (ok_alen (by decide +kernel : decode cX4_add 8 = .ok (.arraylength, 1)) rfl) ?_
  refine q_fa (ok_if2lt (by decide +kernel : decode cX4_add 9 = .ok (.if_icmp .lt 5, 3)) (by decide) rfl) ?_
  refine q_fa (ok_iconst (by decide +kernel : decode cX4_add 12 = .ok (.iconst (-1), 1)) rfl (by decide +kernel)) ?_
  refine q_fa (ok_iret (by decide +kernel : decode cX4_add 13 = .ok (.ireturn, 1)) rfl) ?_
  refine q_fa (ok_aload_n (by decide +kernel : decode cX4_add 14 = .ok (.aload_n 0, 1)) rfl rfl) ?_
  refine q_fa (ok_get (by decide +kernel : decode cX4_add 15 = .ok (.getfield 15, 3)) rfl (rfl : vwCl[4]? = some (RX4, TX4, 4)) inX4 (by decide) g43) ?_
  refine q_fa (ok_aload_n (by decide +kernel : decode cX4_add 18 = .ok (.aload_n 0, 1)) rfl rfl) ?_
  refine q_fa (ok_get (by decide +kernel : decode cX4_add 19 = .ok (.getfield 27, 3)) rfl (rfl : vwCl[4]? = some (RX4, TX4, 4)) inX4 (by decide) g46) ?_
  refine q_fa (ok_iload_n (by decide +kernel : decode cX4_add 22 = .ok (.iload_n 1, 1)) rfl rfl) ?_
  refine q_fa (ok_iastore (by decide +kernel : decode cX4_add 23 = .ok (.iastore, 1)) rfl) ?_
  refine q_fa (ok_aload_n (by decide +kernel : decode cX4_add 24 = .ok (.aload_n 0, 1)) rfl rfl) ?_
  refine q_fa (ok_get (by decide +kernel : decode cX4_add 25 = .ok (.getfield 21, 3)) rfl (rfl : vwCl[4]? = some (RX4, TX4, 4)) inX4 (by decide) g44) ?_
  refine q_fa (ok_aload_n (by decide +kernel : decode cX4_add 28 = .ok (.aload_n 0, 1)) rfl rfl) ?_
  refine q_fa (ok_get (by decide +kernel : decode cX4_add 29 = .ok (.getfield 27, 3)) rfl (rfl : vwCl[4]? = some (RX4, TX4, 4)) inX4 (by decide) g46) ?_
  refine q_fa (ok_iload_n (by decide +kernel : decode cX4_add 32 = .ok (.iload_n 2, 1)) rfl rfl) ?_
  refine q_fa (ok_iastore (by decide +kernel : decode cX4_add 33 = .ok (.iastore, 1)) rfl) ?_
  refine q_fa (ok_aload_n (by decide +kernel : decode cX4_add 34 = .ok (.aload_n 0, 1)) rfl rfl) ?_
  refine q_fa (ok_get (by decide +kernel : decode cX4_add 35 = .ok (.getfield 24, 3)) rfl (rfl : vwCl[4]? = some (RX4, TX4, 4)) inX4 (by decide) g45) ?_
  refine q_fa (ok_aload_n (by decide +kernel : decode cX4_add 38 = .ok (.aload_n 0, 1)) rfl rfl) ?_
  refine q_fa (ok_get (by decide +kernel : decode cX4_add 39 = .ok (.getfield 27, 3)) rfl (rfl : vwCl[4]? = some (RX4, TX4, 4)) inX4 (by decide) g46) ?_
  refine q_fa (ok_iload_n (by decide +kernel : decode cX4_add 42 = .ok (.iload_n 3, 1)) rfl rfl) ?_
  refine q_fa (ok_iastore (by decide +kernel : decode cX4_add 43 = .ok (.iastore, 1)) rfl) ?_
  refine q_fa (ok_aload_n (by decide +kernel : decode cX4_add 44 = .ok (.aload_n 0, 1)) rfl rfl) ?_
  refine q_fa (ok_dup (by decide +kernel : decode cX4_add 45 = .ok (.dup, 1)) rfl) ?_
  refine q_fa (ok_get (by decide +kernel : decode cX4_add 46 = .ok (.getfield 27, 3)) rfl (rfl : vwCl[4]? = some (RX4, TX4, 4)) inX4 (by decide) g46) ?_
  refine q_fa (ok_iconst (by decide +kernel : decode cX4_add 49 = .ok (.iconst 1, 1)) rfl (by decide +kernel)) ?_
  refine q_fa (ok_iadd (by decide +kernel : decode cX4_add 50 = .ok (.iadd, 1)) rfl) ?_
  refine q_fa (ok_putI tyX4 (by decide +kernel : decode cX4_add 51 = .ok (.putfield 27, 3)) rfl (rfl : vwCl[4]? = some (RX4, TX4, 4)) inX4 tyX4_ok nmX4 (by decide) g46 (Or.inl rfl) (by decide +kernel)) ?_
  refine q_fa (ok_aload_n (by decide +kernel : decode cX4_add 54 = .ok (.aload_n 0, 1)) rfl rfl) ?_
  refine q_fa (ok_get (by decide +kernel : decode cX4_add 55 = .ok (.getfield 27, 3)) rfl (rfl : vwCl[4]? = some (RX4, TX4, 4)) inX4 (by decide) g46) ?_
  refine q_fa (ok_iconst (by decide +kernel : decode cX4_add 58 = .ok (.iconst 1, 1)) rfl (by decide +kernel)) ?_
  refine q_fa (ok_isub (by decide +kernel : decode cX4_add 59 = .ok (.isub, 1)) rfl) ?_
  refine q_fa (ok_iret (by decide +kernel : decode cX4_add 60 = .ok (.ireturn, 1)) rfl) ?_
  exact q_fa0
theorem tX4_add_0 : tX4_add 0 = oAl 0 1 := Eq.trans rfl rfl
theorem tX4_add_1 : tX4_add 1 = oGet 4 3 4 := Eq.trans rfl rfl
theorem tX4_add_4 : tX4_add 4 = oAl 0 5 := Eq.trans rfl rfl
theorem tX4_add_5 : tX4_add 5 = oGet 4 0 8 := Eq.trans rfl rfl
theorem tX4_add_8 : tX4_add 8 = oAlen 9 := Eq.trans rfl rfl
theorem tX4_add_9 : tX4_add 9 = oIf2lt 14 12 := Eq.trans rfl rfl
theorem tX4_add_12 : tX4_add 12 = oK (.int (-1)) 13 := Eq.trans rfl rfl
theorem tX4_add_13 : tX4_add 13 = oIret := Eq.trans rfl rfl
theorem tX4_add_14 : tX4_add 14 = oAl 0 15 := Eq.trans rfl rfl
theorem tX4_add_15 : tX4_add 15 = oGet 4 0 18 := Eq.trans rfl rfl
theorem tX4_add_18 : tX4_add 18 = oAl 0 19 := Eq.trans rfl rfl
theorem tX4_add_19 : tX4_add 19 = oGet 4 3 22 := Eq.trans rfl rfl
theorem tX4_add_22 : tX4_add 22 = oIl 1 23 := Eq.trans rfl rfl
theorem tX4_add_23 : tX4_add 23 = oIast 24 := Eq.trans rfl rfl
theorem tX4_add_24 : tX4_add 24 = oAl 0 25 := Eq.trans rfl rfl
theorem tX4_add_25 : tX4_add 25 = oGet 4 1 28 := Eq.trans rfl rfl
theorem tX4_add_28 : tX4_add 28 = oAl 0 29 := Eq.trans rfl rfl
theorem tX4_add_29 : tX4_add 29 = oGet 4 3 32 := Eq.trans rfl rfl
theorem tX4_add_32 : tX4_add 32 = oIl 2 33 := Eq.trans rfl rfl
theorem tX4_add_33 : tX4_add 33 = oIast 34 := Eq.trans rfl rfl
theorem tX4_add_34 : tX4_add 34 = oAl 0 35 := Eq.trans rfl rfl
theorem tX4_add_35 : tX4_add 35 = oGet 4 2 38 := Eq.trans rfl rfl
theorem tX4_add_38 : tX4_add 38 = oAl 0 39 := Eq.trans rfl rfl
theorem tX4_add_39 : tX4_add 39 = oGet 4 3 42 := Eq.trans rfl rfl
theorem tX4_add_42 : tX4_add 42 = oIl 3 43 := Eq.trans rfl rfl
theorem tX4_add_43 : tX4_add 43 = oIast 44 := Eq.trans rfl rfl
theorem tX4_add_44 : tX4_add 44 = oAl 0 45 := Eq.trans rfl rfl
theorem tX4_add_45 : tX4_add 45 = oDup 46 := Eq.trans rfl rfl
theorem tX4_add_46 : tX4_add 46 = oGet 4 3 49 := Eq.trans rfl rfl
theorem tX4_add_49 : tX4_add 49 = oK (.int (nI 1)) 50 := Eq.trans rfl rfl
theorem tX4_add_50 : tX4_add 50 = oAdd 51 := Eq.trans rfl rfl
theorem tX4_add_51 : tX4_add 51 = oPutI 4 3 54 := Eq.trans rfl rfl
theorem tX4_add_54 : tX4_add 54 = oAl 0 55 := Eq.trans rfl rfl
theorem tX4_add_55 : tX4_add 55 = oGet 4 3 58 := Eq.trans rfl rfl
theorem tX4_add_58 : tX4_add 58 = oK (.int (nI 1)) 59 := Eq.trans rfl rfl
theorem tX4_add_59 : tX4_add 59 = oSub 60 := Eq.trans rfl rfl
theorem tX4_add_60 : tX4_add 60 = oIret := Eq.trans rfl rfl
def lX4_kindOf : List (Nat × qP) := [(0, oIl 1 1), (1, oIf1lt 21 4), (4, oIl 1 5), (5, oAl 0 6), (6, oGet 4 3 9), (9, oIf2ge 21 12), (12, oAl 0 13), (13, oGet 4 0 16), (16, oIl 1 17), (17, oIald 18), (18, oGo 22), (21, oK (.int (-1)) 22), (22, oIret)]
def tX4_kindOf : Nat → qP := q_tb lX4_kindOf
set_option maxRecDepth 20000 in
theorem sX4_kindOf : q_Snd mX4_kindOf tX4_kindOf := by
  refine q_tb_ok ?_
  unfold lX4_kindOf
  refine q_fa (ok_iload_n (by decide +kernel : decode cX4_kindOf 0 = .ok (.iload_n 1, 1)) rfl rfl) ?_
  refine q_fa (ok_if1lt (by decide +kernel : decode cX4_kindOf 1 = .ok (.ifCond .lt 20, 3)) (by decide) rfl) ?_
  refine q_fa (ok_iload_n (by decide +kernel : decode cX4_kindOf 4 = .ok (.iload_n 1, 1)) rfl rfl) ?_
  refine q_fa (ok_aload_n (by decide +kernel : decode cX4_kindOf 5 = .ok (.aload_n 0, 1)) rfl rfl) ?_
  refine q_fa (ok_get (by decide +kernel : decode cX4_kindOf 6 = .ok (.getfield 27, 3)) rfl (rfl : vwCl[4]? = some (RX4, TX4, 4)) inX4 (by decide) g46) ?_
  refine q_fa (ok_if2ge (by decide +kernel : decode cX4_kindOf 9 = .ok (.if_icmp .ge 12, 3)) (by decide) rfl) ?_
  refine q_fa (ok_aload_n (by decide +kernel : decode cX4_kindOf 12 = .ok (.aload_n 0, 1)) rfl rfl) ?_
  refine q_fa (ok_get (by decide +kernel : decode cX4_kindOf 13 = .ok (.getfield 15, 3)) rfl (rfl : vwCl[4]? = some (RX4, TX4, 4)) inX4 (by decide) g43) ?_
  refine q_fa (ok_iload_n (by decide +kernel : decode cX4_kindOf 16 = .ok (.iload_n 1, 1)) rfl rfl) ?_
  refine q_fa (ok_iaload (by decide +kernel : decode cX4_kindOf 17 = .ok (.iaload, 1)) rfl) ?_
  refine q_fa (ok_goto (by decide +kernel : decode cX4_kindOf 18 = .ok (.goto 4, 3)) (by decide)) ?_
  refine q_fa (ok_iconst (by decide +kernel : decode cX4_kindOf 21 = .ok (.iconst (-1), 1)) rfl (by decide +kernel)) ?_
  refine q_fa (ok_iret (by decide +kernel : decode cX4_kindOf 22 = .ok (.ireturn, 1)) rfl) ?_
  exact q_fa0
theorem tX4_kindOf_0 : tX4_kindOf 0 = oIl 1 1 := Eq.trans rfl rfl
theorem tX4_kindOf_1 : tX4_kindOf 1 = oIf1lt 21 4 := Eq.trans rfl rfl
theorem tX4_kindOf_4 : tX4_kindOf 4 = oIl 1 5 := Eq.trans rfl rfl
theorem tX4_kindOf_5 : tX4_kindOf 5 = oAl 0 6 := Eq.trans rfl rfl
theorem tX4_kindOf_6 : tX4_kindOf 6 = oGet 4 3 9 := Eq.trans rfl rfl
theorem tX4_kindOf_9 : tX4_kindOf 9 = oIf2ge 21 12 := Eq.trans rfl rfl
theorem tX4_kindOf_12 : tX4_kindOf 12 = oAl 0 13 := Eq.trans rfl rfl
theorem tX4_kindOf_13 : tX4_kindOf 13 = oGet 4 0 16 := Eq.trans rfl rfl
theorem tX4_kindOf_16 : tX4_kindOf 16 = oIl 1 17 := Eq.trans rfl rfl
theorem tX4_kindOf_17 : tX4_kindOf 17 = oIald 18 := Eq.trans rfl rfl
theorem tX4_kindOf_18 : tX4_kindOf 18 = oGo 22 := Eq.trans rfl rfl
theorem tX4_kindOf_21 : tX4_kindOf 21 = oK (.int (-1)) 22 := Eq.trans rfl rfl
theorem tX4_kindOf_22 : tX4_kindOf 22 = oIret := Eq.trans rfl rfl
def lX4_leftOf : List (Nat × qP) := [(0, oIl 1 1), (1, oIf1lt 21 4), (4, oIl 1 5), (5, oAl 0 6), (6, oGet 4 3 9), (9, oIf2ge 21 12), (12, oAl 0 13), (13, oGet 4 1 16), (16, oIl 1 17), (17, oIald 18), (18, oGo 22), (21, oK (.int (-1)) 22), (22, oIret)]
def tX4_leftOf : Nat → qP := q_tb lX4_leftOf
set_option maxRecDepth 20000 in
theorem sX4_leftOf : q_Snd mX4_leftOf tX4_leftOf := by
  refine q_tb_ok ?_
  unfold lX4_leftOf
  refine q_fa (ok_iload_n (by decide +kernel : decode cX4_leftOf 0 = .ok (.iload_n 1, 1)) rfl rfl) ?_
  refine q_fa (ok_if1lt (by decide +kernel : decode cX4_leftOf 1 = .ok (.ifCond .lt 20, 3)) (by decide) rfl) ?_
  refine q_fa (ok_iload_n (by decide +kernel : decode cX4_leftOf 4 = .ok (.iload_n 1, 1)) rfl rfl) ?_
  refine q_fa (ok_aload_n (by decide +kernel : decode cX4_leftOf 5 = .ok (.aload_n 0, 1)) rfl rfl) ?_
  refine q_fa (ok_get (by decide +kernel : decode cX4_leftOf 6 = .ok (.getfield 27, 3)) rfl (rfl : vwCl[4]? = some (RX4, TX4, 4)) inX4 (by decide) g46) ?_
  refine q_fa (ok_if2ge (by decide +kernel : decode cX4_leftOf 9 = .ok (.if_icmp .ge 12, 3)) (by decide) rfl) ?_
  refine q_fa (ok_aload_n (by decide +kernel : decode cX4_leftOf 12 = .ok (.aload_n 0, 1)) rfl rfl) ?_
  refine q_fa (ok_get (by decide +kernel : decode cX4_leftOf 13 = .ok (.getfield 21, 3)) rfl (rfl : vwCl[4]? = some (RX4, TX4, 4)) inX4 (by decide) g44) ?_
  refine q_fa (ok_iload_n (by decide +kernel : decode cX4_leftOf 16 = .ok (.iload_n 1, 1)) rfl rfl) ?_
  refine q_fa (ok_iaload (by decide +kernel : decode cX4_leftOf 17 = .ok (.iaload, 1)) rfl) ?_
  refine q_fa (ok_goto (by decide +kernel : decode cX4_leftOf 18 = .ok (.goto 4, 3)) (by decide)) ?_
  refine q_fa (ok_iconst (by decide +kernel : decode cX4_leftOf 21 = .ok (.iconst (-1), 1)) rfl (by decide +kernel)) ?_
  refine q_fa (ok_iret (by decide +kernel : decode cX4_leftOf 22 = .ok (.ireturn, 1)) rfl) ?_
  exact q_fa0
theorem tX4_leftOf_0 : tX4_leftOf 0 = oIl 1 1 := Eq.trans rfl rfl
theorem tX4_leftOf_1 : tX4_leftOf 1 = oIf1lt 21 4 := Eq.trans rfl rfl
theorem tX4_leftOf_4 : tX4_leftOf 4 = oIl 1 5 := Eq.trans rfl rfl
theorem tX4_leftOf_5 : tX4_leftOf 5 = oAl 0 6 := Eq.trans rfl rfl
theorem tX4_leftOf_6 : tX4_leftOf 6 = oGet 4 3 9 := Eq.trans rfl rfl
theorem tX4_leftOf_9 : tX4_leftOf 9 = oIf2ge 21 12 := Eq.trans rfl rfl
theorem tX4_leftOf_12 : tX4_leftOf 12 = oAl 0 13 := Eq.trans rfl rfl
theorem tX4_leftOf_13 : tX4_leftOf 13 = oGet 4 1 16 := Eq.trans rfl rfl
theorem tX4_leftOf_16 : tX4_leftOf 16 = oIl 1 17 := Eq.trans rfl rfl
theorem tX4_leftOf_17 : tX4_leftOf 17 = oIald 18 := Eq.trans rfl rfl
theorem tX4_leftOf_18 : tX4_leftOf 18 = oGo 22 := Eq.trans rfl rfl
theorem tX4_leftOf_21 : tX4_leftOf 21 = oK (.int (-1)) 22 := Eq.trans rfl rfl
theorem tX4_leftOf_22 : tX4_leftOf 22 = oIret := Eq.trans rfl rfl
def lX4_rightOf : List (Nat × qP) := [(0, oIl 1 1), (1, oIf1lt 21 4), (4, oIl 1 5), (5, oAl 0 6), (6, oGet 4 3 9), (9, oIf2ge 21 12), (12, oAl 0 13), (13, oGet 4 2 16), (16, oIl 1 17), (17, oIald 18), (18, oGo 22), (21, oK (.int (-1)) 22), (22, oIret)]
def tX4_rightOf : Nat → qP := q_tb lX4_rightOf
set_option maxRecDepth 20000 in
theorem sX4_rightOf : q_Snd mX4_rightOf tX4_rightOf := by
  refine q_tb_ok ?_
  unfold lX4_rightOf
  refine q_fa (ok_iload_n (by decide +kernel : decode cX4_rightOf 0 = .ok (.iload_n 1, 1)) rfl rfl) ?_
  refine q_fa (ok_if1lt (by decide +kernel : decode cX4_rightOf 1 = .ok (.ifCond .lt 20, 3)) (by decide) rfl) ?_
  refine q_fa (ok_iload_n (by decide +kernel : decode cX4_rightOf 4 = .ok (.iload_n 1, 1)) rfl rfl) ?_
  refine q_fa (ok_aload_n (by decide +kernel : decode cX4_rightOf 5 = .ok (.aload_n 0, 1)) rfl rfl) ?_
  refine q_fa (ok_get (by decide +kernel : decode cX4_rightOf 6 = .ok (.getfield 27, 3)) rfl (rfl : vwCl[4]? = some (RX4, TX4, 4)) inX4 (by decide) g46) ?_
  refine q_fa (ok_if2ge (by decide +kernel : decode cX4_rightOf 9 = .ok (.if_icmp .ge 12, 3)) (by decide) rfl) ?_
  refine q_fa (ok_aload_n (by decide +kernel : decode cX4_rightOf 12 = .ok (.aload_n 0, 1)) rfl rfl) ?_
  refine q_fa (ok_get (by decide +kernel : decode cX4_rightOf 13 = .ok (.getfield 24, 3)) rfl (rfl : vwCl[4]? = some (RX4, TX4, 4)) inX4 (by decide) g45) ?_
  refine q_fa (ok_iload_n (by decide +kernel : decode cX4_rightOf 16 = .ok (.iload_n 1, 1)) rfl rfl) ?_
  refine q_fa (ok_iaload (by decide +kernel : decode cX4_rightOf 17 = .ok (.iaload, 1)) rfl) ?_
  refine q_fa (ok_goto (by decide +kernel : decode cX4_rightOf 18 = .ok (.goto 4, 3)) (by decide)) ?_
  refine q_fa (ok_iconst (by decide +kernel : decode cX4_rightOf 21 = .ok (.iconst (-1), 1)) rfl (by decide +kernel)) ?_
  refine q_fa (ok_iret (by decide +kernel : decode cX4_rightOf 22 = .ok (.ireturn, 1)) rfl) ?_
  exact q_fa0
theorem tX4_rightOf_0 : tX4_rightOf 0 = oIl 1 1 := Eq.trans rfl rfl
theorem tX4_rightOf_1 : tX4_rightOf 1 = oIf1lt 21 4 := Eq.trans rfl rfl
theorem tX4_rightOf_4 : tX4_rightOf 4 = oIl 1 5 := Eq.trans rfl rfl
theorem tX4_rightOf_5 : tX4_rightOf 5 = oAl 0 6 := Eq.trans rfl rfl
theorem tX4_rightOf_6 : tX4_rightOf 6 = oGet 4 3 9 := Eq.trans rfl rfl
theorem tX4_rightOf_9 : tX4_rightOf 9 = oIf2ge 21 12 := Eq.trans rfl rfl
theorem tX4_rightOf_12 : tX4_rightOf 12 = oAl 0 13 := Eq.trans rfl rfl
theorem tX4_rightOf_13 : tX4_rightOf 13 = oGet 4 2 16 := Eq.trans rfl rfl
theorem tX4_rightOf_16 : tX4_rightOf 16 = oIl 1 17 := Eq.trans rfl rfl
theorem tX4_rightOf_17 : tX4_rightOf 17 = oIald 18 := Eq.trans rfl rfl
theorem tX4_rightOf_18 : tX4_rightOf 18 = oGo 22 := Eq.trans rfl rfl
theorem tX4_rightOf_21 : tX4_rightOf 21 = oK (.int (-1)) 22 := Eq.trans rfl rfl
theorem tX4_rightOf_22 : tX4_rightOf 22 = oIret := Eq.trans rfl rfl
def lX4_setRight : List (Nat × qP) := [(0, oIl 1 1), (1, oIf1lt 19 4), (4, oIl 1 5), (5, oAl 0 6), (6, oGet 4 3 9), (9, oIf2ge 19 12), (12, oAl 0 13), (13, oGet 4 2 16), (16, oIl 1 17), (17, oIl 2 18), (18, oIast 19), (19, oVret)]
def tX4_setRight : Nat → qP := q_tb lX4_setRight
set_option maxRecDepth 20000 in
theorem sX4_setRight : q_Snd mX4_setRight tX4_setRight := by
  refine q_tb_ok ?_
  unfold lX4_setRight
  refine q_fa (ok_iload_n (by decide +kernel : decode cX4_setRight 0 = .ok (.iload_n 1, 1)) rfl rfl) ?_
  refine q_fa (ok_if1lt (by decide +kernel : decode cX4_setRight 1 = .ok (.ifCond .lt 18, 3)) (by decide) rfl) ?_
  refine q_fa (ok_iload_n (by decide +kernel : decode cX4_setRight 4 = .ok (.iload_n 1, 1)) rfl rfl) ?_
  refine q_fa (ok_aload_n (by decide +kernel : decode cX4_setRight 5 = .ok (.aload_n 0, 1)) rfl rfl) ?_
  refine q_fa (ok_get (by decide +kernel : decode cX4_setRight 6 = .ok (.getfield 27, 3)) rfl (rfl : vwCl[4]? = some (RX4, TX4, 4)) inX4 (by decide) g46) ?_
  refine q_fa (ok_if2ge (by decide +kernel : decode cX4_setRight 9 = .ok (.if_icmp .ge 10, 3)) (by decide) rfl) ?_
  refine q_fa (ok_aload_n (by decide +kernel : decode cX4_setRight 12 = .ok (.aload_n 0, 1)) rfl rfl) ?_
  refine q_fa (ok_get (by decide +kernel : decode cX4_setRight 13 = .ok (.getfield 24, 3)) rfl (rfl : vwCl[4]? = some (RX4, TX4, 4)) inX4 (by decide) g45) ?_
  refine q_fa (ok_iload_n (by decide +kernel : decode cX4_setRight 16 = .ok (.iload_n 1, 1)) rfl rfl) ?_
  refine q_fa (ok_iload_n (by decide +kernel : decode cX4_setRight 17 = .ok (.iload_n 2, 1)) rfl rfl) ?_
  refine q_fa (ok_iastore (by decide +kernel : decode cX4_setRight 18 = .ok (.iastore, 1)) rfl) ?_
  refine q_fa (ok_vret (by decide +kernel : decode cX4_setRight 19 = .ok (.return_, 1)) rfl) ?_
  exact q_fa0
theorem tX4_setRight_0 : tX4_setRight 0 = oIl 1 1 := Eq.trans rfl rfl
theorem tX4_setRight_1 : tX4_setRight 1 = oIf1lt 19 4 := Eq.trans rfl rfl
theorem tX4_setRight_4 : tX4_setRight 4 = oIl 1 5 := Eq.trans rfl rfl
theorem tX4_setRight_5 : tX4_setRight 5 = oAl 0 6 := Eq.trans rfl rfl
theorem tX4_setRight_6 : tX4_setRight 6 = oGet 4 3 9 := Eq.trans rfl rfl
theorem tX4_setRight_9 : tX4_setRight 9 = oIf2ge 19 12 := Eq.trans rfl rfl
theorem tX4_setRight_12 : tX4_setRight 12 = oAl 0 13 := Eq.trans rfl rfl
theorem tX4_setRight_13 : tX4_setRight 13 = oGet 4 2 16 := Eq.trans rfl rfl
theorem tX4_setRight_16 : tX4_setRight 16 = oIl 1 17 := Eq.trans rfl rfl
theorem tX4_setRight_17 : tX4_setRight 17 = oIl 2 18 := Eq.trans rfl rfl
theorem tX4_setRight_18 : tX4_setRight 18 = oIast 19 := Eq.trans rfl rfl
theorem tX4_setRight_19 : tX4_setRight 19 = oVret := Eq.trans rfl rfl
def lX4_cost : List (Nat × qP) := [(0, oK (.int (nI 0)) 1), (1, oIs 1 2), (2, oK (.int (nI 0)) 3), (3, oIs 2 4), (4, oIl 2 5), (5, oAl 0 6), (6, oGet 4 3 9), (9, oIf2ge 30 12), (12, oIl 1 13), (13, oAl 0 14), (14, oGet 4 0 17), (17, oIl 2 18), (18, oIald 19), (19, oCallS mX11_ownCost 1 22), (22, oAdd 23), (23, oIs 1 24), (24, oInc 2 (nI 1) 27), (27, oGo 4), (30, oIl 1 31), (31, oIret)]
def tX4_cost : Nat → qP := q_tb lX4_cost
set_option maxRecDepth 20000 in
theorem sX4_cost : q_Snd mX4_cost tX4_cost := by
  refine q_tb_ok ?_
  unfold lX4_cost
  refine q_fa (ok_iconst (by decide +kernel : decode cX4_cost 0 = .ok (.iconst 0, 1)) rfl (by decide +kernel)) ?_
  refine q_fa (ok_istore_n (by decide +kernel : decode cX4_cost 1 = .ok (.istore_n 1, 1)) rfl rfl (by decide)) ?_
  refine q_fa (ok_iconst (by decide +kernel : decode cX4_cost 2 = .ok (.iconst 0, 1)) rfl (by decide +kernel)) ?_
  refine q_fa (ok_istore_n (by decide +kernel : decode cX4_cost 3 = .ok (.istore_n 2, 1)) rfl rfl (by decide)) ?_
  refine q_fa (ok_iload_n (by decide +kernel : decode cX4_cost 4 = .ok (.iload_n 2, 1)) rfl rfl) ?_
  refine q_fa (ok_aload_n (by decide +kernel : decode cX4_cost 5 = .ok (.aload_n 0, 1)) rfl rfl) ?_
  refine q_fa (ok_get (by decide +kernel : decode cX4_cost 6 = .ok (.getfield 27, 3)) rfl (rfl : vwCl[4]? = some (RX4, TX4, 4)) inX4 (by decide) g46) ?_
  refine q_fa (ok_if2ge (by decide +kernel : decode cX4_cost 9 = .ok (.if_icmp .ge 21, 3)) (by decide) rfl) ?_
  refine q_fa (ok_iload_n (by decide +kernel : decode cX4_cost 12 = .ok (.iload_n 1, 1)) rfl rfl) ?_
  refine q_fa (ok_aload_n (by decide +kernel : decode cX4_cost 13 = .ok (.aload_n 0, 1)) rfl rfl) ?_
  refine q_fa (ok_get (by decide +kernel : decode cX4_cost 14 = .ok (.getfield 15, 3)) rfl (rfl : vwCl[4]? = some (RX4, TX4, 4)) inX4 (by decide) g43) ?_
  refine q_fa (ok_iload_n (by decide +kernel : decode cX4_cost 17 = .ok (.iload_n 2, 1)) rfl rfl) ?_
  refine q_fa (ok_iaload (by decide +kernel : decode cX4_cost 18 = .ok (.iaload, 1)) rfl) ?_
  refine q_fa (ok_callSN (by decide +kernel : decode cX4_cost 19 = .ok (.invokestatic 31, 3)) rfl kX11_ownCost.1 kX11_ownCost.2.1 kX11_ownCost.2.2.1 kX11_ownCost.2.2.2.1 kX11_ownCost.2.2.2.2 g335 gn334) ?_
  refine q_fa (ok_iadd (by decide +kernel : decode cX4_cost 22 = .ok (.iadd, 1)) rfl) ?_
  refine q_fa (ok_istore_n (by decide +kernel : decode cX4_cost 23 = .ok (.istore_n 1, 1)) rfl rfl (by decide)) ?_
  refine q_fa (ok_iinc (by decide +kernel : decode cX4_cost 24 = .ok (.iinc 2 1, 3)) rfl (by decide +kernel) (by decide)) ?_
  refine q_fa (ok_goto (by decide +kernel : decode cX4_cost 27 = .ok (.goto (-23), 3)) (by decide)) ?_
  refine q_fa (ok_iload_n (by decide +kernel : decode cX4_cost 30 = .ok (.iload_n 1, 1)) rfl rfl) ?_
  refine q_fa (ok_iret (by decide +kernel : decode cX4_cost 31 = .ok (.ireturn, 1)) rfl) ?_
  exact q_fa0
theorem tX4_cost_0 : tX4_cost 0 = oK (.int (nI 0)) 1 := Eq.trans rfl rfl
theorem tX4_cost_1 : tX4_cost 1 = oIs 1 2 := Eq.trans rfl rfl
theorem tX4_cost_2 : tX4_cost 2 = oK (.int (nI 0)) 3 := Eq.trans rfl rfl
theorem tX4_cost_3 : tX4_cost 3 = oIs 2 4 := Eq.trans rfl rfl
theorem tX4_cost_4 : tX4_cost 4 = oIl 2 5 := Eq.trans rfl rfl
theorem tX4_cost_5 : tX4_cost 5 = oAl 0 6 := Eq.trans rfl rfl
theorem tX4_cost_6 : tX4_cost 6 = oGet 4 3 9 := Eq.trans rfl rfl
theorem tX4_cost_9 : tX4_cost 9 = oIf2ge 30 12 := Eq.trans rfl rfl
theorem tX4_cost_12 : tX4_cost 12 = oIl 1 13 := Eq.trans rfl rfl
theorem tX4_cost_13 : tX4_cost 13 = oAl 0 14 := Eq.trans rfl rfl
theorem tX4_cost_14 : tX4_cost 14 = oGet 4 0 17 := Eq.trans rfl rfl
theorem tX4_cost_17 : tX4_cost 17 = oIl 2 18 := Eq.trans rfl rfl
theorem tX4_cost_18 : tX4_cost 18 = oIald 19 := Eq.trans rfl rfl
theorem tX4_cost_19 : tX4_cost 19 = oCallS mX11_ownCost 1 22 := Eq.trans rfl rfl
theorem tX4_cost_22 : tX4_cost 22 = oAdd 23 := Eq.trans rfl rfl
theorem tX4_cost_23 : tX4_cost 23 = oIs 1 24 := Eq.trans rfl rfl
theorem tX4_cost_24 : tX4_cost 24 = oInc 2 (nI 1) 27 := Eq.trans rfl rfl
theorem tX4_cost_27 : tX4_cost 27 = oGo 4 := Eq.trans rfl rfl
theorem tX4_cost_30 : tX4_cost 30 = oIl 1 31 := Eq.trans rfl rfl
theorem tX4_cost_31 : tX4_cost 31 = oIret := Eq.trans rfl rfl
def lX4_become : List (Nat × qP) := [(0, oAl 0 1), (1, oK (.int (nI 0)) 2), (2, oPutI 4 3 5), (5, oAl 1 6), (6, oIl 2 7), (7, oAl 0 8), (8, oK (.int (nI 0)) 9), (9, oCallS mX4_copy 4 12), (12, oPop 13), (13, oVret)]
def tX4_become : Nat → qP := q_tb lX4_become
set_option maxRecDepth 20000 in
theorem sX4_become : q_Snd mX4_become tX4_become := by
  refine q_tb_ok ?_
  unfold lX4_become
  refine q_fa (ok_aload_n (by decide +kernel : decode cX4_become 0 = .ok (.aload_n 0, 1)) rfl rfl) ?_
  refine q_fa (ok_iconst (by decide +kernel : decode cX4_become 1 = .ok (.iconst 0, 1)) rfl (by decide +kernel)) ?_
  refine q_fa (ok_putI tyX4 (by decide +kernel : decode cX4_become 2 = .ok (.putfield 27, 3)) rfl (rfl : vwCl[4]? = some (RX4, TX4, 4)) inX4 tyX4_ok nmX4 (by decide) g46 (Or.inl rfl) (by decide +kernel)) ?_
  refine q_fa (ok_aload_n (by decide +kernel : decode cX4_become 5 = .ok (.aload_n 1, 1)) rfl rfl) ?_
  refine q_fa (ok_iload_n (by decide +kernel : decode cX4_become 6 = .ok (.iload_n 2, 1)) rfl rfl) ?_
  refine q_fa (ok_aload_n (by decide +kernel : decode cX4_become 7 = .ok (.aload_n 0, 1)) rfl rfl) ?_
  refine q_fa (ok_iconst (by decide +kernel : decode cX4_become 8 = .ok (.iconst 0, 1)) rfl (by decide +kernel)) ?_
  refine q_fa (ok_callS (by decide +kernel : decode cX4_become 9 = .ok (.invokestatic 35, 3)) rfl kX4_copy.1 kX4_copy.2.1 kX4_copy.2.2.1 kX4_copy.2.2.2.1 kX4_copy.2.2.2.2 g315 g314) ?_
  refine q_fa (ok_pop (by decide +kernel : decode cX4_become 12 = .ok (.pop, 1)) rfl) ?_
  refine q_fa (ok_vret (by decide +kernel : decode cX4_become 13 = .ok (.return_, 1)) rfl) ?_
  exact q_fa0
theorem tX4_become_0 : tX4_become 0 = oAl 0 1 := Eq.trans rfl rfl
theorem tX4_become_1 : tX4_become 1 = oK (.int (nI 0)) 2 := Eq.trans rfl rfl
theorem tX4_become_2 : tX4_become 2 = oPutI 4 3 5 := Eq.trans rfl rfl
theorem tX4_become_5 : tX4_become 5 = oAl 1 6 := Eq.trans rfl rfl
theorem tX4_become_6 : tX4_become 6 = oIl 2 7 := Eq.trans rfl rfl
theorem tX4_become_7 : tX4_become 7 = oAl 0 8 := Eq.trans rfl rfl
theorem tX4_become_8 : tX4_become 8 = oK (.int (nI 0)) 9 := Eq.trans rfl rfl
theorem tX4_become_9 : tX4_become 9 = oCallS mX4_copy 4 12 := Eq.trans rfl rfl
theorem tX4_become_12 : tX4_become 12 = oPop 13 := Eq.trans rfl rfl
theorem tX4_become_13 : tX4_become 13 = oVret := Eq.trans rfl rfl
def lX4_copy : List (Nat × qP) := [(0, oAl 0 1), (1, oIl 1 2), (2, oCallV 4 mX4_kindOf 1 5), (5, oIs 4 7), (7, oIl 4 9), (9, oK (.int (-1)) 10), (10, oIf2eq 19 13), (13, oIl 3 14), (14, oK (.int (nI 12)) 16), (16, oIf2lt 21 19), (19, oK (.int (-1)) 20), (20, oIret), (21, oIl 4 23), (23, oCallS mX11_isLeaf 1 26), (26, oIf1eq 42 29), (29, oAl 2 30), (30, oIl 4 32), (32, oAl 0 33), (33, oIl 1 34), (34, oCallV 4 mX4_leftOf 1 37), (37, oK (.int (nI 0)) 38), (38, oCallV 4 mX4_add 3 41), (41, oIret), (42, oAl 0 43), (43, oAl 0 44), (44, oIl 1 45), (45, oCallV 4 mX4_leftOf 1 48), (48, oAl 2 49), (49, oIl 3 50), (50, oK (.int (nI 1)) 51), (51, oAdd 52), (52, oCallS mX4_copy 4 55), (55, oIs 5 57), (57, oIl 4 59), (59, oCallS mX11_hasTwoParts 1 62), (62, oIf1eq 81 65), (65, oAl 0 66), (66, oAl 0 67), (67, oIl 1 68), (68, oCallV 4 mX4_rightOf 1 71), (71, oAl 2 72), (72, oIl 3 73), (73, oK (.int (nI 1)) 74), (74, oAdd 75), (75, oCallS mX4_copy 4 78), (78, oGo 82), (81, oK (.int (nI 0)) 82), (82, oIs 6 84), (84, oIl 5 86), (86, oIf1lt 94 89), (89, oIl 6 91), (91, oIf1ge 98 94), (94, oK (.int (-1)) 95), (95, oGo 108), (98, oAl 2 99), (99, oIl 4 101), (101, oIl 5 103), (103, oIl 6 105), (105, oCallV 4 mX4_add 3 108), (108, oIret)]
def tX4_copy : Nat → qP := q_tb lX4_copy
set_option maxRecDepth 20000 in
theorem sX4_copy : q_Snd mX4_copy tX4_copy := by
  refine q_tb_ok ?_
  unfold lX4_copy
  refine q_fa (ok_aload_n (by decide +kernel : decode cX4_copy 0 = .ok (.aload_n 0, 1)) rfl rfl) ?_
  refine q_fa (ok_iload_n (by decide +kernel : decode cX4_copy 1 = .ok (.iload_n 1, 1)) rfl rfl) ?_
  refine q_fa (ok_callV (by decide +kernel : decode cX4_copy 2 = .ok (.invokevirtual 39, 3)) rfl kX4_kindOf.1 kX4_kindOf.2.1 kX4_kindOf.2.2.1 kX4_kindOf.2.2.2.1 kX4_kindOf.2.2.2.2 (rfl : vwCl[4]? = some (RX4, TX4, 4)) g287 g288 g317) ?_
  refine q_fa (ok_istore (by decide +kernel : decode cX4_copy 5 = .ok (.istore 4, 2)) rfl (by decide)) ?_
  refine q_fa (ok_iload (by decide +kernel : decode cX4_copy 7 = .ok (.iload 4, 2)) rfl) ?_
  refine q_fa (ok_iconst (by decide +kernel : decode cX4_copy 9 = .ok (.iconst (-1), 1)) rfl (by decide +kernel)) ?_
  refine q_fa (ok_if2eq (by decide +kernel : decode cX4_copy 10 = .ok (.if_icmp .eq 9, 3)) (by decide) rfl) ?_
  refine q_fa (ok_iload_n (by decide +kernel : decode cX4_copy 13 = .ok (.iload_n 3, 1)) rfl rfl) ?_
  refine q_fa (ok_bipush (by decide +kernel : decode cX4_copy 14 = .ok (.bipush 12, 2)) rfl (by decide +kernel)) ?_
  refine q_fa (ok_if2lt (by decide +kernel : decode cX4_copy 16 = .ok (.if_icmp .lt 5, 3)) (by decide) rfl) ?_
  refine q_fa (ok_iconst (by decide +kernel : decode cX4_copy 19 = .ok (.iconst (-1), 1)) rfl (by decide +kernel)) ?_
  refine q_fa (ok_iret (by decide +kernel : decode cX4_copy 20 = .ok (.ireturn, 1)) rfl) ?_
  refine q_fa (ok_iload (by decide +kernel : decode cX4_copy 21 = .ok (.iload 4, 2)) rfl) ?_
  refine q_fa (ok_callSN (by decide +kernel : decode cX4_copy 23 = .ok (.invokestatic 42, 3)) rfl kX11_isLeaf.1 kX11_isLeaf.2.1 kX11_isLeaf.2.2.1 kX11_isLeaf.2.2.2.1 kX11_isLeaf.2.2.2.2 g319 gn318) ?_
  refine q_fa (ok_if1eq (by decide +kernel : decode cX4_copy 26 = .ok (.ifCond .eq 16, 3)) (by decide) rfl) ?_
  refine q_fa (ok_aload_n (by decide +kernel : decode cX4_copy 29 = .ok (.aload_n 2, 1)) rfl rfl) ?_
  refine q_fa (ok_iload (by decide +kernel : decode cX4_copy 30 = .ok (.iload 4, 2)) rfl) ?_
  refine q_fa (ok_aload_n (by decide +kernel : decode cX4_copy 32 = .ok (.aload_n 0, 1)) rfl rfl) ?_
  refine q_fa (ok_iload_n (by decide +kernel : decode cX4_copy 33 = .ok (.iload_n 1, 1)) rfl rfl) ?_
  refine q_fa (ok_callV (by decide +kernel : decode cX4_copy 34 = .ok (.invokevirtual 46, 3)) rfl kX4_leftOf.1 kX4_leftOf.2.1 kX4_leftOf.2.2.1 kX4_leftOf.2.2.2.1 kX4_leftOf.2.2.2.2 (rfl : vwCl[4]? = some (RX4, TX4, 4)) g322 g323 g321) ?_
  refine q_fa (ok_iconst (by decide +kernel : decode cX4_copy 37 = .ok (.iconst 0, 1)) rfl (by decide +kernel)) ?_
  refine q_fa (ok_callV (by decide +kernel : decode cX4_copy 38 = .ok (.invokevirtual 49, 3)) rfl kX4_add.1 kX4_add.2.1 kX4_add.2.2.1 kX4_add.2.2.2.1 kX4_add.2.2.2.2 (rfl : vwCl[4]? = some (RX4, TX4, 4)) g264 g265 g325) ?_
  refine q_fa (ok_iret (by decide +kernel : decode cX4_copy 41 = .ok (.ireturn, 1)) rfl) ?_
  refine q_fa (ok_aload_n (by decide +kernel : decode cX4_copy 42 = .ok (.aload_n 0, 1)) rfl rfl) ?_
  refine q_fa (ok_aload_n (by decide +kernel : decode cX4_copy 43 = .ok (.aload_n 0, 1)) rfl rfl) ?_
  refine q_fa (ok_iload_n (by decide +kernel : decode cX4_copy 44 = .ok (.iload_n 1, 1)) rfl rfl) ?_
  refine q_fa (ok_callV (by decide +kernel : decode cX4_copy 45 = .ok (.invokevirtual 46, 3)) rfl kX4_leftOf.1 kX4_leftOf.2.1 kX4_leftOf.2.2.1 kX4_leftOf.2.2.2.1 kX4_leftOf.2.2.2.2 (rfl : vwCl[4]? = some (RX4, TX4, 4)) g322 g323 g321) ?_
  refine q_fa (ok_aload_n (by decide +kernel : decode cX4_copy 48 = .ok (.aload_n 2, 1)) rfl rfl) ?_
  refine q_fa (ok_iload_n (by decide +kernel : decode cX4_copy 49 = .ok (.iload_n 3, 1)) rfl rfl) ?_
  refine q_fa (ok_iconst (by decide +kernel : decode cX4_copy 50 = .ok (.iconst 1, 1)) rfl (by decide +kernel)) ?_
  refine q_fa (ok_iadd (by decide +kernel : decode cX4_copy 51 = .ok (.iadd, 1)) rfl) ?_
  refine q_fa (ok_callS (by decide +kernel : decode cX4_copy 52 = .ok (.invokestatic 35, 3)) rfl kX4_copy.1 kX4_copy.2.1 kX4_copy.2.2.1 kX4_copy.2.2.2.1 kX4_copy.2.2.2.2 g315 g314) ?_
  refine q_fa (ok_istore (by decide +kernel : decode cX4_copy 55 = .ok (.istore 5, 2)) rfl (by decide)) ?_
  refine q_fa (ok_iload (by decide +kernel : decode cX4_copy 57 = .ok (.iload 4, 2)) rfl) ?_
  refine q_fa (ok_callSN (by decide +kernel : decode cX4_copy 59 = .ok (.invokestatic 53, 3)) rfl kX11_hasTwoParts.1 kX11_hasTwoParts.2.1 kX11_hasTwoParts.2.2.1 kX11_hasTwoParts.2.2.2.1 kX11_hasTwoParts.2.2.2.2 g327 gn326) ?_
  refine q_fa (ok_if1eq (by decide +kernel : decode cX4_copy 62 = .ok (.ifCond .eq 19, 3)) (by decide) rfl) ?_
  refine q_fa (ok_aload_n (by decide +kernel : decode cX4_copy 65 = .ok (.aload_n 0, 1)) rfl rfl) ?_
  refine q_fa (ok_aload_n (by decide +kernel : decode cX4_copy 66 = .ok (.aload_n 0, 1)) rfl rfl) ?_
  refine q_fa (ok_iload_n (by decide +kernel : decode cX4_copy 67 = .ok (.iload_n 1, 1)) rfl rfl) ?_
  refine q_fa (ok_callV (by decide +kernel : decode cX4_copy 68 = .ok (.invokevirtual 56, 3)) rfl kX4_rightOf.1 kX4_rightOf.2.1 kX4_rightOf.2.2.1 kX4_rightOf.2.2.2.1 kX4_rightOf.2.2.2.2 (rfl : vwCl[4]? = some (RX4, TX4, 4)) g291 g292 g329) ?_
  refine q_fa (ok_aload_n (by decide +kernel : decode cX4_copy 71 = .ok (.aload_n 2, 1)) rfl rfl) ?_
  refine q_fa (ok_iload_n (by decide +kernel : decode cX4_copy 72 = .ok (.iload_n 3, 1)) rfl rfl) ?_
  refine q_fa (ok_iconst (by decide +kernel : decode cX4_copy 73 = .ok (.iconst 1, 1)) rfl (by decide +kernel)) ?_
  refine q_fa (ok_iadd (by decide +kernel : decode cX4_copy 74 = .ok (.iadd, 1)) rfl) ?_
  refine q_fa (ok_callS (by decide +kernel : decode cX4_copy 75 = .ok (.invokestatic 35, 3)) rfl kX4_copy.1 kX4_copy.2.1 kX4_copy.2.2.1 kX4_copy.2.2.2.1 kX4_copy.2.2.2.2 g315 g314) ?_
  refine q_fa (ok_goto (by decide +kernel : decode cX4_copy 78 = .ok (.goto 4, 3)) (by decide)) ?_
  refine q_fa (ok_iconst (by decide +kernel : decode cX4_copy 81 = .ok (.iconst 0, 1)) rfl (by decide +kernel)) ?_
  refine q_fa (ok_istore (by decide +kernel : decode cX4_copy 82 = .ok (.istore 6, 2)) rfl (by decide)) ?_
  refine q_fa (ok_iload (by decide +kernel : decode cX4_copy 84 = .ok (.iload 5, 2)) rfl) ?_
  refine q_fa (ok_if1lt (by decide +kernel : decode cX4_copy 86 = .ok (.ifCond .lt 8, 3)) (by decide) rfl) ?_
  refine q_fa (ok_iload (by decide +kernel : decode cX4_copy 89 = .ok (.iload 6, 2)) rfl) ?_
  refine q_fa (ok_if1ge (by decide +kernel : decode cX4_copy 91 = .ok (.ifCond .ge 7, 3)) (by decide) rfl) ?_
  refine q_fa (ok_iconst (by decide +kernel : decode cX4_copy 94 = .ok (.iconst (-1), 1)) rfl (by decide +kernel)) ?_
  refine q_fa (ok_goto (by decide +kernel : decode cX4_copy 95 = .ok (.goto 13, 3)) (by decide)) ?_
  refine q_fa (ok_aload_n (by decide +kernel : decode cX4_copy 98 = .ok (.aload_n 2, 1)) rfl rfl) ?_
  refine q_fa (ok_iload (by decide +kernel : decode cX4_copy 99 = .ok (.iload 4, 2)) rfl) ?_
  refine q_fa (ok_iload (by decide +kernel : decode cX4_copy 101 = .ok (.iload 5, 2)) rfl) ?_
  refine q_fa (ok_iload (by decide +kernel : decode cX4_copy 103 = .ok (.iload 6, 2)) rfl) ?_
  refine q_fa (ok_callV (by decide +kernel : decode cX4_copy 105 = .ok (.invokevirtual 49, 3)) rfl kX4_add.1 kX4_add.2.1 kX4_add.2.2.1 kX4_add.2.2.2.1 kX4_add.2.2.2.2 (rfl : vwCl[4]? = some (RX4, TX4, 4)) g264 g265 g325) ?_
  refine q_fa (ok_iret (by decide +kernel : decode cX4_copy 108 = .ok (.ireturn, 1)) rfl) ?_
  exact q_fa0
theorem tX4_copy_0 : tX4_copy 0 = oAl 0 1 := Eq.trans rfl rfl
theorem tX4_copy_1 : tX4_copy 1 = oIl 1 2 := Eq.trans rfl rfl
theorem tX4_copy_2 : tX4_copy 2 = oCallV 4 mX4_kindOf 1 5 := Eq.trans rfl rfl
theorem tX4_copy_5 : tX4_copy 5 = oIs 4 7 := Eq.trans rfl rfl
theorem tX4_copy_7 : tX4_copy 7 = oIl 4 9 := Eq.trans rfl rfl
theorem tX4_copy_9 : tX4_copy 9 = oK (.int (-1)) 10 := Eq.trans rfl rfl
theorem tX4_copy_10 : tX4_copy 10 = oIf2eq 19 13 := Eq.trans rfl rfl
theorem tX4_copy_13 : tX4_copy 13 = oIl 3 14 := Eq.trans rfl rfl
theorem tX4_copy_14 : tX4_copy 14 = oK (.int (nI 12)) 16 := Eq.trans rfl rfl
theorem tX4_copy_16 : tX4_copy 16 = oIf2lt 21 19 := Eq.trans rfl rfl
theorem tX4_copy_19 : tX4_copy 19 = oK (.int (-1)) 20 := Eq.trans rfl rfl
theorem tX4_copy_20 : tX4_copy 20 = oIret := Eq.trans rfl rfl
theorem tX4_copy_21 : tX4_copy 21 = oIl 4 23 := Eq.trans rfl rfl
theorem tX4_copy_23 : tX4_copy 23 = oCallS mX11_isLeaf 1 26 := Eq.trans rfl rfl
theorem tX4_copy_26 : tX4_copy 26 = oIf1eq 42 29 := Eq.trans rfl rfl
theorem tX4_copy_29 : tX4_copy 29 = oAl 2 30 := Eq.trans rfl rfl
theorem tX4_copy_30 : tX4_copy 30 = oIl 4 32 := Eq.trans rfl rfl
theorem tX4_copy_32 : tX4_copy 32 = oAl 0 33 := Eq.trans rfl rfl
theorem tX4_copy_33 : tX4_copy 33 = oIl 1 34 := Eq.trans rfl rfl
theorem tX4_copy_34 : tX4_copy 34 = oCallV 4 mX4_leftOf 1 37 := Eq.trans rfl rfl
theorem tX4_copy_37 : tX4_copy 37 = oK (.int (nI 0)) 38 := Eq.trans rfl rfl
theorem tX4_copy_38 : tX4_copy 38 = oCallV 4 mX4_add 3 41 := Eq.trans rfl rfl
theorem tX4_copy_41 : tX4_copy 41 = oIret := Eq.trans rfl rfl
theorem tX4_copy_42 : tX4_copy 42 = oAl 0 43 := Eq.trans rfl rfl
theorem tX4_copy_43 : tX4_copy 43 = oAl 0 44 := Eq.trans rfl rfl
theorem tX4_copy_44 : tX4_copy 44 = oIl 1 45 := Eq.trans rfl rfl
theorem tX4_copy_45 : tX4_copy 45 = oCallV 4 mX4_leftOf 1 48 := Eq.trans rfl rfl
theorem tX4_copy_48 : tX4_copy 48 = oAl 2 49 := Eq.trans rfl rfl
theorem tX4_copy_49 : tX4_copy 49 = oIl 3 50 := Eq.trans rfl rfl
theorem tX4_copy_50 : tX4_copy 50 = oK (.int (nI 1)) 51 := Eq.trans rfl rfl
theorem tX4_copy_51 : tX4_copy 51 = oAdd 52 := Eq.trans rfl rfl
theorem tX4_copy_52 : tX4_copy 52 = oCallS mX4_copy 4 55 := Eq.trans rfl rfl
theorem tX4_copy_55 : tX4_copy 55 = oIs 5 57 := Eq.trans rfl rfl
theorem tX4_copy_57 : tX4_copy 57 = oIl 4 59 := Eq.trans rfl rfl
theorem tX4_copy_59 : tX4_copy 59 = oCallS mX11_hasTwoParts 1 62 := Eq.trans rfl rfl
theorem tX4_copy_62 : tX4_copy 62 = oIf1eq 81 65 := Eq.trans rfl rfl
theorem tX4_copy_65 : tX4_copy 65 = oAl 0 66 := Eq.trans rfl rfl
theorem tX4_copy_66 : tX4_copy 66 = oAl 0 67 := Eq.trans rfl rfl
theorem tX4_copy_67 : tX4_copy 67 = oIl 1 68 := Eq.trans rfl rfl
theorem tX4_copy_68 : tX4_copy 68 = oCallV 4 mX4_rightOf 1 71 := Eq.trans rfl rfl
theorem tX4_copy_71 : tX4_copy 71 = oAl 2 72 := Eq.trans rfl rfl
theorem tX4_copy_72 : tX4_copy 72 = oIl 3 73 := Eq.trans rfl rfl
theorem tX4_copy_73 : tX4_copy 73 = oK (.int (nI 1)) 74 := Eq.trans rfl rfl
theorem tX4_copy_74 : tX4_copy 74 = oAdd 75 := Eq.trans rfl rfl
theorem tX4_copy_75 : tX4_copy 75 = oCallS mX4_copy 4 78 := Eq.trans rfl rfl
theorem tX4_copy_78 : tX4_copy 78 = oGo 82 := Eq.trans rfl rfl
theorem tX4_copy_81 : tX4_copy 81 = oK (.int (nI 0)) 82 := Eq.trans rfl rfl
theorem tX4_copy_82 : tX4_copy 82 = oIs 6 84 := Eq.trans rfl rfl
theorem tX4_copy_84 : tX4_copy 84 = oIl 5 86 := Eq.trans rfl rfl
theorem tX4_copy_86 : tX4_copy 86 = oIf1lt 94 89 := Eq.trans rfl rfl
theorem tX4_copy_89 : tX4_copy 89 = oIl 6 91 := Eq.trans rfl rfl
theorem tX4_copy_91 : tX4_copy 91 = oIf1ge 98 94 := Eq.trans rfl rfl
theorem tX4_copy_94 : tX4_copy 94 = oK (.int (-1)) 95 := Eq.trans rfl rfl
theorem tX4_copy_95 : tX4_copy 95 = oGo 108 := Eq.trans rfl rfl
theorem tX4_copy_98 : tX4_copy 98 = oAl 2 99 := Eq.trans rfl rfl
theorem tX4_copy_99 : tX4_copy 99 = oIl 4 101 := Eq.trans rfl rfl
theorem tX4_copy_101 : tX4_copy 101 = oIl 5 103 := Eq.trans rfl rfl
theorem tX4_copy_103 : tX4_copy 103 = oIl 6 105 := Eq.trans rfl rfl
theorem tX4_copy_105 : tX4_copy 105 = oCallV 4 mX4_add 3 108 := Eq.trans rfl rfl
theorem tX4_copy_108 : tX4_copy 108 = oIret := Eq.trans rfl rfl
end
