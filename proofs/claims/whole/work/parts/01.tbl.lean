/-- a private method of a class that the tables say can be made, by its rows of tables_1 -/
def lw_okq (q : MethodName × Nat) : Prop := (q.1.cls ≠ "java/lang/invoke/MethodHandle" ∧ q.1.cls ≠ "java/lang/invoke/VarHandle") ∧ Cond.instantiable q.1.cls q.2 ∈ tables_1 ∧ Cond.privateMethod q.1 ∈ tables_1 ∧ Cond.instanceMethod q.1 ∈ tables_1
theorem lw_p0 : lw_okq (⟨"IllTonight", "refuse", "(I)I"⟩, 19) := ⟨⟨by decide +kernel, by decide +kernel⟩, List.mem_of_getElem? (i := 21) (by decide +kernel), List.mem_of_getElem? (i := 402) (by decide +kernel), List.mem_of_getElem? (i := 403) (by decide +kernel)⟩
theorem lw_p1 : lw_okq (⟨"IllTonight", "accept", "(I)I"⟩, 19) := ⟨⟨by decide +kernel, by decide +kernel⟩, List.mem_of_getElem? (i := 21) (by decide +kernel), List.mem_of_getElem? (i := 406) (by decide +kernel), List.mem_of_getElem? (i := 407) (by decide +kernel)⟩
theorem lw_p2 : lw_okq (⟨"IllTonight$Law", "run", "(II[I[I)I"⟩, 3) := ⟨⟨by decide +kernel, by decide +kernel⟩, List.mem_of_getElem? (i := 471) (by decide +kernel), List.mem_of_getElem? (i := 469) (by decide +kernel), List.mem_of_getElem? (i := 470) (by decide +kernel)⟩
theorem lw_p3 : lw_okq (⟨"IllTonight", "putFour", "(I)V"⟩, 19) := ⟨⟨by decide +kernel, by decide +kernel⟩, List.mem_of_getElem? (i := 21) (by decide +kernel), List.mem_of_getElem? (i := 513) (by decide +kernel), List.mem_of_getElem? (i := 514) (by decide +kernel)⟩
theorem lw_p4 : lw_okq (⟨"IllTonight$Reader", "cut", "([II)V"⟩, 12) := ⟨⟨by decide +kernel, by decide +kernel⟩, List.mem_of_getElem? (i := 118) (by decide +kernel), List.mem_of_getElem? (i := 537) (by decide +kernel), List.mem_of_getElem? (i := 538) (by decide +kernel)⟩
theorem lw_p5 : lw_okq (⟨"IllTonight$Reader", "addToken", "([IIII)V"⟩, 12) := ⟨⟨by decide +kernel, by decide +kernel⟩, List.mem_of_getElem? (i := 118) (by decide +kernel), List.mem_of_getElem? (i := 544) (by decide +kernel), List.mem_of_getElem? (i := 545) (by decide +kernel)⟩
theorem lw_p6 : lw_okq (⟨"IllTonight$Reader", "readClause", "()Z"⟩, 12) := ⟨⟨by decide +kernel, by decide +kernel⟩, List.mem_of_getElem? (i := 118) (by decide +kernel), List.mem_of_getElem? (i := 596) (by decide +kernel), List.mem_of_getElem? (i := 597) (by decide +kernel)⟩
theorem lw_p7 : lw_okq (⟨"IllTonight$Reader", "take", "()V"⟩, 12) := ⟨⟨by decide +kernel, by decide +kernel⟩, List.mem_of_getElem? (i := 118) (by decide +kernel), List.mem_of_getElem? (i := 600) (by decide +kernel), List.mem_of_getElem? (i := 601) (by decide +kernel)⟩
theorem lw_p8 : lw_okq (⟨"IllTonight$Reader", "readSum", "(IZ)Z"⟩, 12) := ⟨⟨by decide +kernel, by decide +kernel⟩, List.mem_of_getElem? (i := 118) (by decide +kernel), List.mem_of_getElem? (i := 604) (by decide +kernel), List.mem_of_getElem? (i := 605) (by decide +kernel)⟩
theorem lw_p9 : lw_okq (⟨"IllTonight$Reader", "readPiece", "(I)Z"⟩, 12) := ⟨⟨by decide +kernel, by decide +kernel⟩, List.mem_of_getElem? (i := 118) (by decide +kernel), List.mem_of_getElem? (i := 608) (by decide +kernel), List.mem_of_getElem? (i := 609) (by decide +kernel)⟩
theorem lw_p10 : lw_okq (⟨"IllTonight$Reader", "sees", "(I)Z"⟩, 12) := ⟨⟨by decide +kernel, by decide +kernel⟩, List.mem_of_getElem? (i := 118) (by decide +kernel), List.mem_of_getElem? (i := 612) (by decide +kernel), List.mem_of_getElem? (i := 613) (by decide +kernel)⟩
theorem lw_p11 : lw_okq (⟨"IllTonight$Reader", "addStep", "(II)V"⟩, 12) := ⟨⟨by decide +kernel, by decide +kernel⟩, List.mem_of_getElem? (i := 118) (by decide +kernel), List.mem_of_getElem? (i := 616) (by decide +kernel), List.mem_of_getElem? (i := 617) (by decide +kernel)⟩
theorem lw_p12 : lw_okq (⟨"IllTonight$Reader", "readTest", "(IZ)Z"⟩, 12) := ⟨⟨by decide +kernel, by decide +kernel⟩, List.mem_of_getElem? (i := 118) (by decide +kernel), List.mem_of_getElem? (i := 620) (by decide +kernel), List.mem_of_getElem? (i := 621) (by decide +kernel)⟩
theorem lw_p13 : lw_okq (⟨"IllTonight$Reader", "readPlain", "(I)Z"⟩, 12) := ⟨⟨by decide +kernel, by decide +kernel⟩, List.mem_of_getElem? (i := 118) (by decide +kernel), List.mem_of_getElem? (i := 624) (by decide +kernel), List.mem_of_getElem? (i := 625) (by decide +kernel)⟩
theorem lw_p14 : lw_okq (⟨"IllTonight$Reader", "comparison", "()I"⟩, 12) := ⟨⟨by decide +kernel, by decide +kernel⟩, List.mem_of_getElem? (i := 118) (by decide +kernel), List.mem_of_getElem? (i := 628) (by decide +kernel), List.mem_of_getElem? (i := 629) (by decide +kernel)⟩
theorem lw_p15 : lw_okq (⟨"IllTonight", "renew", "(I)V"⟩, 19) := ⟨⟨by decide +kernel, by decide +kernel⟩, List.mem_of_getElem? (i := 21) (by decide +kernel), List.mem_of_getElem? (i := 674) (by decide +kernel), List.mem_of_getElem? (i := 675) (by decide +kernel)⟩
def lw_privs_1 : List (MethodName × Nat) := [(⟨"IllTonight", "refuse", "(I)I"⟩, 19), (⟨"IllTonight", "accept", "(I)I"⟩, 19), (⟨"IllTonight$Law", "run", "(II[I[I)I"⟩, 3), (⟨"IllTonight", "putFour", "(I)V"⟩, 19), (⟨"IllTonight$Reader", "cut", "([II)V"⟩, 12), (⟨"IllTonight$Reader", "addToken", "([IIII)V"⟩, 12), (⟨"IllTonight$Reader", "readClause", "()Z"⟩, 12), (⟨"IllTonight$Reader", "take", "()V"⟩, 12), (⟨"IllTonight$Reader", "readSum", "(IZ)Z"⟩, 12), (⟨"IllTonight$Reader", "readPiece", "(I)Z"⟩, 12), (⟨"IllTonight$Reader", "sees", "(I)Z"⟩, 12), (⟨"IllTonight$Reader", "addStep", "(II)V"⟩, 12), (⟨"IllTonight$Reader", "readTest", "(IZ)Z"⟩, 12), (⟨"IllTonight$Reader", "readPlain", "(I)Z"⟩, 12), (⟨"IllTonight$Reader", "comparison", "()I"⟩, 12), (⟨"IllTonight", "renew", "(I)V"⟩, 19)]
theorem lw_r1 : ∀ q ∈ lw_privs_1, lw_okq q := List.forall_mem_cons.mpr ⟨lw_p0, List.forall_mem_cons.mpr ⟨lw_p1, List.forall_mem_cons.mpr ⟨lw_p2, List.forall_mem_cons.mpr ⟨lw_p3, List.forall_mem_cons.mpr ⟨lw_p4, List.forall_mem_cons.mpr ⟨lw_p5, List.forall_mem_cons.mpr ⟨lw_p6, List.forall_mem_cons.mpr ⟨lw_p7, List.forall_mem_cons.mpr ⟨lw_p8, List.forall_mem_cons.mpr ⟨lw_p9, List.forall_mem_cons.mpr ⟨lw_p10, List.forall_mem_cons.mpr ⟨lw_p11, List.forall_mem_cons.mpr ⟨lw_p12, List.forall_mem_cons.mpr ⟨lw_p13, List.forall_mem_cons.mpr ⟨lw_p14, List.forall_mem_cons.mpr ⟨lw_p15, fun _ h => absurd h List.not_mem_nil⟩⟩⟩⟩⟩⟩⟩⟩⟩⟩⟩⟩⟩⟩⟩⟩
theorem lw_p16 : lw_okq (⟨"IllTonight$Nights", "begin", "(LIllTonight$Casting;I)V"⟩, 10) := ⟨⟨by decide +kernel, by decide +kernel⟩, List.mem_of_getElem? (i := 204) (by decide +kernel), List.mem_of_getElem? (i := 696) (by decide +kernel), List.mem_of_getElem? (i := 697) (by decide +kernel)⟩
theorem lw_p17 : lw_okq (⟨"IllTonight$Nights", "solve", "(I)J"⟩, 10) := ⟨⟨by decide +kernel, by decide +kernel⟩, List.mem_of_getElem? (i := 204) (by decide +kernel), List.mem_of_getElem? (i := 703) (by decide +kernel), List.mem_of_getElem? (i := 704) (by decide +kernel)⟩
theorem lw_p18 : lw_okq (⟨"IllTonight$Nights", "open", "()V"⟩, 10) := ⟨⟨by decide +kernel, by decide +kernel⟩, List.mem_of_getElem? (i := 204) (by decide +kernel), List.mem_of_getElem? (i := 707) (by decide +kernel), List.mem_of_getElem? (i := 708) (by decide +kernel)⟩
theorem lw_p19 : lw_okq (⟨"IllTonight$Nights", "rest", "(I)V"⟩, 10) := ⟨⟨by decide +kernel, by decide +kernel⟩, List.mem_of_getElem? (i := 204) (by decide +kernel), List.mem_of_getElem? (i := 718) (by decide +kernel), List.mem_of_getElem? (i := 719) (by decide +kernel)⟩
theorem lw_p20 : lw_okq (⟨"IllTonight$Nights", "play", "(I)V"⟩, 10) := ⟨⟨by decide +kernel, by decide +kernel⟩, List.mem_of_getElem? (i := 204) (by decide +kernel), List.mem_of_getElem? (i := 723) (by decide +kernel), List.mem_of_getElem? (i := 724) (by decide +kernel)⟩
theorem lw_p21 : lw_okq (⟨"IllTonight$Nights", "roomBeside", "(I)I"⟩, 10) := ⟨⟨by decide +kernel, by decide +kernel⟩, List.mem_of_getElem? (i := 204) (by decide +kernel), List.mem_of_getElem? (i := 727) (by decide +kernel), List.mem_of_getElem? (i := 728) (by decide +kernel)⟩
theorem lw_p22 : lw_okq (⟨"IllTonight$Nights", "weight", "(II)J"⟩, 10) := ⟨⟨by decide +kernel, by decide +kernel⟩, List.mem_of_getElem? (i := 204) (by decide +kernel), List.mem_of_getElem? (i := 735) (by decide +kernel), List.mem_of_getElem? (i := 736) (by decide +kernel)⟩
theorem lw_p23 : lw_okq (⟨"IllTonight$Nights", "spread", "(IIJ)V"⟩, 10) := ⟨⟨by decide +kernel, by decide +kernel⟩, List.mem_of_getElem? (i := 204) (by decide +kernel), List.mem_of_getElem? (i := 739) (by decide +kernel), List.mem_of_getElem? (i := 740) (by decide +kernel)⟩
theorem lw_p24 : lw_okq (⟨"IllTonight$Nights", "better", "(JJ)J"⟩, 10) := ⟨⟨by decide +kernel, by decide +kernel⟩, List.mem_of_getElem? (i := 204) (by decide +kernel), List.mem_of_getElem? (i := 743) (by decide +kernel), List.mem_of_getElem? (i := 744) (by decide +kernel)⟩
theorem lw_p25 : lw_okq (⟨"IllTonight$House", "begin", "(LIllTonight$Casting;)V"⟩, 7) := ⟨⟨by decide +kernel, by decide +kernel⟩, List.mem_of_getElem? (i := 246) (by decide +kernel), List.mem_of_getElem? (i := 762) (by decide +kernel), List.mem_of_getElem? (i := 763) (by decide +kernel)⟩
theorem lw_p26 : lw_okq (⟨"IllTonight$House", "closeFrom", "(II)V"⟩, 7) := ⟨⟨by decide +kernel, by decide +kernel⟩, List.mem_of_getElem? (i := 246) (by decide +kernel), List.mem_of_getElem? (i := 767) (by decide +kernel), List.mem_of_getElem? (i := 768) (by decide +kernel)⟩
theorem lw_p27 : lw_okq (⟨"IllTonight$House", "fills", "(I)Z"⟩, 7) := ⟨⟨by decide +kernel, by decide +kernel⟩, List.mem_of_getElem? (i := 246) (by decide +kernel), List.mem_of_getElem? (i := 771) (by decide +kernel), List.mem_of_getElem? (i := 772) (by decide +kernel)⟩
theorem lw_p28 : lw_okq (⟨"IllTonight$House", "rest", "(I)V"⟩, 7) := ⟨⟨by decide +kernel, by decide +kernel⟩, List.mem_of_getElem? (i := 246) (by decide +kernel), List.mem_of_getElem? (i := 775) (by decide +kernel), List.mem_of_getElem? (i := 776) (by decide +kernel)⟩
theorem lw_p29 : lw_okq (⟨"IllTonight$House", "play", "(I)V"⟩, 7) := ⟨⟨by decide +kernel, by decide +kernel⟩, List.mem_of_getElem? (i := 246) (by decide +kernel), List.mem_of_getElem? (i := 780) (by decide +kernel), List.mem_of_getElem? (i := 781) (by decide +kernel)⟩
theorem lw_p30 : lw_okq (⟨"IllTonight$House", "give", "([JII[J)V"⟩, 7) := ⟨⟨by decide +kernel, by decide +kernel⟩, List.mem_of_getElem? (i := 246) (by decide +kernel), List.mem_of_getElem? (i := 784) (by decide +kernel), List.mem_of_getElem? (i := 785) (by decide +kernel)⟩
theorem lw_p31 : lw_okq (⟨"IllTonight$House", "join", "(I[J)V"⟩, 7) := ⟨⟨by decide +kernel, by decide +kernel⟩, List.mem_of_getElem? (i := 246) (by decide +kernel), List.mem_of_getElem? (i := 790) (by decide +kernel), List.mem_of_getElem? (i := 791) (by decide +kernel)⟩
def lw_privs_2 : List (MethodName × Nat) := [(⟨"IllTonight$Nights", "begin", "(LIllTonight$Casting;I)V"⟩, 10), (⟨"IllTonight$Nights", "solve", "(I)J"⟩, 10), (⟨"IllTonight$Nights", "open", "()V"⟩, 10), (⟨"IllTonight$Nights", "rest", "(I)V"⟩, 10), (⟨"IllTonight$Nights", "play", "(I)V"⟩, 10), (⟨"IllTonight$Nights", "roomBeside", "(I)I"⟩, 10), (⟨"IllTonight$Nights", "weight", "(II)J"⟩, 10), (⟨"IllTonight$Nights", "spread", "(IIJ)V"⟩, 10), (⟨"IllTonight$Nights", "better", "(JJ)J"⟩, 10), (⟨"IllTonight$House", "begin", "(LIllTonight$Casting;)V"⟩, 7), (⟨"IllTonight$House", "closeFrom", "(II)V"⟩, 7), (⟨"IllTonight$House", "fills", "(I)Z"⟩, 7), (⟨"IllTonight$House", "rest", "(I)V"⟩, 7), (⟨"IllTonight$House", "play", "(I)V"⟩, 7), (⟨"IllTonight$House", "give", "([JII[J)V"⟩, 7), (⟨"IllTonight$House", "join", "(I[J)V"⟩, 7)]
theorem lw_r2 : ∀ q ∈ lw_privs_2, lw_okq q := List.forall_mem_cons.mpr ⟨lw_p16, List.forall_mem_cons.mpr ⟨lw_p17, List.forall_mem_cons.mpr ⟨lw_p18, List.forall_mem_cons.mpr ⟨lw_p19, List.forall_mem_cons.mpr ⟨lw_p20, List.forall_mem_cons.mpr ⟨lw_p21, List.forall_mem_cons.mpr ⟨lw_p22, List.forall_mem_cons.mpr ⟨lw_p23, List.forall_mem_cons.mpr ⟨lw_p24, List.forall_mem_cons.mpr ⟨lw_p25, List.forall_mem_cons.mpr ⟨lw_p26, List.forall_mem_cons.mpr ⟨lw_p27, List.forall_mem_cons.mpr ⟨lw_p28, List.forall_mem_cons.mpr ⟨lw_p29, List.forall_mem_cons.mpr ⟨lw_p30, List.forall_mem_cons.mpr ⟨lw_p31, fun _ h => absurd h List.not_mem_nil⟩⟩⟩⟩⟩⟩⟩⟩⟩⟩⟩⟩⟩⟩⟩⟩
theorem lw_p32 : lw_okq (⟨"IllTonight", "isChanged", "(I)Z"⟩, 19) := ⟨⟨by decide +kernel, by decide +kernel⟩, List.mem_of_getElem? (i := 21) (by decide +kernel), List.mem_of_getElem? (i := 812) (by decide +kernel), List.mem_of_getElem? (i := 813) (by decide +kernel)⟩
theorem lw_p33 : lw_okq (⟨"IllTonight", "linkFrom", "(I)I"⟩, 19) := ⟨⟨by decide +kernel, by decide +kernel⟩, List.mem_of_getElem? (i := 21) (by decide +kernel), List.mem_of_getElem? (i := 820) (by decide +kernel), List.mem_of_getElem? (i := 821) (by decide +kernel)⟩
theorem lw_p34 : lw_okq (⟨"IllTonight", "nextLink", "(II)I"⟩, 19) := ⟨⟨by decide +kernel, by decide +kernel⟩, List.mem_of_getElem? (i := 21) (by decide +kernel), List.mem_of_getElem? (i := 824) (by decide +kernel), List.mem_of_getElem? (i := 825) (by decide +kernel)⟩
theorem lw_p35 : lw_okq (⟨"IllTonight$Nights", "followed", "(IIIJ)J"⟩, 10) := ⟨⟨by decide +kernel, by decide +kernel⟩, List.mem_of_getElem? (i := 204) (by decide +kernel), List.mem_of_getElem? (i := 836) (by decide +kernel), List.mem_of_getElem? (i := 837) (by decide +kernel)⟩
theorem lw_p36 : lw_okq (⟨"IllTonight", "firstWrong", "()I"⟩, 19) := ⟨⟨by decide +kernel, by decide +kernel⟩, List.mem_of_getElem? (i := 21) (by decide +kernel), List.mem_of_getElem? (i := 852) (by decide +kernel), List.mem_of_getElem? (i := 853) (by decide +kernel)⟩
theorem lw_p37 : lw_okq (⟨"IllTonight", "fitsAhead", "(II)Z"⟩, 19) := ⟨⟨by decide +kernel, by decide +kernel⟩, List.mem_of_getElem? (i := 21) (by decide +kernel), List.mem_of_getElem? (i := 856) (by decide +kernel), List.mem_of_getElem? (i := 857) (by decide +kernel)⟩
theorem lw_p38 : lw_okq (⟨"IllTonight", "toldCost", "()I"⟩, 19) := ⟨⟨by decide +kernel, by decide +kernel⟩, List.mem_of_getElem? (i := 21) (by decide +kernel), List.mem_of_getElem? (i := 860) (by decide +kernel), List.mem_of_getElem? (i := 861) (by decide +kernel)⟩
theorem lw_p39 : lw_okq (⟨"IllTonight$House", "isClosing", "(I)Z"⟩, 7) := ⟨⟨by decide +kernel, by decide +kernel⟩, List.mem_of_getElem? (i := 246) (by decide +kernel), List.mem_of_getElem? (i := 882) (by decide +kernel), List.mem_of_getElem? (i := 883) (by decide +kernel)⟩
theorem lw_p40 : lw_okq (⟨"IllTonight$Nights", "meanFrom", "(IJLIllTonight$State;)J"⟩, 10) := ⟨⟨by decide +kernel, by decide +kernel⟩, List.mem_of_getElem? (i := 204) (by decide +kernel), List.mem_of_getElem? (i := 930) (by decide +kernel), List.mem_of_getElem? (i := 931) (by decide +kernel)⟩
theorem lw_p41 : lw_okq (⟨"IllTonight", "makePlans", "(I)V"⟩, 19) := ⟨⟨by decide +kernel, by decide +kernel⟩, List.mem_of_getElem? (i := 21) (by decide +kernel), List.mem_of_getElem? (i := 953) (by decide +kernel), List.mem_of_getElem? (i := 954) (by decide +kernel)⟩
theorem lw_p42 : lw_okq (⟨"IllTonight$House", "opensFrom", "(II)Z"⟩, 7) := ⟨⟨by decide +kernel, by decide +kernel⟩, List.mem_of_getElem? (i := 246) (by decide +kernel), List.mem_of_getElem? (i := 976) (by decide +kernel), List.mem_of_getElem? (i := 977) (by decide +kernel)⟩
theorem lw_p43 : lw_okq (⟨"IllTonight$Season", "drawIll", "(LIllTonight$State;)I"⟩, 7) := ⟨⟨by decide +kernel, by decide +kernel⟩, List.mem_of_getElem? (i := 299) (by decide +kernel), List.mem_of_getElem? (i := 1012) (by decide +kernel), List.mem_of_getElem? (i := 1013) (by decide +kernel)⟩
theorem lw_p44 : lw_okq (⟨"IllTonight$Season", "passWeek", "(LIllTonight$State;IJLIllTonight$Casting;)V"⟩, 7) := ⟨⟨by decide +kernel, by decide +kernel⟩, List.mem_of_getElem? (i := 299) (by decide +kernel), List.mem_of_getElem? (i := 1023) (by decide +kernel), List.mem_of_getElem? (i := 1024) (by decide +kernel)⟩
theorem lw_p45 : lw_okq (⟨"IllTonightModel", "tell", "(I)I"⟩, 55) := ⟨⟨by decide +kernel, by decide +kernel⟩, List.mem_of_getElem? (i := 1059) (by decide +kernel), List.mem_of_getElem? (i := 1253) (by decide +kernel), List.mem_of_getElem? (i := 1254) (by decide +kernel)⟩
theorem lw_p46 : lw_okq (⟨"IllTonightModel", "isActor", "(I)Z"⟩, 55) := ⟨⟨by decide +kernel, by decide +kernel⟩, List.mem_of_getElem? (i := 1059) (by decide +kernel), List.mem_of_getElem? (i := 1283) (by decide +kernel), List.mem_of_getElem? (i := 1284) (by decide +kernel)⟩
theorem lw_p47 : lw_okq (⟨"IllTonightModel", "change", "(II)I"⟩, 55) := ⟨⟨by decide +kernel, by decide +kernel⟩, List.mem_of_getElem? (i := 1059) (by decide +kernel), List.mem_of_getElem? (i := 1287) (by decide +kernel), List.mem_of_getElem? (i := 1288) (by decide +kernel)⟩
def lw_privs_3 : List (MethodName × Nat) := [(⟨"IllTonight", "isChanged", "(I)Z"⟩, 19), (⟨"IllTonight", "linkFrom", "(I)I"⟩, 19), (⟨"IllTonight", "nextLink", "(II)I"⟩, 19), (⟨"IllTonight$Nights", "followed", "(IIIJ)J"⟩, 10), (⟨"IllTonight", "firstWrong", "()I"⟩, 19), (⟨"IllTonight", "fitsAhead", "(II)Z"⟩, 19), (⟨"IllTonight", "toldCost", "()I"⟩, 19), (⟨"IllTonight$House", "isClosing", "(I)Z"⟩, 7), (⟨"IllTonight$Nights", "meanFrom", "(IJLIllTonight$State;)J"⟩, 10), (⟨"IllTonight", "makePlans", "(I)V"⟩, 19), (⟨"IllTonight$House", "opensFrom", "(II)Z"⟩, 7), (⟨"IllTonight$Season", "drawIll", "(LIllTonight$State;)I"⟩, 7), (⟨"IllTonight$Season", "passWeek", "(LIllTonight$State;IJLIllTonight$Casting;)V"⟩, 7), (⟨"IllTonightModel", "tell", "(I)I"⟩, 55), (⟨"IllTonightModel", "isActor", "(I)Z"⟩, 55), (⟨"IllTonightModel", "change", "(II)I"⟩, 55)]
theorem lw_r3 : ∀ q ∈ lw_privs_3, lw_okq q := List.forall_mem_cons.mpr ⟨lw_p32, List.forall_mem_cons.mpr ⟨lw_p33, List.forall_mem_cons.mpr ⟨lw_p34, List.forall_mem_cons.mpr ⟨lw_p35, List.forall_mem_cons.mpr ⟨lw_p36, List.forall_mem_cons.mpr ⟨lw_p37, List.forall_mem_cons.mpr ⟨lw_p38, List.forall_mem_cons.mpr ⟨lw_p39, List.forall_mem_cons.mpr ⟨lw_p40, List.forall_mem_cons.mpr ⟨lw_p41, List.forall_mem_cons.mpr ⟨lw_p42, List.forall_mem_cons.mpr ⟨lw_p43, List.forall_mem_cons.mpr ⟨lw_p44, List.forall_mem_cons.mpr ⟨lw_p45, List.forall_mem_cons.mpr ⟨lw_p46, List.forall_mem_cons.mpr ⟨lw_p47, fun _ h => absurd h List.not_mem_nil⟩⟩⟩⟩⟩⟩⟩⟩⟩⟩⟩⟩⟩⟩⟩⟩
theorem lw_p48 : lw_okq (⟨"IllTonightModel", "was", "(I)I"⟩, 55) := ⟨⟨by decide +kernel, by decide +kernel⟩, List.mem_of_getElem? (i := 1059) (by decide +kernel), List.mem_of_getElem? (i := 1291) (by decide +kernel), List.mem_of_getElem? (i := 1292) (by decide +kernel)⟩
theorem lw_p49 : lw_okq (⟨"IllTonightModel", "isPart", "(I)Z"⟩, 55) := ⟨⟨by decide +kernel, by decide +kernel⟩, List.mem_of_getElem? (i := 1059) (by decide +kernel), List.mem_of_getElem? (i := 1299) (by decide +kernel), List.mem_of_getElem? (i := 1300) (by decide +kernel)⟩
theorem lw_p50 : lw_okq (⟨"IllTonightModel", "areActors", "(I)Z"⟩, 55) := ⟨⟨by decide +kernel, by decide +kernel⟩, List.mem_of_getElem? (i := 1059) (by decide +kernel), List.mem_of_getElem? (i := 1315) (by decide +kernel), List.mem_of_getElem? (i := 1316) (by decide +kernel)⟩
theorem lw_p51 : lw_okq (⟨"IllTonightModel", "four", "(I)V"⟩, 55) := ⟨⟨by decide +kernel, by decide +kernel⟩, List.mem_of_getElem? (i := 1059) (by decide +kernel), List.mem_of_getElem? (i := 1336) (by decide +kernel), List.mem_of_getElem? (i := 1337) (by decide +kernel)⟩
theorem lw_p52 : lw_okq (⟨"IllTonightModel", "begin", "()V"⟩, 55) := ⟨⟨by decide +kernel, by decide +kernel⟩, List.mem_of_getElem? (i := 1059) (by decide +kernel), List.mem_of_getElem? (i := 1352) (by decide +kernel), List.mem_of_getElem? (i := 1353) (by decide +kernel)⟩
theorem lw_p53 : lw_okq (⟨"IllTonightModel", "next", "()V"⟩, 55) := ⟨⟨by decide +kernel, by decide +kernel⟩, List.mem_of_getElem? (i := 1059) (by decide +kernel), List.mem_of_getElem? (i := 1356) (by decide +kernel), List.mem_of_getElem? (i := 1357) (by decide +kernel)⟩
theorem lw_p54 : lw_okq (⟨"IllTonightModel", "readClause", "()V"⟩, 55) := ⟨⟨by decide +kernel, by decide +kernel⟩, List.mem_of_getElem? (i := 1059) (by decide +kernel), List.mem_of_getElem? (i := 1372) (by decide +kernel), List.mem_of_getElem? (i := 1373) (by decide +kernel)⟩
theorem lw_p55 : lw_okq (⟨"IllTonightModel", "isWord", "(J)Z"⟩, 55) := ⟨⟨by decide +kernel, by decide +kernel⟩, List.mem_of_getElem? (i := 1059) (by decide +kernel), List.mem_of_getElem? (i := 1376) (by decide +kernel), List.mem_of_getElem? (i := 1377) (by decide +kernel)⟩
theorem lw_p56 : lw_okq (⟨"IllTonightModel", "must", "(Z)V"⟩, 55) := ⟨⟨by decide +kernel, by decide +kernel⟩, List.mem_of_getElem? (i := 1059) (by decide +kernel), List.mem_of_getElem? (i := 1380) (by decide +kernel), List.mem_of_getElem? (i := 1381) (by decide +kernel)⟩
theorem lw_p57 : lw_okq (⟨"IllTonightModel", "readExpression", "(Z)V"⟩, 55) := ⟨⟨by decide +kernel, by decide +kernel⟩, List.mem_of_getElem? (i := 1059) (by decide +kernel), List.mem_of_getElem? (i := 1384) (by decide +kernel), List.mem_of_getElem? (i := 1385) (by decide +kernel)⟩
theorem lw_p58 : lw_okq (⟨"IllTonightModel", "readPlain", "()I"⟩, 55) := ⟨⟨by decide +kernel, by decide +kernel⟩, List.mem_of_getElem? (i := 1059) (by decide +kernel), List.mem_of_getElem? (i := 1388) (by decide +kernel), List.mem_of_getElem? (i := 1389) (by decide +kernel)⟩
theorem lw_p59 : lw_okq (⟨"IllTonightModel", "push", "(II)V"⟩, 55) := ⟨⟨by decide +kernel, by decide +kernel⟩, List.mem_of_getElem? (i := 1059) (by decide +kernel), List.mem_of_getElem? (i := 1393) (by decide +kernel), List.mem_of_getElem? (i := 1394) (by decide +kernel)⟩
theorem lw_p60 : lw_okq (⟨"IllTonightModel", "isSign", "(I)Z"⟩, 55) := ⟨⟨by decide +kernel, by decide +kernel⟩, List.mem_of_getElem? (i := 1059) (by decide +kernel), List.mem_of_getElem? (i := 1397) (by decide +kernel), List.mem_of_getElem? (i := 1398) (by decide +kernel)⟩
theorem lw_p61 : lw_okq (⟨"IllTonightModel", "openBracket", "(I)V"⟩, 55) := ⟨⟨by decide +kernel, by decide +kernel⟩, List.mem_of_getElem? (i := 1059) (by decide +kernel), List.mem_of_getElem? (i := 1401) (by decide +kernel), List.mem_of_getElem? (i := 1402) (by decide +kernel)⟩
theorem lw_p62 : lw_okq (⟨"IllTonightModel", "readPart", "()I"⟩, 55) := ⟨⟨by decide +kernel, by decide +kernel⟩, List.mem_of_getElem? (i := 1059) (by decide +kernel), List.mem_of_getElem? (i := 1405) (by decide +kernel), List.mem_of_getElem? (i := 1406) (by decide +kernel)⟩
theorem lw_p63 : lw_okq (⟨"IllTonightModel", "partAt", "()I"⟩, 55) := ⟨⟨by decide +kernel, by decide +kernel⟩, List.mem_of_getElem? (i := 1059) (by decide +kernel), List.mem_of_getElem? (i := 1409) (by decide +kernel), List.mem_of_getElem? (i := 1410) (by decide +kernel)⟩
def lw_privs_4 : List (MethodName × Nat) := [(⟨"IllTonightModel", "was", "(I)I"⟩, 55), (⟨"IllTonightModel", "isPart", "(I)Z"⟩, 55), (⟨"IllTonightModel", "areActors", "(I)Z"⟩, 55), (⟨"IllTonightModel", "four", "(I)V"⟩, 55), (⟨"IllTonightModel", "begin", "()V"⟩, 55), (⟨"IllTonightModel", "next", "()V"⟩, 55), (⟨"IllTonightModel", "readClause", "()V"⟩, 55), (⟨"IllTonightModel", "isWord", "(J)Z"⟩, 55), (⟨"IllTonightModel", "must", "(Z)V"⟩, 55), (⟨"IllTonightModel", "readExpression", "(Z)V"⟩, 55), (⟨"IllTonightModel", "readPlain", "()I"⟩, 55), (⟨"IllTonightModel", "push", "(II)V"⟩, 55), (⟨"IllTonightModel", "isSign", "(I)Z"⟩, 55), (⟨"IllTonightModel", "openBracket", "(I)V"⟩, 55), (⟨"IllTonightModel", "readPart", "()I"⟩, 55), (⟨"IllTonightModel", "partAt", "()I"⟩, 55)]
theorem lw_r4 : ∀ q ∈ lw_privs_4, lw_okq q := List.forall_mem_cons.mpr ⟨lw_p48, List.forall_mem_cons.mpr ⟨lw_p49, List.forall_mem_cons.mpr ⟨lw_p50, List.forall_mem_cons.mpr ⟨lw_p51, List.forall_mem_cons.mpr ⟨lw_p52, List.forall_mem_cons.mpr ⟨lw_p53, List.forall_mem_cons.mpr ⟨lw_p54, List.forall_mem_cons.mpr ⟨lw_p55, List.forall_mem_cons.mpr ⟨lw_p56, List.forall_mem_cons.mpr ⟨lw_p57, List.forall_mem_cons.mpr ⟨lw_p58, List.forall_mem_cons.mpr ⟨lw_p59, List.forall_mem_cons.mpr ⟨lw_p60, List.forall_mem_cons.mpr ⟨lw_p61, List.forall_mem_cons.mpr ⟨lw_p62, List.forall_mem_cons.mpr ⟨lw_p63, fun _ h => absurd h List.not_mem_nil⟩⟩⟩⟩⟩⟩⟩⟩⟩⟩⟩⟩⟩⟩⟩⟩
theorem lw_p64 : lw_okq (⟨"IllTonightModel", "leaf", "(ZII)V"⟩, 55) := ⟨⟨by decide +kernel, by decide +kernel⟩, List.mem_of_getElem? (i := 1059) (by decide +kernel), List.mem_of_getElem? (i := 1414) (by decide +kernel), List.mem_of_getElem? (i := 1415) (by decide +kernel)⟩
theorem lw_p65 : lw_okq (⟨"IllTonightModel", "emit", "(II)V"⟩, 55) := ⟨⟨by decide +kernel, by decide +kernel⟩, List.mem_of_getElem? (i := 1059) (by decide +kernel), List.mem_of_getElem? (i := 1418) (by decide +kernel), List.mem_of_getElem? (i := 1419) (by decide +kernel)⟩
theorem lw_p66 : lw_okq (⟨"IllTonightModel", "behindSum", "(Z)I"⟩, 55) := ⟨⟨by decide +kernel, by decide +kernel⟩, List.mem_of_getElem? (i := 1059) (by decide +kernel), List.mem_of_getElem? (i := 1422) (by decide +kernel), List.mem_of_getElem? (i := 1423) (by decide +kernel)⟩
theorem lw_p67 : lw_okq (⟨"IllTonightModel", "settle", "(I)V"⟩, 55) := ⟨⟨by decide +kernel, by decide +kernel⟩, List.mem_of_getElem? (i := 1059) (by decide +kernel), List.mem_of_getElem? (i := 1429) (by decide +kernel), List.mem_of_getElem? (i := 1430) (by decide +kernel)⟩
theorem lw_p68 : lw_okq (⟨"IllTonightModel", "inner", "()I"⟩, 55) := ⟨⟨by decide +kernel, by decide +kernel⟩, List.mem_of_getElem? (i := 1059) (by decide +kernel), List.mem_of_getElem? (i := 1433) (by decide +kernel), List.mem_of_getElem? (i := 1434) (by decide +kernel)⟩
theorem lw_p69 : lw_okq (⟨"IllTonightModel", "isCompared", "()Z"⟩, 55) := ⟨⟨by decide +kernel, by decide +kernel⟩, List.mem_of_getElem? (i := 1059) (by decide +kernel), List.mem_of_getElem? (i := 1437) (by decide +kernel), List.mem_of_getElem? (i := 1438) (by decide +kernel)⟩
theorem lw_p70 : lw_okq (⟨"IllTonightModel", "behindTest", "()I"⟩, 55) := ⟨⟨by decide +kernel, by decide +kernel⟩, List.mem_of_getElem? (i := 1059) (by decide +kernel), List.mem_of_getElem? (i := 1445) (by decide +kernel), List.mem_of_getElem? (i := 1446) (by decide +kernel)⟩
theorem lw_p71 : lw_okq (⟨"IllTonightModel", "asIs", "()V"⟩, 55) := ⟨⟨by decide +kernel, by decide +kernel⟩, List.mem_of_getElem? (i := 1059) (by decide +kernel), List.mem_of_getElem? (i := 1461) (by decide +kernel), List.mem_of_getElem? (i := 1462) (by decide +kernel)⟩
theorem lw_p72 : lw_okq (⟨"IllTonightModel", "find", "()V"⟩, 55) := ⟨⟨by decide +kernel, by decide +kernel⟩, List.mem_of_getElem? (i := 1059) (by decide +kernel), List.mem_of_getElem? (i := 1465) (by decide +kernel), List.mem_of_getElem? (i := 1466) (by decide +kernel)⟩
theorem lw_p73 : lw_okq (⟨"IllTonightModel", "tells", "(IIIII)I"⟩, 55) := ⟨⟨by decide +kernel, by decide +kernel⟩, List.mem_of_getElem? (i := 1059) (by decide +kernel), List.mem_of_getElem? (i := 1469) (by decide +kernel), List.mem_of_getElem? (i := 1470) (by decide +kernel)⟩
theorem lw_p74 : lw_okq (⟨"IllTonightModel", "isSo", "(I)Z"⟩, 55) := ⟨⟨by decide +kernel, by decide +kernel⟩, List.mem_of_getElem? (i := 1059) (by decide +kernel), List.mem_of_getElem? (i := 1473) (by decide +kernel), List.mem_of_getElem? (i := 1474) (by decide +kernel)⟩
theorem lw_p75 : lw_okq (⟨"IllTonightModel", "reckonAll", "(II)V"⟩, 55) := ⟨⟨by decide +kernel, by decide +kernel⟩, List.mem_of_getElem? (i := 1059) (by decide +kernel), List.mem_of_getElem? (i := 1477) (by decide +kernel), List.mem_of_getElem? (i := 1478) (by decide +kernel)⟩
theorem lw_p76 : lw_okq (⟨"IllTonightModel", "reckon", "(IJJ)J"⟩, 55) := ⟨⟨by decide +kernel, by decide +kernel⟩, List.mem_of_getElem? (i := 1059) (by decide +kernel), List.mem_of_getElem? (i := 1481) (by decide +kernel), List.mem_of_getElem? (i := 1482) (by decide +kernel)⟩
theorem lw_p77 : lw_okq (⟨"IllTonightModel", "lay", "()V"⟩, 55) := ⟨⟨by decide +kernel, by decide +kernel⟩, List.mem_of_getElem? (i := 1059) (by decide +kernel), List.mem_of_getElem? (i := 1492) (by decide +kernel), List.mem_of_getElem? (i := 1493) (by decide +kernel)⟩
theorem lw_p78 : lw_okq (⟨"IllTonightModel", "free", "()V"⟩, 55) := ⟨⟨by decide +kernel, by decide +kernel⟩, List.mem_of_getElem? (i := 1059) (by decide +kernel), List.mem_of_getElem? (i := 1496) (by decide +kernel), List.mem_of_getElem? (i := 1497) (by decide +kernel)⟩
theorem lw_p79 : lw_okq (⟨"IllTonightModel", "fill", "(I)V"⟩, 55) := ⟨⟨by decide +kernel, by decide +kernel⟩, List.mem_of_getElem? (i := 1059) (by decide +kernel), List.mem_of_getElem? (i := 1500) (by decide +kernel), List.mem_of_getElem? (i := 1501) (by decide +kernel)⟩
def lw_privs_5 : List (MethodName × Nat) := [(⟨"IllTonightModel", "leaf", "(ZII)V"⟩, 55), (⟨"IllTonightModel", "emit", "(II)V"⟩, 55), (⟨"IllTonightModel", "behindSum", "(Z)I"⟩, 55), (⟨"IllTonightModel", "settle", "(I)V"⟩, 55), (⟨"IllTonightModel", "inner", "()I"⟩, 55), (⟨"IllTonightModel", "isCompared", "()Z"⟩, 55), (⟨"IllTonightModel", "behindTest", "()I"⟩, 55), (⟨"IllTonightModel", "asIs", "()V"⟩, 55), (⟨"IllTonightModel", "find", "()V"⟩, 55), (⟨"IllTonightModel", "tells", "(IIIII)I"⟩, 55), (⟨"IllTonightModel", "isSo", "(I)Z"⟩, 55), (⟨"IllTonightModel", "reckonAll", "(II)V"⟩, 55), (⟨"IllTonightModel", "reckon", "(IJJ)J"⟩, 55), (⟨"IllTonightModel", "lay", "()V"⟩, 55), (⟨"IllTonightModel", "free", "()V"⟩, 55), (⟨"IllTonightModel", "fill", "(I)V"⟩, 55)]
theorem lw_r5 : ∀ q ∈ lw_privs_5, lw_okq q := List.forall_mem_cons.mpr ⟨lw_p64, List.forall_mem_cons.mpr ⟨lw_p65, List.forall_mem_cons.mpr ⟨lw_p66, List.forall_mem_cons.mpr ⟨lw_p67, List.forall_mem_cons.mpr ⟨lw_p68, List.forall_mem_cons.mpr ⟨lw_p69, List.forall_mem_cons.mpr ⟨lw_p70, List.forall_mem_cons.mpr ⟨lw_p71, List.forall_mem_cons.mpr ⟨lw_p72, List.forall_mem_cons.mpr ⟨lw_p73, List.forall_mem_cons.mpr ⟨lw_p74, List.forall_mem_cons.mpr ⟨lw_p75, List.forall_mem_cons.mpr ⟨lw_p76, List.forall_mem_cons.mpr ⟨lw_p77, List.forall_mem_cons.mpr ⟨lw_p78, List.forall_mem_cons.mpr ⟨lw_p79, fun _ h => absurd h List.not_mem_nil⟩⟩⟩⟩⟩⟩⟩⟩⟩⟩⟩⟩⟩⟩⟩⟩
theorem lw_p80 : lw_okq (⟨"IllTonightModel", "may", "(II)Z"⟩, 55) := ⟨⟨by decide +kernel, by decide +kernel⟩, List.mem_of_getElem? (i := 1059) (by decide +kernel), List.mem_of_getElem? (i := 1508) (by decide +kernel), List.mem_of_getElem? (i := 1509) (by decide +kernel)⟩
theorem lw_p81 : lw_okq (⟨"IllTonightModel", "reach", "(III)V"⟩, 55) := ⟨⟨by decide +kernel, by decide +kernel⟩, List.mem_of_getElem? (i := 1059) (by decide +kernel), List.mem_of_getElem? (i := 1512) (by decide +kernel), List.mem_of_getElem? (i := 1513) (by decide +kernel)⟩
theorem lw_p82 : lw_okq (⟨"IllTonightModel", "canDouble", "(II)Z"⟩, 55) := ⟨⟨by decide +kernel, by decide +kernel⟩, List.mem_of_getElem? (i := 1059) (by decide +kernel), List.mem_of_getElem? (i := 1520) (by decide +kernel), List.mem_of_getElem? (i := 1521) (by decide +kernel)⟩
theorem lw_p83 : lw_okq (⟨"IllTonightModel", "isPlayed", "()Z"⟩, 55) := ⟨⟨by decide +kernel, by decide +kernel⟩, List.mem_of_getElem? (i := 1059) (by decide +kernel), List.mem_of_getElem? (i := 1528) (by decide +kernel), List.mem_of_getElem? (i := 1529) (by decide +kernel)⟩
theorem lw_p84 : lw_okq (⟨"IllTonightModel", "findFirst", "(I)Z"⟩, 55) := ⟨⟨by decide +kernel, by decide +kernel⟩, List.mem_of_getElem? (i := 1059) (by decide +kernel), List.mem_of_getElem? (i := 1532) (by decide +kernel), List.mem_of_getElem? (i := 1533) (by decide +kernel)⟩
theorem lw_p85 : lw_okq (⟨"IllTonightModel", "findNth", "(II)Z"⟩, 55) := ⟨⟨by decide +kernel, by decide +kernel⟩, List.mem_of_getElem? (i := 1059) (by decide +kernel), List.mem_of_getElem? (i := 1536) (by decide +kernel), List.mem_of_getElem? (i := 1537) (by decide +kernel)⟩
theorem lw_p86 : lw_okq (⟨"IllTonightModel", "usually", "(I)I"⟩, 55) := ⟨⟨by decide +kernel, by decide +kernel⟩, List.mem_of_getElem? (i := 1059) (by decide +kernel), List.mem_of_getElem? (i := 1544) (by decide +kernel), List.mem_of_getElem? (i := 1545) (by decide +kernel)⟩
theorem lw_p87 : lw_okq (⟨"IllTonightModel", "isRight", "(I)Z"⟩, 55) := ⟨⟨by decide +kernel, by decide +kernel⟩, List.mem_of_getElem? (i := 1059) (by decide +kernel), List.mem_of_getElem? (i := 1568) (by decide +kernel), List.mem_of_getElem? (i := 1569) (by decide +kernel)⟩
theorem lw_p88 : lw_okq (⟨"IllTonightModel", "layPlays", "()V"⟩, 55) := ⟨⟨by decide +kernel, by decide +kernel⟩, List.mem_of_getElem? (i := 1059) (by decide +kernel), List.mem_of_getElem? (i := 1576) (by decide +kernel), List.mem_of_getElem? (i := 1577) (by decide +kernel)⟩
theorem lw_p89 : lw_okq (⟨"IllTonightModel", "findPlays", "()V"⟩, 55) := ⟨⟨by decide +kernel, by decide +kernel⟩, List.mem_of_getElem? (i := 1059) (by decide +kernel), List.mem_of_getElem? (i := 1580) (by decide +kernel), List.mem_of_getElem? (i := 1581) (by decide +kernel)⟩
theorem lw_p90 : lw_okq (⟨"IllTonightModel", "addActor", "(III)V"⟩, 55) := ⟨⟨by decide +kernel, by decide +kernel⟩, List.mem_of_getElem? (i := 1059) (by decide +kernel), List.mem_of_getElem? (i := 1584) (by decide +kernel), List.mem_of_getElem? (i := 1585) (by decide +kernel)⟩
theorem lw_p91 : lw_okq (⟨"IllTonightModel", "isShut", "(I)Z"⟩, 55) := ⟨⟨by decide +kernel, by decide +kernel⟩, List.mem_of_getElem? (i := 1059) (by decide +kernel), List.mem_of_getElem? (i := 1588) (by decide +kernel), List.mem_of_getElem? (i := 1589) (by decide +kernel)⟩
theorem lw_p92 : lw_okq (⟨"IllTonightModel", "isClosing", "(I)Z"⟩, 55) := ⟨⟨by decide +kernel, by decide +kernel⟩, List.mem_of_getElem? (i := 1059) (by decide +kernel), List.mem_of_getElem? (i := 1599) (by decide +kernel), List.mem_of_getElem? (i := 1600) (by decide +kernel)⟩
theorem lw_p93 : lw_okq (⟨"IllTonightModel", "shutBy", "(I)I"⟩, 55) := ⟨⟨by decide +kernel, by decide +kernel⟩, List.mem_of_getElem? (i := 1059) (by decide +kernel), List.mem_of_getElem? (i := 1608) (by decide +kernel), List.mem_of_getElem? (i := 1609) (by decide +kernel)⟩
theorem lw_p94 : lw_okq (⟨"IllTonightModel", "isLesson", "(I)Z"⟩, 55) := ⟨⟨by decide +kernel, by decide +kernel⟩, List.mem_of_getElem? (i := 1059) (by decide +kernel), List.mem_of_getElem? (i := 1640) (by decide +kernel), List.mem_of_getElem? (i := 1641) (by decide +kernel)⟩
theorem lw_p95 : lw_okq (⟨"IllTonightModel", "out", "(I)V"⟩, 55) := ⟨⟨by decide +kernel, by decide +kernel⟩, List.mem_of_getElem? (i := 1059) (by decide +kernel), List.mem_of_getElem? (i := 1644) (by decide +kernel), List.mem_of_getElem? (i := 1645) (by decide +kernel)⟩
def lw_privs_6 : List (MethodName × Nat) := [(⟨"IllTonightModel", "may", "(II)Z"⟩, 55), (⟨"IllTonightModel", "reach", "(III)V"⟩, 55), (⟨"IllTonightModel", "canDouble", "(II)Z"⟩, 55), (⟨"IllTonightModel", "isPlayed", "()Z"⟩, 55), (⟨"IllTonightModel", "findFirst", "(I)Z"⟩, 55), (⟨"IllTonightModel", "findNth", "(II)Z"⟩, 55), (⟨"IllTonightModel", "usually", "(I)I"⟩, 55), (⟨"IllTonightModel", "isRight", "(I)Z"⟩, 55), (⟨"IllTonightModel", "layPlays", "()V"⟩, 55), (⟨"IllTonightModel", "findPlays", "()V"⟩, 55), (⟨"IllTonightModel", "addActor", "(III)V"⟩, 55), (⟨"IllTonightModel", "isShut", "(I)Z"⟩, 55), (⟨"IllTonightModel", "isClosing", "(I)Z"⟩, 55), (⟨"IllTonightModel", "shutBy", "(I)I"⟩, 55), (⟨"IllTonightModel", "isLesson", "(I)Z"⟩, 55), (⟨"IllTonightModel", "out", "(I)V"⟩, 55)]
theorem lw_r6 : ∀ q ∈ lw_privs_6, lw_okq q := List.forall_mem_cons.mpr ⟨lw_p80, List.forall_mem_cons.mpr ⟨lw_p81, List.forall_mem_cons.mpr ⟨lw_p82, List.forall_mem_cons.mpr ⟨lw_p83, List.forall_mem_cons.mpr ⟨lw_p84, List.forall_mem_cons.mpr ⟨lw_p85, List.forall_mem_cons.mpr ⟨lw_p86, List.forall_mem_cons.mpr ⟨lw_p87, List.forall_mem_cons.mpr ⟨lw_p88, List.forall_mem_cons.mpr ⟨lw_p89, List.forall_mem_cons.mpr ⟨lw_p90, List.forall_mem_cons.mpr ⟨lw_p91, List.forall_mem_cons.mpr ⟨lw_p92, List.forall_mem_cons.mpr ⟨lw_p93, List.forall_mem_cons.mpr ⟨lw_p94, List.forall_mem_cons.mpr ⟨lw_p95, fun _ h => absurd h List.not_mem_nil⟩⟩⟩⟩⟩⟩⟩⟩⟩⟩⟩⟩⟩⟩⟩⟩
theorem lw_p96 : lw_okq (⟨"IllTonightModel", "findLessons", "(II)V"⟩, 55) := ⟨⟨by decide +kernel, by decide +kernel⟩, List.mem_of_getElem? (i := 1059) (by decide +kernel), List.mem_of_getElem? (i := 1652) (by decide +kernel), List.mem_of_getElem? (i := 1653) (by decide +kernel)⟩
theorem lw_p97 : lw_okq (⟨"IllTonightModel", "ofLesson", "(II)I"⟩, 55) := ⟨⟨by decide +kernel, by decide +kernel⟩, List.mem_of_getElem? (i := 1059) (by decide +kernel), List.mem_of_getElem? (i := 1656) (by decide +kernel), List.mem_of_getElem? (i := 1657) (by decide +kernel)⟩
theorem lw_p98 : lw_okq (⟨"IllTonightModel", "goOn", "(I)V"⟩, 55) := ⟨⟨by decide +kernel, by decide +kernel⟩, List.mem_of_getElem? (i := 1059) (by decide +kernel), List.mem_of_getElem? (i := 1676) (by decide +kernel), List.mem_of_getElem? (i := 1677) (by decide +kernel)⟩
def lw_privs_7 : List (MethodName × Nat) := [(⟨"IllTonightModel", "findLessons", "(II)V"⟩, 55), (⟨"IllTonightModel", "ofLesson", "(II)I"⟩, 55), (⟨"IllTonightModel", "goOn", "(I)V"⟩, 55)]
theorem lw_r7 : ∀ q ∈ lw_privs_7, lw_okq q := List.forall_mem_cons.mpr ⟨lw_p96, List.forall_mem_cons.mpr ⟨lw_p97, List.forall_mem_cons.mpr ⟨lw_p98, fun _ h => absurd h List.not_mem_nil⟩⟩⟩
def lw_privs : List (MethodName × Nat) := lw_privs_1 ++ (lw_privs_2 ++ (lw_privs_3 ++ (lw_privs_4 ++ (lw_privs_5 ++ (lw_privs_6 ++ (lw_privs_7))))))
def lw_tbl : List Cond := k2_sels lw_privs ++ tables_1
theorem lw_privs_ok : ∀ q ∈ lw_privs, lw_okq q := by
  show ∀ q ∈ lw_privs_1 ++ (lw_privs_2 ++ (lw_privs_3 ++ (lw_privs_4 ++ (lw_privs_5 ++ (lw_privs_6 ++ (lw_privs_7)))))), lw_okq q
  exact List.forall_mem_append.mpr ⟨lw_r1, List.forall_mem_append.mpr ⟨lw_r2, List.forall_mem_append.mpr ⟨lw_r3, List.forall_mem_append.mpr ⟨lw_r4, List.forall_mem_append.mpr ⟨lw_r5, List.forall_mem_append.mpr ⟨lw_r6, lw_r7⟩⟩⟩⟩⟩⟩
def lw_nm (c : Option Cond) : MethodName := match c with
  | some (.code y _ _ _) => y
  | _ => ⟨"", "", ""⟩
def RX0 : String := "IllTonight$Casting"
def TX0 : u_T := fun k => match k with
  | 0 => ("IllTonight$Casting", "actors", "I", false)
  | 1 => ("IllTonight$Casting", "parts", "I", false)
  | 2 => ("IllTonight$Casting", "canBits", "[I", true)
  | 3 => ("IllTonight$Casting", "costs", "[I", true)
  | 4 => ("IllTonight$Casting", "beside", "[I", true)
  | 5 => ("IllTonight$Casting", "facts", "[I", true)
  | _ => ("IllTonight$Casting", "stack", "[I", true)
def tyX0 : Nat → FieldType := fun k => match k with
  | 0 => .int
  | 1 => .int
  | 2 => .array .int
  | 3 => .array .int
  | 4 => .array .int
  | 5 => .array .int
  | _ => .array .int
abbrev wsX00 : List Cond := u_ws RX0 TX0 7
theorem nmX0 : ∀ a, a < 7 → ∀ b, b < 7 → a ≠ b → (TX0 a).2.1 ≠ (TX0 b).2.1 := by decide +kernel
theorem tyX0_ok : ∀ k, k < 7 → parseFieldDescriptor (TX0 k).2.2.1 = some (tyX0 k) := by decide +kernel
abbrev cX0_init : ByteArray := prog_2_method_1_code
def yX0_init : MethodName := ⟨RX0, "<init>", "()V"⟩
abbrev cX0_fillAble : ByteArray := prog_2_method_2_code
def yX0_fillAble : MethodName := ⟨RX0, "fillAble", "(LIllTonight$State;[II)V"⟩
abbrev cX0_fillCosts : ByteArray := prog_2_method_3_code
def yX0_fillCosts : MethodName := ⟨RX0, "fillCosts", "(LIllTonight$State;[II)V"⟩
abbrev cX0_apartFrom : ByteArray := prog_2_method_4_code
def yX0_apartFrom : MethodName := ⟨RX0, "apartFrom", "(LIllTonight$State;I)I"⟩
abbrev cX0_ask : ByteArray := prog_2_method_5_code
def yX0_ask : MethodName := ⟨RX0, "ask", "(LIllTonight$State;IIII)V"⟩
abbrev cX0_canPlay : ByteArray := prog_2_method_6_code
def yX0_canPlay : MethodName := ⟨RX0, "canPlay", "(LIllTonight$State;)Z"⟩
abbrev cX0_price : ByteArray := prog_2_method_7_code
def yX0_price : MethodName := ⟨RX0, "price", "(LIllTonight$State;)I"⟩
abbrev cX0_fading : ByteArray := prog_2_method_8_code
def yX0_fading : MethodName := ⟨RX0, "fading", "(LIllTonight$State;)I"⟩
def RX1 : String := "IllTonight$House"
def TX1 : u_T := fun k => match k with
  | 0 => ("IllTonight$House", "rows", "[J", true)
  | 1 => ("IllTonight$House", "one", "[J", true)
  | 2 => ("IllTonight$House", "two", "[J", true)
  | 3 => ("IllTonight$House", "cast", "LIllTonight$Casting;", false)
  | 4 => ("IllTonight$House", "words", "I", false)
  | 5 => ("IllTonight$House", "closed", "[Z", true)
  | _ => ("IllTonight$House", "sets", "I", false)
def tyX1 : Nat → FieldType := fun k => match k with
  | 0 => .array .long
  | 1 => .array .long
  | 2 => .array .long
  | 3 => .object "IllTonight$Casting"
  | 4 => .int
  | 5 => .array .boolean
  | _ => .int
abbrev wsX10 : List Cond := u_ws RX1 TX1 7
theorem nmX1 : ∀ a, a < 7 → ∀ b, b < 7 → a ≠ b → (TX1 a).2.1 ≠ (TX1 b).2.1 := by decide +kernel
theorem tyX1_ok : ∀ k, k < 7 → parseFieldDescriptor (TX1 k).2.2.1 = some (tyX1 k) := by decide +kernel
abbrev cX1_init : ByteArray := prog_3_method_1_code
def yX1_init : MethodName := ⟨RX1, "<init>", "(LIllTonight$Casting;)V"⟩
abbrev cX1_closeAll : ByteArray := prog_3_method_2_code
def yX1_closeAll : MethodName := ⟨RX1, "closeAll", "(LIllTonight$Casting;)V"⟩
abbrev cX1_closeFrom : ByteArray := prog_3_method_3_code
def yX1_closeFrom : MethodName := ⟨RX1, "closeFrom", "(II)V"⟩
abbrev cX1_opens : ByteArray := prog_3_method_4_code
def yX1_opens : MethodName := ⟨RX1, "opens", "(LIllTonight$Casting;I)Z"⟩
abbrev cX1_opensFrom : ByteArray := prog_3_method_5_code
def yX1_opensFrom : MethodName := ⟨RX1, "opensFrom", "(II)Z"⟩
abbrev cX1_begin : ByteArray := prog_3_method_6_code
def yX1_begin : MethodName := ⟨RX1, "begin", "(LIllTonight$Casting;)V"⟩
abbrev cX1_fills : ByteArray := prog_3_method_7_code
def yX1_fills : MethodName := ⟨RX1, "fills", "(I)Z"⟩
abbrev cX1_rest : ByteArray := prog_3_method_8_code
def yX1_rest : MethodName := ⟨RX1, "rest", "(I)V"⟩
abbrev cX1_play : ByteArray := prog_3_method_9_code
def yX1_play : MethodName := ⟨RX1, "play", "(I)V"⟩
abbrev cX1_give : ByteArray := prog_3_method_10_code
def yX1_give : MethodName := ⟨RX1, "give", "([JII[J)V"⟩
abbrev cX1_join : ByteArray := prog_3_method_11_code
def yX1_join : MethodName := ⟨RX1, "join", "(I[J)V"⟩
abbrev cX1_leastClosed : ByteArray := prog_3_method_12_code
def yX1_leastClosed : MethodName := ⟨RX1, "leastClosed", "(I)I"⟩
abbrev cX1_closingSet : ByteArray := prog_3_method_13_code
def yX1_closingSet : MethodName := ⟨RX1, "closingSet", "(I)I"⟩
abbrev cX1_isClosing : ByteArray := prog_3_method_14_code
def yX1_isClosing : MethodName := ⟨RX1, "isClosing", "(I)Z"⟩
abbrev cX1_keySets : ByteArray := prog_3_method_15_code
def yX1_keySets : MethodName := ⟨RX1, "keySets", "(I)I"⟩
abbrev cX1_closedOdds : ByteArray := prog_3_method_16_code
def yX1_closedOdds : MethodName := ⟨RX1, "closedOdds", "(LIllTonight$State;)J"⟩
abbrev cX1_likely : ByteArray := prog_3_method_17_code
def yX1_likely : MethodName := ⟨RX1, "likely", "(LIllTonight$State;I)J"⟩
def RX2 : String := "IllTonight$Law"
def TX2 : u_T := fun k => match k with
  | 0 => ("IllTonight$Law", "heads", "[I", true)
  | 1 => ("IllTonight$Law", "places", "[I", true)
  | _ => ("IllTonight$Law", "steps", "[I", true)
def tyX2 : Nat → FieldType := fun k => match k with
  | 0 => .array .int
  | 1 => .array .int
  | _ => .array .int
abbrev wsX20 : List Cond := u_ws RX2 TX2 3
theorem nmX2 : ∀ a, a < 3 → ∀ b, b < 3 → a ≠ b → (TX2 a).2.1 ≠ (TX2 b).2.1 := by decide +kernel
theorem tyX2_ok : ∀ k, k < 3 → parseFieldDescriptor (TX2 k).2.2.1 = some (tyX2 k) := by decide +kernel
abbrev cX2_init : ByteArray := prog_4_method_1_code
def yX2_init : MethodName := ⟨RX2, "<init>", "([I[I[I)V"⟩
abbrev cX2_tells : ByteArray := prog_4_method_2_code
def yX2_tells : MethodName := ⟨RX2, "tells", "(I[I[I)I"⟩
abbrev cX2_run : ByteArray := prog_4_method_3_code
def yX2_run : MethodName := ⟨RX2, "run", "(II[I[I)I"⟩
abbrev cX2_joined : ByteArray := prog_4_method_4_code
def yX2_joined : MethodName := ⟨RX2, "joined", "(IJJ)I"⟩
def RX3 : String := "IllTonight$Nights"
def TX3 : u_T := fun k => match k with
  | 0 => ("IllTonight$Nights", "rows", "[J", true)
  | 1 => ("IllTonight$Nights", "purpose", "I", false)
  | 2 => ("IllTonight$Nights", "cast", "LIllTonight$Casting;", false)
  | 3 => ("IllTonight$Nights", "span", "I", false)
  | 4 => ("IllTonight$Nights", "wanted", "I", false)
  | 5 => ("IllTonight$Nights", "held", "[I", true)
  | 6 => ("IllTonight$Nights", "leastNights", "I", false)
  | 7 => ("IllTonight$Nights", "allNights", "I", false)
  | 8 => ("IllTonight$Nights", "picked", "[I", true)
  | _ => ("IllTonight$Nights", "pickedIndex", "I", false)
def tyX3 : Nat → FieldType := fun k => match k with
  | 0 => .array .long
  | 1 => .int
  | 2 => .object "IllTonight$Casting"
  | 3 => .int
  | 4 => .int
  | 5 => .array .int
  | 6 => .int
  | 7 => .int
  | 8 => .array .int
  | _ => .int
abbrev wsX30 : List Cond := u_ws RX3 TX3 10
theorem nmX3 : ∀ a, a < 10 → ∀ b, b < 10 → a ≠ b → (TX3 a).2.1 ≠ (TX3 b).2.1 := by decide +kernel
theorem tyX3_ok : ∀ k, k < 10 → parseFieldDescriptor (TX3 k).2.2.1 = some (tyX3 k) := by decide +kernel
abbrev cX3_init : ByteArray := prog_5_method_1_code
def yX3_init : MethodName := ⟨RX3, "<init>", "(LIllTonight$Casting;)V"⟩
abbrev cX3_isNone : ByteArray := prog_5_method_2_code
def yX3_isNone : MethodName := ⟨RX3, "isNone", "(J)Z"⟩
abbrev cX3_costIn : ByteArray := prog_5_method_3_code
def yX3_costIn : MethodName := ⟨RX3, "costIn", "(J)I"⟩
abbrev cX3_playerIn : ByteArray := prog_5_method_4_code
def yX3_playerIn : MethodName := ⟨RX3, "playerIn", "(JI)I"⟩
abbrev cX3_firstOf : ByteArray := prog_5_method_5_code
def yX3_firstOf : MethodName := ⟨RX3, "firstOf", "(LIllTonight$Casting;I)J"⟩
abbrev cX3_tallyAll : ByteArray := prog_5_method_6_code
def yX3_tallyAll : MethodName := ⟨RX3, "tallyAll", "(LIllTonight$Casting;I)V"⟩
abbrev cX3_begin : ByteArray := prog_5_method_7_code
def yX3_begin : MethodName := ⟨RX3, "begin", "(LIllTonight$Casting;I)V"⟩
abbrev cX3_open : ByteArray := prog_5_method_8_code
def yX3_open : MethodName := ⟨RX3, "open", "()V"⟩
abbrev cX3_solve : ByteArray := prog_5_method_9_code
def yX3_solve : MethodName := ⟨RX3, "solve", "(I)J"⟩
abbrev cX3_rest : ByteArray := prog_5_method_10_code
def yX3_rest : MethodName := ⟨RX3, "rest", "(I)V"⟩
abbrev cX3_play : ByteArray := prog_5_method_11_code
def yX3_play : MethodName := ⟨RX3, "play", "(I)V"⟩
abbrev cX3_roomBeside : ByteArray := prog_5_method_12_code
def yX3_roomBeside : MethodName := ⟨RX3, "roomBeside", "(I)I"⟩
abbrev cX3_weight : ByteArray := prog_5_method_13_code
def yX3_weight : MethodName := ⟨RX3, "weight", "(II)J"⟩
abbrev cX3_spread : ByteArray := prog_5_method_14_code
def yX3_spread : MethodName := ⟨RX3, "spread", "(IIJ)V"⟩
abbrev cX3_better : ByteArray := prog_5_method_15_code
def yX3_better : MethodName := ⟨RX3, "better", "(JJ)J"⟩
abbrev cX3_pick : ByteArray := prog_5_method_16_code
def yX3_pick : MethodName := ⟨RX3, "pick", "(LIllTonight$Casting;II)V"⟩
abbrev cX3_followed : ByteArray := prog_5_method_17_code
def yX3_followed : MethodName := ⟨RX3, "followed", "(IIIJ)J"⟩
abbrev cX3_meanCost : ByteArray := prog_5_method_18_code
def yX3_meanCost : MethodName := ⟨RX3, "meanCost", "(LIllTonight$Casting;LIllTonight$State;)J"⟩
abbrev cX3_meanFrom : ByteArray := prog_5_method_19_code
def yX3_meanFrom : MethodName := ⟨RX3, "meanFrom", "(IJLIllTonight$State;)J"⟩
def RX4 : String := "IllTonight$Plans"
def TX4 : u_T := fun k => match k with
  | 0 => ("IllTonight$Plans", "enough", "[Z", true)
  | 1 => ("IllTonight$Plans", "hours", "[I", true)
  | 2 => ("IllTonight$Plans", "known", "[I", true)
  | 3 => ("IllTonight$Plans", "base", "[I", true)
  | _ => ("IllTonight$Plans", "sets", "I", false)
def tyX4 : Nat → FieldType := fun k => match k with
  | 0 => .array .boolean
  | 1 => .array .int
  | 2 => .array .int
  | 3 => .array .int
  | _ => .int
abbrev wsX40 : List Cond := u_ws RX4 TX4 5
theorem nmX4 : ∀ a, a < 5 → ∀ b, b < 5 → a ≠ b → (TX4 a).2.1 ≠ (TX4 b).2.1 := by decide +kernel
theorem tyX4_ok : ∀ k, k < 5 → parseFieldDescriptor (TX4 k).2.2.1 = some (tyX4 k) := by decide +kernel
abbrev cX4_init : ByteArray := prog_6_method_1_code
def yX4_init : MethodName := ⟨RX4, "<init>", "()V"⟩
abbrev cX4_begin : ByteArray := prog_6_method_2_code
def yX4_begin : MethodName := ⟨RX4, "begin", "(LIllTonight$State;LIllTonight$Casting;)V"⟩
abbrev cX4_tryOut : ByteArray := prog_6_method_3_code
def yX4_tryOut : MethodName := ⟨RX4, "tryOut", "(LIllTonight$State;ILIllTonight$Casting;)V"⟩
abbrev cX4_cheapest : ByteArray := prog_6_method_4_code
def yX4_cheapest : MethodName := ⟨RX4, "cheapest", "(II)I"⟩
abbrev cX4_hoursOf : ByteArray := prog_6_method_5_code
def yX4_hoursOf : MethodName := ⟨RX4, "hoursOf", "(I)I"⟩
abbrev cX4_enoughSets : ByteArray := prog_6_method_6_code
def yX4_enoughSets : MethodName := ⟨RX4, "enoughSets", "(I)I"⟩
def RX5 : String := "IllTonight$Reader"
def TX5 : u_T := fun k => match k with
  | 0 => ("IllTonight$Reader", "kinds", "[I", true)
  | 1 => ("IllTonight$Reader", "values", "[I", true)
  | 2 => ("IllTonight$Reader", "starts", "[I", true)
  | 3 => ("IllTonight$Reader", "size", "I", false)
  | 4 => ("IllTonight$Reader", "at", "I", false)
  | 5 => ("IllTonight$Reader", "steps", "[I", true)
  | 6 => ("IllTonight$Reader", "stepCount", "I", false)
  | 7 => ("IllTonight$Reader", "heads", "[I", true)
  | 8 => ("IllTonight$Reader", "places", "[I", true)
  | 9 => ("IllTonight$Reader", "clauses", "I", false)
  | 10 => ("IllTonight$Reader", "pieces", "I", false)
  | _ => ("IllTonight$Reader", "fault", "I", false)
def tyX5 : Nat → FieldType := fun k => match k with
  | 0 => .array .int
  | 1 => .array .int
  | 2 => .array .int
  | 3 => .int
  | 4 => .int
  | 5 => .array .int
  | 6 => .int
  | 7 => .array .int
  | 8 => .array .int
  | 9 => .int
  | 10 => .int
  | _ => .int
abbrev wsX50 : List Cond := u_ws RX5 TX5 12
theorem nmX5 : ∀ a, a < 12 → ∀ b, b < 12 → a ≠ b → (TX5 a).2.1 ≠ (TX5 b).2.1 := by decide +kernel
theorem tyX5_ok : ∀ k, k < 12 → parseFieldDescriptor (TX5 k).2.2.1 = some (tyX5 k) := by decide +kernel
abbrev cX5_init : ByteArray := prog_7_method_1_code
def yX5_init : MethodName := ⟨RX5, "<init>", "()V"⟩
abbrev cX5_read : ByteArray := prog_7_method_2_code
def yX5_read : MethodName := ⟨RX5, "read", "([II)LIllTonight$Law;"⟩
abbrev cX5_cut : ByteArray := prog_7_method_3_code
def yX5_cut : MethodName := ⟨RX5, "cut", "([II)V"⟩
abbrev cX5_sortOf : ByteArray := prog_7_method_4_code
def yX5_sortOf : MethodName := ⟨RX5, "sortOf", "(I)I"⟩
abbrev cX5_addToken : ByteArray := prog_7_method_5_code
def yX5_addToken : MethodName := ⟨RX5, "addToken", "([IIII)V"⟩
abbrev cX5_valueOf : ByteArray := prog_7_method_6_code
def yX5_valueOf : MethodName := ⟨RX5, "valueOf", "([III)I"⟩
abbrev cX5_wordOf : ByteArray := prog_7_method_7_code
def yX5_wordOf : MethodName := ⟨RX5, "wordOf", "([III)I"⟩
abbrev cX5_sees : ByteArray := prog_7_method_8_code
def yX5_sees : MethodName := ⟨RX5, "sees", "(I)Z"⟩
abbrev cX5_take : ByteArray := prog_7_method_9_code
def yX5_take : MethodName := ⟨RX5, "take", "()V"⟩
abbrev cX5_addStep : ByteArray := prog_7_method_10_code
def yX5_addStep : MethodName := ⟨RX5, "addStep", "(II)V"⟩
abbrev cX5_readClause : ByteArray := prog_7_method_11_code
def yX5_readClause : MethodName := ⟨RX5, "readClause", "()Z"⟩
abbrev cX5_readTest : ByteArray := prog_7_method_12_code
def yX5_readTest : MethodName := ⟨RX5, "readTest", "(IZ)Z"⟩
abbrev cX5_readPlain : ByteArray := prog_7_method_13_code
def yX5_readPlain : MethodName := ⟨RX5, "readPlain", "(I)Z"⟩
abbrev cX5_comparison : ByteArray := prog_7_method_14_code
def yX5_comparison : MethodName := ⟨RX5, "comparison", "()I"⟩
abbrev cX5_readSum : ByteArray := prog_7_method_15_code
def yX5_readSum : MethodName := ⟨RX5, "readSum", "(IZ)Z"⟩
abbrev cX5_readPiece : ByteArray := prog_7_method_16_code
def yX5_readPiece : MethodName := ⟨RX5, "readPiece", "(I)Z"⟩
def RX6 : String := "IllTonight$Season"
def TX6 : u_T := fun k => match k with
  | 0 => ("IllTonight$Season", "weeks", "I", false)
  | 1 => ("IllTonight$Season", "actors", "I", false)
  | 2 => ("IllTonight$Season", "parts", "I", false)
  | 3 => ("IllTonight$Season", "illOf", "[I", true)
  | 4 => ("IllTonight$Season", "nightOf", "[J", true)
  | 5 => ("IllTonight$Season", "known", "[I", true)
  | _ => ("IllTonight$Season", "draws", "I", false)
def tyX6 : Nat → FieldType := fun k => match k with
  | 0 => .int
  | 1 => .int
  | 2 => .int
  | 3 => .array .int
  | 4 => .array .long
  | 5 => .array .int
  | _ => .int
abbrev wsX60 : List Cond := u_ws RX6 TX6 7
theorem nmX6 : ∀ a, a < 7 → ∀ b, b < 7 → a ≠ b → (TX6 a).2.1 ≠ (TX6 b).2.1 := by decide +kernel
theorem tyX6_ok : ∀ k, k < 7 → parseFieldDescriptor (TX6 k).2.2.1 = some (tyX6 k) := by decide +kernel
abbrev cX6_init : ByteArray := prog_8_method_1_code
def yX6_init : MethodName := ⟨RX6, "<init>", "()V"⟩
abbrev cX6_play : ByteArray := prog_8_method_2_code
def yX6_play : MethodName := ⟨RX6, "play", "(LIllTonight$State;IILIllTonight$Casting;LIllTonight$Nights;)I"⟩
abbrev cX6_drawIll : ByteArray := prog_8_method_3_code
def yX6_drawIll : MethodName := ⟨RX6, "drawIll", "(LIllTonight$State;)I"⟩
abbrev cX6_passWeek : ByteArray := prog_8_method_4_code
def yX6_passWeek : MethodName := ⟨RX6, "passWeek", "(LIllTonight$State;IJLIllTonight$Casting;)V"⟩
def RX7 : String := "IllTonight$State"
def TX7 : u_T := fun k => match k with
  | 0 => ("IllTonight$State", "actors", "I", false)
  | 1 => ("IllTonight$State", "parts", "I", false)
  | 2 => ("IllTonight$State", "actorFacts", "[I", true)
  | 3 => ("IllTonight$State", "partFacts", "[I", true)
  | 4 => ("IllTonight$State", "usually", "[I", true)
  | 5 => ("IllTonight$State", "known", "[I", true)
  | 6 => ("IllTonight$State", "illBits", "I", false)
  | 7 => ("IllTonight$State", "terms", "[I", true)
  | 8 => ("IllTonight$State", "laws", "[LIllTonight$Law;", true)
  | 9 => ("IllTonight$State", "lawCount", "I", false)
  | 10 => ("IllTonight$State", "inForce", "I", false)
  | 11 => ("IllTonight$State", "lessons", "[I", true)
  | 12 => ("IllTonight$State", "lessonCount", "I", false)
  | 13 => ("IllTonight$State", "told", "[I", true)
  | _ => ("IllTonight$State", "toldCount", "I", false)
def tyX7 : Nat → FieldType := fun k => match k with
  | 0 => .int
  | 1 => .int
  | 2 => .array .int
  | 3 => .array .int
  | 4 => .array .int
  | 5 => .array .int
  | 6 => .int
  | 7 => .array .int
  | 8 => .array (.object "IllTonight$Law")
  | 9 => .int
  | 10 => .int
  | 11 => .array .int
  | 12 => .int
  | 13 => .array .int
  | _ => .int
abbrev wsX70 : List Cond := u_ws RX7 TX7 15
theorem nmX7 : ∀ a, a < 15 → ∀ b, b < 15 → a ≠ b → (TX7 a).2.1 ≠ (TX7 b).2.1 := by decide +kernel
theorem tyX7_ok : ∀ k, k < 15 → parseFieldDescriptor (TX7 k).2.2.1 = some (tyX7 k) := by decide +kernel
abbrev cX7_init : ByteArray := prog_9_method_1_code
def yX7_init : MethodName := ⟨RX7, "<init>", "()V"⟩
abbrev cX7_hasActor : ByteArray := prog_9_method_2_code
def yX7_hasActor : MethodName := ⟨RX7, "hasActor", "(I)Z"⟩
abbrev cX7_hasPart : ByteArray := prog_9_method_3_code
def yX7_hasPart : MethodName := ⟨RX7, "hasPart", "(I)Z"⟩
abbrev cX7_hasBoth : ByteArray := prog_9_method_4_code
def yX7_hasBoth : MethodName := ⟨RX7, "hasBoth", "(II)Z"⟩
abbrev cX7_forced : ByteArray := prog_9_method_5_code
def yX7_forced : MethodName := ⟨RX7, "forced", "()LIllTonight$Law;"⟩
abbrev cX7_become : ByteArray := prog_9_method_6_code
def yX7_become : MethodName := ⟨RX7, "become", "(LIllTonight$State;)V"⟩
abbrev cX7_raise : ByteArray := prog_9_method_7_code
def yX7_raise : MethodName := ⟨RX7, "raise", "([II)I"⟩
abbrev cX7_removeLessons : ByteArray := prog_9_method_8_code
def yX7_removeLessons : MethodName := ⟨RX7, "removeLessons", "(I)V"⟩
def RX8 : String := "IllTonight"
def TX8 : u_T := fun k => match k with
  | 0 => ("IllTonight", "now", "LIllTonight$State;", true)
  | 1 => ("IllTonight", "images", "[LIllTonight$State;", true)
  | 2 => ("IllTonight", "kept", "[Z", true)
  | 3 => ("IllTonight", "bytes", "[I", true)
  | 4 => ("IllTonight", "length", "I", false)
  | 5 => ("IllTonight", "reader", "LIllTonight$Reader;", true)
  | 6 => ("IllTonight", "lastFault", "I", false)
  | 7 => ("IllTonight", "lastForgot", "I", false)
  | 8 => ("IllTonight", "refusals", "[I", true)
  | 9 => ("IllTonight", "lastRefusal", "I", false)
  | 10 => ("IllTonight", "fresh", "I", false)
  | 11 => ("IllTonight", "casting", "LIllTonight$Casting;", true)
  | 12 => ("IllTonight", "trial", "LIllTonight$Casting;", true)
  | 13 => ("IllTonight", "nights", "LIllTonight$Nights;", true)
  | 14 => ("IllTonight", "house", "LIllTonight$House;", true)
  | 15 => ("IllTonight", "plans", "LIllTonight$Plans;", true)
  | 16 => ("IllTonight", "latest", "LIllTonight$Season;", true)
  | 17 => ("IllTonight", "links", "[I", true)
  | _ => ("IllTonight", "firstNight", "J", false)
def tyX8 : Nat → FieldType := fun k => match k with
  | 0 => .object "IllTonight$State"
  | 1 => .array (.object "IllTonight$State")
  | 2 => .array .boolean
  | 3 => .array .int
  | 4 => .int
  | 5 => .object "IllTonight$Reader"
  | 6 => .int
  | 7 => .int
  | 8 => .array .int
  | 9 => .int
  | 10 => .int
  | 11 => .object "IllTonight$Casting"
  | 12 => .object "IllTonight$Casting"
  | 13 => .object "IllTonight$Nights"
  | 14 => .object "IllTonight$House"
  | 15 => .object "IllTonight$Plans"
  | 16 => .object "IllTonight$Season"
  | 17 => .array .int
  | _ => .long
abbrev wsX80 : List Cond := u_ws RX8 TX8 19
theorem nmX8 : ∀ a, a < 19 → ∀ b, b < 19 → a ≠ b → (TX8 a).2.1 ≠ (TX8 b).2.1 := by decide +kernel
theorem tyX8_ok : ∀ k, k < 19 → parseFieldDescriptor (TX8 k).2.2.1 = some (tyX8 k) := by decide +kernel
abbrev cX8_init : ByteArray := prog_1_method_1_code
def yX8_init : MethodName := ⟨RX8, "<init>", "()V"⟩
abbrev cX8_actor : ByteArray := prog_1_method_2_code
def yX8_actor : MethodName := ⟨RX8, "actor", "(IIII)I"⟩
abbrev cX8_part : ByteArray := prog_1_method_3_code
def yX8_part : MethodName := ⟨RX8, "part", "(III)I"⟩
abbrev cX8_turn : ByteArray := prog_1_method_4_code
def yX8_turn : MethodName := ⟨RX8, "turn", "(III)I"⟩
abbrev cX8_alter : ByteArray := prog_1_method_5_code
def yX8_alter : MethodName := ⟨RX8, "alter", "(III)I"⟩
abbrev cX8_usual : ByteArray := prog_1_method_6_code
def yX8_usual : MethodName := ⟨RX8, "usual", "(II)I"⟩
abbrev cX8_knows : ByteArray := prog_1_method_7_code
def yX8_knows : MethodName := ⟨RX8, "knows", "(III)I"⟩
abbrev cX8_of : ByteArray := prog_1_method_8_code
def yX8_of : MethodName := ⟨RX8, "of", "(III)I"⟩
abbrev cX8_ill : ByteArray := prog_1_method_9_code
def yX8_ill : MethodName := ⟨RX8, "ill", "(I)I"⟩
abbrev cX8_terms : ByteArray := prog_1_method_10_code
def yX8_terms : MethodName := ⟨RX8, "terms", "(II)I"⟩
abbrev cX8_feed : ByteArray := prog_1_method_11_code
def yX8_feed : MethodName := ⟨RX8, "feed", "(IIIII)I"⟩
abbrev cX8_end : ByteArray := prog_1_method_12_code
def yX8_end : MethodName := ⟨RX8, "end", "(I)I"⟩
abbrev cX8_row : ByteArray := prog_1_method_13_code
def yX8_row : MethodName := ⟨RX8, "row", "()I"⟩
abbrev cX8_forgot : ByteArray := prog_1_method_14_code
def yX8_forgot : MethodName := ⟨RX8, "forgot", "()I"⟩
abbrev cX8_law : ByteArray := prog_1_method_15_code
def yX8_law : MethodName := ⟨RX8, "law", "()I"⟩
abbrev cX8_fault : ByteArray := prog_1_method_16_code
def yX8_fault : MethodName := ⟨RX8, "fault", "()I"⟩
abbrev cX8_force : ByteArray := prog_1_method_17_code
def yX8_force : MethodName := ⟨RX8, "force", "(I)I"⟩
abbrev cX8_night : ByteArray := prog_1_method_18_code
def yX8_night : MethodName := ⟨RX8, "night", "(I)I"⟩
abbrev cX8_who : ByteArray := prog_1_method_19_code
def yX8_who : MethodName := ⟨RX8, "who", "(I)I"⟩
abbrev cX8_changed : ByteArray := prog_1_method_20_code
def yX8_changed : MethodName := ⟨RX8, "changed", "()I"⟩
abbrev cX8_chain : ByteArray := prog_1_method_21_code
def yX8_chain : MethodName := ⟨RX8, "chain", "(II)I"⟩
abbrev cX8_nth : ByteArray := prog_1_method_22_code
def yX8_nth : MethodName := ⟨RX8, "nth", "(II)I"⟩
abbrev cX8_gives : ByteArray := prog_1_method_23_code
def yX8_gives : MethodName := ⟨RX8, "gives", "(I)I"⟩
abbrev cX8_clear : ByteArray := prog_1_method_24_code
def yX8_clear : MethodName := ⟨RX8, "clear", "()I"⟩
abbrev cX8_judge : ByteArray := prog_1_method_25_code
def yX8_judge : MethodName := ⟨RX8, "judge", "(I)I"⟩
abbrev cX8_shut : ByteArray := prog_1_method_26_code
def yX8_shut : MethodName := ⟨RX8, "shut", "(I)I"⟩
abbrev cX8_closing : ByteArray := prog_1_method_27_code
def yX8_closing : MethodName := ⟨RX8, "closing", "(I)I"⟩
abbrev cX8_safe : ByteArray := prog_1_method_28_code
def yX8_safe : MethodName := ⟨RX8, "safe", "(I)I"⟩
abbrev cX8_unsf : ByteArray := prog_1_method_29_code
def yX8_unsf : MethodName := lw_nm tables_1[896]?
abbrev cX8_most : ByteArray := prog_1_method_30_code
def yX8_most : MethodName := ⟨RX8, "most", "()I"⟩
abbrev cX8_missed : ByteArray := prog_1_method_31_code
def yX8_missed : MethodName := ⟨RX8, "missed", "(I)I"⟩
abbrev cX8_key : ByteArray := prog_1_method_32_code
def yX8_key : MethodName := ⟨RX8, "key", "(I)I"⟩
abbrev cX8_odds : ByteArray := prog_1_method_33_code
def yX8_odds : MethodName := ⟨RX8, "odds", "(I)J"⟩
abbrev cX8_lesson : ByteArray := prog_1_method_34_code
def yX8_lesson : MethodName := ⟨RX8, "lesson", "(IIII)I"⟩
abbrev cX8_drop : ByteArray := prog_1_method_35_code
def yX8_drop : MethodName := ⟨RX8, "drop", "(I)I"⟩
abbrev cX8_learn : ByteArray := prog_1_method_36_code
def yX8_learn : MethodName := ⟨RX8, "learn", "(II)I"⟩
abbrev cX8_worth : ByteArray := prog_1_method_37_code
def yX8_worth : MethodName := ⟨RX8, "worth", "(II)I"⟩
abbrev cX8_teach : ByteArray := prog_1_method_38_code
def yX8_teach : MethodName := ⟨RX8, "teach", "(I)I"⟩
abbrev cX8_season : ByteArray := prog_1_method_39_code
def yX8_season : MethodName := ⟨RX8, "season", "(II)I"⟩
abbrev cX8_week : ByteArray := prog_1_method_40_code
def yX8_week : MethodName := ⟨RX8, "week", "(II)I"⟩
abbrev cX8_learnt : ByteArray := prog_1_method_41_code
def yX8_learnt : MethodName := ⟨RX8, "learnt", "(II)I"⟩
abbrev cX8_image : ByteArray := prog_1_method_42_code
def yX8_image : MethodName := ⟨RX8, "image", "(I)I"⟩
abbrev cX8_back : ByteArray := prog_1_method_43_code
def yX8_back : MethodName := ⟨RX8, "back", "(I)I"⟩
abbrev cX8_count : ByteArray := prog_1_method_44_code
def yX8_count : MethodName := ⟨RX8, "count", "(I)I"⟩
abbrev cX8_status : ByteArray := prog_1_method_45_code
def yX8_status : MethodName := ⟨RX8, "status", "()I"⟩
abbrev cX8_refuse : ByteArray := prog_1_method_46_code
def yX8_refuse : MethodName := ⟨RX8, "refuse", "(I)I"⟩
abbrev cX8_accept : ByteArray := prog_1_method_47_code
def yX8_accept : MethodName := ⟨RX8, "accept", "(I)I"⟩
abbrev cX8_actorFits : ByteArray := prog_1_method_48_code
def yX8_actorFits : MethodName := ⟨RX8, "actorFits", "(II)Z"⟩
abbrev cX8_partFits : ByteArray := prog_1_method_49_code
def yX8_partFits : MethodName := ⟨RX8, "partFits", "(II)Z"⟩
abbrev cX8_within : ByteArray := prog_1_method_50_code
def yX8_within : MethodName := ⟨RX8, "within", "(II)Z"⟩
abbrev cX8_putFour : ByteArray := prog_1_method_51_code
def yX8_putFour : MethodName := ⟨RX8, "putFour", "(I)V"⟩
abbrev cX8_renew : ByteArray := prog_1_method_52_code
def yX8_renew : MethodName := ⟨RX8, "renew", "(I)V"⟩
abbrev cX8_makePlans : ByteArray := prog_1_method_53_code
def yX8_makePlans : MethodName := ⟨RX8, "makePlans", "(I)V"⟩
abbrev cX8_isChanged : ByteArray := prog_1_method_54_code
def yX8_isChanged : MethodName := ⟨RX8, "isChanged", "(I)Z"⟩
abbrev cX8_linkFrom : ByteArray := prog_1_method_55_code
def yX8_linkFrom : MethodName := ⟨RX8, "linkFrom", "(I)I"⟩
abbrev cX8_nextLink : ByteArray := prog_1_method_56_code
def yX8_nextLink : MethodName := ⟨RX8, "nextLink", "(II)I"⟩
abbrev cX8_firstWrong : ByteArray := prog_1_method_57_code
def yX8_firstWrong : MethodName := ⟨RX8, "firstWrong", "()I"⟩
abbrev cX8_fitsAhead : ByteArray := prog_1_method_58_code
def yX8_fitsAhead : MethodName := ⟨RX8, "fitsAhead", "(II)Z"⟩
abbrev cX8_toldCost : ByteArray := prog_1_method_59_code
def yX8_toldCost : MethodName := ⟨RX8, "toldCost", "()I"⟩
def RX9 : String := "IllTonightModel"
def TX9 : u_T := fun k => match k with
  | 0 => ("IllTonightModel", "thrown", "I", false)
  | 1 => ("IllTonightModel", "status", "I", false)
  | 2 => ("IllTonightModel", "refusals", "[I", true)
  | 3 => ("IllTonightModel", "row", "[I", true)
  | 4 => ("IllTonightModel", "images", "[I", true)
  | 5 => ("IllTonightModel", "isKept", "[Z", true)
  | 6 => ("IllTonightModel", "forgot", "I", false)
  | 7 => ("IllTonightModel", "tape", "[I", true)
  | 8 => ("IllTonightModel", "taped", "I", false)
  | 9 => ("IllTonightModel", "from", "I", false)
  | 10 => ("IllTonightModel", "to", "I", false)
  | 11 => ("IllTonightModel", "sort", "I", false)
  | 12 => ("IllTonightModel", "worth", "J", false)
  | 13 => ("IllTonightModel", "fault", "I", false)
  | 14 => ("IllTonightModel", "bad", "Z", false)
  | 15 => ("IllTonightModel", "nClauses", "I", false)
  | 16 => ("IllTonightModel", "nClause", "[I", true)
  | 17 => ("IllTonightModel", "nCode", "I", false)
  | 18 => ("IllTonightModel", "nOp", "[I", true)
  | 19 => ("IllTonightModel", "nArg", "[I", true)
  | 20 => ("IllTonightModel", "nLeaves", "I", false)
  | 21 => ("IllTonightModel", "pile", "[I", true)
  | 22 => ("IllTonightModel", "pileAt", "[I", true)
  | 23 => ("IllTonightModel", "piled", "I", false)
  | 24 => ("IllTonightModel", "opened", "I", false)
  | 25 => ("IllTonightModel", "words", "[J", true)
  | 26 => ("IllTonightModel", "headWords", "[J", true)
  | 27 => ("IllTonightModel", "law", "I", false)
  | 28 => ("IllTonightModel", "set", "[J", true)
  | 29 => ("IllTonightModel", "rest", "[J", true)
  | 30 => ("IllTonightModel", "broken", "Z", false)
  | 31 => ("IllTonightModel", "value", "J", false)
  | 32 => ("IllTonightModel", "sum", "J", false)
  | 33 => ("IllTonightModel", "known", "[I", true)
  | 34 => ("IllTonightModel", "now", "I", false)
  | 35 => ("IllTonightModel", "can", "[Z", true)
  | 36 => ("IllTonightModel", "costs", "[I", true)
  | 37 => ("IllTonightModel", "leasts", "[I", true)
  | 38 => ("IllTonightModel", "ways", "[I", true)
  | 39 => ("IllTonightModel", "all", "[I", true)
  | 40 => ("IllTonightModel", "fixed", "[I", true)
  | 41 => ("IllTonightModel", "least", "I", false)
  | 42 => ("IllTonightModel", "manyLeast", "I", false)
  | 43 => ("IllTonightModel", "manyAll", "I", false)
  | 44 => ("IllTonightModel", "first", "[I", true)
  | 45 => ("IllTonightModel", "plays", "[Z", true)
  | 46 => ("IllTonightModel", "hours", "I", false)
  | 47 => ("IllTonightModel", "lessons", "I", false)
  | 48 => ("IllTonightModel", "enough", "I", false)
  | 49 => ("IllTonightModel", "weeks", "[I", true)
  | 50 => ("IllTonightModel", "learnt", "[I", true)
  | 51 => ("IllTonightModel", "faded", "[I", true)
  | 52 => ("IllTonightModel", "nWeeks", "I", false)
  | 53 => ("IllTonightModel", "nActors", "I", false)
  | _ => ("IllTonightModel", "nParts", "I", false)
def tyX9 : Nat → FieldType := fun k => match k with
  | 0 => .int
  | 1 => .int
  | 2 => .array .int
  | 3 => .array .int
  | 4 => .array .int
  | 5 => .array .boolean
  | 6 => .int
  | 7 => .array .int
  | 8 => .int
  | 9 => .int
  | 10 => .int
  | 11 => .int
  | 12 => .long
  | 13 => .int
  | 14 => .boolean
  | 15 => .int
  | 16 => .array .int
  | 17 => .int
  | 18 => .array .int
  | 19 => .array .int
  | 20 => .int
  | 21 => .array .int
  | 22 => .array .int
  | 23 => .int
  | 24 => .int
  | 25 => .array .long
  | 26 => .array .long
  | 27 => .int
  | 28 => .array .long
  | 29 => .array .long
  | 30 => .boolean
  | 31 => .long
  | 32 => .long
  | 33 => .array .int
  | 34 => .int
  | 35 => .array .boolean
  | 36 => .array .int
  | 37 => .array .int
  | 38 => .array .int
  | 39 => .array .int
  | 40 => .array .int
  | 41 => .int
  | 42 => .int
  | 43 => .int
  | 44 => .array .int
  | 45 => .array .boolean
  | 46 => .int
  | 47 => .int
  | 48 => .int
  | 49 => .array .int
  | 50 => .array .int
  | 51 => .array .int
  | 52 => .int
  | 53 => .int
  | _ => .int
abbrev wsX90 : List Cond := u_ws RX9 TX9 55
theorem nmX9 : ∀ a, a < 55 → ∀ b, b < 55 → a ≠ b → (TX9 a).2.1 ≠ (TX9 b).2.1 := by decide +kernel
theorem tyX9_ok : ∀ k, k < 55 → parseFieldDescriptor (TX9 k).2.2.1 = some (tyX9 k) := by decide +kernel
abbrev cX9_init : ByteArray := prog_11_method_1_code
def yX9_init : MethodName := ⟨RX9, "<init>", "()V"⟩
abbrev cX9_in : ByteArray := prog_11_method_3_code
def yX9_in : MethodName := ⟨RX9, "in", "(JJJ)Z"⟩
abbrev cX9_is : ByteArray := prog_11_method_4_code
def yX9_is : MethodName := ⟨RX9, "is", "(II)Z"⟩
abbrev cX9_bits : ByteArray := prog_11_method_5_code
def yX9_bits : MethodName := ⟨RX9, "bits", "(I)I"⟩
abbrev cX9_tell : ByteArray := prog_11_method_6_code
def yX9_tell : MethodName := ⟨RX9, "tell", "(I)I"⟩
abbrev cX9_was : ByteArray := prog_11_method_7_code
def yX9_was : MethodName := ⟨RX9, "was", "(I)I"⟩
abbrev cX9_change : ByteArray := prog_11_method_8_code
def yX9_change : MethodName := ⟨RX9, "change", "(II)I"⟩
abbrev cX9_image : ByteArray := prog_11_method_9_code
def yX9_image : MethodName := ⟨RX9, "image", "(I)I"⟩
abbrev cX9_back : ByteArray := prog_11_method_10_code
def yX9_back : MethodName := ⟨RX9, "back", "(I)I"⟩
abbrev cX9_isActor : ByteArray := prog_11_method_11_code
def yX9_isActor : MethodName := ⟨RX9, "isActor", "(I)Z"⟩
abbrev cX9_isPart : ByteArray := prog_11_method_12_code
def yX9_isPart : MethodName := ⟨RX9, "isPart", "(I)Z"⟩
abbrev cX9_areActors : ByteArray := prog_11_method_13_code
def yX9_areActors : MethodName := ⟨RX9, "areActors", "(I)Z"⟩
abbrev cX9_fitsActor : ByteArray := prog_11_method_14_code
def yX9_fitsActor : MethodName := ⟨RX9, "fitsActor", "(II)Z"⟩
abbrev cX9_fitsPart : ByteArray := prog_11_method_15_code
def yX9_fitsPart : MethodName := ⟨RX9, "fitsPart", "(II)Z"⟩
abbrev cX9_actor : ByteArray := prog_11_method_16_code
def yX9_actor : MethodName := ⟨RX9, "actor", "(IIII)I"⟩
abbrev cX9_part : ByteArray := prog_11_method_17_code
def yX9_part : MethodName := ⟨RX9, "part", "(III)I"⟩
abbrev cX9_turn : ByteArray := prog_11_method_18_code
def yX9_turn : MethodName := ⟨RX9, "turn", "(III)I"⟩
abbrev cX9_alter : ByteArray := prog_11_method_19_code
def yX9_alter : MethodName := ⟨RX9, "alter", "(III)I"⟩
abbrev cX9_usual : ByteArray := prog_11_method_20_code
def yX9_usual : MethodName := ⟨RX9, "usual", "(II)I"⟩
abbrev cX9_knows : ByteArray := prog_11_method_21_code
def yX9_knows : MethodName := ⟨RX9, "knows", "(III)I"⟩
abbrev cX9_ill : ByteArray := prog_11_method_22_code
def yX9_ill : MethodName := ⟨RX9, "ill", "(I)I"⟩
abbrev cX9_terms : ByteArray := prog_11_method_23_code
def yX9_terms : MethodName := ⟨RX9, "terms", "(II)I"⟩
abbrev cX9_row : ByteArray := prog_11_method_24_code
def yX9_row : MethodName := ⟨RX9, "row", "()I"⟩
abbrev cX9_forgot : ByteArray := prog_11_method_25_code
def yX9_forgot : MethodName := ⟨RX9, "forgot", "()I"⟩
abbrev cX9_four : ByteArray := prog_11_method_26_code
def yX9_four : MethodName := ⟨RX9, "four", "(I)V"⟩
abbrev cX9_feed : ByteArray := prog_11_method_27_code
def yX9_feed : MethodName := ⟨RX9, "feed", "(IIIII)I"⟩
abbrev cX9_end : ByteArray := prog_11_method_28_code
def yX9_end : MethodName := ⟨RX9, "end", "(I)I"⟩
abbrev cX9_isSmall : ByteArray := prog_11_method_29_code
def yX9_isSmall : MethodName := ⟨RX9, "isSmall", "(I)Z"⟩
abbrev cX9_isDigit : ByteArray := prog_11_method_30_code
def yX9_isDigit : MethodName := ⟨RX9, "isDigit", "(I)Z"⟩
abbrev cX9_begin : ByteArray := prog_11_method_31_code
def yX9_begin : MethodName := ⟨RX9, "begin", "()V"⟩
abbrev cX9_next : ByteArray := prog_11_method_32_code
def yX9_next : MethodName := ⟨RX9, "next", "()V"⟩
abbrev cX9_isWord : ByteArray := prog_11_method_33_code
def yX9_isWord : MethodName := ⟨RX9, "isWord", "(J)Z"⟩
abbrev cX9_isSign : ByteArray := prog_11_method_34_code
def yX9_isSign : MethodName := ⟨RX9, "isSign", "(I)Z"⟩
abbrev cX9_must : ByteArray := prog_11_method_35_code
def yX9_must : MethodName := ⟨RX9, "must", "(Z)V"⟩
abbrev cX9_fault : ByteArray := prog_11_method_37_code
def yX9_fault : MethodName := ⟨RX9, "fault", "()I"⟩
abbrev cX9_emit : ByteArray := prog_11_method_38_code
def yX9_emit : MethodName := ⟨RX9, "emit", "(II)V"⟩
abbrev cX9_push : ByteArray := prog_11_method_39_code
def yX9_push : MethodName := ⟨RX9, "push", "(II)V"⟩
abbrev cX9_binds : ByteArray := prog_11_method_40_code
def yX9_binds : MethodName := ⟨RX9, "binds", "(I)I"⟩
abbrev cX9_settle : ByteArray := prog_11_method_41_code
def yX9_settle : MethodName := ⟨RX9, "settle", "(I)V"⟩
abbrev cX9_inner : ByteArray := prog_11_method_42_code
def yX9_inner : MethodName := ⟨RX9, "inner", "()I"⟩
abbrev cX9_isCompared : ByteArray := prog_11_method_43_code
def yX9_isCompared : MethodName := ⟨RX9, "isCompared", "()Z"⟩
abbrev cX9_partAt : ByteArray := prog_11_method_44_code
def yX9_partAt : MethodName := ⟨RX9, "partAt", "()I"⟩
abbrev cX9_openBracket : ByteArray := prog_11_method_45_code
def yX9_openBracket : MethodName := ⟨RX9, "openBracket", "(I)V"⟩
abbrev cX9_leaf : ByteArray := prog_11_method_46_code
def yX9_leaf : MethodName := ⟨RX9, "leaf", "(ZII)V"⟩
abbrev cX9_readPart : ByteArray := prog_11_method_47_code
def yX9_readPart : MethodName := ⟨RX9, "readPart", "()I"⟩
abbrev cX9_readPlain : ByteArray := prog_11_method_48_code
def yX9_readPlain : MethodName := ⟨RX9, "readPlain", "()I"⟩
abbrev cX9_behindSum : ByteArray := prog_11_method_49_code
def yX9_behindSum : MethodName := ⟨RX9, "behindSum", "(Z)I"⟩
abbrev cX9_behindTest : ByteArray := prog_11_method_50_code
def yX9_behindTest : MethodName := ⟨RX9, "behindTest", "()I"⟩
abbrev cX9_readExpression : ByteArray := prog_11_method_51_code
def yX9_readExpression : MethodName := ⟨RX9, "readExpression", "(Z)V"⟩
abbrev cX9_readClause : ByteArray := prog_11_method_52_code
def yX9_readClause : MethodName := ⟨RX9, "readClause", "()V"⟩
abbrev cX9_law : ByteArray := prog_11_method_53_code
def yX9_law : MethodName := ⟨RX9, "law", "()I"⟩
abbrev cX9_force : ByteArray := prog_11_method_54_code
def yX9_force : MethodName := ⟨RX9, "force", "(I)I"⟩
abbrev cX9_reckon : ByteArray := prog_11_method_55_code
def yX9_reckon : MethodName := ⟨RX9, "reckon", "(IJJ)J"⟩
abbrev cX9_reckonAll : ByteArray := prog_11_method_56_code
def yX9_reckonAll : MethodName := ⟨RX9, "reckonAll", "(II)V"⟩
abbrev cX9_isSo : ByteArray := prog_11_method_57_code
def yX9_isSo : MethodName := ⟨RX9, "isSo", "(I)Z"⟩
abbrev cX9_tells : ByteArray := prog_11_method_58_code
def yX9_tells : MethodName := ⟨RX9, "tells", "(IIIII)I"⟩
abbrev cX9_asIs : ByteArray := prog_11_method_59_code
def yX9_asIs : MethodName := ⟨RX9, "asIs", "()V"⟩
abbrev cX9_find : ByteArray := prog_11_method_60_code
def yX9_find : MethodName := ⟨RX9, "find", "()V"⟩
abbrev cX9_of : ByteArray := prog_11_method_61_code
def yX9_of : MethodName := ⟨RX9, "of", "(III)I"⟩
abbrev cX9_may : ByteArray := prog_11_method_62_code
def yX9_may : MethodName := ⟨RX9, "may", "(II)Z"⟩
abbrev cX9_canDouble : ByteArray := prog_11_method_63_code
def yX9_canDouble : MethodName := ⟨RX9, "canDouble", "(II)Z"⟩
abbrev cX9_capped : ByteArray := prog_11_method_64_code
def yX9_capped : MethodName := ⟨RX9, "capped", "(J)I"⟩
abbrev cX9_reach : ByteArray := prog_11_method_65_code
def yX9_reach : MethodName := ⟨RX9, "reach", "(III)V"⟩
abbrev cX9_fill : ByteArray := prog_11_method_66_code
def yX9_fill : MethodName := ⟨RX9, "fill", "(I)V"⟩
abbrev cX9_free : ByteArray := prog_11_method_67_code
def yX9_free : MethodName := ⟨RX9, "free", "()V"⟩
abbrev cX9_findFirst : ByteArray := prog_11_method_68_code
def yX9_findFirst : MethodName := ⟨RX9, "findFirst", "(I)Z"⟩
abbrev cX9_findNth : ByteArray := prog_11_method_69_code
def yX9_findNth : MethodName := ⟨RX9, "findNth", "(II)Z"⟩
abbrev cX9_lay : ByteArray := prog_11_method_70_code
def yX9_lay : MethodName := ⟨RX9, "lay", "()V"⟩
abbrev cX9_night : ByteArray := prog_11_method_71_code
def yX9_night : MethodName := ⟨RX9, "night", "(I)I"⟩
abbrev cX9_isPlayed : ByteArray := prog_11_method_72_code
def yX9_isPlayed : MethodName := ⟨RX9, "isPlayed", "()Z"⟩
abbrev cX9_who : ByteArray := prog_11_method_73_code
def yX9_who : MethodName := ⟨RX9, "who", "(I)I"⟩
abbrev cX9_usually : ByteArray := prog_11_method_74_code
def yX9_usually : MethodName := ⟨RX9, "usually", "(I)I"⟩
abbrev cX9_changed : ByteArray := prog_11_method_75_code
def yX9_changed : MethodName := ⟨RX9, "changed", "()I"⟩
abbrev cX9_chain : ByteArray := prog_11_method_76_code
def yX9_chain : MethodName := ⟨RX9, "chain", "(II)I"⟩
abbrev cX9_nth : ByteArray := prog_11_method_77_code
def yX9_nth : MethodName := ⟨RX9, "nth", "(II)I"⟩
abbrev cX9_gives : ByteArray := prog_11_method_78_code
def yX9_gives : MethodName := ⟨RX9, "gives", "(I)I"⟩
abbrev cX9_clear : ByteArray := prog_11_method_79_code
def yX9_clear : MethodName := ⟨RX9, "clear", "()I"⟩
abbrev cX9_isRight : ByteArray := prog_11_method_80_code
def yX9_isRight : MethodName := ⟨RX9, "isRight", "(I)Z"⟩
abbrev cX9_judge : ByteArray := prog_11_method_81_code
def yX9_judge : MethodName := ⟨RX9, "judge", "(I)I"⟩
abbrev cX9_findPlays : ByteArray := prog_11_method_82_code
def yX9_findPlays : MethodName := ⟨RX9, "findPlays", "()V"⟩
abbrev cX9_addActor : ByteArray := prog_11_method_83_code
def yX9_addActor : MethodName := ⟨RX9, "addActor", "(III)V"⟩
abbrev cX9_isShut : ByteArray := prog_11_method_84_code
def yX9_isShut : MethodName := ⟨RX9, "isShut", "(I)Z"⟩
abbrev cX9_layPlays : ByteArray := prog_11_method_85_code
def yX9_layPlays : MethodName := ⟨RX9, "layPlays", "()V"⟩
abbrev cX9_shut : ByteArray := prog_11_method_86_code
def yX9_shut : MethodName := ⟨RX9, "shut", "(I)I"⟩
abbrev cX9_isClosing : ByteArray := prog_11_method_87_code
def yX9_isClosing : MethodName := ⟨RX9, "isClosing", "(I)Z"⟩
abbrev cX9_closing : ByteArray := prog_11_method_88_code
def yX9_closing : MethodName := ⟨RX9, "closing", "(I)I"⟩
abbrev cX9_shutBy : ByteArray := prog_11_method_89_code
def yX9_shutBy : MethodName := ⟨RX9, "shutBy", "(I)I"⟩
abbrev cX9_safe : ByteArray := prog_11_method_90_code
def yX9_safe : MethodName := ⟨RX9, "safe", "(I)I"⟩
abbrev cX9_unsf : ByteArray := prog_11_method_91_code
def yX9_unsf : MethodName := lw_nm tables_1[1614]?
abbrev cX9_most : ByteArray := prog_11_method_92_code
def yX9_most : MethodName := ⟨RX9, "most", "()I"⟩
abbrev cX9_missed : ByteArray := prog_11_method_93_code
def yX9_missed : MethodName := ⟨RX9, "missed", "(I)I"⟩
abbrev cX9_key : ByteArray := prog_11_method_94_code
def yX9_key : MethodName := ⟨RX9, "key", "(I)I"⟩
abbrev cX9_odds : ByteArray := prog_11_method_95_code
def yX9_odds : MethodName := ⟨RX9, "odds", "(I)J"⟩
abbrev cX9_isLesson : ByteArray := prog_11_method_96_code
def yX9_isLesson : MethodName := ⟨RX9, "isLesson", "(I)Z"⟩
abbrev cX9_ofLesson : ByteArray := prog_11_method_97_code
def yX9_ofLesson : MethodName := ⟨RX9, "ofLesson", "(II)I"⟩
abbrev cX9_lesson : ByteArray := prog_11_method_98_code
def yX9_lesson : MethodName := ⟨RX9, "lesson", "(IIII)I"⟩
abbrev cX9_out : ByteArray := prog_11_method_99_code
def yX9_out : MethodName := ⟨RX9, "out", "(I)V"⟩
abbrev cX9_drop : ByteArray := prog_11_method_100_code
def yX9_drop : MethodName := ⟨RX9, "drop", "(I)I"⟩
abbrev cX9_findLessons : ByteArray := prog_11_method_101_code
def yX9_findLessons : MethodName := ⟨RX9, "findLessons", "(II)V"⟩
abbrev cX9_learn : ByteArray := prog_11_method_102_code
def yX9_learn : MethodName := ⟨RX9, "learn", "(II)I"⟩
abbrev cX9_worth : ByteArray := prog_11_method_103_code
def yX9_worth : MethodName := ⟨RX9, "worth", "(II)I"⟩
abbrev cX9_teach : ByteArray := prog_11_method_104_code
def yX9_teach : MethodName := ⟨RX9, "teach", "(I)I"⟩
abbrev cX9_season : ByteArray := prog_11_method_105_code
def yX9_season : MethodName := ⟨RX9, "season", "(II)I"⟩
abbrev cX9_goOn : ByteArray := prog_11_method_106_code
def yX9_goOn : MethodName := ⟨RX9, "goOn", "(I)V"⟩
abbrev cX9_week : ByteArray := prog_11_method_107_code
def yX9_week : MethodName := ⟨RX9, "week", "(II)I"⟩
abbrev cX9_learnt : ByteArray := prog_11_method_108_code
def yX9_learnt : MethodName := ⟨RX9, "learnt", "(II)I"⟩
abbrev cX9_count : ByteArray := prog_11_method_109_code
def yX9_count : MethodName := ⟨RX9, "count", "(I)I"⟩
abbrev cX9_status : ByteArray := prog_11_method_110_code
def yX9_status : MethodName := ⟨RX9, "status", "()I"⟩
def RJx145de : String := "java/io/Serializable"
def TJx145de : u_T := fun k => match k with
  | _ => ("", "", "", false)
def tyJx145de : Nat → FieldType := fun k => match k with
  | _ => .int
abbrev wsJx145de0 : List Cond := u_ws RJx145de TJx145de 0
theorem nmJx145de : ∀ a, a < 0 → ∀ b, b < 0 → a ≠ b → (TJx145de a).2.1 ≠ (TJx145de b).2.1 := by decide +kernel
theorem tyJx145de_ok : ∀ k, k < 0 → parseFieldDescriptor (TJx145de k).2.2.1 = some (tyJx145de k) := by decide +kernel
def RJx9f9b0 : String := "java/lang/CharSequence"
def TJx9f9b0 : u_T := fun k => match k with
  | _ => ("", "", "", false)
def tyJx9f9b0 : Nat → FieldType := fun k => match k with
  | _ => .int
abbrev wsJx9f9b00 : List Cond := u_ws RJx9f9b0 TJx9f9b0 0
theorem nmJx9f9b0 : ∀ a, a < 0 → ∀ b, b < 0 → a ≠ b → (TJx9f9b0 a).2.1 ≠ (TJx9f9b0 b).2.1 := by decide +kernel
theorem tyJx9f9b0_ok : ∀ k, k < 0 → parseFieldDescriptor (TJx9f9b0 k).2.2.1 = some (tyJx9f9b0 k) := by decide +kernel
def RJx8e188 : String := "java/lang/Cloneable"
def TJx8e188 : u_T := fun k => match k with
  | _ => ("", "", "", false)
def tyJx8e188 : Nat → FieldType := fun k => match k with
  | _ => .int
abbrev wsJx8e1880 : List Cond := u_ws RJx8e188 TJx8e188 0
theorem nmJx8e188 : ∀ a, a < 0 → ∀ b, b < 0 → a ≠ b → (TJx8e188 a).2.1 ≠ (TJx8e188 b).2.1 := by decide +kernel
theorem tyJx8e188_ok : ∀ k, k < 0 → parseFieldDescriptor (TJx8e188 k).2.2.1 = some (tyJx8e188 k) := by decide +kernel
def RJxb160c : String := "java/lang/Comparable"
def TJxb160c : u_T := fun k => match k with
  | _ => ("", "", "", false)
def tyJxb160c : Nat → FieldType := fun k => match k with
  | _ => .int
abbrev wsJxb160c0 : List Cond := u_ws RJxb160c TJxb160c 0
theorem nmJxb160c : ∀ a, a < 0 → ∀ b, b < 0 → a ≠ b → (TJxb160c a).2.1 ≠ (TJxb160c b).2.1 := by decide +kernel
theorem tyJxb160c_ok : ∀ k, k < 0 → parseFieldDescriptor (TJxb160c k).2.2.1 = some (tyJxb160c k) := by decide +kernel
def RJ6 : String := "java/lang/Integer"
def TJ6 : u_T := fun k => match k with
  | _ => ("", "", "", false)
def tyJ6 : Nat → FieldType := fun k => match k with
  | _ => .int
abbrev wsJ60 : List Cond := u_ws RJ6 TJ6 0
theorem nmJ6 : ∀ a, a < 0 → ∀ b, b < 0 → a ≠ b → (TJ6 a).2.1 ≠ (TJ6 b).2.1 := by decide +kernel
theorem tyJ6_ok : ∀ k, k < 0 → parseFieldDescriptor (TJ6 k).2.2.1 = some (tyJ6 k) := by decide +kernel
abbrev cJ6_numberOfTrailingZeros_0f7a4 : ByteArray := prog_13_method_48_code
def yJ6_numberOfTrailingZeros_0f7a4 : MethodName := ⟨RJ6, "numberOfTrailingZeros", "(I)I"⟩
abbrev cJ6_bitCount_0f7a4 : ByteArray := prog_13_method_49_code
def yJ6_bitCount_0f7a4 : MethodName := ⟨RJ6, "bitCount", "(I)I"⟩
def RJ13 : String := "java/lang/Long"
def TJ13 : u_T := fun k => match k with
  | _ => ("", "", "", false)
def tyJ13 : Nat → FieldType := fun k => match k with
  | _ => .int
abbrev wsJ130 : List Cond := u_ws RJ13 TJ13 0
theorem nmJ13 : ∀ a, a < 0 → ∀ b, b < 0 → a ≠ b → (TJ13 a).2.1 ≠ (TJ13 b).2.1 := by decide +kernel
theorem tyJ13_ok : ∀ k, k < 0 → parseFieldDescriptor (TJ13 k).2.2.1 = some (tyJ13 k) := by decide +kernel
abbrev cJ13_compare_74951 : ByteArray := prog_14_method_42_code
def yJ13_compare_74951 : MethodName := ⟨RJ13, "compare", "(JJ)I"⟩
def RJ9 : String := "java/lang/Math"
def TJ9 : u_T := fun k => match k with
  | _ => ("", "", "", false)
def tyJ9 : Nat → FieldType := fun k => match k with
  | _ => .int
abbrev wsJ90 : List Cond := u_ws RJ9 TJ9 0
theorem nmJ9 : ∀ a, a < 0 → ∀ b, b < 0 → a ≠ b → (TJ9 a).2.1 ≠ (TJ9 b).2.1 := by decide +kernel
theorem tyJ9_ok : ∀ k, k < 0 → parseFieldDescriptor (TJ9 k).2.2.1 = some (tyJ9 k) := by decide +kernel
abbrev cJ9_max_7cf53 : ByteArray := prog_15_method_65_code
def yJ9_max_7cf53 : MethodName := ⟨RJ9, "max", "(II)I"⟩
abbrev cJ9_min_7cf53 : ByteArray := prog_15_method_69_code
def yJ9_min_7cf53 : MethodName := ⟨RJ9, "min", "(II)I"⟩
abbrev cJ9_min_f86c9 : ByteArray := prog_15_method_70_code
def yJ9_min_f86c9 : MethodName := ⟨RJ9, "min", "(JJ)J"⟩
def RJ0 : String := "java/lang/String"
def TJ0 : u_T := fun k => match k with
  | _ => ("", "", "", false)
def tyJ0 : Nat → FieldType := fun k => match k with
  | _ => .int
abbrev wsJ00 : List Cond := u_ws RJ0 TJ0 0
theorem nmJ0 : ∀ a, a < 0 → ∀ b, b < 0 → a ≠ b → (TJ0 a).2.1 ≠ (TJ0 b).2.1 := by decide +kernel
theorem tyJ0_ok : ∀ k, k < 0 → parseFieldDescriptor (TJ0 k).2.2.1 = some (tyJ0 k) := by decide +kernel
abbrev cJ0_charAt_5068e : ByteArray := prog_16_method_56_code
def yJ0_charAt_5068e : MethodName := ⟨RJ0, "charAt", "(I)C"⟩
abbrev cJ0_isLatin1_aae02 : ByteArray := prog_16_method_154_code
def yJ0_isLatin1_aae02 : MethodName := ⟨RJ0, "isLatin1", "()Z"⟩
abbrev cJ0_checkIndex_df160 : ByteArray := prog_16_method_155_code
def yJ0_checkIndex_df160 : MethodName := ⟨RJ0, "checkIndex", "(II)V"⟩
def RJ1 : String := "java/lang/StringLatin1"
def TJ1 : u_T := fun k => match k with
  | _ => ("", "", "", false)
def tyJ1 : Nat → FieldType := fun k => match k with
  | _ => .int
abbrev wsJ10 : List Cond := u_ws RJ1 TJ1 0
theorem nmJ1 : ∀ a, a < 0 → ∀ b, b < 0 → a ≠ b → (TJ1 a).2.1 ≠ (TJ1 b).2.1 := by decide +kernel
theorem tyJ1_ok : ∀ k, k < 0 → parseFieldDescriptor (TJ1 k).2.2.1 = some (tyJ1 k) := by decide +kernel
abbrev cJ1_charAt_3b067 : ByteArray := prog_17_method_2_code
def yJ1_charAt_3b067 : MethodName := ⟨RJ1, "charAt", "([BI)C"⟩
def RJ2 : String := "java/lang/StringUTF16"
def TJ2 : u_T := fun k => match k with
  | _ => ("", "", "", false)
def tyJ2 : Nat → FieldType := fun k => match k with
  | _ => .int
abbrev wsJ20 : List Cond := u_ws RJ2 TJ2 0
theorem nmJ2 : ∀ a, a < 0 → ∀ b, b < 0 → a ≠ b → (TJ2 a).2.1 ≠ (TJ2 b).2.1 := by decide +kernel
theorem tyJ2_ok : ∀ k, k < 0 → parseFieldDescriptor (TJ2 k).2.2.1 = some (tyJ2 k) := by decide +kernel
abbrev cJ2_getChar_3b067 : ByteArray := prog_18_method_5_code
def yJ2_getChar_3b067 : MethodName := ⟨RJ2, "getChar", "([BI)C"⟩
abbrev cJ2_length_9d52b : ByteArray := prog_18_method_6_code
def yJ2_length_9d52b : MethodName := ⟨RJ2, "length", "([B)I"⟩
abbrev cJ2_charAt_3b067 : ByteArray := prog_18_method_83_code
def yJ2_charAt_3b067 : MethodName := ⟨RJ2, "charAt", "([BI)C"⟩
abbrev cJ2_checkIndex_2214a : ByteArray := prog_18_method_91_code
def yJ2_checkIndex_2214a : MethodName := ⟨RJ2, "checkIndex", "(I[B)V"⟩
def RJ10 : String := "java/lang/System"
def TJ10 : u_T := fun k => match k with
  | _ => ("", "", "", false)
def tyJ10 : Nat → FieldType := fun k => match k with
  | _ => .int
abbrev wsJ100 : List Cond := u_ws RJ10 TJ10 0
theorem nmJ10 : ∀ a, a < 0 → ∀ b, b < 0 → a ≠ b → (TJ10 a).2.1 ≠ (TJ10 b).2.1 := by decide +kernel
theorem tyJ10_ok : ∀ k, k < 0 → parseFieldDescriptor (TJ10 k).2.2.1 = some (tyJ10 k) := by decide +kernel
def RJxfd54e : String := "java/lang/constant/Constable"
def TJxfd54e : u_T := fun k => match k with
  | _ => ("", "", "", false)
def tyJxfd54e : Nat → FieldType := fun k => match k with
  | _ => .int
abbrev wsJxfd54e0 : List Cond := u_ws RJxfd54e TJxfd54e 0
theorem nmJxfd54e : ∀ a, a < 0 → ∀ b, b < 0 → a ≠ b → (TJxfd54e a).2.1 ≠ (TJxfd54e b).2.1 := by decide +kernel
theorem tyJxfd54e_ok : ∀ k, k < 0 → parseFieldDescriptor (TJxfd54e k).2.2.1 = some (tyJxfd54e k) := by decide +kernel
def RJx3cf43 : String := "java/lang/constant/ConstantDesc"
def TJx3cf43 : u_T := fun k => match k with
  | _ => ("", "", "", false)
def tyJx3cf43 : Nat → FieldType := fun k => match k with
  | _ => .int
abbrev wsJx3cf430 : List Cond := u_ws RJx3cf43 TJx3cf43 0
theorem nmJx3cf43 : ∀ a, a < 0 → ∀ b, b < 0 → a ≠ b → (TJx3cf43 a).2.1 ≠ (TJx3cf43 b).2.1 := by decide +kernel
theorem tyJx3cf43_ok : ∀ k, k < 0 → parseFieldDescriptor (TJx3cf43 k).2.2.1 = some (tyJx3cf43 k) := by decide +kernel
def RJ7 : String := "java/util/Arrays"
def TJ7 : u_T := fun k => match k with
  | _ => ("", "", "", false)
def tyJ7 : Nat → FieldType := fun k => match k with
  | _ => .int
abbrev wsJ70 : List Cond := u_ws RJ7 TJ7 0
theorem nmJ7 : ∀ a, a < 0 → ∀ b, b < 0 → a ≠ b → (TJ7 a).2.1 ≠ (TJ7 b).2.1 := by decide +kernel
theorem tyJ7_ok : ∀ k, k < 0 → parseFieldDescriptor (TJ7 k).2.2.1 = some (tyJ7 k) := by decide +kernel
abbrev cJ7_rangeCheck_23922 : ByteArray := prog_20_method_30_code
def yJ7_rangeCheck_23922 : MethodName := ⟨RJ7, "rangeCheck", "(III)V"⟩
abbrev cJ7_fill_bad5a : ByteArray := prog_20_method_102_code
def yJ7_fill_bad5a : MethodName := ⟨RJ7, "fill", "([JIIJ)V"⟩
abbrev cJ7_fill_53178 : ByteArray := prog_20_method_103_code
def yJ7_fill_53178 : MethodName := ⟨RJ7, "fill", "([II)V"⟩
abbrev cJ7_copyOf_59c91 : ByteArray := prog_20_method_123_code
def yJ7_copyOf_59c91 : MethodName := ⟨RJ7, "copyOf", "([II)[I"⟩
def RJ3 : String := "jdk/internal/util/Preconditions"
def TJ3 : u_T := fun k => match k with
  | _ => ("", "", "", false)
def tyJ3 : Nat → FieldType := fun k => match k with
  | _ => .int
abbrev wsJ30 : List Cond := u_ws RJ3 TJ3 0
theorem nmJ3 : ∀ a, a < 0 → ∀ b, b < 0 → a ≠ b → (TJ3 a).2.1 ≠ (TJ3 b).2.1 := by decide +kernel
theorem tyJ3_ok : ∀ k, k < 0 → parseFieldDescriptor (TJ3 k).2.2.1 = some (tyJ3 k) := by decide +kernel
abbrev cJ3_checkIndex_8e157 : ByteArray := prog_21_method_11_code
def yJ3_checkIndex_8e157 : MethodName := ⟨RJ3, "checkIndex", "(IILjava/util/function/BiFunction;)I"⟩
def RL : String := "IllTonightLaw"
abbrev vwCl : List vw_C := [(RX0, TX0, 7), (RX1, TX1, 7), (RX2, TX2, 3), (RX3, TX3, 10), (RX4, TX4, 5), (RX5, TX5, 12), (RX6, TX6, 7), (RX7, TX7, 15), (RX8, TX8, 19), (RX9, TX9, 55)]
theorem ixX0 : ∀ w ∈ u_ws RX0 TX0 7, w ∈ lw_tbl := by decide +kernel
theorem ixX1 : ∀ w ∈ u_ws RX1 TX1 7, w ∈ lw_tbl := by decide +kernel
theorem ixX2 : ∀ w ∈ u_ws RX2 TX2 3, w ∈ lw_tbl := by decide +kernel
theorem ixX3 : ∀ w ∈ u_ws RX3 TX3 10, w ∈ lw_tbl := by decide +kernel
theorem ixX4 : ∀ w ∈ u_ws RX4 TX4 5, w ∈ lw_tbl := by decide +kernel
theorem ixX5 : ∀ w ∈ u_ws RX5 TX5 12, w ∈ lw_tbl := by decide +kernel
theorem ixX6 : ∀ w ∈ u_ws RX6 TX6 7, w ∈ lw_tbl := by decide +kernel
theorem ixX7 : ∀ w ∈ u_ws RX7 TX7 15, w ∈ lw_tbl := by decide +kernel
theorem ixX8 : ∀ w ∈ u_ws RX8 TX8 19, w ∈ lw_tbl := by decide +kernel
theorem ixX9 : ∀ w ∈ u_ws RX9 TX9 55, w ∈ lw_tbl := by decide +kernel
