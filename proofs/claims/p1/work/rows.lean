section
-- ===== PART A: goes FIRST, ahead of the names: the tables' words, and 'selects' of the private methods out of them =====
/-- a private method of a class that the tables say can be made, by its rows of tables_1 -/
def lw_okq (q : MethodName × Nat) : Prop := (q.1.cls ≠ "java/lang/invoke/MethodHandle" ∧ q.1.cls ≠ "java/lang/invoke/VarHandle") ∧ Cond.instantiable q.1.cls q.2 ∈ tables_1 ∧ Cond.privateMethod q.1 ∈ tables_1 ∧ Cond.instanceMethod q.1 ∈ tables_1
theorem lw_p0 : lw_okq (⟨"SlideNight", "addBytes", "(I)V"⟩, 13) := ⟨⟨by decide +kernel, by decide +kernel⟩, List.mem_of_getElem? (i := 23) (by decide +kernel), List.mem_of_getElem? (i := 463) (by decide +kernel), List.mem_of_getElem? (i := 464) (by decide +kernel)⟩
theorem lw_p1 : lw_okq (⟨"SlideNight", "tapeIsPicture", "()Z"⟩, 13) := ⟨⟨by decide +kernel, by decide +kernel⟩, List.mem_of_getElem? (i := 23) (by decide +kernel), List.mem_of_getElem? (i := 474) (by decide +kernel), List.mem_of_getElem? (i := 475) (by decide +kernel)⟩
theorem lw_p2 : lw_okq (⟨"SlideNight$Slide", "looksRightBy", "(I)Z"⟩, 10) := ⟨⟨by decide +kernel, by decide +kernel⟩, List.mem_of_getElem? (i := 38) (by decide +kernel), List.mem_of_getElem? (i := 485) (by decide +kernel), List.mem_of_getElem? (i := 486) (by decide +kernel)⟩
theorem lw_p3 : lw_okq (⟨"SlideNight", "tapeHas", "(III)Z"⟩, 13) := ⟨⟨by decide +kernel, by decide +kernel⟩, List.mem_of_getElem? (i := 23) (by decide +kernel), List.mem_of_getElem? (i := 530) (by decide +kernel), List.mem_of_getElem? (i := 531) (by decide +kernel)⟩
theorem lw_p4 : lw_okq (⟨"SlideNight$TrayText", "readItems", "(I)V"⟩, 6) := ⟨⟨by decide +kernel, by decide +kernel⟩, List.mem_of_getElem? (i := 162) (by decide +kernel), List.mem_of_getElem? (i := 541) (by decide +kernel), List.mem_of_getElem? (i := 542) (by decide +kernel)⟩
theorem lw_p5 : lw_okq (⟨"SlideNight$TrayText", "readItem", "(I)V"⟩, 6) := ⟨⟨by decide +kernel, by decide +kernel⟩, List.mem_of_getElem? (i := 162) (by decide +kernel), List.mem_of_getElem? (i := 545) (by decide +kernel), List.mem_of_getElem? (i := 546) (by decide +kernel)⟩
theorem lw_p6 : lw_okq (⟨"SlideNight$TrayText", "sign", "()I"⟩, 6) := ⟨⟨by decide +kernel, by decide +kernel⟩, List.mem_of_getElem? (i := 162) (by decide +kernel), List.mem_of_getElem? (i := 549) (by decide +kernel), List.mem_of_getElem? (i := 550) (by decide +kernel)⟩
theorem lw_p7 : lw_okq (⟨"SlideNight$TrayText", "readRounds", "(I)V"⟩, 6) := ⟨⟨by decide +kernel, by decide +kernel⟩, List.mem_of_getElem? (i := 162) (by decide +kernel), List.mem_of_getElem? (i := 553) (by decide +kernel), List.mem_of_getElem? (i := 554) (by decide +kernel)⟩
theorem lw_p8 : lw_okq (⟨"SlideNight$TrayText", "fail", "(II)V"⟩, 6) := ⟨⟨by decide +kernel, by decide +kernel⟩, List.mem_of_getElem? (i := 162) (by decide +kernel), List.mem_of_getElem? (i := 557) (by decide +kernel), List.mem_of_getElem? (i := 558) (by decide +kernel)⟩
theorem lw_p9 : lw_okq (⟨"SlideNight$TrayText", "repeat", "(III)V"⟩, 6) := ⟨⟨by decide +kernel, by decide +kernel⟩, List.mem_of_getElem? (i := 162) (by decide +kernel), List.mem_of_getElem? (i := 562) (by decide +kernel), List.mem_of_getElem? (i := 563) (by decide +kernel)⟩
theorem lw_p10 : lw_okq (⟨"SlideNight$TrayText", "append", "(I)V"⟩, 6) := ⟨⟨by decide +kernel, by decide +kernel⟩, List.mem_of_getElem? (i := 162) (by decide +kernel), List.mem_of_getElem? (i := 570) (by decide +kernel), List.mem_of_getElem? (i := 571) (by decide +kernel)⟩
theorem lw_p11 : lw_okq (⟨"SlideNight$TrayText", "readRow", "()V"⟩, 6) := ⟨⟨by decide +kernel, by decide +kernel⟩, List.mem_of_getElem? (i := 162) (by decide +kernel), List.mem_of_getElem? (i := 574) (by decide +kernel), List.mem_of_getElem? (i := 575) (by decide +kernel)⟩
theorem lw_p12 : lw_okq (⟨"SlideNight$TrayText", "readNumber", "()I"⟩, 6) := ⟨⟨by decide +kernel, by decide +kernel⟩, List.mem_of_getElem? (i := 162) (by decide +kernel), List.mem_of_getElem? (i := 578) (by decide +kernel), List.mem_of_getElem? (i := 579) (by decide +kernel)⟩
theorem lw_p13 : lw_okq (⟨"SlideNight$LawReader", "readClause", "()V"⟩, 5) := ⟨⟨by decide +kernel, by decide +kernel⟩, List.mem_of_getElem? (i := 246) (by decide +kernel), List.mem_of_getElem? (i := 598) (by decide +kernel), List.mem_of_getElem? (i := 599) (by decide +kernel)⟩
theorem lw_p14 : lw_okq (⟨"SlideNight$LawReader", "sign", "()I"⟩, 5) := ⟨⟨by decide +kernel, by decide +kernel⟩, List.mem_of_getElem? (i := 246) (by decide +kernel), List.mem_of_getElem? (i := 602) (by decide +kernel), List.mem_of_getElem? (i := 603) (by decide +kernel)⟩
theorem lw_p15 : lw_okq (⟨"SlideNight$LawReader", "fail", "(I)V"⟩, 5) := ⟨⟨by decide +kernel, by decide +kernel⟩, List.mem_of_getElem? (i := 246) (by decide +kernel), List.mem_of_getElem? (i := 689) (by decide +kernel), List.mem_of_getElem? (i := 690) (by decide +kernel)⟩
def lw_privs_1 : List (MethodName × Nat) := [(⟨"SlideNight", "addBytes", "(I)V"⟩, 13), (⟨"SlideNight", "tapeIsPicture", "()Z"⟩, 13), (⟨"SlideNight$Slide", "looksRightBy", "(I)Z"⟩, 10), (⟨"SlideNight", "tapeHas", "(III)Z"⟩, 13), (⟨"SlideNight$TrayText", "readItems", "(I)V"⟩, 6), (⟨"SlideNight$TrayText", "readItem", "(I)V"⟩, 6), (⟨"SlideNight$TrayText", "sign", "()I"⟩, 6), (⟨"SlideNight$TrayText", "readRounds", "(I)V"⟩, 6), (⟨"SlideNight$TrayText", "fail", "(II)V"⟩, 6), (⟨"SlideNight$TrayText", "repeat", "(III)V"⟩, 6), (⟨"SlideNight$TrayText", "append", "(I)V"⟩, 6), (⟨"SlideNight$TrayText", "readRow", "()V"⟩, 6), (⟨"SlideNight$TrayText", "readNumber", "()I"⟩, 6), (⟨"SlideNight$LawReader", "readClause", "()V"⟩, 5), (⟨"SlideNight$LawReader", "sign", "()I"⟩, 5), (⟨"SlideNight$LawReader", "fail", "(I)V"⟩, 5)]
theorem lw_r1 : ∀ q ∈ lw_privs_1, lw_okq q := List.forall_mem_cons.mpr ⟨lw_p0, List.forall_mem_cons.mpr ⟨lw_p1, List.forall_mem_cons.mpr ⟨lw_p2, List.forall_mem_cons.mpr ⟨lw_p3, List.forall_mem_cons.mpr ⟨lw_p4, List.forall_mem_cons.mpr ⟨lw_p5, List.forall_mem_cons.mpr ⟨lw_p6, List.forall_mem_cons.mpr ⟨lw_p7, List.forall_mem_cons.mpr ⟨lw_p8, List.forall_mem_cons.mpr ⟨lw_p9, List.forall_mem_cons.mpr ⟨lw_p10, List.forall_mem_cons.mpr ⟨lw_p11, List.forall_mem_cons.mpr ⟨lw_p12, List.forall_mem_cons.mpr ⟨lw_p13, List.forall_mem_cons.mpr ⟨lw_p14, List.forall_mem_cons.mpr ⟨lw_p15, fun _ h => absurd h List.not_mem_nil⟩⟩⟩⟩⟩⟩⟩⟩⟩⟩⟩⟩⟩⟩⟩⟩
theorem lw_p16 : lw_okq (⟨"SlideNight$LawReader", "readSum", "(I)V"⟩, 5) := ⟨⟨by decide +kernel, by decide +kernel⟩, List.mem_of_getElem? (i := 246) (by decide +kernel), List.mem_of_getElem? (i := 697) (by decide +kernel), List.mem_of_getElem? (i := 698) (by decide +kernel)⟩
theorem lw_p17 : lw_okq (⟨"SlideNight$LawReader", "readTerm", "(I)V"⟩, 5) := ⟨⟨by decide +kernel, by decide +kernel⟩, List.mem_of_getElem? (i := 246) (by decide +kernel), List.mem_of_getElem? (i := 701) (by decide +kernel), List.mem_of_getElem? (i := 702) (by decide +kernel)⟩
theorem lw_p18 : lw_okq (⟨"SlideNight$LawReader", "readFactor", "(I)V"⟩, 5) := ⟨⟨by decide +kernel, by decide +kernel⟩, List.mem_of_getElem? (i := 246) (by decide +kernel), List.mem_of_getElem? (i := 705) (by decide +kernel), List.mem_of_getElem? (i := 706) (by decide +kernel)⟩
theorem lw_p19 : lw_okq (⟨"SlideNight$LawReader", "isOpened", "(I)Z"⟩, 5) := ⟨⟨by decide +kernel, by decide +kernel⟩, List.mem_of_getElem? (i := 246) (by decide +kernel), List.mem_of_getElem? (i := 710) (by decide +kernel), List.mem_of_getElem? (i := 711) (by decide +kernel)⟩
theorem lw_p20 : lw_okq (⟨"SlideNight$LawReader", "expect", "(I)V"⟩, 5) := ⟨⟨by decide +kernel, by decide +kernel⟩, List.mem_of_getElem? (i := 246) (by decide +kernel), List.mem_of_getElem? (i := 714) (by decide +kernel), List.mem_of_getElem? (i := 715) (by decide +kernel)⟩
theorem lw_p21 : lw_okq (⟨"SlideNight$LawReader", "readNumber", "()V"⟩, 5) := ⟨⟨by decide +kernel, by decide +kernel⟩, List.mem_of_getElem? (i := 246) (by decide +kernel), List.mem_of_getElem? (i := 719) (by decide +kernel), List.mem_of_getElem? (i := 720) (by decide +kernel)⟩
theorem lw_p22 : lw_okq (⟨"SlideNight$LawReader", "operationOf", "(Ljava/lang/String;I)I"⟩, 5) := ⟨⟨by decide +kernel, by decide +kernel⟩, List.mem_of_getElem? (i := 246) (by decide +kernel), List.mem_of_getElem? (i := 728) (by decide +kernel), List.mem_of_getElem? (i := 729) (by decide +kernel)⟩
theorem lw_p23 : lw_okq (⟨"SlideNight$LawReader", "readCondition", "(I)V"⟩, 5) := ⟨⟨by decide +kernel, by decide +kernel⟩, List.mem_of_getElem? (i := 246) (by decide +kernel), List.mem_of_getElem? (i := 737) (by decide +kernel), List.mem_of_getElem? (i := 738) (by decide +kernel)⟩
theorem lw_p24 : lw_okq (⟨"SlideNight$LawReader", "readPart", "(I)V"⟩, 5) := ⟨⟨by decide +kernel, by decide +kernel⟩, List.mem_of_getElem? (i := 246) (by decide +kernel), List.mem_of_getElem? (i := 741) (by decide +kernel), List.mem_of_getElem? (i := 742) (by decide +kernel)⟩
theorem lw_p25 : lw_okq (⟨"SlideNight$LawReader", "readPiece", "(I)V"⟩, 5) := ⟨⟨by decide +kernel, by decide +kernel⟩, List.mem_of_getElem? (i := 246) (by decide +kernel), List.mem_of_getElem? (i := 745) (by decide +kernel), List.mem_of_getElem? (i := 746) (by decide +kernel)⟩
theorem lw_p26 : lw_okq (⟨"SlideNight$LawReader", "readComparison", "(I)V"⟩, 5) := ⟨⟨by decide +kernel, by decide +kernel⟩, List.mem_of_getElem? (i := 246) (by decide +kernel), List.mem_of_getElem? (i := 749) (by decide +kernel), List.mem_of_getElem? (i := 750) (by decide +kernel)⟩
theorem lw_p27 : lw_okq (⟨"SlideNight$Evening", "begin", "(LSlideNight$State;)V"⟩, 11) := ⟨⟨by decide +kernel, by decide +kernel⟩, List.mem_of_getElem? (i := 268) (by decide +kernel), List.mem_of_getElem? (i := 814) (by decide +kernel), List.mem_of_getElem? (i := 815) (by decide +kernel)⟩
theorem lw_p28 : lw_okq (⟨"SlideNight$Evening", "showOne", "(LSlideNight$Slide;LSlideNight$State;LSlideNight$Law;)V"⟩, 11) := ⟨⟨by decide +kernel, by decide +kernel⟩, List.mem_of_getElem? (i := 268) (by decide +kernel), List.mem_of_getElem? (i := 824) (by decide +kernel), List.mem_of_getElem? (i := 825) (by decide +kernel)⟩
theorem lw_p29 : lw_okq (⟨"SlideNight$Law", "setFacts", "(LSlideNight$Slide;II)V"⟩, 3) := ⟨⟨by decide +kernel, by decide +kernel⟩, List.mem_of_getElem? (i := 189) (by decide +kernel), List.mem_of_getElem? (i := 832) (by decide +kernel), List.mem_of_getElem? (i := 833) (by decide +kernel)⟩
theorem lw_p30 : lw_okq (⟨"SlideNight$Law", "setLooker", "(III)V"⟩, 3) := ⟨⟨by decide +kernel, by decide +kernel⟩, List.mem_of_getElem? (i := 189) (by decide +kernel), List.mem_of_getElem? (i := 836) (by decide +kernel), List.mem_of_getElem? (i := 837) (by decide +kernel)⟩
theorem lw_p31 : lw_okq (⟨"SlideNight$LawCode", "reckon", "(II[I)I"⟩, 10) := ⟨⟨by decide +kernel, by decide +kernel⟩, List.mem_of_getElem? (i := 195) (by decide +kernel), List.mem_of_getElem? (i := 844) (by decide +kernel), List.mem_of_getElem? (i := 845) (by decide +kernel)⟩
def lw_privs_2 : List (MethodName × Nat) := [(⟨"SlideNight$LawReader", "readSum", "(I)V"⟩, 5), (⟨"SlideNight$LawReader", "readTerm", "(I)V"⟩, 5), (⟨"SlideNight$LawReader", "readFactor", "(I)V"⟩, 5), (⟨"SlideNight$LawReader", "isOpened", "(I)Z"⟩, 5), (⟨"SlideNight$LawReader", "expect", "(I)V"⟩, 5), (⟨"SlideNight$LawReader", "readNumber", "()V"⟩, 5), (⟨"SlideNight$LawReader", "operationOf", "(Ljava/lang/String;I)I"⟩, 5), (⟨"SlideNight$LawReader", "readCondition", "(I)V"⟩, 5), (⟨"SlideNight$LawReader", "readPart", "(I)V"⟩, 5), (⟨"SlideNight$LawReader", "readPiece", "(I)V"⟩, 5), (⟨"SlideNight$LawReader", "readComparison", "(I)V"⟩, 5), (⟨"SlideNight$Evening", "begin", "(LSlideNight$State;)V"⟩, 11), (⟨"SlideNight$Evening", "showOne", "(LSlideNight$Slide;LSlideNight$State;LSlideNight$Law;)V"⟩, 11), (⟨"SlideNight$Law", "setFacts", "(LSlideNight$Slide;II)V"⟩, 3), (⟨"SlideNight$Law", "setLooker", "(III)V"⟩, 3), (⟨"SlideNight$LawCode", "reckon", "(II[I)I"⟩, 10)]
theorem lw_r2 : ∀ q ∈ lw_privs_2, lw_okq q := List.forall_mem_cons.mpr ⟨lw_p16, List.forall_mem_cons.mpr ⟨lw_p17, List.forall_mem_cons.mpr ⟨lw_p18, List.forall_mem_cons.mpr ⟨lw_p19, List.forall_mem_cons.mpr ⟨lw_p20, List.forall_mem_cons.mpr ⟨lw_p21, List.forall_mem_cons.mpr ⟨lw_p22, List.forall_mem_cons.mpr ⟨lw_p23, List.forall_mem_cons.mpr ⟨lw_p24, List.forall_mem_cons.mpr ⟨lw_p25, List.forall_mem_cons.mpr ⟨lw_p26, List.forall_mem_cons.mpr ⟨lw_p27, List.forall_mem_cons.mpr ⟨lw_p28, List.forall_mem_cons.mpr ⟨lw_p29, List.forall_mem_cons.mpr ⟨lw_p30, List.forall_mem_cons.mpr ⟨lw_p31, fun _ h => absurd h List.not_mem_nil⟩⟩⟩⟩⟩⟩⟩⟩⟩⟩⟩⟩⟩⟩⟩⟩
theorem lw_p32 : lw_okq (⟨"SlideNight$LawCode", "joined", "(III)I"⟩, 10) := ⟨⟨by decide +kernel, by decide +kernel⟩, List.mem_of_getElem? (i := 195) (by decide +kernel), List.mem_of_getElem? (i := 849) (by decide +kernel), List.mem_of_getElem? (i := 850) (by decide +kernel)⟩
theorem lw_p33 : lw_okq (⟨"SlideNight$Evening", "isNoticed", "(LSlideNight$Slide;LSlideNight$State;LSlideNight$Law;)Z"⟩, 11) := ⟨⟨by decide +kernel, by decide +kernel⟩, List.mem_of_getElem? (i := 268) (by decide +kernel), List.mem_of_getElem? (i := 855) (by decide +kernel), List.mem_of_getElem? (i := 856) (by decide +kernel)⟩
theorem lw_p34 : lw_okq (⟨"SlideNight$Evening", "draw", "()I"⟩, 11) := ⟨⟨by decide +kernel, by decide +kernel⟩, List.mem_of_getElem? (i := 268) (by decide +kernel), List.mem_of_getElem? (i := 863) (by decide +kernel), List.mem_of_getElem? (i := 864) (by decide +kernel)⟩
theorem lw_p35 : lw_okq (⟨"SlideNight$Evening", "turnIt", "(LSlideNight$Slide;LSlideNight$Law;)I"⟩, 11) := ⟨⟨by decide +kernel, by decide +kernel⟩, List.mem_of_getElem? (i := 268) (by decide +kernel), List.mem_of_getElem? (i := 871) (by decide +kernel), List.mem_of_getElem? (i := 872) (by decide +kernel)⟩
theorem lw_p36 : lw_okq (⟨"SlideNight$Evening", "tire", "(I)V"⟩, 11) := ⟨⟨by decide +kernel, by decide +kernel⟩, List.mem_of_getElem? (i := 268) (by decide +kernel), List.mem_of_getElem? (i := 888) (by decide +kernel), List.mem_of_getElem? (i := 889) (by decide +kernel)⟩
theorem lw_p37 : lw_okq (⟨"SlideNight", "tapeShowsBy", "(LSlideNight$Slide;II)Z"⟩, 13) := ⟨⟨by decide +kernel, by decide +kernel⟩, List.mem_of_getElem? (i := 23) (by decide +kernel), List.mem_of_getElem? (i := 908) (by decide +kernel), List.mem_of_getElem? (i := 909) (by decide +kernel)⟩
theorem lw_p38 : lw_okq (⟨"SlideNight$TurnRow", "ask", "(LSlideNight$Slide;LSlideNight$Law;)V"⟩, 7) := ⟨⟨by decide +kernel, by decide +kernel⟩, List.mem_of_getElem? (i := 315) (by decide +kernel), List.mem_of_getElem? (i := 934) (by decide +kernel), List.mem_of_getElem? (i := 935) (by decide +kernel)⟩
theorem lw_p39 : lw_okq (⟨"SlideNight$TurnRow", "oftenNotRight", "(I)I"⟩, 7) := ⟨⟨by decide +kernel, by decide +kernel⟩, List.mem_of_getElem? (i := 315) (by decide +kernel), List.mem_of_getElem? (i := 942) (by decide +kernel), List.mem_of_getElem? (i := 943) (by decide +kernel)⟩
theorem lw_p40 : lw_okq (⟨"SlideNight$TurnRow", "fewestFrom", "(II)I"⟩, 7) := ⟨⟨by decide +kernel, by decide +kernel⟩, List.mem_of_getElem? (i := 315) (by decide +kernel), List.mem_of_getElem? (i := 946) (by decide +kernel), List.mem_of_getElem? (i := 947) (by decide +kernel)⟩
theorem lw_p41 : lw_okq (⟨"SlideNight$TurnRow", "secondsBy", "(III)I"⟩, 7) := ⟨⟨by decide +kernel, by decide +kernel⟩, List.mem_of_getElem? (i := 315) (by decide +kernel), List.mem_of_getElem? (i := 950) (by decide +kernel), List.mem_of_getElem? (i := 951) (by decide +kernel)⟩
theorem lw_p42 : lw_okq (⟨"SlideNight$TurnRow", "layRow", "()V"⟩, 7) := ⟨⟨by decide +kernel, by decide +kernel⟩, List.mem_of_getElem? (i := 315) (by decide +kernel), List.mem_of_getElem? (i := 956) (by decide +kernel), List.mem_of_getElem? (i := 957) (by decide +kernel)⟩
theorem lw_p43 : lw_okq (⟨"SlideNight$TurnRow", "leastTurn", "(II)I"⟩, 7) := ⟨⟨by decide +kernel, by decide +kernel⟩, List.mem_of_getElem? (i := 315) (by decide +kernel), List.mem_of_getElem? (i := 960) (by decide +kernel), List.mem_of_getElem? (i := 961) (by decide +kernel)⟩
theorem lw_p44 : lw_okq (⟨"SlideNight", "tenthsOfLookers", "()J"⟩, 13) := ⟨⟨by decide +kernel, by decide +kernel⟩, List.mem_of_getElem? (i := 23) (by decide +kernel), List.mem_of_getElem? (i := 979) (by decide +kernel), List.mem_of_getElem? (i := 980) (by decide +kernel)⟩
theorem lw_p45 : lw_okq (⟨"SlideNight", "noticedTenths", "(LSlideNight$Slide;)J"⟩, 13) := ⟨⟨by decide +kernel, by decide +kernel⟩, List.mem_of_getElem? (i := 23) (by decide +kernel), List.mem_of_getElem? (i := 989) (by decide +kernel), List.mem_of_getElem? (i := 990) (by decide +kernel)⟩
theorem lw_p46 : lw_okq (⟨"SlideNight", "secondsToTurn", "(LSlideNight$Slide;)J"⟩, 13) := ⟨⟨by decide +kernel, by decide +kernel⟩, List.mem_of_getElem? (i := 23) (by decide +kernel), List.mem_of_getElem? (i := 994) (by decide +kernel), List.mem_of_getElem? (i := 995) (by decide +kernel)⟩
theorem lw_p47 : lw_okq (⟨"SlideNight", "cornersOf", "(I)I"⟩, 13) := ⟨⟨by decide +kernel, by decide +kernel⟩, List.mem_of_getElem? (i := 23) (by decide +kernel), List.mem_of_getElem? (i := 1007) (by decide +kernel), List.mem_of_getElem? (i := 1008) (by decide +kernel)⟩
def lw_privs_3 : List (MethodName × Nat) := [(⟨"SlideNight$LawCode", "joined", "(III)I"⟩, 10), (⟨"SlideNight$Evening", "isNoticed", "(LSlideNight$Slide;LSlideNight$State;LSlideNight$Law;)Z"⟩, 11), (⟨"SlideNight$Evening", "draw", "()I"⟩, 11), (⟨"SlideNight$Evening", "turnIt", "(LSlideNight$Slide;LSlideNight$Law;)I"⟩, 11), (⟨"SlideNight$Evening", "tire", "(I)V"⟩, 11), (⟨"SlideNight", "tapeShowsBy", "(LSlideNight$Slide;II)Z"⟩, 13), (⟨"SlideNight$TurnRow", "ask", "(LSlideNight$Slide;LSlideNight$Law;)V"⟩, 7), (⟨"SlideNight$TurnRow", "oftenNotRight", "(I)I"⟩, 7), (⟨"SlideNight$TurnRow", "fewestFrom", "(II)I"⟩, 7), (⟨"SlideNight$TurnRow", "secondsBy", "(III)I"⟩, 7), (⟨"SlideNight$TurnRow", "layRow", "()V"⟩, 7), (⟨"SlideNight$TurnRow", "leastTurn", "(II)I"⟩, 7), (⟨"SlideNight", "tenthsOfLookers", "()J"⟩, 13), (⟨"SlideNight", "noticedTenths", "(LSlideNight$Slide;)J"⟩, 13), (⟨"SlideNight", "secondsToTurn", "(LSlideNight$Slide;)J"⟩, 13), (⟨"SlideNight", "cornersOf", "(I)I"⟩, 13)]
theorem lw_r3 : ∀ q ∈ lw_privs_3, lw_okq q := List.forall_mem_cons.mpr ⟨lw_p32, List.forall_mem_cons.mpr ⟨lw_p33, List.forall_mem_cons.mpr ⟨lw_p34, List.forall_mem_cons.mpr ⟨lw_p35, List.forall_mem_cons.mpr ⟨lw_p36, List.forall_mem_cons.mpr ⟨lw_p37, List.forall_mem_cons.mpr ⟨lw_p38, List.forall_mem_cons.mpr ⟨lw_p39, List.forall_mem_cons.mpr ⟨lw_p40, List.forall_mem_cons.mpr ⟨lw_p41, List.forall_mem_cons.mpr ⟨lw_p42, List.forall_mem_cons.mpr ⟨lw_p43, List.forall_mem_cons.mpr ⟨lw_p44, List.forall_mem_cons.mpr ⟨lw_p45, List.forall_mem_cons.mpr ⟨lw_p46, List.forall_mem_cons.mpr ⟨lw_p47, fun _ h => absurd h List.not_mem_nil⟩⟩⟩⟩⟩⟩⟩⟩⟩⟩⟩⟩⟩⟩⟩⟩
theorem lw_p48 : lw_okq (⟨"SlideNight$Choice", "areNeedsIn", "(I)Z"⟩, 8) := ⟨⟨by decide +kernel, by decide +kernel⟩, List.mem_of_getElem? (i := 344) (by decide +kernel), List.mem_of_getElem? (i := 1042) (by decide +kernel), List.mem_of_getElem? (i := 1043) (by decide +kernel)⟩
theorem lw_p49 : lw_okq (⟨"SlideNight$Orders", "takeClues", "(LSlideNight$Pairs;)V"⟩, 10) := ⟨⟨by decide +kernel, by decide +kernel⟩, List.mem_of_getElem? (i := 379) (by decide +kernel), List.mem_of_getElem? (i := 1063) (by decide +kernel), List.mem_of_getElem? (i := 1064) (by decide +kernel)⟩
theorem lw_p50 : lw_okq (⟨"SlideNight$Orders", "canFollow", "(II)Z"⟩, 10) := ⟨⟨by decide +kernel, by decide +kernel⟩, List.mem_of_getElem? (i := 379) (by decide +kernel), List.mem_of_getElem? (i := 1076) (by decide +kernel), List.mem_of_getElem? (i := 1077) (by decide +kernel)⟩
theorem lw_p51 : lw_okq (⟨"SlideNight$Orders", "countLast", "()V"⟩, 10) := ⟨⟨by decide +kernel, by decide +kernel⟩, List.mem_of_getElem? (i := 379) (by decide +kernel), List.mem_of_getElem? (i := 1099) (by decide +kernel), List.mem_of_getElem? (i := 1100) (by decide +kernel)⟩
theorem lw_p52 : lw_okq (⟨"SlideNight$Orders", "countLowAhead", "()V"⟩, 10) := ⟨⟨by decide +kernel, by decide +kernel⟩, List.mem_of_getElem? (i := 379) (by decide +kernel), List.mem_of_getElem? (i := 1103) (by decide +kernel), List.mem_of_getElem? (i := 1104) (by decide +kernel)⟩
theorem lw_p53 : lw_okq (⟨"SlideNight$Orders", "addAheadOfRest", "(II)V"⟩, 10) := ⟨⟨by decide +kernel, by decide +kernel⟩, List.mem_of_getElem? (i := 379) (by decide +kernel), List.mem_of_getElem? (i := 1107) (by decide +kernel), List.mem_of_getElem? (i := 1108) (by decide +kernel)⟩
theorem lw_p54 : lw_okq (⟨"SlideNight$Choice", "placeOf", "(I)I"⟩, 8) := ⟨⟨by decide +kernel, by decide +kernel⟩, List.mem_of_getElem? (i := 344) (by decide +kernel), List.mem_of_getElem? (i := 1136) (by decide +kernel), List.mem_of_getElem? (i := 1137) (by decide +kernel)⟩
theorem lw_p55 : lw_okq (⟨"SlideNight", "putInByHand", "(LSlideNight$Slide;)V"⟩, 13) := ⟨⟨by decide +kernel, by decide +kernel⟩, List.mem_of_getElem? (i := 23) (by decide +kernel), List.mem_of_getElem? (i := 1157) (by decide +kernel), List.mem_of_getElem? (i := 1158) (by decide +kernel)⟩
theorem lw_p56 : lw_okq (⟨"SlideNight", "wayOfPart", "(LSlideNight$Slide;I)I"⟩, 13) := ⟨⟨by decide +kernel, by decide +kernel⟩, List.mem_of_getElem? (i := 23) (by decide +kernel), List.mem_of_getElem? (i := 1162) (by decide +kernel), List.mem_of_getElem? (i := 1163) (by decide +kernel)⟩
theorem lw_p57 : lw_okq (⟨"SlideNightModel", "types", "(I)V"⟩, 90) := ⟨⟨by decide +kernel, by decide +kernel⟩, List.mem_of_getElem? (i := 1214) (by decide +kernel), List.mem_of_getElem? (i := 1495) (by decide +kernel), List.mem_of_getElem? (i := 1496) (by decide +kernel)⟩
theorem lw_p58 : lw_okq (⟨"SlideNightModel", "isTold", "(I)Z"⟩, 90) := ⟨⟨by decide +kernel, by decide +kernel⟩, List.mem_of_getElem? (i := 1214) (by decide +kernel), List.mem_of_getElem? (i := 1510) (by decide +kernel), List.mem_of_getElem? (i := 1511) (by decide +kernel)⟩
theorem lw_p59 : lw_okq (⟨"SlideNightModel", "signAt", "(IIII)I"⟩, 90) := ⟨⟨by decide +kernel, by decide +kernel⟩, List.mem_of_getElem? (i := 1214) (by decide +kernel), List.mem_of_getElem? (i := 1550) (by decide +kernel), List.mem_of_getElem? (i := 1551) (by decide +kernel)⟩
theorem lw_p60 : lw_okq (⟨"SlideNightModel", "isWrong", "(I)Z"⟩, 90) := ⟨⟨by decide +kernel, by decide +kernel⟩, List.mem_of_getElem? (i := 1214) (by decide +kernel), List.mem_of_getElem? (i := 1558) (by decide +kernel), List.mem_of_getElem? (i := 1559) (by decide +kernel)⟩
theorem lw_p61 : lw_okq (⟨"SlideNightModel", "areAlike", "(III)Z"⟩, 90) := ⟨⟨by decide +kernel, by decide +kernel⟩, List.mem_of_getElem? (i := 1214) (by decide +kernel), List.mem_of_getElem? (i := 1562) (by decide +kernel), List.mem_of_getElem? (i := 1563) (by decide +kernel)⟩
theorem lw_p62 : lw_okq (⟨"SlideNightModel", "alikeTo", "(II)I"⟩, 90) := ⟨⟨by decide +kernel, by decide +kernel⟩, List.mem_of_getElem? (i := 1214) (by decide +kernel), List.mem_of_getElem? (i := 1566) (by decide +kernel), List.mem_of_getElem? (i := 1567) (by decide +kernel)⟩
theorem lw_p63 : lw_okq (⟨"SlideNightModel", "unlikeMany", "(I)I"⟩, 90) := ⟨⟨by decide +kernel, by decide +kernel⟩, List.mem_of_getElem? (i := 1214) (by decide +kernel), List.mem_of_getElem? (i := 1570) (by decide +kernel), List.mem_of_getElem? (i := 1571) (by decide +kernel)⟩
def lw_privs_4 : List (MethodName × Nat) := [(⟨"SlideNight$Choice", "areNeedsIn", "(I)Z"⟩, 8), (⟨"SlideNight$Orders", "takeClues", "(LSlideNight$Pairs;)V"⟩, 10), (⟨"SlideNight$Orders", "canFollow", "(II)Z"⟩, 10), (⟨"SlideNight$Orders", "countLast", "()V"⟩, 10), (⟨"SlideNight$Orders", "countLowAhead", "()V"⟩, 10), (⟨"SlideNight$Orders", "addAheadOfRest", "(II)V"⟩, 10), (⟨"SlideNight$Choice", "placeOf", "(I)I"⟩, 8), (⟨"SlideNight", "putInByHand", "(LSlideNight$Slide;)V"⟩, 13), (⟨"SlideNight", "wayOfPart", "(LSlideNight$Slide;I)I"⟩, 13), (⟨"SlideNightModel", "types", "(I)V"⟩, 90), (⟨"SlideNightModel", "isTold", "(I)Z"⟩, 90), (⟨"SlideNightModel", "signAt", "(IIII)I"⟩, 90), (⟨"SlideNightModel", "isWrong", "(I)Z"⟩, 90), (⟨"SlideNightModel", "areAlike", "(III)Z"⟩, 90), (⟨"SlideNightModel", "alikeTo", "(II)I"⟩, 90), (⟨"SlideNightModel", "unlikeMany", "(I)I"⟩, 90)]
theorem lw_r4 : ∀ q ∈ lw_privs_4, lw_okq q := List.forall_mem_cons.mpr ⟨lw_p48, List.forall_mem_cons.mpr ⟨lw_p49, List.forall_mem_cons.mpr ⟨lw_p50, List.forall_mem_cons.mpr ⟨lw_p51, List.forall_mem_cons.mpr ⟨lw_p52, List.forall_mem_cons.mpr ⟨lw_p53, List.forall_mem_cons.mpr ⟨lw_p54, List.forall_mem_cons.mpr ⟨lw_p55, List.forall_mem_cons.mpr ⟨lw_p56, List.forall_mem_cons.mpr ⟨lw_p57, List.forall_mem_cons.mpr ⟨lw_p58, List.forall_mem_cons.mpr ⟨lw_p59, List.forall_mem_cons.mpr ⟨lw_p60, List.forall_mem_cons.mpr ⟨lw_p61, List.forall_mem_cons.mpr ⟨lw_p62, List.forall_mem_cons.mpr ⟨lw_p63, fun _ h => absurd h List.not_mem_nil⟩⟩⟩⟩⟩⟩⟩⟩⟩⟩⟩⟩⟩⟩⟩⟩
theorem lw_p64 : lw_okq (⟨"SlideNightModel", "readsItem", "()Z"⟩, 90) := ⟨⟨by decide +kernel, by decide +kernel⟩, List.mem_of_getElem? (i := 1214) (by decide +kernel), List.mem_of_getElem? (i := 1578) (by decide +kernel), List.mem_of_getElem? (i := 1579) (by decide +kernel)⟩
theorem lw_p65 : lw_okq (⟨"SlideNightModel", "here", "()I"⟩, 90) := ⟨⟨by decide +kernel, by decide +kernel⟩, List.mem_of_getElem? (i := 1214) (by decide +kernel), List.mem_of_getElem? (i := 1582) (by decide +kernel), List.mem_of_getElem? (i := 1583) (by decide +kernel)⟩
theorem lw_p66 : lw_okq (⟨"SlideNightModel", "opensGroup", "()Z"⟩, 90) := ⟨⟨by decide +kernel, by decide +kernel⟩, List.mem_of_getElem? (i := 1214) (by decide +kernel), List.mem_of_getElem? (i := 1586) (by decide +kernel), List.mem_of_getElem? (i := 1587) (by decide +kernel)⟩
theorem lw_p67 : lw_okq (⟨"SlideNightModel", "wrongAt", "(II)Z"⟩, 90) := ⟨⟨by decide +kernel, by decide +kernel⟩, List.mem_of_getElem? (i := 1214) (by decide +kernel), List.mem_of_getElem? (i := 1590) (by decide +kernel), List.mem_of_getElem? (i := 1591) (by decide +kernel)⟩
theorem lw_p68 : lw_okq (⟨"SlideNightModel", "readsRow", "()Z"⟩, 90) := ⟨⟨by decide +kernel, by decide +kernel⟩, List.mem_of_getElem? (i := 1214) (by decide +kernel), List.mem_of_getElem? (i := 1594) (by decide +kernel), List.mem_of_getElem? (i := 1595) (by decide +kernel)⟩
theorem lw_p69 : lw_okq (⟨"SlideNightModel", "readsSlide", "()Z"⟩, 90) := ⟨⟨by decide +kernel, by decide +kernel⟩, List.mem_of_getElem? (i := 1214) (by decide +kernel), List.mem_of_getElem? (i := 1598) (by decide +kernel), List.mem_of_getElem? (i := 1599) (by decide +kernel)⟩
theorem lw_p70 : lw_okq (⟨"SlideNightModel", "isDigit", "()Z"⟩, 90) := ⟨⟨by decide +kernel, by decide +kernel⟩, List.mem_of_getElem? (i := 1214) (by decide +kernel), List.mem_of_getElem? (i := 1602) (by decide +kernel), List.mem_of_getElem? (i := 1603) (by decide +kernel)⟩
theorem lw_p71 : lw_okq (⟨"SlideNightModel", "closesGroup", "()Z"⟩, 90) := ⟨⟨by decide +kernel, by decide +kernel⟩, List.mem_of_getElem? (i := 1214) (by decide +kernel), List.mem_of_getElem? (i := 1606) (by decide +kernel), List.mem_of_getElem? (i := 1607) (by decide +kernel)⟩
theorem lw_p72 : lw_okq (⟨"SlideNightModel", "takes", "(I)Z"⟩, 90) := ⟨⟨by decide +kernel, by decide +kernel⟩, List.mem_of_getElem? (i := 1214) (by decide +kernel), List.mem_of_getElem? (i := 1610) (by decide +kernel), List.mem_of_getElem? (i := 1611) (by decide +kernel)⟩
theorem lw_p73 : lw_okq (⟨"SlideNightModel", "readsClause", "()Z"⟩, 90) := ⟨⟨by decide +kernel, by decide +kernel⟩, List.mem_of_getElem? (i := 1214) (by decide +kernel), List.mem_of_getElem? (i := 1625) (by decide +kernel), List.mem_of_getElem? (i := 1626) (by decide +kernel)⟩
theorem lw_p74 : lw_okq (⟨"SlideNightModel", "readsSum", "()Z"⟩, 90) := ⟨⟨by decide +kernel, by decide +kernel⟩, List.mem_of_getElem? (i := 1214) (by decide +kernel), List.mem_of_getElem? (i := 1632) (by decide +kernel), List.mem_of_getElem? (i := 1633) (by decide +kernel)⟩
theorem lw_p75 : lw_okq (⟨"SlideNightModel", "readsFactor", "()Z"⟩, 90) := ⟨⟨by decide +kernel, by decide +kernel⟩, List.mem_of_getElem? (i := 1214) (by decide +kernel), List.mem_of_getElem? (i := 1636) (by decide +kernel), List.mem_of_getElem? (i := 1637) (by decide +kernel)⟩
theorem lw_p76 : lw_okq (⟨"SlideNightModel", "opens", "(I)Z"⟩, 90) := ⟨⟨by decide +kernel, by decide +kernel⟩, List.mem_of_getElem? (i := 1214) (by decide +kernel), List.mem_of_getElem? (i := 1640) (by decide +kernel), List.mem_of_getElem? (i := 1641) (by decide +kernel)⟩
theorem lw_p77 : lw_okq (⟨"SlideNightModel", "readsNumber", "()Z"⟩, 90) := ⟨⟨by decide +kernel, by decide +kernel⟩, List.mem_of_getElem? (i := 1214) (by decide +kernel), List.mem_of_getElem? (i := 1645) (by decide +kernel), List.mem_of_getElem? (i := 1646) (by decide +kernel)⟩
theorem lw_p78 : lw_okq (⟨"SlideNightModel", "notes", "(II)V"⟩, 90) := ⟨⟨by decide +kernel, by decide +kernel⟩, List.mem_of_getElem? (i := 1214) (by decide +kernel), List.mem_of_getElem? (i := 1649) (by decide +kernel), List.mem_of_getElem? (i := 1650) (by decide +kernel)⟩
theorem lw_p79 : lw_okq (⟨"SlideNightModel", "closesSums", "(Z)V"⟩, 90) := ⟨⟨by decide +kernel, by decide +kernel⟩, List.mem_of_getElem? (i := 1214) (by decide +kernel), List.mem_of_getElem? (i := 1659) (by decide +kernel), List.mem_of_getElem? (i := 1660) (by decide +kernel)⟩
def lw_privs_5 : List (MethodName × Nat) := [(⟨"SlideNightModel", "readsItem", "()Z"⟩, 90), (⟨"SlideNightModel", "here", "()I"⟩, 90), (⟨"SlideNightModel", "opensGroup", "()Z"⟩, 90), (⟨"SlideNightModel", "wrongAt", "(II)Z"⟩, 90), (⟨"SlideNightModel", "readsRow", "()Z"⟩, 90), (⟨"SlideNightModel", "readsSlide", "()Z"⟩, 90), (⟨"SlideNightModel", "isDigit", "()Z"⟩, 90), (⟨"SlideNightModel", "closesGroup", "()Z"⟩, 90), (⟨"SlideNightModel", "takes", "(I)Z"⟩, 90), (⟨"SlideNightModel", "readsClause", "()Z"⟩, 90), (⟨"SlideNightModel", "readsSum", "()Z"⟩, 90), (⟨"SlideNightModel", "readsFactor", "()Z"⟩, 90), (⟨"SlideNightModel", "opens", "(I)Z"⟩, 90), (⟨"SlideNightModel", "readsNumber", "()Z"⟩, 90), (⟨"SlideNightModel", "notes", "(II)V"⟩, 90), (⟨"SlideNightModel", "closesSums", "(Z)V"⟩, 90)]
theorem lw_r5 : ∀ q ∈ lw_privs_5, lw_okq q := List.forall_mem_cons.mpr ⟨lw_p64, List.forall_mem_cons.mpr ⟨lw_p65, List.forall_mem_cons.mpr ⟨lw_p66, List.forall_mem_cons.mpr ⟨lw_p67, List.forall_mem_cons.mpr ⟨lw_p68, List.forall_mem_cons.mpr ⟨lw_p69, List.forall_mem_cons.mpr ⟨lw_p70, List.forall_mem_cons.mpr ⟨lw_p71, List.forall_mem_cons.mpr ⟨lw_p72, List.forall_mem_cons.mpr ⟨lw_p73, List.forall_mem_cons.mpr ⟨lw_p74, List.forall_mem_cons.mpr ⟨lw_p75, List.forall_mem_cons.mpr ⟨lw_p76, List.forall_mem_cons.mpr ⟨lw_p77, List.forall_mem_cons.mpr ⟨lw_p78, List.forall_mem_cons.mpr ⟨lw_p79, fun _ h => absurd h List.not_mem_nil⟩⟩⟩⟩⟩⟩⟩⟩⟩⟩⟩⟩⟩⟩⟩⟩
theorem lw_p80 : lw_okq (⟨"SlideNightModel", "waitTop", "()I"⟩, 90) := ⟨⟨by decide +kernel, by decide +kernel⟩, List.mem_of_getElem? (i := 1214) (by decide +kernel), List.mem_of_getElem? (i := 1663) (by decide +kernel), List.mem_of_getElem? (i := 1664) (by decide +kernel)⟩
theorem lw_p81 : lw_okq (⟨"SlideNightModel", "hasOpenSum", "(I)Z"⟩, 90) := ⟨⟨by decide +kernel, by decide +kernel⟩, List.mem_of_getElem? (i := 1214) (by decide +kernel), List.mem_of_getElem? (i := 1667) (by decide +kernel), List.mem_of_getElem? (i := 1668) (by decide +kernel)⟩
theorem lw_p82 : lw_okq (⟨"SlideNightModel", "readsCondition", "()Z"⟩, 90) := ⟨⟨by decide +kernel, by decide +kernel⟩, List.mem_of_getElem? (i := 1214) (by decide +kernel), List.mem_of_getElem? (i := 1671) (by decide +kernel), List.mem_of_getElem? (i := 1672) (by decide +kernel)⟩
theorem lw_p83 : lw_okq (⟨"SlideNightModel", "readsCompared", "()Z"⟩, 90) := ⟨⟨by decide +kernel, by decide +kernel⟩, List.mem_of_getElem? (i := 1214) (by decide +kernel), List.mem_of_getElem? (i := 1675) (by decide +kernel), List.mem_of_getElem? (i := 1676) (by decide +kernel)⟩
theorem lw_p84 : lw_okq (⟨"SlideNightModel", "endsPiece", "()V"⟩, 90) := ⟨⟨by decide +kernel, by decide +kernel⟩, List.mem_of_getElem? (i := 1214) (by decide +kernel), List.mem_of_getElem? (i := 1679) (by decide +kernel), List.mem_of_getElem? (i := 1680) (by decide +kernel)⟩
theorem lw_p85 : lw_okq (⟨"SlideNightModel", "lands", "(Z)V"⟩, 90) := ⟨⟨by decide +kernel, by decide +kernel⟩, List.mem_of_getElem? (i := 1214) (by decide +kernel), List.mem_of_getElem? (i := 1683) (by decide +kernel), List.mem_of_getElem? (i := 1684) (by decide +kernel)⟩
theorem lw_p86 : lw_okq (⟨"SlideNightModel", "jumps", "(I)V"⟩, 90) := ⟨⟨by decide +kernel, by decide +kernel⟩, List.mem_of_getElem? (i := 1214) (by decide +kernel), List.mem_of_getElem? (i := 1687) (by decide +kernel), List.mem_of_getElem? (i := 1688) (by decide +kernel)⟩
theorem lw_p87 : lw_okq (⟨"SlideNightModel", "goesThrough", "()V"⟩, 90) := ⟨⟨by decide +kernel, by decide +kernel⟩, List.mem_of_getElem? (i := 1214) (by decide +kernel), List.mem_of_getElem? (i := 1695) (by decide +kernel), List.mem_of_getElem? (i := 1696) (by decide +kernel)⟩
theorem lw_p88 : lw_okq (⟨"SlideNightModel", "isLooker", "(I)Z"⟩, 90) := ⟨⟨by decide +kernel, by decide +kernel⟩, List.mem_of_getElem? (i := 1214) (by decide +kernel), List.mem_of_getElem? (i := 1699) (by decide +kernel), List.mem_of_getElem? (i := 1700) (by decide +kernel)⟩
theorem lw_p89 : lw_okq (⟨"SlideNightModel", "shows", "(I)V"⟩, 90) := ⟨⟨by decide +kernel, by decide +kernel⟩, List.mem_of_getElem? (i := 1214) (by decide +kernel), List.mem_of_getElem? (i := 1703) (by decide +kernel), List.mem_of_getElem? (i := 1704) (by decide +kernel)⟩
theorem lw_p90 : lw_okq (⟨"SlideNightModel", "asks", "(IIII)I"⟩, 90) := ⟨⟨by decide +kernel, by decide +kernel⟩, List.mem_of_getElem? (i := 1214) (by decide +kernel), List.mem_of_getElem? (i := 1707) (by decide +kernel), List.mem_of_getElem? (i := 1708) (by decide +kernel)⟩
theorem lw_p91 : lw_okq (⟨"SlideNightModel", "feels", "(II)V"⟩, 90) := ⟨⟨by decide +kernel, by decide +kernel⟩, List.mem_of_getElem? (i := 1214) (by decide +kernel), List.mem_of_getElem? (i := 1711) (by decide +kernel), List.mem_of_getElem? (i := 1712) (by decide +kernel)⟩
theorem lw_p92 : lw_okq (⟨"SlideNightModel", "byLaw", "(II)I"⟩, 90) := ⟨⟨by decide +kernel, by decide +kernel⟩, List.mem_of_getElem? (i := 1214) (by decide +kernel), List.mem_of_getElem? (i := 1715) (by decide +kernel), List.mem_of_getElem? (i := 1716) (by decide +kernel)⟩
theorem lw_p93 : lw_okq (⟨"SlideNightModel", "comesTo", "(II)I"⟩, 90) := ⟨⟨by decide +kernel, by decide +kernel⟩, List.mem_of_getElem? (i := 1214) (by decide +kernel), List.mem_of_getElem? (i := 1719) (by decide +kernel), List.mem_of_getElem? (i := 1720) (by decide +kernel)⟩
theorem lw_p94 : lw_okq (⟨"SlideNightModel", "someNotice", "(I)Z"⟩, 90) := ⟨⟨by decide +kernel, by decide +kernel⟩, List.mem_of_getElem? (i := 1214) (by decide +kernel), List.mem_of_getElem? (i := 1726) (by decide +kernel), List.mem_of_getElem? (i := 1727) (by decide +kernel)⟩
theorem lw_p95 : lw_okq (⟨"SlideNightModel", "draws", "()I"⟩, 90) := ⟨⟨by decide +kernel, by decide +kernel⟩, List.mem_of_getElem? (i := 1214) (by decide +kernel), List.mem_of_getElem? (i := 1730) (by decide +kernel), List.mem_of_getElem? (i := 1731) (by decide +kernel)⟩
def lw_privs_6 : List (MethodName × Nat) := [(⟨"SlideNightModel", "waitTop", "()I"⟩, 90), (⟨"SlideNightModel", "hasOpenSum", "(I)Z"⟩, 90), (⟨"SlideNightModel", "readsCondition", "()Z"⟩, 90), (⟨"SlideNightModel", "readsCompared", "()Z"⟩, 90), (⟨"SlideNightModel", "endsPiece", "()V"⟩, 90), (⟨"SlideNightModel", "lands", "(Z)V"⟩, 90), (⟨"SlideNightModel", "jumps", "(I)V"⟩, 90), (⟨"SlideNightModel", "goesThrough", "()V"⟩, 90), (⟨"SlideNightModel", "isLooker", "(I)Z"⟩, 90), (⟨"SlideNightModel", "shows", "(I)V"⟩, 90), (⟨"SlideNightModel", "asks", "(IIII)I"⟩, 90), (⟨"SlideNightModel", "feels", "(II)V"⟩, 90), (⟨"SlideNightModel", "byLaw", "(II)I"⟩, 90), (⟨"SlideNightModel", "comesTo", "(II)I"⟩, 90), (⟨"SlideNightModel", "someNotice", "(I)Z"⟩, 90), (⟨"SlideNightModel", "draws", "()I"⟩, 90)]
theorem lw_r6 : ∀ q ∈ lw_privs_6, lw_okq q := List.forall_mem_cons.mpr ⟨lw_p80, List.forall_mem_cons.mpr ⟨lw_p81, List.forall_mem_cons.mpr ⟨lw_p82, List.forall_mem_cons.mpr ⟨lw_p83, List.forall_mem_cons.mpr ⟨lw_p84, List.forall_mem_cons.mpr ⟨lw_p85, List.forall_mem_cons.mpr ⟨lw_p86, List.forall_mem_cons.mpr ⟨lw_p87, List.forall_mem_cons.mpr ⟨lw_p88, List.forall_mem_cons.mpr ⟨lw_p89, List.forall_mem_cons.mpr ⟨lw_p90, List.forall_mem_cons.mpr ⟨lw_p91, List.forall_mem_cons.mpr ⟨lw_p92, List.forall_mem_cons.mpr ⟨lw_p93, List.forall_mem_cons.mpr ⟨lw_p94, List.forall_mem_cons.mpr ⟨lw_p95, fun _ h => absurd h List.not_mem_nil⟩⟩⟩⟩⟩⟩⟩⟩⟩⟩⟩⟩⟩⟩⟩⟩
theorem lw_p96 : lw_okq (⟨"SlideNightModel", "noticed", "(III)I"⟩, 90) := ⟨⟨by decide +kernel, by decide +kernel⟩, List.mem_of_getElem? (i := 1214) (by decide +kernel), List.mem_of_getElem? (i := 1735) (by decide +kernel), List.mem_of_getElem? (i := 1736) (by decide +kernel)⟩
theorem lw_p97 : lw_okq (⟨"SlideNightModel", "turns", "(I)I"⟩, 90) := ⟨⟨by decide +kernel, by decide +kernel⟩, List.mem_of_getElem? (i := 1214) (by decide +kernel), List.mem_of_getElem? (i := 1739) (by decide +kernel), List.mem_of_getElem? (i := 1740) (by decide +kernel)⟩
theorem lw_p98 : lw_okq (⟨"SlideNightModel", "triedBy", "(I)I"⟩, 90) := ⟨⟨by decide +kernel, by decide +kernel⟩, List.mem_of_getElem? (i := 1214) (by decide +kernel), List.mem_of_getElem? (i := 1750) (by decide +kernel), List.mem_of_getElem? (i := 1751) (by decide +kernel)⟩
theorem lw_p99 : lw_okq (⟨"SlideNightModel", "wrongMany", "()I"⟩, 90) := ⟨⟨by decide +kernel, by decide +kernel⟩, List.mem_of_getElem? (i := 1214) (by decide +kernel), List.mem_of_getElem? (i := 1754) (by decide +kernel), List.mem_of_getElem? (i := 1755) (by decide +kernel)⟩
theorem lw_p100 : lw_okq (⟨"SlideNightModel", "laysHand", "(I)I"⟩, 90) := ⟨⟨by decide +kernel, by decide +kernel⟩, List.mem_of_getElem? (i := 1214) (by decide +kernel), List.mem_of_getElem? (i := 1762) (by decide +kernel), List.mem_of_getElem? (i := 1763) (by decide +kernel)⟩
theorem lw_p101 : lw_okq (⟨"SlideNightModel", "showsAll", "(III)Z"⟩, 90) := ⟨⟨by decide +kernel, by decide +kernel⟩, List.mem_of_getElem? (i := 1214) (by decide +kernel), List.mem_of_getElem? (i := 1766) (by decide +kernel), List.mem_of_getElem? (i := 1767) (by decide +kernel)⟩
theorem lw_p102 : lw_okq (⟨"SlideNightModel", "laysTurns", "(I)V"⟩, 90) := ⟨⟨by decide +kernel, by decide +kernel⟩, List.mem_of_getElem? (i := 1214) (by decide +kernel), List.mem_of_getElem? (i := 1782) (by decide +kernel), List.mem_of_getElem? (i := 1783) (by decide +kernel)⟩
theorem lw_p103 : lw_okq (⟨"SlideNightModel", "notesRow", "()V"⟩, 90) := ⟨⟨by decide +kernel, by decide +kernel⟩, List.mem_of_getElem? (i := 1214) (by decide +kernel), List.mem_of_getElem? (i := 1786) (by decide +kernel), List.mem_of_getElem? (i := 1787) (by decide +kernel)⟩
theorem lw_p104 : lw_okq (⟨"SlideNightModel", "secondsBy", "()J"⟩, 90) := ⟨⟨by decide +kernel, by decide +kernel⟩, List.mem_of_getElem? (i := 1214) (by decide +kernel), List.mem_of_getElem? (i := 1790) (by decide +kernel), List.mem_of_getElem? (i := 1791) (by decide +kernel)⟩
theorem lw_p105 : lw_okq (⟨"SlideNightModel", "noticedIn", "(I)J"⟩, 90) := ⟨⟨by decide +kernel, by decide +kernel⟩, List.mem_of_getElem? (i := 1214) (by decide +kernel), List.mem_of_getElem? (i := 1799) (by decide +kernel), List.mem_of_getElem? (i := 1800) (by decide +kernel)⟩
theorem lw_p106 : lw_okq (⟨"SlideNightModel", "turnSeconds", "(I)I"⟩, 90) := ⟨⟨by decide +kernel, by decide +kernel⟩, List.mem_of_getElem? (i := 1214) (by decide +kernel), List.mem_of_getElem? (i := 1804) (by decide +kernel), List.mem_of_getElem? (i := 1805) (by decide +kernel)⟩
theorem lw_p107 : lw_okq (⟨"SlideNightModel", "noticedParts", "()V"⟩, 90) := ⟨⟨by decide +kernel, by decide +kernel⟩, List.mem_of_getElem? (i := 1214) (by decide +kernel), List.mem_of_getElem? (i := 1812) (by decide +kernel), List.mem_of_getElem? (i := 1813) (by decide +kernel)⟩
theorem lw_p108 : lw_okq (⟨"SlideNightModel", "cornersOf", "(I)I"⟩, 90) := ⟨⟨by decide +kernel, by decide +kernel⟩, List.mem_of_getElem? (i := 1214) (by decide +kernel), List.mem_of_getElem? (i := 1824) (by decide +kernel), List.mem_of_getElem? (i := 1825) (by decide +kernel)⟩
theorem lw_p109 : lw_okq (⟨"SlideNightModel", "takesSpilt", "(I)Z"⟩, 90) := ⟨⟨by decide +kernel, by decide +kernel⟩, List.mem_of_getElem? (i := 1214) (by decide +kernel), List.mem_of_getElem? (i := 1839) (by decide +kernel), List.mem_of_getElem? (i := 1840) (by decide +kernel)⟩
theorem lw_p110 : lw_okq (⟨"SlideNightModel", "laysOrders", "(II)J"⟩, 90) := ⟨⟨by decide +kernel, by decide +kernel⟩, List.mem_of_getElem? (i := 1214) (by decide +kernel), List.mem_of_getElem? (i := 1844) (by decide +kernel), List.mem_of_getElem? (i := 1845) (by decide +kernel)⟩
theorem lw_p111 : lw_okq (⟨"SlideNightModel", "spiltAt", "(I)I"⟩, 90) := ⟨⟨by decide +kernel, by decide +kernel⟩, List.mem_of_getElem? (i := 1214) (by decide +kernel), List.mem_of_getElem? (i := 1848) (by decide +kernel), List.mem_of_getElem? (i := 1849) (by decide +kernel)⟩
def lw_privs_7 : List (MethodName × Nat) := [(⟨"SlideNightModel", "noticed", "(III)I"⟩, 90), (⟨"SlideNightModel", "turns", "(I)I"⟩, 90), (⟨"SlideNightModel", "triedBy", "(I)I"⟩, 90), (⟨"SlideNightModel", "wrongMany", "()I"⟩, 90), (⟨"SlideNightModel", "laysHand", "(I)I"⟩, 90), (⟨"SlideNightModel", "showsAll", "(III)Z"⟩, 90), (⟨"SlideNightModel", "laysTurns", "(I)V"⟩, 90), (⟨"SlideNightModel", "notesRow", "()V"⟩, 90), (⟨"SlideNightModel", "secondsBy", "()J"⟩, 90), (⟨"SlideNightModel", "noticedIn", "(I)J"⟩, 90), (⟨"SlideNightModel", "turnSeconds", "(I)I"⟩, 90), (⟨"SlideNightModel", "noticedParts", "()V"⟩, 90), (⟨"SlideNightModel", "cornersOf", "(I)I"⟩, 90), (⟨"SlideNightModel", "takesSpilt", "(I)Z"⟩, 90), (⟨"SlideNightModel", "laysOrders", "(II)J"⟩, 90), (⟨"SlideNightModel", "spiltAt", "(I)I"⟩, 90)]
theorem lw_r7 : ∀ q ∈ lw_privs_7, lw_okq q := List.forall_mem_cons.mpr ⟨lw_p96, List.forall_mem_cons.mpr ⟨lw_p97, List.forall_mem_cons.mpr ⟨lw_p98, List.forall_mem_cons.mpr ⟨lw_p99, List.forall_mem_cons.mpr ⟨lw_p100, List.forall_mem_cons.mpr ⟨lw_p101, List.forall_mem_cons.mpr ⟨lw_p102, List.forall_mem_cons.mpr ⟨lw_p103, List.forall_mem_cons.mpr ⟨lw_p104, List.forall_mem_cons.mpr ⟨lw_p105, List.forall_mem_cons.mpr ⟨lw_p106, List.forall_mem_cons.mpr ⟨lw_p107, List.forall_mem_cons.mpr ⟨lw_p108, List.forall_mem_cons.mpr ⟨lw_p109, List.forall_mem_cons.mpr ⟨lw_p110, List.forall_mem_cons.mpr ⟨lw_p111, fun _ h => absurd h List.not_mem_nil⟩⟩⟩⟩⟩⟩⟩⟩⟩⟩⟩⟩⟩⟩⟩⟩
theorem lw_p112 : lw_okq (⟨"SlideNightModel", "areLinked", "(I)Z"⟩, 90) := ⟨⟨by decide +kernel, by decide +kernel⟩, List.mem_of_getElem? (i := 1214) (by decide +kernel), List.mem_of_getElem? (i := 1871) (by decide +kernel), List.mem_of_getElem? (i := 1872) (by decide +kernel)⟩
theorem lw_p113 : lw_okq (⟨"SlideNightModel", "fewAt", "(I)I"⟩, 90) := ⟨⟨by decide +kernel, by decide +kernel⟩, List.mem_of_getElem? (i := 1214) (by decide +kernel), List.mem_of_getElem? (i := 1875) (by decide +kernel), List.mem_of_getElem? (i := 1876) (by decide +kernel)⟩
theorem lw_p114 : lw_okq (⟨"SlideNightModel", "sureMany", "()I"⟩, 90) := ⟨⟨by decide +kernel, by decide +kernel⟩, List.mem_of_getElem? (i := 1214) (by decide +kernel), List.mem_of_getElem? (i := 1915) (by decide +kernel), List.mem_of_getElem? (i := 1916) (by decide +kernel)⟩
def lw_privs_8 : List (MethodName × Nat) := [(⟨"SlideNightModel", "areLinked", "(I)Z"⟩, 90), (⟨"SlideNightModel", "fewAt", "(I)I"⟩, 90), (⟨"SlideNightModel", "sureMany", "()I"⟩, 90)]
theorem lw_r8 : ∀ q ∈ lw_privs_8, lw_okq q := List.forall_mem_cons.mpr ⟨lw_p112, List.forall_mem_cons.mpr ⟨lw_p113, List.forall_mem_cons.mpr ⟨lw_p114, fun _ h => absurd h List.not_mem_nil⟩⟩⟩
def lw_privs : List (MethodName × Nat) := lw_privs_1 ++ (lw_privs_2 ++ (lw_privs_3 ++ (lw_privs_4 ++ (lw_privs_5 ++ (lw_privs_6 ++ (lw_privs_7 ++ (lw_privs_8)))))))
def lw_tbl : List Cond := k2_sels lw_privs ++ tables_1
theorem lw_privs_ok : ∀ q ∈ lw_privs, lw_okq q := by
  show ∀ q ∈ lw_privs_1 ++ (lw_privs_2 ++ (lw_privs_3 ++ (lw_privs_4 ++ (lw_privs_5 ++ (lw_privs_6 ++ (lw_privs_7 ++ (lw_privs_8))))))), lw_okq q
  exact List.forall_mem_append.mpr ⟨lw_r1, List.forall_mem_append.mpr ⟨lw_r2, List.forall_mem_append.mpr ⟨lw_r3, List.forall_mem_append.mpr ⟨lw_r4, List.forall_mem_append.mpr ⟨lw_r5, List.forall_mem_append.mpr ⟨lw_r6, List.forall_mem_append.mpr ⟨lw_r7, lw_r8⟩⟩⟩⟩⟩⟩⟩
-- ===== end of PART A; then your names; then what follows =====
/-! THE CLAIM OUT OF ONE WALK OF THE LAW'S BODY. Your part is whole_start (and what it stands on); all else here is the same for every law, but numbers. -/
def R_law : String := "SlideNightLaw"
def lw_P (b : Addr) (xs : List Int32) (args : Array Value) (s : State) : Prop := args = #[.ref b] ∧ s.IntsAt b xs ∧ xs.length ≤ 6 ∧ (Jvm.Cond.and given_1 narrow_1).before args s = true
def lw_Q (_ : Array Value) (s : State) (o : Outcome) (t : State) : Prop := o = .returned (some (.int 1)) ∧ Framed s o t [] 600000 7302250
def lw_Z (below : List Frame) (a : Array Value) (s : State) : State → Prop := fun t => ∃ o, t.status = .running ∧ Ended t below o ∧ lw_Q a s o t
/-- the law's own end, with 1 on the stack, nothing written that was there before, its room as the claim has it -/
theorem lw_ret {p : Program} {l : Launch} {e : Env} {s : State} {m : MethodId} {below : List Frame} {meth : Method} {c : Code} {b : Nat} (hx : p.tables.exec = Jvm.exec) (hb : c.code = code) (hr : meth.sig.returnType = ret) (hlocks : meth.locks = false) {pc : Nat} {H : Heap} {ls : Array Slot} (hdg : decode code pc = .ok (.ireturn, 1)) : W p l e room_1 s m #[Value.ref b] below meth c H [] 600000 7302250 (lw_Z below #[Value.ref b] s) (F0 m pc ls [.int 1]) := by
  intro T hT X
  obtain ⟨fs, hret, hrun, hended, hW, hframe⟩ := X.leave (v := some (.int 1)) (hlocks := hlocks) (fun h => by rw [hr] at h; cases h)
  have hmeth' : T.vm.method? m = some meth := X.method'
  refine ⟨T.setFrames fs, ?_, .returned (some (.int 1)), hrun, hended, rfl, ⟨_, rfl⟩, hW, hframe⟩
  jvm_step X.here [X.here.top, hx, hb, hdg, hmeth', hr, ret, narrow_b1]
  (try refine ⟨rfl, ?_⟩); (try refine ⟨rfl, ?_⟩)
  first | (intro acts; rw [hret _ acts rfl rfl rfl]) | rw [hret _ _ rfl rfl rfl]
  exact Steps.refl _
/-- what holds at the law's entry: the machine, the code, the tables' words (any of lw_tbl by 'hts w (by decide +kernel)'), the script of L ints xs at the cell b, what the Statement gives of the start (any of its parts by flat_of_before) -/
def lw_At (p : Program) (s : State) (m : MethodId) (meth : Method) (c : Code) (b L : Nat) (xs : Nat → Int32) : Prop :=
  p.tables.exec = Jvm.exec ∧ c.code = code ∧ meth.sig.returnType = ret ∧ c.maxLocals = 4 ∧ s.vm.findClass R_law = some m.cls ∧ (∀ w ∈ lw_tbl, w.before #[Value.ref b] s = true) ∧ va_X b L xs s s.heap ∧ b < s.heap.size ∧ meth.locks = false ∧ (Jvm.Cond.and given_1 narrow_1).before #[Value.ref b] s = true
end
section
/-! numbers and worlds of a small reckoner: a value is (kind, low, high): kind 0 an int between two bounds (moved up by 2^31), 1 a long (moved up by 2^63), 2 null, 3 the address at a place of a list, else the script -/
abbrev xe_v : Type := Nat × Nat × Nat
abbrev xe_c : Type := Nat × Nat × List xe_v × xe_v × List (Nat × xe_v)
def xe_i (x : Int32) : Nat := (x.toBitVec.toNat + 2147483648) % 4294967296
def xe_j (n : Nat) : Int32 := Int32.ofNat (n + 2147483648)
def xe_l (x : Int64) : Nat := (x.toBitVec.toNat + 9223372036854775808) % 18446744073709551616
def xe_k (n : Nat) : Int64 := Int64.ofNat (n + 9223372036854775808)
theorem xe_ti (x : Int32) : x.toInt = (xe_i x : Int) - 2147483648 := by
  have h := x.toBitVec.isLt
  rw [← Int32.toInt_toBitVec, BitVec.toInt_eq_toNat_cond]
  unfold xe_i
  split <;> omega
theorem xe_tl (x : Int64) : x.toInt = (xe_l x : Int) - 9223372036854775808 := by
  have h := x.toBitVec.isLt
  rw [← Int64.toInt_toBitVec, BitVec.toInt_eq_toNat_cond]
  unfold xe_l
  split <;> omega
theorem xe_i_lt (x : Int32) : xe_i x < 4294967296 := Nat.mod_lt _ (by decide)
theorem xe_l_lt (x : Int64) : xe_l x < 18446744073709551616 := Nat.mod_lt _ (by decide)
theorem xe_inj {x y : Int32} (h : xe_i x = xe_i y) : x = y := Int32.toInt_inj.mp (by rw [xe_ti, xe_ti, h])
theorem xe_injl {x y : Int64} (h : xe_l x = xe_l y) : x = y := Int64.toInt_inj.mp (by rw [xe_tl, xe_tl, h])
theorem xe_ij {n : Nat} (h : n < 4294967296) : xe_i (xe_j n) = n := by
  show ((BitVec.ofNat 32 (n + 2147483648)).toNat + 2147483648) % 4294967296 = n
  rw [BitVec.toNat_ofNat]
  omega
theorem xe_lk {n : Nat} (h : n < 18446744073709551616) : xe_l (xe_k n) = n := by
  show ((BitVec.ofNat 64 (n + 9223372036854775808)).toNat + 9223372036854775808) % 18446744073709551616 = n
  rw [BitVec.toNat_ofNat]
  omega
theorem xe_ji (x : Int32) : xe_j (xe_i x) = x := xe_inj (xe_ij (xe_i_lt x))
theorem xe_kl (x : Int64) : xe_k (xe_l x) = x := xe_injl (xe_lk (xe_l_lt x))
theorem xe_lt {x y : Int32} : x < y ↔ xe_i x < xe_i y := by
  rw [Int32.lt_iff_toInt_lt, xe_ti, xe_ti]
  omega
theorem xe_eq {x y : Int32} : x = y ↔ xe_i x = xe_i y := ⟨fun h => by rw [h], xe_inj⟩
theorem xe_nI {x : Int32} {n : Nat} (h : xe_i x = 2147483648 + n) : x = nI n := by
  have h1 := xe_i_lt x
  have h2 : n < 2 ^ 31 := by omega
  exact Int32.toInt_inj.mp (by rw [xe_ti, h, nI_toInt h2]; omega)
/-- a number is reckoned out before it is handed on -/
def xe_f {α : Type} (n : Nat) (k : Nat → α) : α := match n with
  | 0 => k 0
  | n + 1 => k (n + 1)
theorem xe_f_eq {α : Type} (n : Nat) (k : Nat → α) : xe_f n k = k n := by cases n <;> rfl
/-- and a list's spine -/
def xe_fl {α β : Type} (l : List α) (k : List α → β) : β := match l with
  | [] => k []
  | a :: t => xe_fl t (fun t' => k (a :: t'))
theorem xe_fl_eq {α β : Type} (l : List α) (k : List α → β) : xe_fl l k = k l := by
  induction l generalizing k with
  | nil => rfl
  | cons a t ih => rw [xe_fl, ih]
/-- what a value of the reckoner stands for -/
def xe_g (b : Nat) (as : List Nat) (a : xe_v) (v : Value) : Prop := match a.1 with
  | 0 => ∃ x : Int32, v = .int x ∧ a.2.1 ≤ xe_i x ∧ xe_i x ≤ a.2.2
  | 1 => ∃ x : Int64, v = .long x ∧ a.2.1 ≤ xe_l x ∧ xe_l x ≤ a.2.2
  | 2 => v = .null
  | 3 => ∃ q : Nat, as[a.2.1]? = some q ∧ v = .ref q
  | _ => v = .ref b
def xe_m (as as2 : List Nat) : Prop := ∀ r q : Nat, as[r]? = some q → as2[r]? = some q
theorem xe_m_rf (as : List Nat) : xe_m as as := fun _ _ h => h
theorem xe_m_tr {a b c : List Nat} (h : xe_m a b) (k : xe_m b c) : xe_m a c := fun r q z => k r q (h r q z)
theorem xe_m_app (as t : List Nat) : xe_m as (as ++ t) := fun r q h => by
  have := (List.getElem?_eq_some_iff.mp h).1
  rw [List.getElem?_append_left this]
  exact h
theorem xe_g_m {b : Nat} {as as2 : List Nat} {a : xe_v} {v : Value} (hm : xe_m as as2) (h : xe_g b as a v) : xe_g b as2 a v := by
  unfold xe_g at h ⊢
  split <;> simp_all only []
  obtain ⟨q, h1, h2⟩ := h
  exact ⟨q, hm _ _ h1, h2⟩
theorem xe_g0 {b : Nat} {as : List Nat} {a : xe_v} {v : Value} (t : (a.1 == 0) = true) (h : xe_g b as a v) : ∃ x : Int32, v = .int x ∧ a.2.1 ≤ xe_i x ∧ xe_i x ≤ a.2.2 := by
  have e : a.1 = 0 := by simpa using t
  unfold xe_g at h
  rw [e] at h
  exact h
theorem xe_g1 {b : Nat} {as : List Nat} {a : xe_v} {v : Value} (t : (a.1 == 1) = true) (h : xe_g b as a v) : ∃ x : Int64, v = .long x ∧ a.2.1 ≤ xe_l x ∧ xe_l x ≤ a.2.2 := by
  have e : a.1 = 1 := by simpa using t
  unfold xe_g at h
  rw [e] at h
  exact h
theorem xe_g2 {b : Nat} {as : List Nat} {a : xe_v} {v : Value} (t : (a.1 == 2) = true) (h : xe_g b as a v) : v = .null := by
  have e : a.1 = 2 := by simpa using t
  unfold xe_g at h
  rw [e] at h
  exact h
theorem xe_g3 {b : Nat} {as : List Nat} {a : xe_v} {v : Value} (t : (a.1 == 3) = true) (h : xe_g b as a v) : ∃ q : Nat, as[a.2.1]? = some q ∧ v = .ref q := by
  have e : a.1 = 3 := by simpa using t
  unfold xe_g at h
  rw [e] at h
  exact h
theorem xe_g4 {b : Nat} {as : List Nat} {a : xe_v} {v : Value} (t : (a.1 == 4) = true) (h : xe_g b as a v) : v = .ref b := by
  have e : a.1 = 4 := by simpa using t
  unfold xe_g at h
  rw [e] at h
  exact h
theorem xe_gi {b : Nat} {as : List Nat} (x : Int32) : xe_g b as (0, xe_i x, xe_i x) (.int x) := ⟨x, rfl, Nat.le_refl _, Nat.le_refl _⟩
theorem xe_gl {b : Nat} {as : List Nat} (x : Int64) : xe_g b as (1, xe_l x, xe_l x) (.long x) := ⟨x, rfl, Nat.le_refl _, Nat.le_refl _⟩
theorem xe_gt {b : Nat} {as : List Nat} (x : Int32) : xe_g b as (0, 0, 4294967295) (.int x) := ⟨x, rfl, Nat.zero_le _, by have := xe_i_lt x; show xe_i x ≤ 4294967295; omega⟩
theorem xe_gtl {b : Nat} {as : List Nat} (x : Int64) : xe_g b as (1, 0, 18446744073709551615) (.long x) := ⟨x, rfl, Nat.zero_le _, by have := xe_l_lt x; show xe_l x ≤ 18446744073709551615; omega⟩
theorem xe_cat {b : Nat} {as : List Nat} {a : xe_v} {v : Value} (h : xe_g b as a v) : v.category = if a.1 == 1 then 2 else 1 := by
  unfold xe_g at h
  split at h
  · next e => obtain ⟨x, rfl, -, -⟩ := h; rw [e]; rfl
  · next e => obtain ⟨x, rfl, -, -⟩ := h; rw [e]; rfl
  · next e => subst h; rw [e]; rfl
  · next e => obtain ⟨q, -, rfl⟩ := h; rw [e]; rfl
  · next h1 h2 h3 h4 => subst h; rw [if_neg (by simpa using h2)]; rfl
/-- lists of values, place by place -/
def xe_w (b : Nat) (as : List Nat) : List xe_v → List Value → Prop
  | [], [] => True
  | a :: l, v :: m => xe_g b as a v ∧ xe_w b as l m
  | _, _ => False
theorem xe_w_nil {b : Nat} {as : List Nat} {m : List Value} (h : xe_w b as [] m) : m = [] := by
  cases m with
  | nil => rfl
  | cons v m => exact False.elim h
theorem xe_w_cons {b : Nat} {as : List Nat} {a : xe_v} {l : List xe_v} {m : List Value} (h : xe_w b as (a :: l) m) : ∃ (v : Value) (m2 : List Value), m = v :: m2 ∧ xe_g b as a v ∧ xe_w b as l m2 := by
  cases m with
  | nil => exact False.elim h
  | cons v m => exact ⟨v, m, rfl, h.1, h.2⟩
theorem xe_w_len {b : Nat} {as : List Nat} : ∀ {l : List xe_v} {m : List Value}, xe_w b as l m → m.length = l.length
  | [], m, h => by rw [xe_w_nil h]; rfl
  | a :: l, m, h => by
    obtain ⟨v, m2, rfl, -, h2⟩ := xe_w_cons h
    simp [xe_w_len h2]
theorem xe_w_get {b : Nat} {as : List Nat} : ∀ {l : List xe_v} {m : List Value}, xe_w b as l m → ∀ {k : Nat} {a : xe_v}, l[k]? = some a → ∃ v : Value, m[k]? = some v ∧ xe_g b as a v
  | [], _, _, k, a, hk => by simp at hk
  | a :: l, m, h, k, a2, hk => by
    obtain ⟨v, m2, rfl, h1, h2⟩ := xe_w_cons h
    cases k with
    | zero =>
      simp only [List.getElem?_cons_zero, Option.some.injEq] at hk
      subst hk
      exact ⟨v, rfl, h1⟩
    | succ k =>
      rw [List.getElem?_cons_succ] at hk
      obtain ⟨v2, q1, q2⟩ := xe_w_get h2 hk
      exact ⟨v2, by rw [List.getElem?_cons_succ]; exact q1, q2⟩
theorem xe_w_set {b : Nat} {as : List Nat} : ∀ {l : List xe_v} {m : List Value}, xe_w b as l m → ∀ {a : xe_v} {v : Value} (k : Nat), xe_g b as a v → xe_w b as (l.set k a) (m.set k v)
  | [], m, h, a, v, k, hg => by rw [xe_w_nil h]; exact trivial
  | a0 :: l, m, h, a, v, k, hg => by
    obtain ⟨v0, m2, rfl, h1, h2⟩ := xe_w_cons h
    cases k with
    | zero => exact ⟨hg, h2⟩
    | succ k => exact ⟨h1, xe_w_set h2 k hg⟩
theorem xe_w_m {b : Nat} {as as2 : List Nat} (hm : xe_m as as2) : ∀ {l : List xe_v} {m : List Value}, xe_w b as l m → xe_w b as2 l m
  | [], m, h => by rw [xe_w_nil h]; exact trivial
  | a :: l, m, h => by
    obtain ⟨v, m2, rfl, h1, h2⟩ := xe_w_cons h
    exact ⟨xe_g_m hm h1, xe_w_m hm h2⟩
theorem xe_w_app {b : Nat} {as : List Nat} : ∀ {l : List xe_v} {m : List Value} {l2 : List xe_v} {m2 : List Value}, xe_w b as l m → xe_w b as l2 m2 → xe_w b as (l ++ l2) (m ++ m2)
  | [], m, l2, m2, h, h2 => by rw [xe_w_nil h]; exact h2
  | a :: l, m, l2, m2, h, h2 => by
    obtain ⟨v, m3, rfl, q1, q2⟩ := xe_w_cons h
    exact ⟨q1, xe_w_app q2 h2⟩
theorem xe_w_rev {b : Nat} {as : List Nat} : ∀ {l : List xe_v} {m : List Value}, xe_w b as l m → xe_w b as l.reverse m.reverse
  | [], m, h => by rw [xe_w_nil h]; exact trivial
  | a :: l, m, h => by
    obtain ⟨v, m3, rfl, q1, q2⟩ := xe_w_cons h
    rw [List.reverse_cons, List.reverse_cons]
    exact xe_w_app (xe_w_rev q2) ⟨q1, trivial⟩
/-- the upper n of a stack, and the rest -/
theorem xe_w_split {b : Nat} {as : List Nat} : ∀ (n : Nat) {l : List xe_v} {m : List Value}, xe_w b as l m → xe_w b as (l.take n) (m.take n) ∧ xe_w b as (l.drop n) (m.drop n)
  | 0, l, m, h => ⟨trivial, h⟩
  | n + 1, [], m, h => by rw [xe_w_nil h]; exact ⟨trivial, trivial⟩
  | n + 1, a :: l, m, h => by
    obtain ⟨v, m3, rfl, q1, q2⟩ := xe_w_cons h
    obtain ⟨h1, h2⟩ := xe_w_split n q2
    exact ⟨⟨q1, h1⟩, h2⟩
def xe_sum : List xe_v → Nat
  | [] => 0
  | a :: l => (if a.1 == 1 then 2 else 1) + xe_sum l
theorem xe_w_sum {b : Nat} {as : List Nat} : ∀ {l : List xe_v} {m : List Value}, xe_w b as l m → (m.map fun v => v.category).sum = xe_sum l
  | [], m, h => by rw [xe_w_nil h]; rfl
  | a :: l, m, h => by
    obtain ⟨v, m3, rfl, q1, q2⟩ := xe_w_cons h
    rw [List.map_cons, List.sum_cons, xe_w_sum q2, xe_cat q1]
    rfl
/-- local places, the same way -/
def xe_p (b : Nat) (as : List Nat) : List (Nat × xe_v) → List (Nat × Value) → Prop
  | [], [] => True
  | a :: l, v :: m => (a.1 = v.1 ∧ xe_g b as a.2 v.2) ∧ xe_p b as l m
  | _, _ => False
theorem xe_p_nil {b : Nat} {as : List Nat} {m : List (Nat × Value)} (h : xe_p b as [] m) : m = [] := by
  cases m with
  | nil => rfl
  | cons v m => exact False.elim h
theorem xe_p_cons {b : Nat} {as : List Nat} {i : Nat} {a : xe_v} {l : List (Nat × xe_v)} {m : List (Nat × Value)} (h : xe_p b as ((i, a) :: l) m) : ∃ (v : Value) (m2 : List (Nat × Value)), m = (i, v) :: m2 ∧ xe_g b as a v ∧ xe_p b as l m2 := by
  cases m with
  | nil => exact False.elim h
  | cons q m =>
    obtain ⟨⟨h1, h2⟩, h3⟩ := h
    obtain ⟨j, v⟩ := q
    dsimp only at h1 h2
    subst h1
    exact ⟨v, m, rfl, h2, h3⟩
theorem xe_p_m {b : Nat} {as as2 : List Nat} (hm : xe_m as as2) : ∀ {l : List (Nat × xe_v)} {m : List (Nat × Value)}, xe_p b as l m → xe_p b as2 l m
  | [], m, h => by rw [xe_p_nil h]; exact trivial
  | (i, a) :: l, m, h => by
    obtain ⟨v, m2, rfl, h1, h2⟩ := xe_p_cons h
    exact ⟨⟨rfl, xe_g_m hm h1⟩, xe_p_m hm h2⟩
def xe_lg (l : List (Nat × xe_v)) (i : Nat) : Option xe_v := match l with
  | [] => none
  | q :: l => if q.1 == i then some q.2 else xe_lg l i
theorem xe_p_lg {b : Nat} {as : List Nat} {i : Nat} {a : xe_v} : ∀ {l : List (Nat × xe_v)} {m : List (Nat × Value)}, xe_p b as l m → xe_lg l i = some a → ∃ (k : Nat) (v : Value), m[k]? = some (i, v) ∧ xe_g b as a v
  | [], m, h, hk => by cases hk
  | (j, c) :: l, m, h, hk => by
    obtain ⟨v, m2, rfl, h1, h2⟩ := xe_p_cons h
    unfold xe_lg at hk
    split at hk
    · next e =>
      have e : j = i := by simpa using e
      subst e
      cases hk
      exact ⟨0, v, rfl, h1⟩
    · obtain ⟨k, v2, q1, q2⟩ := xe_p_lg h2 hk
      exact ⟨k + 1, v2, by rw [List.getElem?_cons_succ]; exact q1, q2⟩
/-- a store, as the kit lists it: one word, two words -/
def xe_s1 (l : List (Nat × xe_v)) (i : Nat) (a : xe_v) : List (Nat × xe_v) := (i, a) :: l.filter (fun q => !(q.1 == i) && !(q.1 + 1 == i && q.2.1 == 1))
def xe_s2 (l : List (Nat × xe_v)) (i : Nat) (a : xe_v) : List (Nat × xe_v) := (i, a) :: l.filter (fun q => !(q.1 == i) && (!(q.1 == i + 1) && !(q.1 + 1 == i && q.2.1 == 1)))
theorem xe_p_fil {b : Nat} {as : List Nat} {f : Nat × xe_v → Bool} {g : Nat × Value → Bool} (hfg : ∀ i a v, xe_g b as a v → f (i, a) = g (i, v)) : ∀ {l : List (Nat × xe_v)} {m : List (Nat × Value)}, xe_p b as l m → xe_p b as (l.filter f) (m.filter g)
  | [], m, h => by rw [xe_p_nil h]; exact trivial
  | (i, a) :: l, m, h => by
    obtain ⟨v, m2, rfl, h1, h2⟩ := xe_p_cons h
    rw [List.filter_cons, List.filter_cons, hfg i a v h1]
    split
    · exact ⟨⟨rfl, h1⟩, xe_p_fil hfg h2⟩
    · exact xe_p_fil hfg h2
theorem xe_c2 {b : Nat} {as : List Nat} {a : xe_v} {v : Value} (h : xe_g b as a v) : (a.1 == 1) = (v.category == 2) := by
  rw [xe_cat h]
  cases a.1 == 1 <;> rfl
theorem xe_p_s1 {b : Nat} {as : List Nat} {l : List (Nat × xe_v)} {m : List (Nat × Value)} (h : xe_p b as l m) {i : Nat} {a : xe_v} {v : Value} (hg : xe_g b as a v) : xe_p b as (xe_s1 l i a) ((i, v) :: m.filter (fun q => !(q.1 == i) && !(q.1 + 1 == i && q.2.category == 2))) :=
  ⟨⟨rfl, hg⟩, xe_p_fil (fun j c w hw => by dsimp only; rw [xe_c2 hw]) h⟩
theorem xe_p_s2 {b : Nat} {as : List Nat} {l : List (Nat × xe_v)} {m : List (Nat × Value)} (h : xe_p b as l m) {i : Nat} {a : xe_v} {v : Value} (hg : xe_g b as a v) : xe_p b as (xe_s2 l i a) ((i, v) :: m.filter (fun q => !(q.1 == i) && (!(q.1 == i + 1) && !(q.1 + 1 == i && q.2.category == 2)))) :=
  ⟨⟨rfl, hg⟩, xe_p_fil (fun j c w hw => by dsimp only; rw [xe_c2 hw]) h⟩
/-- the first places: the receiver's and the arguments' -/
def xe_ar : Nat → List xe_v → List (Nat × xe_v)
  | _, [] => []
  | i, a :: l => (i, a) :: xe_ar (if a.1 == 1 then i + 2 else i + 1) l
theorem xe_p_ar {b : Nat} {as : List Nat} : ∀ {l : List xe_v} {m : List Value} (i : Nat), xe_w b as l m → xe_p b as (xe_ar i l) (lv_args i m)
  | [], m, i, h => by rw [xe_w_nil h]; exact trivial
  | a :: l, m, i, h => by
    obtain ⟨v, m2, rfl, h1, h2⟩ := xe_w_cons h
    refine ⟨⟨rfl, h1⟩, ?_⟩
    have e : (if a.1 == 1 then i + 2 else i + 1) = (if v.category = 2 then i + 2 else i + 1) := by
      rw [xe_cat h1]
      cases a.1 == 1 <;> rfl
    show xe_p b as (xe_ar _ l) (lv_args _ m2)
    rw [e]
    exact xe_p_ar _ h2
theorem xe_w_sl {b : Nat} {as : List Nat} : ∀ {l : List xe_v} {m : List Value}, xe_w b as l m → (lg_sl m).length = xe_sum l
  | [], m, h => by rw [xe_w_nil h]; rfl
  | a :: l, m, h => by
    obtain ⟨v, m2, rfl, h1, h2⟩ := xe_w_cons h
    have ih := xe_w_sl h2
    unfold lg_sl at ih ⊢
    rw [List.flatMap_cons, List.length_append, ih, xe_cat h1]
    show _ = (if a.1 == 1 then 2 else 1) + xe_sum l
    cases a.1 == 1 <;> rfl
end
section
/-! cells of the reckoner: (0, which class, its fields), (1 ints, 2 bytes, 3 longs, 4 addresses; how many; what stands where nothing else is noted; what is noted) -/
def xe_ag : List (Nat × xe_v) → xe_v → Nat → xe_v
  | [], d, _ => d
  | q :: o, d, k => if q.1 == k then q.2 else xe_ag o d k
def xe_at : List (Nat × xe_v) → Nat → xe_v → List (Nat × xe_v)
  | [], k, v => [(k, v)]
  | q :: o, k, v => if q.1 == k then (k, v) :: o else q :: xe_at o k v
theorem xe_ag_at (d : xe_v) (k : Nat) (v : xe_v) (j : Nat) : ∀ o : List (Nat × xe_v), xe_ag (xe_at o k v) d j = if j = k then v else xe_ag o d j
  | [] => by
    show (if k == j then v else d) = if j = k then v else d
    by_cases h : j = k
    · subst h; simp
    · rw [if_neg h, if_neg (by simpa using fun z => h z.symm)]
  | q :: o => by
    by_cases hq : q.1 = k
    · have e : xe_at (q :: o) k v = (k, v) :: o := by simp [xe_at, hq]
      rw [e]
      show (if k == j then v else xe_ag o d j) = if j = k then v else (if q.1 == j then q.2 else xe_ag o d j)
      by_cases h : j = k
      · subst h; simp
      · rw [if_neg h, if_neg (by simpa using fun z => h z.symm), if_neg (by rw [hq]; simpa using fun z => h z.symm)]
    · have e : xe_at (q :: o) k v = q :: xe_at o k v := by simp [xe_at, hq]
      rw [e]
      show (if q.1 == j then q.2 else xe_ag (xe_at o k v) d j) = if j = k then v else (if q.1 == j then q.2 else xe_ag o d j)
      rw [xe_ag_at d k v j o]
      by_cases h : j = k
      · subst h
        rw [if_pos rfl, if_neg (by simpa using hq), if_pos rfl]
      · rw [if_neg h, if_neg h]
def xe_aw (o : List (Nat × xe_v)) (d : xe_v) (k : Nat) (v : xe_v) : List (Nat × xe_v) := if xe_ag o d k = v then o else xe_at o k v
theorem xe_ag_aw (o : List (Nat × xe_v)) (d : xe_v) (k : Nat) (v : xe_v) (j : Nat) : xe_ag (xe_aw o d k v) d j = if j = k then v else xe_ag o d j := by
  unfold xe_aw
  split
  · next h =>
    by_cases e : j = k
    · subst e; rw [if_pos rfl, h]
    · rw [if_neg e]
  · exact xe_ag_at d k v j o
/-- n of one row to another -/
def xe_ac (o2 : List (Nat × xe_v)) (d2 : xe_v) (sp dp : Nat) : Nat → List (Nat × xe_v) → xe_v → List (Nat × xe_v)
  | 0, o, _ => o
  | n + 1, o, d => xe_aw (xe_ac o2 d2 sp dp n o d) d (dp + n) (xe_ag o2 d2 (sp + n))
theorem xe_ag_ac (o2 : List (Nat × xe_v)) (d2 : xe_v) (sp dp : Nat) (o : List (Nat × xe_v)) (d : xe_v) (j : Nat) : ∀ n : Nat, xe_ag (xe_ac o2 d2 sp dp n o d) d j = if dp ≤ j ∧ j < dp + n then xe_ag o2 d2 (sp + (j - dp)) else xe_ag o d j
  | 0 => by rw [if_neg (by omega)]; rfl
  | n + 1 => by
    show xe_ag (xe_aw (xe_ac o2 d2 sp dp n o d) d (dp + n) (xe_ag o2 d2 (sp + n))) d j = _
    rw [xe_ag_aw, xe_ag_ac o2 d2 sp dp o d j n]
    by_cases h : j = dp + n
    · subst h
      rw [if_pos rfl, if_pos (by omega), Nat.add_sub_cancel_left]
    · rw [if_neg h]
      by_cases h2 : dp ≤ j ∧ j < dp + n
      · rw [if_pos h2, if_pos (by omega)]
      · rw [if_neg h2, if_neg (by omega)]
def xe_r (E : Nat → ClassId) (b : Nat) (as : List Nat) (c : xe_c) (e : va_E) : Prop := match c.1 with
  | 0 => ∃ fs : List Value, e = .inr (c.2.1, fs) ∧ xe_w b as c.2.2.1 fs
  | 1 => ∃ f : Nat → Int32, e = .inl (E 0, c.2.1, .inl f) ∧ ∀ k, xe_g b as (xe_ag c.2.2.2.2 c.2.2.2.1 k) (.int (f k))
  | 2 => ∃ f : Nat → Int32, e = .inl (E 1, c.2.1, .inl f) ∧ ∀ k, xe_g b as (xe_ag c.2.2.2.2 c.2.2.2.1 k) (.int (f k))
  | 3 => ∃ f : Nat → Int64, e = .inl (E 2, c.2.1, .inr (.inl f)) ∧ ∀ k, xe_g b as (xe_ag c.2.2.2.2 c.2.2.2.1 k) (.long (f k))
  | 4 => ∃ f : Nat → Option Nat, e = .inl (E 3, c.2.1, .inr (.inr (.inr (.inr f)))) ∧ ∀ k, xe_g b as (xe_ag c.2.2.2.2 c.2.2.2.1 k) (va_rf (f k))
  | _ => False
theorem xe_r_m {E : Nat → ClassId} {b : Nat} {as as2 : List Nat} (hm : xe_m as as2) {c : xe_c} {e : va_E} (h : xe_r E b as c e) : xe_r E b as2 c e := by
  unfold xe_r at h ⊢
  split <;> simp_all only []
  · obtain ⟨fs, h1, h2⟩ := h
    exact ⟨fs, h1, xe_w_m hm h2⟩
  · obtain ⟨f, h1, h2⟩ := h
    exact ⟨f, h1, fun k => xe_g_m hm (h2 k)⟩
  · obtain ⟨f, h1, h2⟩ := h
    exact ⟨f, h1, fun k => xe_g_m hm (h2 k)⟩
  · obtain ⟨f, h1, h2⟩ := h
    exact ⟨f, h1, fun k => xe_g_m hm (h2 k)⟩
  · obtain ⟨f, h1, h2⟩ := h
    exact ⟨f, h1, fun k => xe_g_m hm (h2 k)⟩
def xe_R (E : Nat → ClassId) (b : Nat) (as : List Nat) (σ : List xe_c) (ws : va_W) : Prop := ws.map (fun q => q.1) = as ∧ ws.length = σ.length ∧ ∀ (k : Nat) (c : xe_c), σ[k]? = some c → ∃ (q : Nat) (e : va_E), ws[k]? = some (q, e) ∧ xe_r E b as c e
theorem xe_R_at {E : Nat → ClassId} {b : Nat} {as : List Nat} {σ : List xe_c} {ws : va_W} (h : xe_R E b as σ ws) {r q : Nat} {c : xe_c} (hr : as[r]? = some q) (hc : σ[r]? = some c) : ∃ e : va_E, ws[r]? = some (q, e) ∧ xe_r E b as c e := by
  obtain ⟨q2, e, h1, h2⟩ := h.2.2 r c hc
  rw [← h.1, List.getElem?_map, h1] at hr
  cases hr
  exact ⟨e, h1, h2⟩
theorem xe_R_set {E : Nat → ClassId} {b : Nat} {as : List Nat} {σ : List xe_c} {ws : va_W} (h : xe_R E b as σ ws) {r q : Nat} {e0 e : va_E} {c : xe_c} (hw : ws[r]? = some (q, e0)) (hr : xe_r E b as c e) : xe_R E b as (σ.set r c) (ws.set r (q, e)) := by
  refine ⟨?_, by rw [List.length_set, List.length_set]; exact h.2.1, fun k c2 hk => ?_⟩
  · rw [List.map_set, ← h.1]
    have h1 : (ws.map (fun q => q.1))[r]? = some q := by rw [List.getElem?_map, hw]; rfl
    obtain ⟨h2, h3⟩ := List.getElem?_eq_some_iff.mp h1
    have h4 := List.set_getElem_self h2
    rw [h3] at h4
    exact h4
  · by_cases e : r = k
    · subst e
      have hl : r < ws.length := (List.getElem?_eq_some_iff.mp hw).1
      rw [List.getElem?_set_self (by rw [← h.2.1]; exact hl)] at hk
      cases hk
      exact ⟨q, _, by rw [List.getElem?_set_self hl], hr⟩
    · rw [List.getElem?_set_ne e] at hk
      obtain ⟨q2, e2, h1, h2⟩ := h.2.2 k c2 hk
      exact ⟨q2, e2, by rw [List.getElem?_set_ne e]; exact h1, h2⟩
theorem xe_R_push {E : Nat → ClassId} {b : Nat} {as : List Nat} {σ : List xe_c} {ws : va_W} (h : xe_R E b as σ ws) (q : Nat) {e : va_E} {c : xe_c} (hr : xe_r E b (as ++ [q]) c e) : xe_R E b (as ++ [q]) (σ ++ [c]) (ws ++ [(q, e)]) := by
  refine ⟨by rw [List.map_append, h.1]; rfl, by rw [List.length_append, List.length_append, h.2.1]; rfl, fun k c2 hk => ?_⟩
  rcases Nat.lt_or_ge k σ.length with hl | hl
  · rw [List.getElem?_append_left hl] at hk
    obtain ⟨q2, e2, h1, h2⟩ := h.2.2 k c2 hk
    exact ⟨q2, e2, by rw [List.getElem?_append_left (by rw [h.2.1]; exact hl)]; exact h1, xe_r_m (xe_m_app _ _) h2⟩
  · rw [List.getElem?_append_right hl] at hk
    rcases Nat.eq_or_lt_of_le hl with z | z
    · subst z
      rw [Nat.sub_self] at hk
      cases hk
      refine ⟨q, e, ?_, hr⟩
      rw [List.getElem?_append_right (by rw [h.2.1]; exact Nat.le_refl _), h.2.1, Nat.sub_self]
      rfl
    · have : k - σ.length = (k - σ.length - 1) + 1 := by omega
      rw [this] at hk
      simp at hk
theorem xe_R_len {E : Nat → ClassId} {b : Nat} {as : List Nat} {σ : List xe_c} {ws : va_W} (h : xe_R E b as σ ws) : as.length = σ.length := by rw [← h.1, List.length_map, h.2.1]
theorem xe_R_new {E : Nat → ClassId} {b : Nat} {as : List Nat} {σ : List xe_c} {ws : va_W} (h : xe_R E b as σ ws) (q : Nat) : (as ++ [q])[σ.length]? = some q := by
  rw [List.getElem?_append_right (by rw [xe_R_len h]; exact Nat.le_refl _), xe_R_len h, Nat.sub_self]
  rfl
/-- the kinds of cells, one at a time -/
theorem xe_r0 {E : Nat → ClassId} {b : Nat} {as : List Nat} {c : xe_c} {e : va_E} (t : (c.1 == 0) = true) (h : xe_r E b as c e) : ∃ fs : List Value, e = .inr (c.2.1, fs) ∧ xe_w b as c.2.2.1 fs := by
  have z : c.1 = 0 := by simpa using t
  unfold xe_r at h
  rw [z] at h
  exact h
theorem xe_r1 {E : Nat → ClassId} {b : Nat} {as : List Nat} {c : xe_c} {e : va_E} (t : (c.1 == 1) = true) (h : xe_r E b as c e) : ∃ f : Nat → Int32, e = .inl (E 0, c.2.1, .inl f) ∧ ∀ k, xe_g b as (xe_ag c.2.2.2.2 c.2.2.2.1 k) (.int (f k)) := by
  have z : c.1 = 1 := by simpa using t
  unfold xe_r at h
  rw [z] at h
  exact h
theorem xe_r2 {E : Nat → ClassId} {b : Nat} {as : List Nat} {c : xe_c} {e : va_E} (t : (c.1 == 2) = true) (h : xe_r E b as c e) : ∃ f : Nat → Int32, e = .inl (E 1, c.2.1, .inl f) ∧ ∀ k, xe_g b as (xe_ag c.2.2.2.2 c.2.2.2.1 k) (.int (f k)) := by
  have z : c.1 = 2 := by simpa using t
  unfold xe_r at h
  rw [z] at h
  exact h
theorem xe_r3 {E : Nat → ClassId} {b : Nat} {as : List Nat} {c : xe_c} {e : va_E} (t : (c.1 == 3) = true) (h : xe_r E b as c e) : ∃ f : Nat → Int64, e = .inl (E 2, c.2.1, .inr (.inl f)) ∧ ∀ k, xe_g b as (xe_ag c.2.2.2.2 c.2.2.2.1 k) (.long (f k)) := by
  have z : c.1 = 3 := by simpa using t
  unfold xe_r at h
  rw [z] at h
  exact h
theorem xe_r4 {E : Nat → ClassId} {b : Nat} {as : List Nat} {c : xe_c} {e : va_E} (t : (c.1 == 4) = true) (h : xe_r E b as c e) : ∃ f : Nat → Option Nat, e = .inl (E 3, c.2.1, .inr (.inr (.inr (.inr f)))) ∧ ∀ k, xe_g b as (xe_ag c.2.2.2.2 c.2.2.2.1 k) (va_rf (f k)) := by
  have z : c.1 = 4 := by simpa using t
  unfold xe_r at h
  rw [z] at h
  exact h
/-- no place of the world is taken for another -/
def xe_tys (E : Nat → ClassId) : List (ClassId × FieldType) := [(E 0, .int), (E 1, .byte), (E 2, .long), (E 3, .object "SlideNight$Slide")]
end
