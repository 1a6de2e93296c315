-- ===== PART A: goes FIRST, ahead of the names: the tables' words, and 'selects' of the private methods out of them =====
/-- a private method of a class that the tables say can be made, by its rows of tables_1 -/
def lw_okq (q : MethodName × Nat) : Prop := (q.1.cls ≠ "java/lang/invoke/MethodHandle" ∧ q.1.cls ≠ "java/lang/invoke/VarHandle") ∧ Cond.instantiable q.1.cls q.2 ∈ tables_1 ∧ Cond.privateMethod q.1 ∈ tables_1 ∧ Cond.instanceMethod q.1 ∈ tables_1
theorem lw_p0 : lw_okq (⟨"NarrowBox", "isBox", "(I)Z"⟩, 20) := ⟨⟨by decide +kernel, by decide +kernel⟩, List.mem_of_getElem? (i := 19) (by decide +kernel), List.mem_of_getElem? (i := 456) (by decide +kernel), List.mem_of_getElem? (i := 457) (by decide +kernel)⟩
theorem lw_p1 : lw_okq (⟨"NarrowBox$Reader", "readLine", "(I)V"⟩, 5) := ⟨⟨by decide +kernel, by decide +kernel⟩, List.mem_of_getElem? (i := 27) (by decide +kernel), List.mem_of_getElem? (i := 468) (by decide +kernel), List.mem_of_getElem? (i := 469) (by decide +kernel)⟩
theorem lw_p2 : lw_okq (⟨"NarrowBox$Reader", "takes", "(I)Z"⟩, 5) := ⟨⟨by decide +kernel, by decide +kernel⟩, List.mem_of_getElem? (i := 27) (by decide +kernel), List.mem_of_getElem? (i := 472) (by decide +kernel), List.mem_of_getElem? (i := 473) (by decide +kernel)⟩
theorem lw_p3 : lw_okq (⟨"NarrowBox$Reader", "next", "()I"⟩, 5) := ⟨⟨by decide +kernel, by decide +kernel⟩, List.mem_of_getElem? (i := 27) (by decide +kernel), List.mem_of_getElem? (i := 476) (by decide +kernel), List.mem_of_getElem? (i := 477) (by decide +kernel)⟩
theorem lw_p4 : lw_okq (⟨"NarrowBox$Reader", "readPart", "(II)V"⟩, 5) := ⟨⟨by decide +kernel, by decide +kernel⟩, List.mem_of_getElem? (i := 27) (by decide +kernel), List.mem_of_getElem? (i := 480) (by decide +kernel), List.mem_of_getElem? (i := 481) (by decide +kernel)⟩
theorem lw_p5 : lw_okq (⟨"NarrowBox$Reader", "readOperand", "(I)V"⟩, 5) := ⟨⟨by decide +kernel, by decide +kernel⟩, List.mem_of_getElem? (i := 27) (by decide +kernel), List.mem_of_getElem? (i := 484) (by decide +kernel), List.mem_of_getElem? (i := 485) (by decide +kernel)⟩
theorem lw_p6 : lw_okq (⟨"NarrowBox$Reader", "readNumber", "()V"⟩, 5) := ⟨⟨by decide +kernel, by decide +kernel⟩, List.mem_of_getElem? (i := 27) (by decide +kernel), List.mem_of_getElem? (i := 488) (by decide +kernel), List.mem_of_getElem? (i := 489) (by decide +kernel)⟩
theorem lw_p7 : lw_okq (⟨"NarrowBox$Reader", "readName", "()V"⟩, 5) := ⟨⟨by decide +kernel, by decide +kernel⟩, List.mem_of_getElem? (i := 27) (by decide +kernel), List.mem_of_getElem? (i := 496) (by decide +kernel), List.mem_of_getElem? (i := 497) (by decide +kernel)⟩
theorem lw_p8 : lw_okq (⟨"NarrowBox$Reader", "readDigit", "(I)I"⟩, 5) := ⟨⟨by decide +kernel, by decide +kernel⟩, List.mem_of_getElem? (i := 27) (by decide +kernel), List.mem_of_getElem? (i := 500) (by decide +kernel), List.mem_of_getElem? (i := 501) (by decide +kernel)⟩
theorem lw_p9 : lw_okq (⟨"NarrowBox$Reader", "need", "(I)V"⟩, 5) := ⟨⟨by decide +kernel, by decide +kernel⟩, List.mem_of_getElem? (i := 27) (by decide +kernel), List.mem_of_getElem? (i := 504) (by decide +kernel), List.mem_of_getElem? (i := 505) (by decide +kernel)⟩
theorem lw_p10 : lw_okq (⟨"NarrowBox$Reader", "operatorOf", "(I)I"⟩, 5) := ⟨⟨by decide +kernel, by decide +kernel⟩, List.mem_of_getElem? (i := 27) (by decide +kernel), List.mem_of_getElem? (i := 508) (by decide +kernel), List.mem_of_getElem? (i := 509) (by decide +kernel)⟩
theorem lw_p11 : lw_okq (⟨"NarrowBox$Reader", "readTarget", "(I)V"⟩, 5) := ⟨⟨by decide +kernel, by decide +kernel⟩, List.mem_of_getElem? (i := 27) (by decide +kernel), List.mem_of_getElem? (i := 512) (by decide +kernel), List.mem_of_getElem? (i := 513) (by decide +kernel)⟩
theorem lw_p12 : lw_okq (⟨"NarrowBox", "isLine", "(II)Z"⟩, 20) := ⟨⟨by decide +kernel, by decide +kernel⟩, List.mem_of_getElem? (i := 19) (by decide +kernel), List.mem_of_getElem? (i := 529) (by decide +kernel), List.mem_of_getElem? (i := 530) (by decide +kernel)⟩
theorem lw_p13 : lw_okq (⟨"NarrowBox", "isFelt", "(I)Z"⟩, 20) := ⟨⟨by decide +kernel, by decide +kernel⟩, List.mem_of_getElem? (i := 19) (by decide +kernel), List.mem_of_getElem? (i := 549) (by decide +kernel), List.mem_of_getElem? (i := 550) (by decide +kernel)⟩
theorem lw_p14 : lw_okq (⟨"NarrowBox", "isFlight", "(I)Z"⟩, 20) := ⟨⟨by decide +kernel, by decide +kernel⟩, List.mem_of_getElem? (i := 19) (by decide +kernel), List.mem_of_getElem? (i := 553) (by decide +kernel), List.mem_of_getElem? (i := 554) (by decide +kernel)⟩
theorem lw_p15 : lw_okq (⟨"NarrowBox", "fly", "(LNarrowBox$Stand;LNarrowBox$Flight;II)V"⟩, 20) := ⟨⟨by decide +kernel, by decide +kernel⟩, List.mem_of_getElem? (i := 19) (by decide +kernel), List.mem_of_getElem? (i := 625) (by decide +kernel), List.mem_of_getElem? (i := 626) (by decide +kernel)⟩
def lw_privs_1 : List (MethodName × Nat) := [(⟨"NarrowBox", "isBox", "(I)Z"⟩, 20), (⟨"NarrowBox$Reader", "readLine", "(I)V"⟩, 5), (⟨"NarrowBox$Reader", "takes", "(I)Z"⟩, 5), (⟨"NarrowBox$Reader", "next", "()I"⟩, 5), (⟨"NarrowBox$Reader", "readPart", "(II)V"⟩, 5), (⟨"NarrowBox$Reader", "readOperand", "(I)V"⟩, 5), (⟨"NarrowBox$Reader", "readNumber", "()V"⟩, 5), (⟨"NarrowBox$Reader", "readName", "()V"⟩, 5), (⟨"NarrowBox$Reader", "readDigit", "(I)I"⟩, 5), (⟨"NarrowBox$Reader", "need", "(I)V"⟩, 5), (⟨"NarrowBox$Reader", "operatorOf", "(I)I"⟩, 5), (⟨"NarrowBox$Reader", "readTarget", "(I)V"⟩, 5), (⟨"NarrowBox", "isLine", "(II)Z"⟩, 20), (⟨"NarrowBox", "isFelt", "(I)Z"⟩, 20), (⟨"NarrowBox", "isFlight", "(I)Z"⟩, 20), (⟨"NarrowBox", "fly", "(LNarrowBox$Stand;LNarrowBox$Flight;II)V"⟩, 20)]
theorem lw_r1 : ∀ q ∈ lw_privs_1, lw_okq q := List.forall_mem_cons.mpr ⟨lw_p0, List.forall_mem_cons.mpr ⟨lw_p1, List.forall_mem_cons.mpr ⟨lw_p2, List.forall_mem_cons.mpr ⟨lw_p3, List.forall_mem_cons.mpr ⟨lw_p4, List.forall_mem_cons.mpr ⟨lw_p5, List.forall_mem_cons.mpr ⟨lw_p6, List.forall_mem_cons.mpr ⟨lw_p7, List.forall_mem_cons.mpr ⟨lw_p8, List.forall_mem_cons.mpr ⟨lw_p9, List.forall_mem_cons.mpr ⟨lw_p10, List.forall_mem_cons.mpr ⟨lw_p11, List.forall_mem_cons.mpr ⟨lw_p12, List.forall_mem_cons.mpr ⟨lw_p13, List.forall_mem_cons.mpr ⟨lw_p14, List.forall_mem_cons.mpr ⟨lw_p15, fun _ h => absurd h List.not_mem_nil⟩⟩⟩⟩⟩⟩⟩⟩⟩⟩⟩⟩⟩⟩⟩⟩
theorem lw_p16 : lw_okq (⟨"NarrowBox$Ticker", "doBox", "(LNarrowBox$Box;)V"⟩, 10) := ⟨⟨by decide +kernel, by decide +kernel⟩, List.mem_of_getElem? (i := 113) (by decide +kernel), List.mem_of_getElem? (i := 642) (by decide +kernel), List.mem_of_getElem? (i := 643) (by decide +kernel)⟩
theorem lw_p17 : lw_okq (⟨"NarrowBox$Ticker", "workOut", "(II)J"⟩, 10) := ⟨⟨by decide +kernel, by decide +kernel⟩, List.mem_of_getElem? (i := 113) (by decide +kernel), List.mem_of_getElem? (i := 647) (by decide +kernel), List.mem_of_getElem? (i := 648) (by decide +kernel)⟩
theorem lw_p18 : lw_okq (⟨"NarrowBox$Ticker", "inputOf", "(I)I"⟩, 10) := ⟨⟨by decide +kernel, by decide +kernel⟩, List.mem_of_getElem? (i := 113) (by decide +kernel), List.mem_of_getElem? (i := 652) (by decide +kernel), List.mem_of_getElem? (i := 653) (by decide +kernel)⟩
theorem lw_p19 : lw_okq (⟨"NarrowBox$Ticker", "valueOf", "(II)I"⟩, 10) := ⟨⟨by decide +kernel, by decide +kernel⟩, List.mem_of_getElem? (i := 113) (by decide +kernel), List.mem_of_getElem? (i := 656) (by decide +kernel), List.mem_of_getElem? (i := 657) (by decide +kernel)⟩
theorem lw_p20 : lw_okq (⟨"NarrowBox$Ticker", "join", "(IJJ)J"⟩, 10) := ⟨⟨by decide +kernel, by decide +kernel⟩, List.mem_of_getElem? (i := 113) (by decide +kernel), List.mem_of_getElem? (i := 660) (by decide +kernel), List.mem_of_getElem? (i := 661) (by decide +kernel)⟩
theorem lw_p21 : lw_okq (⟨"NarrowBox$Ticker", "send", "(IJ)V"⟩, 10) := ⟨⟨by decide +kernel, by decide +kernel⟩, List.mem_of_getElem? (i := 113) (by decide +kernel), List.mem_of_getElem? (i := 666) (by decide +kernel), List.mem_of_getElem? (i := 667) (by decide +kernel)⟩
theorem lw_p22 : lw_okq (⟨"NarrowBox", "feltsRead", "()I"⟩, 20) := ⟨⟨by decide +kernel, by decide +kernel⟩, List.mem_of_getElem? (i := 19) (by decide +kernel), List.mem_of_getElem? (i := 728) (by decide +kernel), List.mem_of_getElem? (i := 729) (by decide +kernel)⟩
theorem lw_p23 : lw_okq (⟨"NarrowBox", "goesOver", "(I)Z"⟩, 20) := ⟨⟨by decide +kernel, by decide +kernel⟩, List.mem_of_getElem? (i := 19) (by decide +kernel), List.mem_of_getElem? (i := 741) (by decide +kernel), List.mem_of_getElem? (i := 742) (by decide +kernel)⟩
theorem lw_p24 : lw_okq (⟨"NarrowBox$Spans", "setName", "(IILNarrowBox$Box;I)V"⟩, 5) := ⟨⟨by decide +kernel, by decide +kernel⟩, List.mem_of_getElem? (i := 90) (by decide +kernel), List.mem_of_getElem? (i := 766) (by decide +kernel), List.mem_of_getElem? (i := 767) (by decide +kernel)⟩
theorem lw_p25 : lw_okq (⟨"NarrowBox$Spans", "setBits", "(II)V"⟩, 5) := ⟨⟨by decide +kernel, by decide +kernel⟩, List.mem_of_getElem? (i := 90) (by decide +kernel), List.mem_of_getElem? (i := 772) (by decide +kernel), List.mem_of_getElem? (i := 773) (by decide +kernel)⟩
theorem lw_p26 : lw_okq (⟨"NarrowBox$Spans", "set", "(IJJ)V"⟩, 5) := ⟨⟨by decide +kernel, by decide +kernel⟩, List.mem_of_getElem? (i := 90) (by decide +kernel), List.mem_of_getElem? (i := 776) (by decide +kernel), List.mem_of_getElem? (i := 777) (by decide +kernel)⟩
theorem lw_p27 : lw_okq (⟨"NarrowBox$Spans", "join", "(II)V"⟩, 5) := ⟨⟨by decide +kernel, by decide +kernel⟩, List.mem_of_getElem? (i := 90) (by decide +kernel), List.mem_of_getElem? (i := 784) (by decide +kernel), List.mem_of_getElem? (i := 785) (by decide +kernel)⟩
theorem lw_p28 : lw_okq (⟨"NarrowBox$Spans", "setEnds", "(IJJJJ)V"⟩, 5) := ⟨⟨by decide +kernel, by decide +kernel⟩, List.mem_of_getElem? (i := 90) (by decide +kernel), List.mem_of_getElem? (i := 788) (by decide +kernel), List.mem_of_getElem? (i := 789) (by decide +kernel)⟩
theorem lw_p29 : lw_okq (⟨"NarrowBox$Spans", "divide", "(II)V"⟩, 5) := ⟨⟨by decide +kernel, by decide +kernel⟩, List.mem_of_getElem? (i := 90) (by decide +kernel), List.mem_of_getElem? (i := 794) (by decide +kernel), List.mem_of_getElem? (i := 795) (by decide +kernel)⟩
theorem lw_p30 : lw_okq (⟨"NarrowBox$Spans", "fits", "(LNarrowBox$Box;I)Z"⟩, 5) := ⟨⟨by decide +kernel, by decide +kernel⟩, List.mem_of_getElem? (i := 90) (by decide +kernel), List.mem_of_getElem? (i := 801) (by decide +kernel), List.mem_of_getElem? (i := 802) (by decide +kernel)⟩
theorem lw_p31 : lw_okq (⟨"NarrowBox", "flyWithout", "(IILNarrowBox$Flight;II)V"⟩, 20) := ⟨⟨by decide +kernel, by decide +kernel⟩, List.mem_of_getElem? (i := 19) (by decide +kernel), List.mem_of_getElem? (i := 826) (by decide +kernel), List.mem_of_getElem? (i := 827) (by decide +kernel)⟩
def lw_privs_2 : List (MethodName × Nat) := [(⟨"NarrowBox$Ticker", "doBox", "(LNarrowBox$Box;)V"⟩, 10), (⟨"NarrowBox$Ticker", "workOut", "(II)J"⟩, 10), (⟨"NarrowBox$Ticker", "inputOf", "(I)I"⟩, 10), (⟨"NarrowBox$Ticker", "valueOf", "(II)I"⟩, 10), (⟨"NarrowBox$Ticker", "join", "(IJJ)J"⟩, 10), (⟨"NarrowBox$Ticker", "send", "(IJ)V"⟩, 10), (⟨"NarrowBox", "feltsRead", "()I"⟩, 20), (⟨"NarrowBox", "goesOver", "(I)Z"⟩, 20), (⟨"NarrowBox$Spans", "setName", "(IILNarrowBox$Box;I)V"⟩, 5), (⟨"NarrowBox$Spans", "setBits", "(II)V"⟩, 5), (⟨"NarrowBox$Spans", "set", "(IJJ)V"⟩, 5), (⟨"NarrowBox$Spans", "join", "(II)V"⟩, 5), (⟨"NarrowBox$Spans", "setEnds", "(IJJJJ)V"⟩, 5), (⟨"NarrowBox$Spans", "divide", "(II)V"⟩, 5), (⟨"NarrowBox$Spans", "fits", "(LNarrowBox$Box;I)Z"⟩, 5), (⟨"NarrowBox", "flyWithout", "(IILNarrowBox$Flight;II)V"⟩, 20)]
theorem lw_r2 : ∀ q ∈ lw_privs_2, lw_okq q := List.forall_mem_cons.mpr ⟨lw_p16, List.forall_mem_cons.mpr ⟨lw_p17, List.forall_mem_cons.mpr ⟨lw_p18, List.forall_mem_cons.mpr ⟨lw_p19, List.forall_mem_cons.mpr ⟨lw_p20, List.forall_mem_cons.mpr ⟨lw_p21, List.forall_mem_cons.mpr ⟨lw_p22, List.forall_mem_cons.mpr ⟨lw_p23, List.forall_mem_cons.mpr ⟨lw_p24, List.forall_mem_cons.mpr ⟨lw_p25, List.forall_mem_cons.mpr ⟨lw_p26, List.forall_mem_cons.mpr ⟨lw_p27, List.forall_mem_cons.mpr ⟨lw_p28, List.forall_mem_cons.mpr ⟨lw_p29, List.forall_mem_cons.mpr ⟨lw_p30, List.forall_mem_cons.mpr ⟨lw_p31, fun _ h => absurd h List.not_mem_nil⟩⟩⟩⟩⟩⟩⟩⟩⟩⟩⟩⟩⟩⟩⟩⟩
theorem lw_p32 : lw_okq (⟨"NarrowBox", "unlikeBoxes", "()I"⟩, 20) := ⟨⟨by decide +kernel, by decide +kernel⟩, List.mem_of_getElem? (i := 19) (by decide +kernel), List.mem_of_getElem? (i := 831) (by decide +kernel), List.mem_of_getElem? (i := 832) (by decide +kernel)⟩
theorem lw_p33 : lw_okq (⟨"NarrowBox", "isTwin", "(I)Z"⟩, 20) := ⟨⟨by decide +kernel, by decide +kernel⟩, List.mem_of_getElem? (i := 19) (by decide +kernel), List.mem_of_getElem? (i := 843) (by decide +kernel), List.mem_of_getElem? (i := 844) (by decide +kernel)⟩
theorem lw_p34 : lw_okq (⟨"NarrowBox", "areFlights", "(I)Z"⟩, 20) := ⟨⟨by decide +kernel, by decide +kernel⟩, List.mem_of_getElem? (i := 19) (by decide +kernel), List.mem_of_getElem? (i := 851) (by decide +kernel), List.mem_of_getElem? (i := 852) (by decide +kernel)⟩
theorem lw_p35 : lw_okq (⟨"NarrowBox", "isReadByOthers", "(I)Z"⟩, 20) := ⟨⟨by decide +kernel, by decide +kernel⟩, List.mem_of_getElem? (i := 19) (by decide +kernel), List.mem_of_getElem? (i := 859) (by decide +kernel), List.mem_of_getElem? (i := 860) (by decide +kernel)⟩
theorem lw_p36 : lw_okq (⟨"NarrowBox", "bestWatches", "(LNarrowBox$Box;II)I"⟩, 20) := ⟨⟨by decide +kernel, by decide +kernel⟩, List.mem_of_getElem? (i := 19) (by decide +kernel), List.mem_of_getElem? (i := 871) (by decide +kernel), List.mem_of_getElem? (i := 872) (by decide +kernel)⟩
theorem lw_p37 : lw_okq (⟨"NarrowBox", "outlives", "(III)Z"⟩, 20) := ⟨⟨by decide +kernel, by decide +kernel⟩, List.mem_of_getElem? (i := 19) (by decide +kernel), List.mem_of_getElem? (i := 883) (by decide +kernel), List.mem_of_getElem? (i := 884) (by decide +kernel)⟩
theorem lw_p38 : lw_okq (⟨"NarrowBox", "killedBy", "(I)I"⟩, 20) := ⟨⟨by decide +kernel, by decide +kernel⟩, List.mem_of_getElem? (i := 19) (by decide +kernel), List.mem_of_getElem? (i := 895) (by decide +kernel), List.mem_of_getElem? (i := 896) (by decide +kernel)⟩
theorem lw_p39 : lw_okq (⟨"NarrowBox", "fewestFor", "(II)I"⟩, 20) := ⟨⟨by decide +kernel, by decide +kernel⟩, List.mem_of_getElem? (i := 19) (by decide +kernel), List.mem_of_getElem? (i := 899) (by decide +kernel), List.mem_of_getElem? (i := 900) (by decide +kernel)⟩
theorem lw_p40 : lw_okq (⟨"NarrowBox", "isClaim", "(III)Z"⟩, 20) := ⟨⟨by decide +kernel, by decide +kernel⟩, List.mem_of_getElem? (i := 19) (by decide +kernel), List.mem_of_getElem? (i := 907) (by decide +kernel), List.mem_of_getElem? (i := 908) (by decide +kernel)⟩
theorem lw_p41 : lw_okq (⟨"NarrowBox", "isGround", "(I)Z"⟩, 20) := ⟨⟨by decide +kernel, by decide +kernel⟩, List.mem_of_getElem? (i := 19) (by decide +kernel), List.mem_of_getElem? (i := 911) (by decide +kernel), List.mem_of_getElem? (i := 912) (by decide +kernel)⟩
theorem lw_p42 : lw_okq (⟨"NarrowBox", "isPaper", "(I)Z"⟩, 20) := ⟨⟨by decide +kernel, by decide +kernel⟩, List.mem_of_getElem? (i := 19) (by decide +kernel), List.mem_of_getElem? (i := 915) (by decide +kernel), List.mem_of_getElem? (i := 916) (by decide +kernel)⟩
theorem lw_p43 : lw_okq (⟨"NarrowBox", "isSo", "(II)Z"⟩, 20) := ⟨⟨by decide +kernel, by decide +kernel⟩, List.mem_of_getElem? (i := 19) (by decide +kernel), List.mem_of_getElem? (i := 931) (by decide +kernel), List.mem_of_getElem? (i := 932) (by decide +kernel)⟩
theorem lw_p44 : lw_okq (⟨"NarrowBox$Papers", "seenBy", "(II)I"⟩, 6) := ⟨⟨by decide +kernel, by decide +kernel⟩, List.mem_of_getElem? (i := 57) (by decide +kernel), List.mem_of_getElem? (i := 960) (by decide +kernel), List.mem_of_getElem? (i := 961) (by decide +kernel)⟩
theorem lw_p45 : lw_okq (⟨"NarrowBox$Acts", "begin", "(I)V"⟩, 2) := ⟨⟨by decide +kernel, by decide +kernel⟩, List.mem_of_getElem? (i := 150) (by decide +kernel), List.mem_of_getElem? (i := 984) (by decide +kernel), List.mem_of_getElem? (i := 985) (by decide +kernel)⟩
theorem lw_p46 : lw_okq (⟨"NarrowBox$Acts", "performFirst", "(LNarrowBox$Box;III)I"⟩, 2) := ⟨⟨by decide +kernel, by decide +kernel⟩, List.mem_of_getElem? (i := 150) (by decide +kernel), List.mem_of_getElem? (i := 988) (by decide +kernel), List.mem_of_getElem? (i := 989) (by decide +kernel)⟩
theorem lw_p47 : lw_okq (⟨"NarrowBox$Acts", "performAbove", "(LNarrowBox$Box;III)I"⟩, 2) := ⟨⟨by decide +kernel, by decide +kernel⟩, List.mem_of_getElem? (i := 150) (by decide +kernel), List.mem_of_getElem? (i := 993) (by decide +kernel), List.mem_of_getElem? (i := 994) (by decide +kernel)⟩
def lw_privs_3 : List (MethodName × Nat) := [(⟨"NarrowBox", "unlikeBoxes", "()I"⟩, 20), (⟨"NarrowBox", "isTwin", "(I)Z"⟩, 20), (⟨"NarrowBox", "areFlights", "(I)Z"⟩, 20), (⟨"NarrowBox", "isReadByOthers", "(I)Z"⟩, 20), (⟨"NarrowBox", "bestWatches", "(LNarrowBox$Box;II)I"⟩, 20), (⟨"NarrowBox", "outlives", "(III)Z"⟩, 20), (⟨"NarrowBox", "killedBy", "(I)I"⟩, 20), (⟨"NarrowBox", "fewestFor", "(II)I"⟩, 20), (⟨"NarrowBox", "isClaim", "(III)Z"⟩, 20), (⟨"NarrowBox", "isGround", "(I)Z"⟩, 20), (⟨"NarrowBox", "isPaper", "(I)Z"⟩, 20), (⟨"NarrowBox", "isSo", "(II)Z"⟩, 20), (⟨"NarrowBox$Papers", "seenBy", "(II)I"⟩, 6), (⟨"NarrowBox$Acts", "begin", "(I)V"⟩, 2), (⟨"NarrowBox$Acts", "performFirst", "(LNarrowBox$Box;III)I"⟩, 2), (⟨"NarrowBox$Acts", "performAbove", "(LNarrowBox$Box;III)I"⟩, 2)]
theorem lw_r3 : ∀ q ∈ lw_privs_3, lw_okq q := List.forall_mem_cons.mpr ⟨lw_p32, List.forall_mem_cons.mpr ⟨lw_p33, List.forall_mem_cons.mpr ⟨lw_p34, List.forall_mem_cons.mpr ⟨lw_p35, List.forall_mem_cons.mpr ⟨lw_p36, List.forall_mem_cons.mpr ⟨lw_p37, List.forall_mem_cons.mpr ⟨lw_p38, List.forall_mem_cons.mpr ⟨lw_p39, List.forall_mem_cons.mpr ⟨lw_p40, List.forall_mem_cons.mpr ⟨lw_p41, List.forall_mem_cons.mpr ⟨lw_p42, List.forall_mem_cons.mpr ⟨lw_p43, List.forall_mem_cons.mpr ⟨lw_p44, List.forall_mem_cons.mpr ⟨lw_p45, List.forall_mem_cons.mpr ⟨lw_p46, List.forall_mem_cons.mpr ⟨lw_p47, fun _ h => absurd h List.not_mem_nil⟩⟩⟩⟩⟩⟩⟩⟩⟩⟩⟩⟩⟩⟩⟩⟩
theorem lw_p48 : lw_okq (⟨"NarrowBox", "refusalOf", "(II)I"⟩, 20) := ⟨⟨by decide +kernel, by decide +kernel⟩, List.mem_of_getElem? (i := 19) (by decide +kernel), List.mem_of_getElem? (i := 1030) (by decide +kernel), List.mem_of_getElem? (i := 1031) (by decide +kernel)⟩
theorem lw_p49 : lw_okq (⟨"NarrowBoxModel", "isBox", "(I)Z"⟩, 84) := ⟨⟨by decide +kernel, by decide +kernel⟩, List.mem_of_getElem? (i := 1082) (by decide +kernel), List.mem_of_getElem? (i := 1352) (by decide +kernel), List.mem_of_getElem? (i := 1353) (by decide +kernel)⟩
theorem lw_p50 : lw_okq (⟨"NarrowBoxModel", "isLine", "(II)Z"⟩, 84) := ⟨⟨by decide +kernel, by decide +kernel⟩, List.mem_of_getElem? (i := 1082) (by decide +kernel), List.mem_of_getElem? (i := 1365) (by decide +kernel), List.mem_of_getElem? (i := 1366) (by decide +kernel)⟩
theorem lw_p51 : lw_okq (⟨"NarrowBoxModel", "readLine", "()V"⟩, 84) := ⟨⟨by decide +kernel, by decide +kernel⟩, List.mem_of_getElem? (i := 1082) (by decide +kernel), List.mem_of_getElem? (i := 1381) (by decide +kernel), List.mem_of_getElem? (i := 1382) (by decide +kernel)⟩
theorem lw_p52 : lw_okq (⟨"NarrowBoxModel", "wrong", "()V"⟩, 84) := ⟨⟨by decide +kernel, by decide +kernel⟩, List.mem_of_getElem? (i := 1082) (by decide +kernel), List.mem_of_getElem? (i := 1385) (by decide +kernel), List.mem_of_getElem? (i := 1386) (by decide +kernel)⟩
theorem lw_p53 : lw_okq (⟨"NarrowBoxModel", "isNext", "(I)Z"⟩, 84) := ⟨⟨by decide +kernel, by decide +kernel⟩, List.mem_of_getElem? (i := 1082) (by decide +kernel), List.mem_of_getElem? (i := 1389) (by decide +kernel), List.mem_of_getElem? (i := 1390) (by decide +kernel)⟩
theorem lw_p54 : lw_okq (⟨"NarrowBoxModel", "look", "()I"⟩, 84) := ⟨⟨by decide +kernel, by decide +kernel⟩, List.mem_of_getElem? (i := 1082) (by decide +kernel), List.mem_of_getElem? (i := 1393) (by decide +kernel), List.mem_of_getElem? (i := 1394) (by decide +kernel)⟩
theorem lw_p55 : lw_okq (⟨"NarrowBoxModel", "either", "()V"⟩, 84) := ⟨⟨by decide +kernel, by decide +kernel⟩, List.mem_of_getElem? (i := 1082) (by decide +kernel), List.mem_of_getElem? (i := 1397) (by decide +kernel), List.mem_of_getElem? (i := 1398) (by decide +kernel)⟩
theorem lw_p56 : lw_okq (⟨"NarrowBoxModel", "both", "()V"⟩, 84) := ⟨⟨by decide +kernel, by decide +kernel⟩, List.mem_of_getElem? (i := 1082) (by decide +kernel), List.mem_of_getElem? (i := 1401) (by decide +kernel), List.mem_of_getElem? (i := 1402) (by decide +kernel)⟩
theorem lw_p57 : lw_okq (⟨"NarrowBoxModel", "compared", "()V"⟩, 84) := ⟨⟨by decide +kernel, by decide +kernel⟩, List.mem_of_getElem? (i := 1082) (by decide +kernel), List.mem_of_getElem? (i := 1405) (by decide +kernel), List.mem_of_getElem? (i := 1406) (by decide +kernel)⟩
theorem lw_p58 : lw_okq (⟨"NarrowBoxModel", "sum", "()V"⟩, 84) := ⟨⟨by decide +kernel, by decide +kernel⟩, List.mem_of_getElem? (i := 1082) (by decide +kernel), List.mem_of_getElem? (i := 1409) (by decide +kernel), List.mem_of_getElem? (i := 1410) (by decide +kernel)⟩
theorem lw_p59 : lw_okq (⟨"NarrowBoxModel", "product", "()V"⟩, 84) := ⟨⟨by decide +kernel, by decide +kernel⟩, List.mem_of_getElem? (i := 1082) (by decide +kernel), List.mem_of_getElem? (i := 1413) (by decide +kernel), List.mem_of_getElem? (i := 1414) (by decide +kernel)⟩
theorem lw_p60 : lw_okq (⟨"NarrowBoxModel", "operand", "()V"⟩, 84) := ⟨⟨by decide +kernel, by decide +kernel⟩, List.mem_of_getElem? (i := 1082) (by decide +kernel), List.mem_of_getElem? (i := 1417) (by decide +kernel), List.mem_of_getElem? (i := 1418) (by decide +kernel)⟩
theorem lw_p61 : lw_okq (⟨"NarrowBoxModel", "indexed", "(II)V"⟩, 84) := ⟨⟨by decide +kernel, by decide +kernel⟩, List.mem_of_getElem? (i := 1082) (by decide +kernel), List.mem_of_getElem? (i := 1421) (by decide +kernel), List.mem_of_getElem? (i := 1422) (by decide +kernel)⟩
theorem lw_p62 : lw_okq (⟨"NarrowBoxModel", "lay", "(II)V"⟩, 84) := ⟨⟨by decide +kernel, by decide +kernel⟩, List.mem_of_getElem? (i := 1082) (by decide +kernel), List.mem_of_getElem? (i := 1425) (by decide +kernel), List.mem_of_getElem? (i := 1426) (by decide +kernel)⟩
theorem lw_p63 : lw_okq (⟨"NarrowBoxModel", "opens", "()Z"⟩, 84) := ⟨⟨by decide +kernel, by decide +kernel⟩, List.mem_of_getElem? (i := 1082) (by decide +kernel), List.mem_of_getElem? (i := 1429) (by decide +kernel), List.mem_of_getElem? (i := 1430) (by decide +kernel)⟩
def lw_privs_4 : List (MethodName × Nat) := [(⟨"NarrowBox", "refusalOf", "(II)I"⟩, 20), (⟨"NarrowBoxModel", "isBox", "(I)Z"⟩, 84), (⟨"NarrowBoxModel", "isLine", "(II)Z"⟩, 84), (⟨"NarrowBoxModel", "readLine", "()V"⟩, 84), (⟨"NarrowBoxModel", "wrong", "()V"⟩, 84), (⟨"NarrowBoxModel", "isNext", "(I)Z"⟩, 84), (⟨"NarrowBoxModel", "look", "()I"⟩, 84), (⟨"NarrowBoxModel", "either", "()V"⟩, 84), (⟨"NarrowBoxModel", "both", "()V"⟩, 84), (⟨"NarrowBoxModel", "compared", "()V"⟩, 84), (⟨"NarrowBoxModel", "sum", "()V"⟩, 84), (⟨"NarrowBoxModel", "product", "()V"⟩, 84), (⟨"NarrowBoxModel", "operand", "()V"⟩, 84), (⟨"NarrowBoxModel", "indexed", "(II)V"⟩, 84), (⟨"NarrowBoxModel", "lay", "(II)V"⟩, 84), (⟨"NarrowBoxModel", "opens", "()Z"⟩, 84)]
theorem lw_r4 : ∀ q ∈ lw_privs_4, lw_okq q := List.forall_mem_cons.mpr ⟨lw_p48, List.forall_mem_cons.mpr ⟨lw_p49, List.forall_mem_cons.mpr ⟨lw_p50, List.forall_mem_cons.mpr ⟨lw_p51, List.forall_mem_cons.mpr ⟨lw_p52, List.forall_mem_cons.mpr ⟨lw_p53, List.forall_mem_cons.mpr ⟨lw_p54, List.forall_mem_cons.mpr ⟨lw_p55, List.forall_mem_cons.mpr ⟨lw_p56, List.forall_mem_cons.mpr ⟨lw_p57, List.forall_mem_cons.mpr ⟨lw_p58, List.forall_mem_cons.mpr ⟨lw_p59, List.forall_mem_cons.mpr ⟨lw_p60, List.forall_mem_cons.mpr ⟨lw_p61, List.forall_mem_cons.mpr ⟨lw_p62, List.forall_mem_cons.mpr ⟨lw_p63, fun _ h => absurd h List.not_mem_nil⟩⟩⟩⟩⟩⟩⟩⟩⟩⟩⟩⟩⟩⟩⟩⟩
theorem lw_p64 : lw_okq (⟨"NarrowBoxModel", "number", "()V"⟩, 84) := ⟨⟨by decide +kernel, by decide +kernel⟩, List.mem_of_getElem? (i := 1082) (by decide +kernel), List.mem_of_getElem? (i := 1433) (by decide +kernel), List.mem_of_getElem? (i := 1434) (by decide +kernel)⟩
theorem lw_p65 : lw_okq (⟨"NarrowBoxModel", "isFelt", "(I)Z"⟩, 84) := ⟨⟨by decide +kernel, by decide +kernel⟩, List.mem_of_getElem? (i := 1082) (by decide +kernel), List.mem_of_getElem? (i := 1446) (by decide +kernel), List.mem_of_getElem? (i := 1447) (by decide +kernel)⟩
theorem lw_p66 : lw_okq (⟨"NarrowBoxModel", "isFlight", "(I)Z"⟩, 84) := ⟨⟨by decide +kernel, by decide +kernel⟩, List.mem_of_getElem? (i := 1082) (by decide +kernel), List.mem_of_getElem? (i := 1450) (by decide +kernel), List.mem_of_getElem? (i := 1451) (by decide +kernel)⟩
theorem lw_p67 : lw_okq (⟨"NarrowBoxModel", "isReals", "(I)Z"⟩, 84) := ⟨⟨by decide +kernel, by decide +kernel⟩, List.mem_of_getElem? (i := 1082) (by decide +kernel), List.mem_of_getElem? (i := 1462) (by decide +kernel), List.mem_of_getElem? (i := 1463) (by decide +kernel)⟩
theorem lw_p68 : lw_okq (⟨"NarrowBoxModel", "feltAt", "(II)I"⟩, 84) := ⟨⟨by decide +kernel, by decide +kernel⟩, List.mem_of_getElem? (i := 1082) (by decide +kernel), List.mem_of_getElem? (i := 1476) (by decide +kernel), List.mem_of_getElem? (i := 1477) (by decide +kernel)⟩
theorem lw_p69 : lw_okq (⟨"NarrowBoxModel", "asItIs", "()V"⟩, 84) := ⟨⟨by decide +kernel, by decide +kernel⟩, List.mem_of_getElem? (i := 1082) (by decide +kernel), List.mem_of_getElem? (i := 1490) (by decide +kernel), List.mem_of_getElem? (i := 1491) (by decide +kernel)⟩
theorem lw_p70 : lw_okq (⟨"NarrowBoxModel", "runOf", "(II)V"⟩, 84) := ⟨⟨by decide +kernel, by decide +kernel⟩, List.mem_of_getElem? (i := 1082) (by decide +kernel), List.mem_of_getElem? (i := 1494) (by decide +kernel), List.mem_of_getElem? (i := 1495) (by decide +kernel)⟩
theorem lw_p71 : lw_okq (⟨"NarrowBoxModel", "begin", "()V"⟩, 84) := ⟨⟨by decide +kernel, by decide +kernel⟩, List.mem_of_getElem? (i := 1082) (by decide +kernel), List.mem_of_getElem? (i := 1498) (by decide +kernel), List.mem_of_getElem? (i := 1499) (by decide +kernel)⟩
theorem lw_p72 : lw_okq (⟨"NarrowBoxModel", "tickAll", "()V"⟩, 84) := ⟨⟨by decide +kernel, by decide +kernel⟩, List.mem_of_getElem? (i := 1082) (by decide +kernel), List.mem_of_getElem? (i := 1502) (by decide +kernel), List.mem_of_getElem? (i := 1503) (by decide +kernel)⟩
theorem lw_p73 : lw_okq (⟨"NarrowBoxModel", "kill", "(II)V"⟩, 84) := ⟨⟨by decide +kernel, by decide +kernel⟩, List.mem_of_getElem? (i := 1082) (by decide +kernel), List.mem_of_getElem? (i := 1506) (by decide +kernel), List.mem_of_getElem? (i := 1507) (by decide +kernel)⟩
theorem lw_p74 : lw_okq (⟨"NarrowBoxModel", "tickOf", "(I)V"⟩, 84) := ⟨⟨by decide +kernel, by decide +kernel⟩, List.mem_of_getElem? (i := 1082) (by decide +kernel), List.mem_of_getElem? (i := 1510) (by decide +kernel), List.mem_of_getElem? (i := 1511) (by decide +kernel)⟩
theorem lw_p75 : lw_okq (⟨"NarrowBoxModel", "doLine", "(II)I"⟩, 84) := ⟨⟨by decide +kernel, by decide +kernel⟩, List.mem_of_getElem? (i := 1082) (by decide +kernel), List.mem_of_getElem? (i := 1514) (by decide +kernel), List.mem_of_getElem? (i := 1515) (by decide +kernel)⟩
theorem lw_p76 : lw_okq (⟨"NarrowBoxModel", "worked", "(III)I"⟩, 84) := ⟨⟨by decide +kernel, by decide +kernel⟩, List.mem_of_getElem? (i := 1082) (by decide +kernel), List.mem_of_getElem? (i := 1518) (by decide +kernel), List.mem_of_getElem? (i := 1519) (by decide +kernel)⟩
theorem lw_p77 : lw_okq (⟨"NarrowBoxModel", "readInput", "(III)I"⟩, 84) := ⟨⟨by decide +kernel, by decide +kernel⟩, List.mem_of_getElem? (i := 1082) (by decide +kernel), List.mem_of_getElem? (i := 1522) (by decide +kernel), List.mem_of_getElem? (i := 1523) (by decide +kernel)⟩
theorem lw_p78 : lw_okq (⟨"NarrowBoxModel", "goesOver", "(IIIII)Z"⟩, 84) := ⟨⟨by decide +kernel, by decide +kernel⟩, List.mem_of_getElem? (i := 1082) (by decide +kernel), List.mem_of_getElem? (i := 1558) (by decide +kernel), List.mem_of_getElem? (i := 1559) (by decide +kernel)⟩
theorem lw_p79 : lw_okq (⟨"NarrowBoxModel", "gapsOf", "(II)I"⟩, 84) := ⟨⟨by decide +kernel, by decide +kernel⟩, List.mem_of_getElem? (i := 1082) (by decide +kernel), List.mem_of_getElem? (i := 1570) (by decide +kernel), List.mem_of_getElem? (i := 1571) (by decide +kernel)⟩
def lw_privs_5 : List (MethodName × Nat) := [(⟨"NarrowBoxModel", "number", "()V"⟩, 84), (⟨"NarrowBoxModel", "isFelt", "(I)Z"⟩, 84), (⟨"NarrowBoxModel", "isFlight", "(I)Z"⟩, 84), (⟨"NarrowBoxModel", "isReals", "(I)Z"⟩, 84), (⟨"NarrowBoxModel", "feltAt", "(II)I"⟩, 84), (⟨"NarrowBoxModel", "asItIs", "()V"⟩, 84), (⟨"NarrowBoxModel", "runOf", "(II)V"⟩, 84), (⟨"NarrowBoxModel", "begin", "()V"⟩, 84), (⟨"NarrowBoxModel", "tickAll", "()V"⟩, 84), (⟨"NarrowBoxModel", "kill", "(II)V"⟩, 84), (⟨"NarrowBoxModel", "tickOf", "(I)V"⟩, 84), (⟨"NarrowBoxModel", "doLine", "(II)I"⟩, 84), (⟨"NarrowBoxModel", "worked", "(III)I"⟩, 84), (⟨"NarrowBoxModel", "readInput", "(III)I"⟩, 84), (⟨"NarrowBoxModel", "goesOver", "(IIIII)Z"⟩, 84), (⟨"NarrowBoxModel", "gapsOf", "(II)I"⟩, 84)]
theorem lw_r5 : ∀ q ∈ lw_privs_5, lw_okq q := List.forall_mem_cons.mpr ⟨lw_p64, List.forall_mem_cons.mpr ⟨lw_p65, List.forall_mem_cons.mpr ⟨lw_p66, List.forall_mem_cons.mpr ⟨lw_p67, List.forall_mem_cons.mpr ⟨lw_p68, List.forall_mem_cons.mpr ⟨lw_p69, List.forall_mem_cons.mpr ⟨lw_p70, List.forall_mem_cons.mpr ⟨lw_p71, List.forall_mem_cons.mpr ⟨lw_p72, List.forall_mem_cons.mpr ⟨lw_p73, List.forall_mem_cons.mpr ⟨lw_p74, List.forall_mem_cons.mpr ⟨lw_p75, List.forall_mem_cons.mpr ⟨lw_p76, List.forall_mem_cons.mpr ⟨lw_p77, List.forall_mem_cons.mpr ⟨lw_p78, List.forall_mem_cons.mpr ⟨lw_p79, fun _ h => absurd h List.not_mem_nil⟩⟩⟩⟩⟩⟩⟩⟩⟩⟩⟩⟩⟩⟩⟩⟩
theorem lw_p80 : lw_okq (⟨"NarrowBoxModel", "isOver", "(III)Z"⟩, 84) := ⟨⟨by decide +kernel, by decide +kernel⟩, List.mem_of_getElem? (i := 1082) (by decide +kernel), List.mem_of_getElem? (i := 1574) (by decide +kernel), List.mem_of_getElem? (i := 1575) (by decide +kernel)⟩
theorem lw_p81 : lw_okq (⟨"NarrowBoxModel", "findEnds", "(III)Z"⟩, 84) := ⟨⟨by decide +kernel, by decide +kernel⟩, List.mem_of_getElem? (i := 1082) (by decide +kernel), List.mem_of_getElem? (i := 1578) (by decide +kernel), List.mem_of_getElem? (i := 1579) (by decide +kernel)⟩
theorem lw_p82 : lw_okq (⟨"NarrowBoxModel", "leaf", "(IIIII)V"⟩, 84) := ⟨⟨by decide +kernel, by decide +kernel⟩, List.mem_of_getElem? (i := 1082) (by decide +kernel), List.mem_of_getElem? (i := 1582) (by decide +kernel), List.mem_of_getElem? (i := 1583) (by decide +kernel)⟩
theorem lw_p83 : lw_okq (⟨"NarrowBoxModel", "layEnds", "(IJJ)V"⟩, 84) := ⟨⟨by decide +kernel, by decide +kernel⟩, List.mem_of_getElem? (i := 1082) (by decide +kernel), List.mem_of_getElem? (i := 1586) (by decide +kernel), List.mem_of_getElem? (i := 1587) (by decide +kernel)⟩
theorem lw_p84 : lw_okq (⟨"NarrowBoxModel", "ofTwo", "(II)Z"⟩, 84) := ⟨⟨by decide +kernel, by decide +kernel⟩, List.mem_of_getElem? (i := 1082) (by decide +kernel), List.mem_of_getElem? (i := 1593) (by decide +kernel), List.mem_of_getElem? (i := 1594) (by decide +kernel)⟩
theorem lw_p85 : lw_okq (⟨"NarrowBoxModel", "keepRun", "()V"⟩, 84) := ⟨⟨by decide +kernel, by decide +kernel⟩, List.mem_of_getElem? (i := 1082) (by decide +kernel), List.mem_of_getElem? (i := 1615) (by decide +kernel), List.mem_of_getElem? (i := 1616) (by decide +kernel)⟩
theorem lw_p86 : lw_okq (⟨"NarrowBoxModel", "isUnlike", "(I)Z"⟩, 84) := ⟨⟨by decide +kernel, by decide +kernel⟩, List.mem_of_getElem? (i := 1082) (by decide +kernel), List.mem_of_getElem? (i := 1619) (by decide +kernel), List.mem_of_getElem? (i := 1620) (by decide +kernel)⟩
theorem lw_p87 : lw_okq (⟨"NarrowBoxModel", "areFlights", "(I)Z"⟩, 84) := ⟨⟨by decide +kernel, by decide +kernel⟩, List.mem_of_getElem? (i := 1082) (by decide +kernel), List.mem_of_getElem? (i := 1631) (by decide +kernel), List.mem_of_getElem? (i := 1632) (by decide +kernel)⟩
theorem lw_p88 : lw_okq (⟨"NarrowBoxModel", "isNeverDead", "(III)Z"⟩, 84) := ⟨⟨by decide +kernel, by decide +kernel⟩, List.mem_of_getElem? (i := 1082) (by decide +kernel), List.mem_of_getElem? (i := 1646) (by decide +kernel), List.mem_of_getElem? (i := 1647) (by decide +kernel)⟩
theorem lw_p89 : lw_okq (⟨"NarrowBoxModel", "isPaper", "(I)Z"⟩, 84) := ⟨⟨by decide +kernel, by decide +kernel⟩, List.mem_of_getElem? (i := 1082) (by decide +kernel), List.mem_of_getElem? (i := 1658) (by decide +kernel), List.mem_of_getElem? (i := 1659) (by decide +kernel)⟩
theorem lw_p90 : lw_okq (⟨"NarrowBoxModel", "holdsFor", "(II)Z"⟩, 84) := ⟨⟨by decide +kernel, by decide +kernel⟩, List.mem_of_getElem? (i := 1082) (by decide +kernel), List.mem_of_getElem? (i := 1666) (by decide +kernel), List.mem_of_getElem? (i := 1667) (by decide +kernel)⟩
theorem lw_p91 : lw_okq (⟨"NarrowBoxModel", "isSo", "(II)Z"⟩, 84) := ⟨⟨by decide +kernel, by decide +kernel⟩, List.mem_of_getElem? (i := 1082) (by decide +kernel), List.mem_of_getElem? (i := 1670) (by decide +kernel), List.mem_of_getElem? (i := 1671) (by decide +kernel)⟩
theorem lw_p92 : lw_okq (⟨"NarrowBoxModel", "withAll", "(I)I"⟩, 84) := ⟨⟨by decide +kernel, by decide +kernel⟩, List.mem_of_getElem? (i := 1082) (by decide +kernel), List.mem_of_getElem? (i := 1686) (by decide +kernel), List.mem_of_getElem? (i := 1687) (by decide +kernel)⟩
theorem lw_p93 : lw_okq (⟨"NarrowBoxModel", "runs", "(II)I"⟩, 84) := ⟨⟨by decide +kernel, by decide +kernel⟩, List.mem_of_getElem? (i := 1082) (by decide +kernel), List.mem_of_getElem? (i := 1699) (by decide +kernel), List.mem_of_getElem? (i := 1700) (by decide +kernel)⟩
theorem lw_p94 : lw_okq (⟨"NarrowBoxModel", "ran", "(I)V"⟩, 84) := ⟨⟨by decide +kernel, by decide +kernel⟩, List.mem_of_getElem? (i := 1082) (by decide +kernel), List.mem_of_getElem? (i := 1703) (by decide +kernel), List.mem_of_getElem? (i := 1704) (by decide +kernel)⟩
theorem lw_p95 : lw_okq (⟨"NarrowBoxModel", "feelingRuns", "(II)I"⟩, 84) := ⟨⟨by decide +kernel, by decide +kernel⟩, List.mem_of_getElem? (i := 1082) (by decide +kernel), List.mem_of_getElem? (i := 1707) (by decide +kernel), List.mem_of_getElem? (i := 1708) (by decide +kernel)⟩
def lw_privs_6 : List (MethodName × Nat) := [(⟨"NarrowBoxModel", "isOver", "(III)Z"⟩, 84), (⟨"NarrowBoxModel", "findEnds", "(III)Z"⟩, 84), (⟨"NarrowBoxModel", "leaf", "(IIIII)V"⟩, 84), (⟨"NarrowBoxModel", "layEnds", "(IJJ)V"⟩, 84), (⟨"NarrowBoxModel", "ofTwo", "(II)Z"⟩, 84), (⟨"NarrowBoxModel", "keepRun", "()V"⟩, 84), (⟨"NarrowBoxModel", "isUnlike", "(I)Z"⟩, 84), (⟨"NarrowBoxModel", "areFlights", "(I)Z"⟩, 84), (⟨"NarrowBoxModel", "isNeverDead", "(III)Z"⟩, 84), (⟨"NarrowBoxModel", "isPaper", "(I)Z"⟩, 84), (⟨"NarrowBoxModel", "holdsFor", "(II)Z"⟩, 84), (⟨"NarrowBoxModel", "isSo", "(II)Z"⟩, 84), (⟨"NarrowBoxModel", "withAll", "(I)I"⟩, 84), (⟨"NarrowBoxModel", "runs", "(II)I"⟩, 84), (⟨"NarrowBoxModel", "ran", "(I)V"⟩, 84), (⟨"NarrowBoxModel", "feelingRuns", "(II)I"⟩, 84)]
theorem lw_r6 : ∀ q ∈ lw_privs_6, lw_okq q := List.forall_mem_cons.mpr ⟨lw_p80, List.forall_mem_cons.mpr ⟨lw_p81, List.forall_mem_cons.mpr ⟨lw_p82, List.forall_mem_cons.mpr ⟨lw_p83, List.forall_mem_cons.mpr ⟨lw_p84, List.forall_mem_cons.mpr ⟨lw_p85, List.forall_mem_cons.mpr ⟨lw_p86, List.forall_mem_cons.mpr ⟨lw_p87, List.forall_mem_cons.mpr ⟨lw_p88, List.forall_mem_cons.mpr ⟨lw_p89, List.forall_mem_cons.mpr ⟨lw_p90, List.forall_mem_cons.mpr ⟨lw_p91, List.forall_mem_cons.mpr ⟨lw_p92, List.forall_mem_cons.mpr ⟨lw_p93, List.forall_mem_cons.mpr ⟨lw_p94, List.forall_mem_cons.mpr ⟨lw_p95, fun _ h => absurd h List.not_mem_nil⟩⟩⟩⟩⟩⟩⟩⟩⟩⟩⟩⟩⟩⟩⟩⟩
theorem lw_p96 : lw_okq (⟨"NarrowBoxModel", "plainRuns", "(II)I"⟩, 84) := ⟨⟨by decide +kernel, by decide +kernel⟩, List.mem_of_getElem? (i := 1082) (by decide +kernel), List.mem_of_getElem? (i := 1711) (by decide +kernel), List.mem_of_getElem? (i := 1712) (by decide +kernel)⟩
theorem lw_p97 : lw_okq (⟨"NarrowBoxModel", "sends", "(II)I"⟩, 84) := ⟨⟨by decide +kernel, by decide +kernel⟩, List.mem_of_getElem? (i := 1082) (by decide +kernel), List.mem_of_getElem? (i := 1715) (by decide +kernel), List.mem_of_getElem? (i := 1716) (by decide +kernel)⟩
theorem lw_p98 : lw_okq (⟨"NarrowBoxModel", "plainSends", "(II)I"⟩, 84) := ⟨⟨by decide +kernel, by decide +kernel⟩, List.mem_of_getElem? (i := 1082) (by decide +kernel), List.mem_of_getElem? (i := 1719) (by decide +kernel), List.mem_of_getElem? (i := 1720) (by decide +kernel)⟩
theorem lw_p99 : lw_okq (⟨"NarrowBoxModel", "holdsBack", "(II)I"⟩, 84) := ⟨⟨by decide +kernel, by decide +kernel⟩, List.mem_of_getElem? (i := 1082) (by decide +kernel), List.mem_of_getElem? (i := 1723) (by decide +kernel), List.mem_of_getElem? (i := 1724) (by decide +kernel)⟩
theorem lw_p100 : lw_okq (⟨"NarrowBoxModel", "plainBack", "(II)I"⟩, 84) := ⟨⟨by decide +kernel, by decide +kernel⟩, List.mem_of_getElem? (i := 1082) (by decide +kernel), List.mem_of_getElem? (i := 1727) (by decide +kernel), List.mem_of_getElem? (i := 1728) (by decide +kernel)⟩
theorem lw_p101 : lw_okq (⟨"NarrowBoxModel", "tells", "(II)I"⟩, 84) := ⟨⟨by decide +kernel, by decide +kernel⟩, List.mem_of_getElem? (i := 1082) (by decide +kernel), List.mem_of_getElem? (i := 1731) (by decide +kernel), List.mem_of_getElem? (i := 1732) (by decide +kernel)⟩
theorem lw_p102 : lw_okq (⟨"NarrowBoxModel", "keptTells", "(II)I"⟩, 84) := ⟨⟨by decide +kernel, by decide +kernel⟩, List.mem_of_getElem? (i := 1082) (by decide +kernel), List.mem_of_getElem? (i := 1735) (by decide +kernel), List.mem_of_getElem? (i := 1736) (by decide +kernel)⟩
theorem lw_p103 : lw_okq (⟨"NarrowBoxModel", "plainTells", "(II)I"⟩, 84) := ⟨⟨by decide +kernel, by decide +kernel⟩, List.mem_of_getElem? (i := 1082) (by decide +kernel), List.mem_of_getElem? (i := 1739) (by decide +kernel), List.mem_of_getElem? (i := 1740) (by decide +kernel)⟩
theorem lw_p104 : lw_okq (⟨"NarrowBoxModel", "whyNoPlace", "(II)I"⟩, 84) := ⟨⟨by decide +kernel, by decide +kernel⟩, List.mem_of_getElem? (i := 1082) (by decide +kernel), List.mem_of_getElem? (i := 1763) (by decide +kernel), List.mem_of_getElem? (i := 1764) (by decide +kernel)⟩
def lw_privs_7 : List (MethodName × Nat) := [(⟨"NarrowBoxModel", "plainRuns", "(II)I"⟩, 84), (⟨"NarrowBoxModel", "sends", "(II)I"⟩, 84), (⟨"NarrowBoxModel", "plainSends", "(II)I"⟩, 84), (⟨"NarrowBoxModel", "holdsBack", "(II)I"⟩, 84), (⟨"NarrowBoxModel", "plainBack", "(II)I"⟩, 84), (⟨"NarrowBoxModel", "tells", "(II)I"⟩, 84), (⟨"NarrowBoxModel", "keptTells", "(II)I"⟩, 84), (⟨"NarrowBoxModel", "plainTells", "(II)I"⟩, 84), (⟨"NarrowBoxModel", "whyNoPlace", "(II)I"⟩, 84)]
theorem lw_r7 : ∀ q ∈ lw_privs_7, lw_okq q := List.forall_mem_cons.mpr ⟨lw_p96, List.forall_mem_cons.mpr ⟨lw_p97, List.forall_mem_cons.mpr ⟨lw_p98, List.forall_mem_cons.mpr ⟨lw_p99, List.forall_mem_cons.mpr ⟨lw_p100, List.forall_mem_cons.mpr ⟨lw_p101, List.forall_mem_cons.mpr ⟨lw_p102, List.forall_mem_cons.mpr ⟨lw_p103, List.forall_mem_cons.mpr ⟨lw_p104, fun _ h => absurd h List.not_mem_nil⟩⟩⟩⟩⟩⟩⟩⟩⟩
def lw_privs : List (MethodName × Nat) := lw_privs_1 ++ (lw_privs_2 ++ (lw_privs_3 ++ (lw_privs_4 ++ (lw_privs_5 ++ (lw_privs_6 ++ (lw_privs_7))))))
def lw_tbl : List Cond := k2_sels lw_privs ++ tables_1
theorem lw_privs_ok : ∀ q ∈ lw_privs, lw_okq q := by
  show ∀ q ∈ lw_privs_1 ++ (lw_privs_2 ++ (lw_privs_3 ++ (lw_privs_4 ++ (lw_privs_5 ++ (lw_privs_6 ++ (lw_privs_7)))))), lw_okq q
  exact List.forall_mem_append.mpr ⟨lw_r1, List.forall_mem_append.mpr ⟨lw_r2, List.forall_mem_append.mpr ⟨lw_r3, List.forall_mem_append.mpr ⟨lw_r4, List.forall_mem_append.mpr ⟨lw_r5, List.forall_mem_append.mpr ⟨lw_r6, lw_r7⟩⟩⟩⟩⟩⟩
def RX0 : String := "NarrowBox$Acts"
def TX0 : u_T := fun k => match k with
  | 0 => ("NarrowBox$Acts", "bodies", "[I", true)
  | _ => ("NarrowBox$Acts", "ran", "I", false)
def tyX0 : Nat → FieldType := fun k => match k with
  | 0 => .array .int
  | _ => .int
abbrev wsX00 : List Cond := u_ws RX0 TX0 2
theorem nmX0 : ∀ a, a < 2 → ∀ b, b < 2 → a ≠ b → (TX0 a).2.1 ≠ (TX0 b).2.1 := by decide +kernel
theorem tyX0_ok : ∀ k, k < 2 → parseFieldDescriptor (TX0 k).2.2.1 = some (tyX0 k) := by decide +kernel
abbrev cX0_init : ByteArray := prog_2_method_1_code
def yX0_init : MethodName := ⟨RX0, "<init>", "()V"⟩
abbrev cX0_perform : ByteArray := prog_2_method_2_code
def yX0_perform : MethodName := ⟨RX0, "perform", "(LNarrowBox$Box;IIII)I"⟩
abbrev cX0_begin : ByteArray := prog_2_method_3_code
def yX0_begin : MethodName := ⟨RX0, "begin", "(I)V"⟩
abbrev cX0_performFirst : ByteArray := prog_2_method_4_code
def yX0_performFirst : MethodName := ⟨RX0, "performFirst", "(LNarrowBox$Box;III)I"⟩
abbrev cX0_performAbove : ByteArray := prog_2_method_5_code
def yX0_performAbove : MethodName := ⟨RX0, "performAbove", "(LNarrowBox$Box;III)I"⟩
def RX1 : String := "NarrowBox$Box"
def TX1 : u_T := fun k => match k with
  | 0 => ("NarrowBox$Box", "number", "I", true)
  | 1 => ("NarrowBox$Box", "kind", "I", true)
  | 2 => ("NarrowBox$Box", "slotBits", "[I", true)
  | 3 => ("NarrowBox$Box", "wires", "[I", true)
  | 4 => ("NarrowBox$Box", "program", "LNarrowBox$Program;", false)
  | _ => ("NarrowBox$Box", "twinOf", "I", false)
def tyX1 : Nat → FieldType := fun k => match k with
  | 0 => .int
  | 1 => .int
  | 2 => .array .int
  | 3 => .array .int
  | 4 => .object "NarrowBox$Program"
  | _ => .int
abbrev wsX10 : List Cond := u_ws RX1 TX1 6
theorem nmX1 : ∀ a, a < 6 → ∀ b, b < 6 → a ≠ b → (TX1 a).2.1 ≠ (TX1 b).2.1 := by decide +kernel
theorem tyX1_ok : ∀ k, k < 6 → parseFieldDescriptor (TX1 k).2.2.1 = some (tyX1 k) := by decide +kernel
abbrev cX1_init : ByteArray := prog_3_method_1_code
def yX1_init : MethodName := ⟨RX1, "<init>", "(II)V"⟩
abbrev cX1_readsFrom : ByteArray := prog_3_method_2_code
def yX1_readsFrom : MethodName := ⟨RX1, "readsFrom", "(I)Z"⟩
abbrev cX1_greatestFor : ByteArray := prog_3_method_3_code
def yX1_greatestFor : MethodName := ⟨RX1, "greatestFor", "(I)I"⟩
def RX2 : String := "NarrowBox$Failures"
def TX2 : u_T := fun k => match k with
  | 0 => ("NarrowBox$Failures", "sets", "[I", true)
  | 1 => ("NarrowBox$Failures", "misfits", "[I", true)
  | _ => ("NarrowBox$Failures", "noted", "I", false)
def tyX2 : Nat → FieldType := fun k => match k with
  | 0 => .array .int
  | 1 => .array .int
  | _ => .int
abbrev wsX20 : List Cond := u_ws RX2 TX2 3
theorem nmX2 : ∀ a, a < 3 → ∀ b, b < 3 → a ≠ b → (TX2 a).2.1 ≠ (TX2 b).2.1 := by decide +kernel
theorem tyX2_ok : ∀ k, k < 3 → parseFieldDescriptor (TX2 k).2.2.1 = some (tyX2 k) := by decide +kernel
abbrev cX2_init : ByteArray := prog_4_method_1_code
def yX2_init : MethodName := ⟨RX2, "<init>", "()V"⟩
abbrev cX2_clear : ByteArray := prog_4_method_2_code
def yX2_clear : MethodName := ⟨RX2, "clear", "()V"⟩
abbrev cX2_note : ByteArray := prog_4_method_3_code
def yX2_note : MethodName := ⟨RX2, "note", "(II)V"⟩
abbrev cX2_foretell : ByteArray := prog_4_method_4_code
def yX2_foretell : MethodName := ⟨RX2, "foretell", "(I)Z"⟩
def RX3 : String := "NarrowBox$Flight"
def TX3 : u_T := fun k => match k with
  | 0 => ("NarrowBox$Flight", "start", "[I", true)
  | 1 => ("NarrowBox$Flight", "step", "[I", true)
  | 2 => ("NarrowBox$Flight", "cap", "[I", true)
  | 3 => ("NarrowBox$Flight", "rowLength", "[I", true)
  | _ => ("NarrowBox$Flight", "rows", "[[I", true)
def tyX3 : Nat → FieldType := fun k => match k with
  | 0 => .array .int
  | 1 => .array .int
  | 2 => .array .int
  | 3 => .array .int
  | _ => .array (.array .int)
abbrev wsX30 : List Cond := u_ws RX3 TX3 5
theorem nmX3 : ∀ a, a < 5 → ∀ b, b < 5 → a ≠ b → (TX3 a).2.1 ≠ (TX3 b).2.1 := by decide +kernel
theorem tyX3_ok : ∀ k, k < 5 → parseFieldDescriptor (TX3 k).2.2.1 = some (tyX3 k) := by decide +kernel
abbrev cX3_init : ByteArray := prog_5_method_1_code
def yX3_init : MethodName := ⟨RX3, "<init>", "()V"⟩
abbrev cX3_tell : ByteArray := prog_5_method_2_code
def yX3_tell : MethodName := ⟨RX3, "tell", "(IIII)V"⟩
abbrev cX3_copyCourse : ByteArray := prog_5_method_3_code
def yX3_copyCourse : MethodName := ⟨RX3, "copyCourse", "(LNarrowBox$Flight;)V"⟩
abbrev cX3_leaveRow : ByteArray := prog_5_method_4_code
def yX3_leaveRow : MethodName := ⟨RX3, "leaveRow", "(I)V"⟩
abbrev cX3_takeRow : ByteArray := prog_5_method_5_code
def yX3_takeRow : MethodName := ⟨RX3, "takeRow", "(ILNarrowBox$Shelf;I)I"⟩
abbrev cX3_feltAt : ByteArray := prog_5_method_6_code
def yX3_feltAt : MethodName := ⟨RX3, "feltAt", "(II)I"⟩
def RX4 : String := "NarrowBox$Papers"
def TX4 : u_T := fun k => match k with
  | 0 => ("NarrowBox$Papers", "sorts", "[I", true)
  | 1 => ("NarrowBox$Papers", "ks", "[I", true)
  | 2 => ("NarrowBox$Papers", "vs", "[I", true)
  | 3 => ("NarrowBox$Papers", "along", "[I", true)
  | 4 => ("NarrowBox$Papers", "before", "[I", true)
  | _ => ("NarrowBox$Papers", "made", "I", false)
def tyX4 : Nat → FieldType := fun k => match k with
  | 0 => .array .int
  | 1 => .array .int
  | 2 => .array .int
  | 3 => .array .int
  | 4 => .array .int
  | _ => .int
abbrev wsX40 : List Cond := u_ws RX4 TX4 6
theorem nmX4 : ∀ a, a < 6 → ∀ b, b < 6 → a ≠ b → (TX4 a).2.1 ≠ (TX4 b).2.1 := by decide +kernel
theorem tyX4_ok : ∀ k, k < 6 → parseFieldDescriptor (TX4 k).2.2.1 = some (tyX4 k) := by decide +kernel
abbrev cX4_init : ByteArray := prog_6_method_1_code
def yX4_init : MethodName := ⟨RX4, "<init>", "()V"⟩
abbrev cX4_write : ByteArray := prog_6_method_2_code
def yX4_write : MethodName := ⟨RX4, "write", "(IIII)I"⟩
abbrev cX4_alongOf : ByteArray := prog_6_method_3_code
def yX4_alongOf : MethodName := ⟨RX4, "alongOf", "(I)I"⟩
abbrev cX4_hasSigned : ByteArray := prog_6_method_4_code
def yX4_hasSigned : MethodName := ⟨RX4, "hasSigned", "(II)Z"⟩
abbrev cX4_addSignature : ByteArray := prog_6_method_5_code
def yX4_addSignature : MethodName := ⟨RX4, "addSignature", "(III)I"⟩
abbrev cX4_whoSaw : ByteArray := prog_6_method_6_code
def yX4_whoSaw : MethodName := ⟨RX4, "whoSaw", "(II)I"⟩
abbrev cX4_whoIsBlind : ByteArray := prog_6_method_7_code
def yX4_whoIsBlind : MethodName := ⟨RX4, "whoIsBlind", "(I)I"⟩
abbrev cX4_seenBy : ByteArray := prog_6_method_8_code
def yX4_seenBy : MethodName := ⟨RX4, "seenBy", "(II)I"⟩
def RX5 : String := "NarrowBox$Program"
def TX5 : u_T := fun k => match k with
  | 0 => ("NarrowBox$Program", "words", "[I", true)
  | 1 => ("NarrowBox$Program", "testFrom", "[I", true)
  | 2 => ("NarrowBox$Program", "from", "[I", true)
  | 3 => ("NarrowBox$Program", "to", "[I", true)
  | 4 => ("NarrowBox$Program", "targets", "[I", true)
  | 5 => ("NarrowBox$Program", "used", "I", false)
  | 6 => ("NarrowBox$Program", "lines", "I", false)
  | 7 => ("NarrowBox$Program", "catches", "I", false)
  | _ => ("NarrowBox$Program", "watches", "I", false)
def tyX5 : Nat → FieldType := fun k => match k with
  | 0 => .array .int
  | 1 => .array .int
  | 2 => .array .int
  | 3 => .array .int
  | 4 => .array .int
  | 5 => .int
  | 6 => .int
  | 7 => .int
  | _ => .int
abbrev wsX50 : List Cond := u_ws RX5 TX5 9
theorem nmX5 : ∀ a, a < 9 → ∀ b, b < 9 → a ≠ b → (TX5 a).2.1 ≠ (TX5 b).2.1 := by decide +kernel
theorem tyX5_ok : ∀ k, k < 9 → parseFieldDescriptor (TX5 k).2.2.1 = some (tyX5 k) := by decide +kernel
abbrev cX5_init : ByteArray := prog_7_method_1_code
def yX5_init : MethodName := ⟨RX5, "<init>", "()V"⟩
abbrev cX5_clear : ByteArray := prog_7_method_2_code
def yX5_clear : MethodName := ⟨RX5, "clear", "()V"⟩
abbrev cX5_append : ByteArray := prog_7_method_3_code
def yX5_append : MethodName := ⟨RX5, "append", "(II)V"⟩
abbrev cX5_hasTest : ByteArray := prog_7_method_4_code
def yX5_hasTest : MethodName := ⟨RX5, "hasTest", "(I)Z"⟩
abbrev cX5_feltsRead : ByteArray := prog_7_method_5_code
def yX5_feltsRead : MethodName := ⟨RX5, "feltsRead", "()I"⟩
def RX6 : String := "NarrowBox$Reader"
def TX6 : u_T := fun k => match k with
  | 0 => ("NarrowBox$Reader", "bytes", "[I", true)
  | 1 => ("NarrowBox$Reader", "length", "I", false)
  | 2 => ("NarrowBox$Reader", "at", "I", false)
  | 3 => ("NarrowBox$Reader", "wrong", "Z", false)
  | _ => ("NarrowBox$Reader", "into", "LNarrowBox$Program;", false)
def tyX6 : Nat → FieldType := fun k => match k with
  | 0 => .array .int
  | 1 => .int
  | 2 => .int
  | 3 => .boolean
  | _ => .object "NarrowBox$Program"
abbrev wsX60 : List Cond := u_ws RX6 TX6 5
theorem nmX6 : ∀ a, a < 5 → ∀ b, b < 5 → a ≠ b → (TX6 a).2.1 ≠ (TX6 b).2.1 := by decide +kernel
theorem tyX6_ok : ∀ k, k < 5 → parseFieldDescriptor (TX6 k).2.2.1 = some (tyX6 k) := by decide +kernel
abbrev cX6_init : ByteArray := prog_8_method_1_code
def yX6_init : MethodName := ⟨RX6, "<init>", "()V"⟩
abbrev cX6_append : ByteArray := prog_8_method_2_code
def yX6_append : MethodName := ⟨RX6, "append", "(I)V"⟩
abbrev cX6_readInto : ByteArray := prog_8_method_3_code
def yX6_readInto : MethodName := ⟨RX6, "readInto", "(LNarrowBox$Program;)I"⟩
abbrev cX6_readLine : ByteArray := prog_8_method_4_code
def yX6_readLine : MethodName := ⟨RX6, "readLine", "(I)V"⟩
abbrev cX6_readTarget : ByteArray := prog_8_method_5_code
def yX6_readTarget : MethodName := ⟨RX6, "readTarget", "(I)V"⟩
abbrev cX6_readPart : ByteArray := prog_8_method_6_code
def yX6_readPart : MethodName := ⟨RX6, "readPart", "(II)V"⟩
abbrev cX6_readOperand : ByteArray := prog_8_method_7_code
def yX6_readOperand : MethodName := ⟨RX6, "readOperand", "(I)V"⟩
abbrev cX6_readNumber : ByteArray := prog_8_method_8_code
def yX6_readNumber : MethodName := ⟨RX6, "readNumber", "()V"⟩
abbrev cX6_readName : ByteArray := prog_8_method_9_code
def yX6_readName : MethodName := ⟨RX6, "readName", "()V"⟩
abbrev cX6_readDigit : ByteArray := prog_8_method_10_code
def yX6_readDigit : MethodName := ⟨RX6, "readDigit", "(I)I"⟩
abbrev cX6_operatorOf : ByteArray := prog_8_method_11_code
def yX6_operatorOf : MethodName := ⟨RX6, "operatorOf", "(I)I"⟩
abbrev cX6_next : ByteArray := prog_8_method_12_code
def yX6_next : MethodName := ⟨RX6, "next", "()I"⟩
abbrev cX6_takes : ByteArray := prog_8_method_13_code
def yX6_takes : MethodName := ⟨RX6, "takes", "(I)Z"⟩
abbrev cX6_need : ByteArray := prog_8_method_14_code
def yX6_need : MethodName := ⟨RX6, "need", "(I)V"⟩
def RX7 : String := "NarrowBox$Shelf"
def TX7 : u_T := fun k => match k with
  | 0 => ("NarrowBox$Shelf", "wholes", "[J", true)
  | 1 => ("NarrowBox$Shelf", "lacking", "[B", true)
  | 2 => ("NarrowBox$Shelf", "box", "I", false)
  | 3 => ("NarrowBox$Shelf", "sort", "I", false)
  | _ => ("NarrowBox$Shelf", "length", "I", false)
def tyX7 : Nat → FieldType := fun k => match k with
  | 0 => .array .long
  | 1 => .array .byte
  | 2 => .int
  | 3 => .int
  | _ => .int
abbrev wsX70 : List Cond := u_ws RX7 TX7 5
theorem nmX7 : ∀ a, a < 5 → ∀ b, b < 5 → a ≠ b → (TX7 a).2.1 ≠ (TX7 b).2.1 := by decide +kernel
theorem tyX7_ok : ∀ k, k < 5 → parseFieldDescriptor (TX7 k).2.2.1 = some (tyX7 k) := by decide +kernel
abbrev cX7_init : ByteArray := prog_9_method_1_code
def yX7_init : MethodName := ⟨RX7, "<init>", "()V"⟩
abbrev cX7_isEmpty : ByteArray := prog_9_method_2_code
def yX7_isEmpty : MethodName := ⟨RX7, "isEmpty", "()Z"⟩
abbrev cX7_holdsRow : ByteArray := prog_9_method_3_code
def yX7_holdsRow : MethodName := ⟨RX7, "holdsRow", "()Z"⟩
abbrev cX7_holdsReals : ByteArray := prog_9_method_4_code
def yX7_holdsReals : MethodName := ⟨RX7, "holdsReals", "()Z"⟩
abbrev cX7_holdBox : ByteArray := prog_9_method_5_code
def yX7_holdBox : MethodName := ⟨RX7, "holdBox", "(I)V"⟩
abbrev cX7_holdRow : ByteArray := prog_9_method_6_code
def yX7_holdRow : MethodName := ⟨RX7, "holdRow", "(II)V"⟩
abbrev cX7_hasPlaces : ByteArray := prog_9_method_7_code
def yX7_hasPlaces : MethodName := ⟨RX7, "hasPlaces", "(II)Z"⟩
abbrev cX7_set : ByteArray := prog_9_method_8_code
def yX7_set : MethodName := ⟨RX7, "set", "(IJ)V"⟩
abbrev cX7_setLacking : ByteArray := prog_9_method_9_code
def yX7_setLacking : MethodName := ⟨RX7, "setLacking", "(I)V"⟩
abbrev cX7_wholeAt : ByteArray := prog_9_method_10_code
def yX7_wholeAt : MethodName := ⟨RX7, "wholeAt", "(I)J"⟩
abbrev cX7_feltFrom : ByteArray := prog_9_method_11_code
def yX7_feltFrom : MethodName := ⟨RX7, "feltFrom", "(I)I"⟩
abbrev cX7_copyFrom : ByteArray := prog_9_method_12_code
def yX7_copyFrom : MethodName := ⟨RX7, "copyFrom", "(LNarrowBox$Shelf;III)V"⟩
def RX8 : String := "NarrowBox$Spans"
def TX8 : u_T := fun k => match k with
  | 0 => ("NarrowBox$Spans", "least", "[I", true)
  | 1 => ("NarrowBox$Spans", "greatest", "[I", true)
  | 2 => ("NarrowBox$Spans", "low", "[J", true)
  | 3 => ("NarrowBox$Spans", "high", "[J", true)
  | _ => ("NarrowBox$Spans", "over", "Z", false)
def tyX8 : Nat → FieldType := fun k => match k with
  | 0 => .array .int
  | 1 => .array .int
  | 2 => .array .long
  | 3 => .array .long
  | _ => .boolean
abbrev wsX80 : List Cond := u_ws RX8 TX8 5
theorem nmX8 : ∀ a, a < 5 → ∀ b, b < 5 → a ≠ b → (TX8 a).2.1 ≠ (TX8 b).2.1 := by decide +kernel
theorem tyX8_ok : ∀ k, k < 5 → parseFieldDescriptor (TX8 k).2.2.1 = some (tyX8 k) := by decide +kernel
abbrev cX8_init : ByteArray := prog_10_method_1_code
def yX8_init : MethodName := ⟨RX8, "<init>", "()V"⟩
abbrev cX8_tell : ByteArray := prog_10_method_2_code
def yX8_tell : MethodName := ⟨RX8, "tell", "(IIII)V"⟩
abbrev cX8_isWithinSize : ByteArray := prog_10_method_3_code
def yX8_isWithinSize : MethodName := ⟨RX8, "isWithinSize", "(III)Z"⟩
abbrev cX8_beginnings : ByteArray := prog_10_method_4_code
def yX8_beginnings : MethodName := ⟨RX8, "beginnings", "(I)J"⟩
abbrev cX8_putFirst : ByteArray := prog_10_method_5_code
def yX8_putFirst : MethodName := ⟨RX8, "putFirst", "(I[I)V"⟩
abbrev cX8_putNext : ByteArray := prog_10_method_6_code
def yX8_putNext : MethodName := ⟨RX8, "putNext", "(I[I)Z"⟩
abbrev cX8_isTelling : ByteArray := prog_10_method_7_code
def yX8_isTelling : MethodName := ⟨RX8, "isTelling", "(I[II)Z"⟩
abbrev cX8_gapsOf : ByteArray := prog_10_method_8_code
def yX8_gapsOf : MethodName := ⟨RX8, "gapsOf", "(ILNarrowBox$Box;)I"⟩
abbrev cX8_fits : ByteArray := prog_10_method_9_code
def yX8_fits : MethodName := ⟨RX8, "fits", "(LNarrowBox$Box;I)Z"⟩
abbrev cX8_shows : ByteArray := prog_10_method_10_code
def yX8_shows : MethodName := ⟨RX8, "shows", "(ILNarrowBox$Box;I)Z"⟩
abbrev cX8_leastShown : ByteArray := prog_10_method_11_code
def yX8_leastShown : MethodName := ⟨RX8, "leastShown", "()I"⟩
abbrev cX8_greatestShown : ByteArray := prog_10_method_12_code
def yX8_greatestShown : MethodName := ⟨RX8, "greatestShown", "()I"⟩
abbrev cX8_setName : ByteArray := prog_10_method_13_code
def yX8_setName : MethodName := ⟨RX8, "setName", "(IILNarrowBox$Box;I)V"⟩
abbrev cX8_setBits : ByteArray := prog_10_method_14_code
def yX8_setBits : MethodName := ⟨RX8, "setBits", "(II)V"⟩
abbrev cX8_set : ByteArray := prog_10_method_15_code
def yX8_set : MethodName := ⟨RX8, "set", "(IJJ)V"⟩
abbrev cX8_join : ByteArray := prog_10_method_16_code
def yX8_join : MethodName := ⟨RX8, "join", "(II)V"⟩
abbrev cX8_divide : ByteArray := prog_10_method_17_code
def yX8_divide : MethodName := ⟨RX8, "divide", "(II)V"⟩
abbrev cX8_setEnds : ByteArray := prog_10_method_18_code
def yX8_setEnds : MethodName := ⟨RX8, "setEnds", "(IJJJJ)V"⟩
def RX9 : String := "NarrowBox$Stand"
def TX9 : u_T := fun k => match k with
  | 0 => ("NarrowBox$Stand", "slots", "[I", true)
  | 1 => ("NarrowBox$Stand", "ports", "[I", true)
  | 2 => ("NarrowBox$Stand", "faults", "[I", true)
  | 3 => ("NarrowBox$Stand", "deadAt", "[I", true)
  | 4 => ("NarrowBox$Stand", "caught", "[I", true)
  | 5 => ("NarrowBox$Stand", "misfits", "[I", true)
  | 6 => ("NarrowBox$Stand", "first", "[I", true)
  | _ => ("NarrowBox$Stand", "dead", "I", false)
def tyX9 : Nat → FieldType := fun k => match k with
  | 0 => .array .int
  | 1 => .array .int
  | 2 => .array .int
  | 3 => .array .int
  | 4 => .array .int
  | 5 => .array .int
  | 6 => .array .int
  | _ => .int
abbrev wsX90 : List Cond := u_ws RX9 TX9 8
theorem nmX9 : ∀ a, a < 8 → ∀ b, b < 8 → a ≠ b → (TX9 a).2.1 ≠ (TX9 b).2.1 := by decide +kernel
theorem tyX9_ok : ∀ k, k < 8 → parseFieldDescriptor (TX9 k).2.2.1 = some (tyX9 k) := by decide +kernel
abbrev cX9_init : ByteArray := prog_11_method_1_code
def yX9_init : MethodName := ⟨RX9, "<init>", "()V"⟩
abbrev cX9_begin : ByteArray := prog_11_method_2_code
def yX9_begin : MethodName := ⟨RX9, "begin", "()V"⟩
abbrev cX9_fail : ByteArray := prog_11_method_3_code
def yX9_fail : MethodName := ⟨RX9, "fail", "(IIII)V"⟩
abbrev cX9_kill : ByteArray := prog_11_method_4_code
def yX9_kill : MethodName := ⟨RX9, "kill", "(II)V"⟩
abbrev cX9_isLike : ByteArray := prog_11_method_5_code
def yX9_isLike : MethodName := ⟨RX9, "isLike", "(LNarrowBox$Stand;I)Z"⟩
def RX10 : String := "NarrowBox$Ticker"
def TX10 : u_T := fun k => match k with
  | 0 => ("NarrowBox$Ticker", "seenPorts", "[I", true)
  | 1 => ("NarrowBox$Ticker", "seenFaults", "[I", true)
  | 2 => ("NarrowBox$Ticker", "felt", "[I", true)
  | 3 => ("NarrowBox$Ticker", "stack", "[J", true)
  | 4 => ("NarrowBox$Ticker", "stand", "LNarrowBox$Stand;", false)
  | 5 => ("NarrowBox$Ticker", "box", "LNarrowBox$Box;", false)
  | 6 => ("NarrowBox$Ticker", "program", "LNarrowBox$Program;", false)
  | 7 => ("NarrowBox$Ticker", "tick", "I", false)
  | 8 => ("NarrowBox$Ticker", "caught", "I", false)
  | _ => ("NarrowBox$Ticker", "fault", "I", false)
def tyX10 : Nat → FieldType := fun k => match k with
  | 0 => .array .int
  | 1 => .array .int
  | 2 => .array .int
  | 3 => .array .long
  | 4 => .object "NarrowBox$Stand"
  | 5 => .object "NarrowBox$Box"
  | 6 => .object "NarrowBox$Program"
  | 7 => .int
  | 8 => .int
  | _ => .int
abbrev wsX100 : List Cond := u_ws RX10 TX10 10
theorem nmX10 : ∀ a, a < 10 → ∀ b, b < 10 → a ≠ b → (TX10 a).2.1 ≠ (TX10 b).2.1 := by decide +kernel
theorem tyX10_ok : ∀ k, k < 10 → parseFieldDescriptor (TX10 k).2.2.1 = some (tyX10 k) := by decide +kernel
abbrev cX10_init : ByteArray := prog_12_method_1_code
def yX10_init : MethodName := ⟨RX10, "<init>", "()V"⟩
abbrev cX10_tick : ByteArray := prog_12_method_2_code
def yX10_tick : MethodName := ⟨RX10, "tick", "([LNarrowBox$Box;ILNarrowBox$Stand;LNarrowBox$Flight;II)V"⟩
abbrev cX10_doBox : ByteArray := prog_12_method_3_code
def yX10_doBox : MethodName := ⟨RX10, "doBox", "(LNarrowBox$Box;)V"⟩
abbrev cX10_send : ByteArray := prog_12_method_4_code
def yX10_send : MethodName := ⟨RX10, "send", "(IJ)V"⟩
abbrev cX10_workOut : ByteArray := prog_12_method_5_code
def yX10_workOut : MethodName := ⟨RX10, "workOut", "(II)J"⟩
abbrev cX10_valueOf : ByteArray := prog_12_method_6_code
def yX10_valueOf : MethodName := ⟨RX10, "valueOf", "(II)I"⟩
abbrev cX10_inputOf : ByteArray := prog_12_method_7_code
def yX10_inputOf : MethodName := ⟨RX10, "inputOf", "(I)I"⟩
abbrev cX10_join : ByteArray := prog_12_method_8_code
def yX10_join : MethodName := ⟨RX10, "join", "(IJJ)J"⟩
def RX11 : String := "NarrowBox"
def TX11 : u_T := fun k => match k with
  | 0 => ("NarrowBox", "tape", "LNarrowBox$Reader;", true)
  | 1 => ("NarrowBox", "boxes", "[LNarrowBox$Box;", true)
  | 2 => ("NarrowBox", "flights", "[LNarrowBox$Flight;", true)
  | 3 => ("NarrowBox", "shelves", "[LNarrowBox$Shelf;", true)
  | 4 => ("NarrowBox", "papers", "LNarrowBox$Papers;", true)
  | 5 => ("NarrowBox", "spans", "LNarrowBox$Spans;", true)
  | 6 => ("NarrowBox", "ticker", "LNarrowBox$Ticker;", true)
  | 7 => ("NarrowBox", "acts", "LNarrowBox$Acts;", true)
  | 8 => ("NarrowBox", "latest", "LNarrowBox$Stand;", true)
  | 9 => ("NarrowBox", "plain", "LNarrowBox$Stand;", true)
  | 10 => ("NarrowBox", "tried", "LNarrowBox$Stand;", true)
  | 11 => ("NarrowBox", "trial", "LNarrowBox$Flight;", true)
  | 12 => ("NarrowBox", "beginning", "[I", true)
  | 13 => ("NarrowBox", "killed", "[I", true)
  | 14 => ("NarrowBox", "failures", "LNarrowBox$Failures;", true)
  | 15 => ("NarrowBox", "spare", "LNarrowBox$Program;", false)
  | 16 => ("NarrowBox", "boxCount", "I", false)
  | 17 => ("NarrowBox", "flightCount", "I", false)
  | 18 => ("NarrowBox", "ranBoxes", "I", false)
  | _ => ("NarrowBox", "found", "Z", false)
def tyX11 : Nat → FieldType := fun k => match k with
  | 0 => .object "NarrowBox$Reader"
  | 1 => .array (.object "NarrowBox$Box")
  | 2 => .array (.object "NarrowBox$Flight")
  | 3 => .array (.object "NarrowBox$Shelf")
  | 4 => .object "NarrowBox$Papers"
  | 5 => .object "NarrowBox$Spans"
  | 6 => .object "NarrowBox$Ticker"
  | 7 => .object "NarrowBox$Acts"
  | 8 => .object "NarrowBox$Stand"
  | 9 => .object "NarrowBox$Stand"
  | 10 => .object "NarrowBox$Stand"
  | 11 => .object "NarrowBox$Flight"
  | 12 => .array .int
  | 13 => .array .int
  | 14 => .object "NarrowBox$Failures"
  | 15 => .object "NarrowBox$Program"
  | 16 => .int
  | 17 => .int
  | 18 => .int
  | _ => .boolean
abbrev wsX110 : List Cond := u_ws RX11 TX11 20
theorem nmX11 : ∀ a, a < 20 → ∀ b, b < 20 → a ≠ b → (TX11 a).2.1 ≠ (TX11 b).2.1 := by decide +kernel
theorem tyX11_ok : ∀ k, k < 20 → parseFieldDescriptor (TX11 k).2.2.1 = some (tyX11 k) := by decide +kernel
abbrev cX11_init : ByteArray := prog_1_method_1_code
def yX11_init : MethodName := ⟨RX11, "<init>", "()V"⟩
abbrev cX11_feed : ByteArray := prog_1_method_2_code
def yX11_feed : MethodName := ⟨RX11, "feed", "(II)I"⟩
abbrev cX11_box : ByteArray := prog_1_method_3_code
def yX11_box : MethodName := ⟨RX11, "box", "(I)I"⟩
abbrev cX11_program : ByteArray := prog_1_method_4_code
def yX11_program : MethodName := ⟨RX11, "program", "(I)I"⟩
abbrev cX11_bits : ByteArray := prog_1_method_5_code
def yX11_bits : MethodName := ⟨RX11, "bits", "(III)I"⟩
abbrev cX11_wire : ByteArray := prog_1_method_6_code
def yX11_wire : MethodName := ⟨RX11, "wire", "(IIII)I"⟩
abbrev cX11_line : ByteArray := prog_1_method_7_code
def yX11_line : MethodName := ⟨RX11, "line", "(III)I"⟩
abbrev cX11_watch : ByteArray := prog_1_method_8_code
def yX11_watch : MethodName := ⟨RX11, "watch", "(III)I"⟩
abbrev cX11_flight : ByteArray := prog_1_method_9_code
def yX11_flight : MethodName := ⟨RX11, "flight", "()I"⟩
abbrev cX11_felt : ByteArray := prog_1_method_10_code
def yX11_felt : MethodName := ⟨RX11, "felt", "(IIII)I"⟩
abbrev cX11_feltRow : ByteArray := prog_1_method_11_code
def yX11_feltRow : MethodName := ⟨RX11, "feltRow", "(III)I"⟩
abbrev cX11_feels : ByteArray := prog_1_method_12_code
def yX11_feels : MethodName := ⟨RX11, "feels", "(II)I"⟩
abbrev cX11_run : ByteArray := prog_1_method_13_code
def yX11_run : MethodName := ⟨RX11, "run", "(II)I"⟩
abbrev cX11_ofRun : ByteArray := prog_1_method_14_code
def yX11_ofRun : MethodName := ⟨RX11, "ofRun", "(II)I"⟩
abbrev cX11_firstFault : ByteArray := prog_1_method_15_code
def yX11_firstFault : MethodName := ⟨RX11, "firstFault", "(I)I"⟩
abbrev cX11_span : ByteArray := prog_1_method_16_code
def yX11_span : MethodName := ⟨RX11, "span", "(III)I"⟩
abbrev cX11_all : ByteArray := prog_1_method_17_code
def yX11_all : MethodName := ⟨RX11, "all", "(III)I"⟩
abbrev cX11_began : ByteArray := prog_1_method_18_code
def yX11_began : MethodName := ⟨RX11, "began", "(I)I"⟩
abbrev cX11_gaps : ByteArray := prog_1_method_19_code
def yX11_gaps : MethodName := ⟨RX11, "gaps", "(II)I"⟩
abbrev cX11_bounds : ByteArray := prog_1_method_20_code
def yX11_bounds : MethodName := ⟨RX11, "bounds", "(IIII)I"⟩
abbrev cX11_like : ByteArray := prog_1_method_21_code
def yX11_like : MethodName := ⟨RX11, "like", "(II)I"⟩
abbrev cX11_far : ByteArray := prog_1_method_22_code
def yX11_far : MethodName := ⟨RX11, "far", "(IIII)I"⟩
abbrev cX11_twin : ByteArray := prog_1_method_23_code
def yX11_twin : MethodName := ⟨RX11, "twin", "(II)I"⟩
abbrev cX11_worth : ByteArray := prog_1_method_24_code
def yX11_worth : MethodName := ⟨RX11, "worth", "(III)I"⟩
abbrev cX11_needed : ByteArray := prog_1_method_25_code
def yX11_needed : MethodName := ⟨RX11, "needed", "(III)I"⟩
abbrev cX11_best : ByteArray := prog_1_method_26_code
def yX11_best : MethodName := ⟨RX11, "best", "(IIII)I"⟩
abbrev cX11_fewest : ByteArray := prog_1_method_27_code
def yX11_fewest : MethodName := ⟨RX11, "fewest", "(III)I"⟩
abbrev cX11_paper : ByteArray := prog_1_method_28_code
def yX11_paper : MethodName := ⟨RX11, "paper", "(IIII)I"⟩
abbrev cX11_holds : ByteArray := prog_1_method_29_code
def yX11_holds : MethodName := ⟨RX11, "holds", "(II)I"⟩
abbrev cX11_sign : ByteArray := prog_1_method_30_code
def yX11_sign : MethodName := ⟨RX11, "sign", "(III)I"⟩
abbrev cX11_saw : ByteArray := prog_1_method_31_code
def yX11_saw : MethodName := ⟨RX11, "saw", "(II)I"⟩
abbrev cX11_blind : ByteArray := prog_1_method_32_code
def yX11_blind : MethodName := ⟨RX11, "blind", "(I)I"⟩
abbrev cX11_act : ByteArray := prog_1_method_33_code
def yX11_act : MethodName := ⟨RX11, "act", "(III)I"⟩
abbrev cX11_trace : ByteArray := prog_1_method_34_code
def yX11_trace : MethodName := ⟨RX11, "trace", "(I)I"⟩
abbrev cX11_keep : ByteArray := prog_1_method_35_code
def yX11_keep : MethodName := ⟨RX11, "keep", "(II)I"⟩
abbrev cX11_row : ByteArray := prog_1_method_36_code
def yX11_row : MethodName := ⟨RX11, "row", "(III)I"⟩
abbrev cX11_put : ByteArray := prog_1_method_37_code
def yX11_put : MethodName := ⟨RX11, "put", "(IIJ)I"⟩
abbrev cX11_noNumber : ByteArray := prog_1_method_38_code
def yX11_noNumber : MethodName := ⟨RX11, "noNumber", "(II)I"⟩
abbrev cX11_element : ByteArray := prog_1_method_39_code
def yX11_element : MethodName := ⟨RX11, "element", "(II)J"⟩
abbrev cX11_shift : ByteArray := prog_1_method_40_code
def yX11_shift : MethodName := ⟨RX11, "shift", "(IIIII)I"⟩
abbrev cX11_taken : ByteArray := prog_1_method_41_code
def yX11_taken : MethodName := ⟨RX11, "taken", "(II)I"⟩
abbrev cX11_count : ByteArray := prog_1_method_42_code
def yX11_count : MethodName := ⟨RX11, "count", "(I)I"⟩
abbrev cX11_isBox : ByteArray := prog_1_method_43_code
def yX11_isBox : MethodName := ⟨RX11, "isBox", "(I)Z"⟩
abbrev cX11_isTwin : ByteArray := prog_1_method_44_code
def yX11_isTwin : MethodName := ⟨RX11, "isTwin", "(I)Z"⟩
abbrev cX11_isLine : ByteArray := prog_1_method_45_code
def yX11_isLine : MethodName := ⟨RX11, "isLine", "(II)Z"⟩
abbrev cX11_isFlight : ByteArray := prog_1_method_46_code
def yX11_isFlight : MethodName := ⟨RX11, "isFlight", "(I)Z"⟩
abbrev cX11_areFlights : ByteArray := prog_1_method_47_code
def yX11_areFlights : MethodName := ⟨RX11, "areFlights", "(I)Z"⟩
abbrev cX11_isFelt : ByteArray := prog_1_method_48_code
def yX11_isFelt : MethodName := ⟨RX11, "isFelt", "(I)Z"⟩
abbrev cX11_isPaper : ByteArray := prog_1_method_49_code
def yX11_isPaper : MethodName := ⟨RX11, "isPaper", "(I)Z"⟩
abbrev cX11_isGround : ByteArray := prog_1_method_50_code
def yX11_isGround : MethodName := ⟨RX11, "isGround", "(I)Z"⟩
abbrev cX11_isClaim : ByteArray := prog_1_method_51_code
def yX11_isClaim : MethodName := ⟨RX11, "isClaim", "(III)Z"⟩
abbrev cX11_isMachine : ByteArray := prog_1_method_52_code
def yX11_isMachine : MethodName := ⟨RX11, "isMachine", "(I)Z"⟩
abbrev cX11_isTick : ByteArray := prog_1_method_53_code
def yX11_isTick : MethodName := ⟨RX11, "isTick", "(I)Z"⟩
abbrev cX11_isTicks : ByteArray := prog_1_method_54_code
def yX11_isTicks : MethodName := ⟨RX11, "isTicks", "(I)Z"⟩
abbrev cX11_isShelf : ByteArray := prog_1_method_55_code
def yX11_isShelf : MethodName := ⟨RX11, "isShelf", "(I)Z"⟩
abbrev cX11_isWithin : ByteArray := prog_1_method_56_code
def yX11_isWithin : MethodName := ⟨RX11, "isWithin", "(II)Z"⟩
abbrev cX11_isUnder : ByteArray := prog_1_method_57_code
def yX11_isUnder : MethodName := ⟨RX11, "isUnder", "(II)Z"⟩
abbrev cX11_refusalOf : ByteArray := prog_1_method_58_code
def yX11_refusalOf : MethodName := ⟨RX11, "refusalOf", "(II)I"⟩
abbrev cX11_fly : ByteArray := prog_1_method_59_code
def yX11_fly : MethodName := ⟨RX11, "fly", "(LNarrowBox$Stand;LNarrowBox$Flight;II)V"⟩
abbrev cX11_flyWithout : ByteArray := prog_1_method_60_code
def yX11_flyWithout : MethodName := ⟨RX11, "flyWithout", "(IILNarrowBox$Flight;II)V"⟩
abbrev cX11_goesOver : ByteArray := prog_1_method_61_code
def yX11_goesOver : MethodName := ⟨RX11, "goesOver", "(I)Z"⟩
abbrev cX11_unlikeBoxes : ByteArray := prog_1_method_62_code
def yX11_unlikeBoxes : MethodName := ⟨RX11, "unlikeBoxes", "()I"⟩
abbrev cX11_isReadByOthers : ByteArray := prog_1_method_63_code
def yX11_isReadByOthers : MethodName := ⟨RX11, "isReadByOthers", "(I)Z"⟩
abbrev cX11_feltsRead : ByteArray := prog_1_method_64_code
def yX11_feltsRead : MethodName := ⟨RX11, "feltsRead", "()I"⟩
abbrev cX11_bestWatches : ByteArray := prog_1_method_65_code
def yX11_bestWatches : MethodName := ⟨RX11, "bestWatches", "(LNarrowBox$Box;II)I"⟩
abbrev cX11_outlives : ByteArray := prog_1_method_66_code
def yX11_outlives : MethodName := ⟨RX11, "outlives", "(III)Z"⟩
abbrev cX11_killedBy : ByteArray := prog_1_method_67_code
def yX11_killedBy : MethodName := ⟨RX11, "killedBy", "(I)I"⟩
abbrev cX11_fewestFor : ByteArray := prog_1_method_68_code
def yX11_fewestFor : MethodName := ⟨RX11, "fewestFor", "(II)I"⟩
abbrev cX11_isSo : ByteArray := prog_1_method_69_code
def yX11_isSo : MethodName := ⟨RX11, "isSo", "(II)Z"⟩
def RX12 : String := "NarrowBoxModel"
def TX12 : u_T := fun k => match k with
  | 0 => ("NarrowBoxModel", "code", "I", false)
  | 1 => ("NarrowBoxModel", "boxes", "I", false)
  | 2 => ("NarrowBoxModel", "kind", "[I", true)
  | 3 => ("NarrowBoxModel", "bits", "[I", true)
  | 4 => ("NarrowBoxModel", "wires", "[I", true)
  | 5 => ("NarrowBoxModel", "twinOf", "[I", true)
  | 6 => ("NarrowBoxModel", "lineMany", "[I", true)
  | 7 => ("NarrowBoxModel", "catches", "[Z", true)
  | 8 => ("NarrowBoxModel", "isWatched", "[Z", true)
  | 9 => ("NarrowBoxModel", "target", "[I", true)
  | 10 => ("NarrowBoxModel", "begins", "[I", true)
  | 11 => ("NarrowBoxModel", "testEnds", "[I", true)
  | 12 => ("NarrowBoxModel", "ends", "[I", true)
  | 13 => ("NarrowBoxModel", "act", "[B", true)
  | 14 => ("NarrowBoxModel", "with", "[I", true)
  | 15 => ("NarrowBoxModel", "tape", "[B", true)
  | 16 => ("NarrowBoxModel", "taped", "I", false)
  | 17 => ("NarrowBoxModel", "here", "I", false)
  | 18 => ("NarrowBoxModel", "fault", "I", false)
  | 19 => ("NarrowBoxModel", "open", "I", false)
  | 20 => ("NarrowBoxModel", "laid", "I", false)
  | 21 => ("NarrowBoxModel", "flights", "I", false)
  | 22 => ("NarrowBoxModel", "start", "[I", true)
  | 23 => ("NarrowBoxModel", "step", "[I", true)
  | 24 => ("NarrowBoxModel", "cap", "[I", true)
  | 25 => ("NarrowBoxModel", "rowMany", "[I", true)
  | 26 => ("NarrowBoxModel", "rowFelt", "[I", true)
  | 27 => ("NarrowBoxModel", "slot", "[I", true)
  | 28 => ("NarrowBoxModel", "port", "[I", true)
  | 29 => ("NarrowBoxModel", "portFault", "[I", true)
  | 30 => ("NarrowBoxModel", "portAhead", "[I", true)
  | 31 => ("NarrowBoxModel", "faultAhead", "[I", true)
  | 32 => ("NarrowBoxModel", "isDead", "[Z", true)
  | 33 => ("NarrowBoxModel", "deadAt", "[I", true)
  | 34 => ("NarrowBoxModel", "caughtMany", "[I", true)
  | 35 => ("NarrowBoxModel", "firstTick", "I", false)
  | 36 => ("NarrowBoxModel", "firstBox", "I", false)
  | 37 => ("NarrowBoxModel", "firstLine", "I", false)
  | 38 => ("NarrowBoxModel", "firstNumber", "I", false)
  | 39 => ("NarrowBoxModel", "tick", "I", false)
  | 40 => ("NarrowBoxModel", "caught", "I", false)
  | 41 => ("NarrowBoxModel", "feltNow", "[I", true)
  | 42 => ("NarrowBoxModel", "pile", "[J", true)
  | 43 => ("NarrowBoxModel", "failBox", "I", false)
  | 44 => ("NarrowBoxModel", "failAt", "I", false)
  | 45 => ("NarrowBoxModel", "failBy", "I", false)
  | 46 => ("NarrowBoxModel", "stopBox", "I", false)
  | 47 => ("NarrowBoxModel", "stopAt", "I", false)
  | 48 => ("NarrowBoxModel", "watchBox", "I", false)
  | 49 => ("NarrowBoxModel", "watchSet", "I", false)
  | 50 => ("NarrowBoxModel", "hasRun", "Z", false)
  | 51 => ("NarrowBoxModel", "ranBoxes", "I", false)
  | 52 => ("NarrowBoxModel", "ranSlot", "[I", true)
  | 53 => ("NarrowBoxModel", "ranPort", "[I", true)
  | 54 => ("NarrowBoxModel", "ranFault", "[I", true)
  | 55 => ("NarrowBoxModel", "ranDead", "[Z", true)
  | 56 => ("NarrowBoxModel", "ranAt", "[I", true)
  | 57 => ("NarrowBoxModel", "ranCaught", "[I", true)
  | 58 => ("NarrowBoxModel", "ranFirst", "[I", true)
  | 59 => ("NarrowBoxModel", "spanLow", "[I", true)
  | 60 => ("NarrowBoxModel", "spanHigh", "[I", true)
  | 61 => ("NarrowBoxModel", "beginsAt", "[I", true)
  | 62 => ("NarrowBoxModel", "hasBegun", "Z", false)
  | 63 => ("NarrowBoxModel", "lows", "[J", true)
  | 64 => ("NarrowBoxModel", "highs", "[J", true)
  | 65 => ("NarrowBoxModel", "otherSlot", "[I", true)
  | 66 => ("NarrowBoxModel", "otherPort", "[I", true)
  | 67 => ("NarrowBoxModel", "otherFault", "[I", true)
  | 68 => ("NarrowBoxModel", "otherDead", "[Z", true)
  | 69 => ("NarrowBoxModel", "deadBy", "[I", true)
  | 70 => ("NarrowBoxModel", "papers", "I", false)
  | 71 => ("NarrowBoxModel", "paperSort", "[I", true)
  | 72 => ("NarrowBoxModel", "paperK", "[I", true)
  | 73 => ("NarrowBoxModel", "paperV", "[I", true)
  | 74 => ("NarrowBoxModel", "standsOn", "[I", true)
  | 75 => ("NarrowBoxModel", "signed", "[I", true)
  | 76 => ("NarrowBoxModel", "traces", "I", false)
  | 77 => ("NarrowBoxModel", "traced", "[I", true)
  | 78 => ("NarrowBoxModel", "holds", "[I", true)
  | 79 => ("NarrowBoxModel", "size", "[I", true)
  | 80 => ("NarrowBoxModel", "elements", "[J", true)
  | 81 => ("NarrowBoxModel", "isBlank", "[Z", true)
  | 82 => ("NarrowBoxModel", "shifted", "[J", true)
  | _ => ("NarrowBoxModel", "shiftedBlank", "[Z", true)
def tyX12 : Nat → FieldType := fun k => match k with
  | 0 => .int
  | 1 => .int
  | 2 => .array .int
  | 3 => .array .int
  | 4 => .array .int
  | 5 => .array .int
  | 6 => .array .int
  | 7 => .array .boolean
  | 8 => .array .boolean
  | 9 => .array .int
  | 10 => .array .int
  | 11 => .array .int
  | 12 => .array .int
  | 13 => .array .byte
  | 14 => .array .int
  | 15 => .array .byte
  | 16 => .int
  | 17 => .int
  | 18 => .int
  | 19 => .int
  | 20 => .int
  | 21 => .int
  | 22 => .array .int
  | 23 => .array .int
  | 24 => .array .int
  | 25 => .array .int
  | 26 => .array .int
  | 27 => .array .int
  | 28 => .array .int
  | 29 => .array .int
  | 30 => .array .int
  | 31 => .array .int
  | 32 => .array .boolean
  | 33 => .array .int
  | 34 => .array .int
  | 35 => .int
  | 36 => .int
  | 37 => .int
  | 38 => .int
  | 39 => .int
  | 40 => .int
  | 41 => .array .int
  | 42 => .array .long
  | 43 => .int
  | 44 => .int
  | 45 => .int
  | 46 => .int
  | 47 => .int
  | 48 => .int
  | 49 => .int
  | 50 => .boolean
  | 51 => .int
  | 52 => .array .int
  | 53 => .array .int
  | 54 => .array .int
  | 55 => .array .boolean
  | 56 => .array .int
  | 57 => .array .int
  | 58 => .array .int
  | 59 => .array .int
  | 60 => .array .int
  | 61 => .array .int
  | 62 => .boolean
  | 63 => .array .long
  | 64 => .array .long
  | 65 => .array .int
  | 66 => .array .int
  | 67 => .array .int
  | 68 => .array .boolean
  | 69 => .array .int
  | 70 => .int
  | 71 => .array .int
  | 72 => .array .int
  | 73 => .array .int
  | 74 => .array .int
  | 75 => .array .int
  | 76 => .int
  | 77 => .array .int
  | 78 => .array .int
  | 79 => .array .int
  | 80 => .array .long
  | 81 => .array .boolean
  | 82 => .array .long
  | _ => .array .boolean
abbrev wsX120 : List Cond := u_ws RX12 TX12 84
theorem nmX12 : ∀ a, a < 84 → ∀ b, b < 84 → a ≠ b → (TX12 a).2.1 ≠ (TX12 b).2.1 := by decide +kernel
theorem tyX12_ok : ∀ k, k < 84 → parseFieldDescriptor (TX12 k).2.2.1 = some (tyX12 k) := by decide +kernel
abbrev cX12_init : ByteArray := prog_14_method_1_code
def yX12_init : MethodName := ⟨RX12, "<init>", "()V"⟩
abbrev cX12_in : ByteArray := prog_14_method_3_code
def yX12_in : MethodName := ⟨RX12, "in", "(III)Z"⟩
abbrev cX12_isBox : ByteArray := prog_14_method_4_code
def yX12_isBox : MethodName := ⟨RX12, "isBox", "(I)Z"⟩
abbrev cX12_isUnder : ByteArray := prog_14_method_5_code
def yX12_isUnder : MethodName := ⟨RX12, "isUnder", "(II)Z"⟩
abbrev cX12_box : ByteArray := prog_14_method_6_code
def yX12_box : MethodName := ⟨RX12, "box", "(I)I"⟩
abbrev cX12_bits : ByteArray := prog_14_method_7_code
def yX12_bits : MethodName := ⟨RX12, "bits", "(III)I"⟩
abbrev cX12_wire : ByteArray := prog_14_method_8_code
def yX12_wire : MethodName := ⟨RX12, "wire", "(IIII)I"⟩
abbrev cX12_isLine : ByteArray := prog_14_method_9_code
def yX12_isLine : MethodName := ⟨RX12, "isLine", "(II)Z"⟩
abbrev cX12_line : ByteArray := prog_14_method_10_code
def yX12_line : MethodName := ⟨RX12, "line", "(III)I"⟩
abbrev cX12_watch : ByteArray := prog_14_method_11_code
def yX12_watch : MethodName := ⟨RX12, "watch", "(III)I"⟩
abbrev cX12_feed : ByteArray := prog_14_method_12_code
def yX12_feed : MethodName := ⟨RX12, "feed", "(II)I"⟩
abbrev cX12_look : ByteArray := prog_14_method_13_code
def yX12_look : MethodName := ⟨RX12, "look", "()I"⟩
abbrev cX12_wrong : ByteArray := prog_14_method_14_code
def yX12_wrong : MethodName := ⟨RX12, "wrong", "()V"⟩
abbrev cX12_lay : ByteArray := prog_14_method_15_code
def yX12_lay : MethodName := ⟨RX12, "lay", "(II)V"⟩
abbrev cX12_opens : ByteArray := prog_14_method_16_code
def yX12_opens : MethodName := ⟨RX12, "opens", "()Z"⟩
abbrev cX12_indexed : ByteArray := prog_14_method_17_code
def yX12_indexed : MethodName := ⟨RX12, "indexed", "(II)V"⟩
abbrev cX12_number : ByteArray := prog_14_method_18_code
def yX12_number : MethodName := ⟨RX12, "number", "()V"⟩
abbrev cX12_operand : ByteArray := prog_14_method_19_code
def yX12_operand : MethodName := ⟨RX12, "operand", "()V"⟩
abbrev cX12_product : ByteArray := prog_14_method_20_code
def yX12_product : MethodName := ⟨RX12, "product", "()V"⟩
abbrev cX12_sum : ByteArray := prog_14_method_21_code
def yX12_sum : MethodName := ⟨RX12, "sum", "()V"⟩
abbrev cX12_compared : ByteArray := prog_14_method_22_code
def yX12_compared : MethodName := ⟨RX12, "compared", "()V"⟩
abbrev cX12_both : ByteArray := prog_14_method_23_code
def yX12_both : MethodName := ⟨RX12, "both", "()V"⟩
abbrev cX12_either : ByteArray := prog_14_method_24_code
def yX12_either : MethodName := ⟨RX12, "either", "()V"⟩
abbrev cX12_isNext : ByteArray := prog_14_method_25_code
def yX12_isNext : MethodName := ⟨RX12, "isNext", "(I)Z"⟩
abbrev cX12_readLine : ByteArray := prog_14_method_26_code
def yX12_readLine : MethodName := ⟨RX12, "readLine", "()V"⟩
abbrev cX12_program : ByteArray := prog_14_method_27_code
def yX12_program : MethodName := ⟨RX12, "program", "(I)I"⟩
abbrev cX12_isFlight : ByteArray := prog_14_method_28_code
def yX12_isFlight : MethodName := ⟨RX12, "isFlight", "(I)Z"⟩
abbrev cX12_isFelt : ByteArray := prog_14_method_29_code
def yX12_isFelt : MethodName := ⟨RX12, "isFelt", "(I)Z"⟩
abbrev cX12_flight : ByteArray := prog_14_method_30_code
def yX12_flight : MethodName := ⟨RX12, "flight", "()I"⟩
abbrev cX12_felt : ByteArray := prog_14_method_31_code
def yX12_felt : MethodName := ⟨RX12, "felt", "(IIII)I"⟩
abbrev cX12_isReals : ByteArray := prog_14_method_32_code
def yX12_isReals : MethodName := ⟨RX12, "isReals", "(I)Z"⟩
abbrev cX12_feltRow : ByteArray := prog_14_method_33_code
def yX12_feltRow : MethodName := ⟨RX12, "feltRow", "(III)I"⟩
abbrev cX12_heldBy : ByteArray := prog_14_method_34_code
def yX12_heldBy : MethodName := ⟨RX12, "heldBy", "(II)I"⟩
abbrev cX12_feltAt : ByteArray := prog_14_method_35_code
def yX12_feltAt : MethodName := ⟨RX12, "feltAt", "(II)I"⟩
abbrev cX12_feels : ByteArray := prog_14_method_36_code
def yX12_feels : MethodName := ⟨RX12, "feels", "(II)I"⟩
abbrev cX12_asItIs : ByteArray := prog_14_method_37_code
def yX12_asItIs : MethodName := ⟨RX12, "asItIs", "()V"⟩
abbrev cX12_isMuch : ByteArray := prog_14_method_38_code
def yX12_isMuch : MethodName := ⟨RX12, "isMuch", "(J)Z"⟩
abbrev cX12_twoOf : ByteArray := prog_14_method_39_code
def yX12_twoOf : MethodName := ⟨RX12, "twoOf", "(IJJ)J"⟩
abbrev cX12_readInput : ByteArray := prog_14_method_40_code
def yX12_readInput : MethodName := ⟨RX12, "readInput", "(III)I"⟩
abbrev cX12_worked : ByteArray := prog_14_method_41_code
def yX12_worked : MethodName := ⟨RX12, "worked", "(III)I"⟩
abbrev cX12_mostOf : ByteArray := prog_14_method_42_code
def yX12_mostOf : MethodName := ⟨RX12, "mostOf", "(I)I"⟩
abbrev cX12_doLine : ByteArray := prog_14_method_43_code
def yX12_doLine : MethodName := ⟨RX12, "doLine", "(II)I"⟩
abbrev cX12_kill : ByteArray := prog_14_method_44_code
def yX12_kill : MethodName := ⟨RX12, "kill", "(II)V"⟩
abbrev cX12_tickOf : ByteArray := prog_14_method_45_code
def yX12_tickOf : MethodName := ⟨RX12, "tickOf", "(I)V"⟩
abbrev cX12_begin : ByteArray := prog_14_method_46_code
def yX12_begin : MethodName := ⟨RX12, "begin", "()V"⟩
abbrev cX12_tickAll : ByteArray := prog_14_method_47_code
def yX12_tickAll : MethodName := ⟨RX12, "tickAll", "()V"⟩
abbrev cX12_runOf : ByteArray := prog_14_method_48_code
def yX12_runOf : MethodName := ⟨RX12, "runOf", "(II)V"⟩
abbrev cX12_isTicks : ByteArray := prog_14_method_49_code
def yX12_isTicks : MethodName := ⟨RX12, "isTicks", "(I)Z"⟩
abbrev cX12_run : ByteArray := prog_14_method_50_code
def yX12_run : MethodName := ⟨RX12, "run", "(II)I"⟩
abbrev cX12_ofRun : ByteArray := prog_14_method_51_code
def yX12_ofRun : MethodName := ⟨RX12, "ofRun", "(II)I"⟩
abbrev cX12_firstFault : ByteArray := prog_14_method_52_code
def yX12_firstFault : MethodName := ⟨RX12, "firstFault", "(I)I"⟩
abbrev cX12_isMachine : ByteArray := prog_14_method_53_code
def yX12_isMachine : MethodName := ⟨RX12, "isMachine", "(I)Z"⟩
abbrev cX12_span : ByteArray := prog_14_method_54_code
def yX12_span : MethodName := ⟨RX12, "span", "(III)I"⟩
abbrev cX12_goesOver : ByteArray := prog_14_method_55_code
def yX12_goesOver : MethodName := ⟨RX12, "goesOver", "(IIIII)Z"⟩
abbrev cX12_all : ByteArray := prog_14_method_56_code
def yX12_all : MethodName := ⟨RX12, "all", "(III)I"⟩
abbrev cX12_began : ByteArray := prog_14_method_57_code
def yX12_began : MethodName := ⟨RX12, "began", "(I)I"⟩
abbrev cX12_lesser : ByteArray := prog_14_method_58_code
def yX12_lesser : MethodName := ⟨RX12, "lesser", "(JJ)J"⟩
abbrev cX12_greater : ByteArray := prog_14_method_59_code
def yX12_greater : MethodName := ⟨RX12, "greater", "(JJ)J"⟩
abbrev cX12_layEnds : ByteArray := prog_14_method_60_code
def yX12_layEnds : MethodName := ⟨RX12, "layEnds", "(IJJ)V"⟩
abbrev cX12_leaf : ByteArray := prog_14_method_61_code
def yX12_leaf : MethodName := ⟨RX12, "leaf", "(IIIII)V"⟩
abbrev cX12_ofTwo : ByteArray := prog_14_method_62_code
def yX12_ofTwo : MethodName := ⟨RX12, "ofTwo", "(II)Z"⟩
abbrev cX12_findEnds : ByteArray := prog_14_method_63_code
def yX12_findEnds : MethodName := ⟨RX12, "findEnds", "(III)Z"⟩
abbrev cX12_isOver : ByteArray := prog_14_method_64_code
def yX12_isOver : MethodName := ⟨RX12, "isOver", "(III)Z"⟩
abbrev cX12_gapsOf : ByteArray := prog_14_method_65_code
def yX12_gapsOf : MethodName := ⟨RX12, "gapsOf", "(II)I"⟩
abbrev cX12_gaps : ByteArray := prog_14_method_66_code
def yX12_gaps : MethodName := ⟨RX12, "gaps", "(II)I"⟩
abbrev cX12_bounds : ByteArray := prog_14_method_67_code
def yX12_bounds : MethodName := ⟨RX12, "bounds", "(IIII)I"⟩
abbrev cX12_like : ByteArray := prog_14_method_68_code
def yX12_like : MethodName := ⟨RX12, "like", "(II)I"⟩
abbrev cX12_keepRun : ByteArray := prog_14_method_69_code
def yX12_keepRun : MethodName := ⟨RX12, "keepRun", "()V"⟩
abbrev cX12_isUnlike : ByteArray := prog_14_method_70_code
def yX12_isUnlike : MethodName := ⟨RX12, "isUnlike", "(I)Z"⟩
abbrev cX12_far : ByteArray := prog_14_method_71_code
def yX12_far : MethodName := ⟨RX12, "far", "(IIII)I"⟩
abbrev cX12_twin : ByteArray := prog_14_method_72_code
def yX12_twin : MethodName := ⟨RX12, "twin", "(II)I"⟩
abbrev cX12_areFlights : ByteArray := prog_14_method_73_code
def yX12_areFlights : MethodName := ⟨RX12, "areFlights", "(I)Z"⟩
abbrev cX12_worth : ByteArray := prog_14_method_74_code
def yX12_worth : MethodName := ⟨RX12, "worth", "(III)I"⟩
abbrev cX12_needed : ByteArray := prog_14_method_75_code
def yX12_needed : MethodName := ⟨RX12, "needed", "(III)I"⟩
abbrev cX12_bitsOf : ByteArray := prog_14_method_76_code
def yX12_bitsOf : MethodName := ⟨RX12, "bitsOf", "(I)I"⟩
abbrev cX12_isNeverDead : ByteArray := prog_14_method_77_code
def yX12_isNeverDead : MethodName := ⟨RX12, "isNeverDead", "(III)Z"⟩
abbrev cX12_best : ByteArray := prog_14_method_78_code
def yX12_best : MethodName := ⟨RX12, "best", "(IIII)I"⟩
abbrev cX12_fewest : ByteArray := prog_14_method_79_code
def yX12_fewest : MethodName := ⟨RX12, "fewest", "(III)I"⟩
abbrev cX12_isPaper : ByteArray := prog_14_method_80_code
def yX12_isPaper : MethodName := ⟨RX12, "isPaper", "(I)Z"⟩
abbrev cX12_paper : ByteArray := prog_14_method_81_code
def yX12_paper : MethodName := ⟨RX12, "paper", "(IIII)I"⟩
abbrev cX12_isSo : ByteArray := prog_14_method_82_code
def yX12_isSo : MethodName := ⟨RX12, "isSo", "(II)Z"⟩
abbrev cX12_holdsFor : ByteArray := prog_14_method_83_code
def yX12_holdsFor : MethodName := ⟨RX12, "holdsFor", "(II)Z"⟩
abbrev cX12_holds : ByteArray := prog_14_method_84_code
def yX12_holds : MethodName := ⟨RX12, "holds", "(II)I"⟩
abbrev cX12_isPerson : ByteArray := prog_14_method_85_code
def yX12_isPerson : MethodName := ⟨RX12, "isPerson", "(I)Z"⟩
abbrev cX12_sign : ByteArray := prog_14_method_86_code
def yX12_sign : MethodName := ⟨RX12, "sign", "(III)I"⟩
abbrev cX12_withAll : ByteArray := prog_14_method_87_code
def yX12_withAll : MethodName := ⟨RX12, "withAll", "(I)I"⟩
abbrev cX12_saw : ByteArray := prog_14_method_88_code
def yX12_saw : MethodName := ⟨RX12, "saw", "(II)I"⟩
abbrev cX12_blind : ByteArray := prog_14_method_89_code
def yX12_blind : MethodName := ⟨RX12, "blind", "(I)I"⟩
abbrev cX12_ran : ByteArray := prog_14_method_90_code
def yX12_ran : MethodName := ⟨RX12, "ran", "(I)V"⟩
abbrev cX12_plainRuns : ByteArray := prog_14_method_91_code
def yX12_plainRuns : MethodName := ⟨RX12, "plainRuns", "(II)I"⟩
abbrev cX12_feelingRuns : ByteArray := prog_14_method_92_code
def yX12_feelingRuns : MethodName := ⟨RX12, "feelingRuns", "(II)I"⟩
abbrev cX12_runs : ByteArray := prog_14_method_93_code
def yX12_runs : MethodName := ⟨RX12, "runs", "(II)I"⟩
abbrev cX12_plainSends : ByteArray := prog_14_method_94_code
def yX12_plainSends : MethodName := ⟨RX12, "plainSends", "(II)I"⟩
abbrev cX12_sends : ByteArray := prog_14_method_95_code
def yX12_sends : MethodName := ⟨RX12, "sends", "(II)I"⟩
abbrev cX12_plainBack : ByteArray := prog_14_method_96_code
def yX12_plainBack : MethodName := ⟨RX12, "plainBack", "(II)I"⟩
abbrev cX12_holdsBack : ByteArray := prog_14_method_97_code
def yX12_holdsBack : MethodName := ⟨RX12, "holdsBack", "(II)I"⟩
abbrev cX12_plainTells : ByteArray := prog_14_method_98_code
def yX12_plainTells : MethodName := ⟨RX12, "plainTells", "(II)I"⟩
abbrev cX12_keptTells : ByteArray := prog_14_method_99_code
def yX12_keptTells : MethodName := ⟨RX12, "keptTells", "(II)I"⟩
abbrev cX12_tells : ByteArray := prog_14_method_100_code
def yX12_tells : MethodName := ⟨RX12, "tells", "(II)I"⟩
abbrev cX12_act : ByteArray := prog_14_method_101_code
def yX12_act : MethodName := ⟨RX12, "act", "(III)I"⟩
abbrev cX12_trace : ByteArray := prog_14_method_102_code
def yX12_trace : MethodName := ⟨RX12, "trace", "(I)I"⟩
abbrev cX12_count : ByteArray := prog_14_method_103_code
def yX12_count : MethodName := ⟨RX12, "count", "(I)I"⟩
abbrev cX12_isShelf : ByteArray := prog_14_method_104_code
def yX12_isShelf : MethodName := ⟨RX12, "isShelf", "(I)Z"⟩
abbrev cX12_keep : ByteArray := prog_14_method_105_code
def yX12_keep : MethodName := ⟨RX12, "keep", "(II)I"⟩
abbrev cX12_row : ByteArray := prog_14_method_106_code
def yX12_row : MethodName := ⟨RX12, "row", "(III)I"⟩
abbrev cX12_whyNoPlace : ByteArray := prog_14_method_107_code
def yX12_whyNoPlace : MethodName := ⟨RX12, "whyNoPlace", "(II)I"⟩
abbrev cX12_put : ByteArray := prog_14_method_108_code
def yX12_put : MethodName := ⟨RX12, "put", "(IIJ)I"⟩
abbrev cX12_noNumber : ByteArray := prog_14_method_109_code
def yX12_noNumber : MethodName := ⟨RX12, "noNumber", "(II)I"⟩
abbrev cX12_element : ByteArray := prog_14_method_110_code
def yX12_element : MethodName := ⟨RX12, "element", "(II)J"⟩
abbrev cX12_shift : ByteArray := prog_14_method_111_code
def yX12_shift : MethodName := ⟨RX12, "shift", "(IIIII)I"⟩
abbrev cX12_taken : ByteArray := prog_14_method_112_code
def yX12_taken : MethodName := ⟨RX12, "taken", "(II)I"⟩
def RJ6 : String := "java/lang/Integer"
def TJ6 : u_T := fun k => match k with
  | _ => ("", "", "", false)
def tyJ6 : Nat → FieldType := fun k => match k with
  | _ => .int
abbrev wsJ60 : List Cond := u_ws RJ6 TJ6 0
theorem nmJ6 : ∀ a, a < 0 → ∀ b, b < 0 → a ≠ b → (TJ6 a).2.1 ≠ (TJ6 b).2.1 := by decide +kernel
theorem tyJ6_ok : ∀ k, k < 0 → parseFieldDescriptor (TJ6 k).2.2.1 = some (tyJ6 k) := by decide +kernel
abbrev cJ6_bitCount_0f7a4 : ByteArray := prog_15_method_49_code
def yJ6_bitCount_0f7a4 : MethodName := ⟨RJ6, "bitCount", "(I)I"⟩
def RJ9 : String := "java/lang/Math"
def TJ9 : u_T := fun k => match k with
  | _ => ("", "", "", false)
def tyJ9 : Nat → FieldType := fun k => match k with
  | _ => .int
abbrev wsJ90 : List Cond := u_ws RJ9 TJ9 0
theorem nmJ9 : ∀ a, a < 0 → ∀ b, b < 0 → a ≠ b → (TJ9 a).2.1 ≠ (TJ9 b).2.1 := by decide +kernel
theorem tyJ9_ok : ∀ k, k < 0 → parseFieldDescriptor (TJ9 k).2.2.1 = some (tyJ9 k) := by decide +kernel
abbrev cJ9_floorDiv_f86c9 : ByteArray := prog_16_method_49_code
def yJ9_floorDiv_f86c9 : MethodName := ⟨RJ9, "floorDiv", "(JJ)J"⟩
abbrev cJ9_abs_067f4 : ByteArray := prog_16_method_61_code
def yJ9_abs_067f4 : MethodName := ⟨RJ9, "abs", "(J)J"⟩
abbrev cJ9_max_7cf53 : ByteArray := prog_16_method_65_code
def yJ9_max_7cf53 : MethodName := ⟨RJ9, "max", "(II)I"⟩
abbrev cJ9_max_f86c9 : ByteArray := prog_16_method_66_code
def yJ9_max_f86c9 : MethodName := ⟨RJ9, "max", "(JJ)J"⟩
abbrev cJ9_min_7cf53 : ByteArray := prog_16_method_69_code
def yJ9_min_7cf53 : MethodName := ⟨RJ9, "min", "(II)I"⟩
abbrev cJ9_min_f86c9 : ByteArray := prog_16_method_70_code
def yJ9_min_f86c9 : MethodName := ⟨RJ9, "min", "(JJ)J"⟩
def RJ10 : String := "java/lang/System"
def TJ10 : u_T := fun k => match k with
  | _ => ("", "", "", false)
def tyJ10 : Nat → FieldType := fun k => match k with
  | _ => .int
abbrev wsJ100 : List Cond := u_ws RJ10 TJ10 0
theorem nmJ10 : ∀ a, a < 0 → ∀ b, b < 0 → a ≠ b → (TJ10 a).2.1 ≠ (TJ10 b).2.1 := by decide +kernel
theorem tyJ10_ok : ∀ k, k < 0 → parseFieldDescriptor (TJ10 k).2.2.1 = some (tyJ10 k) := by decide +kernel
def RJ7 : String := "java/util/Arrays"
def TJ7 : u_T := fun k => match k with
  | _ => ("", "", "", false)
def tyJ7 : Nat → FieldType := fun k => match k with
  | _ => .int
abbrev wsJ70 : List Cond := u_ws RJ7 TJ7 0
theorem nmJ7 : ∀ a, a < 0 → ∀ b, b < 0 → a ≠ b → (TJ7 a).2.1 ≠ (TJ7 b).2.1 := by decide +kernel
theorem tyJ7_ok : ∀ k, k < 0 → parseFieldDescriptor (TJ7 k).2.2.1 = some (tyJ7 k) := by decide +kernel
abbrev cJ7_fill_d0a16 : ByteArray := prog_18_method_101_code
def yJ7_fill_d0a16 : MethodName := ⟨RJ7, "fill", "([JJ)V"⟩
abbrev cJ7_fill_53178 : ByteArray := prog_18_method_103_code
def yJ7_fill_53178 : MethodName := ⟨RJ7, "fill", "([II)V"⟩
abbrev cJ7_fill_031fb : ByteArray := prog_18_method_109_code
def yJ7_fill_031fb : MethodName := ⟨RJ7, "fill", "([BB)V"⟩

abbrev nbC : List vw_C := [(RX0, TX0, 2), (RX1, TX1, 6), (RX2, TX2, 3), (RX3, TX3, 5), (RX4, TX4, 6), (RX5, TX5, 9), (RX6, TX6, 5), (RX7, TX7, 5), (RX8, TX8, 5), (RX9, TX9, 8), (RX10, TX10, 10), (RX11, TX11, 20), (RX12, TX12, 84)]
def R_law : String := "NarrowBoxLaw"
def lw_P (b : Addr) (xs : List Int32) (args : Array Value) (s : State) : Prop := args = #[.ref b] ∧ s.IntsAt b xs ∧ xs.length ≤ 3072 ∧ (Jvm.Cond.and given_1 narrow_1).before args s = true
def lw_Q (_ : Array Value) (s : State) (o : Outcome) (t : State) : Prop := o = .returned (some (.int 1)) ∧ Framed s o t [] 600000 7302250
def lw_Z (below : List Frame) (a : Array Value) (s : State) : State → Prop := fun t => ∃ o, t.status = .running ∧ Ended t below o ∧ lw_Q a s o t
/-- the law's own end, with 1 on the stack, nothing written that was there before, its room as the claim has it -/
theorem lw_ret {p : Program} {l : Launch} {e : Env} {s : State} {m : MethodId} {below : List Frame} {meth : Method} {c : Code} {b : Nat} (hx : p.tables.exec = Jvm.exec) (hb : c.code = code) (hr : meth.sig.returnType = ret) (hlocks : meth.locks = false) {pc : Nat} {H : Heap} {ls : Array Slot} (hdg : decode code pc = .ok (.ireturn, 1)) : W p l e room_1 s m #[Value.ref b] below meth c H [] 600000 7302250 (lw_Z below #[Value.ref b] s) (F0 m pc ls [.int 1]) := by
  intro T hT X
  obtain ⟨fs, hret, hrun, hended, hW, hframe⟩ := X.leave (v := some (.int 1)) (hlocks := hlocks) (fun h => by rw [hr] at h; cases h)
  have hmeth' : T.vm.method? m = some meth := X.method'
  refine ⟨T.setFrames fs, ?_, .returned (some (.int 1)), hrun, hended, rfl, ⟨_, rfl⟩, hW, hframe⟩
  jvm_step X.here [X.here.top, hx, hb, hdg, hmeth', hr, ret, narrow_b1]
  (try refine ⟨rfl, ?_⟩); (try refine ⟨rfl, ?_⟩)
  first | (intro acts; rw [hret _ acts rfl rfl rfl]) | rw [hret _ _ rfl rfl rfl]
  exact Steps.refl _
/-- what holds at the law's entry: the machine, the code, the tables' words (any of lw_tbl by 'hts w (by decide +kernel)'), the script of L ints xs at the cell b, what the Statement gives of the start (any of its parts by flat_of_before) -/
def lw_At (p : Program) (s : State) (m : MethodId) (meth : Method) (c : Code) (b L : Nat) (xs : Nat → Int32) : Prop :=
  p.tables.exec = Jvm.exec ∧ c.code = code ∧ meth.sig.returnType = ret ∧ c.maxLocals = 4 ∧ s.vm.findClass R_law = some m.cls ∧ (∀ w ∈ lw_tbl, w.before #[Value.ref b] s = true) ∧ va_X b L xs s s.heap ∧ b < s.heap.size ∧ meth.locks = false ∧ (Jvm.Cond.and given_1 narrow_1).before #[Value.ref b] s = true
