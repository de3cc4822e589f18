/-- a private method of a class that the tables say can be made, by its rows of tables_1 -/
def lw_okq (q : MethodName × Nat) : Prop := (q.1.cls ≠ "java/lang/invoke/MethodHandle" ∧ q.1.cls ≠ "java/lang/invoke/VarHandle") ∧ Cond.instantiable q.1.cls q.2 ∈ tables_1 ∧ Cond.privateMethod q.1 ∈ tables_1 ∧ Cond.instanceMethod q.1 ∈ tables_1
theorem lw_p0 : lw_okq (⟨"BetweenThisAndThat$Reader", "step", "()V"⟩, 8) := ⟨⟨by decide +kernel, by decide +kernel⟩, List.mem_of_getElem? (i := 96) (by decide +kernel), List.mem_of_getElem? (i := 288) (by decide +kernel), List.mem_of_getElem? (i := 289) (by decide +kernel)⟩
theorem lw_p1 : lw_okq (⟨"BetweenThisAndThat$Reader", "takeWord", "()V"⟩, 8) := ⟨⟨by decide +kernel, by decide +kernel⟩, List.mem_of_getElem? (i := 96) (by decide +kernel), List.mem_of_getElem? (i := 295) (by decide +kernel), List.mem_of_getElem? (i := 296) (by decide +kernel)⟩
theorem lw_p2 : lw_okq (⟨"BetweenThisAndThat$Reader", "inHand", "(Ljava/lang/String;)Z"⟩, 8) := ⟨⟨by decide +kernel, by decide +kernel⟩, List.mem_of_getElem? (i := 96) (by decide +kernel), List.mem_of_getElem? (i := 300) (by decide +kernel), List.mem_of_getElem? (i := 301) (by decide +kernel)⟩
theorem lw_p3 : lw_okq (⟨"BetweenThisAndThat$Reader", "takeNumber", "()V"⟩, 8) := ⟨⟨by decide +kernel, by decide +kernel⟩, List.mem_of_getElem? (i := 96) (by decide +kernel), List.mem_of_getElem? (i := 314) (by decide +kernel), List.mem_of_getElem? (i := 315) (by decide +kernel)⟩
theorem lw_p4 : lw_okq (⟨"BetweenThisAndThat$Reader", "readPart", "(I)Z"⟩, 8) := ⟨⟨by decide +kernel, by decide +kernel⟩, List.mem_of_getElem? (i := 96) (by decide +kernel), List.mem_of_getElem? (i := 378) (by decide +kernel), List.mem_of_getElem? (i := 379) (by decide +kernel)⟩
theorem lw_p5 : lw_okq (⟨"BetweenThisAndThat$Reader", "readAny", "()Z"⟩, 8) := ⟨⟨by decide +kernel, by decide +kernel⟩, List.mem_of_getElem? (i := 96) (by decide +kernel), List.mem_of_getElem? (i := 382) (by decide +kernel), List.mem_of_getElem? (i := 383) (by decide +kernel)⟩
theorem lw_p6 : lw_okq (⟨"BetweenThisAndThat$Reader", "readAll", "()Z"⟩, 8) := ⟨⟨by decide +kernel, by decide +kernel⟩, List.mem_of_getElem? (i := 96) (by decide +kernel), List.mem_of_getElem? (i := 386) (by decide +kernel), List.mem_of_getElem? (i := 387) (by decide +kernel)⟩
theorem lw_p7 : lw_okq (⟨"BetweenThisAndThat$Reader", "readNot", "()Z"⟩, 8) := ⟨⟨by decide +kernel, by decide +kernel⟩, List.mem_of_getElem? (i := 96) (by decide +kernel), List.mem_of_getElem? (i := 390) (by decide +kernel), List.mem_of_getElem? (i := 391) (by decide +kernel)⟩
theorem lw_p8 : lw_okq (⟨"BetweenThisAndThat$Reader", "opens", "()Z"⟩, 8) := ⟨⟨by decide +kernel, by decide +kernel⟩, List.mem_of_getElem? (i := 96) (by decide +kernel), List.mem_of_getElem? (i := 394) (by decide +kernel), List.mem_of_getElem? (i := 395) (by decide +kernel)⟩
theorem lw_p9 : lw_okq (⟨"BetweenThisAndThat$Reader", "readSum", "()Z"⟩, 8) := ⟨⟨by decide +kernel, by decide +kernel⟩, List.mem_of_getElem? (i := 96) (by decide +kernel), List.mem_of_getElem? (i := 402) (by decide +kernel), List.mem_of_getElem? (i := 403) (by decide +kernel)⟩
theorem lw_p10 : lw_okq (⟨"BetweenThisAndThat$Reader", "readTerm", "()Z"⟩, 8) := ⟨⟨by decide +kernel, by decide +kernel⟩, List.mem_of_getElem? (i := 96) (by decide +kernel), List.mem_of_getElem? (i := 406) (by decide +kernel), List.mem_of_getElem? (i := 407) (by decide +kernel)⟩
theorem lw_p11 : lw_okq (⟨"BetweenThisAndThat$Reader", "readOne", "()Z"⟩, 8) := ⟨⟨by decide +kernel, by decide +kernel⟩, List.mem_of_getElem? (i := 96) (by decide +kernel), List.mem_of_getElem? (i := 410) (by decide +kernel), List.mem_of_getElem? (i := 411) (by decide +kernel)⟩
theorem lw_p12 : lw_okq (⟨"BetweenThisAndThat", "isText", "(I)Z"⟩, 13) := ⟨⟨by decide +kernel, by decide +kernel⟩, List.mem_of_getElem? (i := 20) (by decide +kernel), List.mem_of_getElem? (i := 492) (by decide +kernel), List.mem_of_getElem? (i := 493) (by decide +kernel)⟩
theorem lw_p13 : lw_okq (⟨"BetweenThisAndThat", "addSaying", "(IIII)I"⟩, 13) := ⟨⟨by decide +kernel, by decide +kernel⟩, List.mem_of_getElem? (i := 20) (by decide +kernel), List.mem_of_getElem? (i := 500) (by decide +kernel), List.mem_of_getElem? (i := 501) (by decide +kernel)⟩
theorem lw_p14 : lw_okq (⟨"BetweenThisAndThat", "isSaying", "(I)Z"⟩, 13) := ⟨⟨by decide +kernel, by decide +kernel⟩, List.mem_of_getElem? (i := 20) (by decide +kernel), List.mem_of_getElem? (i := 519) (by decide +kernel), List.mem_of_getElem? (i := 520) (by decide +kernel)⟩
theorem lw_p15 : lw_okq (⟨"BetweenThisAndThat$Saying", "middle", "()I"⟩, 5) := ⟨⟨by decide +kernel, by decide +kernel⟩, List.mem_of_getElem? (i := 35) (by decide +kernel), List.mem_of_getElem? (i := 528) (by decide +kernel), List.mem_of_getElem? (i := 529) (by decide +kernel)⟩
def lw_privs_1 : List (MethodName × Nat) := [(⟨"BetweenThisAndThat$Reader", "step", "()V"⟩, 8), (⟨"BetweenThisAndThat$Reader", "takeWord", "()V"⟩, 8), (⟨"BetweenThisAndThat$Reader", "inHand", "(Ljava/lang/String;)Z"⟩, 8), (⟨"BetweenThisAndThat$Reader", "takeNumber", "()V"⟩, 8), (⟨"BetweenThisAndThat$Reader", "readPart", "(I)Z"⟩, 8), (⟨"BetweenThisAndThat$Reader", "readAny", "()Z"⟩, 8), (⟨"BetweenThisAndThat$Reader", "readAll", "()Z"⟩, 8), (⟨"BetweenThisAndThat$Reader", "readNot", "()Z"⟩, 8), (⟨"BetweenThisAndThat$Reader", "opens", "()Z"⟩, 8), (⟨"BetweenThisAndThat$Reader", "readSum", "()Z"⟩, 8), (⟨"BetweenThisAndThat$Reader", "readTerm", "()Z"⟩, 8), (⟨"BetweenThisAndThat$Reader", "readOne", "()Z"⟩, 8), (⟨"BetweenThisAndThat", "isText", "(I)Z"⟩, 13), (⟨"BetweenThisAndThat", "addSaying", "(IIII)I"⟩, 13), (⟨"BetweenThisAndThat", "isSaying", "(I)Z"⟩, 13), (⟨"BetweenThisAndThat$Saying", "middle", "()I"⟩, 5)]
theorem lw_r1 : ∀ q ∈ lw_privs_1, lw_okq q := List.forall_mem_cons.mpr ⟨lw_p0, List.forall_mem_cons.mpr ⟨lw_p1, List.forall_mem_cons.mpr ⟨lw_p2, List.forall_mem_cons.mpr ⟨lw_p3, List.forall_mem_cons.mpr ⟨lw_p4, List.forall_mem_cons.mpr ⟨lw_p5, List.forall_mem_cons.mpr ⟨lw_p6, List.forall_mem_cons.mpr ⟨lw_p7, List.forall_mem_cons.mpr ⟨lw_p8, List.forall_mem_cons.mpr ⟨lw_p9, List.forall_mem_cons.mpr ⟨lw_p10, List.forall_mem_cons.mpr ⟨lw_p11, List.forall_mem_cons.mpr ⟨lw_p12, List.forall_mem_cons.mpr ⟨lw_p13, List.forall_mem_cons.mpr ⟨lw_p14, List.forall_mem_cons.mpr ⟨lw_p15, fun _ h => absurd h List.not_mem_nil⟩⟩⟩⟩⟩⟩⟩⟩⟩⟩⟩⟩⟩⟩⟩⟩
theorem lw_p16 : lw_okq (⟨"BetweenThisAndThat", "cutSpans", "()Z"⟩, 13) := ⟨⟨by decide +kernel, by decide +kernel⟩, List.mem_of_getElem? (i := 20) (by decide +kernel), List.mem_of_getElem? (i := 553) (by decide +kernel), List.mem_of_getElem? (i := 554) (by decide +kernel)⟩
theorem lw_p17 : lw_okq (⟨"BetweenThisAndThat$Spans", "shorten", "(II)V"⟩, 6) := ⟨⟨by decide +kernel, by decide +kernel⟩, List.mem_of_getElem? (i := 153) (by decide +kernel), List.mem_of_getElem? (i := 561) (by decide +kernel), List.mem_of_getElem? (i := 562) (by decide +kernel)⟩
theorem lw_p18 : lw_okq (⟨"BetweenThisAndThat$Spans", "shortenAllBy", "(I)V"⟩, 6) := ⟨⟨by decide +kernel, by decide +kernel⟩, List.mem_of_getElem? (i := 153) (by decide +kernel), List.mem_of_getElem? (i := 566) (by decide +kernel), List.mem_of_getElem? (i := 567) (by decide +kernel)⟩
theorem lw_p19 : lw_okq (⟨"BetweenThisAndThat", "canWithout", "(I)Z"⟩, 13) := ⟨⟨by decide +kernel, by decide +kernel⟩, List.mem_of_getElem? (i := 20) (by decide +kernel), List.mem_of_getElem? (i := 570) (by decide +kernel), List.mem_of_getElem? (i := 571) (by decide +kernel)⟩
theorem lw_p20 : lw_okq (⟨"BetweenThisAndThat", "widthBySpans", "(LBetweenThisAndThat$Text;)J"⟩, 13) := ⟨⟨by decide +kernel, by decide +kernel⟩, List.mem_of_getElem? (i := 20) (by decide +kernel), List.mem_of_getElem? (i := 630) (by decide +kernel), List.mem_of_getElem? (i := 631) (by decide +kernel)⟩
theorem lw_p21 : lw_okq (⟨"BetweenThisAndThat", "setCorner", "(I)V"⟩, 13) := ⟨⟨by decide +kernel, by decide +kernel⟩, List.mem_of_getElem? (i := 20) (by decide +kernel), List.mem_of_getElem? (i := 634) (by decide +kernel), List.mem_of_getElem? (i := 635) (by decide +kernel)⟩
theorem lw_p22 : lw_okq (⟨"BetweenThisAndThat", "costBySpans", "()I"⟩, 13) := ⟨⟨by decide +kernel, by decide +kernel⟩, List.mem_of_getElem? (i := 20) (by decide +kernel), List.mem_of_getElem? (i := 654) (by decide +kernel), List.mem_of_getElem? (i := 655) (by decide +kernel)⟩
theorem lw_p23 : lw_okq (⟨"BetweenThisAndThat", "inchesFor", "(I)I"⟩, 13) := ⟨⟨by decide +kernel, by decide +kernel⟩, List.mem_of_getElem? (i := 20) (by decide +kernel), List.mem_of_getElem? (i := 662) (by decide +kernel), List.mem_of_getElem? (i := 663) (by decide +kernel)⟩
theorem lw_p24 : lw_okq (⟨"BetweenThisAndThat", "cutBought", "(II)Z"⟩, 13) := ⟨⟨by decide +kernel, by decide +kernel⟩, List.mem_of_getElem? (i := 20) (by decide +kernel), List.mem_of_getElem? (i := 672) (by decide +kernel), List.mem_of_getElem? (i := 673) (by decide +kernel)⟩
theorem lw_p25 : lw_okq (⟨"BetweenThisAndThat", "refusalOfTruth", "(I)I"⟩, 13) := ⟨⟨by decide +kernel, by decide +kernel⟩, List.mem_of_getElem? (i := 20) (by decide +kernel), List.mem_of_getElem? (i := 707) (by decide +kernel), List.mem_of_getElem? (i := 708) (by decide +kernel)⟩
theorem lw_p26 : lw_okq (⟨"BetweenThisAndThat", "drawRow", "(I)V"⟩, 13) := ⟨⟨by decide +kernel, by decide +kernel⟩, List.mem_of_getElem? (i := 20) (by decide +kernel), List.mem_of_getElem? (i := 757) (by decide +kernel), List.mem_of_getElem? (i := 758) (by decide +kernel)⟩
theorem lw_p27 : lw_okq (⟨"BetweenThisAndThat", "rowMeetsLaw", "()Z"⟩, 13) := ⟨⟨by decide +kernel, by decide +kernel⟩, List.mem_of_getElem? (i := 20) (by decide +kernel), List.mem_of_getElem? (i := 763) (by decide +kernel), List.mem_of_getElem? (i := 764) (by decide +kernel)⟩
theorem lw_p28 : lw_okq (⟨"BetweenThisAndThatModel", "next", "()V"⟩, 38) := ⟨⟨by decide +kernel, by decide +kernel⟩, List.mem_of_getElem? (i := 815) (by decide +kernel), List.mem_of_getElem? (i := 825) (by decide +kernel), List.mem_of_getElem? (i := 826) (by decide +kernel)⟩
theorem lw_p29 : lw_okq (⟨"BetweenThisAndThatModel", "wordFrom", "(II)I"⟩, 38) := ⟨⟨by decide +kernel, by decide +kernel⟩, List.mem_of_getElem? (i := 815) (by decide +kernel), List.mem_of_getElem? (i := 832) (by decide +kernel), List.mem_of_getElem? (i := 833) (by decide +kernel)⟩
theorem lw_p30 : lw_okq (⟨"BetweenThisAndThatModel", "eRead", "()Z"⟩, 38) := ⟨⟨by decide +kernel, by decide +kernel⟩, List.mem_of_getElem? (i := 815) (by decide +kernel), List.mem_of_getElem? (i := 836) (by decide +kernel), List.mem_of_getElem? (i := 837) (by decide +kernel)⟩
theorem lw_p31 : lw_okq (⟨"BetweenThisAndThatModel", "puts", "(I)V"⟩, 38) := ⟨⟨by decide +kernel, by decide +kernel⟩, List.mem_of_getElem? (i := 815) (by decide +kernel), List.mem_of_getElem? (i := 841) (by decide +kernel), List.mem_of_getElem? (i := 842) (by decide +kernel)⟩
def lw_privs_2 : List (MethodName × Nat) := [(⟨"BetweenThisAndThat", "cutSpans", "()Z"⟩, 13), (⟨"BetweenThisAndThat$Spans", "shorten", "(II)V"⟩, 6), (⟨"BetweenThisAndThat$Spans", "shortenAllBy", "(I)V"⟩, 6), (⟨"BetweenThisAndThat", "canWithout", "(I)Z"⟩, 13), (⟨"BetweenThisAndThat", "widthBySpans", "(LBetweenThisAndThat$Text;)J"⟩, 13), (⟨"BetweenThisAndThat", "setCorner", "(I)V"⟩, 13), (⟨"BetweenThisAndThat", "costBySpans", "()I"⟩, 13), (⟨"BetweenThisAndThat", "inchesFor", "(I)I"⟩, 13), (⟨"BetweenThisAndThat", "cutBought", "(II)Z"⟩, 13), (⟨"BetweenThisAndThat", "refusalOfTruth", "(I)I"⟩, 13), (⟨"BetweenThisAndThat", "drawRow", "(I)V"⟩, 13), (⟨"BetweenThisAndThat", "rowMeetsLaw", "()Z"⟩, 13), (⟨"BetweenThisAndThatModel", "next", "()V"⟩, 38), (⟨"BetweenThisAndThatModel", "wordFrom", "(II)I"⟩, 38), (⟨"BetweenThisAndThatModel", "eRead", "()Z"⟩, 38), (⟨"BetweenThisAndThatModel", "puts", "(I)V"⟩, 38)]
theorem lw_r2 : ∀ q ∈ lw_privs_2, lw_okq q := List.forall_mem_cons.mpr ⟨lw_p16, List.forall_mem_cons.mpr ⟨lw_p17, List.forall_mem_cons.mpr ⟨lw_p18, List.forall_mem_cons.mpr ⟨lw_p19, List.forall_mem_cons.mpr ⟨lw_p20, List.forall_mem_cons.mpr ⟨lw_p21, List.forall_mem_cons.mpr ⟨lw_p22, List.forall_mem_cons.mpr ⟨lw_p23, List.forall_mem_cons.mpr ⟨lw_p24, List.forall_mem_cons.mpr ⟨lw_p25, List.forall_mem_cons.mpr ⟨lw_p26, List.forall_mem_cons.mpr ⟨lw_p27, List.forall_mem_cons.mpr ⟨lw_p28, List.forall_mem_cons.mpr ⟨lw_p29, List.forall_mem_cons.mpr ⟨lw_p30, List.forall_mem_cons.mpr ⟨lw_p31, fun _ h => absurd h List.not_mem_nil⟩⟩⟩⟩⟩⟩⟩⟩⟩⟩⟩⟩⟩⟩⟩⟩
theorem lw_p32 : lw_okq (⟨"BetweenThisAndThatModel", "unwinds", "(I)V"⟩, 38) := ⟨⟨by decide +kernel, by decide +kernel⟩, List.mem_of_getElem? (i := 815) (by decide +kernel), List.mem_of_getElem? (i := 845) (by decide +kernel), List.mem_of_getElem? (i := 846) (by decide +kernel)⟩
theorem lw_p33 : lw_okq (⟨"BetweenThisAndThatModel", "opensOne", "(I)Z"⟩, 38) := ⟨⟨by decide +kernel, by decide +kernel⟩, List.mem_of_getElem? (i := 815) (by decide +kernel), List.mem_of_getElem? (i := 852) (by decide +kernel), List.mem_of_getElem? (i := 853) (by decide +kernel)⟩
theorem lw_p34 : lw_okq (⟨"BetweenThisAndThatModel", "holds", "(I)V"⟩, 38) := ⟨⟨by decide +kernel, by decide +kernel⟩, List.mem_of_getElem? (i := 815) (by decide +kernel), List.mem_of_getElem? (i := 856) (by decide +kernel), List.mem_of_getElem? (i := 857) (by decide +kernel)⟩
theorem lw_p35 : lw_okq (⟨"BetweenThisAndThatModel", "signOf", "()I"⟩, 38) := ⟨⟨by decide +kernel, by decide +kernel⟩, List.mem_of_getElem? (i := 815) (by decide +kernel), List.mem_of_getElem? (i := 860) (by decide +kernel), List.mem_of_getElem? (i := 861) (by decide +kernel)⟩
theorem lw_p36 : lw_okq (⟨"BetweenThisAndThatModel", "between", "(I)Z"⟩, 38) := ⟨⟨by decide +kernel, by decide +kernel⟩, List.mem_of_getElem? (i := 815) (by decide +kernel), List.mem_of_getElem? (i := 864) (by decide +kernel), List.mem_of_getElem? (i := 865) (by decide +kernel)⟩
theorem lw_p37 : lw_okq (⟨"BetweenThisAndThatModel", "isSaying", "(I)Z"⟩, 38) := ⟨⟨by decide +kernel, by decide +kernel⟩, List.mem_of_getElem? (i := 815) (by decide +kernel), List.mem_of_getElem? (i := 1018) (by decide +kernel), List.mem_of_getElem? (i := 1019) (by decide +kernel)⟩
theorem lw_p38 : lw_okq (⟨"BetweenThisAndThatModel", "fromOf", "(I)I"⟩, 38) := ⟨⟨by decide +kernel, by decide +kernel⟩, List.mem_of_getElem? (i := 815) (by decide +kernel), List.mem_of_getElem? (i := 1022) (by decide +kernel), List.mem_of_getElem? (i := 1023) (by decide +kernel)⟩
theorem lw_p39 : lw_okq (⟨"BetweenThisAndThatModel", "isExact", "(I)Z"⟩, 38) := ⟨⟨by decide +kernel, by decide +kernel⟩, List.mem_of_getElem? (i := 815) (by decide +kernel), List.mem_of_getElem? (i := 1026) (by decide +kernel), List.mem_of_getElem? (i := 1027) (by decide +kernel)⟩
theorem lw_p40 : lw_okq (⟨"BetweenThisAndThatModel", "middle", "(I)I"⟩, 38) := ⟨⟨by decide +kernel, by decide +kernel⟩, List.mem_of_getElem? (i := 815) (by decide +kernel), List.mem_of_getElem? (i := 1030) (by decide +kernel), List.mem_of_getElem? (i := 1031) (by decide +kernel)⟩
theorem lw_p41 : lw_okq (⟨"BetweenThisAndThatModel", "upTo", "(I)I"⟩, 38) := ⟨⟨by decide +kernel, by decide +kernel⟩, List.mem_of_getElem? (i := 815) (by decide +kernel), List.mem_of_getElem? (i := 1037) (by decide +kernel), List.mem_of_getElem? (i := 1038) (by decide +kernel)⟩
theorem lw_p42 : lw_okq (⟨"BetweenThisAndThatModel", "canNow", "()Z"⟩, 38) := ⟨⟨by decide +kernel, by decide +kernel⟩, List.mem_of_getElem? (i := 815) (by decide +kernel), List.mem_of_getElem? (i := 1053) (by decide +kernel), List.mem_of_getElem? (i := 1054) (by decide +kernel)⟩
theorem lw_p43 : lw_okq (⟨"BetweenThisAndThatModel", "leaves", "(I)V"⟩, 38) := ⟨⟨by decide +kernel, by decide +kernel⟩, List.mem_of_getElem? (i := 815) (by decide +kernel), List.mem_of_getElem? (i := 1057) (by decide +kernel), List.mem_of_getElem? (i := 1058) (by decide +kernel)⟩
theorem lw_p44 : lw_okq (⟨"BetweenThisAndThatModel", "canBe", "(I)Z"⟩, 38) := ⟨⟨by decide +kernel, by decide +kernel⟩, List.mem_of_getElem? (i := 815) (by decide +kernel), List.mem_of_getElem? (i := 1061) (by decide +kernel), List.mem_of_getElem? (i := 1062) (by decide +kernel)⟩
theorem lw_p45 : lw_okq (⟨"BetweenThisAndThatModel", "cuts", "(III)V"⟩, 38) := ⟨⟨by decide +kernel, by decide +kernel⟩, List.mem_of_getElem? (i := 815) (by decide +kernel), List.mem_of_getElem? (i := 1065) (by decide +kernel), List.mem_of_getElem? (i := 1066) (by decide +kernel)⟩
theorem lw_p46 : lw_okq (⟨"BetweenThisAndThatModel", "low", "(I)I"⟩, 38) := ⟨⟨by decide +kernel, by decide +kernel⟩, List.mem_of_getElem? (i := 815) (by decide +kernel), List.mem_of_getElem? (i := 1073) (by decide +kernel), List.mem_of_getElem? (i := 1074) (by decide +kernel)⟩
theorem lw_p47 : lw_okq (⟨"BetweenThisAndThatModel", "high", "(I)I"⟩, 38) := ⟨⟨by decide +kernel, by decide +kernel⟩, List.mem_of_getElem? (i := 815) (by decide +kernel), List.mem_of_getElem? (i := 1077) (by decide +kernel), List.mem_of_getElem? (i := 1078) (by decide +kernel)⟩
def lw_privs_3 : List (MethodName × Nat) := [(⟨"BetweenThisAndThatModel", "unwinds", "(I)V"⟩, 38), (⟨"BetweenThisAndThatModel", "opensOne", "(I)Z"⟩, 38), (⟨"BetweenThisAndThatModel", "holds", "(I)V"⟩, 38), (⟨"BetweenThisAndThatModel", "signOf", "()I"⟩, 38), (⟨"BetweenThisAndThatModel", "between", "(I)Z"⟩, 38), (⟨"BetweenThisAndThatModel", "isSaying", "(I)Z"⟩, 38), (⟨"BetweenThisAndThatModel", "fromOf", "(I)I"⟩, 38), (⟨"BetweenThisAndThatModel", "isExact", "(I)Z"⟩, 38), (⟨"BetweenThisAndThatModel", "middle", "(I)I"⟩, 38), (⟨"BetweenThisAndThatModel", "upTo", "(I)I"⟩, 38), (⟨"BetweenThisAndThatModel", "canNow", "()Z"⟩, 38), (⟨"BetweenThisAndThatModel", "leaves", "(I)V"⟩, 38), (⟨"BetweenThisAndThatModel", "canBe", "(I)Z"⟩, 38), (⟨"BetweenThisAndThatModel", "cuts", "(III)V"⟩, 38), (⟨"BetweenThisAndThatModel", "low", "(I)I"⟩, 38), (⟨"BetweenThisAndThatModel", "high", "(I)I"⟩, 38)]
theorem lw_r3 : ∀ q ∈ lw_privs_3, lw_okq q := List.forall_mem_cons.mpr ⟨lw_p32, List.forall_mem_cons.mpr ⟨lw_p33, List.forall_mem_cons.mpr ⟨lw_p34, List.forall_mem_cons.mpr ⟨lw_p35, List.forall_mem_cons.mpr ⟨lw_p36, List.forall_mem_cons.mpr ⟨lw_p37, List.forall_mem_cons.mpr ⟨lw_p38, List.forall_mem_cons.mpr ⟨lw_p39, List.forall_mem_cons.mpr ⟨lw_p40, List.forall_mem_cons.mpr ⟨lw_p41, List.forall_mem_cons.mpr ⟨lw_p42, List.forall_mem_cons.mpr ⟨lw_p43, List.forall_mem_cons.mpr ⟨lw_p44, List.forall_mem_cons.mpr ⟨lw_p45, List.forall_mem_cons.mpr ⟨lw_p46, List.forall_mem_cons.mpr ⟨lw_p47, fun _ h => absurd h List.not_mem_nil⟩⟩⟩⟩⟩⟩⟩⟩⟩⟩⟩⟩⟩⟩⟩⟩
theorem lw_p48 : lw_okq (⟨"BetweenThisAndThatModel", "clash", "(II)Z"⟩, 38) := ⟨⟨by decide +kernel, by decide +kernel⟩, List.mem_of_getElem? (i := 815) (by decide +kernel), List.mem_of_getElem? (i := 1090) (by decide +kernel), List.mem_of_getElem? (i := 1091) (by decide +kernel)⟩
theorem lw_p49 : lw_okq (⟨"BetweenThisAndThatModel", "isOfTexts", "(I)Z"⟩, 38) := ⟨⟨by decide +kernel, by decide +kernel⟩, List.mem_of_getElem? (i := 815) (by decide +kernel), List.mem_of_getElem? (i := 1109) (by decide +kernel), List.mem_of_getElem? (i := 1110) (by decide +kernel)⟩
theorem lw_p50 : lw_okq (⟨"BetweenThisAndThatModel", "reckons", "(I)V"⟩, 38) := ⟨⟨by decide +kernel, by decide +kernel⟩, List.mem_of_getElem? (i := 815) (by decide +kernel), List.mem_of_getElem? (i := 1114) (by decide +kernel), List.mem_of_getElem? (i := 1115) (by decide +kernel)⟩
theorem lw_p51 : lw_okq (⟨"BetweenThisAndThatModel", "saysBy", "(II)I"⟩, 38) := ⟨⟨by decide +kernel, by decide +kernel⟩, List.mem_of_getElem? (i := 815) (by decide +kernel), List.mem_of_getElem? (i := 1118) (by decide +kernel), List.mem_of_getElem? (i := 1119) (by decide +kernel)⟩
theorem lw_p52 : lw_okq (⟨"BetweenThisAndThatModel", "says", "(I)I"⟩, 38) := ⟨⟨by decide +kernel, by decide +kernel⟩, List.mem_of_getElem? (i := 815) (by decide +kernel), List.mem_of_getElem? (i := 1122) (by decide +kernel), List.mem_of_getElem? (i := 1123) (by decide +kernel)⟩
theorem lw_p53 : lw_okq (⟨"BetweenThisAndThatModel", "inchNow", "()I"⟩, 38) := ⟨⟨by decide +kernel, by decide +kernel⟩, List.mem_of_getElem? (i := 815) (by decide +kernel), List.mem_of_getElem? (i := 1133) (by decide +kernel), List.mem_of_getElem? (i := 1134) (by decide +kernel)⟩
theorem lw_p54 : lw_okq (⟨"BetweenThisAndThatModel", "buys", "(I)Z"⟩, 38) := ⟨⟨by decide +kernel, by decide +kernel⟩, List.mem_of_getElem? (i := 815) (by decide +kernel), List.mem_of_getElem? (i := 1141) (by decide +kernel), List.mem_of_getElem? (i := 1142) (by decide +kernel)⟩
theorem lw_p55 : lw_okq (⟨"BetweenThisAndThatModel", "width", "(I)J"⟩, 38) := ⟨⟨by decide +kernel, by decide +kernel⟩, List.mem_of_getElem? (i := 815) (by decide +kernel), List.mem_of_getElem? (i := 1145) (by decide +kernel), List.mem_of_getElem? (i := 1146) (by decide +kernel)⟩
theorem lw_p56 : lw_okq (⟨"BetweenThisAndThatModel", "rowDigits", "(I)I"⟩, 38) := ⟨⟨by decide +kernel, by decide +kernel⟩, List.mem_of_getElem? (i := 815) (by decide +kernel), List.mem_of_getElem? (i := 1149) (by decide +kernel), List.mem_of_getElem? (i := 1150) (by decide +kernel)⟩
theorem lw_p57 : lw_okq (⟨"BetweenThisAndThatModel", "nextRow", "(I)Z"⟩, 38) := ⟨⟨by decide +kernel, by decide +kernel⟩, List.mem_of_getElem? (i := 815) (by decide +kernel), List.mem_of_getElem? (i := 1153) (by decide +kernel), List.mem_of_getElem? (i := 1154) (by decide +kernel)⟩
theorem lw_p58 : lw_okq (⟨"BetweenThisAndThatModel", "sheetWrong", "(I)I"⟩, 38) := ⟨⟨by decide +kernel, by decide +kernel⟩, List.mem_of_getElem? (i := 815) (by decide +kernel), List.mem_of_getElem? (i := 1180) (by decide +kernel), List.mem_of_getElem? (i := 1181) (by decide +kernel)⟩
theorem lw_p59 : lw_okq (⟨"BetweenThisAndThatModel", "names", "(I)V"⟩, 38) := ⟨⟨by decide +kernel, by decide +kernel⟩, List.mem_of_getElem? (i := 815) (by decide +kernel), List.mem_of_getElem? (i := 1196) (by decide +kernel), List.mem_of_getElem? (i := 1197) (by decide +kernel)⟩
theorem lw_p60 : lw_okq (⟨"BetweenThisAndThatModel", "draws", "(I)V"⟩, 38) := ⟨⟨by decide +kernel, by decide +kernel⟩, List.mem_of_getElem? (i := 815) (by decide +kernel), List.mem_of_getElem? (i := 1213) (by decide +kernel), List.mem_of_getElem? (i := 1214) (by decide +kernel)⟩
def lw_privs_4 : List (MethodName × Nat) := [(⟨"BetweenThisAndThatModel", "clash", "(II)Z"⟩, 38), (⟨"BetweenThisAndThatModel", "isOfTexts", "(I)Z"⟩, 38), (⟨"BetweenThisAndThatModel", "reckons", "(I)V"⟩, 38), (⟨"BetweenThisAndThatModel", "saysBy", "(II)I"⟩, 38), (⟨"BetweenThisAndThatModel", "says", "(I)I"⟩, 38), (⟨"BetweenThisAndThatModel", "inchNow", "()I"⟩, 38), (⟨"BetweenThisAndThatModel", "buys", "(I)Z"⟩, 38), (⟨"BetweenThisAndThatModel", "width", "(I)J"⟩, 38), (⟨"BetweenThisAndThatModel", "rowDigits", "(I)I"⟩, 38), (⟨"BetweenThisAndThatModel", "nextRow", "(I)Z"⟩, 38), (⟨"BetweenThisAndThatModel", "sheetWrong", "(I)I"⟩, 38), (⟨"BetweenThisAndThatModel", "names", "(I)V"⟩, 38), (⟨"BetweenThisAndThatModel", "draws", "(I)V"⟩, 38)]
theorem lw_r4 : ∀ q ∈ lw_privs_4, lw_okq q := List.forall_mem_cons.mpr ⟨lw_p48, List.forall_mem_cons.mpr ⟨lw_p49, List.forall_mem_cons.mpr ⟨lw_p50, List.forall_mem_cons.mpr ⟨lw_p51, List.forall_mem_cons.mpr ⟨lw_p52, List.forall_mem_cons.mpr ⟨lw_p53, List.forall_mem_cons.mpr ⟨lw_p54, List.forall_mem_cons.mpr ⟨lw_p55, List.forall_mem_cons.mpr ⟨lw_p56, List.forall_mem_cons.mpr ⟨lw_p57, List.forall_mem_cons.mpr ⟨lw_p58, List.forall_mem_cons.mpr ⟨lw_p59, List.forall_mem_cons.mpr ⟨lw_p60, fun _ h => absurd h List.not_mem_nil⟩⟩⟩⟩⟩⟩⟩⟩⟩⟩⟩⟩⟩
def lw_privs : List (MethodName × Nat) := lw_privs_1 ++ (lw_privs_2 ++ (lw_privs_3 ++ (lw_privs_4)))
def lw_tbl : List Cond := k2_sels lw_privs ++ tables_1
theorem lw_privs_ok : ∀ q ∈ lw_privs, lw_okq q := by
  show ∀ q ∈ lw_privs_1 ++ (lw_privs_2 ++ (lw_privs_3 ++ (lw_privs_4))), lw_okq q
  exact List.forall_mem_append.mpr ⟨lw_r1, List.forall_mem_append.mpr ⟨lw_r2, List.forall_mem_append.mpr ⟨lw_r3, lw_r4⟩⟩⟩
def RX0 : String := "BetweenThisAndThat$Link"
def TX0 : u_T := fun k => match k with
  | 0 => ("BetweenThisAndThat$Link", "start", "I", false)
  | 1 => ("BetweenThisAndThat$Link", "goal", "I", false)
  | 2 => ("BetweenThisAndThat$Link", "low", "I", false)
  | _ => ("BetweenThisAndThat$Link", "high", "I", false)
def tyX0 : Nat → FieldType := fun k => match k with
  | 0 => .int
  | 1 => .int
  | 2 => .int
  | _ => .int
theorem nmX0 : ∀ a, a < 4 → ∀ b, b < 4 → a ≠ b → (TX0 a).2.1 ≠ (TX0 b).2.1 := by decide +kernel
theorem tyX0_ok : ∀ k, k < 4 → parseFieldDescriptor (TX0 k).2.2.1 = some (tyX0 k) := by decide +kernel
def RX1 : String := "BetweenThisAndThat$Reader"
def TX1 : u_T := fun k => match k with
  | 0 => ("BetweenThisAndThat$Reader", "tape", "[I", true)
  | 1 => ("BetweenThisAndThat$Reader", "size", "I", false)
  | 2 => ("BetweenThisAndThat$Reader", "draft", "LBetweenThisAndThat$Text;", true)
  | 3 => ("BetweenThisAndThat$Reader", "at", "I", false)
  | 4 => ("BetweenThisAndThat$Reader", "next", "I", false)
  | 5 => ("BetweenThisAndThat$Reader", "token", "I", false)
  | 6 => ("BetweenThisAndThat$Reader", "value", "I", false)
  | _ => ("BetweenThisAndThat$Reader", "open", "I", false)
def tyX1 : Nat → FieldType := fun k => match k with
  | 0 => .array .int
  | 1 => .int
  | 2 => .object "BetweenThisAndThat$Text"
  | 3 => .int
  | 4 => .int
  | 5 => .int
  | 6 => .int
  | _ => .int
theorem nmX1 : ∀ a, a < 8 → ∀ b, b < 8 → a ≠ b → (TX1 a).2.1 ≠ (TX1 b).2.1 := by decide +kernel
theorem tyX1_ok : ∀ k, k < 8 → parseFieldDescriptor (TX1 k).2.2.1 = some (tyX1 k) := by decide +kernel
def RX2 : String := "BetweenThisAndThat$Saying"
def TX2 : u_T := fun k => match k with
  | 0 => ("BetweenThisAndThat$Saying", "kind", "I", false)
  | 1 => ("BetweenThisAndThat$Saying", "more", "I", false)
  | 2 => ("BetweenThisAndThat$Saying", "of", "I", false)
  | 3 => ("BetweenThisAndThat$Saying", "low", "I", false)
  | _ => ("BetweenThisAndThat$Saying", "high", "I", false)
def tyX2 : Nat → FieldType := fun k => match k with
  | 0 => .int
  | 1 => .int
  | 2 => .int
  | 3 => .int
  | _ => .int
theorem nmX2 : ∀ a, a < 5 → ∀ b, b < 5 → a ≠ b → (TX2 a).2.1 ≠ (TX2 b).2.1 := by decide +kernel
theorem tyX2_ok : ∀ k, k < 5 → parseFieldDescriptor (TX2 k).2.2.1 = some (tyX2 k) := by decide +kernel
def RX3 : String := "BetweenThisAndThat$Sheet"
def TX3 : u_T := fun k => match k with
  | 0 => ("BetweenThisAndThat$Sheet", "cells", "[I", true)
  | 1 => ("BetweenThisAndThat$Sheet", "sort", "I", false)
  | _ => ("BetweenThisAndThat$Sheet", "size", "I", false)
def tyX3 : Nat → FieldType := fun k => match k with
  | 0 => .array .int
  | 1 => .int
  | _ => .int
theorem nmX3 : ∀ a, a < 3 → ∀ b, b < 3 → a ≠ b → (TX3 a).2.1 ≠ (TX3 b).2.1 := by decide +kernel
theorem tyX3_ok : ∀ k, k < 3 → parseFieldDescriptor (TX3 k).2.2.1 = some (tyX3 k) := by decide +kernel
def RX4 : String := "BetweenThisAndThat$Spans"
def TX4 : u_T := fun k => match k with
  | 0 => ("BetweenThisAndThat$Spans", "begin", "[I", true)
  | 1 => ("BetweenThisAndThat$Spans", "end", "[I", true)
  | 2 => ("BetweenThisAndThat$Spans", "least", "[I", true)
  | 3 => ("BetweenThisAndThat$Spans", "most", "[I", true)
  | 4 => ("BetweenThisAndThat$Spans", "ahead", "[I", true)
  | _ => ("BetweenThisAndThat$Spans", "linksCan", "Z", false)
def tyX4 : Nat → FieldType := fun k => match k with
  | 0 => .array .int
  | 1 => .array .int
  | 2 => .array .int
  | 3 => .array .int
  | 4 => .array .int
  | _ => .boolean
theorem nmX4 : ∀ a, a < 6 → ∀ b, b < 6 → a ≠ b → (TX4 a).2.1 ≠ (TX4 b).2.1 := by decide +kernel
theorem tyX4_ok : ∀ k, k < 6 → parseFieldDescriptor (TX4 k).2.2.1 = some (tyX4 k) := by decide +kernel
def RX5 : String := "BetweenThisAndThat$Text"
def TX5 : u_T := fun k => match k with
  | 0 => ("BetweenThisAndThat$Text", "code", "[I", true)
  | 1 => ("BetweenThisAndThat$Text", "size", "I", false)
  | 2 => ("BetweenThisAndThat$Text", "ends", "[I", true)
  | _ => ("BetweenThisAndThat$Text", "named", "I", false)
def tyX5 : Nat → FieldType := fun k => match k with
  | 0 => .array .int
  | 1 => .int
  | 2 => .array .int
  | _ => .int
theorem nmX5 : ∀ a, a < 4 → ∀ b, b < 4 → a ≠ b → (TX5 a).2.1 ≠ (TX5 b).2.1 := by decide +kernel
theorem tyX5_ok : ∀ k, k < 4 → parseFieldDescriptor (TX5 k).2.2.1 = some (tyX5 k) := by decide +kernel
def RX6 : String := "BetweenThisAndThat$Told"
def TX6 : u_T := fun k => match k with
  | 0 => ("BetweenThisAndThat$Told", "sayings", "[LBetweenThisAndThat$Saying;", true)
  | 1 => ("BetweenThisAndThat$Told", "sayingCount", "I", false)
  | 2 => ("BetweenThisAndThat$Told", "linkCount", "I", false)
  | 3 => ("BetweenThisAndThat$Told", "year", "I", false)
  | _ => ("BetweenThisAndThat$Told", "law", "I", false)
def tyX6 : Nat → FieldType := fun k => match k with
  | 0 => .array (.object "BetweenThisAndThat$Saying")
  | 1 => .int
  | 2 => .int
  | 3 => .int
  | _ => .int
theorem nmX6 : ∀ a, a < 5 → ∀ b, b < 5 → a ≠ b → (TX6 a).2.1 ≠ (TX6 b).2.1 := by decide +kernel
theorem tyX6_ok : ∀ k, k < 5 → parseFieldDescriptor (TX6 k).2.2.1 = some (tyX6 k) := by decide +kernel
def RX7 : String := "BetweenThisAndThat"
def TX7 : u_T := fun k => match k with
  | 0 => ("BetweenThisAndThat", "now", "LBetweenThisAndThat$Told;", true)
  | 1 => ("BetweenThisAndThat", "kept", "LBetweenThisAndThat$Told;", true)
  | 2 => ("BetweenThisAndThat", "hasImage", "Z", false)
  | 3 => ("BetweenThisAndThat", "links", "[LBetweenThisAndThat$Link;", true)
  | 4 => ("BetweenThisAndThat", "texts", "[LBetweenThisAndThat$Text;", true)
  | 5 => ("BetweenThisAndThat", "textCount", "I", false)
  | 6 => ("BetweenThisAndThat", "reader", "LBetweenThisAndThat$Reader;", true)
  | 7 => ("BetweenThisAndThat", "sheets", "[LBetweenThisAndThat$Sheet;", true)
  | 8 => ("BetweenThisAndThat", "spans", "LBetweenThisAndThat$Spans;", true)
  | 9 => ("BetweenThisAndThat", "row", "[I", true)
  | 10 => ("BetweenThisAndThat", "stack", "[I", true)
  | 11 => ("BetweenThisAndThat", "lowest", "I", false)
  | _ => ("BetweenThisAndThat", "highest", "I", false)
def tyX7 : Nat → FieldType := fun k => match k with
  | 0 => .object "BetweenThisAndThat$Told"
  | 1 => .object "BetweenThisAndThat$Told"
  | 2 => .boolean
  | 3 => .array (.object "BetweenThisAndThat$Link")
  | 4 => .array (.object "BetweenThisAndThat$Text")
  | 5 => .int
  | 6 => .object "BetweenThisAndThat$Reader"
  | 7 => .array (.object "BetweenThisAndThat$Sheet")
  | 8 => .object "BetweenThisAndThat$Spans"
  | 9 => .array .int
  | 10 => .array .int
  | 11 => .int
  | _ => .int
theorem nmX7 : ∀ a, a < 13 → ∀ b, b < 13 → a ≠ b → (TX7 a).2.1 ≠ (TX7 b).2.1 := by decide +kernel
theorem tyX7_ok : ∀ k, k < 13 → parseFieldDescriptor (TX7 k).2.2.1 = some (tyX7 k) := by decide +kernel
def RX8 : String := "BetweenThisAndThatModel"
def TX8 : u_T := fun k => match k with
  | 0 => ("BetweenThisAndThatModel", "sayings", "I", false)
  | 1 => ("BetweenThisAndThatModel", "saying", "[I", true)
  | 2 => ("BetweenThisAndThatModel", "links", "I", false)
  | 3 => ("BetweenThisAndThatModel", "link", "[I", true)
  | 4 => ("BetweenThisAndThatModel", "year", "I", false)
  | 5 => ("BetweenThisAndThatModel", "tape", "[I", true)
  | 6 => ("BetweenThisAndThatModel", "taped", "I", false)
  | 7 => ("BetweenThisAndThatModel", "codes", "[I", true)
  | 8 => ("BetweenThisAndThatModel", "starts", "[I", true)
  | 9 => ("BetweenThisAndThatModel", "texts", "I", false)
  | 10 => ("BetweenThisAndThatModel", "rule", "I", false)
  | 11 => ("BetweenThisAndThatModel", "hasImage", "Z", false)
  | 12 => ("BetweenThisAndThatModel", "imageSayings", "I", false)
  | 13 => ("BetweenThisAndThatModel", "imageLinks", "I", false)
  | 14 => ("BetweenThisAndThatModel", "imageYear", "I", false)
  | 15 => ("BetweenThisAndThatModel", "imageRule", "I", false)
  | 16 => ("BetweenThisAndThatModel", "imageSaying", "[I", true)
  | 17 => ("BetweenThisAndThatModel", "sheetSort", "[I", true)
  | 18 => ("BetweenThisAndThatModel", "sheetSize", "[I", true)
  | 19 => ("BetweenThisAndThatModel", "cells", "[I", true)
  | 20 => ("BetweenThisAndThatModel", "law", "[I", true)
  | 21 => ("BetweenThisAndThatModel", "at", "I", false)
  | 22 => ("BetweenThisAndThatModel", "begun", "I", false)
  | 23 => ("BetweenThisAndThatModel", "token", "I", false)
  | 24 => ("BetweenThisAndThatModel", "value", "I", false)
  | 25 => ("BetweenThisAndThatModel", "words", "[I", true)
  | 26 => ("BetweenThisAndThatModel", "held", "[I", true)
  | 27 => ("BetweenThisAndThatModel", "heldMany", "I", false)
  | 28 => ("BetweenThisAndThatModel", "opens", "I", false)
  | 29 => ("BetweenThisAndThatModel", "out", "I", false)
  | 30 => ("BetweenThisAndThatModel", "stack", "[I", true)
  | 31 => ("BetweenThisAndThatModel", "named", "[I", true)
  | 32 => ("BetweenThisAndThatModel", "least", "[I", true)
  | 33 => ("BetweenThisAndThatModel", "most", "[I", true)
  | 34 => ("BetweenThisAndThatModel", "over", "[I", true)
  | 35 => ("BetweenThisAndThatModel", "leastTold", "J", false)
  | 36 => ("BetweenThisAndThatModel", "mostTold", "J", false)
  | _ => ("BetweenThisAndThatModel", "row", "[I", true)
def tyX8 : Nat → FieldType := fun k => match k with
  | 0 => .int
  | 1 => .array .int
  | 2 => .int
  | 3 => .array .int
  | 4 => .int
  | 5 => .array .int
  | 6 => .int
  | 7 => .array .int
  | 8 => .array .int
  | 9 => .int
  | 10 => .int
  | 11 => .boolean
  | 12 => .int
  | 13 => .int
  | 14 => .int
  | 15 => .int
  | 16 => .array .int
  | 17 => .array .int
  | 18 => .array .int
  | 19 => .array .int
  | 20 => .array .int
  | 21 => .int
  | 22 => .int
  | 23 => .int
  | 24 => .int
  | 25 => .array .int
  | 26 => .array .int
  | 27 => .int
  | 28 => .int
  | 29 => .int
  | 30 => .array .int
  | 31 => .array .int
  | 32 => .array .int
  | 33 => .array .int
  | 34 => .array .int
  | 35 => .long
  | 36 => .long
  | _ => .array .int
theorem nmX8 : ∀ a, a < 38 → ∀ b, b < 38 → a ≠ b → (TX8 a).2.1 ≠ (TX8 b).2.1 := by decide +kernel
theorem tyX8_ok : ∀ k, k < 38 → parseFieldDescriptor (TX8 k).2.2.1 = some (tyX8 k) := by decide +kernel
abbrev vwCl : List vw_C := [(RX0, TX0, 4), (RX1, TX1, 8), (RX2, TX2, 5), (RX3, TX3, 3), (RX4, TX4, 6), (RX5, TX5, 4), (RX6, TX6, 5), (RX7, TX7, 13), (RX8, TX8, 38)]
