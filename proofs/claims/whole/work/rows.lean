section
/-- a private method of a class that the tables say can be made, by its rows of tables_1 -/
def lw_okq (q : MethodName × Nat) : Prop := (q.1.cls ≠ "java/lang/invoke/MethodHandle" ∧ q.1.cls ≠ "java/lang/invoke/VarHandle") ∧ Cond.instantiable q.1.cls q.2 ∈ tables_1 ∧ Cond.privateMethod q.1 ∈ tables_1 ∧ Cond.instanceMethod q.1 ∈ tables_1
theorem lw_p0 : lw_okq (⟨"BetweenThisAndThat$Reader", "step", "()V"⟩, 8) := ⟨⟨by decide +kernel, by decide +kernel⟩, List.mem_of_getElem? (i := 96) (by decide +kernel), List.mem_of_getElem? (i := 288) (by decide +kernel), List.mem_of_getElem? (i := 289) (by decide +kernel)⟩
theorem lw_p1 : lw_okq (⟨"BetweenThisAndThat$Reader", "takeWord", "()V"⟩, 8) := ⟨⟨by decide +kernel, by decide +kernel⟩, List.mem_of_getElem? (i := 96) (by decide +kernel), List.mem_of_getElem? (i := 295) (by decide +kernel), List.mem_of_getElem? (i := 296) (by decide +kernel)⟩
theorem lw_p2 : lw_okq (⟨"BetweenThisAndThat$Reader", "inHand", "(Ljava/lang/String;)Z"⟩, 8) := ⟨⟨by decide +kernel, by decide +kernel⟩, List.mem_of_getElem? (i := 96) (by decide +kernel), List.mem_of_getElem? (i := 300) (by decide +kernel), List.mem_of_getElem? (i := 301) (by decide +kernel)⟩
theorem lw_p3 : lw_okq (⟨"BetweenThisAndThat$Reader", "takeNumber", "()V"⟩, 8) := ⟨⟨by decide +kernel, by decide +kernel⟩, List.mem_of_getElem? (i := 96) (by decide +kernel), List.mem_of_getElem? (i := 314) (by decide +kernel), List.mem_of_getElem? (i := 315) (by decide +kernel)⟩
theorem lw_p4 : lw_okq (⟨"BetweenThisAndThat$Reader", "readPart", "(I)Z"⟩, 8) := ⟨⟨by decide +kernel, by decide +kernel⟩, List.mem_of_getElem? (i := 96) (by decide +kernel), List.mem_of_getElem? (i := 378) (by decide +kernel), List.mem_of_getElem? (i := 379) (by decide +kernel)⟩
theorem lw_p5 : lw_okq (⟨"BetweenThisAndThat$Reader", "readAny", "()Z"⟩, 8) := ⟨⟨by decide +kernel, by decide +kernel⟩, List.mem_of_getElem? (i := 96) (by decide +kernel), List.mem_of_getElem? (i := 382) (by decide +kernel), List.mem_of_getElem? (i := 383) (by decide +kernel)⟩
theorem lw_p6 : lw_okq (⟨"BetweenThisAndThat$Reader", "readAll", "()Z"⟩, 8) := ⟨⟨by decide +kernel, by decide +kernel⟩, List.mem_of_getElem? (i := 96) (by decide +kernel), List.mem_of_getElem? (i := 386) (by decide +kernel), List.mem_of_getElem? (i := 387) (by decide +kernel)⟩
theorem lw_p7 : lw_okq (⟨"BetweenThisAndThat$Reader", "readNot", "()Z"⟩, 8) := ⟨⟨by decide +kernel, by decide +kernel⟩, List.mem_of_getElem? (i := 96) (by decide +kernel), List.mem_of_getElem? (i := 390) (by decide +kernel), List.mem_of_getElem? (i := 391) (by decide +kernel)⟩
theorem lw_p8 : lw_okq (⟨"BetweenThisAndThat$Reader", "opens", "()Z"⟩, 8) := ⟨⟨by decide +kernel, by decide +kernel⟩, List.mem_of_getElem? (i := 96) (by decide +kernel), List.mem_of_getElem? (i := 394) (by decide +kernel), List.mem_of_getElem? (i := 395) (by decide +kernel)⟩
theorem lw_p9 : lw_okq (⟨"BetweenThisAndThat$Reader", "readSum", "()Z"⟩, 8) := ⟨⟨by decide +kernel, by decide +kernel⟩, List.mem_of_getElem? (i := 96) (by decide +kernel), List.mem_of_getElem? (i := 402) (by decide +kernel), List.mem_of_getElem? (i := 403) (by decide +kernel)⟩
theorem lw_p10 : lw_okq (⟨"BetweenThisAndThat$Reader", "readTerm", "()Z"⟩, 8) := ⟨⟨by decide +kernel, by decide +kernel⟩, List.mem_of_getElem? (i := 96) (by decide +kernel), List.mem_of_getElem? (i := 406) (by decide +kernel), List.mem_of_getElem? (i := 407) (by decide +kernel)⟩
theorem lw_p11 : lw_okq (⟨"BetweenThisAndThat$Reader", "readOne", "()Z"⟩, 8) := ⟨⟨by decide +kernel, by decide +kernel⟩, List.mem_of_getElem? (i := 96) (by decide +kernel), List.mem_of_getElem? (i := 410) (by decide +kernel), List.mem_of_getElem? (i := 411) (by decide +kernel)⟩
theorem lw_p12 : lw_okq (⟨"BetweenThisAndThat", "isText", "(I)Z"⟩, 13) := ⟨⟨by decide +kernel, by decide +kernel⟩, List.mem_of_getElem? (i := 20) (by decide +kernel), List.mem_of_getElem? (i := 492) (by decide +kernel), List.mem_of_getElem? (i := 493) (by decide +kernel)⟩
theorem lw_p13 : lw_okq (⟨"BetweenThisAndThat", "addSaying", "(IIII)I"⟩, 13) := ⟨⟨by decide +kernel, by decide +kernel⟩, List.mem_of_getElem? (i := 20) (by decide +kernel), List.mem_of_getElem? (i := 500) (by decide +kernel), List.mem_of_getElem? (i := 501) (by decide +kernel)⟩
theorem lw_p14 : lw_okq (⟨"BetweenThisAndThat", "isSaying", "(I)Z"⟩, 13) := ⟨⟨by decide +kernel, by decide +kernel⟩, List.mem_of_getElem? (i := 20) (by decide +kernel), List.mem_of_getElem? (i := 519) (by decide +kernel), List.mem_of_getElem? (i := 520) (by decide +kernel)⟩
theorem lw_p15 : lw_okq (⟨"BetweenThisAndThat$Saying", "middle", "()I"⟩, 5) := ⟨⟨by decide +kernel, by decide +kernel⟩, List.mem_of_getElem? (i := 35) (by decide +kernel), List.mem_of_getElem? (i := 528) (by decide +kernel), List.mem_of_getElem? (i := 529) (by decide +kernel)⟩
def lw_privs_1 : List (MethodName × Nat) := [(⟨"BetweenThisAndThat$Reader", "step", "()V"⟩, 8), (⟨"BetweenThisAndThat$Reader", "takeWord", "()V"⟩, 8), (⟨"BetweenThisAndThat$Reader", "inHand", "(Ljava/lang/String;)Z"⟩, 8), (⟨"BetweenThisAndThat$Reader", "takeNumber", "()V"⟩, 8), (⟨"BetweenThisAndThat$Reader", "readPart", "(I)Z"⟩, 8), (⟨"BetweenThisAndThat$Reader", "readAny", "()Z"⟩, 8), (⟨"BetweenThisAndThat$Reader", "readAll", "()Z"⟩, 8), (⟨"BetweenThisAndThat$Reader", "readNot", "()Z"⟩, 8), (⟨"BetweenThisAndThat$Reader", "opens", "()Z"⟩, 8), (⟨"BetweenThisAndThat$Reader", "readSum", "()Z"⟩, 8), (⟨"BetweenThisAndThat$Reader", "readTerm", "()Z"⟩, 8), (⟨"BetweenThisAndThat$Reader", "readOne", "()Z"⟩, 8), (⟨"BetweenThisAndThat", "isText", "(I)Z"⟩, 13), (⟨"BetweenThisAndThat", "addSaying", "(IIII)I"⟩, 13), (⟨"BetweenThisAndThat", "isSaying", "(I)Z"⟩, 13), (⟨"BetweenThisAndThat$Saying", "middle", "()I"⟩, 5)]
theorem lw_r1 : ∀ q ∈ lw_privs_1, lw_okq q := List.forall_mem_cons.mpr ⟨lw_p0, List.forall_mem_cons.mpr ⟨lw_p1, List.forall_mem_cons.mpr ⟨lw_p2, List.forall_mem_cons.mpr ⟨lw_p3, List.forall_mem_cons.mpr ⟨lw_p4, List.forall_mem_cons.mpr ⟨lw_p5, List.forall_mem_cons.mpr ⟨lw_p6, List.forall_mem_cons.mpr ⟨lw_p7, List.forall_mem_cons.mpr ⟨lw_p8, List.forall_mem_cons.mpr ⟨lw_p9, List.forall_mem_cons.mpr ⟨lw_p10, List.forall_mem_cons.mpr ⟨lw_p11, List.forall_mem_cons.mpr ⟨lw_p12, List.forall_mem_cons.mpr ⟨lw_p13, List.forall_mem_cons.mpr ⟨lw_p14, List.forall_mem_cons.mpr ⟨lw_p15, fun _ h => absurd h List.not_mem_nil⟩⟩⟩⟩⟩⟩⟩⟩⟩⟩⟩⟩⟩⟩⟩⟩
theorem lw_p16 : lw_okq (⟨"BetweenThisAndThat", "cutSpans", "()Z"⟩, 13) := ⟨⟨by decide +kernel, by decide +kernel⟩, List.mem_of_getElem? (i := 20) (by decide +kernel), List.mem_of_getElem? (i := 553) (by decide +kernel), List.mem_of_getElem? (i := 554) (by decide +kernel)⟩
theorem lw_p17 : lw_okq (⟨"BetweenThisAndThat$Spans", "shorten", "(II)V"⟩, 6) := ⟨⟨by decide +kernel, by decide +kernel⟩, List.mem_of_getElem? (i := 153) (by decide +kernel), List.mem_of_getElem? (i := 561) (by decide +kernel), List.mem_of_getElem? (i := 562) (by decide +kernel)⟩
theorem lw_p18 : lw_okq (⟨"BetweenThisAndThat$Spans", "shortenAllBy", "(I)V"⟩, 6) := ⟨⟨by decide +kernel, by decide +kernel⟩, List.mem_of_getElem? (i := 153) (by decide +kernel), List.mem_of_getElem? (i := 566) (by decide +kernel), List.mem_of_getElem? (i := 567) (by decide +kernel)⟩
theorem lw_p19 : lw_okq (⟨"BetweenThisAndThat", "canWithout", "(I)Z"⟩, 13) := ⟨⟨by decide +kernel, by decide +kernel⟩, List.mem_of_getElem? (i := 20) (by decide +kernel), List.mem_of_getElem? (i := 570) (by decide +kernel), List.mem_of_getElem? (i := 571) (by decide +kernel)⟩
theorem lw_p20 : lw_okq (⟨"BetweenThisAndThat", "widthBySpans", "(LBetweenThisAndThat$Text;)J"⟩, 13) := ⟨⟨by decide +kernel, by decide +kernel⟩, List.mem_of_getElem? (i := 20) (by decide +kernel), List.mem_of_getElem? (i := 630) (by decide +kernel), List.mem_of_getElem? (i := 631) (by decide +kernel)⟩
theorem lw_p21 : lw_okq (⟨"BetweenThisAndThat", "setCorner", "(I)V"⟩, 13) := ⟨⟨by decide +kernel, by decide +kernel⟩, List.mem_of_getElem? (i := 20) (by decide +kernel), List.mem_of_getElem? (i := 636) (by decide +kernel), List.mem_of_getElem? (i := 637) (by decide +kernel)⟩
theorem lw_p22 : lw_okq (⟨"BetweenThisAndThat", "costBySpans", "()I"⟩, 13) := ⟨⟨by decide +kernel, by decide +kernel⟩, List.mem_of_getElem? (i := 20) (by decide +kernel), List.mem_of_getElem? (i := 656) (by decide +kernel), List.mem_of_getElem? (i := 657) (by decide +kernel)⟩
theorem lw_p23 : lw_okq (⟨"BetweenThisAndThat", "inchesFor", "(I)I"⟩, 13) := ⟨⟨by decide +kernel, by decide +kernel⟩, List.mem_of_getElem? (i := 20) (by decide +kernel), List.mem_of_getElem? (i := 664) (by decide +kernel), List.mem_of_getElem? (i := 665) (by decide +kernel)⟩
theorem lw_p24 : lw_okq (⟨"BetweenThisAndThat", "cutBought", "(II)Z"⟩, 13) := ⟨⟨by decide +kernel, by decide +kernel⟩, List.mem_of_getElem? (i := 20) (by decide +kernel), List.mem_of_getElem? (i := 674) (by decide +kernel), List.mem_of_getElem? (i := 675) (by decide +kernel)⟩
theorem lw_p25 : lw_okq (⟨"BetweenThisAndThat", "refusalOfTruth", "(I)I"⟩, 13) := ⟨⟨by decide +kernel, by decide +kernel⟩, List.mem_of_getElem? (i := 20) (by decide +kernel), List.mem_of_getElem? (i := 709) (by decide +kernel), List.mem_of_getElem? (i := 710) (by decide +kernel)⟩
theorem lw_p26 : lw_okq (⟨"BetweenThisAndThat", "drawRow", "(I)V"⟩, 13) := ⟨⟨by decide +kernel, by decide +kernel⟩, List.mem_of_getElem? (i := 20) (by decide +kernel), List.mem_of_getElem? (i := 759) (by decide +kernel), List.mem_of_getElem? (i := 760) (by decide +kernel)⟩
theorem lw_p27 : lw_okq (⟨"BetweenThisAndThat", "rowMeetsLaw", "()Z"⟩, 13) := ⟨⟨by decide +kernel, by decide +kernel⟩, List.mem_of_getElem? (i := 20) (by decide +kernel), List.mem_of_getElem? (i := 765) (by decide +kernel), List.mem_of_getElem? (i := 766) (by decide +kernel)⟩
theorem lw_p28 : lw_okq (⟨"BetweenThisAndThatModel", "next", "()V"⟩, 38) := ⟨⟨by decide +kernel, by decide +kernel⟩, List.mem_of_getElem? (i := 817) (by decide +kernel), List.mem_of_getElem? (i := 827) (by decide +kernel), List.mem_of_getElem? (i := 828) (by decide +kernel)⟩
theorem lw_p29 : lw_okq (⟨"BetweenThisAndThatModel", "wordFrom", "(II)I"⟩, 38) := ⟨⟨by decide +kernel, by decide +kernel⟩, List.mem_of_getElem? (i := 817) (by decide +kernel), List.mem_of_getElem? (i := 834) (by decide +kernel), List.mem_of_getElem? (i := 835) (by decide +kernel)⟩
theorem lw_p30 : lw_okq (⟨"BetweenThisAndThatModel", "eRead", "()Z"⟩, 38) := ⟨⟨by decide +kernel, by decide +kernel⟩, List.mem_of_getElem? (i := 817) (by decide +kernel), List.mem_of_getElem? (i := 838) (by decide +kernel), List.mem_of_getElem? (i := 839) (by decide +kernel)⟩
theorem lw_p31 : lw_okq (⟨"BetweenThisAndThatModel", "puts", "(I)V"⟩, 38) := ⟨⟨by decide +kernel, by decide +kernel⟩, List.mem_of_getElem? (i := 817) (by decide +kernel), List.mem_of_getElem? (i := 843) (by decide +kernel), List.mem_of_getElem? (i := 844) (by decide +kernel)⟩
def lw_privs_2 : List (MethodName × Nat) := [(⟨"BetweenThisAndThat", "cutSpans", "()Z"⟩, 13), (⟨"BetweenThisAndThat$Spans", "shorten", "(II)V"⟩, 6), (⟨"BetweenThisAndThat$Spans", "shortenAllBy", "(I)V"⟩, 6), (⟨"BetweenThisAndThat", "canWithout", "(I)Z"⟩, 13), (⟨"BetweenThisAndThat", "widthBySpans", "(LBetweenThisAndThat$Text;)J"⟩, 13), (⟨"BetweenThisAndThat", "setCorner", "(I)V"⟩, 13), (⟨"BetweenThisAndThat", "costBySpans", "()I"⟩, 13), (⟨"BetweenThisAndThat", "inchesFor", "(I)I"⟩, 13), (⟨"BetweenThisAndThat", "cutBought", "(II)Z"⟩, 13), (⟨"BetweenThisAndThat", "refusalOfTruth", "(I)I"⟩, 13), (⟨"BetweenThisAndThat", "drawRow", "(I)V"⟩, 13), (⟨"BetweenThisAndThat", "rowMeetsLaw", "()Z"⟩, 13), (⟨"BetweenThisAndThatModel", "next", "()V"⟩, 38), (⟨"BetweenThisAndThatModel", "wordFrom", "(II)I"⟩, 38), (⟨"BetweenThisAndThatModel", "eRead", "()Z"⟩, 38), (⟨"BetweenThisAndThatModel", "puts", "(I)V"⟩, 38)]
theorem lw_r2 : ∀ q ∈ lw_privs_2, lw_okq q := List.forall_mem_cons.mpr ⟨lw_p16, List.forall_mem_cons.mpr ⟨lw_p17, List.forall_mem_cons.mpr ⟨lw_p18, List.forall_mem_cons.mpr ⟨lw_p19, List.forall_mem_cons.mpr ⟨lw_p20, List.forall_mem_cons.mpr ⟨lw_p21, List.forall_mem_cons.mpr ⟨lw_p22, List.forall_mem_cons.mpr ⟨lw_p23, List.forall_mem_cons.mpr ⟨lw_p24, List.forall_mem_cons.mpr ⟨lw_p25, List.forall_mem_cons.mpr ⟨lw_p26, List.forall_mem_cons.mpr ⟨lw_p27, List.forall_mem_cons.mpr ⟨lw_p28, List.forall_mem_cons.mpr ⟨lw_p29, List.forall_mem_cons.mpr ⟨lw_p30, List.forall_mem_cons.mpr ⟨lw_p31, fun _ h => absurd h List.not_mem_nil⟩⟩⟩⟩⟩⟩⟩⟩⟩⟩⟩⟩⟩⟩⟩⟩
theorem lw_p32 : lw_okq (⟨"BetweenThisAndThatModel", "unwinds", "(I)V"⟩, 38) := ⟨⟨by decide +kernel, by decide +kernel⟩, List.mem_of_getElem? (i := 817) (by decide +kernel), List.mem_of_getElem? (i := 847) (by decide +kernel), List.mem_of_getElem? (i := 848) (by decide +kernel)⟩
theorem lw_p33 : lw_okq (⟨"BetweenThisAndThatModel", "opensOne", "(I)Z"⟩, 38) := ⟨⟨by decide +kernel, by decide +kernel⟩, List.mem_of_getElem? (i := 817) (by decide +kernel), List.mem_of_getElem? (i := 854) (by decide +kernel), List.mem_of_getElem? (i := 855) (by decide +kernel)⟩
theorem lw_p34 : lw_okq (⟨"BetweenThisAndThatModel", "holds", "(I)V"⟩, 38) := ⟨⟨by decide +kernel, by decide +kernel⟩, List.mem_of_getElem? (i := 817) (by decide +kernel), List.mem_of_getElem? (i := 858) (by decide +kernel), List.mem_of_getElem? (i := 859) (by decide +kernel)⟩
theorem lw_p35 : lw_okq (⟨"BetweenThisAndThatModel", "signOf", "()I"⟩, 38) := ⟨⟨by decide +kernel, by decide +kernel⟩, List.mem_of_getElem? (i := 817) (by decide +kernel), List.mem_of_getElem? (i := 862) (by decide +kernel), List.mem_of_getElem? (i := 863) (by decide +kernel)⟩
theorem lw_p36 : lw_okq (⟨"BetweenThisAndThatModel", "between", "(I)Z"⟩, 38) := ⟨⟨by decide +kernel, by decide +kernel⟩, List.mem_of_getElem? (i := 817) (by decide +kernel), List.mem_of_getElem? (i := 866) (by decide +kernel), List.mem_of_getElem? (i := 867) (by decide +kernel)⟩
theorem lw_p37 : lw_okq (⟨"BetweenThisAndThatModel", "isSaying", "(I)Z"⟩, 38) := ⟨⟨by decide +kernel, by decide +kernel⟩, List.mem_of_getElem? (i := 817) (by decide +kernel), List.mem_of_getElem? (i := 1020) (by decide +kernel), List.mem_of_getElem? (i := 1021) (by decide +kernel)⟩
theorem lw_p38 : lw_okq (⟨"BetweenThisAndThatModel", "fromOf", "(I)I"⟩, 38) := ⟨⟨by decide +kernel, by decide +kernel⟩, List.mem_of_getElem? (i := 817) (by decide +kernel), List.mem_of_getElem? (i := 1024) (by decide +kernel), List.mem_of_getElem? (i := 1025) (by decide +kernel)⟩
theorem lw_p39 : lw_okq (⟨"BetweenThisAndThatModel", "isExact", "(I)Z"⟩, 38) := ⟨⟨by decide +kernel, by decide +kernel⟩, List.mem_of_getElem? (i := 817) (by decide +kernel), List.mem_of_getElem? (i := 1028) (by decide +kernel), List.mem_of_getElem? (i := 1029) (by decide +kernel)⟩
theorem lw_p40 : lw_okq (⟨"BetweenThisAndThatModel", "middle", "(I)I"⟩, 38) := ⟨⟨by decide +kernel, by decide +kernel⟩, List.mem_of_getElem? (i := 817) (by decide +kernel), List.mem_of_getElem? (i := 1032) (by decide +kernel), List.mem_of_getElem? (i := 1033) (by decide +kernel)⟩
theorem lw_p41 : lw_okq (⟨"BetweenThisAndThatModel", "upTo", "(I)I"⟩, 38) := ⟨⟨by decide +kernel, by decide +kernel⟩, List.mem_of_getElem? (i := 817) (by decide +kernel), List.mem_of_getElem? (i := 1039) (by decide +kernel), List.mem_of_getElem? (i := 1040) (by decide +kernel)⟩
theorem lw_p42 : lw_okq (⟨"BetweenThisAndThatModel", "canNow", "()Z"⟩, 38) := ⟨⟨by decide +kernel, by decide +kernel⟩, List.mem_of_getElem? (i := 817) (by decide +kernel), List.mem_of_getElem? (i := 1055) (by decide +kernel), List.mem_of_getElem? (i := 1056) (by decide +kernel)⟩
theorem lw_p43 : lw_okq (⟨"BetweenThisAndThatModel", "leaves", "(I)V"⟩, 38) := ⟨⟨by decide +kernel, by decide +kernel⟩, List.mem_of_getElem? (i := 817) (by decide +kernel), List.mem_of_getElem? (i := 1059) (by decide +kernel), List.mem_of_getElem? (i := 1060) (by decide +kernel)⟩
theorem lw_p44 : lw_okq (⟨"BetweenThisAndThatModel", "canBe", "(I)Z"⟩, 38) := ⟨⟨by decide +kernel, by decide +kernel⟩, List.mem_of_getElem? (i := 817) (by decide +kernel), List.mem_of_getElem? (i := 1063) (by decide +kernel), List.mem_of_getElem? (i := 1064) (by decide +kernel)⟩
theorem lw_p45 : lw_okq (⟨"BetweenThisAndThatModel", "cuts", "(III)V"⟩, 38) := ⟨⟨by decide +kernel, by decide +kernel⟩, List.mem_of_getElem? (i := 817) (by decide +kernel), List.mem_of_getElem? (i := 1067) (by decide +kernel), List.mem_of_getElem? (i := 1068) (by decide +kernel)⟩
theorem lw_p46 : lw_okq (⟨"BetweenThisAndThatModel", "low", "(I)I"⟩, 38) := ⟨⟨by decide +kernel, by decide +kernel⟩, List.mem_of_getElem? (i := 817) (by decide +kernel), List.mem_of_getElem? (i := 1075) (by decide +kernel), List.mem_of_getElem? (i := 1076) (by decide +kernel)⟩
theorem lw_p47 : lw_okq (⟨"BetweenThisAndThatModel", "high", "(I)I"⟩, 38) := ⟨⟨by decide +kernel, by decide +kernel⟩, List.mem_of_getElem? (i := 817) (by decide +kernel), List.mem_of_getElem? (i := 1079) (by decide +kernel), List.mem_of_getElem? (i := 1080) (by decide +kernel)⟩
def lw_privs_3 : List (MethodName × Nat) := [(⟨"BetweenThisAndThatModel", "unwinds", "(I)V"⟩, 38), (⟨"BetweenThisAndThatModel", "opensOne", "(I)Z"⟩, 38), (⟨"BetweenThisAndThatModel", "holds", "(I)V"⟩, 38), (⟨"BetweenThisAndThatModel", "signOf", "()I"⟩, 38), (⟨"BetweenThisAndThatModel", "between", "(I)Z"⟩, 38), (⟨"BetweenThisAndThatModel", "isSaying", "(I)Z"⟩, 38), (⟨"BetweenThisAndThatModel", "fromOf", "(I)I"⟩, 38), (⟨"BetweenThisAndThatModel", "isExact", "(I)Z"⟩, 38), (⟨"BetweenThisAndThatModel", "middle", "(I)I"⟩, 38), (⟨"BetweenThisAndThatModel", "upTo", "(I)I"⟩, 38), (⟨"BetweenThisAndThatModel", "canNow", "()Z"⟩, 38), (⟨"BetweenThisAndThatModel", "leaves", "(I)V"⟩, 38), (⟨"BetweenThisAndThatModel", "canBe", "(I)Z"⟩, 38), (⟨"BetweenThisAndThatModel", "cuts", "(III)V"⟩, 38), (⟨"BetweenThisAndThatModel", "low", "(I)I"⟩, 38), (⟨"BetweenThisAndThatModel", "high", "(I)I"⟩, 38)]
theorem lw_r3 : ∀ q ∈ lw_privs_3, lw_okq q := List.forall_mem_cons.mpr ⟨lw_p32, List.forall_mem_cons.mpr ⟨lw_p33, List.forall_mem_cons.mpr ⟨lw_p34, List.forall_mem_cons.mpr ⟨lw_p35, List.forall_mem_cons.mpr ⟨lw_p36, List.forall_mem_cons.mpr ⟨lw_p37, List.forall_mem_cons.mpr ⟨lw_p38, List.forall_mem_cons.mpr ⟨lw_p39, List.forall_mem_cons.mpr ⟨lw_p40, List.forall_mem_cons.mpr ⟨lw_p41, List.forall_mem_cons.mpr ⟨lw_p42, List.forall_mem_cons.mpr ⟨lw_p43, List.forall_mem_cons.mpr ⟨lw_p44, List.forall_mem_cons.mpr ⟨lw_p45, List.forall_mem_cons.mpr ⟨lw_p46, List.forall_mem_cons.mpr ⟨lw_p47, fun _ h => absurd h List.not_mem_nil⟩⟩⟩⟩⟩⟩⟩⟩⟩⟩⟩⟩⟩⟩⟩⟩
theorem lw_p48 : lw_okq (⟨"BetweenThisAndThatModel", "clash", "(II)Z"⟩, 38) := ⟨⟨by decide +kernel, by decide +kernel⟩, List.mem_of_getElem? (i := 817) (by decide +kernel), List.mem_of_getElem? (i := 1092) (by decide +kernel), List.mem_of_getElem? (i := 1093) (by decide +kernel)⟩
theorem lw_p49 : lw_okq (⟨"BetweenThisAndThatModel", "isOfTexts", "(I)Z"⟩, 38) := ⟨⟨by decide +kernel, by decide +kernel⟩, List.mem_of_getElem? (i := 817) (by decide +kernel), List.mem_of_getElem? (i := 1111) (by decide +kernel), List.mem_of_getElem? (i := 1112) (by decide +kernel)⟩
theorem lw_p50 : lw_okq (⟨"BetweenThisAndThatModel", "reckons", "(I)V"⟩, 38) := ⟨⟨by decide +kernel, by decide +kernel⟩, List.mem_of_getElem? (i := 817) (by decide +kernel), List.mem_of_getElem? (i := 1116) (by decide +kernel), List.mem_of_getElem? (i := 1117) (by decide +kernel)⟩
theorem lw_p51 : lw_okq (⟨"BetweenThisAndThatModel", "saysBy", "(II)I"⟩, 38) := ⟨⟨by decide +kernel, by decide +kernel⟩, List.mem_of_getElem? (i := 817) (by decide +kernel), List.mem_of_getElem? (i := 1120) (by decide +kernel), List.mem_of_getElem? (i := 1121) (by decide +kernel)⟩
theorem lw_p52 : lw_okq (⟨"BetweenThisAndThatModel", "says", "(I)I"⟩, 38) := ⟨⟨by decide +kernel, by decide +kernel⟩, List.mem_of_getElem? (i := 817) (by decide +kernel), List.mem_of_getElem? (i := 1124) (by decide +kernel), List.mem_of_getElem? (i := 1125) (by decide +kernel)⟩
theorem lw_p53 : lw_okq (⟨"BetweenThisAndThatModel", "inchNow", "()I"⟩, 38) := ⟨⟨by decide +kernel, by decide +kernel⟩, List.mem_of_getElem? (i := 817) (by decide +kernel), List.mem_of_getElem? (i := 1135) (by decide +kernel), List.mem_of_getElem? (i := 1136) (by decide +kernel)⟩
theorem lw_p54 : lw_okq (⟨"BetweenThisAndThatModel", "buys", "(I)Z"⟩, 38) := ⟨⟨by decide +kernel, by decide +kernel⟩, List.mem_of_getElem? (i := 817) (by decide +kernel), List.mem_of_getElem? (i := 1143) (by decide +kernel), List.mem_of_getElem? (i := 1144) (by decide +kernel)⟩
theorem lw_p55 : lw_okq (⟨"BetweenThisAndThatModel", "width", "(I)J"⟩, 38) := ⟨⟨by decide +kernel, by decide +kernel⟩, List.mem_of_getElem? (i := 817) (by decide +kernel), List.mem_of_getElem? (i := 1147) (by decide +kernel), List.mem_of_getElem? (i := 1148) (by decide +kernel)⟩
theorem lw_p56 : lw_okq (⟨"BetweenThisAndThatModel", "rowDigits", "(I)I"⟩, 38) := ⟨⟨by decide +kernel, by decide +kernel⟩, List.mem_of_getElem? (i := 817) (by decide +kernel), List.mem_of_getElem? (i := 1151) (by decide +kernel), List.mem_of_getElem? (i := 1152) (by decide +kernel)⟩
theorem lw_p57 : lw_okq (⟨"BetweenThisAndThatModel", "nextRow", "(I)Z"⟩, 38) := ⟨⟨by decide +kernel, by decide +kernel⟩, List.mem_of_getElem? (i := 817) (by decide +kernel), List.mem_of_getElem? (i := 1155) (by decide +kernel), List.mem_of_getElem? (i := 1156) (by decide +kernel)⟩
theorem lw_p58 : lw_okq (⟨"BetweenThisAndThatModel", "sheetWrong", "(I)I"⟩, 38) := ⟨⟨by decide +kernel, by decide +kernel⟩, List.mem_of_getElem? (i := 817) (by decide +kernel), List.mem_of_getElem? (i := 1182) (by decide +kernel), List.mem_of_getElem? (i := 1183) (by decide +kernel)⟩
theorem lw_p59 : lw_okq (⟨"BetweenThisAndThatModel", "names", "(I)V"⟩, 38) := ⟨⟨by decide +kernel, by decide +kernel⟩, List.mem_of_getElem? (i := 817) (by decide +kernel), List.mem_of_getElem? (i := 1198) (by decide +kernel), List.mem_of_getElem? (i := 1199) (by decide +kernel)⟩
theorem lw_p60 : lw_okq (⟨"BetweenThisAndThatModel", "draws", "(I)V"⟩, 38) := ⟨⟨by decide +kernel, by decide +kernel⟩, List.mem_of_getElem? (i := 817) (by decide +kernel), List.mem_of_getElem? (i := 1215) (by decide +kernel), List.mem_of_getElem? (i := 1216) (by decide +kernel)⟩
def lw_privs_4 : List (MethodName × Nat) := [(⟨"BetweenThisAndThatModel", "clash", "(II)Z"⟩, 38), (⟨"BetweenThisAndThatModel", "isOfTexts", "(I)Z"⟩, 38), (⟨"BetweenThisAndThatModel", "reckons", "(I)V"⟩, 38), (⟨"BetweenThisAndThatModel", "saysBy", "(II)I"⟩, 38), (⟨"BetweenThisAndThatModel", "says", "(I)I"⟩, 38), (⟨"BetweenThisAndThatModel", "inchNow", "()I"⟩, 38), (⟨"BetweenThisAndThatModel", "buys", "(I)Z"⟩, 38), (⟨"BetweenThisAndThatModel", "width", "(I)J"⟩, 38), (⟨"BetweenThisAndThatModel", "rowDigits", "(I)I"⟩, 38), (⟨"BetweenThisAndThatModel", "nextRow", "(I)Z"⟩, 38), (⟨"BetweenThisAndThatModel", "sheetWrong", "(I)I"⟩, 38), (⟨"BetweenThisAndThatModel", "names", "(I)V"⟩, 38), (⟨"BetweenThisAndThatModel", "draws", "(I)V"⟩, 38)]
theorem lw_r4 : ∀ q ∈ lw_privs_4, lw_okq q := List.forall_mem_cons.mpr ⟨lw_p48, List.forall_mem_cons.mpr ⟨lw_p49, List.forall_mem_cons.mpr ⟨lw_p50, List.forall_mem_cons.mpr ⟨lw_p51, List.forall_mem_cons.mpr ⟨lw_p52, List.forall_mem_cons.mpr ⟨lw_p53, List.forall_mem_cons.mpr ⟨lw_p54, List.forall_mem_cons.mpr ⟨lw_p55, List.forall_mem_cons.mpr ⟨lw_p56, List.forall_mem_cons.mpr ⟨lw_p57, List.forall_mem_cons.mpr ⟨lw_p58, List.forall_mem_cons.mpr ⟨lw_p59, List.forall_mem_cons.mpr ⟨lw_p60, fun _ h => absurd h List.not_mem_nil⟩⟩⟩⟩⟩⟩⟩⟩⟩⟩⟩⟩⟩
def lw_privs : List (MethodName × Nat) := lw_privs_1 ++ (lw_privs_2 ++ (lw_privs_3 ++ (lw_privs_4)))
def lw_tbl : List Cond := k2_sels lw_privs ++ tables_1
theorem lw_privs_ok : ∀ q ∈ lw_privs, lw_okq q := by
  show ∀ q ∈ lw_privs_1 ++ (lw_privs_2 ++ (lw_privs_3 ++ (lw_privs_4))), lw_okq q
  exact List.forall_mem_append.mpr ⟨lw_r1, List.forall_mem_append.mpr ⟨lw_r2, List.forall_mem_append.mpr ⟨lw_r3, lw_r4⟩⟩⟩
def RX0 : String := "BetweenThisAndThat$Link"
def TX0 : u_T := fun k => match k with
  | 0 => ("BetweenThisAndThat$Link", "start", "I", false)
  | 1 => ("BetweenThisAndThat$Link", "goal", "I", false)
  | 2 => ("BetweenThisAndThat$Link", "low", "I", false)
  | _ => ("BetweenThisAndThat$Link", "high", "I", false)
def tyX0 : Nat → FieldType := fun k => match k with
  | 0 => .int
  | 1 => .int
  | 2 => .int
  | _ => .int
theorem nmX0 : ∀ a, a < 4 → ∀ b, b < 4 → a ≠ b → (TX0 a).2.1 ≠ (TX0 b).2.1 := by decide +kernel
theorem tyX0_ok : ∀ k, k < 4 → parseFieldDescriptor (TX0 k).2.2.1 = some (tyX0 k) := by decide +kernel
def RX1 : String := "BetweenThisAndThat$Reader"
def TX1 : u_T := fun k => match k with
  | 0 => ("BetweenThisAndThat$Reader", "tape", "[I", true)
  | 1 => ("BetweenThisAndThat$Reader", "size", "I", false)
  | 2 => ("BetweenThisAndThat$Reader", "draft", "LBetweenThisAndThat$Text;", true)
  | 3 => ("BetweenThisAndThat$Reader", "at", "I", false)
  | 4 => ("BetweenThisAndThat$Reader", "next", "I", false)
  | 5 => ("BetweenThisAndThat$Reader", "token", "I", false)
  | 6 => ("BetweenThisAndThat$Reader", "value", "I", false)
  | _ => ("BetweenThisAndThat$Reader", "open", "I", false)
def tyX1 : Nat → FieldType := fun k => match k with
  | 0 => .array .int
  | 1 => .int
  | 2 => .object "BetweenThisAndThat$Text"
  | 3 => .int
  | 4 => .int
  | 5 => .int
  | 6 => .int
  | _ => .int
theorem nmX1 : ∀ a, a < 8 → ∀ b, b < 8 → a ≠ b → (TX1 a).2.1 ≠ (TX1 b).2.1 := by decide +kernel
theorem tyX1_ok : ∀ k, k < 8 → parseFieldDescriptor (TX1 k).2.2.1 = some (tyX1 k) := by decide +kernel
def RX2 : String := "BetweenThisAndThat$Saying"
def TX2 : u_T := fun k => match k with
  | 0 => ("BetweenThisAndThat$Saying", "kind", "I", false)
  | 1 => ("BetweenThisAndThat$Saying", "more", "I", false)
  | 2 => ("BetweenThisAndThat$Saying", "of", "I", false)
  | 3 => ("BetweenThisAndThat$Saying", "low", "I", false)
  | _ => ("BetweenThisAndThat$Saying", "high", "I", false)
def tyX2 : Nat → FieldType := fun k => match k with
  | 0 => .int
  | 1 => .int
  | 2 => .int
  | 3 => .int
  | _ => .int
theorem nmX2 : ∀ a, a < 5 → ∀ b, b < 5 → a ≠ b → (TX2 a).2.1 ≠ (TX2 b).2.1 := by decide +kernel
theorem tyX2_ok : ∀ k, k < 5 → parseFieldDescriptor (TX2 k).2.2.1 = some (tyX2 k) := by decide +kernel
def RX3 : String := "BetweenThisAndThat$Sheet"
def TX3 : u_T := fun k => match k with
  | 0 => ("BetweenThisAndThat$Sheet", "cells", "[I", true)
  | 1 => ("BetweenThisAndThat$Sheet", "sort", "I", false)
  | _ => ("BetweenThisAndThat$Sheet", "size", "I", false)
def tyX3 : Nat → FieldType := fun k => match k with
  | 0 => .array .int
  | 1 => .int
  | _ => .int
theorem nmX3 : ∀ a, a < 3 → ∀ b, b < 3 → a ≠ b → (TX3 a).2.1 ≠ (TX3 b).2.1 := by decide +kernel
theorem tyX3_ok : ∀ k, k < 3 → parseFieldDescriptor (TX3 k).2.2.1 = some (tyX3 k) := by decide +kernel
def RX4 : String := "BetweenThisAndThat$Spans"
def TX4 : u_T := fun k => match k with
  | 0 => ("BetweenThisAndThat$Spans", "begin", "[I", true)
  | 1 => ("BetweenThisAndThat$Spans", "end", "[I", true)
  | 2 => ("BetweenThisAndThat$Spans", "least", "[I", true)
  | 3 => ("BetweenThisAndThat$Spans", "most", "[I", true)
  | 4 => ("BetweenThisAndThat$Spans", "ahead", "[I", true)
  | _ => ("BetweenThisAndThat$Spans", "linksCan", "Z", false)
def tyX4 : Nat → FieldType := fun k => match k with
  | 0 => .array .int
  | 1 => .array .int
  | 2 => .array .int
  | 3 => .array .int
  | 4 => .array .int
  | _ => .boolean
theorem nmX4 : ∀ a, a < 6 → ∀ b, b < 6 → a ≠ b → (TX4 a).2.1 ≠ (TX4 b).2.1 := by decide +kernel
theorem tyX4_ok : ∀ k, k < 6 → parseFieldDescriptor (TX4 k).2.2.1 = some (tyX4 k) := by decide +kernel
def RX5 : String := "BetweenThisAndThat$Text"
def TX5 : u_T := fun k => match k with
  | 0 => ("BetweenThisAndThat$Text", "code", "[I", true)
  | 1 => ("BetweenThisAndThat$Text", "size", "I", false)
  | 2 => ("BetweenThisAndThat$Text", "ends", "[I", true)
  | _ => ("BetweenThisAndThat$Text", "named", "I", false)
def tyX5 : Nat → FieldType := fun k => match k with
  | 0 => .array .int
  | 1 => .int
  | 2 => .array .int
  | _ => .int
theorem nmX5 : ∀ a, a < 4 → ∀ b, b < 4 → a ≠ b → (TX5 a).2.1 ≠ (TX5 b).2.1 := by decide +kernel
theorem tyX5_ok : ∀ k, k < 4 → parseFieldDescriptor (TX5 k).2.2.1 = some (tyX5 k) := by decide +kernel
def RX6 : String := "BetweenThisAndThat$Told"
def TX6 : u_T := fun k => match k with
  | 0 => ("BetweenThisAndThat$Told", "sayings", "[LBetweenThisAndThat$Saying;", true)
  | 1 => ("BetweenThisAndThat$Told", "sayingCount", "I", false)
  | 2 => ("BetweenThisAndThat$Told", "linkCount", "I", false)
  | 3 => ("BetweenThisAndThat$Told", "year", "I", false)
  | _ => ("BetweenThisAndThat$Told", "law", "I", false)
def tyX6 : Nat → FieldType := fun k => match k with
  | 0 => .array (.object "BetweenThisAndThat$Saying")
  | 1 => .int
  | 2 => .int
  | 3 => .int
  | _ => .int
theorem nmX6 : ∀ a, a < 5 → ∀ b, b < 5 → a ≠ b → (TX6 a).2.1 ≠ (TX6 b).2.1 := by decide +kernel
theorem tyX6_ok : ∀ k, k < 5 → parseFieldDescriptor (TX6 k).2.2.1 = some (tyX6 k) := by decide +kernel
def RX7 : String := "BetweenThisAndThat"
def TX7 : u_T := fun k => match k with
  | 0 => ("BetweenThisAndThat", "now", "LBetweenThisAndThat$Told;", true)
  | 1 => ("BetweenThisAndThat", "kept", "LBetweenThisAndThat$Told;", true)
  | 2 => ("BetweenThisAndThat", "hasImage", "Z", false)
  | 3 => ("BetweenThisAndThat", "links", "[LBetweenThisAndThat$Link;", true)
  | 4 => ("BetweenThisAndThat", "texts", "[LBetweenThisAndThat$Text;", true)
  | 5 => ("BetweenThisAndThat", "textCount", "I", false)
  | 6 => ("BetweenThisAndThat", "reader", "LBetweenThisAndThat$Reader;", true)
  | 7 => ("BetweenThisAndThat", "sheets", "[LBetweenThisAndThat$Sheet;", true)
  | 8 => ("BetweenThisAndThat", "spans", "LBetweenThisAndThat$Spans;", true)
  | 9 => ("BetweenThisAndThat", "row", "[I", true)
  | 10 => ("BetweenThisAndThat", "stack", "[I", true)
  | 11 => ("BetweenThisAndThat", "lowest", "I", false)
  | _ => ("BetweenThisAndThat", "highest", "I", false)
def tyX7 : Nat → FieldType := fun k => match k with
  | 0 => .object "BetweenThisAndThat$Told"
  | 1 => .object "BetweenThisAndThat$Told"
  | 2 => .boolean
  | 3 => .array (.object "BetweenThisAndThat$Link")
  | 4 => .array (.object "BetweenThisAndThat$Text")
  | 5 => .int
  | 6 => .object "BetweenThisAndThat$Reader"
  | 7 => .array (.object "BetweenThisAndThat$Sheet")
  | 8 => .object "BetweenThisAndThat$Spans"
  | 9 => .array .int
  | 10 => .array .int
  | 11 => .int
  | _ => .int
theorem nmX7 : ∀ a, a < 13 → ∀ b, b < 13 → a ≠ b → (TX7 a).2.1 ≠ (TX7 b).2.1 := by decide +kernel
theorem tyX7_ok : ∀ k, k < 13 → parseFieldDescriptor (TX7 k).2.2.1 = some (tyX7 k) := by decide +kernel
def RX8 : String := "BetweenThisAndThatModel"
def TX8 : u_T := fun k => match k with
  | 0 => ("BetweenThisAndThatModel", "sayings", "I", false)
  | 1 => ("BetweenThisAndThatModel", "saying", "[I", true)
  | 2 => ("BetweenThisAndThatModel", "links", "I", false)
  | 3 => ("BetweenThisAndThatModel", "link", "[I", true)
  | 4 => ("BetweenThisAndThatModel", "year", "I", false)
  | 5 => ("BetweenThisAndThatModel", "tape", "[I", true)
  | 6 => ("BetweenThisAndThatModel", "taped", "I", false)
  | 7 => ("BetweenThisAndThatModel", "codes", "[I", true)
  | 8 => ("BetweenThisAndThatModel", "starts", "[I", true)
  | 9 => ("BetweenThisAndThatModel", "texts", "I", false)
  | 10 => ("BetweenThisAndThatModel", "rule", "I", false)
  | 11 => ("BetweenThisAndThatModel", "hasImage", "Z", false)
  | 12 => ("BetweenThisAndThatModel", "imageSayings", "I", false)
  | 13 => ("BetweenThisAndThatModel", "imageLinks", "I", false)
  | 14 => ("BetweenThisAndThatModel", "imageYear", "I", false)
  | 15 => ("BetweenThisAndThatModel", "imageRule", "I", false)
  | 16 => ("BetweenThisAndThatModel", "imageSaying", "[I", true)
  | 17 => ("BetweenThisAndThatModel", "sheetSort", "[I", true)
  | 18 => ("BetweenThisAndThatModel", "sheetSize", "[I", true)
  | 19 => ("BetweenThisAndThatModel", "cells", "[I", true)
  | 20 => ("BetweenThisAndThatModel", "law", "[I", true)
  | 21 => ("BetweenThisAndThatModel", "at", "I", false)
  | 22 => ("BetweenThisAndThatModel", "begun", "I", false)
  | 23 => ("BetweenThisAndThatModel", "token", "I", false)
  | 24 => ("BetweenThisAndThatModel", "value", "I", false)
  | 25 => ("BetweenThisAndThatModel", "words", "[I", true)
  | 26 => ("BetweenThisAndThatModel", "held", "[I", true)
  | 27 => ("BetweenThisAndThatModel", "heldMany", "I", false)
  | 28 => ("BetweenThisAndThatModel", "opens", "I", false)
  | 29 => ("BetweenThisAndThatModel", "out", "I", false)
  | 30 => ("BetweenThisAndThatModel", "stack", "[I", true)
  | 31 => ("BetweenThisAndThatModel", "named", "[I", true)
  | 32 => ("BetweenThisAndThatModel", "least", "[I", true)
  | 33 => ("BetweenThisAndThatModel", "most", "[I", true)
  | 34 => ("BetweenThisAndThatModel", "over", "[I", true)
  | 35 => ("BetweenThisAndThatModel", "leastTold", "J", false)
  | 36 => ("BetweenThisAndThatModel", "mostTold", "J", false)
  | _ => ("BetweenThisAndThatModel", "row", "[I", true)
def tyX8 : Nat → FieldType := fun k => match k with
  | 0 => .int
  | 1 => .array .int
  | 2 => .int
  | 3 => .array .int
  | 4 => .int
  | 5 => .array .int
  | 6 => .int
  | 7 => .array .int
  | 8 => .array .int
  | 9 => .int
  | 10 => .int
  | 11 => .boolean
  | 12 => .int
  | 13 => .int
  | 14 => .int
  | 15 => .int
  | 16 => .array .int
  | 17 => .array .int
  | 18 => .array .int
  | 19 => .array .int
  | 20 => .array .int
  | 21 => .int
  | 22 => .int
  | 23 => .int
  | 24 => .int
  | 25 => .array .int
  | 26 => .array .int
  | 27 => .int
  | 28 => .int
  | 29 => .int
  | 30 => .array .int
  | 31 => .array .int
  | 32 => .array .int
  | 33 => .array .int
  | 34 => .array .int
  | 35 => .long
  | 36 => .long
  | _ => .array .int
theorem nmX8 : ∀ a, a < 38 → ∀ b, b < 38 → a ≠ b → (TX8 a).2.1 ≠ (TX8 b).2.1 := by decide +kernel
theorem tyX8_ok : ∀ k, k < 38 → parseFieldDescriptor (TX8 k).2.2.1 = some (tyX8 k) := by decide +kernel
abbrev vwCl : List vw_C := [(RX0, TX0, 4), (RX1, TX1, 8), (RX2, TX2, 5), (RX3, TX3, 3), (RX4, TX4, 6), (RX5, TX5, 4), (RX6, TX6, 5), (RX7, TX7, 13), (RX8, TX8, 38)]
end
section
/-! by program (wip/tools/gen_tables.py) out of what TURN printed of the claim: the methods, their instructions -/
/-- own class, name, bytes, locals, return, kind (0 static, 100 and class: virtual, 150: of String, 200 and class: constructor), parameters, places of its words: code, static or instanceMethod, selects, initialized -/
abbrev XMe : Type := String × MethodName × ByteArray × Nat × Option FieldType × Nat × Nat × (Nat × Nat × Nat × Nat)
/-- pc, instruction, what its pool entry is, the place of its link's word -/
abbrev XIn : Type := Nat × Instr × Nat × Nat
def xi_0 : List XIn := [(0, .new 7, 7, 80),
  (3, .dup, 0, 0),
  (4, .invokespecial 9, 51, 82),
  (7, .astore_n 1, 0, 0),
  (8, .new 10, 8, 877),
  (11, .dup, 0, 0),
  (12, .invokespecial 12, 111, 879),
  (15, .astore_n 2, 0, 0),
  (16, .iconst 0, 0, 0),
  (17, .istore_n 3, 0, 0),
  (18, .iload_n 3, 0, 0),
  (19, .aload_n 0, 0, 0),
  (20, .arraylength, 0, 0),
  (21, .bipush 7, 0, 0),
  (23, .isub, 0, 0),
  (24, .if_icmp .gt 1426, 0, 0),
  (27, .aload_n 0, 0, 0),
  (28, .iload_n 3, 0, 0),
  (29, .iaload, 0, 0),
  (30, .bipush 63, 0, 0),
  (32, .iand, 0, 0),
  (33, .tableswitch 1411 0 37 #[167, 190, 213, 288, 301, 324, 377, 390, 423, 476, 509, 522, 555, 598, 621, 644, 657, 691, 704, 748, 782, 826, 870, 914, 937, 960, 983, 1017, 1040, 1073, 1106, 1150, 1163, 1176, 1219, 1262, 1325, 1378], 0, 0),
  (200, .aload_n 1, 0, 0),
  (201, .aload_n 0, 0, 0),
  (202, .iload_n 3, 0, 0),
  (203, .iconst 1, 0, 0),
  (204, .iadd, 0, 0),
  (205, .iaload, 0, 0),
  (206, .invokevirtual 13, 52, 526),
  (209, .aload_n 2, 0, 0),
  (210, .aload_n 0, 0, 0),
  (211, .iload_n 3, 0, 0),
  (212, .iconst 1, 0, 0),
  (213, .iadd, 0, 0),
  (214, .iaload, 0, 0),
  (215, .invokevirtual 17, 118, 1045),
  (218, .if_icmp .eq 1226, 0, 0),
  (221, .iconst 0, 0, 0),
  (222, .ireturn, 0, 0),
  (223, .aload_n 1, 0, 0),
  (224, .aload_n 0, 0, 0),
  (225, .iload_n 3, 0, 0),
  (226, .iconst 1, 0, 0),
  (227, .iadd, 0, 0),
  (228, .iaload, 0, 0),
  (229, .invokevirtual 18, 53, 530),
  (232, .aload_n 2, 0, 0),
  (233, .aload_n 0, 0, 0),
  (234, .iload_n 3, 0, 0),
  (235, .iconst 1, 0, 0),
  (236, .iadd, 0, 0),
  (237, .iaload, 0, 0),
  (238, .invokevirtual 21, 119, 1049),
  (241, .if_icmp .eq 1203, 0, 0),
  (244, .iconst 0, 0, 0),
  (245, .ireturn, 0, 0),
  (246, .aload_n 1, 0, 0),
  (247, .aload_n 0, 0, 0),
  (248, .iload_n 3, 0, 0),
  (249, .iconst 1, 0, 0),
  (250, .iadd, 0, 0),
  (251, .iaload, 0, 0),
  (252, .aload_n 0, 0, 0),
  (253, .iload_n 3, 0, 0),
  (254, .iconst 2, 0, 0),
  (255, .iadd, 0, 0),
  (256, .iaload, 0, 0),
  (257, .aload_n 0, 0, 0),
  (258, .iload_n 3, 0, 0),
  (259, .iconst 3, 0, 0),
  (260, .iadd, 0, 0),
  (261, .iaload, 0, 0),
  (262, .aload_n 0, 0, 0),
  (263, .iload_n 3, 0, 0),
  (264, .iconst 4, 0, 0),
  (265, .iadd, 0, 0),
  (266, .iaload, 0, 0),
  (267, .aload_n 0, 0, 0),
  (268, .iload_n 3, 0, 0),
  (269, .iconst 5, 0, 0),
  (270, .iadd, 0, 0),
  (271, .iaload, 0, 0),
  (272, .aload_n 0, 0, 0),
  (273, .iload_n 3, 0, 0),
  (274, .bipush 6, 0, 0),
  (276, .iadd, 0, 0),
  (277, .iaload, 0, 0),
  (278, .invokevirtual 22, 54, 537),
  (281, .aload_n 2, 0, 0),
  (282, .aload_n 0, 0, 0),
  (283, .iload_n 3, 0, 0),
  (284, .iconst 1, 0, 0),
  (285, .iadd, 0, 0),
  (286, .iaload, 0, 0),
  (287, .aload_n 0, 0, 0),
  (288, .iload_n 3, 0, 0),
  (289, .iconst 2, 0, 0),
  (290, .iadd, 0, 0),
  (291, .iaload, 0, 0),
  (292, .aload_n 0, 0, 0),
  (293, .iload_n 3, 0, 0),
  (294, .iconst 3, 0, 0),
  (295, .iadd, 0, 0),
  (296, .iaload, 0, 0),
  (297, .aload_n 0, 0, 0),
  (298, .iload_n 3, 0, 0),
  (299, .iconst 4, 0, 0),
  (300, .iadd, 0, 0),
  (301, .iaload, 0, 0),
  (302, .aload_n 0, 0, 0),
  (303, .iload_n 3, 0, 0),
  (304, .iconst 5, 0, 0),
  (305, .iadd, 0, 0),
  (306, .iaload, 0, 0),
  (307, .aload_n 0, 0, 0),
  (308, .iload_n 3, 0, 0),
  (309, .bipush 6, 0, 0),
  (311, .iadd, 0, 0),
  (312, .iaload, 0, 0),
  (313, .invokevirtual 26, 121, 1053),
  (316, .if_icmp .eq 1128, 0, 0),
  (319, .iconst 0, 0, 0),
  (320, .ireturn, 0, 0),
  (321, .aload_n 1, 0, 0),
  (322, .invokevirtual 27, 55, 544),
  (325, .aload_n 2, 0, 0),
  (326, .invokevirtual 31, 132, 1060),
  (329, .if_icmp .eq 1115, 0, 0),
  (332, .iconst 0, 0, 0),
  (333, .ireturn, 0, 0),
  (334, .aload_n 1, 0, 0),
  (335, .aload_n 0, 0, 0),
  (336, .iload_n 3, 0, 0),
  (337, .iconst 1, 0, 0),
  (338, .iadd, 0, 0),
  (339, .iaload, 0, 0),
  (340, .invokevirtual 32, 56, 548),
  (343, .aload_n 2, 0, 0),
  (344, .aload_n 0, 0, 0),
  (345, .iload_n 3, 0, 0),
  (346, .iconst 1, 0, 0),
  (347, .iadd, 0, 0),
  (348, .iaload, 0, 0),
  (349, .invokevirtual 35, 135, 1061),
  (352, .if_icmp .eq 1092, 0, 0),
  (355, .iconst 0, 0, 0),
  (356, .ireturn, 0, 0),
  (357, .aload_n 1, 0, 0),
  (358, .aload_n 0, 0, 0),
  (359, .iload_n 3, 0, 0),
  (360, .iconst 1, 0, 0),
  (361, .iadd, 0, 0),
  (362, .iaload, 0, 0),
  (363, .aload_n 0, 0, 0),
  (364, .iload_n 3, 0, 0),
  (365, .iconst 2, 0, 0),
  (366, .iadd, 0, 0),
  (367, .iaload, 0, 0),
  (368, .aload_n 0, 0, 0),
  (369, .iload_n 3, 0, 0),
  (370, .iconst 3, 0, 0),
  (371, .iadd, 0, 0),
  (372, .iaload, 0, 0),
  (373, .aload_n 0, 0, 0),
  (374, .iload_n 3, 0, 0),
  (375, .iconst 4, 0, 0),
  (376, .iadd, 0, 0),
  (377, .iaload, 0, 0),
  (378, .invokevirtual 36, 57, 556),
  (381, .aload_n 2, 0, 0),
  (382, .aload_n 0, 0, 0),
  (383, .iload_n 3, 0, 0),
  (384, .iconst 1, 0, 0),
  (385, .iadd, 0, 0),
  (386, .iaload, 0, 0),
  (387, .aload_n 0, 0, 0),
  (388, .iload_n 3, 0, 0),
  (389, .iconst 2, 0, 0),
  (390, .iadd, 0, 0),
  (391, .iaload, 0, 0),
  (392, .aload_n 0, 0, 0),
  (393, .iload_n 3, 0, 0),
  (394, .iconst 3, 0, 0),
  (395, .iadd, 0, 0),
  (396, .iaload, 0, 0),
  (397, .aload_n 0, 0, 0),
  (398, .iload_n 3, 0, 0),
  (399, .iconst 4, 0, 0),
  (400, .iadd, 0, 0),
  (401, .iaload, 0, 0),
  (402, .invokevirtual 40, 136, 1065),
  (405, .if_icmp .eq 1039, 0, 0),
  (408, .iconst 0, 0, 0),
  (409, .ireturn, 0, 0),
  (410, .aload_n 1, 0, 0),
  (411, .invokevirtual 41, 58, 571),
  (414, .aload_n 2, 0, 0),
  (415, .invokevirtual 44, 137, 1072),
  (418, .if_icmp .eq 1026, 0, 0),
  (421, .iconst 0, 0, 0),
  (422, .ireturn, 0, 0),
  (423, .aload_n 1, 0, 0),
  (424, .aload_n 0, 0, 0),
  (425, .iload_n 3, 0, 0),
  (426, .iconst 1, 0, 0),
  (427, .iadd, 0, 0),
  (428, .iaload, 0, 0),
  (429, .aload_n 0, 0, 0),
  (430, .iload_n 3, 0, 0),
  (431, .iconst 2, 0, 0),
  (432, .iadd, 0, 0),
  (433, .iaload, 0, 0),
  (434, .invokevirtual 45, 59, 575),
  (437, .aload_n 2, 0, 0),
  (438, .aload_n 0, 0, 0),
  (439, .iload_n 3, 0, 0),
  (440, .iconst 1, 0, 0),
  (441, .iadd, 0, 0),
  (442, .iaload, 0, 0),
  (443, .aload_n 0, 0, 0),
  (444, .iload_n 3, 0, 0),
  (445, .iconst 2, 0, 0),
  (446, .iadd, 0, 0),
  (447, .iaload, 0, 0),
  (448, .invokevirtual 49, 142, 1076),
  (451, .if_icmp .eq 993, 0, 0),
  (454, .iconst 0, 0, 0),
  (455, .ireturn, 0, 0),
  (456, .aload_n 1, 0, 0),
  (457, .aload_n 0, 0, 0),
  (458, .iload_n 3, 0, 0),
  (459, .iconst 1, 0, 0),
  (460, .iadd, 0, 0),
  (461, .iaload, 0, 0),
  (462, .aload_n 0, 0, 0),
  (463, .iload_n 3, 0, 0),
  (464, .iconst 2, 0, 0),
  (465, .iadd, 0, 0),
  (466, .iaload, 0, 0),
  (467, .aload_n 0, 0, 0),
  (468, .iload_n 3, 0, 0),
  (469, .iconst 3, 0, 0),
  (470, .iadd, 0, 0),
  (471, .iaload, 0, 0),
  (472, .aload_n 0, 0, 0),
  (473, .iload_n 3, 0, 0),
  (474, .iconst 4, 0, 0),
  (475, .iadd, 0, 0),
  (476, .iaload, 0, 0),
  (477, .invokevirtual 50, 60, 597),
  (480, .aload_n 2, 0, 0),
  (481, .aload_n 0, 0, 0),
  (482, .iload_n 3, 0, 0),
  (483, .iconst 1, 0, 0),
  (484, .iadd, 0, 0),
  (485, .iaload, 0, 0),
  (486, .aload_n 0, 0, 0),
  (487, .iload_n 3, 0, 0),
  (488, .iconst 2, 0, 0),
  (489, .iadd, 0, 0),
  (490, .iaload, 0, 0),
  (491, .aload_n 0, 0, 0),
  (492, .iload_n 3, 0, 0),
  (493, .iconst 3, 0, 0),
  (494, .iadd, 0, 0),
  (495, .iaload, 0, 0),
  (496, .aload_n 0, 0, 0),
  (497, .iload_n 3, 0, 0),
  (498, .iconst 4, 0, 0),
  (499, .iadd, 0, 0),
  (500, .iaload, 0, 0),
  (501, .invokevirtual 53, 143, 1103),
  (504, .if_icmp .eq 940, 0, 0),
  (507, .iconst 0, 0, 0),
  (508, .ireturn, 0, 0),
  (509, .aload_n 1, 0, 0),
  (510, .aload_n 0, 0, 0),
  (511, .iload_n 3, 0, 0),
  (512, .iconst 1, 0, 0),
  (513, .iadd, 0, 0),
  (514, .iaload, 0, 0),
  (515, .aload_n 0, 0, 0),
  (516, .iload_n 3, 0, 0),
  (517, .iconst 2, 0, 0),
  (518, .iadd, 0, 0),
  (519, .iaload, 0, 0),
  (520, .invokevirtual 54, 61, 605),
  (523, .aload_n 2, 0, 0),
  (524, .aload_n 0, 0, 0),
  (525, .iload_n 3, 0, 0),
  (526, .iconst 1, 0, 0),
  (527, .iadd, 0, 0),
  (528, .iaload, 0, 0),
  (529, .aload_n 0, 0, 0),
  (530, .iload_n 3, 0, 0),
  (531, .iconst 2, 0, 0),
  (532, .iadd, 0, 0),
  (533, .iaload, 0, 0),
  (534, .invokevirtual 57, 144, 1107),
  (537, .if_icmp .eq 907, 0, 0),
  (540, .iconst 0, 0, 0),
  (541, .ireturn, 0, 0),
  (542, .aload_n 1, 0, 0),
  (543, .invokevirtual 58, 62, 609),
  (546, .aload_n 2, 0, 0),
  (547, .invokevirtual 61, 151, 1111),
  (550, .if_icmp .eq 894, 0, 0),
  (553, .iconst 0, 0, 0),
  (554, .ireturn, 0, 0),
  (555, .aload_n 1, 0, 0),
  (556, .aload_n 0, 0, 0),
  (557, .iload_n 3, 0, 0),
  (558, .iconst 1, 0, 0),
  (559, .iadd, 0, 0),
  (560, .iaload, 0, 0),
  (561, .aload_n 0, 0, 0),
  (562, .iload_n 3, 0, 0),
  (563, .iconst 2, 0, 0),
  (564, .iadd, 0, 0),
  (565, .iaload, 0, 0),
  (566, .invokevirtual 62, 63, 648),
  (569, .aload_n 2, 0, 0),
  (570, .aload_n 0, 0, 0),
  (571, .iload_n 3, 0, 0),
  (572, .iconst 1, 0, 0),
  (573, .iadd, 0, 0),
  (574, .iaload, 0, 0),
  (575, .aload_n 0, 0, 0),
  (576, .iload_n 3, 0, 0),
  (577, .iconst 2, 0, 0),
  (578, .iadd, 0, 0),
  (579, .iaload, 0, 0),
  (580, .invokevirtual 65, 152, 1131),
  (583, .if_icmp .eq 861, 0, 0),
  (586, .iconst 0, 0, 0),
  (587, .ireturn, 0, 0),
  (588, .aload_n 1, 0, 0),
  (589, .aload_n 0, 0, 0),
  (590, .iload_n 3, 0, 0),
  (591, .iconst 1, 0, 0),
  (592, .iadd, 0, 0),
  (593, .iaload, 0, 0),
  (594, .aload_n 0, 0, 0),
  (595, .iload_n 3, 0, 0),
  (596, .iconst 2, 0, 0),
  (597, .iadd, 0, 0),
  (598, .iaload, 0, 0),
  (599, .aload_n 0, 0, 0),
  (600, .iload_n 3, 0, 0),
  (601, .iconst 3, 0, 0),
  (602, .iadd, 0, 0),
  (603, .iaload, 0, 0),
  (604, .invokevirtual 66, 64, 652),
  (607, .aload_n 2, 0, 0),
  (608, .aload_n 0, 0, 0),
  (609, .iload_n 3, 0, 0),
  (610, .iconst 1, 0, 0),
  (611, .iadd, 0, 0),
  (612, .iaload, 0, 0),
  (613, .aload_n 0, 0, 0),
  (614, .iload_n 3, 0, 0),
  (615, .iconst 2, 0, 0),
  (616, .iadd, 0, 0),
  (617, .iaload, 0, 0),
  (618, .aload_n 0, 0, 0),
  (619, .iload_n 3, 0, 0),
  (620, .iconst 3, 0, 0),
  (621, .iadd, 0, 0),
  (622, .iaload, 0, 0),
  (623, .invokevirtual 70, 153, 1143),
  (626, .if_icmp .eq 818, 0, 0),
  (629, .iconst 0, 0, 0),
  (630, .ireturn, 0, 0),
  (631, .aload_n 1, 0, 0),
  (632, .aload_n 0, 0, 0),
  (633, .iload_n 3, 0, 0),
  (634, .iconst 1, 0, 0),
  (635, .iadd, 0, 0),
  (636, .iaload, 0, 0),
  (637, .invokevirtual 71, 65, 661),
  (640, .aload_n 2, 0, 0),
  (641, .aload_n 0, 0, 0),
  (642, .iload_n 3, 0, 0),
  (643, .iconst 1, 0, 0),
  (644, .iadd, 0, 0),
  (645, .iaload, 0, 0),
  (646, .invokevirtual 74, 155, 1148),
  (649, .if_icmp .eq 795, 0, 0),
  (652, .iconst 0, 0, 0),
  (653, .ireturn, 0, 0),
  (654, .aload_n 1, 0, 0),
  (655, .aload_n 0, 0, 0),
  (656, .iload_n 3, 0, 0),
  (657, .iconst 1, 0, 0),
  (658, .iadd, 0, 0),
  (659, .iaload, 0, 0),
  (660, .invokevirtual 75, 66, 671),
  (663, .aload_n 2, 0, 0),
  (664, .aload_n 0, 0, 0),
  (665, .iload_n 3, 0, 0),
  (666, .iconst 1, 0, 0),
  (667, .iadd, 0, 0),
  (668, .iaload, 0, 0),
  (669, .invokevirtual 78, 156, 1156),
  (672, .if_icmp .eq 772, 0, 0),
  (675, .iconst 0, 0, 0),
  (676, .ireturn, 0, 0),
  (677, .aload_n 1, 0, 0),
  (678, .invokevirtual 79, 67, 681),
  (681, .aload_n 2, 0, 0),
  (682, .invokevirtual 82, 157, 1163),
  (685, .if_icmp .eq 759, 0, 0),
  (688, .iconst 0, 0, 0),
  (689, .ireturn, 0, 0),
  (690, .aload_n 1, 0, 0),
  (691, .aload_n 0, 0, 0),
  (692, .iload_n 3, 0, 0),
  (693, .iconst 1, 0, 0),
  (694, .iadd, 0, 0),
  (695, .iaload, 0, 0),
  (696, .aload_n 0, 0, 0),
  (697, .iload_n 3, 0, 0),
  (698, .iconst 2, 0, 0),
  (699, .iadd, 0, 0),
  (700, .iaload, 0, 0),
  (701, .invokevirtual 83, 68, 685),
  (704, .aload_n 2, 0, 0),
  (705, .aload_n 0, 0, 0),
  (706, .iload_n 3, 0, 0),
  (707, .iconst 1, 0, 0),
  (708, .iadd, 0, 0),
  (709, .iaload, 0, 0),
  (710, .aload_n 0, 0, 0),
  (711, .iload_n 3, 0, 0),
  (712, .iconst 2, 0, 0),
  (713, .iadd, 0, 0),
  (714, .iaload, 0, 0),
  (715, .invokevirtual 87, 161, 1167),
  (718, .lcmp, 0, 0),
  (719, .ifCond .eq 725, 0, 0),
  (722, .iconst 0, 0, 0),
  (723, .ireturn, 0, 0),
  (724, .aload_n 1, 0, 0),
  (725, .invokevirtual 88, 69, 712),
  (728, .aload_n 2, 0, 0),
  (729, .invokevirtual 91, 163, 1191),
  (732, .if_icmp .eq 712, 0, 0),
  (735, .iconst 0, 0, 0),
  (736, .ireturn, 0, 0),
  (737, .aload_n 1, 0, 0),
  (738, .aload_n 0, 0, 0),
  (739, .iload_n 3, 0, 0),
  (740, .iconst 1, 0, 0),
  (741, .iadd, 0, 0),
  (742, .iaload, 0, 0),
  (743, .aload_n 0, 0, 0),
  (744, .iload_n 3, 0, 0),
  (745, .iconst 2, 0, 0),
  (746, .iadd, 0, 0),
  (747, .iaload, 0, 0),
  (748, .aload_n 0, 0, 0),
  (749, .iload_n 3, 0, 0),
  (750, .iconst 3, 0, 0),
  (751, .iadd, 0, 0),
  (752, .iaload, 0, 0),
  (753, .invokevirtual 92, 70, 720),
  (756, .aload_n 2, 0, 0),
  (757, .aload_n 0, 0, 0),
  (758, .iload_n 3, 0, 0),
  (759, .iconst 1, 0, 0),
  (760, .iadd, 0, 0),
  (761, .iaload, 0, 0),
  (762, .aload_n 0, 0, 0),
  (763, .iload_n 3, 0, 0),
  (764, .iconst 2, 0, 0),
  (765, .iadd, 0, 0),
  (766, .iaload, 0, 0),
  (767, .aload_n 0, 0, 0),
  (768, .iload_n 3, 0, 0),
  (769, .iconst 3, 0, 0),
  (770, .iadd, 0, 0),
  (771, .iaload, 0, 0),
  (772, .invokevirtual 96, 167, 1199),
  (775, .lcmp, 0, 0),
  (776, .ifCond .eq 668, 0, 0),
  (779, .iconst 0, 0, 0),
  (780, .ireturn, 0, 0),
  (781, .aload_n 1, 0, 0),
  (782, .aload_n 0, 0, 0),
  (783, .iload_n 3, 0, 0),
  (784, .iconst 1, 0, 0),
  (785, .iadd, 0, 0),
  (786, .iaload, 0, 0),
  (787, .aload_n 0, 0, 0),
  (788, .iload_n 3, 0, 0),
  (789, .iconst 2, 0, 0),
  (790, .iadd, 0, 0),
  (791, .iaload, 0, 0),
  (792, .invokevirtual 97, 71, 742),
  (795, .aload_n 2, 0, 0),
  (796, .aload_n 0, 0, 0),
  (797, .iload_n 3, 0, 0),
  (798, .iconst 1, 0, 0),
  (799, .iadd, 0, 0),
  (800, .iaload, 0, 0),
  (801, .aload_n 0, 0, 0),
  (802, .iload_n 3, 0, 0),
  (803, .iconst 2, 0, 0),
  (804, .iadd, 0, 0),
  (805, .iaload, 0, 0),
  (806, .invokevirtual 100, 168, 1219),
  (809, .lcmp, 0, 0),
  (810, .ifCond .eq 634, 0, 0),
  (813, .iconst 0, 0, 0),
  (814, .ireturn, 0, 0),
  (815, .aload_n 1, 0, 0),
  (816, .aload_n 0, 0, 0),
  (817, .iload_n 3, 0, 0),
  (818, .iconst 1, 0, 0),
  (819, .iadd, 0, 0),
  (820, .iaload, 0, 0),
  (821, .aload_n 0, 0, 0),
  (822, .iload_n 3, 0, 0),
  (823, .iconst 2, 0, 0),
  (824, .iadd, 0, 0),
  (825, .iaload, 0, 0),
  (826, .aload_n 0, 0, 0),
  (827, .iload_n 3, 0, 0),
  (828, .iconst 3, 0, 0),
  (829, .iadd, 0, 0),
  (830, .iaload, 0, 0),
  (831, .invokevirtual 101, 72, 746),
  (834, .aload_n 2, 0, 0),
  (835, .aload_n 0, 0, 0),
  (836, .iload_n 3, 0, 0),
  (837, .iconst 1, 0, 0),
  (838, .iadd, 0, 0),
  (839, .iaload, 0, 0),
  (840, .aload_n 0, 0, 0),
  (841, .iload_n 3, 0, 0),
  (842, .iconst 2, 0, 0),
  (843, .iadd, 0, 0),
  (844, .iaload, 0, 0),
  (845, .aload_n 0, 0, 0),
  (846, .iload_n 3, 0, 0),
  (847, .iconst 3, 0, 0),
  (848, .iadd, 0, 0),
  (849, .iaload, 0, 0),
  (850, .invokevirtual 104, 169, 1223),
  (853, .lcmp, 0, 0),
  (854, .ifCond .eq 590, 0, 0),
  (857, .iconst 0, 0, 0),
  (858, .ireturn, 0, 0),
  (859, .aload_n 1, 0, 0),
  (860, .aload_n 0, 0, 0),
  (861, .iload_n 3, 0, 0),
  (862, .iconst 1, 0, 0),
  (863, .iadd, 0, 0),
  (864, .iaload, 0, 0),
  (865, .aload_n 0, 0, 0),
  (866, .iload_n 3, 0, 0),
  (867, .iconst 2, 0, 0),
  (868, .iadd, 0, 0),
  (869, .iaload, 0, 0),
  (870, .aload_n 0, 0, 0),
  (871, .iload_n 3, 0, 0),
  (872, .iconst 3, 0, 0),
  (873, .iadd, 0, 0),
  (874, .iaload, 0, 0),
  (875, .invokevirtual 105, 73, 750),
  (878, .aload_n 2, 0, 0),
  (879, .aload_n 0, 0, 0),
  (880, .iload_n 3, 0, 0),
  (881, .iconst 1, 0, 0),
  (882, .iadd, 0, 0),
  (883, .iaload, 0, 0),
  (884, .aload_n 0, 0, 0),
  (885, .iload_n 3, 0, 0),
  (886, .iconst 2, 0, 0),
  (887, .iadd, 0, 0),
  (888, .iaload, 0, 0),
  (889, .aload_n 0, 0, 0),
  (890, .iload_n 3, 0, 0),
  (891, .iconst 3, 0, 0),
  (892, .iadd, 0, 0),
  (893, .iaload, 0, 0),
  (894, .invokevirtual 108, 171, 1227),
  (897, .lcmp, 0, 0),
  (898, .ifCond .eq 546, 0, 0),
  (901, .iconst 0, 0, 0),
  (902, .ireturn, 0, 0),
  (903, .aload_n 1, 0, 0),
  (904, .aload_n 0, 0, 0),
  (905, .iload_n 3, 0, 0),
  (906, .iconst 1, 0, 0),
  (907, .iadd, 0, 0),
  (908, .iaload, 0, 0),
  (909, .aload_n 0, 0, 0),
  (910, .iload_n 3, 0, 0),
  (911, .iconst 2, 0, 0),
  (912, .iadd, 0, 0),
  (913, .iaload, 0, 0),
  (914, .aload_n 0, 0, 0),
  (915, .iload_n 3, 0, 0),
  (916, .iconst 3, 0, 0),
  (917, .iadd, 0, 0),
  (918, .iaload, 0, 0),
  (919, .invokevirtual 109, 74, 757),
  (922, .aload_n 2, 0, 0),
  (923, .aload_n 0, 0, 0),
  (924, .iload_n 3, 0, 0),
  (925, .iconst 1, 0, 0),
  (926, .iadd, 0, 0),
  (927, .iaload, 0, 0),
  (928, .aload_n 0, 0, 0),
  (929, .iload_n 3, 0, 0),
  (930, .iconst 2, 0, 0),
  (931, .iadd, 0, 0),
  (932, .iaload, 0, 0),
  (933, .aload_n 0, 0, 0),
  (934, .iload_n 3, 0, 0),
  (935, .iconst 3, 0, 0),
  (936, .iadd, 0, 0),
  (937, .iaload, 0, 0),
  (938, .invokevirtual 112, 172, 1234),
  (941, .lcmp, 0, 0),
  (942, .ifCond .eq 502, 0, 0),
  (945, .iconst 0, 0, 0),
  (946, .ireturn, 0, 0),
  (947, .aload_n 1, 0, 0),
  (948, .aload_n 0, 0, 0),
  (949, .iload_n 3, 0, 0),
  (950, .iconst 1, 0, 0),
  (951, .iadd, 0, 0),
  (952, .iaload, 0, 0),
  (953, .invokevirtual 113, 75, 765),
  (956, .aload_n 2, 0, 0),
  (957, .aload_n 0, 0, 0),
  (958, .iload_n 3, 0, 0),
  (959, .iconst 1, 0, 0),
  (960, .iadd, 0, 0),
  (961, .iaload, 0, 0),
  (962, .invokevirtual 116, 174, 1238),
  (965, .if_icmp .eq 479, 0, 0),
  (968, .iconst 0, 0, 0),
  (969, .ireturn, 0, 0),
  (970, .aload_n 1, 0, 0),
  (971, .aload_n 0, 0, 0),
  (972, .iload_n 3, 0, 0),
  (973, .iconst 1, 0, 0),
  (974, .iadd, 0, 0),
  (975, .iaload, 0, 0),
  (976, .invokevirtual 117, 76, 781),
  (979, .aload_n 2, 0, 0),
  (980, .aload_n 0, 0, 0),
  (981, .iload_n 3, 0, 0),
  (982, .iconst 1, 0, 0),
  (983, .iadd, 0, 0),
  (984, .iaload, 0, 0),
  (985, .invokevirtual 120, 175, 1246),
  (988, .if_icmp .eq 456, 0, 0),
  (991, .iconst 0, 0, 0),
  (992, .ireturn, 0, 0),
  (993, .aload_n 1, 0, 0),
  (994, .aload_n 0, 0, 0),
  (995, .iload_n 3, 0, 0),
  (996, .iconst 1, 0, 0),
  (997, .iadd, 0, 0),
  (998, .iaload, 0, 0),
  (999, .invokevirtual 121, 77, 789),
  (1002, .aload_n 2, 0, 0),
  (1003, .aload_n 0, 0, 0),
  (1004, .iload_n 3, 0, 0),
  (1005, .iconst 1, 0, 0),
  (1006, .iadd, 0, 0),
  (1007, .iaload, 0, 0),
  (1008, .invokevirtual 124, 176, 1250),
  (1011, .if_icmp .eq 433, 0, 0),
  (1014, .iconst 0, 0, 0),
  (1015, .ireturn, 0, 0),
  (1016, .aload_n 1, 0, 0),
  (1017, .aload_n 0, 0, 0),
  (1018, .iload_n 3, 0, 0),
  (1019, .iconst 1, 0, 0),
  (1020, .iadd, 0, 0),
  (1021, .iaload, 0, 0),
  (1022, .aload_n 0, 0, 0),
  (1023, .iload_n 3, 0, 0),
  (1024, .iconst 2, 0, 0),
  (1025, .iadd, 0, 0),
  (1026, .iaload, 0, 0),
  (1027, .invokevirtual 125, 78, 793),
  (1030, .aload_n 2, 0, 0),
  (1031, .aload_n 0, 0, 0),
  (1032, .iload_n 3, 0, 0),
  (1033, .iconst 1, 0, 0),
  (1034, .iadd, 0, 0),
  (1035, .iaload, 0, 0),
  (1036, .aload_n 0, 0, 0),
  (1037, .iload_n 3, 0, 0),
  (1038, .iconst 2, 0, 0),
  (1039, .iadd, 0, 0),
  (1040, .iaload, 0, 0),
  (1041, .invokevirtual 128, 178, 1254),
  (1044, .lcmp, 0, 0),
  (1045, .ifCond .eq 399, 0, 0),
  (1048, .iconst 0, 0, 0),
  (1049, .ireturn, 0, 0),
  (1050, .aload_n 1, 0, 0),
  (1051, .aload_n 0, 0, 0),
  (1052, .iload_n 3, 0, 0),
  (1053, .iconst 1, 0, 0),
  (1054, .iadd, 0, 0),
  (1055, .iaload, 0, 0),
  (1056, .invokevirtual 129, 79, 797),
  (1059, .aload_n 2, 0, 0),
  (1060, .aload_n 0, 0, 0),
  (1061, .iload_n 3, 0, 0),
  (1062, .iconst 1, 0, 0),
  (1063, .iadd, 0, 0),
  (1064, .iaload, 0, 0),
  (1065, .invokevirtual 132, 179, 1262),
  (1068, .if_icmp .eq 376, 0, 0),
  (1071, .iconst 0, 0, 0),
  (1072, .ireturn, 0, 0),
  (1073, .aload_n 1, 0, 0),
  (1074, .aload_n 0, 0, 0),
  (1075, .iload_n 3, 0, 0),
  (1076, .iconst 1, 0, 0),
  (1077, .iadd, 0, 0),
  (1078, .iaload, 0, 0),
  (1079, .aload_n 0, 0, 0),
  (1080, .iload_n 3, 0, 0),
  (1081, .iconst 2, 0, 0),
  (1082, .iadd, 0, 0),
  (1083, .iaload, 0, 0),
  (1084, .invokevirtual 133, 80, 801),
  (1087, .aload_n 2, 0, 0),
  (1088, .aload_n 0, 0, 0),
  (1089, .iload_n 3, 0, 0),
  (1090, .iconst 1, 0, 0),
  (1091, .iadd, 0, 0),
  (1092, .iaload, 0, 0),
  (1093, .aload_n 0, 0, 0),
  (1094, .iload_n 3, 0, 0),
  (1095, .iconst 2, 0, 0),
  (1096, .iadd, 0, 0),
  (1097, .iaload, 0, 0),
  (1098, .invokevirtual 136, 180, 1266),
  (1101, .if_icmp .eq 343, 0, 0),
  (1104, .iconst 0, 0, 0),
  (1105, .ireturn, 0, 0),
  (1106, .aload_n 1, 0, 0),
  (1107, .aload_n 0, 0, 0),
  (1108, .iload_n 3, 0, 0),
  (1109, .iconst 1, 0, 0),
  (1110, .iadd, 0, 0),
  (1111, .iaload, 0, 0),
  (1112, .aload_n 0, 0, 0),
  (1113, .iload_n 3, 0, 0),
  (1114, .iconst 2, 0, 0),
  (1115, .iadd, 0, 0),
  (1116, .iaload, 0, 0),
  (1117, .invokevirtual 137, 81, 814),
  (1120, .aload_n 2, 0, 0),
  (1121, .aload_n 0, 0, 0),
  (1122, .iload_n 3, 0, 0),
  (1123, .iconst 1, 0, 0),
  (1124, .iadd, 0, 0),
  (1125, .iaload, 0, 0),
  (1126, .aload_n 0, 0, 0),
  (1127, .iload_n 3, 0, 0),
  (1128, .iconst 2, 0, 0),
  (1129, .iadd, 0, 0),
  (1130, .iaload, 0, 0),
  (1131, .invokevirtual 140, 182, 1270),
  (1134, .if_icmp .eq 310, 0, 0),
  (1137, .iconst 0, 0, 0),
  (1138, .ireturn, 0, 0),
  (1139, .aload_n 1, 0, 0),
  (1140, .aload_n 0, 0, 0),
  (1141, .iload_n 3, 0, 0),
  (1142, .iconst 1, 0, 0),
  (1143, .iadd, 0, 0),
  (1144, .iaload, 0, 0),
  (1145, .aload_n 0, 0, 0),
  (1146, .iload_n 3, 0, 0),
  (1147, .iconst 2, 0, 0),
  (1148, .iadd, 0, 0),
  (1149, .iaload, 0, 0),
  (1150, .aload_n 0, 0, 0),
  (1151, .iload_n 3, 0, 0),
  (1152, .iconst 3, 0, 0),
  (1153, .iadd, 0, 0),
  (1154, .iaload, 0, 0),
  (1155, .invokevirtual 141, 82, 829),
  (1158, .aload_n 2, 0, 0),
  (1159, .aload_n 0, 0, 0),
  (1160, .iload_n 3, 0, 0),
  (1161, .iconst 1, 0, 0),
  (1162, .iadd, 0, 0),
  (1163, .iaload, 0, 0),
  (1164, .aload_n 0, 0, 0),
  (1165, .iload_n 3, 0, 0),
  (1166, .iconst 2, 0, 0),
  (1167, .iadd, 0, 0),
  (1168, .iaload, 0, 0),
  (1169, .aload_n 0, 0, 0),
  (1170, .iload_n 3, 0, 0),
  (1171, .iconst 3, 0, 0),
  (1172, .iadd, 0, 0),
  (1173, .iaload, 0, 0),
  (1174, .invokevirtual 144, 183, 1281),
  (1177, .lcmp, 0, 0),
  (1178, .ifCond .eq 266, 0, 0),
  (1181, .iconst 0, 0, 0),
  (1182, .ireturn, 0, 0),
  (1183, .aload_n 1, 0, 0),
  (1184, .invokevirtual 145, 83, 833),
  (1187, .aload_n 2, 0, 0),
  (1188, .invokevirtual 148, 184, 1285),
  (1191, .if_icmp .eq 253, 0, 0),
  (1194, .iconst 0, 0, 0),
  (1195, .ireturn, 0, 0),
  (1196, .aload_n 1, 0, 0),
  (1197, .invokevirtual 149, 84, 842),
  (1200, .aload_n 2, 0, 0),
  (1201, .invokevirtual 152, 185, 1289),
  (1204, .if_icmp .eq 240, 0, 0),
  (1207, .iconst 0, 0, 0),
  (1208, .ireturn, 0, 0),
  (1209, .aload_n 1, 0, 0),
  (1210, .aload_n 0, 0, 0),
  (1211, .iload_n 3, 0, 0),
  (1212, .iconst 1, 0, 0),
  (1213, .iadd, 0, 0),
  (1214, .iaload, 0, 0),
  (1215, .aload_n 0, 0, 0),
  (1216, .iload_n 3, 0, 0),
  (1217, .iconst 2, 0, 0),
  (1218, .iadd, 0, 0),
  (1219, .iaload, 0, 0),
  (1220, .aload_n 0, 0, 0),
  (1221, .iload_n 3, 0, 0),
  (1222, .iconst 3, 0, 0),
  (1223, .iadd, 0, 0),
  (1224, .iaload, 0, 0),
  (1225, .invokevirtual 153, 85, 846),
  (1228, .aload_n 2, 0, 0),
  (1229, .aload_n 0, 0, 0),
  (1230, .iload_n 3, 0, 0),
  (1231, .iconst 1, 0, 0),
  (1232, .iadd, 0, 0),
  (1233, .iaload, 0, 0),
  (1234, .aload_n 0, 0, 0),
  (1235, .iload_n 3, 0, 0),
  (1236, .iconst 2, 0, 0),
  (1237, .iadd, 0, 0),
  (1238, .iaload, 0, 0),
  (1239, .aload_n 0, 0, 0),
  (1240, .iload_n 3, 0, 0),
  (1241, .iconst 3, 0, 0),
  (1242, .iadd, 0, 0),
  (1243, .iaload, 0, 0),
  (1244, .invokevirtual 156, 186, 1293),
  (1247, .if_icmp .eq 197, 0, 0),
  (1250, .iconst 0, 0, 0),
  (1251, .ireturn, 0, 0),
  (1252, .aload_n 1, 0, 0),
  (1253, .aload_n 0, 0, 0),
  (1254, .iload_n 3, 0, 0),
  (1255, .iconst 1, 0, 0),
  (1256, .iadd, 0, 0),
  (1257, .iaload, 0, 0),
  (1258, .aload_n 0, 0, 0),
  (1259, .iload_n 3, 0, 0),
  (1260, .iconst 2, 0, 0),
  (1261, .iadd, 0, 0),
  (1262, .iaload, 0, 0),
  (1263, .aload_n 0, 0, 0),
  (1264, .iload_n 3, 0, 0),
  (1265, .iconst 3, 0, 0),
  (1266, .iadd, 0, 0),
  (1267, .iaload, 0, 0),
  (1268, .invokevirtual 157, 86, 850),
  (1271, .aload_n 2, 0, 0),
  (1272, .aload_n 0, 0, 0),
  (1273, .iload_n 3, 0, 0),
  (1274, .iconst 1, 0, 0),
  (1275, .iadd, 0, 0),
  (1276, .iaload, 0, 0),
  (1277, .aload_n 0, 0, 0),
  (1278, .iload_n 3, 0, 0),
  (1279, .iconst 2, 0, 0),
  (1280, .iadd, 0, 0),
  (1281, .iaload, 0, 0),
  (1282, .aload_n 0, 0, 0),
  (1283, .iload_n 3, 0, 0),
  (1284, .iconst 3, 0, 0),
  (1285, .iadd, 0, 0),
  (1286, .iaload, 0, 0),
  (1287, .invokevirtual 160, 187, 1297),
  (1290, .if_icmp .eq 154, 0, 0),
  (1293, .iconst 0, 0, 0),
  (1294, .ireturn, 0, 0),
  (1295, .aload_n 1, 0, 0),
  (1296, .aload_n 0, 0, 0),
  (1297, .iload_n 3, 0, 0),
  (1298, .iconst 1, 0, 0),
  (1299, .iadd, 0, 0),
  (1300, .iaload, 0, 0),
  (1301, .aload_n 0, 0, 0),
  (1302, .iload_n 3, 0, 0),
  (1303, .iconst 2, 0, 0),
  (1304, .iadd, 0, 0),
  (1305, .iaload, 0, 0),
  (1306, .aload_n 0, 0, 0),
  (1307, .iload_n 3, 0, 0),
  (1308, .iconst 3, 0, 0),
  (1309, .iadd, 0, 0),
  (1310, .iaload, 0, 0),
  (1311, .aload_n 0, 0, 0),
  (1312, .iload_n 3, 0, 0),
  (1313, .iconst 4, 0, 0),
  (1314, .iadd, 0, 0),
  (1315, .iaload, 0, 0),
  (1316, .aload_n 0, 0, 0),
  (1317, .iload_n 3, 0, 0),
  (1318, .iconst 5, 0, 0),
  (1319, .iadd, 0, 0),
  (1320, .iaload, 0, 0),
  (1321, .invokevirtual 161, 87, 854),
  (1324, .aload_n 2, 0, 0),
  (1325, .aload_n 0, 0, 0),
  (1326, .iload_n 3, 0, 0),
  (1327, .iconst 1, 0, 0),
  (1328, .iadd, 0, 0),
  (1329, .iaload, 0, 0),
  (1330, .aload_n 0, 0, 0),
  (1331, .iload_n 3, 0, 0),
  (1332, .iconst 2, 0, 0),
  (1333, .iadd, 0, 0),
  (1334, .iaload, 0, 0),
  (1335, .aload_n 0, 0, 0),
  (1336, .iload_n 3, 0, 0),
  (1337, .iconst 3, 0, 0),
  (1338, .iadd, 0, 0),
  (1339, .iaload, 0, 0),
  (1340, .aload_n 0, 0, 0),
  (1341, .iload_n 3, 0, 0),
  (1342, .iconst 4, 0, 0),
  (1343, .iadd, 0, 0),
  (1344, .iaload, 0, 0),
  (1345, .aload_n 0, 0, 0),
  (1346, .iload_n 3, 0, 0),
  (1347, .iconst 5, 0, 0),
  (1348, .iadd, 0, 0),
  (1349, .iaload, 0, 0),
  (1350, .invokevirtual 165, 188, 1301),
  (1353, .if_icmp .eq 91, 0, 0),
  (1356, .iconst 0, 0, 0),
  (1357, .ireturn, 0, 0),
  (1358, .aload_n 1, 0, 0),
  (1359, .aload_n 0, 0, 0),
  (1360, .iload_n 3, 0, 0),
  (1361, .iconst 1, 0, 0),
  (1362, .iadd, 0, 0),
  (1363, .iaload, 0, 0),
  (1364, .aload_n 0, 0, 0),
  (1365, .iload_n 3, 0, 0),
  (1366, .iconst 2, 0, 0),
  (1367, .iadd, 0, 0),
  (1368, .iaload, 0, 0),
  (1369, .aload_n 0, 0, 0),
  (1370, .iload_n 3, 0, 0),
  (1371, .iconst 3, 0, 0),
  (1372, .iadd, 0, 0),
  (1373, .iaload, 0, 0),
  (1374, .aload_n 0, 0, 0),
  (1375, .iload_n 3, 0, 0),
  (1376, .iconst 4, 0, 0),
  (1377, .iadd, 0, 0),
  (1378, .iaload, 0, 0),
  (1379, .invokevirtual 166, 88, 863),
  (1382, .aload_n 2, 0, 0),
  (1383, .aload_n 0, 0, 0),
  (1384, .iload_n 3, 0, 0),
  (1385, .iconst 1, 0, 0),
  (1386, .iadd, 0, 0),
  (1387, .iaload, 0, 0),
  (1388, .aload_n 0, 0, 0),
  (1389, .iload_n 3, 0, 0),
  (1390, .iconst 2, 0, 0),
  (1391, .iadd, 0, 0),
  (1392, .iaload, 0, 0),
  (1393, .aload_n 0, 0, 0),
  (1394, .iload_n 3, 0, 0),
  (1395, .iconst 3, 0, 0),
  (1396, .iadd, 0, 0),
  (1397, .iaload, 0, 0),
  (1398, .aload_n 0, 0, 0),
  (1399, .iload_n 3, 0, 0),
  (1400, .iconst 4, 0, 0),
  (1401, .iadd, 0, 0),
  (1402, .iaload, 0, 0),
  (1403, .invokevirtual 169, 189, 1305),
  (1406, .if_icmp .eq 38, 0, 0),
  (1409, .iconst 0, 0, 0),
  (1410, .ireturn, 0, 0),
  (1411, .aload_n 1, 0, 0),
  (1412, .aload_n 0, 0, 0),
  (1413, .iload_n 3, 0, 0),
  (1414, .iconst 1, 0, 0),
  (1415, .iadd, 0, 0),
  (1416, .iaload, 0, 0),
  (1417, .aload_n 0, 0, 0),
  (1418, .iload_n 3, 0, 0),
  (1419, .iconst 2, 0, 0),
  (1420, .iadd, 0, 0),
  (1421, .iaload, 0, 0),
  (1422, .invokevirtual 170, 89, 867),
  (1425, .aload_n 2, 0, 0),
  (1426, .aload_n 0, 0, 0),
  (1427, .iload_n 3, 0, 0),
  (1428, .iconst 1, 0, 0),
  (1429, .iadd, 0, 0),
  (1430, .iaload, 0, 0),
  (1431, .aload_n 0, 0, 0),
  (1432, .iload_n 3, 0, 0),
  (1433, .iconst 2, 0, 0),
  (1434, .iadd, 0, 0),
  (1435, .iaload, 0, 0),
  (1436, .invokevirtual 173, 191, 1310),
  (1439, .if_icmp .eq 5, 0, 0),
  (1442, .iconst 0, 0, 0),
  (1443, .ireturn, 0, 0),
  (1444, .iinc 3 7, 0, 0),
  (1447, .goto (-1429), 0, 0),
  (1450, .iconst 1, 0, 0),
  (1451, .ireturn, 0, 0)]
def xe_0 : XMe := ("BetweenThisAndThatLaw", ⟨"BetweenThisAndThatLaw", "law", "([I)Z"⟩, code, 4, ret, 0, 1, (0, 0, 0, 61))
def xi_1 : List XIn := [(0, .aload_n 0, 0, 0),
  (1, .invokespecial 1, 8888, 246),
  (4, .aload_n 0, 0, 0),
  (5, .iconst 0, 0, 0),
  (6, .putfield 7, 0, 247),
  (9, .aload_n 0, 0, 0),
  (10, .iconst 0, 0, 0),
  (11, .putfield 13, 1, 250),
  (14, .aload_n 0, 0, 0),
  (15, .iconst 0, 0, 0),
  (16, .putfield 16, 2, 253),
  (19, .aload_n 0, 0, 0),
  (20, .iconst 0, 0, 0),
  (21, .putfield 19, 3, 256),
  (24, .return_, 0, 0)]
def xe_1 : XMe := ("BetweenThisAndThat$Link", ⟨"BetweenThisAndThat$Link", "<init>", "()V"⟩, prog_2_method_1_code, 1, none, 200, 0, (245, 244, 0, 68))
def xi_2 : List XIn := [(0, .aload_n 0, 0, 0),
  (1, .iload_n 1, 0, 0),
  (2, .putfield 7, 0, 247),
  (5, .aload_n 0, 0, 0),
  (6, .iload_n 2, 0, 0),
  (7, .putfield 13, 1, 250),
  (10, .aload_n 0, 0, 0),
  (11, .iload_n 3, 0, 0),
  (12, .putfield 16, 2, 253),
  (15, .aload_n 0, 0, 0),
  (16, .iload 4, 0, 0),
  (18, .putfield 19, 3, 256),
  (21, .return_, 0, 0)]
def xe_2 : XMe := ("BetweenThisAndThat$Link", ⟨"BetweenThisAndThat$Link", "becomes", "(IIII)V"⟩, prog_2_method_2_code, 5, none, 100, 4, (604, 602, 603, 68))
def xi_3 : List XIn := [(0, .aload_n 1, 0, 0),
  (1, .aload_n 0, 0, 0),
  (2, .getfield 13, 1, 250),
  (5, .iaload, 0, 0),
  (6, .i2l, 0, 0),
  (7, .aload_n 1, 0, 0),
  (8, .aload_n 0, 0, 0),
  (9, .getfield 7, 0, 247),
  (12, .iaload, 0, 0),
  (13, .i2l, 0, 0),
  (14, .lsub, 0, 0),
  (15, .lstore_n 2, 0, 0),
  (16, .aload_n 0, 0, 0),
  (17, .getfield 16, 2, 253),
  (20, .i2l, 0, 0),
  (21, .lload_n 2, 0, 0),
  (22, .lcmp, 0, 0),
  (23, .ifCond .gt 17, 0, 0),
  (26, .lload_n 2, 0, 0),
  (27, .aload_n 0, 0, 0),
  (28, .getfield 19, 3, 256),
  (31, .i2l, 0, 0),
  (32, .lcmp, 0, 0),
  (33, .ifCond .gt 7, 0, 0),
  (36, .iconst 1, 0, 0),
  (37, .goto 4, 0, 0),
  (40, .iconst 0, 0, 0),
  (41, .ireturn, 0, 0)]
def xe_3 : XMe := ("BetweenThisAndThat$Link", ⟨"BetweenThisAndThat$Link", "holds", "([I)Z"⟩, prog_2_method_3_code, 4, some (Jvm.ClassFile.FieldType.boolean), 100, 1, (788, 786, 787, 68))
def xi_4 : List XIn := [(0, .aload_n 0, 0, 0),
  (1, .invokespecial 3, 8888, 161),
  (4, .aload_n 0, 0, 0),
  (5, .sipush 160, 0, 0),
  (8, .newarray .int, 0, 0),
  (10, .putfield 9, 4, 183),
  (13, .aload_n 0, 0, 0),
  (14, .iconst 0, 0, 0),
  (15, .putfield 15, 5, 184),
  (18, .aload_n 0, 0, 0),
  (19, .new 19, 5, 162),
  (22, .dup, 0, 0),
  (23, .invokespecial 21, 10041, 164),
  (26, .putfield 22, 6, 186),
  (29, .aload_n 0, 0, 0),
  (30, .iconst 0, 0, 0),
  (31, .putfield 26, 7, 188),
  (34, .aload_n 0, 0, 0),
  (35, .iconst 0, 0, 0),
  (36, .putfield 29, 8, 190),
  (39, .aload_n 0, 0, 0),
  (40, .iconst 0, 0, 0),
  (41, .putfield 32, 9, 191),
  (44, .aload_n 0, 0, 0),
  (45, .iconst 0, 0, 0),
  (46, .putfield 35, 10, 192),
  (49, .aload_n 0, 0, 0),
  (50, .iconst 0, 0, 0),
  (51, .putfield 38, 11, 193),
  (54, .return_, 0, 0)]
def xe_4 : XMe := ("BetweenThisAndThat$Reade\x72", ⟨"BetweenThisAndThat$Reade\x72", "<init>", "()V"⟩, prog_3_method_1_code, 1, none, 201, 0, (160, 159, 0, 65))
def xi_5 : List XIn := [(0, .aload_n 0, 0, 0),
  (1, .getfield 15, 5, 184),
  (4, .aload_n 0, 0, 0),
  (5, .getfield 9, 4, 183),
  (8, .arraylength, 0, 0),
  (9, .if_icmp .ge 23, 0, 0),
  (12, .aload_n 0, 0, 0),
  (13, .getfield 9, 4, 183),
  (16, .aload_n 0, 0, 0),
  (17, .getfield 15, 5, 184),
  (20, .iload_n 1, 0, 0),
  (21, .iastore, 0, 0),
  (22, .aload_n 0, 0, 0),
  (23, .dup, 0, 0),
  (24, .getfield 15, 5, 184),
  (27, .iconst 1, 0, 0),
  (28, .iadd, 0, 0),
  (29, .putfield 15, 5, 184),
  (32, .return_, 0, 0)]
def xe_5 : XMe := ("BetweenThisAndThat$Reade\x72", ⟨"BetweenThisAndThat$Reade\x72", "append", "(I)V"⟩, prog_3_method_2_code, 2, none, 101, 1, (339, 337, 338, 65))
def xi_6 : List XIn := [(0, .aload_n 0, 0, 0),
  (1, .getfield 22, 6, 186),
  (4, .invokevirtual 41, 42, 344),
  (7, .aload_n 0, 0, 0),
  (8, .iconst 0, 0, 0),
  (9, .putfield 38, 11, 193),
  (12, .aload_n 0, 0, 0),
  (13, .iconst 0, 0, 0),
  (14, .putfield 29, 8, 190),
  (17, .aload_n 0, 0, 0),
  (18, .invokevirtual 44, 15, 348),
  (21, .aload_n 0, 0, 0),
  (22, .iconst 0, 0, 0),
  (23, .invokevirtual 47, 7, 438),
  (26, .ifCond .eq 30, 0, 0),
  (29, .aload_n 0, 0, 0),
  (30, .iconst 1, 0, 0),
  (31, .invokevirtual 47, 7, 438),
  (34, .ifCond .eq 22, 0, 0),
  (37, .aload_n 0, 0, 0),
  (38, .iconst 2, 0, 0),
  (39, .invokevirtual 47, 7, 438),
  (42, .ifCond .eq 14, 0, 0),
  (45, .aload_n 0, 0, 0),
  (46, .getfield 32, 9, 191),
  (49, .ifCond .ne 7, 0, 0),
  (52, .iconst 1, 0, 0),
  (53, .goto 4, 0, 0),
  (56, .iconst 0, 0, 0),
  (57, .istore_n 1, 0, 0),
  (58, .aload_n 0, 0, 0),
  (59, .iconst 0, 0, 0),
  (60, .putfield 15, 5, 184),
  (63, .iload_n 1, 0, 0),
  (64, .ireturn, 0, 0)]
def xe_6 : XMe := ("BetweenThisAndThat$Reade\x72", ⟨"BetweenThisAndThat$Reade\x72", "read", "()Z"⟩, prog_3_method_3_code, 2, some (Jvm.ClassFile.FieldType.boolean), 101, 0, (343, 341, 342, 65))
def xi_7 : List XIn := [(0, .aload_n 0, 0, 0),
  (1, .getfield 32, 9, 191),
  (4, .bipush 7, 0, 0),
  (6, .iload_n 1, 0, 0),
  (7, .iadd, 0, 0),
  (8, .if_icmp .eq 5, 0, 0),
  (11, .iconst 0, 0, 0),
  (12, .ireturn, 0, 0),
  (13, .aload_n 0, 0, 0),
  (14, .invokevirtual 44, 15, 348),
  (17, .aload_n 0, 0, 0),
  (18, .invokevirtual 51, 8, 442),
  (21, .ifCond .eq 12, 0, 0),
  (24, .aload_n 0, 0, 0),
  (25, .getfield 32, 9, 191),
  (28, .bipush 59, 0, 0),
  (30, .if_icmp .eq 5, 0, 0),
  (33, .iconst 0, 0, 0),
  (34, .ireturn, 0, 0),
  (35, .aload_n 0, 0, 0),
  (36, .invokevirtual 44, 15, 348),
  (39, .aload_n 0, 0, 0),
  (40, .getfield 22, 6, 186),
  (43, .iload_n 1, 0, 0),
  (44, .invokevirtual 55, 44, 474),
  (47, .iconst 1, 0, 0),
  (48, .ireturn, 0, 0)]
def xe_7 : XMe := ("BetweenThisAndThat$Reade\x72", ⟨"BetweenThisAndThat$Reade\x72", "readPart", "(I)Z"⟩, prog_3_method_4_code, 2, some (Jvm.ClassFile.FieldType.boolean), 101, 1, (441, 440, 4, 65))
def xi_8 : List XIn := [(0, .aload_n 0, 0, 0),
  (1, .invokevirtual 59, 9, 446),
  (4, .ifCond .ne 5, 0, 0),
  (7, .iconst 0, 0, 0),
  (8, .ireturn, 0, 0),
  (9, .iconst 0, 0, 0),
  (10, .istore_n 1, 0, 0),
  (11, .iload_n 1, 0, 0),
  (12, .sipush 160, 0, 0),
  (15, .if_icmp .ge 38, 0, 0),
  (18, .aload_n 0, 0, 0),
  (19, .getfield 32, 9, 191),
  (22, .iconst 4, 0, 0),
  (23, .if_icmp .ne 30, 0, 0),
  (26, .aload_n 0, 0, 0),
  (27, .invokevirtual 44, 15, 348),
  (30, .aload_n 0, 0, 0),
  (31, .invokevirtual 59, 9, 446),
  (34, .ifCond .ne 5, 0, 0),
  (37, .iconst 0, 0, 0),
  (38, .ireturn, 0, 0),
  (39, .aload_n 0, 0, 0),
  (40, .getfield 22, 6, 186),
  (43, .iconst (-1), 0, 0),
  (44, .invokevirtual 62, 43, 458),
  (47, .iinc 1 1, 0, 0),
  (50, .goto (-39), 0, 0),
  (53, .iconst 1, 0, 0),
  (54, .ireturn, 0, 0)]
def xe_8 : XMe := ("BetweenThisAndThat$Reade\x72", ⟨"BetweenThisAndThat$Reade\x72", "readAny", "()Z"⟩, prog_3_method_5_code, 2, some (Jvm.ClassFile.FieldType.boolean), 101, 0, (445, 444, 5, 65))
def xi_9 : List XIn := [(0, .aload_n 0, 0, 0),
  (1, .invokevirtual 65, 10, 450),
  (4, .ifCond .ne 5, 0, 0),
  (7, .iconst 0, 0, 0),
  (8, .ireturn, 0, 0),
  (9, .iconst 0, 0, 0),
  (10, .istore_n 1, 0, 0),
  (11, .iload_n 1, 0, 0),
  (12, .sipush 160, 0, 0),
  (15, .if_icmp .ge 39, 0, 0),
  (18, .aload_n 0, 0, 0),
  (19, .getfield 32, 9, 191),
  (22, .iconst 5, 0, 0),
  (23, .if_icmp .ne 31, 0, 0),
  (26, .aload_n 0, 0, 0),
  (27, .invokevirtual 44, 15, 348),
  (30, .aload_n 0, 0, 0),
  (31, .invokevirtual 65, 10, 450),
  (34, .ifCond .ne 5, 0, 0),
  (37, .iconst 0, 0, 0),
  (38, .ireturn, 0, 0),
  (39, .aload_n 0, 0, 0),
  (40, .getfield 22, 6, 186),
  (43, .bipush (-2), 0, 0),
  (45, .invokevirtual 62, 43, 458),
  (48, .iinc 1 1, 0, 0),
  (51, .goto (-40), 0, 0),
  (54, .iconst 1, 0, 0),
  (55, .ireturn, 0, 0)]
def xe_9 : XMe := ("BetweenThisAndThat$Reade\x72", ⟨"BetweenThisAndThat$Reade\x72", "readAll", "()Z"⟩, prog_3_method_6_code, 2, some (Jvm.ClassFile.FieldType.boolean), 101, 0, (449, 448, 6, 65))
def xi_10 : List XIn := [(0, .aload_n 0, 0, 0),
  (1, .getfield 32, 9, 191),
  (4, .bipush 6, 0, 0),
  (6, .if_icmp .ne 46, 0, 0),
  (9, .aload_n 0, 0, 0),
  (10, .invokevirtual 68, 14, 454),
  (13, .ifCond .ne 5, 0, 0),
  (16, .iconst 0, 0, 0),
  (17, .ireturn, 0, 0),
  (18, .aload_n 0, 0, 0),
  (19, .invokevirtual 44, 15, 348),
  (22, .aload_n 0, 0, 0),
  (23, .invokevirtual 65, 10, 450),
  (26, .ifCond .ne 5, 0, 0),
  (29, .iconst 0, 0, 0),
  (30, .ireturn, 0, 0),
  (31, .aload_n 0, 0, 0),
  (32, .dup, 0, 0),
  (33, .getfield 38, 11, 193),
  (36, .iconst 1, 0, 0),
  (37, .isub, 0, 0),
  (38, .putfield 38, 11, 193),
  (41, .aload_n 0, 0, 0),
  (42, .getfield 22, 6, 186),
  (45, .bipush (-3), 0, 0),
  (47, .invokevirtual 62, 43, 458),
  (50, .iconst 1, 0, 0),
  (51, .ireturn, 0, 0),
  (52, .aload_n 0, 0, 0),
  (53, .invokevirtual 71, 11, 462),
  (56, .ifCond .ne 5, 0, 0),
  (59, .iconst 0, 0, 0),
  (60, .ireturn, 0, 0),
  (61, .aload_n 0, 0, 0),
  (62, .getfield 32, 9, 191),
  (65, .bipush 60, 0, 0),
  (67, .if_icmp .eq 14, 0, 0),
  (70, .aload_n 0, 0, 0),
  (71, .getfield 32, 9, 191),
  (74, .bipush 61, 0, 0),
  (76, .if_icmp .eq 5, 0, 0),
  (79, .iconst 1, 0, 0),
  (80, .ireturn, 0, 0),
  (81, .aload_n 0, 0, 0),
  (82, .getfield 32, 9, 191),
  (85, .bipush 60, 0, 0),
  (87, .if_icmp .ne 8, 0, 0),
  (90, .bipush (-4), 0, 0),
  (92, .goto 5, 0, 0),
  (95, .bipush (-5), 0, 0),
  (97, .istore_n 1, 0, 0),
  (98, .aload_n 0, 0, 0),
  (99, .invokevirtual 44, 15, 348),
  (102, .aload_n 0, 0, 0),
  (103, .invokevirtual 71, 11, 462),
  (106, .ifCond .ne 5, 0, 0),
  (109, .iconst 0, 0, 0),
  (110, .ireturn, 0, 0),
  (111, .aload_n 0, 0, 0),
  (112, .getfield 22, 6, 186),
  (115, .iload_n 1, 0, 0),
  (116, .invokevirtual 62, 43, 458),
  (119, .iconst 1, 0, 0),
  (120, .ireturn, 0, 0)]
def xe_10 : XMe := ("BetweenThisAndThat$Reade\x72", ⟨"BetweenThisAndThat$Reade\x72", "readNot", "()Z"⟩, prog_3_method_7_code, 2, some (Jvm.ClassFile.FieldType.boolean), 101, 0, (453, 452, 7, 65))
def xi_11 : List XIn := [(0, .aload_n 0, 0, 0),
  (1, .invokevirtual 74, 12, 466),
  (4, .ifCond .ne 5, 0, 0),
  (7, .iconst 0, 0, 0),
  (8, .ireturn, 0, 0),
  (9, .iconst 0, 0, 0),
  (10, .istore_n 1, 0, 0),
  (11, .iload_n 1, 0, 0),
  (12, .sipush 160, 0, 0),
  (15, .if_icmp .ge 65, 0, 0),
  (18, .aload_n 0, 0, 0),
  (19, .getfield 32, 9, 191),
  (22, .bipush 43, 0, 0),
  (24, .if_icmp .eq 12, 0, 0),
  (27, .aload_n 0, 0, 0),
  (28, .getfield 32, 9, 191),
  (31, .bipush 45, 0, 0),
  (33, .if_icmp .ne 47, 0, 0),
  (36, .aload_n 0, 0, 0),
  (37, .getfield 32, 9, 191),
  (40, .bipush 43, 0, 0),
  (42, .if_icmp .ne 8, 0, 0),
  (45, .bipush (-6), 0, 0),
  (47, .goto 5, 0, 0),
  (50, .bipush (-7), 0, 0),
  (52, .istore_n 2, 0, 0),
  (53, .aload_n 0, 0, 0),
  (54, .invokevirtual 44, 15, 348),
  (57, .aload_n 0, 0, 0),
  (58, .invokevirtual 74, 12, 466),
  (61, .ifCond .ne 5, 0, 0),
  (64, .iconst 0, 0, 0),
  (65, .ireturn, 0, 0),
  (66, .aload_n 0, 0, 0),
  (67, .getfield 22, 6, 186),
  (70, .iload_n 2, 0, 0),
  (71, .invokevirtual 62, 43, 458),
  (74, .iinc 1 1, 0, 0),
  (77, .goto (-66), 0, 0),
  (80, .iconst 1, 0, 0),
  (81, .ireturn, 0, 0)]
def xe_11 : XMe := ("BetweenThisAndThat$Reade\x72", ⟨"BetweenThisAndThat$Reade\x72", "readSum", "()Z"⟩, prog_3_method_8_code, 3, some (Jvm.ClassFile.FieldType.boolean), 101, 0, (465, 464, 9, 65))
def xi_12 : List XIn := [(0, .aload_n 0, 0, 0),
  (1, .invokevirtual 77, 13, 470),
  (4, .ifCond .ne 5, 0, 0),
  (7, .iconst 0, 0, 0),
  (8, .ireturn, 0, 0),
  (9, .iconst 0, 0, 0),
  (10, .istore_n 1, 0, 0),
  (11, .iload_n 1, 0, 0),
  (12, .sipush 160, 0, 0),
  (15, .if_icmp .ge 40, 0, 0),
  (18, .aload_n 0, 0, 0),
  (19, .getfield 32, 9, 191),
  (22, .bipush 42, 0, 0),
  (24, .if_icmp .ne 31, 0, 0),
  (27, .aload_n 0, 0, 0),
  (28, .invokevirtual 44, 15, 348),
  (31, .aload_n 0, 0, 0),
  (32, .invokevirtual 77, 13, 470),
  (35, .ifCond .ne 5, 0, 0),
  (38, .iconst 0, 0, 0),
  (39, .ireturn, 0, 0),
  (40, .aload_n 0, 0, 0),
  (41, .getfield 22, 6, 186),
  (44, .bipush (-8), 0, 0),
  (46, .invokevirtual 62, 43, 458),
  (49, .iinc 1 1, 0, 0),
  (52, .goto (-41), 0, 0),
  (55, .iconst 1, 0, 0),
  (56, .ireturn, 0, 0)]
def xe_12 : XMe := ("BetweenThisAndThat$Reade\x72", ⟨"BetweenThisAndThat$Reade\x72", "readTerm", "()Z"⟩, prog_3_method_9_code, 2, some (Jvm.ClassFile.FieldType.boolean), 101, 0, (469, 468, 10, 65))
def xi_13 : List XIn := [(0, .aload_n 0, 0, 0),
  (1, .getfield 32, 9, 191),
  (4, .iconst 2, 0, 0),
  (5, .if_icmp .eq 11, 0, 0),
  (8, .aload_n 0, 0, 0),
  (9, .getfield 32, 9, 191),
  (12, .iconst 3, 0, 0),
  (13, .if_icmp .ne 39, 0, 0),
  (16, .aload_n 0, 0, 0),
  (17, .getfield 22, 6, 186),
  (20, .aload_n 0, 0, 0),
  (21, .getfield 32, 9, 191),
  (24, .iconst 2, 0, 0),
  (25, .if_icmp .ne 10, 0, 0),
  (28, .aload_n 0, 0, 0),
  (29, .getfield 35, 10, 192),
  (32, .goto 11, 0, 0),
  (35, .sipush 10000, 0, 0),
  (38, .aload_n 0, 0, 0),
  (39, .getfield 35, 10, 192),
  (42, .iadd, 0, 0),
  (43, .invokevirtual 62, 43, 458),
  (46, .aload_n 0, 0, 0),
  (47, .invokevirtual 44, 15, 348),
  (50, .iconst 1, 0, 0),
  (51, .ireturn, 0, 0),
  (52, .aload_n 0, 0, 0),
  (53, .getfield 32, 9, 191),
  (56, .bipush 45, 0, 0),
  (58, .if_icmp .ne 46, 0, 0),
  (61, .aload_n 0, 0, 0),
  (62, .invokevirtual 68, 14, 454),
  (65, .ifCond .ne 5, 0, 0),
  (68, .iconst 0, 0, 0),
  (69, .ireturn, 0, 0),
  (70, .aload_n 0, 0, 0),
  (71, .invokevirtual 44, 15, 348),
  (74, .aload_n 0, 0, 0),
  (75, .invokevirtual 77, 13, 470),
  (78, .ifCond .ne 5, 0, 0),
  (81, .iconst 0, 0, 0),
  (82, .ireturn, 0, 0),
  (83, .aload_n 0, 0, 0),
  (84, .dup, 0, 0),
  (85, .getfield 38, 11, 193),
  (88, .iconst 1, 0, 0),
  (89, .isub, 0, 0),
  (90, .putfield 38, 11, 193),
  (93, .aload_n 0, 0, 0),
  (94, .getfield 22, 6, 186),
  (97, .bipush (-9), 0, 0),
  (99, .invokevirtual 62, 43, 458),
  (102, .iconst 1, 0, 0),
  (103, .ireturn, 0, 0),
  (104, .aload_n 0, 0, 0),
  (105, .getfield 32, 9, 191),
  (108, .bipush 40, 0, 0),
  (110, .if_icmp .ne 10, 0, 0),
  (113, .aload_n 0, 0, 0),
  (114, .invokevirtual 68, 14, 454),
  (117, .ifCond .ne 5, 0, 0),
  (120, .iconst 0, 0, 0),
  (121, .ireturn, 0, 0),
  (122, .aload_n 0, 0, 0),
  (123, .invokevirtual 44, 15, 348),
  (126, .aload_n 0, 0, 0),
  (127, .invokevirtual 51, 8, 442),
  (130, .ifCond .eq 12, 0, 0),
  (133, .aload_n 0, 0, 0),
  (134, .getfield 32, 9, 191),
  (137, .bipush 41, 0, 0),
  (139, .if_icmp .eq 5, 0, 0),
  (142, .iconst 0, 0, 0),
  (143, .ireturn, 0, 0),
  (144, .aload_n 0, 0, 0),
  (145, .dup, 0, 0),
  (146, .getfield 38, 11, 193),
  (149, .iconst 1, 0, 0),
  (150, .isub, 0, 0),
  (151, .putfield 38, 11, 193),
  (154, .aload_n 0, 0, 0),
  (155, .invokevirtual 44, 15, 348),
  (158, .iconst 1, 0, 0),
  (159, .ireturn, 0, 0)]
def xe_13 : XMe := ("BetweenThisAndThat$Reade\x72", ⟨"BetweenThisAndThat$Reade\x72", "readOne", "()Z"⟩, prog_3_method_10_code, 1, some (Jvm.ClassFile.FieldType.boolean), 101, 0, (473, 472, 11, 65))
def xi_14 : List XIn := [(0, .aload_n 0, 0, 0),
  (1, .getfield 38, 11, 193),
  (4, .iconst 5, 0, 0),
  (5, .if_icmp .lt 5, 0, 0),
  (8, .iconst 0, 0, 0),
  (9, .ireturn, 0, 0),
  (10, .aload_n 0, 0, 0),
  (11, .dup, 0, 0),
  (12, .getfield 38, 11, 193),
  (15, .iconst 1, 0, 0),
  (16, .iadd, 0, 0),
  (17, .putfield 38, 11, 193),
  (20, .iconst 1, 0, 0),
  (21, .ireturn, 0, 0)]
def xe_14 : XMe := ("BetweenThisAndThat$Reade\x72", ⟨"BetweenThisAndThat$Reade\x72", "opens", "()Z"⟩, prog_3_method_11_code, 1, some (Jvm.ClassFile.FieldType.boolean), 101, 0, (457, 456, 8, 65))
def xi_15 : List XIn := [(0, .aload_n 0, 0, 0),
  (1, .aload_n 0, 0, 0),
  (2, .getfield 29, 8, 190),
  (5, .putfield 26, 7, 188),
  (8, .aload_n 0, 0, 0),
  (9, .getfield 26, 7, 188),
  (12, .aload_n 0, 0, 0),
  (13, .getfield 15, 5, 184),
  (16, .if_icmp .ge 44, 0, 0),
  (19, .aload_n 0, 0, 0),
  (20, .getfield 9, 4, 183),
  (23, .aload_n 0, 0, 0),
  (24, .getfield 26, 7, 188),
  (27, .iaload, 0, 0),
  (28, .bipush 32, 0, 0),
  (30, .if_icmp .eq 17, 0, 0),
  (33, .aload_n 0, 0, 0),
  (34, .getfield 9, 4, 183),
  (37, .aload_n 0, 0, 0),
  (38, .getfield 26, 7, 188),
  (41, .iaload, 0, 0),
  (42, .bipush 10, 0, 0),
  (44, .if_icmp .ne 16, 0, 0),
  (47, .aload_n 0, 0, 0),
  (48, .dup, 0, 0),
  (49, .getfield 26, 7, 188),
  (52, .iconst 1, 0, 0),
  (53, .iadd, 0, 0),
  (54, .putfield 26, 7, 188),
  (57, .goto (-49), 0, 0),
  (60, .aload_n 0, 0, 0),
  (61, .aload_n 0, 0, 0),
  (62, .getfield 26, 7, 188),
  (65, .putfield 29, 8, 190),
  (68, .aload_n 0, 0, 0),
  (69, .getfield 26, 7, 188),
  (72, .aload_n 0, 0, 0),
  (73, .getfield 15, 5, 184),
  (76, .if_icmp .lt 11, 0, 0),
  (79, .aload_n 0, 0, 0),
  (80, .iconst 0, 0, 0),
  (81, .putfield 32, 9, 191),
  (84, .goto 92, 0, 0),
  (87, .aload_n 0, 0, 0),
  (88, .getfield 9, 4, 183),
  (91, .aload_n 0, 0, 0),
  (92, .getfield 26, 7, 188),
  (95, .iaload, 0, 0),
  (96, .invokestatic 80, 19, 352),
  (99, .ifCond .eq 10, 0, 0),
  (102, .aload_n 0, 0, 0),
  (103, .invokevirtual 83, 16, 355),
  (106, .goto 70, 0, 0),
  (109, .aload_n 0, 0, 0),
  (110, .getfield 9, 4, 183),
  (113, .aload_n 0, 0, 0),
  (114, .getfield 26, 7, 188),
  (117, .iaload, 0, 0),
  (118, .invokestatic 86, 20, 371),
  (121, .ifCond .eq 10, 0, 0),
  (124, .aload_n 0, 0, 0),
  (125, .invokevirtual 89, 17, 374),
  (128, .goto 48, 0, 0),
  (131, .aload_n 0, 0, 0),
  (132, .aload_n 0, 0, 0),
  (133, .getfield 26, 7, 188),
  (136, .iconst 1, 0, 0),
  (137, .iadd, 0, 0),
  (138, .putfield 29, 8, 190),
  (141, .aload_n 0, 0, 0),
  (142, .ldc 92, 8, 378),
  (144, .aload_n 0, 0, 0),
  (145, .getfield 9, 4, 183),
  (148, .aload_n 0, 0, 0),
  (149, .getfield 26, 7, 188),
  (152, .iaload, 0, 0),
  (153, .i2c, 0, 0),
  (154, .invokevirtual 94, 194, 379),
  (157, .ifCond .lt 15, 0, 0),
  (160, .aload_n 0, 0, 0),
  (161, .getfield 9, 4, 183),
  (164, .aload_n 0, 0, 0),
  (165, .getfield 26, 7, 188),
  (168, .iaload, 0, 0),
  (169, .goto 4, 0, 0),
  (172, .iconst 1, 0, 0),
  (173, .putfield 32, 9, 191),
  (176, .return_, 0, 0)]
def xe_15 : XMe := ("BetweenThisAndThat$Reade\x72", ⟨"BetweenThisAndThat$Reade\x72", "step", "()V"⟩, prog_3_method_12_code, 1, none, 101, 0, (351, 350, 0, 65))
def xi_16 : List XIn := [(0, .aload_n 0, 0, 0),
  (1, .getfield 29, 8, 190),
  (4, .aload_n 0, 0, 0),
  (5, .getfield 15, 5, 184),
  (8, .if_icmp .ge 31, 0, 0),
  (11, .aload_n 0, 0, 0),
  (12, .getfield 9, 4, 183),
  (15, .aload_n 0, 0, 0),
  (16, .getfield 29, 8, 190),
  (19, .iaload, 0, 0),
  (20, .invokestatic 80, 19, 352),
  (23, .ifCond .eq 16, 0, 0),
  (26, .aload_n 0, 0, 0),
  (27, .dup, 0, 0),
  (28, .getfield 29, 8, 190),
  (31, .iconst 1, 0, 0),
  (32, .iadd, 0, 0),
  (33, .putfield 29, 8, 190),
  (36, .goto (-36), 0, 0),
  (39, .aload_n 0, 0, 0),
  (40, .aload_n 0, 0, 0),
  (41, .getfield 9, 4, 183),
  (44, .aload_n 0, 0, 0),
  (45, .getfield 26, 7, 188),
  (48, .iaload, 0, 0),
  (49, .bipush 97, 0, 0),
  (51, .isub, 0, 0),
  (52, .putfield 35, 10, 192),
  (55, .aload_n 0, 0, 0),
  (56, .getfield 29, 8, 190),
  (59, .aload_n 0, 0, 0),
  (60, .getfield 26, 7, 188),
  (63, .isub, 0, 0),
  (64, .iconst 1, 0, 0),
  (65, .if_icmp .ne 20, 0, 0),
  (68, .aload_n 0, 0, 0),
  (69, .getfield 35, 10, 192),
  (72, .bipush 6, 0, 0),
  (74, .if_icmp .ge 11, 0, 0),
  (77, .aload_n 0, 0, 0),
  (78, .iconst 3, 0, 0),
  (79, .putfield 32, 9, 191),
  (82, .goto 110, 0, 0),
  (85, .aload_n 0, 0, 0),
  (86, .ldc 100, 2, 359),
  (88, .invokevirtual 102, 18, 360),
  (91, .ifCond .eq 12, 0, 0),
  (94, .aload_n 0, 0, 0),
  (95, .bipush 7, 0, 0),
  (97, .putfield 32, 9, 191),
  (100, .goto 92, 0, 0),
  (103, .aload_n 0, 0, 0),
  (104, .ldc 106, 3, 366),
  (106, .invokevirtual 102, 18, 360),
  (109, .ifCond .eq 12, 0, 0),
  (112, .aload_n 0, 0, 0),
  (113, .bipush 8, 0, 0),
  (115, .putfield 32, 9, 191),
  (118, .goto 74, 0, 0),
  (121, .aload_n 0, 0, 0),
  (122, .ldc 108, 4, 367),
  (124, .invokevirtual 102, 18, 360),
  (127, .ifCond .eq 12, 0, 0),
  (130, .aload_n 0, 0, 0),
  (131, .bipush 9, 0, 0),
  (133, .putfield 32, 9, 191),
  (136, .goto 56, 0, 0),
  (139, .aload_n 0, 0, 0),
  (140, .ldc 110, 5, 368),
  (142, .invokevirtual 102, 18, 360),
  (145, .ifCond .eq 11, 0, 0),
  (148, .aload_n 0, 0, 0),
  (149, .iconst 4, 0, 0),
  (150, .putfield 32, 9, 191),
  (153, .goto 39, 0, 0),
  (156, .aload_n 0, 0, 0),
  (157, .ldc 112, 6, 369),
  (159, .invokevirtual 102, 18, 360),
  (162, .ifCond .eq 11, 0, 0),
  (165, .aload_n 0, 0, 0),
  (166, .iconst 5, 0, 0),
  (167, .putfield 32, 9, 191),
  (170, .goto 22, 0, 0),
  (173, .aload_n 0, 0, 0),
  (174, .aload_n 0, 0, 0),
  (175, .ldc 114, 7, 370),
  (177, .invokevirtual 102, 18, 360),
  (180, .ifCond .eq 8, 0, 0),
  (183, .bipush 6, 0, 0),
  (185, .goto 4, 0, 0),
  (188, .iconst 1, 0, 0),
  (189, .putfield 32, 9, 191),
  (192, .return_, 0, 0)]
def xe_16 : XMe := ("BetweenThisAndThat$Reade\x72", ⟨"BetweenThisAndThat$Reade\x72", "takeWord", "()V"⟩, prog_3_method_13_code, 1, none, 101, 0, (358, 357, 1, 65))
def xi_17 : List XIn := [(0, .aload_n 0, 0, 0),
  (1, .iconst 0, 0, 0),
  (2, .putfield 35, 10, 192),
  (5, .aload_n 0, 0, 0),
  (6, .getfield 29, 8, 190),
  (9, .aload_n 0, 0, 0),
  (10, .getfield 15, 5, 184),
  (13, .if_icmp .ge 55, 0, 0),
  (16, .aload_n 0, 0, 0),
  (17, .getfield 9, 4, 183),
  (20, .aload_n 0, 0, 0),
  (21, .getfield 29, 8, 190),
  (24, .iaload, 0, 0),
  (25, .invokestatic 86, 20, 371),
  (28, .ifCond .eq 40, 0, 0),
  (31, .aload_n 0, 0, 0),
  (32, .bipush 10, 0, 0),
  (34, .aload_n 0, 0, 0),
  (35, .getfield 35, 10, 192),
  (38, .imul, 0, 0),
  (39, .aload_n 0, 0, 0),
  (40, .getfield 9, 4, 183),
  (43, .aload_n 0, 0, 0),
  (44, .getfield 29, 8, 190),
  (47, .iaload, 0, 0),
  (48, .iadd, 0, 0),
  (49, .bipush 48, 0, 0),
  (51, .isub, 0, 0),
  (52, .putfield 35, 10, 192),
  (55, .aload_n 0, 0, 0),
  (56, .dup, 0, 0),
  (57, .getfield 29, 8, 190),
  (60, .iconst 1, 0, 0),
  (61, .iadd, 0, 0),
  (62, .putfield 29, 8, 190),
  (65, .goto (-60), 0, 0),
  (68, .aload_n 0, 0, 0),
  (69, .aload_n 0, 0, 0),
  (70, .getfield 29, 8, 190),
  (73, .aload_n 0, 0, 0),
  (74, .getfield 26, 7, 188),
  (77, .isub, 0, 0),
  (78, .iconst 4, 0, 0),
  (79, .if_icmp .le 7, 0, 0),
  (82, .iconst 1, 0, 0),
  (83, .goto 4, 0, 0),
  (86, .iconst 2, 0, 0),
  (87, .putfield 32, 9, 191),
  (90, .return_, 0, 0)]
def xe_17 : XMe := ("BetweenThisAndThat$Reade\x72", ⟨"BetweenThisAndThat$Reade\x72", "takeNumbe\x72", "()V"⟩, prog_3_method_14_code, 1, none, 101, 0, (377, 376, 3, 65))
def xi_18 : List XIn := [(0, .aload_n 0, 0, 0),
  (1, .getfield 29, 8, 190),
  (4, .aload_n 0, 0, 0),
  (5, .getfield 26, 7, 188),
  (8, .isub, 0, 0),
  (9, .aload_n 1, 0, 0),
  (10, .invokevirtual 116, 192, 364),
  (13, .if_icmp .eq 5, 0, 0),
  (16, .iconst 0, 0, 0),
  (17, .ireturn, 0, 0),
  (18, .iconst 0, 0, 0),
  (19, .istore_n 2, 0, 0),
  (20, .iload_n 2, 0, 0),
  (21, .aload_n 1, 0, 0),
  (22, .invokevirtual 116, 192, 364),
  (25, .if_icmp .ge 30, 0, 0),
  (28, .aload_n 0, 0, 0),
  (29, .getfield 9, 4, 183),
  (32, .aload_n 0, 0, 0),
  (33, .getfield 26, 7, 188),
  (36, .iload_n 2, 0, 0),
  (37, .iadd, 0, 0),
  (38, .iaload, 0, 0),
  (39, .aload_n 1, 0, 0),
  (40, .iload_n 2, 0, 0),
  (41, .invokevirtual 120, 193, 365),
  (44, .if_icmp .eq 5, 0, 0),
  (47, .iconst 0, 0, 0),
  (48, .ireturn, 0, 0),
  (49, .iinc 2 1, 0, 0),
  (52, .goto (-32), 0, 0),
  (55, .iconst 1, 0, 0),
  (56, .ireturn, 0, 0)]
def xe_18 : XMe := ("BetweenThisAndThat$Reade\x72", ⟨"BetweenThisAndThat$Reade\x72", "inHand", "(Ljava/lang/String;)Z"⟩, prog_3_method_15_code, 3, some (Jvm.ClassFile.FieldType.boolean), 101, 1, (363, 362, 2, 65))
def xi_19 : List XIn := [(0, .iload_n 0, 0, 0),
  (1, .bipush 97, 0, 0),
  (3, .if_icmp .lt 13, 0, 0),
  (6, .iload_n 0, 0, 0),
  (7, .bipush 122, 0, 0),
  (9, .if_icmp .gt 7, 0, 0),
  (12, .iconst 1, 0, 0),
  (13, .goto 4, 0, 0),
  (16, .iconst 0, 0, 0),
  (17, .ireturn, 0, 0)]
def xe_19 : XMe := ("BetweenThisAndThat$Reade\x72", ⟨"BetweenThisAndThat$Reade\x72", "isLette\x72", "(I)Z"⟩, prog_3_method_16_code, 1, some (Jvm.ClassFile.FieldType.boolean), 0, 1, (354, 353, 0, 65))
def xi_20 : List XIn := [(0, .iload_n 0, 0, 0),
  (1, .bipush 48, 0, 0),
  (3, .if_icmp .lt 13, 0, 0),
  (6, .iload_n 0, 0, 0),
  (7, .bipush 57, 0, 0),
  (9, .if_icmp .gt 7, 0, 0),
  (12, .iconst 1, 0, 0),
  (13, .goto 4, 0, 0),
  (16, .iconst 0, 0, 0),
  (17, .ireturn, 0, 0)]
def xe_20 : XMe := ("BetweenThisAndThat$Reade\x72", ⟨"BetweenThisAndThat$Reade\x72", "isDigit", "(I)Z"⟩, prog_3_method_17_code, 1, some (Jvm.ClassFile.FieldType.boolean), 0, 1, (373, 372, 0, 65))
def xi_21 : List XIn := [(0, .aload_n 0, 0, 0),
  (1, .invokespecial 3, 8888, 100),
  (4, .aload_n 0, 0, 0),
  (5, .iconst 0, 0, 0),
  (6, .putfield 9, 12, 101),
  (9, .aload_n 0, 0, 0),
  (10, .iconst 0, 0, 0),
  (11, .putfield 15, 13, 104),
  (14, .aload_n 0, 0, 0),
  (15, .iconst 0, 0, 0),
  (16, .putfield 18, 14, 107),
  (19, .aload_n 0, 0, 0),
  (20, .iconst 0, 0, 0),
  (21, .putfield 21, 15, 111),
  (24, .aload_n 0, 0, 0),
  (25, .iconst 0, 0, 0),
  (26, .putfield 24, 16, 114),
  (29, .return_, 0, 0)]
def xe_21 : XMe := ("BetweenThisAndThat$Saying", ⟨"BetweenThisAndThat$Saying", "<init>", "()V"⟩, prog_4_method_1_code, 1, none, 202, 0, (99, 98, 0, 64))
def xi_22 : List XIn := [(0, .aload_n 0, 0, 0),
  (1, .iload_n 1, 0, 0),
  (2, .bipush 10, 0, 0),
  (4, .idiv, 0, 0),
  (5, .putfield 9, 12, 101),
  (8, .aload_n 0, 0, 0),
  (9, .iload_n 1, 0, 0),
  (10, .bipush 10, 0, 0),
  (12, .irem, 0, 0),
  (13, .putfield 15, 13, 104),
  (16, .aload_n 0, 0, 0),
  (17, .iload_n 2, 0, 0),
  (18, .putfield 18, 14, 107),
  (21, .aload_n 0, 0, 0),
  (22, .iload_n 3, 0, 0),
  (23, .putfield 21, 15, 111),
  (26, .aload_n 0, 0, 0),
  (27, .iload 4, 0, 0),
  (29, .putfield 24, 16, 114),
  (32, .return_, 0, 0)]
def xe_22 : XMe := ("BetweenThisAndThat$Saying", ⟨"BetweenThisAndThat$Saying", "becomes", "(IIII)V"⟩, prog_4_method_2_code, 5, none, 102, 4, (570, 568, 569, 64))
def xi_23 : List XIn := [(0, .aload_n 0, 0, 0),
  (1, .getfield 9, 12, 101),
  (4, .tableswitch 111 1 4 #[32, 46, 63, 79], 0, 0),
  (36, .iconst 0, 0, 0),
  (37, .aload_n 0, 0, 0),
  (38, .getfield 21, 15, 111),
  (41, .aload_n 0, 0, 0),
  (42, .getfield 15, 13, 104),
  (45, .isub, 0, 0),
  (46, .invokestatic 27, 9997, 587),
  (49, .ireturn, 0, 0),
  (50, .aload_n 0, 0, 0),
  (51, .getfield 21, 15, 111),
  (54, .aload_n 0, 0, 0),
  (55, .getfield 15, 13, 104),
  (58, .iadd, 0, 0),
  (59, .aload_n 0, 0, 0),
  (60, .invokevirtual 33, 25, 588),
  (63, .invokestatic 37, 9998, 592),
  (66, .ireturn, 0, 0),
  (67, .iconst 0, 0, 0),
  (68, .aload_n 0, 0, 0),
  (69, .getfield 21, 15, 111),
  (72, .aload_n 0, 0, 0),
  (73, .getfield 15, 13, 104),
  (76, .isub, 0, 0),
  (77, .iload_n 1, 0, 0),
  (78, .isub, 0, 0),
  (79, .invokestatic 27, 9997, 587),
  (82, .ireturn, 0, 0),
  (83, .iload_n 1, 0, 0),
  (84, .aload_n 0, 0, 0),
  (85, .getfield 15, 13, 104),
  (88, .if_icmp .lt 10, 0, 0),
  (91, .aload_n 0, 0, 0),
  (92, .invokevirtual 33, 25, 588),
  (95, .goto 19, 0, 0),
  (98, .aload_n 0, 0, 0),
  (99, .getfield 21, 15, 111),
  (102, .aload_n 0, 0, 0),
  (103, .getfield 15, 13, 104),
  (106, .iadd, 0, 0),
  (107, .aload_n 0, 0, 0),
  (108, .invokevirtual 33, 25, 588),
  (111, .invokestatic 37, 9998, 592),
  (114, .ireturn, 0, 0),
  (115, .aload_n 0, 0, 0),
  (116, .getfield 21, 15, 111),
  (119, .ireturn, 0, 0)]
def xe_23 : XMe := ("BetweenThisAndThat$Saying", ⟨"BetweenThisAndThat$Saying", "from", "(I)I"⟩, prog_4_method_3_code, 2, some (Jvm.ClassFile.FieldType.int), 102, 1, (586, 584, 585, 64))
def xi_24 : List XIn := [(0, .aload_n 0, 0, 0),
  (1, .getfield 9, 12, 101),
  (4, .tableswitch 123 1 5 #[36, 52, 69, 87, 119], 0, 0),
  (40, .sipush 999, 0, 0),
  (43, .aload_n 0, 0, 0),
  (44, .getfield 24, 16, 114),
  (47, .aload_n 0, 0, 0),
  (48, .getfield 15, 13, 104),
  (51, .iadd, 0, 0),
  (52, .invokestatic 37, 9998, 592),
  (55, .ireturn, 0, 0),
  (56, .aload_n 0, 0, 0),
  (57, .getfield 24, 16, 114),
  (60, .aload_n 0, 0, 0),
  (61, .getfield 15, 13, 104),
  (64, .isub, 0, 0),
  (65, .aload_n 0, 0, 0),
  (66, .invokevirtual 33, 25, 588),
  (69, .invokestatic 27, 9997, 587),
  (72, .ireturn, 0, 0),
  (73, .sipush 999, 0, 0),
  (76, .aload_n 0, 0, 0),
  (77, .getfield 24, 16, 114),
  (80, .aload_n 0, 0, 0),
  (81, .getfield 15, 13, 104),
  (84, .iadd, 0, 0),
  (85, .iload_n 1, 0, 0),
  (86, .iadd, 0, 0),
  (87, .invokestatic 37, 9998, 592),
  (90, .ireturn, 0, 0),
  (91, .iload_n 1, 0, 0),
  (92, .aload_n 0, 0, 0),
  (93, .getfield 15, 13, 104),
  (96, .if_icmp .lt 10, 0, 0),
  (99, .aload_n 0, 0, 0),
  (100, .invokevirtual 33, 25, 588),
  (103, .goto 19, 0, 0),
  (106, .aload_n 0, 0, 0),
  (107, .getfield 24, 16, 114),
  (110, .aload_n 0, 0, 0),
  (111, .getfield 15, 13, 104),
  (114, .isub, 0, 0),
  (115, .aload_n 0, 0, 0),
  (116, .invokevirtual 33, 25, 588),
  (119, .invokestatic 27, 9997, 587),
  (122, .ireturn, 0, 0),
  (123, .sipush 999, 0, 0),
  (126, .ireturn, 0, 0),
  (127, .aload_n 0, 0, 0),
  (128, .getfield 24, 16, 114),
  (131, .ireturn, 0, 0)]
def xe_24 : XMe := ("BetweenThisAndThat$Saying", ⟨"BetweenThisAndThat$Saying", "upTo", "(I)I"⟩, prog_4_method_4_code, 2, some (Jvm.ClassFile.FieldType.int), 102, 1, (596, 594, 595, 64))
def xi_25 : List XIn := [(0, .aload_n 0, 0, 0),
  (1, .getfield 21, 15, 111),
  (4, .aload_n 0, 0, 0),
  (5, .getfield 24, 16, 114),
  (8, .iadd, 0, 0),
  (9, .iconst 2, 0, 0),
  (10, .idiv, 0, 0),
  (11, .ireturn, 0, 0)]
def xe_25 : XMe := ("BetweenThisAndThat$Saying", ⟨"BetweenThisAndThat$Saying", "middle", "()I"⟩, prog_4_method_5_code, 1, some (Jvm.ClassFile.FieldType.int), 102, 0, (591, 590, 15, 64))
def xi_26 : List XIn := [(0, .aload_n 0, 0, 0),
  (1, .getfield 9, 12, 101),
  (4, .istore_n 2, 0, 0),
  (5, .iconst 0, 0, 0),
  (6, .istore_n 3, 0, 0),
  (7, .iload_n 3, 0, 0),
  (8, .bipush 6, 0, 0),
  (10, .if_icmp .ge 27, 0, 0),
  (13, .iload_n 2, 0, 0),
  (14, .iconst (-1), 0, 0),
  (15, .if_icmp .eq 22, 0, 0),
  (18, .iload_n 2, 0, 0),
  (19, .iload_n 1, 0, 0),
  (20, .if_icmp .ne 5, 0, 0),
  (23, .iconst 1, 0, 0),
  (24, .ireturn, 0, 0),
  (25, .getstatic 40, 1, 875),
  (28, .iload_n 2, 0, 0),
  (29, .iaload, 0, 0),
  (30, .istore_n 2, 0, 0),
  (31, .iinc 3 1, 0, 0),
  (34, .goto (-27), 0, 0),
  (37, .iconst 0, 0, 0),
  (38, .ireturn, 0, 0)]
def xe_26 : XMe := ("BetweenThisAndThat$Saying", ⟨"BetweenThisAndThat$Saying", "isA", "(I)Z"⟩, prog_4_method_6_code, 4, some (Jvm.ClassFile.FieldType.boolean), 102, 1, (874, 872, 873, 64))
def xi_27 : List XIn := [(0, .aload_n 0, 0, 0),
  (1, .getfield 18, 14, 107),
  (4, .aload_n 1, 0, 0),
  (5, .getfield 18, 14, 107),
  (8, .if_icmp .ne 33, 0, 0),
  (11, .aload_n 0, 0, 0),
  (12, .iload_n 2, 0, 0),
  (13, .invokevirtual 44, 24, 669),
  (16, .aload_n 1, 0, 0),
  (17, .iload_n 2, 0, 0),
  (18, .invokevirtual 48, 23, 670),
  (21, .if_icmp .lt 16, 0, 0),
  (24, .aload_n 1, 0, 0),
  (25, .iload_n 2, 0, 0),
  (26, .invokevirtual 44, 24, 669),
  (29, .aload_n 0, 0, 0),
  (30, .iload_n 2, 0, 0),
  (31, .invokevirtual 48, 23, 670),
  (34, .if_icmp .ge 7, 0, 0),
  (37, .iconst 1, 0, 0),
  (38, .goto 4, 0, 0),
  (41, .iconst 0, 0, 0),
  (42, .ireturn, 0, 0)]
def xe_27 : XMe := ("BetweenThisAndThat$Saying", ⟨"BetweenThisAndThat$Saying", "clashesWith", "(LBetweenThisAndThat$Saying;I)Z"⟩, prog_4_method_7_code, 3, some (Jvm.ClassFile.FieldType.boolean), 102, 2, (668, 666, 667, 64))
def xi_28 : List XIn := [(0, .aload_n 1, 0, 0),
  (1, .aload_n 0, 0, 0),
  (2, .getfield 18, 14, 107),
  (5, .iaload, 0, 0),
  (6, .aload_n 0, 0, 0),
  (7, .iload_n 2, 0, 0),
  (8, .invokevirtual 48, 23, 670),
  (11, .aload_n 0, 0, 0),
  (12, .iload_n 2, 0, 0),
  (13, .invokevirtual 44, 24, 669),
  (16, .invokestatic 51, 10090, 780),
  (19, .ireturn, 0, 0)]
def xe_28 : XMe := ("BetweenThisAndThat$Saying", ⟨"BetweenThisAndThat$Saying", "holds", "([II)Z"⟩, prog_4_method_8_code, 3, some (Jvm.ClassFile.FieldType.boolean), 102, 2, (779, 777, 778, 64))
def xi_29 : List XIn := [(0, .aload_n 0, 0, 0),
  (1, .invokespecial 3, 8888, 273),
  (4, .aload_n 0, 0, 0),
  (5, .bipush 40, 0, 0),
  (7, .newarray .int, 0, 0),
  (9, .putfield 9, 17, 274),
  (12, .aload_n 0, 0, 0),
  (13, .iconst (-1), 0, 0),
  (14, .putfield 15, 18, 276),
  (17, .aload_n 0, 0, 0),
  (18, .iconst 0, 0, 0),
  (19, .putfield 19, 19, 278),
  (22, .return_, 0, 0)]
def xe_29 : XMe := ("BetweenThisAndThat$Sheet", ⟨"BetweenThisAndThat$Sheet", "<init>", "()V"⟩, prog_5_method_1_code, 1, none, 203, 0, (272, 271, 0, 69))
def xi_30 : List XIn := [(0, .aload_n 0, 0, 0),
  (1, .iload_n 1, 0, 0),
  (2, .putfield 15, 18, 276),
  (5, .aload_n 0, 0, 0),
  (6, .iload_n 2, 0, 0),
  (7, .putfield 19, 19, 278),
  (10, .aload_n 0, 0, 0),
  (11, .getfield 9, 17, 274),
  (14, .iconst 0, 0, 0),
  (15, .invokestatic 22, 204, 809),
  (18, .return_, 0, 0)]
def xe_30 : XMe := ("BetweenThisAndThat$Sheet", ⟨"BetweenThisAndThat$Sheet", "becomes", "(II)V"⟩, prog_5_method_2_code, 3, none, 103, 2, (808, 806, 807, 69))
def xi_31 : List XIn := [(0, .aload_n 0, 0, 0),
  (1, .getfield 9, 17, 274),
  (4, .iload_n 1, 0, 0),
  (5, .aload_n 0, 0, 0),
  (6, .getfield 15, 18, 276),
  (9, .ifCond .ne 8, 0, 0),
  (12, .iload_n 2, 0, 0),
  (13, .i2b, 0, 0),
  (14, .goto 17, 0, 0),
  (17, .aload_n 0, 0, 0),
  (18, .getfield 15, 18, 276),
  (21, .iconst 1, 0, 0),
  (22, .if_icmp .ne 8, 0, 0),
  (25, .iload_n 2, 0, 0),
  (26, .i2s, 0, 0),
  (27, .goto 4, 0, 0),
  (30, .iload_n 2, 0, 0),
  (31, .iastore, 0, 0),
  (32, .return_, 0, 0)]
def xe_31 : XMe := ("BetweenThisAndThat$Sheet", ⟨"BetweenThisAndThat$Sheet", "put", "(II)V"⟩, prog_5_method_3_code, 3, none, 103, 2, (813, 811, 812, 69))
def xi_32 : List XIn := [(0, .iload_n 2, 0, 0),
  (1, .ifCond .lt 29, 0, 0),
  (4, .iload_n 2, 0, 0),
  (5, .aload_n 0, 0, 0),
  (6, .getfield 19, 19, 278),
  (9, .if_icmp .gt 21, 0, 0),
  (12, .iload_n 1, 0, 0),
  (13, .ifCond .lt 17, 0, 0),
  (16, .iload_n 1, 0, 0),
  (17, .aload_n 0, 0, 0),
  (18, .getfield 19, 19, 278),
  (21, .iload_n 2, 0, 0),
  (22, .isub, 0, 0),
  (23, .if_icmp .gt 7, 0, 0),
  (26, .iconst 1, 0, 0),
  (27, .goto 4, 0, 0),
  (30, .iconst 0, 0, 0),
  (31, .ireturn, 0, 0)]
def xe_32 : XMe := ("BetweenThisAndThat$Sheet", ⟨"BetweenThisAndThat$Sheet", "hasRun", "(II)Z"⟩, prog_5_method_4_code, 3, some (Jvm.ClassFile.FieldType.boolean), 103, 2, (861, 859, 860, 69))
def xi_33 : List XIn := [(0, .aload_n 0, 0, 0),
  (1, .invokespecial 3, 8888, 218),
  (4, .aload_n 0, 0, 0),
  (5, .bipush 6, 0, 0),
  (7, .newarray .int, 0, 0),
  (9, .putfield 9, 20, 219),
  (12, .aload_n 0, 0, 0),
  (13, .bipush 6, 0, 0),
  (15, .newarray .int, 0, 0),
  (17, .putfield 15, 21, 221),
  (20, .aload_n 0, 0, 0),
  (21, .bipush 6, 0, 0),
  (23, .newarray .int, 0, 0),
  (25, .putfield 18, 22, 223),
  (28, .aload_n 0, 0, 0),
  (29, .bipush 6, 0, 0),
  (31, .newarray .int, 0, 0),
  (33, .putfield 21, 23, 225),
  (36, .aload_n 0, 0, 0),
  (37, .bipush 36, 0, 0),
  (39, .newarray .int, 0, 0),
  (41, .putfield 24, 24, 227),
  (44, .aload_n 0, 0, 0),
  (45, .iconst 1, 0, 0),
  (46, .putfield 27, 25, 228),
  (49, .return_, 0, 0)]
def xe_33 : XMe := ("BetweenThisAndThat$Spans", ⟨"BetweenThisAndThat$Spans", "<init>", "()V"⟩, prog_6_method_1_code, 1, none, 204, 0, (217, 216, 0, 67))
def xi_34 : List XIn := [(0, .aload_n 0, 0, 0),
  (1, .getfield 9, 20, 219),
  (4, .iconst 0, 0, 0),
  (5, .invokestatic 31, 204, 638),
  (8, .aload_n 0, 0, 0),
  (9, .getfield 15, 21, 221),
  (12, .sipush 999, 0, 0),
  (15, .invokestatic 31, 204, 638),
  (18, .iconst 0, 0, 0),
  (19, .istore_n 3, 0, 0),
  (20, .iload_n 3, 0, 0),
  (21, .aload_n 1, 0, 0),
  (22, .getfield 37, 31, 132),
  (25, .if_icmp .ge 89, 0, 0),
  (28, .iload_n 2, 0, 0),
  (29, .iload_n 3, 0, 0),
  (30, .ishr, 0, 0),
  (31, .iconst 1, 0, 0),
  (32, .iand, 0, 0),
  (33, .ifCond .ne 75, 0, 0),
  (36, .aload_n 1, 0, 0),
  (37, .getfield 43, 30, 129),
  (40, .iload_n 3, 0, 0),
  (41, .aaload, 0, 0),
  (42, .astore 4, 0, 0),
  (44, .aload_n 0, 0, 0),
  (45, .getfield 9, 20, 219),
  (48, .aload 4, 0, 0),
  (50, .getfield 47, 14, 108),
  (53, .aload_n 0, 0, 0),
  (54, .getfield 9, 20, 219),
  (57, .aload 4, 0, 0),
  (59, .getfield 47, 14, 108),
  (62, .iaload, 0, 0),
  (63, .aload 4, 0, 0),
  (65, .aload_n 1, 0, 0),
  (66, .getfield 52, 33, 138),
  (69, .invokevirtual 55, 23, 641),
  (72, .invokestatic 59, 9997, 642),
  (75, .iastore, 0, 0),
  (76, .aload_n 0, 0, 0),
  (77, .getfield 15, 21, 221),
  (80, .aload 4, 0, 0),
  (82, .getfield 47, 14, 108),
  (85, .aload_n 0, 0, 0),
  (86, .getfield 15, 21, 221),
  (89, .aload 4, 0, 0),
  (91, .getfield 47, 14, 108),
  (94, .iaload, 0, 0),
  (95, .aload 4, 0, 0),
  (97, .aload_n 1, 0, 0),
  (98, .getfield 52, 33, 138),
  (101, .invokevirtual 65, 24, 643),
  (104, .invokestatic 68, 9998, 625),
  (107, .iastore, 0, 0),
  (108, .iinc 3 1, 0, 0),
  (111, .goto (-91), 0, 0),
  (114, .return_, 0, 0)]
def xe_34 : XMe := ("BetweenThisAndThat$Spans", ⟨"BetweenThisAndThat$Spans", "leave", "(LBetweenThisAndThat$Told;I)V"⟩, prog_6_method_2_code, 5, none, 104, 2, (637, 635, 636, 67))
def xi_35 : List XIn := [(0, .iconst 0, 0, 0),
  (1, .istore 4, 0, 0),
  (3, .iload 4, 0, 0),
  (5, .aload_n 0, 0, 0),
  (6, .getfield 24, 24, 227),
  (9, .arraylength, 0, 0),
  (10, .if_icmp .ge 36, 0, 0),
  (13, .aload_n 0, 0, 0),
  (14, .getfield 24, 24, 227),
  (17, .iload 4, 0, 0),
  (19, .iload 4, 0, 0),
  (21, .bipush 6, 0, 0),
  (23, .idiv, 0, 0),
  (24, .iload 4, 0, 0),
  (26, .bipush 6, 0, 0),
  (28, .irem, 0, 0),
  (29, .if_icmp .ne 7, 0, 0),
  (32, .iconst 0, 0, 0),
  (33, .goto 6, 0, 0),
  (36, .sipush 999, 0, 0),
  (39, .iastore, 0, 0),
  (40, .iinc 4 1, 0, 0),
  (43, .goto (-40), 0, 0),
  (46, .iconst 0, 0, 0),
  (47, .istore 4, 0, 0),
  (49, .iload 4, 0, 0),
  (51, .iload_n 2, 0, 0),
  (52, .if_icmp .ge 68, 0, 0),
  (55, .iload 4, 0, 0),
  (57, .iload_n 3, 0, 0),
  (58, .if_icmp .eq 56, 0, 0),
  (61, .aload_n 1, 0, 0),
  (62, .iload 4, 0, 0),
  (64, .aaload, 0, 0),
  (65, .astore 5, 0, 0),
  (67, .aload_n 0, 0, 0),
  (68, .aload 5, 0, 0),
  (70, .getfield 71, 0, 248),
  (73, .bipush 6, 0, 0),
  (75, .imul, 0, 0),
  (76, .aload 5, 0, 0),
  (78, .getfield 76, 1, 251),
  (81, .iadd, 0, 0),
  (82, .aload 5, 0, 0),
  (84, .getfield 79, 3, 257),
  (87, .invokevirtual 82, 37, 621),
  (90, .aload_n 0, 0, 0),
  (91, .aload 5, 0, 0),
  (93, .getfield 76, 1, 251),
  (96, .bipush 6, 0, 0),
  (98, .imul, 0, 0),
  (99, .aload 5, 0, 0),
  (101, .getfield 71, 0, 248),
  (104, .iadd, 0, 0),
  (105, .aload 5, 0, 0),
  (107, .getfield 86, 2, 254),
  (110, .ineg, 0, 0),
  (111, .invokevirtual 82, 37, 621),
  (114, .iinc 4 1, 0, 0),
  (117, .goto (-68), 0, 0),
  (120, .iconst 0, 0, 0),
  (121, .istore 4, 0, 0),
  (123, .iload 4, 0, 0),
  (125, .bipush 6, 0, 0),
  (127, .if_icmp .ge 15, 0, 0),
  (130, .aload_n 0, 0, 0),
  (131, .iload 4, 0, 0),
  (133, .invokevirtual 89, 36, 626),
  (136, .iinc 4 1, 0, 0),
  (139, .goto (-16), 0, 0),
  (142, .aload_n 0, 0, 0),
  (143, .iconst 1, 0, 0),
  (144, .putfield 27, 25, 228),
  (147, .iconst 0, 0, 0),
  (148, .istore 4, 0, 0),
  (150, .iload 4, 0, 0),
  (152, .bipush 6, 0, 0),
  (154, .if_icmp .ge 41, 0, 0),
  (157, .aload_n 0, 0, 0),
  (158, .aload_n 0, 0, 0),
  (159, .getfield 27, 25, 228),
  (162, .ifCond .eq 23, 0, 0),
  (165, .aload_n 0, 0, 0),
  (166, .getfield 24, 24, 227),
  (169, .iload 4, 0, 0),
  (171, .bipush 6, 0, 0),
  (173, .imul, 0, 0),
  (174, .iload 4, 0, 0),
  (176, .iadd, 0, 0),
  (177, .iaload, 0, 0),
  (178, .ifCond .lt 7, 0, 0),
  (181, .iconst 1, 0, 0),
  (182, .goto 4, 0, 0),
  (185, .iconst 0, 0, 0),
  (186, .putfield 27, 25, 228),
  (189, .iinc 4 1, 0, 0),
  (192, .goto (-42), 0, 0),
  (195, .return_, 0, 0)]
def xe_35 : XMe := ("BetweenThisAndThat$Spans", ⟨"BetweenThisAndThat$Spans", "tie", "([LBetweenThisAndThat$Link;II)V"⟩, prog_6_method_3_code, 6, none, 104, 3, (620, 618, 619, 67))
def xi_36 : List XIn := [(0, .iconst 0, 0, 0),
  (1, .istore_n 2, 0, 0),
  (2, .iload_n 2, 0, 0),
  (3, .bipush 6, 0, 0),
  (5, .if_icmp .ge 56, 0, 0),
  (8, .iconst 0, 0, 0),
  (9, .istore_n 3, 0, 0),
  (10, .iload_n 3, 0, 0),
  (11, .bipush 6, 0, 0),
  (13, .if_icmp .ge 42, 0, 0),
  (16, .aload_n 0, 0, 0),
  (17, .iload_n 2, 0, 0),
  (18, .bipush 6, 0, 0),
  (20, .imul, 0, 0),
  (21, .iload_n 3, 0, 0),
  (22, .iadd, 0, 0),
  (23, .aload_n 0, 0, 0),
  (24, .getfield 24, 24, 227),
  (27, .iload_n 2, 0, 0),
  (28, .bipush 6, 0, 0),
  (30, .imul, 0, 0),
  (31, .iload_n 1, 0, 0),
  (32, .iadd, 0, 0),
  (33, .iaload, 0, 0),
  (34, .aload_n 0, 0, 0),
  (35, .getfield 24, 24, 227),
  (38, .iload_n 1, 0, 0),
  (39, .bipush 6, 0, 0),
  (41, .imul, 0, 0),
  (42, .iload_n 3, 0, 0),
  (43, .iadd, 0, 0),
  (44, .iaload, 0, 0),
  (45, .iadd, 0, 0),
  (46, .invokevirtual 82, 37, 621),
  (49, .iinc 3 1, 0, 0),
  (52, .goto (-42), 0, 0),
  (55, .iinc 2 1, 0, 0),
  (58, .goto (-56), 0, 0),
  (61, .return_, 0, 0)]
def xe_36 : XMe := ("BetweenThisAndThat$Spans", ⟨"BetweenThisAndThat$Spans", "shortenAllBy", "(I)V"⟩, prog_6_method_4_code, 4, none, 104, 1, (629, 628, 18, 67))
def xi_37 : List XIn := [(0, .aload_n 0, 0, 0),
  (1, .getfield 24, 24, 227),
  (4, .iload_n 1, 0, 0),
  (5, .aload_n 0, 0, 0),
  (6, .getfield 24, 24, 227),
  (9, .iload_n 1, 0, 0),
  (10, .iaload, 0, 0),
  (11, .iload_n 2, 0, 0),
  (12, .invokestatic 68, 9998, 625),
  (15, .iastore, 0, 0),
  (16, .return_, 0, 0)]
def xe_37 : XMe := ("BetweenThisAndThat$Spans", ⟨"BetweenThisAndThat$Spans", "shorten", "(II)V"⟩, prog_6_method_5_code, 3, none, 104, 2, (624, 623, 17, 67))
def xi_38 : List XIn := [(0, .aload_n 0, 0, 0),
  (1, .getfield 27, 25, 228),
  (4, .istore_n 1, 0, 0),
  (5, .iconst 0, 0, 0),
  (6, .istore_n 2, 0, 0),
  (7, .iload_n 2, 0, 0),
  (8, .bipush 6, 0, 0),
  (10, .if_icmp .ge 138, 0, 0),
  (13, .aload_n 0, 0, 0),
  (14, .getfield 18, 22, 223),
  (17, .iload_n 2, 0, 0),
  (18, .aload_n 0, 0, 0),
  (19, .getfield 9, 20, 219),
  (22, .iload_n 2, 0, 0),
  (23, .iaload, 0, 0),
  (24, .iastore, 0, 0),
  (25, .aload_n 0, 0, 0),
  (26, .getfield 21, 23, 225),
  (29, .iload_n 2, 0, 0),
  (30, .aload_n 0, 0, 0),
  (31, .getfield 15, 21, 221),
  (34, .iload_n 2, 0, 0),
  (35, .iaload, 0, 0),
  (36, .iastore, 0, 0),
  (37, .iconst 0, 0, 0),
  (38, .istore_n 3, 0, 0),
  (39, .iload_n 3, 0, 0),
  (40, .bipush 6, 0, 0),
  (42, .if_icmp .ge 75, 0, 0),
  (45, .aload_n 0, 0, 0),
  (46, .getfield 18, 22, 223),
  (49, .iload_n 2, 0, 0),
  (50, .aload_n 0, 0, 0),
  (51, .getfield 18, 22, 223),
  (54, .iload_n 2, 0, 0),
  (55, .iaload, 0, 0),
  (56, .aload_n 0, 0, 0),
  (57, .getfield 9, 20, 219),
  (60, .iload_n 3, 0, 0),
  (61, .iaload, 0, 0),
  (62, .aload_n 0, 0, 0),
  (63, .getfield 24, 24, 227),
  (66, .iload_n 2, 0, 0),
  (67, .bipush 6, 0, 0),
  (69, .imul, 0, 0),
  (70, .iload_n 3, 0, 0),
  (71, .iadd, 0, 0),
  (72, .iaload, 0, 0),
  (73, .isub, 0, 0),
  (74, .invokestatic 59, 9997, 642),
  (77, .iastore, 0, 0),
  (78, .aload_n 0, 0, 0),
  (79, .getfield 21, 23, 225),
  (82, .iload_n 2, 0, 0),
  (83, .aload_n 0, 0, 0),
  (84, .getfield 21, 23, 225),
  (87, .iload_n 2, 0, 0),
  (88, .iaload, 0, 0),
  (89, .aload_n 0, 0, 0),
  (90, .getfield 15, 21, 221),
  (93, .iload_n 3, 0, 0),
  (94, .iaload, 0, 0),
  (95, .aload_n 0, 0, 0),
  (96, .getfield 24, 24, 227),
  (99, .iload_n 3, 0, 0),
  (100, .bipush 6, 0, 0),
  (102, .imul, 0, 0),
  (103, .iload_n 2, 0, 0),
  (104, .iadd, 0, 0),
  (105, .iaload, 0, 0),
  (106, .iadd, 0, 0),
  (107, .invokestatic 68, 9998, 625),
  (110, .iastore, 0, 0),
  (111, .iinc 3 1, 0, 0),
  (114, .goto (-75), 0, 0),
  (117, .iload_n 1, 0, 0),
  (118, .ifCond .eq 22, 0, 0),
  (121, .aload_n 0, 0, 0),
  (122, .getfield 9, 20, 219),
  (125, .iload_n 2, 0, 0),
  (126, .iaload, 0, 0),
  (127, .aload_n 0, 0, 0),
  (128, .getfield 21, 23, 225),
  (131, .iload_n 2, 0, 0),
  (132, .iaload, 0, 0),
  (133, .if_icmp .gt 7, 0, 0),
  (136, .iconst 1, 0, 0),
  (137, .goto 4, 0, 0),
  (140, .iconst 0, 0, 0),
  (141, .istore_n 1, 0, 0),
  (142, .iinc 2 1, 0, 0),
  (145, .goto (-138), 0, 0),
  (148, .iload_n 1, 0, 0),
  (149, .ireturn, 0, 0)]
def xe_38 : XMe := ("BetweenThisAndThat$Spans", ⟨"BetweenThisAndThat$Spans", "cut", "()Z"⟩, prog_6_method_6_code, 4, some (Jvm.ClassFile.FieldType.boolean), 104, 0, (647, 645, 646, 67))
def xi_39 : List XIn := [(0, .aload_n 0, 0, 0),
  (1, .getfield 24, 24, 227),
  (4, .iload_n 1, 0, 0),
  (5, .bipush 6, 0, 0),
  (7, .imul, 0, 0),
  (8, .iload_n 2, 0, 0),
  (9, .iadd, 0, 0),
  (10, .iaload, 0, 0),
  (11, .aload_n 0, 0, 0),
  (12, .getfield 21, 23, 225),
  (15, .iload_n 2, 0, 0),
  (16, .iaload, 0, 0),
  (17, .aload_n 0, 0, 0),
  (18, .getfield 18, 22, 223),
  (21, .iload_n 1, 0, 0),
  (22, .iaload, 0, 0),
  (23, .isub, 0, 0),
  (24, .invokestatic 68, 9998, 625),
  (27, .ireturn, 0, 0)]
def xe_39 : XMe := ("BetweenThisAndThat$Spans", ⟨"BetweenThisAndThat$Spans", "mostAhead", "(II)I"⟩, prog_6_method_7_code, 3, some (Jvm.ClassFile.FieldType.int), 104, 2, (660, 658, 659, 67))
def xi_40 : List XIn := [(0, .aload_n 0, 0, 0),
  (1, .getfield 21, 23, 225),
  (4, .iload_n 1, 0, 0),
  (5, .iaload, 0, 0),
  (6, .aload_n 0, 0, 0),
  (7, .getfield 18, 22, 223),
  (10, .iload_n 1, 0, 0),
  (11, .iaload, 0, 0),
  (12, .isub, 0, 0),
  (13, .iconst 1, 0, 0),
  (14, .iadd, 0, 0),
  (15, .ireturn, 0, 0)]
def xe_40 : XMe := ("BetweenThisAndThat$Spans", ⟨"BetweenThisAndThat$Spans", "size", "(I)I"⟩, prog_6_method_8_code, 2, some (Jvm.ClassFile.FieldType.int), 104, 1, (764, 762, 763, 67))
def xi_41 : List XIn := [(0, .aload_n 0, 0, 0),
  (1, .invokespecial 3, 8888, 167),
  (4, .aload_n 0, 0, 0),
  (5, .sipush 160, 0, 0),
  (8, .newarray .int, 0, 0),
  (10, .putfield 9, 26, 168),
  (13, .aload_n 0, 0, 0),
  (14, .iconst 0, 0, 0),
  (15, .putfield 15, 27, 169),
  (18, .aload_n 0, 0, 0),
  (19, .iconst 3, 0, 0),
  (20, .newarray .int, 0, 0),
  (22, .putfield 19, 28, 170),
  (25, .aload_n 0, 0, 0),
  (26, .iconst 0, 0, 0),
  (27, .putfield 22, 29, 171),
  (30, .return_, 0, 0)]
def xe_41 : XMe := ("BetweenThisAndThat$Text", ⟨"BetweenThisAndThat$Text", "<init>", "()V"⟩, prog_7_method_1_code, 1, none, 205, 0, (166, 165, 0, 66))
def xi_42 : List XIn := [(0, .aload_n 0, 0, 0),
  (1, .iconst 0, 0, 0),
  (2, .putfield 15, 27, 169),
  (5, .aload_n 0, 0, 0),
  (6, .iconst 0, 0, 0),
  (7, .putfield 22, 29, 171),
  (10, .return_, 0, 0)]
def xe_42 : XMe := ("BetweenThisAndThat$Text", ⟨"BetweenThisAndThat$Text", "clea\x72", "()V"⟩, prog_7_method_2_code, 1, none, 105, 0, (347, 345, 346, 66))
def xi_43 : List XIn := [(0, .aload_n 0, 0, 0),
  (1, .getfield 15, 27, 169),
  (4, .aload_n 0, 0, 0),
  (5, .getfield 9, 26, 168),
  (8, .arraylength, 0, 0),
  (9, .if_icmp .ge 23, 0, 0),
  (12, .aload_n 0, 0, 0),
  (13, .getfield 9, 26, 168),
  (16, .aload_n 0, 0, 0),
  (17, .getfield 15, 27, 169),
  (20, .iload_n 1, 0, 0),
  (21, .iastore, 0, 0),
  (22, .aload_n 0, 0, 0),
  (23, .dup, 0, 0),
  (24, .getfield 15, 27, 169),
  (27, .iconst 1, 0, 0),
  (28, .iadd, 0, 0),
  (29, .putfield 15, 27, 169),
  (32, .return_, 0, 0)]
def xe_43 : XMe := ("BetweenThisAndThat$Text", ⟨"BetweenThisAndThat$Text", "add", "(I)V"⟩, prog_7_method_3_code, 2, none, 105, 1, (461, 459, 460, 66))
def xi_44 : List XIn := [(0, .aload_n 0, 0, 0),
  (1, .getfield 19, 28, 170),
  (4, .iload_n 1, 0, 0),
  (5, .aload_n 0, 0, 0),
  (6, .getfield 15, 27, 169),
  (9, .iastore, 0, 0),
  (10, .iload_n 1, 0, 0),
  (11, .ifCond .ne 61, 0, 0),
  (14, .aload_n 0, 0, 0),
  (15, .iconst 0, 0, 0),
  (16, .putfield 22, 29, 171),
  (19, .iconst 0, 0, 0),
  (20, .istore_n 2, 0, 0),
  (21, .iload_n 2, 0, 0),
  (22, .aload_n 0, 0, 0),
  (23, .getfield 15, 27, 169),
  (26, .if_icmp .ge 46, 0, 0),
  (29, .aload_n 0, 0, 0),
  (30, .dup, 0, 0),
  (31, .getfield 22, 29, 171),
  (34, .aload_n 0, 0, 0),
  (35, .getfield 9, 26, 168),
  (38, .iload_n 2, 0, 0),
  (39, .iaload, 0, 0),
  (40, .sipush 10000, 0, 0),
  (43, .if_icmp .lt 18, 0, 0),
  (46, .iconst 1, 0, 0),
  (47, .aload_n 0, 0, 0),
  (48, .getfield 9, 26, 168),
  (51, .iload_n 2, 0, 0),
  (52, .iaload, 0, 0),
  (53, .sipush 10000, 0, 0),
  (56, .isub, 0, 0),
  (57, .ishl, 0, 0),
  (58, .goto 4, 0, 0),
  (61, .iconst 0, 0, 0),
  (62, .ior, 0, 0),
  (63, .putfield 22, 29, 171),
  (66, .iinc 2 1, 0, 0),
  (69, .goto (-48), 0, 0),
  (72, .return_, 0, 0)]
def xe_44 : XMe := ("BetweenThisAndThat$Text", ⟨"BetweenThisAndThat$Text", "endPart", "(I)V"⟩, prog_7_method_4_code, 3, none, 105, 1, (477, 475, 476, 66))
def xi_45 : List XIn := [(0, .aload_n 0, 0, 0),
  (1, .aload_n 1, 0, 0),
  (2, .getfield 15, 27, 169),
  (5, .putfield 15, 27, 169),
  (8, .aload_n 0, 0, 0),
  (9, .aload_n 1, 0, 0),
  (10, .getfield 22, 29, 171),
  (13, .putfield 22, 29, 171),
  (16, .aload_n 1, 0, 0),
  (17, .getfield 9, 26, 168),
  (20, .iconst 0, 0, 0),
  (21, .aload_n 0, 0, 0),
  (22, .getfield 9, 26, 168),
  (25, .iconst 0, 0, 0),
  (26, .aload_n 0, 0, 0),
  (27, .getfield 9, 26, 168),
  (30, .arraylength, 0, 0),
  (31, .invokestatic 25, 9999, 482),
  (34, .aload_n 1, 0, 0),
  (35, .getfield 19, 28, 170),
  (38, .iconst 0, 0, 0),
  (39, .aload_n 0, 0, 0),
  (40, .getfield 19, 28, 170),
  (43, .iconst 0, 0, 0),
  (44, .aload_n 0, 0, 0),
  (45, .getfield 19, 28, 170),
  (48, .arraylength, 0, 0),
  (49, .invokestatic 25, 9999, 482),
  (52, .return_, 0, 0)]
def xe_45 : XMe := ("BetweenThisAndThat$Text", ⟨"BetweenThisAndThat$Text", "becomes", "(LBetweenThisAndThat$Text;)V"⟩, prog_7_method_5_code, 2, none, 105, 1, (481, 479, 480, 66))
def xi_46 : List XIn := [(0, .iconst 0, 0, 0),
  (1, .istore 4, 0, 0),
  (3, .iload_n 1, 0, 0),
  (4, .ifCond .ne 7, 0, 0),
  (7, .iconst 0, 0, 0),
  (8, .goto 11, 0, 0),
  (11, .aload_n 0, 0, 0),
  (12, .getfield 19, 28, 170),
  (15, .iload_n 1, 0, 0),
  (16, .iconst 1, 0, 0),
  (17, .isub, 0, 0),
  (18, .iaload, 0, 0),
  (19, .istore 5, 0, 0),
  (21, .iload 5, 0, 0),
  (23, .aload_n 0, 0, 0),
  (24, .getfield 19, 28, 170),
  (27, .iload_n 1, 0, 0),
  (28, .iaload, 0, 0),
  (29, .if_icmp .ge 160, 0, 0),
  (32, .aload_n 0, 0, 0),
  (33, .getfield 9, 26, 168),
  (36, .iload 5, 0, 0),
  (38, .iaload, 0, 0),
  (39, .istore 6, 0, 0),
  (41, .iload 6, 0, 0),
  (43, .ifCond .lt 43, 0, 0),
  (46, .iload 4, 0, 0),
  (48, .aload_n 3, 0, 0),
  (49, .arraylength, 0, 0),
  (50, .if_icmp .lt 5, 0, 0),
  (53, .iconst 0, 0, 0),
  (54, .ireturn, 0, 0),
  (55, .aload_n 3, 0, 0),
  (56, .iload 4, 0, 0),
  (58, .iload 6, 0, 0),
  (60, .sipush 10000, 0, 0),
  (63, .if_icmp .ge 8, 0, 0),
  (66, .iload 6, 0, 0),
  (68, .goto 11, 0, 0),
  (71, .aload_n 2, 0, 0),
  (72, .iload 6, 0, 0),
  (74, .sipush 10000, 0, 0),
  (77, .isub, 0, 0),
  (78, .iaload, 0, 0),
  (79, .iastore, 0, 0),
  (80, .iinc 4 1, 0, 0),
  (83, .goto 100, 0, 0),
  (86, .iload 6, 0, 0),
  (88, .bipush (-3), 0, 0),
  (90, .if_icmp .eq 10, 0, 0),
  (93, .iload 6, 0, 0),
  (95, .bipush (-9), 0, 0),
  (97, .if_icmp .ne 54, 0, 0),
  (100, .iload 4, 0, 0),
  (102, .iconst 1, 0, 0),
  (103, .if_icmp .ge 5, 0, 0),
  (106, .iconst 0, 0, 0),
  (107, .ireturn, 0, 0),
  (108, .aload_n 3, 0, 0),
  (109, .iload 4, 0, 0),
  (111, .iconst 1, 0, 0),
  (112, .isub, 0, 0),
  (113, .iload 6, 0, 0),
  (115, .bipush (-9), 0, 0),
  (117, .if_icmp .ne 13, 0, 0),
  (120, .aload_n 3, 0, 0),
  (121, .iload 4, 0, 0),
  (123, .iconst 1, 0, 0),
  (124, .isub, 0, 0),
  (125, .iaload, 0, 0),
  (126, .ineg, 0, 0),
  (127, .goto 20, 0, 0),
  (130, .aload_n 3, 0, 0),
  (131, .iload 4, 0, 0),
  (133, .iconst 1, 0, 0),
  (134, .isub, 0, 0),
  (135, .iaload, 0, 0),
  (136, .ifCond .ne 7, 0, 0),
  (139, .iconst 1, 0, 0),
  (140, .goto 4, 0, 0),
  (143, .iconst 0, 0, 0),
  (144, .invokestatic 31, 48, 704),
  (147, .iastore, 0, 0),
  (148, .goto 35, 0, 0),
  (151, .iload 4, 0, 0),
  (153, .iconst 2, 0, 0),
  (154, .if_icmp .ge 5, 0, 0),
  (157, .iconst 0, 0, 0),
  (158, .ireturn, 0, 0),
  (159, .iinc 4 (-1), 0, 0),
  (162, .aload_n 3, 0, 0),
  (163, .iload 4, 0, 0),
  (165, .iconst 1, 0, 0),
  (166, .isub, 0, 0),
  (167, .iload 6, 0, 0),
  (169, .aload_n 3, 0, 0),
  (170, .iload 4, 0, 0),
  (172, .iconst 1, 0, 0),
  (173, .isub, 0, 0),
  (174, .iaload, 0, 0),
  (175, .aload_n 3, 0, 0),
  (176, .iload 4, 0, 0),
  (178, .iaload, 0, 0),
  (179, .invokestatic 35, 47, 707),
  (182, .iastore, 0, 0),
  (183, .iinc 5 1, 0, 0),
  (186, .goto (-165), 0, 0),
  (189, .iload 4, 0, 0),
  (191, .iconst 1, 0, 0),
  (192, .if_icmp .ne 9, 0, 0),
  (195, .aload_n 3, 0, 0),
  (196, .iconst 0, 0, 0),
  (197, .iaload, 0, 0),
  (198, .goto 4, 0, 0),
  (201, .iconst 0, 0, 0),
  (202, .ireturn, 0, 0)]
def xe_46 : XMe := ("BetweenThisAndThat$Text", ⟨"BetweenThisAndThat$Text", "tell", "(I[I[I)I"⟩, prog_7_method_6_code, 7, some (Jvm.ClassFile.FieldType.int), 105, 3, (703, 701, 702, 66))
def xi_47 : List XIn := [(0, .iload_n 0, 0, 0),
  (1, .tableswitch 113 (-7) (-1) #[109, 105, 91, 77, 113, 60, 43], 0, 0),
  (44, .iload_n 1, 0, 0),
  (45, .ifCond .ne 7, 0, 0),
  (48, .iload_n 2, 0, 0),
  (49, .ifCond .eq 7, 0, 0),
  (52, .iconst 1, 0, 0),
  (53, .goto 4, 0, 0),
  (56, .iconst 0, 0, 0),
  (57, .invokestatic 31, 48, 704),
  (60, .ireturn, 0, 0),
  (61, .iload_n 1, 0, 0),
  (62, .ifCond .eq 11, 0, 0),
  (65, .iload_n 2, 0, 0),
  (66, .ifCond .eq 7, 0, 0),
  (69, .iconst 1, 0, 0),
  (70, .goto 4, 0, 0),
  (73, .iconst 0, 0, 0),
  (74, .invokestatic 31, 48, 704),
  (77, .ireturn, 0, 0),
  (78, .iload_n 1, 0, 0),
  (79, .iload_n 2, 0, 0),
  (80, .if_icmp .ge 7, 0, 0),
  (83, .iconst 1, 0, 0),
  (84, .goto 4, 0, 0),
  (87, .iconst 0, 0, 0),
  (88, .invokestatic 31, 48, 704),
  (91, .ireturn, 0, 0),
  (92, .iload_n 1, 0, 0),
  (93, .iload_n 2, 0, 0),
  (94, .if_icmp .ne 7, 0, 0),
  (97, .iconst 1, 0, 0),
  (98, .goto 4, 0, 0),
  (101, .iconst 0, 0, 0),
  (102, .invokestatic 31, 48, 704),
  (105, .ireturn, 0, 0),
  (106, .iload_n 1, 0, 0),
  (107, .iload_n 2, 0, 0),
  (108, .iadd, 0, 0),
  (109, .ireturn, 0, 0),
  (110, .iload_n 1, 0, 0),
  (111, .iload_n 2, 0, 0),
  (112, .isub, 0, 0),
  (113, .ireturn, 0, 0),
  (114, .iload_n 1, 0, 0),
  (115, .iload_n 2, 0, 0),
  (116, .imul, 0, 0),
  (117, .ireturn, 0, 0)]
def xe_47 : XMe := ("BetweenThisAndThat$Text", ⟨"BetweenThisAndThat$Text", "joined", "(III)I"⟩, prog_7_method_7_code, 3, some (Jvm.ClassFile.FieldType.int), 0, 3, (709, 708, 0, 66))
def xi_48 : List XIn := [(0, .iload_n 0, 0, 0),
  (1, .ifCond .eq 7, 0, 0),
  (4, .iconst 1, 0, 0),
  (5, .goto 4, 0, 0),
  (8, .iconst 0, 0, 0),
  (9, .ireturn, 0, 0)]
def xe_48 : XMe := ("BetweenThisAndThat$Text", ⟨"BetweenThisAndThat$Text", "truth", "(Z)I"⟩, prog_7_method_8_code, 1, some (Jvm.ClassFile.FieldType.int), 0, 1, (706, 705, 0, 66))
def xi_49 : List XIn := [(0, .aload_n 0, 0, 0),
  (1, .invokespecial 3, 8888, 93),
  (4, .aload_n 0, 0, 0),
  (5, .bipush 10, 0, 0),
  (7, .anewarray 9, 2, 94),
  (10, .putfield 11, 30, 128),
  (13, .aload_n 0, 0, 0),
  (14, .iconst 0, 0, 0),
  (15, .putfield 17, 31, 131),
  (18, .aload_n 0, 0, 0),
  (19, .iconst 0, 0, 0),
  (20, .putfield 21, 32, 134),
  (23, .aload_n 0, 0, 0),
  (24, .iconst 0, 0, 0),
  (25, .putfield 24, 33, 136),
  (28, .aload_n 0, 0, 0),
  (29, .iconst 0, 0, 0),
  (30, .putfield 27, 34, 139),
  (33, .iconst 0, 0, 0),
  (34, .istore_n 1, 0, 0),
  (35, .iload_n 1, 0, 0),
  (36, .bipush 10, 0, 0),
  (38, .if_icmp .ge 22, 0, 0),
  (41, .aload_n 0, 0, 0),
  (42, .getfield 11, 30, 128),
  (45, .iload_n 1, 0, 0),
  (46, .new 9, 2, 94),
  (49, .dup, 0, 0),
  (50, .invokespecial 30, 10021, 97),
  (53, .aastore, 0, 0),
  (54, .iinc 1 1, 0, 0),
  (57, .goto (-22), 0, 0),
  (60, .return_, 0, 0)]
def xe_49 : XMe := ("BetweenThisAndThat$Told", ⟨"BetweenThisAndThat$Told", "<init>", "()V"⟩, prog_8_method_1_code, 2, none, 206, 0, (92, 91, 0, 63))
def xi_50 : List XIn := [(0, .aload_n 0, 0, 0),
  (1, .aload_n 1, 0, 0),
  (2, .getfield 17, 31, 131),
  (5, .putfield 17, 31, 131),
  (8, .aload_n 0, 0, 0),
  (9, .aload_n 1, 0, 0),
  (10, .getfield 21, 32, 134),
  (13, .putfield 21, 32, 134),
  (16, .aload_n 0, 0, 0),
  (17, .aload_n 1, 0, 0),
  (18, .getfield 24, 33, 136),
  (21, .putfield 24, 33, 136),
  (24, .aload_n 0, 0, 0),
  (25, .aload_n 1, 0, 0),
  (26, .getfield 27, 34, 139),
  (29, .putfield 27, 34, 139),
  (32, .iconst 0, 0, 0),
  (33, .istore_n 2, 0, 0),
  (34, .iload_n 2, 0, 0),
  (35, .aload_n 0, 0, 0),
  (36, .getfield 17, 31, 131),
  (39, .if_icmp .ge 49, 0, 0),
  (42, .aload_n 1, 0, 0),
  (43, .getfield 11, 30, 128),
  (46, .iload_n 2, 0, 0),
  (47, .aaload, 0, 0),
  (48, .astore_n 3, 0, 0),
  (49, .aload_n 0, 0, 0),
  (50, .getfield 11, 30, 128),
  (53, .iload_n 2, 0, 0),
  (54, .aaload, 0, 0),
  (55, .bipush 10, 0, 0),
  (57, .aload_n 3, 0, 0),
  (58, .getfield 31, 12, 102),
  (61, .imul, 0, 0),
  (62, .aload_n 3, 0, 0),
  (63, .getfield 34, 13, 105),
  (66, .iadd, 0, 0),
  (67, .aload_n 3, 0, 0),
  (68, .getfield 37, 14, 109),
  (71, .aload_n 3, 0, 0),
  (72, .getfield 40, 15, 112),
  (75, .aload_n 3, 0, 0),
  (76, .getfield 43, 16, 115),
  (79, .invokevirtual 46, 22, 841),
  (82, .iinc 2 1, 0, 0),
  (85, .goto (-51), 0, 0),
  (88, .return_, 0, 0)]
def xe_50 : XMe := ("BetweenThisAndThat$Told", ⟨"BetweenThisAndThat$Told", "becomes", "(LBetweenThisAndThat$Told;)V"⟩, prog_8_method_2_code, 4, none, 106, 1, (840, 838, 839, 63))
def xi_51 : List XIn := [(0, .aload_n 0, 0, 0),
  (1, .invokespecial 1, 8888, 85),
  (4, .aload_n 0, 0, 0),
  (5, .new 7, 6, 88),
  (8, .dup, 0, 0),
  (9, .invokespecial 9, 49, 90),
  (12, .putfield 10, 35, 485),
  (15, .aload_n 0, 0, 0),
  (16, .new 7, 6, 88),
  (19, .dup, 0, 0),
  (20, .invokespecial 9, 49, 90),
  (23, .putfield 16, 36, 486),
  (26, .aload_n 0, 0, 0),
  (27, .iconst 0, 0, 0),
  (28, .putfield 19, 37, 487),
  (31, .aload_n 0, 0, 0),
  (32, .bipush 8, 0, 0),
  (34, .anewarray 23, 0, 152),
  (37, .putfield 25, 38, 488),
  (40, .aload_n 0, 0, 0),
  (41, .bipush 6, 0, 0),
  (43, .anewarray 29, 5, 154),
  (46, .putfield 31, 39, 489),
  (49, .aload_n 0, 0, 0),
  (50, .iconst 0, 0, 0),
  (51, .putfield 35, 40, 490),
  (54, .aload_n 0, 0, 0),
  (55, .new 39, 1, 156),
  (58, .dup, 0, 0),
  (59, .invokespecial 41, 10004, 158),
  (62, .putfield 42, 41, 491),
  (65, .aload_n 0, 0, 0),
  (66, .iconst 4, 0, 0),
  (67, .anewarray 46, 3, 211),
  (70, .putfield 48, 42, 492),
  (73, .aload_n 0, 0, 0),
  (74, .new 52, 4, 213),
  (77, .dup, 0, 0),
  (78, .invokespecial 54, 10033, 215),
  (81, .putfield 55, 43, 493),
  (84, .aload_n 0, 0, 0),
  (85, .bipush 6, 0, 0),
  (87, .newarray .int, 0, 0),
  (89, .putfield 59, 44, 494),
  (92, .aload_n 0, 0, 0),
  (93, .sipush 160, 0, 0),
  (96, .newarray .int, 0, 0),
  (98, .putfield 63, 45, 495),
  (101, .aload_n 0, 0, 0),
  (102, .iconst 0, 0, 0),
  (103, .putfield 66, 46, 496),
  (106, .aload_n 0, 0, 0),
  (107, .iconst 0, 0, 0),
  (108, .putfield 69, 47, 497),
  (111, .iconst 0, 0, 0),
  (112, .istore_n 1, 0, 0),
  (113, .iload_n 1, 0, 0),
  (114, .bipush 8, 0, 0),
  (116, .if_icmp .ge 22, 0, 0),
  (119, .aload_n 0, 0, 0),
  (120, .getfield 25, 38, 488),
  (123, .iload_n 1, 0, 0),
  (124, .new 23, 0, 152),
  (127, .dup, 0, 0),
  (128, .invokespecial 72, 10001, 243),
  (131, .aastore, 0, 0),
  (132, .iinc 1 1, 0, 0),
  (135, .goto (-22), 0, 0),
  (138, .iconst 0, 0, 0),
  (139, .istore_n 1, 0, 0),
  (140, .iload_n 1, 0, 0),
  (141, .bipush 6, 0, 0),
  (143, .if_icmp .ge 22, 0, 0),
  (146, .aload_n 0, 0, 0),
  (147, .getfield 31, 39, 489),
  (150, .iload_n 1, 0, 0),
  (151, .new 29, 5, 154),
  (154, .dup, 0, 0),
  (155, .invokespecial 73, 10041, 268),
  (158, .aastore, 0, 0),
  (159, .iinc 1 1, 0, 0),
  (162, .goto (-22), 0, 0),
  (165, .iconst 0, 0, 0),
  (166, .istore_n 1, 0, 0),
  (167, .iload_n 1, 0, 0),
  (168, .iconst 4, 0, 0),
  (169, .if_icmp .ge 22, 0, 0),
  (172, .aload_n 0, 0, 0),
  (173, .getfield 48, 42, 492),
  (176, .iload_n 1, 0, 0),
  (177, .new 46, 3, 211),
  (180, .dup, 0, 0),
  (181, .invokespecial 74, 10029, 270),
  (184, .aastore, 0, 0),
  (185, .iinc 1 1, 0, 0),
  (188, .goto (-21), 0, 0),
  (191, .iconst 0, 0, 0),
  (192, .istore_n 1, 0, 0),
  (193, .iload_n 1, 0, 0),
  (194, .ldc 75, 1, 287),
  (196, .invokevirtual 77, 192, 288),
  (199, .if_icmp .ge 22, 0, 0),
  (202, .aload_n 0, 0, 0),
  (203, .getfield 42, 41, 491),
  (206, .ldc 75, 1, 287),
  (208, .iload_n 1, 0, 0),
  (209, .invokevirtual 83, 193, 298),
  (212, .invokevirtual 87, 5, 336),
  (215, .iinc 1 1, 0, 0),
  (218, .goto (-25), 0, 0),
  (221, .aload_n 0, 0, 0),
  (222, .getfield 42, 41, 491),
  (225, .invokevirtual 91, 6, 340),
  (228, .pop, 0, 0),
  (229, .aload_n 0, 0, 0),
  (230, .getfield 31, 39, 489),
  (233, .iconst 0, 0, 0),
  (234, .aaload, 0, 0),
  (235, .aload_n 0, 0, 0),
  (236, .getfield 42, 41, 491),
  (239, .getfield 95, 6, 187),
  (242, .invokevirtual 99, 45, 478),
  (245, .aload_n 0, 0, 0),
  (246, .iconst 1, 0, 0),
  (247, .putfield 35, 40, 490),
  (250, .return_, 0, 0)]
def xe_51 : XMe := ("BetweenThisAndThat", ⟨"BetweenThisAndThat", "<init>", "()V"⟩, prog_1_method_1_code, 2, none, 207, 0, (84, 83, 0, 62))
def xi_52 : List XIn := [(0, .iload_n 1, 0, 0),
  (1, .tableswitch 84 0 5 #[39, 47, 55, 63, 68, 76], 0, 0),
  (40, .aload_n 0, 0, 0),
  (41, .getfield 10, 35, 485),
  (44, .getfield 103, 31, 133),
  (47, .ireturn, 0, 0),
  (48, .aload_n 0, 0, 0),
  (49, .getfield 10, 35, 485),
  (52, .getfield 106, 32, 135),
  (55, .ireturn, 0, 0),
  (56, .aload_n 0, 0, 0),
  (57, .getfield 10, 35, 485),
  (60, .getfield 109, 33, 137),
  (63, .ireturn, 0, 0),
  (64, .aload_n 0, 0, 0),
  (65, .getfield 35, 40, 490),
  (68, .ireturn, 0, 0),
  (69, .aload_n 0, 0, 0),
  (70, .getfield 10, 35, 485),
  (73, .getfield 112, 34, 140),
  (76, .ireturn, 0, 0),
  (77, .aload_n 0, 0, 0),
  (78, .getfield 42, 41, 491),
  (81, .getfield 115, 5, 185),
  (84, .ireturn, 0, 0),
  (85, .bipush (-2), 0, 0),
  (87, .ireturn, 0, 0)]
def xe_52 : XMe := ("BetweenThisAndThat", ⟨"BetweenThisAndThat", "count", "(I)I"⟩, prog_1_method_2_code, 2, some (Jvm.ClassFile.FieldType.int), 107, 1, (529, 527, 528, 62))
def xi_53 : List XIn := [(0, .iload_n 1, 0, 0),
  (1, .iconst 0, 0, 0),
  (2, .bipush 99, 0, 0),
  (4, .invokestatic 118, 90, 534),
  (7, .ifCond .ne 6, 0, 0),
  (10, .bipush (-2), 0, 0),
  (12, .ireturn, 0, 0),
  (13, .aload_n 0, 0, 0),
  (14, .getfield 10, 35, 485),
  (17, .getfield 109, 33, 137),
  (20, .istore_n 2, 0, 0),
  (21, .aload_n 0, 0, 0),
  (22, .getfield 10, 35, 485),
  (25, .iload_n 1, 0, 0),
  (26, .putfield 109, 33, 137),
  (29, .iload_n 2, 0, 0),
  (30, .ireturn, 0, 0)]
def xe_53 : XMe := ("BetweenThisAndThat", ⟨"BetweenThisAndThat", "set", "(I)I"⟩, prog_1_method_3_code, 3, some (Jvm.ClassFile.FieldType.int), 107, 1, (533, 531, 532, 62))
def xi_54 : List XIn := [(0, .iload_n 1, 0, 0),
  (1, .iconst 1, 0, 0),
  (2, .iconst 5, 0, 0),
  (3, .invokestatic 118, 90, 534),
  (6, .ifCond .eq 41, 0, 0),
  (9, .iload_n 2, 0, 0),
  (10, .invokestatic 122, 91, 541),
  (13, .ifCond .eq 34, 0, 0),
  (16, .iload_n 3, 0, 0),
  (17, .invokestatic 122, 91, 541),
  (20, .ifCond .eq 27, 0, 0),
  (23, .iload 4, 0, 0),
  (25, .invokestatic 122, 91, 541),
  (28, .ifCond .eq 19, 0, 0),
  (31, .iload 5, 0, 0),
  (33, .invokestatic 122, 91, 541),
  (36, .ifCond .eq 11, 0, 0),
  (39, .iload 6, 0, 0),
  (41, .invokestatic 122, 91, 541),
  (44, .ifCond .ne 6, 0, 0),
  (47, .bipush (-2), 0, 0),
  (49, .ireturn, 0, 0),
  (50, .aload_n 0, 0, 0),
  (51, .getfield 42, 41, 491),
  (54, .getfield 115, 5, 185),
  (57, .iload_n 1, 0, 0),
  (58, .iadd, 0, 0),
  (59, .sipush 160, 0, 0),
  (62, .if_icmp .le 6, 0, 0),
  (65, .bipush (-4), 0, 0),
  (67, .ireturn, 0, 0),
  (68, .iconst 0, 0, 0),
  (69, .istore 7, 0, 0),
  (71, .iload 7, 0, 0),
  (73, .iload_n 1, 0, 0),
  (74, .if_icmp .ge 59, 0, 0),
  (77, .aload_n 0, 0, 0),
  (78, .getfield 42, 41, 491),
  (81, .iload 7, 0, 0),
  (83, .ifCond .ne 7, 0, 0),
  (86, .iload_n 2, 0, 0),
  (87, .goto 37, 0, 0),
  (90, .iload 7, 0, 0),
  (92, .iconst 1, 0, 0),
  (93, .if_icmp .ne 7, 0, 0),
  (96, .iload_n 3, 0, 0),
  (97, .goto 27, 0, 0),
  (100, .iload 7, 0, 0),
  (102, .iconst 2, 0, 0),
  (103, .if_icmp .ne 8, 0, 0),
  (106, .iload 4, 0, 0),
  (108, .goto 16, 0, 0),
  (111, .iload 7, 0, 0),
  (113, .iconst 3, 0, 0),
  (114, .if_icmp .ne 8, 0, 0),
  (117, .iload 5, 0, 0),
  (119, .goto 5, 0, 0),
  (122, .iload 6, 0, 0),
  (124, .invokevirtual 87, 5, 336),
  (127, .iinc 7 1, 0, 0),
  (130, .goto (-59), 0, 0),
  (133, .aload_n 0, 0, 0),
  (134, .getfield 42, 41, 491),
  (137, .getfield 115, 5, 185),
  (140, .ireturn, 0, 0)]
def xe_54 : XMe := ("BetweenThisAndThat", ⟨"BetweenThisAndThat", "feed", "(IIIIII)I"⟩, prog_1_method_4_code, 8, some (Jvm.ClassFile.FieldType.int), 107, 6, (540, 538, 539, 62))
def xi_55 : List XIn := [(0, .aload_n 0, 0, 0),
  (1, .getfield 35, 40, 490),
  (4, .bipush 6, 0, 0),
  (6, .if_icmp .lt 6, 0, 0),
  (9, .bipush (-4), 0, 0),
  (11, .ireturn, 0, 0),
  (12, .aload_n 0, 0, 0),
  (13, .getfield 42, 41, 491),
  (16, .invokevirtual 91, 6, 340),
  (19, .ifCond .ne 14, 0, 0),
  (22, .bipush (-100), 0, 0),
  (24, .aload_n 0, 0, 0),
  (25, .getfield 42, 41, 491),
  (28, .getfield 126, 7, 189),
  (31, .isub, 0, 0),
  (32, .ireturn, 0, 0),
  (33, .aload_n 0, 0, 0),
  (34, .getfield 31, 39, 489),
  (37, .aload_n 0, 0, 0),
  (38, .getfield 35, 40, 490),
  (41, .aaload, 0, 0),
  (42, .aload_n 0, 0, 0),
  (43, .getfield 42, 41, 491),
  (46, .getfield 95, 6, 187),
  (49, .invokevirtual 99, 45, 478),
  (52, .aload_n 0, 0, 0),
  (53, .dup, 0, 0),
  (54, .getfield 35, 40, 490),
  (57, .iconst 1, 0, 0),
  (58, .iadd, 0, 0),
  (59, .putfield 35, 40, 490),
  (62, .aload_n 0, 0, 0),
  (63, .getfield 35, 40, 490),
  (66, .iconst 1, 0, 0),
  (67, .isub, 0, 0),
  (68, .ireturn, 0, 0)]
def xe_55 : XMe := ("BetweenThisAndThat", ⟨"BetweenThisAndThat", "text", "()I"⟩, prog_1_method_5_code, 1, some (Jvm.ClassFile.FieldType.int), 107, 0, (547, 545, 546, 62))
def xi_56 : List XIn := [(0, .aload_n 0, 0, 0),
  (1, .iload_n 1, 0, 0),
  (2, .invokevirtual 129, 94, 552),
  (5, .ifCond .ne 6, 0, 0),
  (8, .bipush (-2), 0, 0),
  (10, .ireturn, 0, 0),
  (11, .aload_n 0, 0, 0),
  (12, .getfield 10, 35, 485),
  (15, .getfield 112, 34, 140),
  (18, .istore_n 2, 0, 0),
  (19, .aload_n 0, 0, 0),
  (20, .getfield 10, 35, 485),
  (23, .iload_n 1, 0, 0),
  (24, .putfield 112, 34, 140),
  (27, .iload_n 2, 0, 0),
  (28, .ireturn, 0, 0)]
def xe_56 : XMe := ("BetweenThisAndThat", ⟨"BetweenThisAndThat", "force", "(I)I"⟩, prog_1_method_6_code, 3, some (Jvm.ClassFile.FieldType.int), 107, 1, (551, 549, 550, 62))
def xi_57 : List XIn := [(0, .aload_n 0, 0, 0),
  (1, .iload_n 1, 0, 0),
  (2, .iload_n 2, 0, 0),
  (3, .iload_n 3, 0, 0),
  (4, .iload 4, 0, 0),
  (6, .invokevirtual 132, 96, 560),
  (9, .ireturn, 0, 0)]
def xe_57 : XMe := ("BetweenThisAndThat", ⟨"BetweenThisAndThat", "say", "(IIII)I"⟩, prog_1_method_7_code, 5, some (Jvm.ClassFile.FieldType.int), 107, 4, (559, 557, 558, 62))
def xi_58 : List XIn := [(0, .aload_n 0, 0, 0),
  (1, .getfield 10, 35, 485),
  (4, .getfield 103, 31, 133),
  (7, .ifCond .ne 6, 0, 0),
  (10, .bipush (-3), 0, 0),
  (12, .ireturn, 0, 0),
  (13, .aload_n 0, 0, 0),
  (14, .getfield 10, 35, 485),
  (17, .dup, 0, 0),
  (18, .getfield 103, 31, 133),
  (21, .iconst 1, 0, 0),
  (22, .isub, 0, 0),
  (23, .putfield 103, 31, 133),
  (26, .aload_n 0, 0, 0),
  (27, .getfield 10, 35, 485),
  (30, .getfield 103, 31, 133),
  (33, .ireturn, 0, 0)]
def xe_58 : XMe := ("BetweenThisAndThat", ⟨"BetweenThisAndThat", "unsay", "()I"⟩, prog_1_method_8_code, 1, some (Jvm.ClassFile.FieldType.int), 107, 0, (574, 572, 573, 62))
def xi_59 : List XIn := [(0, .aload_n 0, 0, 0),
  (1, .iload_n 1, 0, 0),
  (2, .invokevirtual 136, 95, 579),
  (5, .ifCond .ne 6, 0, 0),
  (8, .bipush (-5), 0, 0),
  (10, .ireturn, 0, 0),
  (11, .aload_n 0, 0, 0),
  (12, .getfield 10, 35, 485),
  (15, .getfield 139, 30, 130),
  (18, .iload_n 1, 0, 0),
  (19, .aaload, 0, 0),
  (20, .astore_n 3, 0, 0),
  (21, .iload_n 2, 0, 0),
  (22, .tableswitch 91 0 6 #[42, 47, 52, 57, 62, 67, 79], 0, 0),
  (64, .aload_n 3, 0, 0),
  (65, .getfield 143, 12, 103),
  (68, .ireturn, 0, 0),
  (69, .aload_n 3, 0, 0),
  (70, .getfield 148, 14, 110),
  (73, .ireturn, 0, 0),
  (74, .aload_n 3, 0, 0),
  (75, .getfield 151, 15, 113),
  (78, .ireturn, 0, 0),
  (79, .aload_n 3, 0, 0),
  (80, .getfield 154, 16, 116),
  (83, .ireturn, 0, 0),
  (84, .aload_n 3, 0, 0),
  (85, .getfield 157, 13, 106),
  (88, .ireturn, 0, 0),
  (89, .aload_n 3, 0, 0),
  (90, .aload_n 0, 0, 0),
  (91, .getfield 10, 35, 485),
  (94, .getfield 109, 33, 137),
  (97, .invokevirtual 160, 23, 583),
  (100, .ireturn, 0, 0),
  (101, .aload_n 3, 0, 0),
  (102, .aload_n 0, 0, 0),
  (103, .getfield 10, 35, 485),
  (106, .getfield 109, 33, 137),
  (109, .invokevirtual 164, 24, 593),
  (112, .ireturn, 0, 0),
  (113, .bipush (-7), 0, 0),
  (115, .ireturn, 0, 0)]
def xe_59 : XMe := ("BetweenThisAndThat", ⟨"BetweenThisAndThat", "told", "(II)I"⟩, prog_1_method_9_code, 4, some (Jvm.ClassFile.FieldType.int), 107, 2, (578, 576, 577, 62))
def xi_60 : List XIn := [(0, .iload_n 1, 0, 0),
  (1, .invokestatic 167, 92, 564),
  (4, .ifCond .eq 48, 0, 0),
  (7, .iload_n 2, 0, 0),
  (8, .invokestatic 167, 92, 564),
  (11, .ifCond .eq 41, 0, 0),
  (14, .iload_n 1, 0, 0),
  (15, .iload_n 2, 0, 0),
  (16, .if_icmp .eq 36, 0, 0),
  (19, .iload_n 3, 0, 0),
  (20, .sipush (-999), 0, 0),
  (23, .sipush 999, 0, 0),
  (26, .invokestatic 118, 90, 534),
  (29, .ifCond .eq 23, 0, 0),
  (32, .iload 4, 0, 0),
  (34, .sipush (-999), 0, 0),
  (37, .sipush 999, 0, 0),
  (40, .invokestatic 118, 90, 534),
  (43, .ifCond .eq 9, 0, 0),
  (46, .iload_n 3, 0, 0),
  (47, .iload 4, 0, 0),
  (49, .if_icmp .le 6, 0, 0),
  (52, .bipush (-2), 0, 0),
  (54, .ireturn, 0, 0),
  (55, .aload_n 0, 0, 0),
  (56, .getfield 10, 35, 485),
  (59, .getfield 106, 32, 135),
  (62, .bipush 8, 0, 0),
  (64, .if_icmp .lt 6, 0, 0),
  (67, .bipush (-4), 0, 0),
  (69, .ireturn, 0, 0),
  (70, .aload_n 0, 0, 0),
  (71, .getfield 25, 38, 488),
  (74, .aload_n 0, 0, 0),
  (75, .getfield 10, 35, 485),
  (78, .getfield 106, 32, 135),
  (81, .aaload, 0, 0),
  (82, .iload_n 1, 0, 0),
  (83, .iload_n 2, 0, 0),
  (84, .iload_n 3, 0, 0),
  (85, .iload 4, 0, 0),
  (87, .invokevirtual 170, 2, 601),
  (90, .aload_n 0, 0, 0),
  (91, .getfield 10, 35, 485),
  (94, .dup, 0, 0),
  (95, .getfield 106, 32, 135),
  (98, .iconst 1, 0, 0),
  (99, .iadd, 0, 0),
  (100, .putfield 106, 32, 135),
  (103, .aload_n 0, 0, 0),
  (104, .getfield 10, 35, 485),
  (107, .getfield 106, 32, 135),
  (110, .iconst 1, 0, 0),
  (111, .isub, 0, 0),
  (112, .ireturn, 0, 0)]
def xe_60 : XMe := ("BetweenThisAndThat", ⟨"BetweenThisAndThat", "link", "(IIII)I"⟩, prog_1_method_10_code, 5, some (Jvm.ClassFile.FieldType.int), 107, 4, (600, 598, 599, 62))
def xi_61 : List XIn := [(0, .iload_n 1, 0, 0),
  (1, .iconst 0, 0, 0),
  (2, .aload_n 0, 0, 0),
  (3, .getfield 10, 35, 485),
  (6, .getfield 106, 32, 135),
  (9, .iconst 1, 0, 0),
  (10, .isub, 0, 0),
  (11, .invokestatic 118, 90, 534),
  (14, .ifCond .ne 6, 0, 0),
  (17, .bipush (-5), 0, 0),
  (19, .ireturn, 0, 0),
  (20, .aload_n 0, 0, 0),
  (21, .getfield 25, 38, 488),
  (24, .iload_n 1, 0, 0),
  (25, .aaload, 0, 0),
  (26, .astore_n 3, 0, 0),
  (27, .iload_n 2, 0, 0),
  (28, .tableswitch 52 0 3 #[32, 37, 42, 47], 0, 0),
  (60, .aload_n 3, 0, 0),
  (61, .getfield 173, 0, 249),
  (64, .ireturn, 0, 0),
  (65, .aload_n 3, 0, 0),
  (66, .getfield 176, 1, 252),
  (69, .ireturn, 0, 0),
  (70, .aload_n 3, 0, 0),
  (71, .getfield 179, 2, 255),
  (74, .ireturn, 0, 0),
  (75, .aload_n 3, 0, 0),
  (76, .getfield 180, 3, 258),
  (79, .ireturn, 0, 0),
  (80, .bipush (-7), 0, 0),
  (82, .ireturn, 0, 0)]
def xe_61 : XMe := ("BetweenThisAndThat", ⟨"BetweenThisAndThat", "linkTold", "(II)I"⟩, prog_1_method_11_code, 4, some (Jvm.ClassFile.FieldType.int), 107, 2, (608, 606, 607, 62))
def xi_62 : List XIn := [(0, .aload_n 0, 0, 0),
  (1, .invokevirtual 181, 97, 613),
  (4, .ifCond .eq 7, 0, 0),
  (7, .iconst 1, 0, 0),
  (8, .goto 4, 0, 0),
  (11, .iconst 0, 0, 0),
  (12, .ireturn, 0, 0)]
def xe_62 : XMe := ("BetweenThisAndThat", ⟨"BetweenThisAndThat", "can", "()I"⟩, prog_1_method_12_code, 1, some (Jvm.ClassFile.FieldType.int), 107, 0, (612, 610, 611, 62))
def xi_63 : List XIn := [(0, .iload_n 1, 0, 0),
  (1, .invokestatic 167, 92, 564),
  (4, .ifCond .ne 6, 0, 0),
  (7, .bipush (-5), 0, 0),
  (9, .ireturn, 0, 0),
  (10, .iload_n 2, 0, 0),
  (11, .iconst 0, 0, 0),
  (12, .iconst 4, 0, 0),
  (13, .invokestatic 118, 90, 534),
  (16, .ifCond .ne 6, 0, 0),
  (19, .bipush (-7), 0, 0),
  (21, .ireturn, 0, 0),
  (22, .aload_n 0, 0, 0),
  (23, .invokevirtual 181, 97, 613),
  (26, .istore_n 3, 0, 0),
  (27, .iload_n 2, 0, 0),
  (28, .iconst 3, 0, 0),
  (29, .if_icmp .ne 13, 0, 0),
  (32, .aload_n 0, 0, 0),
  (33, .getfield 55, 43, 493),
  (36, .getfield 184, 20, 220),
  (39, .iload_n 1, 0, 0),
  (40, .iaload, 0, 0),
  (41, .ireturn, 0, 0),
  (42, .iload_n 2, 0, 0),
  (43, .iconst 4, 0, 0),
  (44, .if_icmp .ne 13, 0, 0),
  (47, .aload_n 0, 0, 0),
  (48, .getfield 55, 43, 493),
  (51, .getfield 187, 21, 222),
  (54, .iload_n 1, 0, 0),
  (55, .iaload, 0, 0),
  (56, .ireturn, 0, 0),
  (57, .iload_n 3, 0, 0),
  (58, .ifCond .ne 5, 0, 0),
  (61, .iconst (-1), 0, 0),
  (62, .ireturn, 0, 0),
  (63, .iload_n 2, 0, 0),
  (64, .ifCond .ne 15, 0, 0),
  (67, .aload_n 0, 0, 0),
  (68, .getfield 55, 43, 493),
  (71, .getfield 190, 22, 224),
  (74, .iload_n 1, 0, 0),
  (75, .iaload, 0, 0),
  (76, .goto 39, 0, 0),
  (79, .iload_n 2, 0, 0),
  (80, .iconst 1, 0, 0),
  (81, .if_icmp .ne 15, 0, 0),
  (84, .aload_n 0, 0, 0),
  (85, .getfield 55, 43, 493),
  (88, .getfield 193, 23, 226),
  (91, .iload_n 1, 0, 0),
  (92, .iaload, 0, 0),
  (93, .goto 22, 0, 0),
  (96, .aload_n 0, 0, 0),
  (97, .getfield 55, 43, 493),
  (100, .getfield 193, 23, 226),
  (103, .iload_n 1, 0, 0),
  (104, .iaload, 0, 0),
  (105, .aload_n 0, 0, 0),
  (106, .getfield 55, 43, 493),
  (109, .getfield 190, 22, 224),
  (112, .iload_n 1, 0, 0),
  (113, .iaload, 0, 0),
  (114, .isub, 0, 0),
  (115, .ireturn, 0, 0)]
def xe_63 : XMe := ("BetweenThisAndThat", ⟨"BetweenThisAndThat", "span", "(II)I"⟩, prog_1_method_13_code, 4, some (Jvm.ClassFile.FieldType.int), 107, 2, (651, 649, 650, 62))
def xi_64 : List XIn := [(0, .iload_n 1, 0, 0),
  (1, .invokestatic 167, 92, 564),
  (4, .ifCond .eq 26, 0, 0),
  (7, .iload_n 2, 0, 0),
  (8, .invokestatic 167, 92, 564),
  (11, .ifCond .eq 19, 0, 0),
  (14, .iload_n 3, 0, 0),
  (15, .iconst 0, 0, 0),
  (16, .iconst 1, 0, 0),
  (17, .invokestatic 118, 90, 534),
  (20, .ifCond .eq 10, 0, 0),
  (23, .aload_n 0, 0, 0),
  (24, .invokevirtual 181, 97, 613),
  (27, .ifCond .ne 6, 0, 0),
  (30, .ldc 196, 0, 656),
  (32, .ireturn, 0, 0),
  (33, .iload_n 3, 0, 0),
  (34, .ifCond .ne 16, 0, 0),
  (37, .aload_n 0, 0, 0),
  (38, .getfield 55, 43, 493),
  (41, .iload_n 2, 0, 0),
  (42, .iload_n 1, 0, 0),
  (43, .invokevirtual 197, 39, 657),
  (46, .ineg, 0, 0),
  (47, .goto 12, 0, 0),
  (50, .aload_n 0, 0, 0),
  (51, .getfield 55, 43, 493),
  (54, .iload_n 1, 0, 0),
  (55, .iload_n 2, 0, 0),
  (56, .invokevirtual 197, 39, 657),
  (59, .ireturn, 0, 0)]
def xe_64 : XMe := ("BetweenThisAndThat", ⟨"BetweenThisAndThat", "apart", "(III)I"⟩, prog_1_method_14_code, 4, some (Jvm.ClassFile.FieldType.int), 107, 3, (655, 653, 654, 62))
def xi_65 : List XIn := [(0, .iload_n 1, 0, 0),
  (1, .iconst 0, 0, 0),
  (2, .iconst 1, 0, 0),
  (3, .invokestatic 118, 90, 534),
  (6, .ifCond .ne 6, 0, 0),
  (9, .bipush (-2), 0, 0),
  (11, .ireturn, 0, 0),
  (12, .iconst 0, 0, 0),
  (13, .istore_n 2, 0, 0),
  (14, .iconst (-1), 0, 0),
  (15, .istore_n 3, 0, 0),
  (16, .iconst 0, 0, 0),
  (17, .istore 4, 0, 0),
  (19, .iload 4, 0, 0),
  (21, .aload_n 0, 0, 0),
  (22, .getfield 10, 35, 485),
  (25, .getfield 103, 31, 133),
  (28, .if_icmp .ge 86, 0, 0),
  (31, .iload 4, 0, 0),
  (33, .iconst 1, 0, 0),
  (34, .iadd, 0, 0),
  (35, .istore 5, 0, 0),
  (37, .iload 5, 0, 0),
  (39, .aload_n 0, 0, 0),
  (40, .getfield 10, 35, 485),
  (43, .getfield 103, 31, 133),
  (46, .if_icmp .ge 62, 0, 0),
  (49, .aload_n 0, 0, 0),
  (50, .getfield 10, 35, 485),
  (53, .getfield 139, 30, 130),
  (56, .iload 4, 0, 0),
  (58, .aaload, 0, 0),
  (59, .aload_n 0, 0, 0),
  (60, .getfield 10, 35, 485),
  (63, .getfield 139, 30, 130),
  (66, .iload 5, 0, 0),
  (68, .aaload, 0, 0),
  (69, .aload_n 0, 0, 0),
  (70, .getfield 10, 35, 485),
  (73, .getfield 109, 33, 137),
  (76, .invokevirtual 201, 27, 665),
  (79, .ifCond .eq 23, 0, 0),
  (82, .iload_n 2, 0, 0),
  (83, .ifCond .ne 14, 0, 0),
  (86, .bipush 10, 0, 0),
  (88, .iload 4, 0, 0),
  (90, .imul, 0, 0),
  (91, .iload 5, 0, 0),
  (93, .iadd, 0, 0),
  (94, .goto 4, 0, 0),
  (97, .iload_n 3, 0, 0),
  (98, .istore_n 3, 0, 0),
  (99, .iinc 2 1, 0, 0),
  (102, .iinc 5 1, 0, 0),
  (105, .goto (-68), 0, 0),
  (108, .iinc 4 1, 0, 0),
  (111, .goto (-92), 0, 0),
  (114, .iload_n 1, 0, 0),
  (115, .ifCond .ne 7, 0, 0),
  (118, .iload_n 2, 0, 0),
  (119, .goto 4, 0, 0),
  (122, .iload_n 3, 0, 0),
  (123, .ireturn, 0, 0)]
def xe_65 : XMe := ("BetweenThisAndThat", ⟨"BetweenThisAndThat", "clashes", "(I)I"⟩, prog_1_method_15_code, 6, some (Jvm.ClassFile.FieldType.int), 107, 1, (664, 662, 663, 62))
def xi_66 : List XIn := [(0, .iload_n 1, 0, 0),
  (1, .iconst 0, 0, 0),
  (2, .iconst 1, 0, 0),
  (3, .invokestatic 118, 90, 534),
  (6, .ifCond .ne 6, 0, 0),
  (9, .bipush (-2), 0, 0),
  (11, .ireturn, 0, 0),
  (12, .bipush 11, 0, 0),
  (14, .istore_n 2, 0, 0),
  (15, .iconst (-1), 0, 0),
  (16, .istore_n 3, 0, 0),
  (17, .aload_n 0, 0, 0),
  (18, .getfield 55, 43, 493),
  (21, .aload_n 0, 0, 0),
  (22, .getfield 25, 38, 488),
  (25, .aload_n 0, 0, 0),
  (26, .getfield 10, 35, 485),
  (29, .getfield 106, 32, 135),
  (32, .iconst (-1), 0, 0),
  (33, .invokevirtual 205, 35, 617),
  (36, .iconst 0, 0, 0),
  (37, .istore 4, 0, 0),
  (39, .iload 4, 0, 0),
  (41, .iconst 1, 0, 0),
  (42, .aload_n 0, 0, 0),
  (43, .getfield 10, 35, 485),
  (46, .getfield 103, 31, 133),
  (49, .ishl, 0, 0),
  (50, .if_icmp .ge 37, 0, 0),
  (53, .iload 4, 0, 0),
  (55, .invokestatic 209, 205, 675),
  (58, .istore 5, 0, 0),
  (60, .iload 5, 0, 0),
  (62, .iload_n 2, 0, 0),
  (63, .if_icmp .ge 18, 0, 0),
  (66, .aload_n 0, 0, 0),
  (67, .iload 4, 0, 0),
  (69, .invokevirtual 214, 98, 630),
  (72, .ifCond .eq 9, 0, 0),
  (75, .iload 5, 0, 0),
  (77, .istore_n 2, 0, 0),
  (78, .iload 4, 0, 0),
  (80, .istore_n 3, 0, 0),
  (81, .iinc 4 1, 0, 0),
  (84, .goto (-45), 0, 0),
  (87, .iload_n 3, 0, 0),
  (88, .iconst (-1), 0, 0),
  (89, .if_icmp .ne 7, 0, 0),
  (92, .iconst (-1), 0, 0),
  (93, .goto 12, 0, 0),
  (96, .iload_n 1, 0, 0),
  (97, .ifCond .ne 7, 0, 0),
  (100, .iload_n 2, 0, 0),
  (101, .goto 4, 0, 0),
  (104, .iload_n 3, 0, 0),
  (105, .ireturn, 0, 0)]
def xe_66 : XMe := ("BetweenThisAndThat", ⟨"BetweenThisAndThat", "wrong", "(I)I"⟩, prog_1_method_16_code, 6, some (Jvm.ClassFile.FieldType.int), 107, 1, (674, 672, 673, 62))
def xi_67 : List XIn := [(0, .aload_n 0, 0, 0),
  (1, .invokevirtual 181, 97, 613),
  (4, .ifCond .eq 5, 0, 0),
  (7, .iconst 0, 0, 0),
  (8, .ireturn, 0, 0),
  (9, .iconst 0, 0, 0),
  (10, .istore_n 1, 0, 0),
  (11, .iconst 0, 0, 0),
  (12, .istore_n 2, 0, 0),
  (13, .iload_n 2, 0, 0),
  (14, .aload_n 0, 0, 0),
  (15, .getfield 10, 35, 485),
  (18, .getfield 106, 32, 135),
  (21, .if_icmp .ge 44, 0, 0),
  (24, .aload_n 0, 0, 0),
  (25, .getfield 55, 43, 493),
  (28, .aload_n 0, 0, 0),
  (29, .getfield 25, 38, 488),
  (32, .aload_n 0, 0, 0),
  (33, .getfield 10, 35, 485),
  (36, .getfield 106, 32, 135),
  (39, .iload_n 2, 0, 0),
  (40, .invokevirtual 205, 35, 617),
  (43, .aload_n 0, 0, 0),
  (44, .getfield 55, 43, 493),
  (47, .invokevirtual 217, 38, 644),
  (50, .ifCond .eq 9, 0, 0),
  (53, .iload_n 1, 0, 0),
  (54, .iconst 1, 0, 0),
  (55, .iload_n 2, 0, 0),
  (56, .ishl, 0, 0),
  (57, .ior, 0, 0),
  (58, .istore_n 1, 0, 0),
  (59, .iinc 2 1, 0, 0),
  (62, .goto (-49), 0, 0),
  (65, .iload_n 1, 0, 0),
  (66, .ireturn, 0, 0)]
def xe_67 : XMe := ("BetweenThisAndThat", ⟨"BetweenThisAndThat", "blame", "()I"⟩, prog_1_method_17_code, 3, some (Jvm.ClassFile.FieldType.int), 107, 0, (684, 682, 683, 62))
def xi_68 : List XIn := [(0, .aload_n 0, 0, 0),
  (1, .iload_n 1, 0, 0),
  (2, .invokevirtual 129, 94, 552),
  (5, .ifCond .eq 19, 0, 0),
  (8, .iload_n 2, 0, 0),
  (9, .iconst 0, 0, 0),
  (10, .iconst 2, 0, 0),
  (11, .invokestatic 118, 90, 534),
  (14, .ifCond .eq 10, 0, 0),
  (17, .aload_n 0, 0, 0),
  (18, .invokevirtual 181, 97, 613),
  (21, .ifCond .ne 7, 0, 0),
  (24, .ldc2_w 220, 0, 689),
  (27, .lreturn, 0, 0),
  (28, .aload_n 0, 0, 0),
  (29, .aload_n 0, 0, 0),
  (30, .getfield 31, 39, 489),
  (33, .iload_n 1, 0, 0),
  (34, .aaload, 0, 0),
  (35, .invokevirtual 222, 99, 690),
  (38, .lstore_n 3, 0, 0),
  (39, .iload_n 2, 0, 0),
  (40, .ifCond .ne 11, 0, 0),
  (43, .aload_n 0, 0, 0),
  (44, .getfield 66, 46, 496),
  (47, .i2l, 0, 0),
  (48, .goto 17, 0, 0),
  (51, .iload_n 2, 0, 0),
  (52, .iconst 1, 0, 0),
  (53, .if_icmp .ne 11, 0, 0),
  (56, .aload_n 0, 0, 0),
  (57, .getfield 69, 47, 497),
  (60, .i2l, 0, 0),
  (61, .goto 4, 0, 0),
  (64, .lload_n 3, 0, 0),
  (65, .lreturn, 0, 0)]
def xe_68 : XMe := ("BetweenThisAndThat", ⟨"BetweenThisAndThat", "between", "(II)J"⟩, prog_1_method_18_code, 5, some (Jvm.ClassFile.FieldType.long), 107, 2, (688, 686, 687, 62))
def xi_69 : List XIn := [(0, .aload_n 0, 0, 0),
  (1, .invokevirtual 181, 97, 613),
  (4, .ifCond .eq 10, 0, 0),
  (7, .aload_n 0, 0, 0),
  (8, .invokevirtual 226, 101, 716),
  (11, .goto 4, 0, 0),
  (14, .iconst (-1), 0, 0),
  (15, .ireturn, 0, 0)]
def xe_69 : XMe := ("BetweenThisAndThat", ⟨"BetweenThisAndThat", "inch", "()I"⟩, prog_1_method_19_code, 1, some (Jvm.ClassFile.FieldType.int), 107, 0, (715, 713, 714, 62))
def xi_70 : List XIn := [(0, .aload_n 0, 0, 0),
  (1, .iload_n 1, 0, 0),
  (2, .invokevirtual 129, 94, 552),
  (5, .ifCond .eq 30, 0, 0),
  (8, .iload_n 2, 0, 0),
  (9, .iconst 0, 0, 0),
  (10, .sipush 999, 0, 0),
  (13, .invokestatic 118, 90, 534),
  (16, .ifCond .eq 19, 0, 0),
  (19, .iload_n 3, 0, 0),
  (20, .iconst 0, 0, 0),
  (21, .iconst 1, 0, 0),
  (22, .invokestatic 118, 90, 534),
  (25, .ifCond .eq 10, 0, 0),
  (28, .aload_n 0, 0, 0),
  (29, .invokevirtual 181, 97, 613),
  (32, .ifCond .ne 7, 0, 0),
  (35, .ldc2_w 220, 0, 689),
  (38, .lreturn, 0, 0),
  (39, .aload_n 0, 0, 0),
  (40, .iload_n 2, 0, 0),
  (41, .invokevirtual 229, 102, 724),
  (44, .istore 4, 0, 0),
  (46, .bipush 6, 0, 0),
  (48, .iload 4, 0, 0),
  (50, .invokestatic 232, 106, 728),
  (53, .istore 5, 0, 0),
  (55, .ldc2_w 220, 0, 689),
  (58, .lstore 6, 0, 0),
  (60, .iconst 0, 0, 0),
  (61, .istore 8, 0, 0),
  (63, .iconst 0, 0, 0),
  (64, .istore 9, 0, 0),
  (66, .iload 9, 0, 0),
  (68, .iload 5, 0, 0),
  (70, .if_icmp .ge 75, 0, 0),
  (73, .iload 9, 0, 0),
  (75, .iload 4, 0, 0),
  (77, .invokestatic 235, 103, 731),
  (80, .ifCond .eq 59, 0, 0),
  (83, .aload_n 0, 0, 0),
  (84, .iload 9, 0, 0),
  (86, .iload 4, 0, 0),
  (88, .invokevirtual 239, 104, 734),
  (91, .ifCond .ne 6, 0, 0),
  (94, .goto 45, 0, 0),
  (97, .aload_n 0, 0, 0),
  (98, .aload_n 0, 0, 0),
  (99, .getfield 31, 39, 489),
  (102, .iload_n 1, 0, 0),
  (103, .aaload, 0, 0),
  (104, .invokevirtual 222, 99, 690),
  (107, .lstore 10, 0, 0),
  (109, .lload 6, 0, 0),
  (111, .ldc2_w 220, 0, 689),
  (114, .lcmp, 0, 0),
  (115, .ifCond .eq 11, 0, 0),
  (118, .lload 10, 0, 0),
  (120, .lload 6, 0, 0),
  (122, .lcmp, 0, 0),
  (123, .ifCond .ge 16, 0, 0),
  (126, .lload 10, 0, 0),
  (128, .lstore 6, 0, 0),
  (130, .iload 9, 0, 0),
  (132, .iload 4, 0, 0),
  (134, .invokestatic 242, 105, 739),
  (137, .istore 8, 0, 0),
  (139, .iinc 9 1, 0, 0),
  (142, .goto (-76), 0, 0),
  (145, .lload 6, 0, 0),
  (147, .ldc2_w 220, 0, 689),
  (150, .lcmp, 0, 0),
  (151, .ifCond .eq 8, 0, 0),
  (154, .iload_n 3, 0, 0),
  (155, .iconst 1, 0, 0),
  (156, .if_icmp .ne 8, 0, 0),
  (159, .lload 6, 0, 0),
  (161, .goto 6, 0, 0),
  (164, .iload 8, 0, 0),
  (166, .i2l, 0, 0),
  (167, .lreturn, 0, 0)]
def xe_70 : XMe := ("BetweenThisAndThat", ⟨"BetweenThisAndThat", "buy", "(III)J"⟩, prog_1_method_20_code, 12, some (Jvm.ClassFile.FieldType.long), 107, 3, (723, 721, 722, 62))
def xi_71 : List XIn := [(0, .aload_n 0, 0, 0),
  (1, .iload_n 1, 0, 0),
  (2, .invokevirtual 129, 94, 552),
  (5, .ifCond .eq 18, 0, 0),
  (8, .aload_n 0, 0, 0),
  (9, .iload_n 2, 0, 0),
  (10, .invokevirtual 136, 95, 579),
  (13, .ifCond .eq 10, 0, 0),
  (16, .aload_n 0, 0, 0),
  (17, .invokevirtual 181, 97, 613),
  (20, .ifCond .ne 7, 0, 0),
  (23, .ldc2_w 220, 0, 689),
  (26, .lreturn, 0, 0),
  (27, .aload_n 0, 0, 0),
  (28, .aload_n 0, 0, 0),
  (29, .getfield 31, 39, 489),
  (32, .iload_n 1, 0, 0),
  (33, .aaload, 0, 0),
  (34, .invokevirtual 222, 99, 690),
  (37, .lstore_n 3, 0, 0),
  (38, .aload_n 0, 0, 0),
  (39, .iconst 1, 0, 0),
  (40, .iload_n 2, 0, 0),
  (41, .ishl, 0, 0),
  (42, .invokevirtual 214, 98, 630),
  (45, .ifCond .eq 18, 0, 0),
  (48, .aload_n 0, 0, 0),
  (49, .aload_n 0, 0, 0),
  (50, .getfield 31, 39, 489),
  (53, .iload_n 1, 0, 0),
  (54, .aaload, 0, 0),
  (55, .invokevirtual 222, 99, 690),
  (58, .lload_n 3, 0, 0),
  (59, .lsub, 0, 0),
  (60, .goto 6, 0, 0),
  (63, .ldc2_w 220, 0, 689),
  (66, .lreturn, 0, 0)]
def xe_71 : XMe := ("BetweenThisAndThat", ⟨"BetweenThisAndThat", "worth", "(II)J"⟩, prog_1_method_21_code, 5, some (Jvm.ClassFile.FieldType.long), 107, 2, (745, 743, 744, 62))
def xi_72 : List XIn := [(0, .aload_n 0, 0, 0),
  (1, .iload_n 1, 0, 0),
  (2, .invokevirtual 129, 94, 552),
  (5, .ifCond .eq 21, 0, 0),
  (8, .iload_n 2, 0, 0),
  (9, .invokestatic 167, 92, 564),
  (12, .ifCond .eq 14, 0, 0),
  (15, .iload_n 3, 0, 0),
  (16, .iconst 0, 0, 0),
  (17, .sipush 999, 0, 0),
  (20, .invokestatic 118, 90, 534),
  (23, .ifCond .ne 7, 0, 0),
  (26, .ldc2_w 220, 0, 689),
  (29, .lreturn, 0, 0),
  (30, .aload_n 0, 0, 0),
  (31, .getfield 55, 43, 493),
  (34, .aload_n 0, 0, 0),
  (35, .getfield 25, 38, 488),
  (38, .aload_n 0, 0, 0),
  (39, .getfield 10, 35, 485),
  (42, .getfield 106, 32, 135),
  (45, .iconst (-1), 0, 0),
  (46, .invokevirtual 205, 35, 617),
  (49, .aload_n 0, 0, 0),
  (50, .getfield 55, 43, 493),
  (53, .aload_n 0, 0, 0),
  (54, .getfield 10, 35, 485),
  (57, .iconst 0, 0, 0),
  (58, .invokevirtual 245, 34, 634),
  (61, .aload_n 0, 0, 0),
  (62, .getfield 55, 43, 493),
  (65, .getfield 184, 20, 220),
  (68, .iload_n 2, 0, 0),
  (69, .iload_n 3, 0, 0),
  (70, .iastore, 0, 0),
  (71, .aload_n 0, 0, 0),
  (72, .getfield 55, 43, 493),
  (75, .getfield 187, 21, 222),
  (78, .iload_n 2, 0, 0),
  (79, .iload_n 3, 0, 0),
  (80, .iastore, 0, 0),
  (81, .aload_n 0, 0, 0),
  (82, .getfield 55, 43, 493),
  (85, .invokevirtual 217, 38, 644),
  (88, .ifCond .eq 16, 0, 0),
  (91, .aload_n 0, 0, 0),
  (92, .aload_n 0, 0, 0),
  (93, .getfield 31, 39, 489),
  (96, .iload_n 1, 0, 0),
  (97, .aaload, 0, 0),
  (98, .invokevirtual 222, 99, 690),
  (101, .goto 6, 0, 0),
  (104, .ldc2_w 220, 0, 689),
  (107, .lreturn, 0, 0)]
def xe_72 : XMe := ("BetweenThisAndThat", ⟨"BetweenThisAndThat", "exact", "(III)J"⟩, prog_1_method_22_code, 4, some (Jvm.ClassFile.FieldType.long), 107, 3, (749, 747, 748, 62))
def xi_73 : List XIn := [(0, .iload_n 1, 0, 0),
  (1, .invokestatic 167, 92, 564),
  (4, .ifCond .eq 30, 0, 0),
  (7, .iload_n 2, 0, 0),
  (8, .iconst 0, 0, 0),
  (9, .sipush 999, 0, 0),
  (12, .invokestatic 118, 90, 534),
  (15, .ifCond .eq 19, 0, 0),
  (18, .iload_n 3, 0, 0),
  (19, .iconst 0, 0, 0),
  (20, .iconst 1, 0, 0),
  (21, .invokestatic 118, 90, 534),
  (24, .ifCond .eq 10, 0, 0),
  (27, .aload_n 0, 0, 0),
  (28, .invokevirtual 181, 97, 613),
  (31, .ifCond .ne 7, 0, 0),
  (34, .ldc2_w 220, 0, 689),
  (37, .lreturn, 0, 0),
  (38, .aload_n 0, 0, 0),
  (39, .getfield 55, 43, 493),
  (42, .getfield 190, 22, 224),
  (45, .iload_n 1, 0, 0),
  (46, .iaload, 0, 0),
  (47, .istore 4, 0, 0),
  (49, .aload_n 0, 0, 0),
  (50, .getfield 55, 43, 493),
  (53, .getfield 193, 23, 226),
  (56, .iload_n 1, 0, 0),
  (57, .iaload, 0, 0),
  (58, .istore 5, 0, 0),
  (60, .iconst 0, 0, 0),
  (61, .iload_n 2, 0, 0),
  (62, .iload 5, 0, 0),
  (64, .invokestatic 249, 9998, 710),
  (67, .iload 4, 0, 0),
  (69, .isub, 0, 0),
  (70, .iconst 1, 0, 0),
  (71, .iadd, 0, 0),
  (72, .invokestatic 254, 9997, 711),
  (75, .istore 6, 0, 0),
  (77, .iload 6, 0, 0),
  (79, .i2l, 0, 0),
  (80, .iload 5, 0, 0),
  (82, .iload 4, 0, 0),
  (84, .isub, 0, 0),
  (85, .iconst 1, 0, 0),
  (86, .iadd, 0, 0),
  (87, .i2l, 0, 0),
  (88, .iload_n 3, 0, 0),
  (89, .invokestatic 257, 107, 754),
  (92, .lreturn, 0, 0)]
def xe_73 : XMe := ("BetweenThisAndThat", ⟨"BetweenThisAndThat", "wage\x72", "(III)J"⟩, prog_1_method_23_code, 7, some (Jvm.ClassFile.FieldType.long), 107, 3, (753, 751, 752, 62))
def xi_74 : List XIn := [(0, .iload_n 1, 0, 0),
  (1, .invokestatic 167, 92, 564),
  (4, .ifCond .eq 31, 0, 0),
  (7, .iload_n 2, 0, 0),
  (8, .invokestatic 167, 92, 564),
  (11, .ifCond .eq 24, 0, 0),
  (14, .iload_n 1, 0, 0),
  (15, .iload_n 2, 0, 0),
  (16, .if_icmp .eq 19, 0, 0),
  (19, .iload_n 3, 0, 0),
  (20, .iconst 0, 0, 0),
  (21, .iconst 1, 0, 0),
  (22, .invokestatic 118, 90, 534),
  (25, .ifCond .eq 10, 0, 0),
  (28, .aload_n 0, 0, 0),
  (29, .invokevirtual 181, 97, 613),
  (32, .ifCond .ne 7, 0, 0),
  (35, .ldc2_w 220, 0, 689),
  (38, .lreturn, 0, 0),
  (39, .lconst 0, 0, 0),
  (40, .lstore 4, 0, 0),
  (42, .aload_n 0, 0, 0),
  (43, .getfield 55, 43, 493),
  (46, .getfield 190, 22, 224),
  (49, .iload_n 1, 0, 0),
  (50, .iaload, 0, 0),
  (51, .istore 6, 0, 0),
  (53, .iload 6, 0, 0),
  (55, .aload_n 0, 0, 0),
  (56, .getfield 55, 43, 493),
  (59, .getfield 193, 23, 226),
  (62, .iload_n 1, 0, 0),
  (63, .iaload, 0, 0),
  (64, .if_icmp .gt 47, 0, 0),
  (67, .lload 4, 0, 0),
  (69, .iconst 0, 0, 0),
  (70, .aload_n 0, 0, 0),
  (71, .getfield 55, 43, 493),
  (74, .getfield 193, 23, 226),
  (77, .iload_n 2, 0, 0),
  (78, .iaload, 0, 0),
  (79, .iload 6, 0, 0),
  (81, .iconst 1, 0, 0),
  (82, .iadd, 0, 0),
  (83, .aload_n 0, 0, 0),
  (84, .getfield 55, 43, 493),
  (87, .getfield 190, 22, 224),
  (90, .iload_n 2, 0, 0),
  (91, .iaload, 0, 0),
  (92, .invokestatic 254, 9997, 711),
  (95, .isub, 0, 0),
  (96, .iconst 1, 0, 0),
  (97, .iadd, 0, 0),
  (98, .invokestatic 254, 9997, 711),
  (101, .i2l, 0, 0),
  (102, .ladd, 0, 0),
  (103, .lstore 4, 0, 0),
  (105, .iinc 6 1, 0, 0),
  (108, .goto (-55), 0, 0),
  (111, .lload 4, 0, 0),
  (113, .aload_n 0, 0, 0),
  (114, .getfield 55, 43, 493),
  (117, .iload_n 1, 0, 0),
  (118, .invokevirtual 261, 40, 761),
  (121, .i2l, 0, 0),
  (122, .aload_n 0, 0, 0),
  (123, .getfield 55, 43, 493),
  (126, .iload_n 2, 0, 0),
  (127, .invokevirtual 261, 40, 761),
  (130, .i2l, 0, 0),
  (131, .lmul, 0, 0),
  (132, .iload_n 3, 0, 0),
  (133, .invokestatic 257, 107, 754),
  (136, .lreturn, 0, 0)]
def xe_74 : XMe := ("BetweenThisAndThat", ⟨"BetweenThisAndThat", "less", "(III)J"⟩, prog_1_method_24_code, 7, some (Jvm.ClassFile.FieldType.long), 107, 3, (760, 758, 759, 62))
def xi_75 : List XIn := [(0, .aload_n 0, 0, 0),
  (1, .iload_n 1, 0, 0),
  (2, .invokevirtual 263, 108, 769),
  (5, .istore_n 2, 0, 0),
  (6, .iload_n 2, 0, 0),
  (7, .ifCond .eq 5, 0, 0),
  (10, .iload_n 2, 0, 0),
  (11, .ireturn, 0, 0),
  (12, .iconst 0, 0, 0),
  (13, .istore_n 3, 0, 0),
  (14, .iconst 0, 0, 0),
  (15, .istore 4, 0, 0),
  (17, .iload 4, 0, 0),
  (19, .aload_n 0, 0, 0),
  (20, .getfield 10, 35, 485),
  (23, .getfield 103, 31, 133),
  (26, .if_icmp .ge 48, 0, 0),
  (29, .aload_n 0, 0, 0),
  (30, .getfield 10, 35, 485),
  (33, .getfield 139, 30, 130),
  (36, .iload 4, 0, 0),
  (38, .aaload, 0, 0),
  (39, .aload_n 0, 0, 0),
  (40, .getfield 48, 42, 492),
  (43, .iload_n 1, 0, 0),
  (44, .aaload, 0, 0),
  (45, .getfield 266, 17, 275),
  (48, .aload_n 0, 0, 0),
  (49, .getfield 10, 35, 485),
  (52, .getfield 109, 33, 137),
  (55, .invokevirtual 269, 28, 776),
  (58, .ifCond .ne 10, 0, 0),
  (61, .iload_n 3, 0, 0),
  (62, .iconst 1, 0, 0),
  (63, .iload 4, 0, 0),
  (65, .ishl, 0, 0),
  (66, .ior, 0, 0),
  (67, .istore_n 3, 0, 0),
  (68, .iinc 4 1, 0, 0),
  (71, .goto (-54), 0, 0),
  (74, .iload_n 3, 0, 0),
  (75, .ireturn, 0, 0)]
def xe_75 : XMe := ("BetweenThisAndThat", ⟨"BetweenThisAndThat", "lies", "(I)I"⟩, prog_1_method_25_code, 5, some (Jvm.ClassFile.FieldType.int), 107, 1, (768, 766, 767, 62))
def xi_76 : List XIn := [(0, .aload_n 0, 0, 0),
  (1, .iload_n 1, 0, 0),
  (2, .invokevirtual 263, 108, 769),
  (5, .istore_n 2, 0, 0),
  (6, .iload_n 2, 0, 0),
  (7, .ifCond .eq 5, 0, 0),
  (10, .iload_n 2, 0, 0),
  (11, .ireturn, 0, 0),
  (12, .iconst 0, 0, 0),
  (13, .istore_n 3, 0, 0),
  (14, .iconst 0, 0, 0),
  (15, .istore 4, 0, 0),
  (17, .iload 4, 0, 0),
  (19, .aload_n 0, 0, 0),
  (20, .getfield 10, 35, 485),
  (23, .getfield 106, 32, 135),
  (26, .if_icmp .ge 38, 0, 0),
  (29, .aload_n 0, 0, 0),
  (30, .getfield 25, 38, 488),
  (33, .iload 4, 0, 0),
  (35, .aaload, 0, 0),
  (36, .aload_n 0, 0, 0),
  (37, .getfield 48, 42, 492),
  (40, .iload_n 1, 0, 0),
  (41, .aaload, 0, 0),
  (42, .getfield 266, 17, 275),
  (45, .invokevirtual 273, 3, 785),
  (48, .ifCond .ne 10, 0, 0),
  (51, .iload_n 3, 0, 0),
  (52, .iconst 1, 0, 0),
  (53, .iload 4, 0, 0),
  (55, .ishl, 0, 0),
  (56, .ior, 0, 0),
  (57, .istore_n 3, 0, 0),
  (58, .iinc 4 1, 0, 0),
  (61, .goto (-44), 0, 0),
  (64, .iload_n 3, 0, 0),
  (65, .ireturn, 0, 0)]
def xe_76 : XMe := ("BetweenThisAndThat", ⟨"BetweenThisAndThat", "breaks", "(I)I"⟩, prog_1_method_26_code, 5, some (Jvm.ClassFile.FieldType.int), 107, 1, (784, 782, 783, 62))
def xi_77 : List XIn := [(0, .aload_n 0, 0, 0),
  (1, .iload_n 1, 0, 0),
  (2, .invokevirtual 263, 108, 769),
  (5, .istore_n 2, 0, 0),
  (6, .iload_n 2, 0, 0),
  (7, .ifCond .eq 5, 0, 0),
  (10, .iload_n 2, 0, 0),
  (11, .ireturn, 0, 0),
  (12, .aload_n 0, 0, 0),
  (13, .invokevirtual 181, 97, 613),
  (16, .ifCond .ne 6, 0, 0),
  (19, .bipush (-9), 0, 0),
  (21, .ireturn, 0, 0),
  (22, .iconst 0, 0, 0),
  (23, .istore_n 3, 0, 0),
  (24, .iload_n 3, 0, 0),
  (25, .bipush 6, 0, 0),
  (27, .if_icmp .ge 46, 0, 0),
  (30, .aload_n 0, 0, 0),
  (31, .getfield 48, 42, 492),
  (34, .iload_n 1, 0, 0),
  (35, .aaload, 0, 0),
  (36, .getfield 266, 17, 275),
  (39, .iload_n 3, 0, 0),
  (40, .iaload, 0, 0),
  (41, .aload_n 0, 0, 0),
  (42, .getfield 55, 43, 493),
  (45, .getfield 190, 22, 224),
  (48, .iload_n 3, 0, 0),
  (49, .iaload, 0, 0),
  (50, .aload_n 0, 0, 0),
  (51, .getfield 55, 43, 493),
  (54, .getfield 193, 23, 226),
  (57, .iload_n 3, 0, 0),
  (58, .iaload, 0, 0),
  (59, .invokestatic 118, 90, 534),
  (62, .ifCond .ne 5, 0, 0),
  (65, .iload_n 3, 0, 0),
  (66, .ireturn, 0, 0),
  (67, .iinc 3 1, 0, 0),
  (70, .goto (-46), 0, 0),
  (73, .iconst (-1), 0, 0),
  (74, .ireturn, 0, 0)]
def xe_77 : XMe := ("BetweenThisAndThat", ⟨"BetweenThisAndThat", "judge", "(I)I"⟩, prog_1_method_27_code, 4, some (Jvm.ClassFile.FieldType.int), 107, 1, (792, 790, 791, 62))
def xi_78 : List XIn := [(0, .aload_n 0, 0, 0),
  (1, .iload_n 1, 0, 0),
  (2, .invokevirtual 263, 108, 769),
  (5, .ifCond .ne 11, 0, 0),
  (8, .aload_n 0, 0, 0),
  (9, .iload_n 2, 0, 0),
  (10, .invokevirtual 129, 94, 552),
  (13, .ifCond .ne 7, 0, 0),
  (16, .ldc2_w 220, 0, 689),
  (19, .lreturn, 0, 0),
  (20, .aload_n 0, 0, 0),
  (21, .getfield 31, 39, 489),
  (24, .iload_n 2, 0, 0),
  (25, .aaload, 0, 0),
  (26, .iconst 0, 0, 0),
  (27, .aload_n 0, 0, 0),
  (28, .getfield 48, 42, 492),
  (31, .iload_n 1, 0, 0),
  (32, .aaload, 0, 0),
  (33, .getfield 266, 17, 275),
  (36, .aload_n 0, 0, 0),
  (37, .getfield 63, 45, 495),
  (40, .invokevirtual 276, 46, 700),
  (43, .i2l, 0, 0),
  (44, .lreturn, 0, 0)]
def xe_78 : XMe := ("BetweenThisAndThat", ⟨"BetweenThisAndThat", "reckon", "(II)J"⟩, prog_1_method_28_code, 3, some (Jvm.ClassFile.FieldType.long), 107, 2, (796, 794, 795, 62))
def xi_79 : List XIn := [(0, .aload_n 0, 0, 0),
  (1, .iload_n 1, 0, 0),
  (2, .invokevirtual 263, 108, 769),
  (5, .istore_n 2, 0, 0),
  (6, .iload_n 2, 0, 0),
  (7, .ifCond .eq 5, 0, 0),
  (10, .iload_n 2, 0, 0),
  (11, .ireturn, 0, 0),
  (12, .iconst 0, 0, 0),
  (13, .istore_n 3, 0, 0),
  (14, .iconst 0, 0, 0),
  (15, .istore 4, 0, 0),
  (17, .iload 4, 0, 0),
  (19, .aload_n 0, 0, 0),
  (20, .getfield 35, 40, 490),
  (23, .if_icmp .ge 43, 0, 0),
  (26, .aload_n 0, 0, 0),
  (27, .getfield 31, 39, 489),
  (30, .iload 4, 0, 0),
  (32, .aaload, 0, 0),
  (33, .iconst 2, 0, 0),
  (34, .aload_n 0, 0, 0),
  (35, .getfield 48, 42, 492),
  (38, .iload_n 1, 0, 0),
  (39, .aaload, 0, 0),
  (40, .getfield 266, 17, 275),
  (43, .aload_n 0, 0, 0),
  (44, .getfield 63, 45, 495),
  (47, .invokevirtual 276, 46, 700),
  (50, .ifCond .eq 10, 0, 0),
  (53, .iload_n 3, 0, 0),
  (54, .iconst 1, 0, 0),
  (55, .iload 4, 0, 0),
  (57, .ishl, 0, 0),
  (58, .ior, 0, 0),
  (59, .istore_n 3, 0, 0),
  (60, .iinc 4 1, 0, 0),
  (63, .goto (-46), 0, 0),
  (66, .iload_n 3, 0, 0),
  (67, .ireturn, 0, 0)]
def xe_79 : XMe := ("BetweenThisAndThat", ⟨"BetweenThisAndThat", "laws", "(I)I"⟩, prog_1_method_29_code, 5, some (Jvm.ClassFile.FieldType.int), 107, 1, (800, 798, 799, 62))
def xi_80 : List XIn := [(0, .iload_n 1, 0, 0),
  (1, .invokestatic 280, 93, 773),
  (4, .ifCond .ne 6, 0, 0),
  (7, .bipush (-2), 0, 0),
  (9, .ireturn, 0, 0),
  (10, .iload_n 2, 0, 0),
  (11, .iconst 0, 0, 0),
  (12, .iconst 1, 0, 0),
  (13, .invokestatic 118, 90, 534),
  (16, .ifCond .ne 6, 0, 0),
  (19, .bipush (-7), 0, 0),
  (21, .ireturn, 0, 0),
  (22, .aload_n 0, 0, 0),
  (23, .invokevirtual 181, 97, 613),
  (26, .ifCond .ne 6, 0, 0),
  (29, .bipush (-9), 0, 0),
  (31, .ireturn, 0, 0),
  (32, .aload_n 0, 0, 0),
  (33, .getfield 48, 42, 492),
  (36, .iload_n 1, 0, 0),
  (37, .aaload, 0, 0),
  (38, .iconst 2, 0, 0),
  (39, .bipush 6, 0, 0),
  (41, .invokevirtual 283, 30, 805),
  (44, .iconst 0, 0, 0),
  (45, .istore_n 3, 0, 0),
  (46, .iload_n 3, 0, 0),
  (47, .bipush 6, 0, 0),
  (49, .if_icmp .ge 44, 0, 0),
  (52, .aload_n 0, 0, 0),
  (53, .getfield 48, 42, 492),
  (56, .iload_n 1, 0, 0),
  (57, .aaload, 0, 0),
  (58, .iload_n 3, 0, 0),
  (59, .iload_n 2, 0, 0),
  (60, .ifCond .ne 15, 0, 0),
  (63, .aload_n 0, 0, 0),
  (64, .getfield 55, 43, 493),
  (67, .getfield 190, 22, 224),
  (70, .iload_n 3, 0, 0),
  (71, .iaload, 0, 0),
  (72, .goto 12, 0, 0),
  (75, .aload_n 0, 0, 0),
  (76, .getfield 55, 43, 493),
  (79, .getfield 193, 23, 226),
  (82, .iload_n 3, 0, 0),
  (83, .iaload, 0, 0),
  (84, .invokevirtual 286, 31, 810),
  (87, .iinc 3 1, 0, 0),
  (90, .goto (-44), 0, 0),
  (93, .bipush 6, 0, 0),
  (95, .ireturn, 0, 0)]
def xe_80 : XMe := ("BetweenThisAndThat", ⟨"BetweenThisAndThat", "film", "(II)I"⟩, prog_1_method_30_code, 4, some (Jvm.ClassFile.FieldType.int), 107, 2, (804, 802, 803, 62))
def xi_81 : List XIn := [(0, .iload_n 1, 0, 0),
  (1, .iconst 0, 0, 0),
  (2, .ldc_w 289, 0, 818),
  (5, .invokestatic 118, 90, 534),
  (8, .ifCond .eq 13, 0, 0),
  (11, .iload_n 2, 0, 0),
  (12, .iconst 0, 0, 0),
  (13, .bipush 6, 0, 0),
  (15, .invokestatic 118, 90, 534),
  (18, .ifCond .ne 6, 0, 0),
  (21, .bipush (-2), 0, 0),
  (23, .ireturn, 0, 0),
  (24, .aload_n 0, 0, 0),
  (25, .invokevirtual 181, 97, 613),
  (28, .ifCond .ne 5, 0, 0),
  (31, .iconst (-1), 0, 0),
  (32, .ireturn, 0, 0),
  (33, .aload_n 0, 0, 0),
  (34, .iload_n 1, 0, 0),
  (35, .invokevirtual 290, 109, 819),
  (38, .iload_n 2, 0, 0),
  (39, .bipush 6, 0, 0),
  (41, .if_icmp .ge 12, 0, 0),
  (44, .aload_n 0, 0, 0),
  (45, .getfield 59, 44, 494),
  (48, .iload_n 2, 0, 0),
  (49, .iaload, 0, 0),
  (50, .goto 15, 0, 0),
  (53, .aload_n 0, 0, 0),
  (54, .invokevirtual 293, 110, 825),
  (57, .ifCond .eq 7, 0, 0),
  (60, .iconst 1, 0, 0),
  (61, .goto 4, 0, 0),
  (64, .iconst 0, 0, 0),
  (65, .ireturn, 0, 0)]
def xe_81 : XMe := ("BetweenThisAndThat", ⟨"BetweenThisAndThat", "drawn", "(II)I"⟩, prog_1_method_31_code, 3, some (Jvm.ClassFile.FieldType.int), 107, 2, (817, 815, 816, 62))
def xi_82 : List XIn := [(0, .iload_n 1, 0, 0),
  (1, .iconst 0, 0, 0),
  (2, .ldc_w 289, 0, 818),
  (5, .invokestatic 118, 90, 534),
  (8, .ifCond .eq 29, 0, 0),
  (11, .iload_n 2, 0, 0),
  (12, .iconst 1, 0, 0),
  (13, .bipush 40, 0, 0),
  (15, .invokestatic 118, 90, 534),
  (18, .ifCond .eq 19, 0, 0),
  (21, .iload_n 3, 0, 0),
  (22, .iconst 0, 0, 0),
  (23, .iconst 1, 0, 0),
  (24, .invokestatic 118, 90, 534),
  (27, .ifCond .eq 10, 0, 0),
  (30, .aload_n 0, 0, 0),
  (31, .invokevirtual 181, 97, 613),
  (34, .ifCond .ne 7, 0, 0),
  (37, .ldc2_w 220, 0, 689),
  (40, .lreturn, 0, 0),
  (41, .iconst 0, 0, 0),
  (42, .istore 4, 0, 0),
  (44, .iconst 0, 0, 0),
  (45, .istore 5, 0, 0),
  (47, .iload 5, 0, 0),
  (49, .iload_n 2, 0, 0),
  (50, .if_icmp .ge 34, 0, 0),
  (53, .aload_n 0, 0, 0),
  (54, .iload_n 1, 0, 0),
  (55, .iload 5, 0, 0),
  (57, .iadd, 0, 0),
  (58, .invokevirtual 290, 109, 819),
  (61, .iload 4, 0, 0),
  (63, .aload_n 0, 0, 0),
  (64, .invokevirtual 293, 110, 825),
  (67, .ifCond .eq 7, 0, 0),
  (70, .iconst 1, 0, 0),
  (71, .goto 4, 0, 0),
  (74, .iconst 0, 0, 0),
  (75, .iadd, 0, 0),
  (76, .istore 4, 0, 0),
  (78, .iinc 5 1, 0, 0),
  (81, .goto (-34), 0, 0),
  (84, .iload 4, 0, 0),
  (86, .i2l, 0, 0),
  (87, .iload_n 2, 0, 0),
  (88, .i2l, 0, 0),
  (89, .iload_n 3, 0, 0),
  (90, .invokestatic 257, 107, 754),
  (93, .lreturn, 0, 0)]
def xe_82 : XMe := ("BetweenThisAndThat", ⟨"BetweenThisAndThat", "odds", "(III)J"⟩, prog_1_method_32_code, 6, some (Jvm.ClassFile.FieldType.long), 107, 3, (832, 830, 831, 62))
def xi_83 : List XIn := [(0, .aload_n 0, 0, 0),
  (1, .getfield 16, 36, 486),
  (4, .aload_n 0, 0, 0),
  (5, .getfield 10, 35, 485),
  (8, .invokevirtual 296, 50, 837),
  (11, .aload_n 0, 0, 0),
  (12, .iconst 1, 0, 0),
  (13, .putfield 19, 37, 487),
  (16, .aload_n 0, 0, 0),
  (17, .getfield 10, 35, 485),
  (20, .getfield 103, 31, 133),
  (23, .ireturn, 0, 0)]
def xe_83 : XMe := ("BetweenThisAndThat", ⟨"BetweenThisAndThat", "image", "()I"⟩, prog_1_method_33_code, 1, some (Jvm.ClassFile.FieldType.int), 107, 0, (836, 834, 835, 62))
def xi_84 : List XIn := [(0, .aload_n 0, 0, 0),
  (1, .getfield 19, 37, 487),
  (4, .ifCond .ne 6, 0, 0),
  (7, .bipush (-3), 0, 0),
  (9, .ireturn, 0, 0),
  (10, .aload_n 0, 0, 0),
  (11, .getfield 10, 35, 485),
  (14, .aload_n 0, 0, 0),
  (15, .getfield 16, 36, 486),
  (18, .invokevirtual 296, 50, 837),
  (21, .aload_n 0, 0, 0),
  (22, .getfield 10, 35, 485),
  (25, .getfield 103, 31, 133),
  (28, .ireturn, 0, 0)]
def xe_84 : XMe := ("BetweenThisAndThat", ⟨"BetweenThisAndThat", "back", "()I"⟩, prog_1_method_34_code, 1, some (Jvm.ClassFile.FieldType.int), 107, 0, (845, 843, 844, 62))
def xi_85 : List XIn := [(0, .iload_n 1, 0, 0),
  (1, .invokestatic 280, 93, 773),
  (4, .ifCond .eq 12, 0, 0),
  (7, .iload_n 2, 0, 0),
  (8, .iconst (-1), 0, 0),
  (9, .iconst 2, 0, 0),
  (10, .invokestatic 118, 90, 534),
  (13, .ifCond .ne 6, 0, 0),
  (16, .bipush (-2), 0, 0),
  (18, .ireturn, 0, 0),
  (19, .iload_n 2, 0, 0),
  (20, .iconst (-1), 0, 0),
  (21, .if_icmp .eq 12, 0, 0),
  (24, .iload_n 3, 0, 0),
  (25, .bipush 40, 0, 0),
  (27, .if_icmp .le 6, 0, 0),
  (30, .bipush (-2), 0, 0),
  (32, .ireturn, 0, 0),
  (33, .iload_n 2, 0, 0),
  (34, .iconst (-1), 0, 0),
  (35, .if_icmp .eq 10, 0, 0),
  (38, .iload_n 3, 0, 0),
  (39, .ifCond .ge 6, 0, 0),
  (42, .bipush (-14), 0, 0),
  (44, .ireturn, 0, 0),
  (45, .aload_n 0, 0, 0),
  (46, .getfield 48, 42, 492),
  (49, .iload_n 1, 0, 0),
  (50, .aaload, 0, 0),
  (51, .iload_n 2, 0, 0),
  (52, .iload_n 2, 0, 0),
  (53, .iconst (-1), 0, 0),
  (54, .if_icmp .ne 7, 0, 0),
  (57, .iconst 0, 0, 0),
  (58, .goto 4, 0, 0),
  (61, .iload_n 3, 0, 0),
  (62, .invokevirtual 283, 30, 805),
  (65, .iconst 1, 0, 0),
  (66, .ireturn, 0, 0)]
def xe_85 : XMe := ("BetweenThisAndThat", ⟨"BetweenThisAndThat", "sheet", "(III)I"⟩, prog_1_method_35_code, 4, some (Jvm.ClassFile.FieldType.int), 107, 3, (849, 847, 848, 62))
def xi_86 : List XIn := [(0, .iload_n 1, 0, 0),
  (1, .invokestatic 280, 93, 773),
  (4, .ifCond .ne 6, 0, 0),
  (7, .bipush (-2), 0, 0),
  (9, .ireturn, 0, 0),
  (10, .aload_n 0, 0, 0),
  (11, .getfield 48, 42, 492),
  (14, .iload_n 1, 0, 0),
  (15, .aaload, 0, 0),
  (16, .getfield 299, 18, 277),
  (19, .iconst (-1), 0, 0),
  (20, .if_icmp .ne 6, 0, 0),
  (23, .bipush (-11), 0, 0),
  (25, .ireturn, 0, 0),
  (26, .iload_n 2, 0, 0),
  (27, .iconst 0, 0, 0),
  (28, .aload_n 0, 0, 0),
  (29, .getfield 48, 42, 492),
  (32, .iload_n 1, 0, 0),
  (33, .aaload, 0, 0),
  (34, .getfield 302, 19, 279),
  (37, .iconst 1, 0, 0),
  (38, .isub, 0, 0),
  (39, .invokestatic 118, 90, 534),
  (42, .ifCond .ne 6, 0, 0),
  (45, .bipush (-12), 0, 0),
  (47, .ireturn, 0, 0),
  (48, .aload_n 0, 0, 0),
  (49, .getfield 48, 42, 492),
  (52, .iload_n 1, 0, 0),
  (53, .aaload, 0, 0),
  (54, .iload_n 2, 0, 0),
  (55, .iload_n 3, 0, 0),
  (56, .invokevirtual 286, 31, 810),
  (59, .iconst 1, 0, 0),
  (60, .ireturn, 0, 0)]
def xe_86 : XMe := ("BetweenThisAndThat", ⟨"BetweenThisAndThat", "cell", "(III)I"⟩, prog_1_method_36_code, 4, some (Jvm.ClassFile.FieldType.int), 107, 3, (853, 851, 852, 62))
def xi_87 : List XIn := [(0, .iload_n 1, 0, 0),
  (1, .invokestatic 280, 93, 773),
  (4, .ifCond .eq 10, 0, 0),
  (7, .iload_n 3, 0, 0),
  (8, .invokestatic 280, 93, 773),
  (11, .ifCond .ne 6, 0, 0),
  (14, .bipush (-2), 0, 0),
  (16, .ireturn, 0, 0),
  (17, .aload_n 0, 0, 0),
  (18, .getfield 48, 42, 492),
  (21, .iload_n 1, 0, 0),
  (22, .aaload, 0, 0),
  (23, .astore 6, 0, 0),
  (25, .aload_n 0, 0, 0),
  (26, .getfield 48, 42, 492),
  (29, .iload_n 3, 0, 0),
  (30, .aaload, 0, 0),
  (31, .astore 7, 0, 0),
  (33, .aload 6, 0, 0),
  (35, .getfield 299, 18, 277),
  (38, .iconst (-1), 0, 0),
  (39, .if_icmp .eq 12, 0, 0),
  (42, .aload 7, 0, 0),
  (44, .getfield 299, 18, 277),
  (47, .iconst (-1), 0, 0),
  (48, .if_icmp .ne 6, 0, 0),
  (51, .bipush (-11), 0, 0),
  (53, .ireturn, 0, 0),
  (54, .aload 6, 0, 0),
  (56, .getfield 299, 18, 277),
  (59, .aload 7, 0, 0),
  (61, .getfield 299, 18, 277),
  (64, .if_icmp .eq 6, 0, 0),
  (67, .bipush (-13), 0, 0),
  (69, .ireturn, 0, 0),
  (70, .aload 6, 0, 0),
  (72, .iload_n 2, 0, 0),
  (73, .iload 5, 0, 0),
  (75, .invokevirtual 303, 32, 858),
  (78, .ifCond .eq 15, 0, 0),
  (81, .aload 7, 0, 0),
  (83, .iload 4, 0, 0),
  (85, .iload 5, 0, 0),
  (87, .invokevirtual 303, 32, 858),
  (90, .ifCond .ne 6, 0, 0),
  (93, .bipush (-12), 0, 0),
  (95, .ireturn, 0, 0),
  (96, .aload 6, 0, 0),
  (98, .getfield 266, 17, 275),
  (101, .iload_n 2, 0, 0),
  (102, .aload 7, 0, 0),
  (104, .getfield 266, 17, 275),
  (107, .iload 4, 0, 0),
  (109, .iload 5, 0, 0),
  (111, .invokestatic 306, 9999, 862),
  (114, .iload 5, 0, 0),
  (116, .ireturn, 0, 0)]
def xe_87 : XMe := ("BetweenThisAndThat", ⟨"BetweenThisAndThat", "copy", "(IIIII)I"⟩, prog_1_method_37_code, 8, some (Jvm.ClassFile.FieldType.int), 107, 5, (857, 855, 856, 62))
def xi_88 : List XIn := [(0, .iload_n 1, 0, 0),
  (1, .invokestatic 280, 93, 773),
  (4, .ifCond .eq 23, 0, 0),
  (7, .iload_n 2, 0, 0),
  (8, .iconst 0, 0, 0),
  (9, .iconst 2, 0, 0),
  (10, .invokestatic 118, 90, 534),
  (13, .ifCond .eq 14, 0, 0),
  (16, .iload 4, 0, 0),
  (18, .iconst 0, 0, 0),
  (19, .bipush 10, 0, 0),
  (21, .invokestatic 118, 90, 534),
  (24, .ifCond .ne 6, 0, 0),
  (27, .bipush (-2), 0, 0),
  (29, .ireturn, 0, 0),
  (30, .aload_n 0, 0, 0),
  (31, .getfield 48, 42, 492),
  (34, .iload_n 1, 0, 0),
  (35, .aaload, 0, 0),
  (36, .astore 5, 0, 0),
  (38, .aload 5, 0, 0),
  (40, .getfield 299, 18, 277),
  (43, .iconst (-1), 0, 0),
  (44, .if_icmp .ne 6, 0, 0),
  (47, .bipush (-11), 0, 0),
  (49, .ireturn, 0, 0),
  (50, .aload 5, 0, 0),
  (52, .getfield 299, 18, 277),
  (55, .iload_n 2, 0, 0),
  (56, .if_icmp .eq 6, 0, 0),
  (59, .bipush (-13), 0, 0),
  (61, .ireturn, 0, 0),
  (62, .iconst 0, 0, 0),
  (63, .istore 6, 0, 0),
  (65, .iconst 0, 0, 0),
  (66, .istore 7, 0, 0),
  (68, .iload 7, 0, 0),
  (70, .iload 4, 0, 0),
  (72, .if_icmp .ge 96, 0, 0),
  (75, .iload_n 3, 0, 0),
  (76, .iconst 0, 0, 0),
  (77, .aload 5, 0, 0),
  (79, .getfield 302, 19, 279),
  (82, .invokestatic 118, 90, 534),
  (85, .ifCond .eq 18, 0, 0),
  (88, .aload 5, 0, 0),
  (90, .iload_n 3, 0, 0),
  (91, .iconst 4, 0, 0),
  (92, .iload 7, 0, 0),
  (94, .imul, 0, 0),
  (95, .iadd, 0, 0),
  (96, .iconst 4, 0, 0),
  (97, .invokevirtual 303, 32, 858),
  (100, .ifCond .ne 6, 0, 0),
  (103, .bipush (-12), 0, 0),
  (105, .ireturn, 0, 0),
  (106, .iload_n 3, 0, 0),
  (107, .iconst 4, 0, 0),
  (108, .iload 7, 0, 0),
  (110, .imul, 0, 0),
  (111, .iadd, 0, 0),
  (112, .istore 8, 0, 0),
  (114, .aload_n 0, 0, 0),
  (115, .aload 5, 0, 0),
  (117, .getfield 266, 17, 275),
  (120, .iload 8, 0, 0),
  (122, .iaload, 0, 0),
  (123, .aload 5, 0, 0),
  (125, .getfield 266, 17, 275),
  (128, .iload 8, 0, 0),
  (130, .iconst 1, 0, 0),
  (131, .iadd, 0, 0),
  (132, .iaload, 0, 0),
  (133, .aload 5, 0, 0),
  (135, .getfield 266, 17, 275),
  (138, .iload 8, 0, 0),
  (140, .iconst 2, 0, 0),
  (141, .iadd, 0, 0),
  (142, .iaload, 0, 0),
  (143, .aload 5, 0, 0),
  (145, .getfield 266, 17, 275),
  (148, .iload 8, 0, 0),
  (150, .iconst 3, 0, 0),
  (151, .iadd, 0, 0),
  (152, .iaload, 0, 0),
  (153, .invokevirtual 132, 96, 560),
  (156, .ifCond .lt 6, 0, 0),
  (159, .iinc 6 1, 0, 0),
  (162, .iinc 7 1, 0, 0),
  (165, .goto (-97), 0, 0),
  (168, .iload 6, 0, 0),
  (170, .ireturn, 0, 0)]
def xe_88 : XMe := ("BetweenThisAndThat", ⟨"BetweenThisAndThat", "sayingsBy", "(IIII)I"⟩, prog_1_method_38_code, 9, some (Jvm.ClassFile.FieldType.int), 107, 4, (866, 864, 865, 62))
def xi_89 : List XIn := [(0, .iload_n 2, 0, 0),
  (1, .iconst 0, 0, 0),
  (2, .bipush 6, 0, 0),
  (4, .invokestatic 118, 90, 534),
  (7, .ifCond .ne 6, 0, 0),
  (10, .bipush (-2), 0, 0),
  (12, .ireturn, 0, 0),
  (13, .iload_n 1, 0, 0),
  (14, .iconst 0, 0, 0),
  (15, .bipush 17, 0, 0),
  (17, .invokestatic 118, 90, 534),
  (20, .ifCond .ne 6, 0, 0),
  (23, .bipush (-12), 0, 0),
  (25, .ireturn, 0, 0),
  (26, .iload_n 1, 0, 0),
  (27, .bipush 10, 0, 0),
  (29, .if_icmp .ge 43, 0, 0),
  (32, .aload_n 0, 0, 0),
  (33, .iload_n 1, 0, 0),
  (34, .invokevirtual 136, 95, 579),
  (37, .ifCond .ne 6, 0, 0),
  (40, .bipush (-11), 0, 0),
  (42, .ireturn, 0, 0),
  (43, .iload_n 2, 0, 0),
  (44, .bipush 6, 0, 0),
  (46, .if_icmp .eq 23, 0, 0),
  (49, .aload_n 0, 0, 0),
  (50, .getfield 10, 35, 485),
  (53, .getfield 139, 30, 130),
  (56, .iload_n 1, 0, 0),
  (57, .aaload, 0, 0),
  (58, .iload_n 2, 0, 0),
  (59, .invokevirtual 312, 26, 871),
  (62, .ifCond .eq 7, 0, 0),
  (65, .iload_n 1, 0, 0),
  (66, .goto 5, 0, 0),
  (69, .bipush (-13), 0, 0),
  (71, .ireturn, 0, 0),
  (72, .iload_n 1, 0, 0),
  (73, .bipush 10, 0, 0),
  (75, .isub, 0, 0),
  (76, .istore_n 3, 0, 0),
  (77, .iload_n 3, 0, 0),
  (78, .aload_n 0, 0, 0),
  (79, .getfield 10, 35, 485),
  (82, .getfield 106, 32, 135),
  (85, .if_icmp .lt 6, 0, 0),
  (88, .bipush (-11), 0, 0),
  (90, .ireturn, 0, 0),
  (91, .iload_n 2, 0, 0),
  (92, .bipush 6, 0, 0),
  (94, .if_icmp .ne 25, 0, 0),
  (97, .aload_n 0, 0, 0),
  (98, .getfield 25, 38, 488),
  (101, .iload_n 3, 0, 0),
  (102, .aaload, 0, 0),
  (103, .getfield 180, 3, 258),
  (106, .aload_n 0, 0, 0),
  (107, .getfield 25, 38, 488),
  (110, .iload_n 3, 0, 0),
  (111, .aaload, 0, 0),
  (112, .getfield 179, 2, 255),
  (115, .isub, 0, 0),
  (116, .goto 5, 0, 0),
  (119, .bipush (-13), 0, 0),
  (121, .ireturn, 0, 0)]
def xe_89 : XMe := ("BetweenThisAndThat", ⟨"BetweenThisAndThat", "taken", "(II)I"⟩, prog_1_method_39_code, 4, some (Jvm.ClassFile.FieldType.int), 107, 2, (870, 868, 869, 62))
def xi_90 : List XIn := [(0, .iload_n 1, 0, 0),
  (1, .iload_n 0, 0, 0),
  (2, .if_icmp .gt 12, 0, 0),
  (5, .iload_n 0, 0, 0),
  (6, .iload_n 2, 0, 0),
  (7, .if_icmp .gt 7, 0, 0),
  (10, .iconst 1, 0, 0),
  (11, .goto 4, 0, 0),
  (14, .iconst 0, 0, 0),
  (15, .ireturn, 0, 0)]
def xe_90 : XMe := ("BetweenThisAndThat", ⟨"BetweenThisAndThat", "within", "(III)Z"⟩, prog_1_method_40_code, 3, some (Jvm.ClassFile.FieldType.boolean), 0, 3, (536, 535, 0, 62))
def xi_91 : List XIn := [(0, .iload_n 0, 0, 0),
  (1, .iconst 0, 0, 0),
  (2, .sipush 255, 0, 0),
  (5, .invokestatic 118, 90, 534),
  (8, .ireturn, 0, 0)]
def xe_91 : XMe := ("BetweenThisAndThat", ⟨"BetweenThisAndThat", "isByte", "(I)Z"⟩, prog_1_method_41_code, 1, some (Jvm.ClassFile.FieldType.boolean), 0, 1, (543, 542, 0, 62))
def xi_92 : List XIn := [(0, .iload_n 0, 0, 0),
  (1, .iconst 0, 0, 0),
  (2, .iconst 5, 0, 0),
  (3, .invokestatic 118, 90, 534),
  (6, .ireturn, 0, 0)]
def xe_92 : XMe := ("BetweenThisAndThat", ⟨"BetweenThisAndThat", "isQuantity", "(I)Z"⟩, prog_1_method_42_code, 1, some (Jvm.ClassFile.FieldType.boolean), 0, 1, (566, 565, 0, 62))
def xi_93 : List XIn := [(0, .iload_n 0, 0, 0),
  (1, .iconst 0, 0, 0),
  (2, .iconst 3, 0, 0),
  (3, .invokestatic 118, 90, 534),
  (6, .ireturn, 0, 0)]
def xe_93 : XMe := ("BetweenThisAndThat", ⟨"BetweenThisAndThat", "isSheet", "(I)Z"⟩, prog_1_method_43_code, 1, some (Jvm.ClassFile.FieldType.boolean), 0, 1, (775, 774, 0, 62))
def xi_94 : List XIn := [(0, .iload_n 1, 0, 0),
  (1, .iconst 0, 0, 0),
  (2, .aload_n 0, 0, 0),
  (3, .getfield 35, 40, 490),
  (6, .iconst 1, 0, 0),
  (7, .isub, 0, 0),
  (8, .invokestatic 118, 90, 534),
  (11, .ireturn, 0, 0)]
def xe_94 : XMe := ("BetweenThisAndThat", ⟨"BetweenThisAndThat", "isText", "(I)Z"⟩, prog_1_method_44_code, 2, some (Jvm.ClassFile.FieldType.boolean), 107, 1, (555, 554, 12, 62))
def xi_95 : List XIn := [(0, .iload_n 1, 0, 0),
  (1, .iconst 0, 0, 0),
  (2, .aload_n 0, 0, 0),
  (3, .getfield 10, 35, 485),
  (6, .getfield 103, 31, 133),
  (9, .iconst 1, 0, 0),
  (10, .isub, 0, 0),
  (11, .invokestatic 118, 90, 534),
  (14, .ireturn, 0, 0)]
def xe_95 : XMe := ("BetweenThisAndThat", ⟨"BetweenThisAndThat", "isSaying", "(I)Z"⟩, prog_1_method_45_code, 2, some (Jvm.ClassFile.FieldType.boolean), 107, 1, (582, 581, 14, 62))
def xi_96 : List XIn := [(0, .iload_n 1, 0, 0),
  (1, .iconst 0, 0, 0),
  (2, .bipush 59, 0, 0),
  (4, .invokestatic 118, 90, 534),
  (7, .ifCond .eq 39, 0, 0),
  (10, .iload_n 2, 0, 0),
  (11, .invokestatic 167, 92, 564),
  (14, .ifCond .eq 32, 0, 0),
  (17, .iload_n 3, 0, 0),
  (18, .iconst 0, 0, 0),
  (19, .sipush 999, 0, 0),
  (22, .invokestatic 118, 90, 534),
  (25, .ifCond .eq 21, 0, 0),
  (28, .iload 4, 0, 0),
  (30, .iconst 0, 0, 0),
  (31, .sipush 999, 0, 0),
  (34, .invokestatic 118, 90, 534),
  (37, .ifCond .eq 9, 0, 0),
  (40, .iload_n 3, 0, 0),
  (41, .iload 4, 0, 0),
  (43, .if_icmp .le 6, 0, 0),
  (46, .bipush (-2), 0, 0),
  (48, .ireturn, 0, 0),
  (49, .aload_n 0, 0, 0),
  (50, .getfield 10, 35, 485),
  (53, .getfield 103, 31, 133),
  (56, .bipush 10, 0, 0),
  (58, .if_icmp .lt 6, 0, 0),
  (61, .bipush (-4), 0, 0),
  (63, .ireturn, 0, 0),
  (64, .aload_n 0, 0, 0),
  (65, .getfield 10, 35, 485),
  (68, .getfield 139, 30, 130),
  (71, .aload_n 0, 0, 0),
  (72, .getfield 10, 35, 485),
  (75, .getfield 103, 31, 133),
  (78, .aaload, 0, 0),
  (79, .iload_n 1, 0, 0),
  (80, .iload_n 2, 0, 0),
  (81, .iload_n 3, 0, 0),
  (82, .iload 4, 0, 0),
  (84, .invokevirtual 315, 22, 567),
  (87, .aload_n 0, 0, 0),
  (88, .getfield 10, 35, 485),
  (91, .dup, 0, 0),
  (92, .getfield 103, 31, 133),
  (95, .iconst 1, 0, 0),
  (96, .iadd, 0, 0),
  (97, .putfield 103, 31, 133),
  (100, .aload_n 0, 0, 0),
  (101, .getfield 10, 35, 485),
  (104, .getfield 103, 31, 133),
  (107, .iconst 1, 0, 0),
  (108, .isub, 0, 0),
  (109, .ireturn, 0, 0)]
def xe_96 : XMe := ("BetweenThisAndThat", ⟨"BetweenThisAndThat", "addSaying", "(IIII)I"⟩, prog_1_method_46_code, 5, some (Jvm.ClassFile.FieldType.int), 107, 4, (563, 562, 13, 62))
def xi_97 : List XIn := [(0, .aload_n 0, 0, 0),
  (1, .getfield 55, 43, 493),
  (4, .aload_n 0, 0, 0),
  (5, .getfield 25, 38, 488),
  (8, .aload_n 0, 0, 0),
  (9, .getfield 10, 35, 485),
  (12, .getfield 106, 32, 135),
  (15, .iconst (-1), 0, 0),
  (16, .invokevirtual 205, 35, 617),
  (19, .aload_n 0, 0, 0),
  (20, .iconst 0, 0, 0),
  (21, .invokevirtual 214, 98, 630),
  (24, .ireturn, 0, 0)]
def xe_97 : XMe := ("BetweenThisAndThat", ⟨"BetweenThisAndThat", "cutSpans", "()Z"⟩, prog_1_method_47_code, 1, some (Jvm.ClassFile.FieldType.boolean), 107, 0, (616, 615, 16, 62))
def xi_98 : List XIn := [(0, .aload_n 0, 0, 0),
  (1, .getfield 55, 43, 493),
  (4, .aload_n 0, 0, 0),
  (5, .getfield 10, 35, 485),
  (8, .iload_n 1, 0, 0),
  (9, .invokevirtual 245, 34, 634),
  (12, .aload_n 0, 0, 0),
  (13, .getfield 55, 43, 493),
  (16, .invokevirtual 217, 38, 644),
  (19, .ireturn, 0, 0)]
def xe_98 : XMe := ("BetweenThisAndThat", ⟨"BetweenThisAndThat", "canWithout", "(I)Z"⟩, prog_1_method_48_code, 2, some (Jvm.ClassFile.FieldType.boolean), 107, 1, (633, 632, 19, 62))
def xi_99 : List XIn := [(0, .aload_n 0, 0, 0),
  (1, .ldc_w 316, 0, 694),
  (4, .putfield 66, 46, 496),
  (7, .aload_n 0, 0, 0),
  (8, .ldc_w 317, 0, 695),
  (11, .putfield 69, 47, 497),
  (14, .iconst 0, 0, 0),
  (15, .istore_n 2, 0, 0),
  (16, .iload_n 2, 0, 0),
  (17, .bipush 64, 0, 0),
  (19, .if_icmp .ge 63, 0, 0),
  (22, .iload_n 2, 0, 0),
  (23, .aload_n 1, 0, 0),
  (24, .getfield 318, 29, 172),
  (27, .iconst (-1), 0, 0),
  (28, .ixor, 0, 0),
  (29, .iand, 0, 0),
  (30, .ifCond .ne 46, 0, 0),
  (33, .aload_n 0, 0, 0),
  (34, .iload_n 2, 0, 0),
  (35, .invokevirtual 321, 100, 696),
  (38, .aload_n 1, 0, 0),
  (39, .iconst 0, 0, 0),
  (40, .aload_n 0, 0, 0),
  (41, .getfield 59, 44, 494),
  (44, .aload_n 0, 0, 0),
  (45, .getfield 63, 45, 495),
  (48, .invokevirtual 276, 46, 700),
  (51, .istore_n 3, 0, 0),
  (52, .aload_n 0, 0, 0),
  (53, .aload_n 0, 0, 0),
  (54, .getfield 66, 46, 496),
  (57, .iload_n 3, 0, 0),
  (58, .invokestatic 249, 9998, 710),
  (61, .putfield 66, 46, 496),
  (64, .aload_n 0, 0, 0),
  (65, .aload_n 0, 0, 0),
  (66, .getfield 69, 47, 497),
  (69, .iload_n 3, 0, 0),
  (70, .invokestatic 254, 9997, 711),
  (73, .putfield 69, 47, 497),
  (76, .iinc 2 1, 0, 0),
  (79, .goto (-63), 0, 0),
  (82, .aload_n 0, 0, 0),
  (83, .getfield 69, 47, 497),
  (86, .i2l, 0, 0),
  (87, .aload_n 0, 0, 0),
  (88, .getfield 66, 46, 496),
  (91, .i2l, 0, 0),
  (92, .lsub, 0, 0),
  (93, .lreturn, 0, 0)]
def xe_99 : XMe := ("BetweenThisAndThat", ⟨"BetweenThisAndThat", "widthBySpans", "(LBetweenThisAndThat$Text;)J"⟩, prog_1_method_49_code, 4, some (Jvm.ClassFile.FieldType.long), 107, 1, (693, 692, 20, 62))
def xi_100 : List XIn := [(0, .iconst 0, 0, 0),
  (1, .istore_n 2, 0, 0),
  (2, .iload_n 2, 0, 0),
  (3, .bipush 6, 0, 0),
  (5, .if_icmp .ge 44, 0, 0),
  (8, .aload_n 0, 0, 0),
  (9, .getfield 59, 44, 494),
  (12, .iload_n 2, 0, 0),
  (13, .iload_n 1, 0, 0),
  (14, .iload_n 2, 0, 0),
  (15, .ishr, 0, 0),
  (16, .iconst 1, 0, 0),
  (17, .iand, 0, 0),
  (18, .ifCond .ne 15, 0, 0),
  (21, .aload_n 0, 0, 0),
  (22, .getfield 55, 43, 493),
  (25, .getfield 190, 22, 224),
  (28, .iload_n 2, 0, 0),
  (29, .iaload, 0, 0),
  (30, .goto 12, 0, 0),
  (33, .aload_n 0, 0, 0),
  (34, .getfield 55, 43, 493),
  (37, .getfield 193, 23, 226),
  (40, .iload_n 2, 0, 0),
  (41, .iaload, 0, 0),
  (42, .iastore, 0, 0),
  (43, .iinc 2 1, 0, 0),
  (46, .goto (-44), 0, 0),
  (49, .return_, 0, 0)]
def xe_100 : XMe := ("BetweenThisAndThat", ⟨"BetweenThisAndThat", "setCorne\x72", "(I)V"⟩, prog_1_method_50_code, 3, none, 107, 1, (699, 698, 21, 62))
def xi_101 : List XIn := [(0, .aload_n 0, 0, 0),
  (1, .iconst 0, 0, 0),
  (2, .invokevirtual 321, 100, 696),
  (5, .aload_n 0, 0, 0),
  (6, .getfield 31, 39, 489),
  (9, .aload_n 0, 0, 0),
  (10, .getfield 10, 35, 485),
  (13, .getfield 112, 34, 140),
  (16, .aaload, 0, 0),
  (17, .iconst 1, 0, 0),
  (18, .aload_n 0, 0, 0),
  (19, .getfield 59, 44, 494),
  (22, .aload_n 0, 0, 0),
  (23, .getfield 63, 45, 495),
  (26, .invokevirtual 276, 46, 700),
  (29, .istore_n 1, 0, 0),
  (30, .iconst 0, 0, 0),
  (31, .bipush 99, 0, 0),
  (33, .iload_n 1, 0, 0),
  (34, .invokestatic 249, 9998, 710),
  (37, .invokestatic 254, 9997, 711),
  (40, .ireturn, 0, 0)]
def xe_101 : XMe := ("BetweenThisAndThat", ⟨"BetweenThisAndThat", "costBySpans", "()I"⟩, prog_1_method_51_code, 2, some (Jvm.ClassFile.FieldType.int), 107, 0, (719, 718, 22, 62))
def xi_102 : List XIn := [(0, .aload_n 0, 0, 0),
  (1, .invokevirtual 226, 101, 716),
  (4, .istore_n 2, 0, 0),
  (5, .iload_n 2, 0, 0),
  (6, .ifCond .ne 7, 0, 0),
  (9, .iconst 4, 0, 0),
  (10, .goto 10, 0, 0),
  (13, .iconst 4, 0, 0),
  (14, .iload_n 1, 0, 0),
  (15, .iload_n 2, 0, 0),
  (16, .idiv, 0, 0),
  (17, .invokestatic 249, 9998, 710),
  (20, .ireturn, 0, 0)]
def xe_102 : XMe := ("BetweenThisAndThat", ⟨"BetweenThisAndThat", "inchesFo\x72", "(I)I"⟩, prog_1_method_52_code, 3, some (Jvm.ClassFile.FieldType.int), 107, 1, (727, 726, 23, 62))
def xi_103 : List XIn := [(0, .iload_n 0, 0, 0),
  (1, .istore_n 2, 0, 0),
  (2, .iconst 5, 0, 0),
  (3, .istore_n 3, 0, 0),
  (4, .iconst 0, 0, 0),
  (5, .istore 4, 0, 0),
  (7, .iload 4, 0, 0),
  (9, .iload_n 1, 0, 0),
  (10, .if_icmp .ge 29, 0, 0),
  (13, .iload_n 2, 0, 0),
  (14, .bipush 6, 0, 0),
  (16, .irem, 0, 0),
  (17, .iload_n 3, 0, 0),
  (18, .if_icmp .le 5, 0, 0),
  (21, .iconst 0, 0, 0),
  (22, .ireturn, 0, 0),
  (23, .iload_n 2, 0, 0),
  (24, .bipush 6, 0, 0),
  (26, .irem, 0, 0),
  (27, .istore_n 3, 0, 0),
  (28, .iload_n 2, 0, 0),
  (29, .bipush 6, 0, 0),
  (31, .idiv, 0, 0),
  (32, .istore_n 2, 0, 0),
  (33, .iinc 4 1, 0, 0),
  (36, .goto (-29), 0, 0),
  (39, .iconst 1, 0, 0),
  (40, .ireturn, 0, 0)]
def xe_103 : XMe := ("BetweenThisAndThat", ⟨"BetweenThisAndThat", "isSorted", "(II)Z"⟩, prog_1_method_53_code, 5, some (Jvm.ClassFile.FieldType.boolean), 0, 2, (733, 732, 0, 62))
def xi_104 : List XIn := [(0, .aload_n 0, 0, 0),
  (1, .getfield 59, 44, 494),
  (4, .iconst 0, 0, 0),
  (5, .invokestatic 324, 204, 738),
  (8, .iload_n 1, 0, 0),
  (9, .istore_n 3, 0, 0),
  (10, .iconst 0, 0, 0),
  (11, .istore 4, 0, 0),
  (13, .iload 4, 0, 0),
  (15, .iload_n 2, 0, 0),
  (16, .if_icmp .ge 27, 0, 0),
  (19, .aload_n 0, 0, 0),
  (20, .getfield 59, 44, 494),
  (23, .iload_n 3, 0, 0),
  (24, .bipush 6, 0, 0),
  (26, .irem, 0, 0),
  (27, .dup2, 0, 0),
  (28, .iaload, 0, 0),
  (29, .iconst 1, 0, 0),
  (30, .iadd, 0, 0),
  (31, .iastore, 0, 0),
  (32, .iload_n 3, 0, 0),
  (33, .bipush 6, 0, 0),
  (35, .idiv, 0, 0),
  (36, .istore_n 3, 0, 0),
  (37, .iinc 4 1, 0, 0),
  (40, .goto (-27), 0, 0),
  (43, .aload_n 0, 0, 0),
  (44, .getfield 55, 43, 493),
  (47, .aload_n 0, 0, 0),
  (48, .getfield 10, 35, 485),
  (51, .iconst 0, 0, 0),
  (52, .invokevirtual 245, 34, 634),
  (55, .iconst 0, 0, 0),
  (56, .istore 4, 0, 0),
  (58, .iload 4, 0, 0),
  (60, .bipush 6, 0, 0),
  (62, .if_icmp .ge 55, 0, 0),
  (65, .aload_n 0, 0, 0),
  (66, .getfield 55, 43, 493),
  (69, .getfield 184, 20, 220),
  (72, .iload 4, 0, 0),
  (74, .dup2, 0, 0),
  (75, .iaload, 0, 0),
  (76, .aload_n 0, 0, 0),
  (77, .getfield 59, 44, 494),
  (80, .iload 4, 0, 0),
  (82, .iaload, 0, 0),
  (83, .iconst 2, 0, 0),
  (84, .idiv, 0, 0),
  (85, .iadd, 0, 0),
  (86, .iastore, 0, 0),
  (87, .aload_n 0, 0, 0),
  (88, .getfield 55, 43, 493),
  (91, .getfield 187, 21, 222),
  (94, .iload 4, 0, 0),
  (96, .dup2, 0, 0),
  (97, .iaload, 0, 0),
  (98, .aload_n 0, 0, 0),
  (99, .getfield 59, 44, 494),
  (102, .iload 4, 0, 0),
  (104, .iaload, 0, 0),
  (105, .iconst 1, 0, 0),
  (106, .iadd, 0, 0),
  (107, .iconst 2, 0, 0),
  (108, .idiv, 0, 0),
  (109, .isub, 0, 0),
  (110, .iastore, 0, 0),
  (111, .iinc 4 1, 0, 0),
  (114, .goto (-56), 0, 0),
  (117, .aload_n 0, 0, 0),
  (118, .getfield 55, 43, 493),
  (121, .invokevirtual 217, 38, 644),
  (124, .ireturn, 0, 0)]
def xe_104 : XMe := ("BetweenThisAndThat", ⟨"BetweenThisAndThat", "cutBought", "(II)Z"⟩, prog_1_method_54_code, 5, some (Jvm.ClassFile.FieldType.boolean), 107, 2, (737, 736, 24, 62))
def xi_105 : List XIn := [(0, .iconst 0, 0, 0),
  (1, .istore_n 2, 0, 0),
  (2, .iload_n 0, 0, 0),
  (3, .istore_n 3, 0, 0),
  (4, .iconst 1, 0, 0),
  (5, .istore 4, 0, 0),
  (7, .iconst 0, 0, 0),
  (8, .istore 5, 0, 0),
  (10, .iload 5, 0, 0),
  (12, .iload_n 1, 0, 0),
  (13, .if_icmp .ge 33, 0, 0),
  (16, .iload_n 2, 0, 0),
  (17, .iload 4, 0, 0),
  (19, .iload_n 3, 0, 0),
  (20, .bipush 6, 0, 0),
  (22, .irem, 0, 0),
  (23, .iconst 1, 0, 0),
  (24, .iadd, 0, 0),
  (25, .imul, 0, 0),
  (26, .iadd, 0, 0),
  (27, .istore_n 2, 0, 0),
  (28, .iload_n 3, 0, 0),
  (29, .bipush 6, 0, 0),
  (31, .idiv, 0, 0),
  (32, .istore_n 3, 0, 0),
  (33, .iload 4, 0, 0),
  (35, .bipush 10, 0, 0),
  (37, .imul, 0, 0),
  (38, .istore 4, 0, 0),
  (40, .iinc 5 1, 0, 0),
  (43, .goto (-33), 0, 0),
  (46, .iload_n 2, 0, 0),
  (47, .ireturn, 0, 0)]
def xe_105 : XMe := ("BetweenThisAndThat", ⟨"BetweenThisAndThat", "digitsOf", "(II)I"⟩, prog_1_method_55_code, 6, some (Jvm.ClassFile.FieldType.int), 0, 2, (741, 740, 0, 62))
def xi_106 : List XIn := [(0, .iconst 1, 0, 0),
  (1, .istore_n 2, 0, 0),
  (2, .iconst 0, 0, 0),
  (3, .istore_n 3, 0, 0),
  (4, .iload_n 3, 0, 0),
  (5, .iload_n 1, 0, 0),
  (6, .if_icmp .ge 13, 0, 0),
  (9, .iload_n 2, 0, 0),
  (10, .iload_n 0, 0, 0),
  (11, .imul, 0, 0),
  (12, .istore_n 2, 0, 0),
  (13, .iinc 3 1, 0, 0),
  (16, .goto (-12), 0, 0),
  (19, .iload_n 2, 0, 0),
  (20, .ireturn, 0, 0)]
def xe_106 : XMe := ("BetweenThisAndThat", ⟨"BetweenThisAndThat", "powe\x72", "(II)I"⟩, prog_1_method_56_code, 4, some (Jvm.ClassFile.FieldType.int), 0, 2, (730, 729, 0, 62))
def xi_107 : List XIn := [(0, .lload_n 2, 0, 0),
  (1, .lstore 5, 0, 0),
  (3, .lload_n 0, 0, 0),
  (4, .lstore 7, 0, 0),
  (6, .iconst 0, 0, 0),
  (7, .istore 9, 0, 0),
  (9, .iload 9, 0, 0),
  (11, .bipush 100, 0, 0),
  (13, .if_icmp .ge 31, 0, 0),
  (16, .lload 7, 0, 0),
  (18, .lconst 0, 0, 0),
  (19, .lcmp, 0, 0),
  (20, .ifCond .eq 24, 0, 0),
  (23, .lload 5, 0, 0),
  (25, .lload 7, 0, 0),
  (27, .lrem, 0, 0),
  (28, .lstore 10, 0, 0),
  (30, .lload 7, 0, 0),
  (32, .lstore 5, 0, 0),
  (34, .lload 10, 0, 0),
  (36, .lstore 7, 0, 0),
  (38, .iinc 9 1, 0, 0),
  (41, .goto (-32), 0, 0),
  (44, .iload 4, 0, 0),
  (46, .ifCond .ne 7, 0, 0),
  (49, .lload_n 0, 0, 0),
  (50, .goto 4, 0, 0),
  (53, .lload_n 2, 0, 0),
  (54, .lstore 9, 0, 0),
  (56, .lload 5, 0, 0),
  (58, .lconst 0, 0, 0),
  (59, .lcmp, 0, 0),
  (60, .ifCond .le 11, 0, 0),
  (63, .lload 9, 0, 0),
  (65, .lload 5, 0, 0),
  (67, .ldiv, 0, 0),
  (68, .goto 5, 0, 0),
  (71, .lload 9, 0, 0),
  (73, .lreturn, 0, 0)]
def xe_107 : XMe := ("BetweenThisAndThat", ⟨"BetweenThisAndThat", "lowestTerms", "(JJI)J"⟩, prog_1_method_57_code, 12, some (Jvm.ClassFile.FieldType.long), 0, 3, (756, 755, 0, 62))
def xi_108 : List XIn := [(0, .iload_n 1, 0, 0),
  (1, .invokestatic 280, 93, 773),
  (4, .ifCond .ne 6, 0, 0),
  (7, .bipush (-2), 0, 0),
  (9, .ireturn, 0, 0),
  (10, .aload_n 0, 0, 0),
  (11, .getfield 48, 42, 492),
  (14, .iload_n 1, 0, 0),
  (15, .aaload, 0, 0),
  (16, .getfield 299, 18, 277),
  (19, .iconst (-1), 0, 0),
  (20, .if_icmp .ne 6, 0, 0),
  (23, .bipush (-11), 0, 0),
  (25, .ireturn, 0, 0),
  (26, .aload_n 0, 0, 0),
  (27, .getfield 48, 42, 492),
  (30, .iload_n 1, 0, 0),
  (31, .aaload, 0, 0),
  (32, .getfield 302, 19, 279),
  (35, .bipush 6, 0, 0),
  (37, .if_icmp .ne 7, 0, 0),
  (40, .iconst 0, 0, 0),
  (41, .goto 5, 0, 0),
  (44, .bipush (-2), 0, 0),
  (46, .ireturn, 0, 0)]
def xe_108 : XMe := ("BetweenThisAndThat", ⟨"BetweenThisAndThat", "refusalOfTruth", "(I)I"⟩, prog_1_method_58_code, 2, some (Jvm.ClassFile.FieldType.int), 107, 1, (772, 771, 25, 62))
def xi_109 : List XIn := [(0, .iload_n 1, 0, 0),
  (1, .iconst 1, 0, 0),
  (2, .iadd, 0, 0),
  (3, .i2l, 0, 0),
  (4, .lstore_n 2, 0, 0),
  (5, .iconst 0, 0, 0),
  (6, .istore 4, 0, 0),
  (8, .iload 4, 0, 0),
  (10, .bipush 6, 0, 0),
  (12, .if_icmp .ge 54, 0, 0),
  (15, .lload_n 2, 0, 0),
  (16, .ldc2_w 330, 0, 823),
  (19, .lmul, 0, 0),
  (20, .ldc2_w 332, 0, 824),
  (23, .lrem, 0, 0),
  (24, .lstore_n 2, 0, 0),
  (25, .aload_n 0, 0, 0),
  (26, .getfield 59, 44, 494),
  (29, .iload 4, 0, 0),
  (31, .aload_n 0, 0, 0),
  (32, .getfield 55, 43, 493),
  (35, .getfield 190, 22, 224),
  (38, .iload 4, 0, 0),
  (40, .iaload, 0, 0),
  (41, .lload_n 2, 0, 0),
  (42, .iconst 1, 0, 0),
  (43, .aload_n 0, 0, 0),
  (44, .getfield 55, 43, 493),
  (47, .iload 4, 0, 0),
  (49, .invokevirtual 261, 40, 761),
  (52, .invokestatic 254, 9997, 711),
  (55, .i2l, 0, 0),
  (56, .lrem, 0, 0),
  (57, .l2i, 0, 0),
  (58, .iadd, 0, 0),
  (59, .iastore, 0, 0),
  (60, .iinc 4 1, 0, 0),
  (63, .goto (-55), 0, 0),
  (66, .return_, 0, 0)]
def xe_109 : XMe := ("BetweenThisAndThat", ⟨"BetweenThisAndThat", "drawRow", "(I)V"⟩, prog_1_method_59_code, 5, none, 107, 1, (822, 821, 26, 62))
def xi_110 : List XIn := [(0, .aload_n 0, 0, 0),
  (1, .getfield 31, 39, 489),
  (4, .aload_n 0, 0, 0),
  (5, .getfield 10, 35, 485),
  (8, .getfield 112, 34, 140),
  (11, .aaload, 0, 0),
  (12, .iconst 2, 0, 0),
  (13, .aload_n 0, 0, 0),
  (14, .getfield 59, 44, 494),
  (17, .aload_n 0, 0, 0),
  (18, .getfield 63, 45, 495),
  (21, .invokevirtual 276, 46, 700),
  (24, .ifCond .eq 7, 0, 0),
  (27, .iconst 1, 0, 0),
  (28, .goto 4, 0, 0),
  (31, .iconst 0, 0, 0),
  (32, .ireturn, 0, 0)]
def xe_110 : XMe := ("BetweenThisAndThat", ⟨"BetweenThisAndThat", "rowMeetsLaw", "()Z"⟩, prog_1_method_60_code, 1, some (Jvm.ClassFile.FieldType.boolean), 107, 0, (828, 827, 27, 62))
def xi_111 : List XIn := [(0, .aload_n 0, 0, 0),
  (1, .invokespecial 1, 8888, 882),
  (4, .aload_n 0, 0, 0),
  (5, .bipush 50, 0, 0),
  (7, .newarray .int, 0, 0),
  (9, .putfield 7, 49, 931),
  (12, .aload_n 0, 0, 0),
  (13, .bipush 32, 0, 0),
  (15, .newarray .int, 0, 0),
  (17, .putfield 13, 51, 933),
  (20, .aload_n 0, 0, 0),
  (21, .sipush 160, 0, 0),
  (24, .newarray .int, 0, 0),
  (26, .putfield 16, 53, 935),
  (29, .aload_n 0, 0, 0),
  (30, .sipush 1200, 0, 0),
  (33, .newarray .int, 0, 0),
  (35, .putfield 19, 55, 937),
  (38, .aload_n 0, 0, 0),
  (39, .bipush 24, 0, 0),
  (41, .newarray .int, 0, 0),
  (43, .putfield 22, 56, 938),
  (46, .aload_n 0, 0, 0),
  (47, .bipush 50, 0, 0),
  (49, .newarray .int, 0, 0),
  (51, .putfield 25, 64, 946),
  (54, .aload_n 0, 0, 0),
  (55, .iconst 4, 0, 0),
  (56, .newarray .int, 0, 0),
  (58, .dup, 0, 0),
  (59, .iconst 0, 0, 0),
  (60, .iconst (-1), 0, 0),
  (61, .iastore, 0, 0),
  (62, .dup, 0, 0),
  (63, .iconst 1, 0, 0),
  (64, .iconst (-1), 0, 0),
  (65, .iastore, 0, 0),
  (66, .dup, 0, 0),
  (67, .iconst 2, 0, 0),
  (68, .iconst (-1), 0, 0),
  (69, .iastore, 0, 0),
  (70, .dup, 0, 0),
  (71, .iconst 3, 0, 0),
  (72, .iconst (-1), 0, 0),
  (73, .iastore, 0, 0),
  (74, .putfield 28, 65, 947),
  (77, .aload_n 0, 0, 0),
  (78, .iconst 4, 0, 0),
  (79, .newarray .int, 0, 0),
  (81, .putfield 31, 66, 948),
  (84, .aload_n 0, 0, 0),
  (85, .sipush 160, 0, 0),
  (88, .newarray .int, 0, 0),
  (90, .putfield 34, 67, 949),
  (93, .aload_n 0, 0, 0),
  (94, .bipush 35, 0, 0),
  (96, .newarray .int, 0, 0),
  (98, .dup, 0, 0),
  (99, .iconst 0, 0, 0),
  (100, .bipush 114, 0, 0),
  (102, .iastore, 0, 0),
  (103, .dup, 0, 0),
  (104, .iconst 1, 0, 0),
  (105, .bipush 101, 0, 0),
  (107, .iastore, 0, 0),
  (108, .dup, 0, 0),
  (109, .iconst 2, 0, 0),
  (110, .bipush 99, 0, 0),
  (112, .iastore, 0, 0),
  (113, .dup, 0, 0),
  (114, .iconst 3, 0, 0),
  (115, .bipush 107, 0, 0),
  (117, .iastore, 0, 0),
  (118, .dup, 0, 0),
  (119, .iconst 4, 0, 0),
  (120, .bipush 111, 0, 0),
  (122, .iastore, 0, 0),
  (123, .dup, 0, 0),
  (124, .iconst 5, 0, 0),
  (125, .bipush 110, 0, 0),
  (127, .iastore, 0, 0),
  (128, .dup, 0, 0),
  (129, .bipush 6, 0, 0),
  (131, .bipush 115, 0, 0),
  (133, .iastore, 0, 0),
  (134, .dup, 0, 0),
  (135, .bipush 7, 0, 0),
  (137, .bipush 32, 0, 0),
  (139, .iastore, 0, 0),
  (140, .dup, 0, 0),
  (141, .bipush 8, 0, 0),
  (143, .bipush 97, 0, 0),
  (145, .iastore, 0, 0),
  (146, .dup, 0, 0),
  (147, .bipush 9, 0, 0),
  (149, .bipush 32, 0, 0),
  (151, .iastore, 0, 0),
  (152, .dup, 0, 0),
  (153, .bipush 10, 0, 0),
  (155, .bipush 43, 0, 0),
  (157, .iastore, 0, 0),
  (158, .dup, 0, 0),
  (159, .bipush 11, 0, 0),
  (161, .bipush 32, 0, 0),
  (163, .iastore, 0, 0),
  (164, .dup, 0, 0),
  (165, .bipush 12, 0, 0),
  (167, .bipush 98, 0, 0),
  (169, .iastore, 0, 0),
  (170, .dup, 0, 0),
  (171, .bipush 13, 0, 0),
  (173, .bipush 32, 0, 0),
  (175, .iastore, 0, 0),
  (176, .dup, 0, 0),
  (177, .bipush 14, 0, 0),
  (179, .bipush 59, 0, 0),
  (181, .iastore, 0, 0),
  (182, .dup, 0, 0),
  (183, .bipush 15, 0, 0),
  (185, .bipush 32, 0, 0),
  (187, .iastore, 0, 0),
  (188, .dup, 0, 0),
  (189, .bipush 16, 0, 0),
  (191, .bipush 99, 0, 0),
  (193, .iastore, 0, 0),
  (194, .dup, 0, 0),
  (195, .bipush 17, 0, 0),
  (197, .bipush 111, 0, 0),
  (199, .iastore, 0, 0),
  (200, .dup, 0, 0),
  (201, .bipush 18, 0, 0),
  (203, .bipush 115, 0, 0),
  (205, .iastore, 0, 0),
  (206, .dup, 0, 0),
  (207, .bipush 19, 0, 0),
  (209, .bipush 116, 0, 0),
  (211, .iastore, 0, 0),
  (212, .dup, 0, 0),
  (213, .bipush 20, 0, 0),
  (215, .bipush 115, 0, 0),
  (217, .iastore, 0, 0),
  (218, .dup, 0, 0),
  (219, .bipush 21, 0, 0),
  (221, .bipush 32, 0, 0),
  (223, .iastore, 0, 0),
  (224, .dup, 0, 0),
  (225, .bipush 22, 0, 0),
  (227, .bipush 49, 0, 0),
  (229, .iastore, 0, 0),
  (230, .dup, 0, 0),
  (231, .bipush 23, 0, 0),
  (233, .bipush 32, 0, 0),
  (235, .iastore, 0, 0),
  (236, .dup, 0, 0),
  (237, .bipush 24, 0, 0),
  (239, .bipush 59, 0, 0),
  (241, .iastore, 0, 0),
  (242, .dup, 0, 0),
  (243, .bipush 25, 0, 0),
  (245, .bipush 32, 0, 0),
  (247, .iastore, 0, 0),
  (248, .dup, 0, 0),
  (249, .bipush 26, 0, 0),
  (251, .bipush 109, 0, 0),
  (253, .iastore, 0, 0),
  (254, .dup, 0, 0),
  (255, .bipush 27, 0, 0),
  (257, .bipush 101, 0, 0),
  (259, .iastore, 0, 0),
  (260, .dup, 0, 0),
  (261, .bipush 28, 0, 0),
  (263, .bipush 101, 0, 0),
  (265, .iastore, 0, 0),
  (266, .dup, 0, 0),
  (267, .bipush 29, 0, 0),
  (269, .bipush 116, 0, 0),
  (271, .iastore, 0, 0),
  (272, .dup, 0, 0),
  (273, .bipush 30, 0, 0),
  (275, .bipush 115, 0, 0),
  (277, .iastore, 0, 0),
  (278, .dup, 0, 0),
  (279, .bipush 31, 0, 0),
  (281, .bipush 32, 0, 0),
  (283, .iastore, 0, 0),
  (284, .dup, 0, 0),
  (285, .bipush 32, 0, 0),
  (287, .bipush 49, 0, 0),
  (289, .iastore, 0, 0),
  (290, .dup, 0, 0),
  (291, .bipush 33, 0, 0),
  (293, .bipush 32, 0, 0),
  (295, .iastore, 0, 0),
  (296, .dup, 0, 0),
  (297, .bipush 34, 0, 0),
  (299, .bipush 59, 0, 0),
  (301, .iastore, 0, 0),
  (302, .putfield 37, 68, 950),
  (305, .aload_n 0, 0, 0),
  (306, .bipush 96, 0, 0),
  (308, .newarray .int, 0, 0),
  (310, .dup, 0, 0),
  (311, .iconst 0, 0, 0),
  (312, .bipush 114, 0, 0),
  (314, .iastore, 0, 0),
  (315, .dup, 0, 0),
  (316, .iconst 1, 0, 0),
  (317, .bipush 101, 0, 0),
  (319, .iastore, 0, 0),
  (320, .dup, 0, 0),
  (321, .iconst 2, 0, 0),
  (322, .bipush 99, 0, 0),
  (324, .iastore, 0, 0),
  (325, .dup, 0, 0),
  (326, .iconst 3, 0, 0),
  (327, .bipush 107, 0, 0),
  (329, .iastore, 0, 0),
  (330, .dup, 0, 0),
  (331, .iconst 4, 0, 0),
  (332, .bipush 111, 0, 0),
  (334, .iastore, 0, 0),
  (335, .dup, 0, 0),
  (336, .iconst 5, 0, 0),
  (337, .bipush 110, 0, 0),
  (339, .iastore, 0, 0),
  (340, .dup, 0, 0),
  (341, .bipush 6, 0, 0),
  (343, .bipush 115, 0, 0),
  (345, .iastore, 0, 0),
  (346, .dup, 0, 0),
  (347, .bipush 7, 0, 0),
  (349, .bipush 32, 0, 0),
  (351, .iastore, 0, 0),
  (352, .dup, 0, 0),
  (353, .bipush 8, 0, 0),
  (355, .bipush 99, 0, 0),
  (357, .iastore, 0, 0),
  (358, .dup, 0, 0),
  (359, .bipush 9, 0, 0),
  (361, .bipush 111, 0, 0),
  (363, .iastore, 0, 0),
  (364, .dup, 0, 0),
  (365, .bipush 10, 0, 0),
  (367, .bipush 115, 0, 0),
  (369, .iastore, 0, 0),
  (370, .dup, 0, 0),
  (371, .bipush 11, 0, 0),
  (373, .bipush 116, 0, 0),
  (375, .iastore, 0, 0),
  (376, .dup, 0, 0),
  (377, .bipush 12, 0, 0),
  (379, .bipush 115, 0, 0),
  (381, .iastore, 0, 0),
  (382, .dup, 0, 0),
  (383, .bipush 13, 0, 0),
  (385, .bipush 32, 0, 0),
  (387, .iastore, 0, 0),
  (388, .dup, 0, 0),
  (389, .bipush 14, 0, 0),
  (391, .bipush 32, 0, 0),
  (393, .iastore, 0, 0),
  (394, .dup, 0, 0),
  (395, .bipush 15, 0, 0),
  (397, .bipush 32, 0, 0),
  (399, .iastore, 0, 0),
  (400, .dup, 0, 0),
  (401, .bipush 16, 0, 0),
  (403, .bipush 109, 0, 0),
  (405, .iastore, 0, 0),
  (406, .dup, 0, 0),
  (407, .bipush 17, 0, 0),
  (409, .bipush 101, 0, 0),
  (411, .iastore, 0, 0),
  (412, .dup, 0, 0),
  (413, .bipush 18, 0, 0),
  (415, .bipush 101, 0, 0),
  (417, .iastore, 0, 0),
  (418, .dup, 0, 0),
  (419, .bipush 19, 0, 0),
  (421, .bipush 116, 0, 0),
  (423, .iastore, 0, 0),
  (424, .dup, 0, 0),
  (425, .bipush 20, 0, 0),
  (427, .bipush 115, 0, 0),
  (429, .iastore, 0, 0),
  (430, .dup, 0, 0),
  (431, .bipush 21, 0, 0),
  (433, .bipush 32, 0, 0),
  (435, .iastore, 0, 0),
  (436, .dup, 0, 0),
  (437, .bipush 22, 0, 0),
  (439, .bipush 32, 0, 0),
  (441, .iastore, 0, 0),
  (442, .dup, 0, 0),
  (443, .bipush 23, 0, 0),
  (445, .bipush 32, 0, 0),
  (447, .iastore, 0, 0),
  (448, .dup, 0, 0),
  (449, .bipush 24, 0, 0),
  (451, .bipush 97, 0, 0),
  (453, .iastore, 0, 0),
  (454, .dup, 0, 0),
  (455, .bipush 25, 0, 0),
  (457, .bipush 32, 0, 0),
  (459, .iastore, 0, 0),
  (460, .dup, 0, 0),
  (461, .bipush 26, 0, 0),
  (463, .bipush 32, 0, 0),
  (465, .iastore, 0, 0),
  (466, .dup, 0, 0),
  (467, .bipush 27, 0, 0),
  (469, .bipush 32, 0, 0),
  (471, .iastore, 0, 0),
  (472, .dup, 0, 0),
  (473, .bipush 28, 0, 0),
  (475, .bipush 32, 0, 0),
  (477, .iastore, 0, 0),
  (478, .dup, 0, 0),
  (479, .bipush 29, 0, 0),
  (481, .bipush 32, 0, 0),
  (483, .iastore, 0, 0),
  (484, .dup, 0, 0),
  (485, .bipush 30, 0, 0),
  (487, .bipush 32, 0, 0),
  (489, .iastore, 0, 0),
  (490, .dup, 0, 0),
  (491, .bipush 31, 0, 0),
  (493, .bipush 32, 0, 0),
  (495, .iastore, 0, 0),
  (496, .dup, 0, 0),
  (497, .bipush 32, 0, 0),
  (499, .bipush 98, 0, 0),
  (501, .iastore, 0, 0),
  (502, .dup, 0, 0),
  (503, .bipush 33, 0, 0),
  (505, .bipush 32, 0, 0),
  (507, .iastore, 0, 0),
  (508, .dup, 0, 0),
  (509, .bipush 34, 0, 0),
  (511, .bipush 32, 0, 0),
  (513, .iastore, 0, 0),
  (514, .dup, 0, 0),
  (515, .bipush 35, 0, 0),
  (517, .bipush 32, 0, 0),
  (519, .iastore, 0, 0),
  (520, .dup, 0, 0),
  (521, .bipush 36, 0, 0),
  (523, .bipush 32, 0, 0),
  (525, .iastore, 0, 0),
  (526, .dup, 0, 0),
  (527, .bipush 37, 0, 0),
  (529, .bipush 32, 0, 0),
  (531, .iastore, 0, 0),
  (532, .dup, 0, 0),
  (533, .bipush 38, 0, 0),
  (535, .bipush 32, 0, 0),
  (537, .iastore, 0, 0),
  (538, .dup, 0, 0),
  (539, .bipush 39, 0, 0),
  (541, .bipush 32, 0, 0),
  (543, .iastore, 0, 0),
  (544, .dup, 0, 0),
  (545, .bipush 40, 0, 0),
  (547, .bipush 99, 0, 0),
  (549, .iastore, 0, 0),
  (550, .dup, 0, 0),
  (551, .bipush 41, 0, 0),
  (553, .bipush 32, 0, 0),
  (555, .iastore, 0, 0),
  (556, .dup, 0, 0),
  (557, .bipush 42, 0, 0),
  (559, .bipush 32, 0, 0),
  (561, .iastore, 0, 0),
  (562, .dup, 0, 0),
  (563, .bipush 43, 0, 0),
  (565, .bipush 32, 0, 0),
  (567, .iastore, 0, 0),
  (568, .dup, 0, 0),
  (569, .bipush 44, 0, 0),
  (571, .bipush 32, 0, 0),
  (573, .iastore, 0, 0),
  (574, .dup, 0, 0),
  (575, .bipush 45, 0, 0),
  (577, .bipush 32, 0, 0),
  (579, .iastore, 0, 0),
  (580, .dup, 0, 0),
  (581, .bipush 46, 0, 0),
  (583, .bipush 32, 0, 0),
  (585, .iastore, 0, 0),
  (586, .dup, 0, 0),
  (587, .bipush 47, 0, 0),
  (589, .bipush 32, 0, 0),
  (591, .iastore, 0, 0),
  (592, .dup, 0, 0),
  (593, .bipush 48, 0, 0),
  (595, .bipush 100, 0, 0),
  (597, .iastore, 0, 0),
  (598, .dup, 0, 0),
  (599, .bipush 49, 0, 0),
  (601, .bipush 32, 0, 0),
  (603, .iastore, 0, 0),
  (604, .dup, 0, 0),
  (605, .bipush 50, 0, 0),
  (607, .bipush 32, 0, 0),
  (609, .iastore, 0, 0),
  (610, .dup, 0, 0),
  (611, .bipush 51, 0, 0),
  (613, .bipush 32, 0, 0),
  (615, .iastore, 0, 0),
  (616, .dup, 0, 0),
  (617, .bipush 52, 0, 0),
  (619, .bipush 32, 0, 0),
  (621, .iastore, 0, 0),
  (622, .dup, 0, 0),
  (623, .bipush 53, 0, 0),
  (625, .bipush 32, 0, 0),
  (627, .iastore, 0, 0),
  (628, .dup, 0, 0),
  (629, .bipush 54, 0, 0),
  (631, .bipush 32, 0, 0),
  (633, .iastore, 0, 0),
  (634, .dup, 0, 0),
  (635, .bipush 55, 0, 0),
  (637, .bipush 32, 0, 0),
  (639, .iastore, 0, 0),
  (640, .dup, 0, 0),
  (641, .bipush 56, 0, 0),
  (643, .bipush 101, 0, 0),
  (645, .iastore, 0, 0),
  (646, .dup, 0, 0),
  (647, .bipush 57, 0, 0),
  (649, .bipush 32, 0, 0),
  (651, .iastore, 0, 0),
  (652, .dup, 0, 0),
  (653, .bipush 58, 0, 0),
  (655, .bipush 32, 0, 0),
  (657, .iastore, 0, 0),
  (658, .dup, 0, 0),
  (659, .bipush 59, 0, 0),
  (661, .bipush 32, 0, 0),
  (663, .iastore, 0, 0),
  (664, .dup, 0, 0),
  (665, .bipush 60, 0, 0),
  (667, .bipush 32, 0, 0),
  (669, .iastore, 0, 0),
  (670, .dup, 0, 0),
  (671, .bipush 61, 0, 0),
  (673, .bipush 32, 0, 0),
  (675, .iastore, 0, 0),
  (676, .dup, 0, 0),
  (677, .bipush 62, 0, 0),
  (679, .bipush 32, 0, 0),
  (681, .iastore, 0, 0),
  (682, .dup, 0, 0),
  (683, .bipush 63, 0, 0),
  (685, .bipush 32, 0, 0),
  (687, .iastore, 0, 0),
  (688, .dup, 0, 0),
  (689, .bipush 64, 0, 0),
  (691, .bipush 102, 0, 0),
  (693, .iastore, 0, 0),
  (694, .dup, 0, 0),
  (695, .bipush 65, 0, 0),
  (697, .bipush 32, 0, 0),
  (699, .iastore, 0, 0),
  (700, .dup, 0, 0),
  (701, .bipush 66, 0, 0),
  (703, .bipush 32, 0, 0),
  (705, .iastore, 0, 0),
  (706, .dup, 0, 0),
  (707, .bipush 67, 0, 0),
  (709, .bipush 32, 0, 0),
  (711, .iastore, 0, 0),
  (712, .dup, 0, 0),
  (713, .bipush 68, 0, 0),
  (715, .bipush 32, 0, 0),
  (717, .iastore, 0, 0),
  (718, .dup, 0, 0),
  (719, .bipush 69, 0, 0),
  (721, .bipush 32, 0, 0),
  (723, .iastore, 0, 0),
  (724, .dup, 0, 0),
  (725, .bipush 70, 0, 0),
  (727, .bipush 32, 0, 0),
  (729, .iastore, 0, 0),
  (730, .dup, 0, 0),
  (731, .bipush 71, 0, 0),
  (733, .bipush 32, 0, 0),
  (735, .iastore, 0, 0),
  (736, .dup, 0, 0),
  (737, .bipush 72, 0, 0),
  (739, .bipush 111, 0, 0),
  (741, .iastore, 0, 0),
  (742, .dup, 0, 0),
  (743, .bipush 73, 0, 0),
  (745, .bipush 114, 0, 0),
  (747, .iastore, 0, 0),
  (748, .dup, 0, 0),
  (749, .bipush 74, 0, 0),
  (751, .bipush 32, 0, 0),
  (753, .iastore, 0, 0),
  (754, .dup, 0, 0),
  (755, .bipush 75, 0, 0),
  (757, .bipush 32, 0, 0),
  (759, .iastore, 0, 0),
  (760, .dup, 0, 0),
  (761, .bipush 76, 0, 0),
  (763, .bipush 32, 0, 0),
  (765, .iastore, 0, 0),
  (766, .dup, 0, 0),
  (767, .bipush 77, 0, 0),
  (769, .bipush 32, 0, 0),
  (771, .iastore, 0, 0),
  (772, .dup, 0, 0),
  (773, .bipush 78, 0, 0),
  (775, .bipush 32, 0, 0),
  (777, .iastore, 0, 0),
  (778, .dup, 0, 0),
  (779, .bipush 79, 0, 0),
  (781, .bipush 32, 0, 0),
  (783, .iastore, 0, 0),
  (784, .dup, 0, 0),
  (785, .bipush 80, 0, 0),
  (787, .bipush 97, 0, 0),
  (789, .iastore, 0, 0),
  (790, .dup, 0, 0),
  (791, .bipush 81, 0, 0),
  (793, .bipush 110, 0, 0),
  (795, .iastore, 0, 0),
  (796, .dup, 0, 0),
  (797, .bipush 82, 0, 0),
  (799, .bipush 100, 0, 0),
  (801, .iastore, 0, 0),
  (802, .dup, 0, 0),
  (803, .bipush 83, 0, 0),
  (805, .bipush 32, 0, 0),
  (807, .iastore, 0, 0),
  (808, .dup, 0, 0),
  (809, .bipush 84, 0, 0),
  (811, .bipush 32, 0, 0),
  (813, .iastore, 0, 0),
  (814, .dup, 0, 0),
  (815, .bipush 85, 0, 0),
  (817, .bipush 32, 0, 0),
  (819, .iastore, 0, 0),
  (820, .dup, 0, 0),
  (821, .bipush 86, 0, 0),
  (823, .bipush 32, 0, 0),
  (825, .iastore, 0, 0),
  (826, .dup, 0, 0),
  (827, .bipush 87, 0, 0),
  (829, .bipush 32, 0, 0),
  (831, .iastore, 0, 0),
  (832, .dup, 0, 0),
  (833, .bipush 88, 0, 0),
  (835, .bipush 110, 0, 0),
  (837, .iastore, 0, 0),
  (838, .dup, 0, 0),
  (839, .bipush 89, 0, 0),
  (841, .bipush 111, 0, 0),
  (843, .iastore, 0, 0),
  (844, .dup, 0, 0),
  (845, .bipush 90, 0, 0),
  (847, .bipush 116, 0, 0),
  (849, .iastore, 0, 0),
  (850, .dup, 0, 0),
  (851, .bipush 91, 0, 0),
  (853, .bipush 32, 0, 0),
  (855, .iastore, 0, 0),
  (856, .dup, 0, 0),
  (857, .bipush 92, 0, 0),
  (859, .bipush 32, 0, 0),
  (861, .iastore, 0, 0),
  (862, .dup, 0, 0),
  (863, .bipush 93, 0, 0),
  (865, .bipush 32, 0, 0),
  (867, .iastore, 0, 0),
  (868, .dup, 0, 0),
  (869, .bipush 94, 0, 0),
  (871, .bipush 32, 0, 0),
  (873, .iastore, 0, 0),
  (874, .dup, 0, 0),
  (875, .bipush 95, 0, 0),
  (877, .bipush 32, 0, 0),
  (879, .iastore, 0, 0),
  (880, .putfield 40, 73, 955),
  (883, .aload_n 0, 0, 0),
  (884, .sipush 200, 0, 0),
  (887, .newarray .int, 0, 0),
  (889, .putfield 43, 74, 956),
  (892, .aload_n 0, 0, 0),
  (893, .sipush 200, 0, 0),
  (896, .newarray .int, 0, 0),
  (898, .putfield 46, 78, 960),
  (901, .aload_n 0, 0, 0),
  (902, .bipush 6, 0, 0),
  (904, .newarray .int, 0, 0),
  (906, .putfield 49, 79, 961),
  (909, .aload_n 0, 0, 0),
  (910, .bipush 6, 0, 0),
  (912, .newarray .int, 0, 0),
  (914, .putfield 52, 80, 962),
  (917, .aload_n 0, 0, 0),
  (918, .bipush 6, 0, 0),
  (920, .newarray .int, 0, 0),
  (922, .putfield 55, 81, 963),
  (925, .aload_n 0, 0, 0),
  (926, .bipush 49, 0, 0),
  (928, .newarray .int, 0, 0),
  (930, .putfield 58, 82, 964),
  (933, .aload_n 0, 0, 0),
  (934, .iconst 4, 0, 0),
  (935, .newarray .int, 0, 0),
  (937, .putfield 61, 85, 967),
  (940, .iconst 0, 0, 0),
  (941, .istore_n 1, 0, 0),
  (942, .iload_n 1, 0, 0),
  (943, .bipush 35, 0, 0),
  (945, .if_icmp .ge 21, 0, 0),
  (948, .aload_n 0, 0, 0),
  (949, .getfield 16, 53, 935),
  (952, .iload_n 1, 0, 0),
  (953, .aload_n 0, 0, 0),
  (954, .getfield 37, 68, 950),
  (957, .iload_n 1, 0, 0),
  (958, .iaload, 0, 0),
  (959, .iastore, 0, 0),
  (960, .iinc 1 1, 0, 0),
  (963, .goto (-21), 0, 0),
  (966, .aload_n 0, 0, 0),
  (967, .bipush 35, 0, 0),
  (969, .putfield 64, 54, 936),
  (972, .aload_n 0, 0, 0),
  (973, .invokevirtual 68, 132, 883),
  (976, .pop, 0, 0),
  (977, .return_, 0, 0)]
def xe_111 : XMe := ("BetweenThisAndThatModel", ⟨"BetweenThisAndThatModel", "<init>", "()V"⟩, prog_10_method_1_code, 2, none, 208, 0, (881, 880, 0, 77))
def xi_112 : List XIn := [(0, .iload_n 0, 0, 0),
  (1, .iload_n 1, 0, 0),
  (2, .if_icmp .lt 12, 0, 0),
  (5, .iload_n 0, 0, 0),
  (6, .iload_n 2, 0, 0),
  (7, .if_icmp .gt 7, 0, 0),
  (10, .iconst 1, 0, 0),
  (11, .goto 4, 0, 0),
  (14, .iconst 0, 0, 0),
  (15, .ireturn, 0, 0)]
def xe_112 : XMe := ("BetweenThisAndThatModel", ⟨"BetweenThisAndThatModel", "in", "(III)Z"⟩, prog_10_method_3_code, 3, some (Jvm.ClassFile.FieldType.boolean), 0, 3, (893, 892, 0, 77))
def xi_113 : List XIn := [(0, .iload_n 0, 0, 0),
  (1, .iload_n 1, 0, 0),
  (2, .if_icmp .ge 7, 0, 0),
  (5, .iload_n 1, 0, 0),
  (6, .goto 13, 0, 0),
  (9, .iload_n 0, 0, 0),
  (10, .iload_n 2, 0, 0),
  (11, .if_icmp .le 7, 0, 0),
  (14, .iload_n 2, 0, 0),
  (15, .goto 4, 0, 0),
  (18, .iload_n 0, 0, 0),
  (19, .ireturn, 0, 0)]
def xe_113 : XMe := ("BetweenThisAndThatModel", ⟨"BetweenThisAndThatModel", "within", "(III)I"⟩, prog_10_method_4_code, 3, some (Jvm.ClassFile.FieldType.int), 0, 3, (1098, 1097, 0, 77))
def xi_114 : List XIn := [(0, .iload_n 1, 0, 0),
  (1, .iconst 0, 0, 0),
  (2, .aload_n 0, 0, 0),
  (3, .getfield 72, 48, 930),
  (6, .iconst 1, 0, 0),
  (7, .isub, 0, 0),
  (8, .invokestatic 75, 112, 891),
  (11, .ireturn, 0, 0)]
def xe_114 : XMe := ("BetweenThisAndThatModel", ⟨"BetweenThisAndThatModel", "isSaying", "(I)Z"⟩, prog_10_method_5_code, 2, some (Jvm.ClassFile.FieldType.boolean), 108, 1, (1083, 1082, 37, 77))
def xi_115 : List XIn := [(0, .iload_n 0, 0, 0),
  (1, .iconst 0, 0, 0),
  (2, .iconst 5, 0, 0),
  (3, .invokestatic 75, 112, 891),
  (6, .ireturn, 0, 0)]
def xe_115 : XMe := ("BetweenThisAndThatModel", ⟨"BetweenThisAndThatModel", "isOne", "(I)Z"⟩, prog_10_method_6_code, 1, some (Jvm.ClassFile.FieldType.boolean), 0, 1, (1071, 1070, 0, 77))
def xi_116 : List XIn := [(0, .iload_n 1, 0, 0),
  (1, .iconst 0, 0, 0),
  (2, .aload_n 0, 0, 0),
  (3, .getfield 79, 57, 939),
  (6, .iconst 1, 0, 0),
  (7, .isub, 0, 0),
  (8, .invokestatic 75, 112, 891),
  (11, .ireturn, 0, 0)]
def xe_116 : XMe := ("BetweenThisAndThatModel", ⟨"BetweenThisAndThatModel", "isOfTexts", "(I)Z"⟩, prog_10_method_7_code, 2, some (Jvm.ClassFile.FieldType.boolean), 108, 1, (1174, 1173, 49, 77))
def xi_117 : List XIn := [(0, .iconst 0, 0, 0),
  (1, .istore_n 1, 0, 0),
  (2, .iconst 0, 0, 0),
  (3, .istore_n 2, 0, 0),
  (4, .iload_n 2, 0, 0),
  (5, .bipush 12, 0, 0),
  (7, .if_icmp .ge 17, 0, 0),
  (10, .iload_n 1, 0, 0),
  (11, .iload_n 0, 0, 0),
  (12, .iload_n 2, 0, 0),
  (13, .ishr, 0, 0),
  (14, .iconst 1, 0, 0),
  (15, .iand, 0, 0),
  (16, .iadd, 0, 0),
  (17, .istore_n 1, 0, 0),
  (18, .iinc 2 1, 0, 0),
  (21, .goto (-17), 0, 0),
  (24, .iload_n 1, 0, 0),
  (25, .ireturn, 0, 0)]
def xe_117 : XMe := ("BetweenThisAndThatModel", ⟨"BetweenThisAndThatModel", "ones", "(I)I"⟩, prog_10_method_8_code, 3, some (Jvm.ClassFile.FieldType.int), 0, 1, (1162, 1161, 0, 77))
def xi_118 : List XIn := [(0, .iload_n 1, 0, 0),
  (1, .tableswitch 69 0 5 #[39, 44, 49, 54, 59, 64], 0, 0),
  (40, .aload_n 0, 0, 0),
  (41, .getfield 72, 48, 930),
  (44, .ireturn, 0, 0),
  (45, .aload_n 0, 0, 0),
  (46, .getfield 82, 50, 932),
  (49, .ireturn, 0, 0),
  (50, .aload_n 0, 0, 0),
  (51, .getfield 85, 52, 934),
  (54, .ireturn, 0, 0),
  (55, .aload_n 0, 0, 0),
  (56, .getfield 79, 57, 939),
  (59, .ireturn, 0, 0),
  (60, .aload_n 0, 0, 0),
  (61, .getfield 88, 58, 940),
  (64, .ireturn, 0, 0),
  (65, .aload_n 0, 0, 0),
  (66, .getfield 64, 54, 936),
  (69, .ireturn, 0, 0),
  (70, .bipush (-2), 0, 0),
  (72, .ireturn, 0, 0)]
def xe_118 : XMe := ("BetweenThisAndThatModel", ⟨"BetweenThisAndThatModel", "count", "(I)I"⟩, prog_10_method_9_code, 2, some (Jvm.ClassFile.FieldType.int), 108, 1, (1048, 1046, 1047, 77))
def xi_119 : List XIn := [(0, .iload_n 1, 0, 0),
  (1, .iconst 0, 0, 0),
  (2, .bipush 99, 0, 0),
  (4, .invokestatic 75, 112, 891),
  (7, .ifCond .ne 6, 0, 0),
  (10, .bipush (-2), 0, 0),
  (12, .ireturn, 0, 0),
  (13, .aload_n 0, 0, 0),
  (14, .getfield 85, 52, 934),
  (17, .istore_n 2, 0, 0),
  (18, .aload_n 0, 0, 0),
  (19, .iload_n 1, 0, 0),
  (20, .putfield 85, 52, 934),
  (23, .iload_n 2, 0, 0),
  (24, .ireturn, 0, 0)]
def xe_119 : XMe := ("BetweenThisAndThatModel", ⟨"BetweenThisAndThatModel", "set", "(I)I"⟩, prog_10_method_10_code, 3, some (Jvm.ClassFile.FieldType.int), 108, 1, (1052, 1050, 1051, 77))
def xi_120 : List XIn := [(0, .iload_n 0, 0, 0),
  (1, .iconst 0, 0, 0),
  (2, .sipush 255, 0, 0),
  (5, .invokestatic 75, 112, 891),
  (8, .ireturn, 0, 0)]
def xe_120 : XMe := ("BetweenThisAndThatModel", ⟨"BetweenThisAndThatModel", "isByte", "(I)Z"⟩, prog_10_method_11_code, 1, some (Jvm.ClassFile.FieldType.boolean), 0, 1, (1059, 1058, 0, 77))
def xi_121 : List XIn := [(0, .iload_n 1, 0, 0),
  (1, .iconst 1, 0, 0),
  (2, .iconst 5, 0, 0),
  (3, .invokestatic 75, 112, 891),
  (6, .ifCond .eq 41, 0, 0),
  (9, .iload_n 2, 0, 0),
  (10, .invokestatic 91, 120, 1057),
  (13, .ifCond .eq 34, 0, 0),
  (16, .iload_n 3, 0, 0),
  (17, .invokestatic 91, 120, 1057),
  (20, .ifCond .eq 27, 0, 0),
  (23, .iload 4, 0, 0),
  (25, .invokestatic 91, 120, 1057),
  (28, .ifCond .eq 19, 0, 0),
  (31, .iload 5, 0, 0),
  (33, .invokestatic 91, 120, 1057),
  (36, .ifCond .eq 11, 0, 0),
  (39, .iload 6, 0, 0),
  (41, .invokestatic 91, 120, 1057),
  (44, .ifCond .ne 6, 0, 0),
  (47, .bipush (-2), 0, 0),
  (49, .ireturn, 0, 0),
  (50, .aload_n 0, 0, 0),
  (51, .getfield 64, 54, 936),
  (54, .iload_n 1, 0, 0),
  (55, .iadd, 0, 0),
  (56, .sipush 160, 0, 0),
  (59, .if_icmp .le 6, 0, 0),
  (62, .bipush (-4), 0, 0),
  (64, .ireturn, 0, 0),
  (65, .iconst 0, 0, 0),
  (66, .istore 7, 0, 0),
  (68, .iload 7, 0, 0),
  (70, .iload_n 1, 0, 0),
  (71, .if_icmp .ge 71, 0, 0),
  (74, .aload_n 0, 0, 0),
  (75, .getfield 16, 53, 935),
  (78, .aload_n 0, 0, 0),
  (79, .getfield 64, 54, 936),
  (82, .iload 7, 0, 0),
  (84, .ifCond .ne 7, 0, 0),
  (87, .iload_n 2, 0, 0),
  (88, .goto 37, 0, 0),
  (91, .iload 7, 0, 0),
  (93, .iconst 1, 0, 0),
  (94, .if_icmp .ne 7, 0, 0),
  (97, .iload_n 3, 0, 0),
  (98, .goto 27, 0, 0),
  (101, .iload 7, 0, 0),
  (103, .iconst 2, 0, 0),
  (104, .if_icmp .ne 8, 0, 0),
  (107, .iload 4, 0, 0),
  (109, .goto 16, 0, 0),
  (112, .iload 7, 0, 0),
  (114, .iconst 3, 0, 0),
  (115, .if_icmp .ne 8, 0, 0),
  (118, .iload 5, 0, 0),
  (120, .goto 5, 0, 0),
  (123, .iload 6, 0, 0),
  (125, .iastore, 0, 0),
  (126, .aload_n 0, 0, 0),
  (127, .dup, 0, 0),
  (128, .getfield 64, 54, 936),
  (131, .iconst 1, 0, 0),
  (132, .iadd, 0, 0),
  (133, .putfield 64, 54, 936),
  (136, .iinc 7 1, 0, 0),
  (139, .goto (-71), 0, 0),
  (142, .aload_n 0, 0, 0),
  (143, .getfield 64, 54, 936),
  (146, .ireturn, 0, 0)]
def xe_121 : XMe := ("BetweenThisAndThatModel", ⟨"BetweenThisAndThatModel", "feed", "(IIIIII)I"⟩, prog_10_method_12_code, 8, some (Jvm.ClassFile.FieldType.int), 108, 6, (1056, 1054, 1055, 77))
def xi_122 : List XIn := [(0, .iconst 0, 0, 0),
  (1, .istore_n 3, 0, 0),
  (2, .iload_n 3, 0, 0),
  (3, .bipush 12, 0, 0),
  (5, .if_icmp .ge 96, 0, 0),
  (8, .iload_n 2, 0, 0),
  (9, .iload_n 1, 0, 0),
  (10, .isub, 0, 0),
  (11, .bipush 8, 0, 0),
  (13, .if_icmp .gt 7, 0, 0),
  (16, .iconst 1, 0, 0),
  (17, .goto 4, 0, 0),
  (20, .iconst 0, 0, 0),
  (21, .istore 4, 0, 0),
  (23, .iconst 0, 0, 0),
  (24, .istore 5, 0, 0),
  (26, .iload 5, 0, 0),
  (28, .bipush 8, 0, 0),
  (30, .if_icmp .ge 58, 0, 0),
  (33, .iload 4, 0, 0),
  (35, .ifCond .eq 53, 0, 0),
  (38, .aload_n 0, 0, 0),
  (39, .getfield 40, 73, 955),
  (42, .bipush 8, 0, 0),
  (44, .iload_n 3, 0, 0),
  (45, .imul, 0, 0),
  (46, .iload 5, 0, 0),
  (48, .iadd, 0, 0),
  (49, .iaload, 0, 0),
  (50, .iload_n 1, 0, 0),
  (51, .iload 5, 0, 0),
  (53, .iadd, 0, 0),
  (54, .iload_n 2, 0, 0),
  (55, .if_icmp .ge 15, 0, 0),
  (58, .aload_n 0, 0, 0),
  (59, .getfield 16, 53, 935),
  (62, .iload_n 1, 0, 0),
  (63, .iload 5, 0, 0),
  (65, .iadd, 0, 0),
  (66, .iaload, 0, 0),
  (67, .goto 5, 0, 0),
  (70, .bipush 32, 0, 0),
  (72, .if_icmp .ne 7, 0, 0),
  (75, .iconst 1, 0, 0),
  (76, .goto 4, 0, 0),
  (79, .iconst 0, 0, 0),
  (80, .istore 4, 0, 0),
  (82, .iinc 5 1, 0, 0),
  (85, .goto (-59), 0, 0),
  (88, .iload 4, 0, 0),
  (90, .ifCond .eq 5, 0, 0),
  (93, .iload_n 3, 0, 0),
  (94, .ireturn, 0, 0),
  (95, .iinc 3 1, 0, 0),
  (98, .goto (-96), 0, 0),
  (101, .bipush 12, 0, 0),
  (103, .ireturn, 0, 0)]
def xe_122 : XMe := ("BetweenThisAndThatModel", ⟨"BetweenThisAndThatModel", "wordFrom", "(II)I"⟩, prog_10_method_13_code, 6, some (Jvm.ClassFile.FieldType.int), 108, 2, (897, 896, 29, 77))
def xi_123 : List XIn := [(0, .aload_n 0, 0, 0),
  (1, .getfield 95, 69, 951),
  (4, .aload_n 0, 0, 0),
  (5, .getfield 64, 54, 936),
  (8, .if_icmp .ge 44, 0, 0),
  (11, .aload_n 0, 0, 0),
  (12, .getfield 16, 53, 935),
  (15, .aload_n 0, 0, 0),
  (16, .getfield 95, 69, 951),
  (19, .iaload, 0, 0),
  (20, .bipush 32, 0, 0),
  (22, .if_icmp .eq 17, 0, 0),
  (25, .aload_n 0, 0, 0),
  (26, .getfield 16, 53, 935),
  (29, .aload_n 0, 0, 0),
  (30, .getfield 95, 69, 951),
  (33, .iaload, 0, 0),
  (34, .bipush 10, 0, 0),
  (36, .if_icmp .ne 16, 0, 0),
  (39, .aload_n 0, 0, 0),
  (40, .dup, 0, 0),
  (41, .getfield 95, 69, 951),
  (44, .iconst 1, 0, 0),
  (45, .iadd, 0, 0),
  (46, .putfield 95, 69, 951),
  (49, .goto (-49), 0, 0),
  (52, .aload_n 0, 0, 0),
  (53, .aload_n 0, 0, 0),
  (54, .getfield 95, 69, 951),
  (57, .putfield 98, 70, 952),
  (60, .aload_n 0, 0, 0),
  (61, .iconst 0, 0, 0),
  (62, .putfield 101, 71, 953),
  (65, .aload_n 0, 0, 0),
  (66, .iconst 0, 0, 0),
  (67, .putfield 104, 72, 954),
  (70, .aload_n 0, 0, 0),
  (71, .getfield 95, 69, 951),
  (74, .aload_n 0, 0, 0),
  (75, .getfield 64, 54, 936),
  (78, .if_icmp .ne 4, 0, 0),
  (81, .return_, 0, 0),
  (82, .aload_n 0, 0, 0),
  (83, .getfield 16, 53, 935),
  (86, .aload_n 0, 0, 0),
  (87, .getfield 95, 69, 951),
  (90, .iaload, 0, 0),
  (91, .istore_n 1, 0, 0),
  (92, .iload_n 1, 0, 0),
  (93, .bipush 97, 0, 0),
  (95, .bipush 122, 0, 0),
  (97, .invokestatic 75, 112, 891),
  (100, .ifCond .eq 117, 0, 0),
  (103, .aload_n 0, 0, 0),
  (104, .getfield 95, 69, 951),
  (107, .aload_n 0, 0, 0),
  (108, .getfield 64, 54, 936),
  (111, .if_icmp .ge 35, 0, 0),
  (114, .aload_n 0, 0, 0),
  (115, .getfield 16, 53, 935),
  (118, .aload_n 0, 0, 0),
  (119, .getfield 95, 69, 951),
  (122, .iaload, 0, 0),
  (123, .bipush 97, 0, 0),
  (125, .bipush 122, 0, 0),
  (127, .invokestatic 75, 112, 891),
  (130, .ifCond .eq 16, 0, 0),
  (133, .aload_n 0, 0, 0),
  (134, .dup, 0, 0),
  (135, .getfield 95, 69, 951),
  (138, .iconst 1, 0, 0),
  (139, .iadd, 0, 0),
  (140, .putfield 95, 69, 951),
  (143, .goto (-40), 0, 0),
  (146, .aload_n 0, 0, 0),
  (147, .aload_n 0, 0, 0),
  (148, .getfield 98, 70, 952),
  (151, .aload_n 0, 0, 0),
  (152, .getfield 95, 69, 951),
  (155, .invokevirtual 107, 122, 894),
  (158, .istore_n 2, 0, 0),
  (159, .aload_n 0, 0, 0),
  (160, .iload_n 2, 0, 0),
  (161, .iconst 3, 0, 0),
  (162, .if_icmp .ge 7, 0, 0),
  (165, .iconst 3, 0, 0),
  (166, .goto 29, 0, 0),
  (169, .iload_n 2, 0, 0),
  (170, .bipush 9, 0, 0),
  (172, .if_icmp .ge 7, 0, 0),
  (175, .iconst 2, 0, 0),
  (176, .goto 19, 0, 0),
  (179, .iload_n 2, 0, 0),
  (180, .bipush 12, 0, 0),
  (182, .if_icmp .ne 7, 0, 0),
  (185, .iconst (-1), 0, 0),
  (186, .goto 9, 0, 0),
  (189, .iconst 4, 0, 0),
  (190, .iload_n 2, 0, 0),
  (191, .iadd, 0, 0),
  (192, .bipush 9, 0, 0),
  (194, .isub, 0, 0),
  (195, .putfield 101, 71, 953),
  (198, .aload_n 0, 0, 0),
  (199, .iload_n 2, 0, 0),
  (200, .iconst 3, 0, 0),
  (201, .if_icmp .ge 7, 0, 0),
  (204, .iload_n 2, 0, 0),
  (205, .goto 6, 0, 0),
  (208, .iload_n 2, 0, 0),
  (209, .iconst 3, 0, 0),
  (210, .isub, 0, 0),
  (211, .putfield 104, 72, 954),
  (214, .goto 189, 0, 0),
  (217, .iload_n 1, 0, 0),
  (218, .bipush 48, 0, 0),
  (220, .bipush 57, 0, 0),
  (222, .invokestatic 75, 112, 891),
  (225, .ifCond .eq 101, 0, 0),
  (228, .iconst 0, 0, 0),
  (229, .istore_n 2, 0, 0),
  (230, .aload_n 0, 0, 0),
  (231, .getfield 95, 69, 951),
  (234, .aload_n 0, 0, 0),
  (235, .getfield 64, 54, 936),
  (238, .if_icmp .ge 71, 0, 0),
  (241, .aload_n 0, 0, 0),
  (242, .getfield 16, 53, 935),
  (245, .aload_n 0, 0, 0),
  (246, .getfield 95, 69, 951),
  (249, .iaload, 0, 0),
  (250, .bipush 48, 0, 0),
  (252, .bipush 57, 0, 0),
  (254, .invokestatic 75, 112, 891),
  (257, .ifCond .eq 52, 0, 0),
  (260, .aload_n 0, 0, 0),
  (261, .iload_n 2, 0, 0),
  (262, .iconst 4, 0, 0),
  (263, .if_icmp .ge 26, 0, 0),
  (266, .bipush 10, 0, 0),
  (268, .aload_n 0, 0, 0),
  (269, .getfield 104, 72, 954),
  (272, .imul, 0, 0),
  (273, .aload_n 0, 0, 0),
  (274, .getfield 16, 53, 935),
  (277, .aload_n 0, 0, 0),
  (278, .getfield 95, 69, 951),
  (281, .iaload, 0, 0),
  (282, .iadd, 0, 0),
  (283, .bipush 48, 0, 0),
  (285, .isub, 0, 0),
  (286, .goto 4, 0, 0),
  (289, .iconst 0, 0, 0),
  (290, .putfield 104, 72, 954),
  (293, .iinc 2 1, 0, 0),
  (296, .aload_n 0, 0, 0),
  (297, .dup, 0, 0),
  (298, .getfield 95, 69, 951),
  (301, .iconst 1, 0, 0),
  (302, .iadd, 0, 0),
  (303, .putfield 95, 69, 951),
  (306, .goto (-76), 0, 0),
  (309, .aload_n 0, 0, 0),
  (310, .iload_n 2, 0, 0),
  (311, .iconst 4, 0, 0),
  (312, .if_icmp .le 7, 0, 0),
  (315, .iconst (-1), 0, 0),
  (316, .goto 4, 0, 0),
  (319, .iconst 1, 0, 0),
  (320, .putfield 101, 71, 953),
  (323, .goto 80, 0, 0),
  (326, .iload_n 1, 0, 0),
  (327, .bipush 40, 0, 0),
  (329, .if_icmp .eq 45, 0, 0),
  (332, .iload_n 1, 0, 0),
  (333, .bipush 41, 0, 0),
  (335, .if_icmp .eq 39, 0, 0),
  (338, .iload_n 1, 0, 0),
  (339, .bipush 59, 0, 0),
  (341, .if_icmp .eq 33, 0, 0),
  (344, .iload_n 1, 0, 0),
  (345, .bipush 43, 0, 0),
  (347, .if_icmp .eq 27, 0, 0),
  (350, .iload_n 1, 0, 0),
  (351, .bipush 45, 0, 0),
  (353, .if_icmp .eq 21, 0, 0),
  (356, .iload_n 1, 0, 0),
  (357, .bipush 42, 0, 0),
  (359, .if_icmp .eq 15, 0, 0),
  (362, .iload_n 1, 0, 0),
  (363, .bipush 60, 0, 0),
  (365, .if_icmp .eq 9, 0, 0),
  (368, .iload_n 1, 0, 0),
  (369, .bipush 61, 0, 0),
  (371, .if_icmp .ne 7, 0, 0),
  (374, .iconst 1, 0, 0),
  (375, .goto 4, 0, 0),
  (378, .iconst 0, 0, 0),
  (379, .istore_n 2, 0, 0),
  (380, .aload_n 0, 0, 0),
  (381, .iload_n 2, 0, 0),
  (382, .ifCond .eq 7, 0, 0),
  (385, .iload_n 1, 0, 0),
  (386, .goto 4, 0, 0),
  (389, .iconst (-1), 0, 0),
  (390, .putfield 101, 71, 953),
  (393, .aload_n 0, 0, 0),
  (394, .dup, 0, 0),
  (395, .getfield 95, 69, 951),
  (398, .iconst 1, 0, 0),
  (399, .iadd, 0, 0),
  (400, .putfield 95, 69, 951),
  (403, .return_, 0, 0)]
def xe_123 : XMe := ("BetweenThisAndThatModel", ⟨"BetweenThisAndThatModel", "next", "()V"⟩, prog_10_method_14_code, 3, none, 108, 0, (890, 889, 28, 77))
def xi_124 : List XIn := [(0, .iload_n 0, 0, 0),
  (1, .ifCond .ne 7, 0, 0),
  (4, .iconst 0, 0, 0),
  (5, .goto 66, 0, 0),
  (8, .iload_n 0, 0, 0),
  (9, .bipush 11, 0, 0),
  (11, .if_icmp .ne 7, 0, 0),
  (14, .iconst 1, 0, 0),
  (15, .goto 56, 0, 0),
  (18, .iload_n 0, 0, 0),
  (19, .bipush 12, 0, 0),
  (21, .if_icmp .ne 7, 0, 0),
  (24, .iconst 2, 0, 0),
  (25, .goto 46, 0, 0),
  (28, .iload_n 0, 0, 0),
  (29, .bipush 13, 0, 0),
  (31, .if_icmp .ne 7, 0, 0),
  (34, .iconst 3, 0, 0),
  (35, .goto 36, 0, 0),
  (38, .iload_n 0, 0, 0),
  (39, .bipush 15, 0, 0),
  (41, .if_icmp .gt 7, 0, 0),
  (44, .iconst 4, 0, 0),
  (45, .goto 26, 0, 0),
  (48, .iload_n 0, 0, 0),
  (49, .bipush 17, 0, 0),
  (51, .if_icmp .gt 7, 0, 0),
  (54, .iconst 5, 0, 0),
  (55, .goto 16, 0, 0),
  (58, .iload_n 0, 0, 0),
  (59, .bipush 18, 0, 0),
  (61, .if_icmp .ne 8, 0, 0),
  (64, .bipush 6, 0, 0),
  (66, .goto 5, 0, 0),
  (69, .bipush 7, 0, 0),
  (71, .ireturn, 0, 0)]
def xe_124 : XMe := ("BetweenThisAndThatModel", ⟨"BetweenThisAndThatModel", "rank", "(I)I"⟩, prog_10_method_15_code, 1, some (Jvm.ClassFile.FieldType.int), 0, 1, (913, 912, 0, 77))
def xi_125 : List XIn := [(0, .aload_n 0, 0, 0),
  (1, .getfield 19, 55, 937),
  (4, .sipush 200, 0, 0),
  (7, .aload_n 0, 0, 0),
  (8, .getfield 79, 57, 939),
  (11, .imul, 0, 0),
  (12, .aload_n 0, 0, 0),
  (13, .getfield 111, 77, 959),
  (16, .iadd, 0, 0),
  (17, .iload_n 1, 0, 0),
  (18, .iastore, 0, 0),
  (19, .aload_n 0, 0, 0),
  (20, .dup, 0, 0),
  (21, .getfield 111, 77, 959),
  (24, .iconst 1, 0, 0),
  (25, .iadd, 0, 0),
  (26, .putfield 111, 77, 959),
  (29, .return_, 0, 0)]
def xe_125 : XMe := ("BetweenThisAndThatModel", ⟨"BetweenThisAndThatModel", "puts", "(I)V"⟩, prog_10_method_16_code, 2, none, 108, 1, (906, 905, 31, 77))
def xi_126 : List XIn := [(0, .aload_n 0, 0, 0),
  (1, .getfield 114, 75, 957),
  (4, .ifCond .le 75, 0, 0),
  (7, .aload_n 0, 0, 0),
  (8, .getfield 43, 74, 956),
  (11, .aload_n 0, 0, 0),
  (12, .getfield 114, 75, 957),
  (15, .iconst 1, 0, 0),
  (16, .isub, 0, 0),
  (17, .iaload, 0, 0),
  (18, .invokestatic 117, 124, 911),
  (21, .iload_n 1, 0, 0),
  (22, .if_icmp .lt 57, 0, 0),
  (25, .aload_n 0, 0, 0),
  (26, .dup, 0, 0),
  (27, .getfield 114, 75, 957),
  (30, .iconst 1, 0, 0),
  (31, .isub, 0, 0),
  (32, .putfield 114, 75, 957),
  (35, .aload_n 0, 0, 0),
  (36, .getfield 43, 74, 956),
  (39, .aload_n 0, 0, 0),
  (40, .getfield 114, 75, 957),
  (43, .iaload, 0, 0),
  (44, .istore_n 2, 0, 0),
  (45, .aload_n 0, 0, 0),
  (46, .dup, 0, 0),
  (47, .getfield 121, 76, 958),
  (50, .iload_n 2, 0, 0),
  (51, .bipush 13, 0, 0),
  (53, .if_icmp .eq 9, 0, 0),
  (56, .iload_n 2, 0, 0),
  (57, .bipush 19, 0, 0),
  (59, .if_icmp .ne 7, 0, 0),
  (62, .iconst 1, 0, 0),
  (63, .goto 4, 0, 0),
  (66, .iconst 0, 0, 0),
  (67, .isub, 0, 0),
  (68, .putfield 121, 76, 958),
  (71, .aload_n 0, 0, 0),
  (72, .iload_n 2, 0, 0),
  (73, .invokevirtual 124, 125, 903),
  (76, .goto (-76), 0, 0),
  (79, .return_, 0, 0)]
def xe_126 : XMe := ("BetweenThisAndThatModel", ⟨"BetweenThisAndThatModel", "unwinds", "(I)V"⟩, prog_10_method_17_code, 3, none, 108, 1, (910, 909, 32, 77))
def xi_127 : List XIn := [(0, .aload_n 0, 0, 0),
  (1, .getfield 43, 74, 956),
  (4, .aload_n 0, 0, 0),
  (5, .getfield 114, 75, 957),
  (8, .iload_n 1, 0, 0),
  (9, .iastore, 0, 0),
  (10, .aload_n 0, 0, 0),
  (11, .dup, 0, 0),
  (12, .getfield 114, 75, 957),
  (15, .iconst 1, 0, 0),
  (16, .iadd, 0, 0),
  (17, .putfield 114, 75, 957),
  (20, .return_, 0, 0)]
def xe_127 : XMe := ("BetweenThisAndThatModel", ⟨"BetweenThisAndThatModel", "holds", "(I)V"⟩, prog_10_method_18_code, 2, none, 108, 1, (921, 920, 34, 77))
def xi_128 : List XIn := [(0, .aload_n 0, 0, 0),
  (1, .getfield 121, 76, 958),
  (4, .iconst 5, 0, 0),
  (5, .if_icmp .ne 5, 0, 0),
  (8, .iconst 0, 0, 0),
  (9, .ireturn, 0, 0),
  (10, .aload_n 0, 0, 0),
  (11, .dup, 0, 0),
  (12, .getfield 121, 76, 958),
  (15, .iconst 1, 0, 0),
  (16, .iadd, 0, 0),
  (17, .putfield 121, 76, 958),
  (20, .aload_n 0, 0, 0),
  (21, .iload_n 1, 0, 0),
  (22, .invokevirtual 128, 127, 918),
  (25, .iconst 1, 0, 0),
  (26, .ireturn, 0, 0)]
def xe_128 : XMe := ("BetweenThisAndThatModel", ⟨"BetweenThisAndThatModel", "opensOne", "(I)Z"⟩, prog_10_method_19_code, 2, some (Jvm.ClassFile.FieldType.boolean), 108, 1, (917, 916, 33, 77))
def xi_129 : List XIn := [(0, .aload_n 0, 0, 0),
  (1, .iload_n 1, 0, 0),
  (2, .invokestatic 117, 124, 911),
  (5, .iconst 4, 0, 0),
  (6, .if_icmp .ne 7, 0, 0),
  (9, .iconst 5, 0, 0),
  (10, .goto 7, 0, 0),
  (13, .iload_n 1, 0, 0),
  (14, .invokestatic 117, 124, 911),
  (17, .invokevirtual 131, 126, 907),
  (20, .iload_n 1, 0, 0),
  (21, .invokestatic 117, 124, 911),
  (24, .iconst 4, 0, 0),
  (25, .if_icmp .ne 30, 0, 0),
  (28, .aload_n 0, 0, 0),
  (29, .getfield 114, 75, 957),
  (32, .ifCond .le 23, 0, 0),
  (35, .aload_n 0, 0, 0),
  (36, .getfield 43, 74, 956),
  (39, .aload_n 0, 0, 0),
  (40, .getfield 114, 75, 957),
  (43, .iconst 1, 0, 0),
  (44, .isub, 0, 0),
  (45, .iaload, 0, 0),
  (46, .invokestatic 117, 124, 911),
  (49, .iconst 4, 0, 0),
  (50, .if_icmp .ne 5, 0, 0),
  (53, .iconst 0, 0, 0),
  (54, .ireturn, 0, 0),
  (55, .aload_n 0, 0, 0),
  (56, .iload_n 1, 0, 0),
  (57, .invokevirtual 128, 127, 918),
  (60, .iconst 1, 0, 0),
  (61, .ireturn, 0, 0)]
def xe_129 : XMe := ("BetweenThisAndThatModel", ⟨"BetweenThisAndThatModel", "between", "(I)Z"⟩, prog_10_method_20_code, 2, some (Jvm.ClassFile.FieldType.boolean), 108, 1, (929, 928, 36, 77))
def xi_130 : List XIn := [(0, .aload_n 0, 0, 0),
  (1, .getfield 101, 71, 953),
  (4, .iconst 4, 0, 0),
  (5, .if_icmp .ne 8, 0, 0),
  (8, .bipush 11, 0, 0),
  (10, .goto 87, 0, 0),
  (13, .aload_n 0, 0, 0),
  (14, .getfield 101, 71, 953),
  (17, .iconst 5, 0, 0),
  (18, .if_icmp .ne 8, 0, 0),
  (21, .bipush 12, 0, 0),
  (23, .goto 74, 0, 0),
  (26, .aload_n 0, 0, 0),
  (27, .getfield 101, 71, 953),
  (30, .bipush 60, 0, 0),
  (32, .if_icmp .ne 8, 0, 0),
  (35, .bipush 14, 0, 0),
  (37, .goto 60, 0, 0),
  (40, .aload_n 0, 0, 0),
  (41, .getfield 101, 71, 953),
  (44, .bipush 61, 0, 0),
  (46, .if_icmp .ne 8, 0, 0),
  (49, .bipush 15, 0, 0),
  (51, .goto 46, 0, 0),
  (54, .aload_n 0, 0, 0),
  (55, .getfield 101, 71, 953),
  (58, .bipush 43, 0, 0),
  (60, .if_icmp .ne 8, 0, 0),
  (63, .bipush 16, 0, 0),
  (65, .goto 32, 0, 0),
  (68, .aload_n 0, 0, 0),
  (69, .getfield 101, 71, 953),
  (72, .bipush 45, 0, 0),
  (74, .if_icmp .ne 8, 0, 0),
  (77, .bipush 17, 0, 0),
  (79, .goto 18, 0, 0),
  (82, .aload_n 0, 0, 0),
  (83, .getfield 101, 71, 953),
  (86, .bipush 42, 0, 0),
  (88, .if_icmp .ne 8, 0, 0),
  (91, .bipush 18, 0, 0),
  (93, .goto 4, 0, 0),
  (96, .iconst (-1), 0, 0),
  (97, .ireturn, 0, 0)]
def xe_130 : XMe := ("BetweenThisAndThatModel", ⟨"BetweenThisAndThatModel", "signOf", "()I"⟩, prog_10_method_21_code, 1, some (Jvm.ClassFile.FieldType.int), 108, 0, (925, 924, 35, 77))
def xi_131 : List XIn := [(0, .aload_n 0, 0, 0),
  (1, .iconst 0, 0, 0),
  (2, .putfield 114, 75, 957),
  (5, .aload_n 0, 0, 0),
  (6, .iconst 0, 0, 0),
  (7, .putfield 121, 76, 958),
  (10, .iconst 1, 0, 0),
  (11, .istore_n 1, 0, 0),
  (12, .iconst 1, 0, 0),
  (13, .istore_n 2, 0, 0),
  (14, .aload_n 0, 0, 0),
  (15, .invokevirtual 134, 123, 887),
  (18, .iload_n 1, 0, 0),
  (19, .ifCond .eq 131, 0, 0),
  (22, .aload_n 0, 0, 0),
  (23, .getfield 101, 71, 953),
  (26, .iconst 1, 0, 0),
  (27, .if_icmp .eq 11, 0, 0),
  (30, .aload_n 0, 0, 0),
  (31, .getfield 101, 71, 953),
  (34, .iconst 2, 0, 0),
  (35, .if_icmp .ne 40, 0, 0),
  (38, .aload_n 0, 0, 0),
  (39, .aload_n 0, 0, 0),
  (40, .getfield 101, 71, 953),
  (43, .iconst 1, 0, 0),
  (44, .if_icmp .ne 13, 0, 0),
  (47, .ldc 137, 0, 902),
  (49, .aload_n 0, 0, 0),
  (50, .getfield 104, 72, 954),
  (53, .iadd, 0, 0),
  (54, .goto 7, 0, 0),
  (57, .aload_n 0, 0, 0),
  (58, .getfield 104, 72, 954),
  (61, .invokevirtual 124, 125, 903),
  (64, .aload_n 0, 0, 0),
  (65, .bipush 7, 0, 0),
  (67, .invokevirtual 131, 126, 907),
  (70, .iconst 0, 0, 0),
  (71, .istore_n 1, 0, 0),
  (72, .goto (-58), 0, 0),
  (75, .aload_n 0, 0, 0),
  (76, .getfield 101, 71, 953),
  (79, .bipush 6, 0, 0),
  (81, .if_icmp .ne 18, 0, 0),
  (84, .iload_n 2, 0, 0),
  (85, .ifCond .eq 14, 0, 0),
  (88, .aload_n 0, 0, 0),
  (89, .bipush 13, 0, 0),
  (91, .invokevirtual 138, 128, 914),
  (94, .ifCond .ne (-80), 0, 0),
  (97, .iconst 0, 0, 0),
  (98, .ireturn, 0, 0),
  (99, .aload_n 0, 0, 0),
  (100, .getfield 101, 71, 953),
  (103, .bipush 45, 0, 0),
  (105, .if_icmp .ne 19, 0, 0),
  (108, .aload_n 0, 0, 0),
  (109, .bipush 19, 0, 0),
  (111, .invokevirtual 138, 128, 914),
  (114, .ifCond .ne 5, 0, 0),
  (117, .iconst 0, 0, 0),
  (118, .ireturn, 0, 0),
  (119, .iconst 0, 0, 0),
  (120, .istore_n 2, 0, 0),
  (121, .goto (-107), 0, 0),
  (124, .aload_n 0, 0, 0),
  (125, .getfield 101, 71, 953),
  (128, .bipush 40, 0, 0),
  (130, .if_icmp .ne 18, 0, 0),
  (133, .aload_n 0, 0, 0),
  (134, .iconst 0, 0, 0),
  (135, .invokevirtual 138, 128, 914),
  (138, .ifCond .ne 5, 0, 0),
  (141, .iconst 0, 0, 0),
  (142, .ireturn, 0, 0),
  (143, .iconst 1, 0, 0),
  (144, .istore_n 2, 0, 0),
  (145, .goto (-131), 0, 0),
  (148, .iconst 0, 0, 0),
  (149, .ireturn, 0, 0),
  (150, .aload_n 0, 0, 0),
  (151, .getfield 101, 71, 953),
  (154, .bipush 59, 0, 0),
  (156, .if_icmp .ne 21, 0, 0),
  (159, .aload_n 0, 0, 0),
  (160, .iconst 1, 0, 0),
  (161, .invokevirtual 131, 126, 907),
  (164, .aload_n 0, 0, 0),
  (165, .getfield 114, 75, 957),
  (168, .ifCond .ne 7, 0, 0),
  (171, .iconst 1, 0, 0),
  (172, .goto 4, 0, 0),
  (175, .iconst 0, 0, 0),
  (176, .ireturn, 0, 0),
  (177, .aload_n 0, 0, 0),
  (178, .getfield 101, 71, 953),
  (181, .bipush 41, 0, 0),
  (183, .if_icmp .ne 46, 0, 0),
  (186, .aload_n 0, 0, 0),
  (187, .iconst 1, 0, 0),
  (188, .invokevirtual 131, 126, 907),
  (191, .aload_n 0, 0, 0),
  (192, .getfield 114, 75, 957),
  (195, .ifCond .ne 5, 0, 0),
  (198, .iconst 0, 0, 0),
  (199, .ireturn, 0, 0),
  (200, .aload_n 0, 0, 0),
  (201, .dup, 0, 0),
  (202, .getfield 114, 75, 957),
  (205, .iconst 1, 0, 0),
  (206, .isub, 0, 0),
  (207, .putfield 114, 75, 957),
  (210, .aload_n 0, 0, 0),
  (211, .dup, 0, 0),
  (212, .getfield 121, 76, 958),
  (215, .iconst 1, 0, 0),
  (216, .isub, 0, 0),
  (217, .putfield 121, 76, 958),
  (220, .aload_n 0, 0, 0),
  (221, .bipush 7, 0, 0),
  (223, .invokevirtual 131, 126, 907),
  (226, .goto (-212), 0, 0),
  (229, .aload_n 0, 0, 0),
  (230, .invokevirtual 141, 130, 922),
  (233, .istore_n 3, 0, 0),
  (234, .iload_n 3, 0, 0),
  (235, .iconst (-1), 0, 0),
  (236, .if_icmp .eq 11, 0, 0),
  (239, .aload_n 0, 0, 0),
  (240, .iload_n 3, 0, 0),
  (241, .invokevirtual 144, 129, 926),
  (244, .ifCond .ne 5, 0, 0),
  (247, .iconst 0, 0, 0),
  (248, .ireturn, 0, 0),
  (249, .iconst 1, 0, 0),
  (250, .istore_n 1, 0, 0),
  (251, .iload_n 3, 0, 0),
  (252, .bipush 12, 0, 0),
  (254, .if_icmp .gt 7, 0, 0),
  (257, .iconst 1, 0, 0),
  (258, .goto 4, 0, 0),
  (261, .iconst 0, 0, 0),
  (262, .istore_n 2, 0, 0),
  (263, .goto (-249), 0, 0)]
def xe_131 : XMe := ("BetweenThisAndThatModel", ⟨"BetweenThisAndThatModel", "eRead", "()Z"⟩, prog_10_method_22_code, 4, some (Jvm.ClassFile.FieldType.boolean), 108, 0, (901, 900, 30, 77))
def xi_132 : List XIn := [(0, .aload_n 0, 0, 0),
  (1, .getfield 79, 57, 939),
  (4, .bipush 6, 0, 0),
  (6, .if_icmp .ne 6, 0, 0),
  (9, .bipush (-4), 0, 0),
  (11, .ireturn, 0, 0),
  (12, .aload_n 0, 0, 0),
  (13, .iconst 0, 0, 0),
  (14, .putfield 95, 69, 951),
  (17, .aload_n 0, 0, 0),
  (18, .iconst 0, 0, 0),
  (19, .putfield 111, 77, 959),
  (22, .iconst 1, 0, 0),
  (23, .istore_n 1, 0, 0),
  (24, .iconst 0, 0, 0),
  (25, .istore_n 2, 0, 0),
  (26, .iload_n 2, 0, 0),
  (27, .iconst 3, 0, 0),
  (28, .if_icmp .ge 73, 0, 0),
  (31, .iload_n 1, 0, 0),
  (32, .ifCond .eq 69, 0, 0),
  (35, .aload_n 0, 0, 0),
  (36, .invokevirtual 134, 123, 887),
  (39, .aload_n 0, 0, 0),
  (40, .getfield 101, 71, 953),
  (43, .iconst 3, 0, 0),
  (44, .if_icmp .ne 15, 0, 0),
  (47, .aload_n 0, 0, 0),
  (48, .getfield 104, 72, 954),
  (51, .iload_n 2, 0, 0),
  (52, .if_icmp .ne 7, 0, 0),
  (55, .iconst 1, 0, 0),
  (56, .goto 4, 0, 0),
  (59, .iconst 0, 0, 0),
  (60, .istore_n 1, 0, 0),
  (61, .aload_n 0, 0, 0),
  (62, .getfield 22, 56, 938),
  (65, .iconst 4, 0, 0),
  (66, .aload_n 0, 0, 0),
  (67, .getfield 79, 57, 939),
  (70, .imul, 0, 0),
  (71, .iload_n 2, 0, 0),
  (72, .iadd, 0, 0),
  (73, .aload_n 0, 0, 0),
  (74, .getfield 111, 77, 959),
  (77, .iastore, 0, 0),
  (78, .iload_n 1, 0, 0),
  (79, .ifCond .eq 14, 0, 0),
  (82, .aload_n 0, 0, 0),
  (83, .invokevirtual 147, 131, 898),
  (86, .ifCond .eq 7, 0, 0),
  (89, .iconst 1, 0, 0),
  (90, .goto 4, 0, 0),
  (93, .iconst 0, 0, 0),
  (94, .istore_n 1, 0, 0),
  (95, .iinc 2 1, 0, 0),
  (98, .goto (-72), 0, 0),
  (101, .iload_n 1, 0, 0),
  (102, .ifCond .eq 20, 0, 0),
  (105, .aload_n 0, 0, 0),
  (106, .invokevirtual 134, 123, 887),
  (109, .aload_n 0, 0, 0),
  (110, .getfield 101, 71, 953),
  (113, .ifCond .ne 7, 0, 0),
  (116, .iconst 1, 0, 0),
  (117, .goto 4, 0, 0),
  (120, .iconst 0, 0, 0),
  (121, .istore_n 1, 0, 0),
  (122, .aload_n 0, 0, 0),
  (123, .getfield 22, 56, 938),
  (126, .iconst 4, 0, 0),
  (127, .aload_n 0, 0, 0),
  (128, .getfield 79, 57, 939),
  (131, .imul, 0, 0),
  (132, .iconst 3, 0, 0),
  (133, .iadd, 0, 0),
  (134, .aload_n 0, 0, 0),
  (135, .getfield 111, 77, 959),
  (138, .iastore, 0, 0),
  (139, .aload_n 0, 0, 0),
  (140, .iconst 0, 0, 0),
  (141, .putfield 64, 54, 936),
  (144, .iload_n 1, 0, 0),
  (145, .ifCond .ne 11, 0, 0),
  (148, .bipush (-100), 0, 0),
  (150, .aload_n 0, 0, 0),
  (151, .getfield 98, 70, 952),
  (154, .isub, 0, 0),
  (155, .ireturn, 0, 0),
  (156, .aload_n 0, 0, 0),
  (157, .dup, 0, 0),
  (158, .getfield 79, 57, 939),
  (161, .iconst 1, 0, 0),
  (162, .iadd, 0, 0),
  (163, .putfield 79, 57, 939),
  (166, .aload_n 0, 0, 0),
  (167, .getfield 79, 57, 939),
  (170, .iconst 1, 0, 0),
  (171, .isub, 0, 0),
  (172, .ireturn, 0, 0)]
def xe_132 : XMe := ("BetweenThisAndThatModel", ⟨"BetweenThisAndThatModel", "text", "()I"⟩, prog_10_method_23_code, 3, some (Jvm.ClassFile.FieldType.int), 108, 0, (886, 884, 885, 77))
def xi_133 : List XIn := [(0, .iload_n 0, 0, 0),
  (1, .tableswitch 101 11 17 #[43, 57, 101, 71, 82, 93, 97], 0, 0),
  (44, .iload_n 1, 0, 0),
  (45, .ifCond .ne 7, 0, 0),
  (48, .iload_n 2, 0, 0),
  (49, .ifCond .eq 7, 0, 0),
  (52, .iconst 1, 0, 0),
  (53, .goto 4, 0, 0),
  (56, .iconst 0, 0, 0),
  (57, .ireturn, 0, 0),
  (58, .iload_n 1, 0, 0),
  (59, .ifCond .eq 11, 0, 0),
  (62, .iload_n 2, 0, 0),
  (63, .ifCond .eq 7, 0, 0),
  (66, .iconst 1, 0, 0),
  (67, .goto 4, 0, 0),
  (70, .iconst 0, 0, 0),
  (71, .ireturn, 0, 0),
  (72, .iload_n 1, 0, 0),
  (73, .iload_n 2, 0, 0),
  (74, .if_icmp .ge 7, 0, 0),
  (77, .iconst 1, 0, 0),
  (78, .goto 4, 0, 0),
  (81, .iconst 0, 0, 0),
  (82, .ireturn, 0, 0),
  (83, .iload_n 1, 0, 0),
  (84, .iload_n 2, 0, 0),
  (85, .if_icmp .ne 7, 0, 0),
  (88, .iconst 1, 0, 0),
  (89, .goto 4, 0, 0),
  (92, .iconst 0, 0, 0),
  (93, .ireturn, 0, 0),
  (94, .iload_n 1, 0, 0),
  (95, .iload_n 2, 0, 0),
  (96, .iadd, 0, 0),
  (97, .ireturn, 0, 0),
  (98, .iload_n 1, 0, 0),
  (99, .iload_n 2, 0, 0),
  (100, .isub, 0, 0),
  (101, .ireturn, 0, 0),
  (102, .iload_n 1, 0, 0),
  (103, .iload_n 2, 0, 0),
  (104, .imul, 0, 0),
  (105, .ireturn, 0, 0)]
def xe_133 : XMe := ("BetweenThisAndThatModel", ⟨"BetweenThisAndThatModel", "two", "(III)I"⟩, prog_10_method_24_code, 3, some (Jvm.ClassFile.FieldType.int), 0, 3, (1190, 1189, 0, 77))
def xi_134 : List XIn := [(0, .iconst 0, 0, 0),
  (1, .istore_n 2, 0, 0),
  (2, .aload_n 0, 0, 0),
  (3, .getfield 22, 56, 938),
  (6, .iconst 4, 0, 0),
  (7, .aload_n 0, 0, 0),
  (8, .getfield 88, 58, 940),
  (11, .imul, 0, 0),
  (12, .iload_n 1, 0, 0),
  (13, .iadd, 0, 0),
  (14, .iaload, 0, 0),
  (15, .istore_n 3, 0, 0),
  (16, .iload_n 3, 0, 0),
  (17, .aload_n 0, 0, 0),
  (18, .getfield 22, 56, 938),
  (21, .iconst 4, 0, 0),
  (22, .aload_n 0, 0, 0),
  (23, .getfield 88, 58, 940),
  (26, .imul, 0, 0),
  (27, .iload_n 1, 0, 0),
  (28, .iadd, 0, 0),
  (29, .iconst 1, 0, 0),
  (30, .iadd, 0, 0),
  (31, .iaload, 0, 0),
  (32, .if_icmp .ge 165, 0, 0),
  (35, .aload_n 0, 0, 0),
  (36, .getfield 19, 55, 937),
  (39, .sipush 200, 0, 0),
  (42, .aload_n 0, 0, 0),
  (43, .getfield 88, 58, 940),
  (46, .imul, 0, 0),
  (47, .iload_n 3, 0, 0),
  (48, .iadd, 0, 0),
  (49, .iaload, 0, 0),
  (50, .istore 4, 0, 0),
  (52, .iload 4, 0, 0),
  (54, .ldc 137, 0, 902),
  (56, .if_icmp .ge 10, 0, 0),
  (59, .iload 4, 0, 0),
  (61, .bipush 11, 0, 0),
  (63, .if_icmp .ge 37, 0, 0),
  (66, .aload_n 0, 0, 0),
  (67, .getfield 46, 78, 960),
  (70, .iload_n 2, 0, 0),
  (71, .iload 4, 0, 0),
  (73, .bipush 11, 0, 0),
  (75, .if_icmp .ge 13, 0, 0),
  (78, .aload_n 0, 0, 0),
  (79, .getfield 49, 79, 961),
  (82, .iload 4, 0, 0),
  (84, .iaload, 0, 0),
  (85, .goto 8, 0, 0),
  (88, .iload 4, 0, 0),
  (90, .ldc 137, 0, 902),
  (92, .isub, 0, 0),
  (93, .iastore, 0, 0),
  (94, .iinc 2 1, 0, 0),
  (97, .goto 94, 0, 0),
  (100, .iload 4, 0, 0),
  (102, .bipush 13, 0, 0),
  (104, .if_icmp .ne 30, 0, 0),
  (107, .aload_n 0, 0, 0),
  (108, .getfield 46, 78, 960),
  (111, .iload_n 2, 0, 0),
  (112, .iconst 1, 0, 0),
  (113, .isub, 0, 0),
  (114, .aload_n 0, 0, 0),
  (115, .getfield 46, 78, 960),
  (118, .iload_n 2, 0, 0),
  (119, .iconst 1, 0, 0),
  (120, .isub, 0, 0),
  (121, .iaload, 0, 0),
  (122, .ifCond .ne 7, 0, 0),
  (125, .iconst 1, 0, 0),
  (126, .goto 4, 0, 0),
  (129, .iconst 0, 0, 0),
  (130, .iastore, 0, 0),
  (131, .goto 60, 0, 0),
  (134, .iload 4, 0, 0),
  (136, .bipush 19, 0, 0),
  (138, .if_icmp .ne 23, 0, 0),
  (141, .aload_n 0, 0, 0),
  (142, .getfield 46, 78, 960),
  (145, .iload_n 2, 0, 0),
  (146, .iconst 1, 0, 0),
  (147, .isub, 0, 0),
  (148, .aload_n 0, 0, 0),
  (149, .getfield 46, 78, 960),
  (152, .iload_n 2, 0, 0),
  (153, .iconst 1, 0, 0),
  (154, .isub, 0, 0),
  (155, .iaload, 0, 0),
  (156, .ineg, 0, 0),
  (157, .iastore, 0, 0),
  (158, .goto 33, 0, 0),
  (161, .iinc 2 (-1), 0, 0),
  (164, .aload_n 0, 0, 0),
  (165, .getfield 46, 78, 960),
  (168, .iload_n 2, 0, 0),
  (169, .iconst 1, 0, 0),
  (170, .isub, 0, 0),
  (171, .iload 4, 0, 0),
  (173, .aload_n 0, 0, 0),
  (174, .getfield 46, 78, 960),
  (177, .iload_n 2, 0, 0),
  (178, .iconst 1, 0, 0),
  (179, .isub, 0, 0),
  (180, .iaload, 0, 0),
  (181, .aload_n 0, 0, 0),
  (182, .getfield 46, 78, 960),
  (185, .iload_n 2, 0, 0),
  (186, .iaload, 0, 0),
  (187, .invokestatic 151, 133, 1188),
  (190, .iastore, 0, 0),
  (191, .iinc 3 1, 0, 0),
  (194, .goto (-178), 0, 0),
  (197, .aload_n 0, 0, 0),
  (198, .getfield 46, 78, 960),
  (201, .iconst 0, 0, 0),
  (202, .iaload, 0, 0),
  (203, .ireturn, 0, 0)]
def xe_134 : XMe := ("BetweenThisAndThatModel", ⟨"BetweenThisAndThatModel", "says", "(I)I"⟩, prog_10_method_25_code, 5, some (Jvm.ClassFile.FieldType.int), 108, 1, (1187, 1186, 52, 77))
def xi_135 : List XIn := [(0, .iload_n 1, 0, 0),
  (1, .iconst 0, 0, 0),
  (2, .aload_n 0, 0, 0),
  (3, .getfield 79, 57, 939),
  (6, .iconst 1, 0, 0),
  (7, .isub, 0, 0),
  (8, .invokestatic 75, 112, 891),
  (11, .ifCond .ne 6, 0, 0),
  (14, .bipush (-2), 0, 0),
  (16, .ireturn, 0, 0),
  (17, .aload_n 0, 0, 0),
  (18, .getfield 88, 58, 940),
  (21, .istore_n 2, 0, 0),
  (22, .aload_n 0, 0, 0),
  (23, .iload_n 1, 0, 0),
  (24, .putfield 88, 58, 940),
  (27, .iload_n 2, 0, 0),
  (28, .ireturn, 0, 0)]
def xe_135 : XMe := ("BetweenThisAndThatModel", ⟨"BetweenThisAndThatModel", "force", "(I)I"⟩, prog_10_method_26_code, 3, some (Jvm.ClassFile.FieldType.int), 108, 1, (1064, 1062, 1063, 77))
def xi_136 : List XIn := [(0, .iload_n 1, 0, 0),
  (1, .iconst 0, 0, 0),
  (2, .bipush 59, 0, 0),
  (4, .invokestatic 75, 112, 891),
  (7, .ifCond .eq 37, 0, 0),
  (10, .iload_n 2, 0, 0),
  (11, .invokestatic 155, 115, 1069),
  (14, .ifCond .eq 30, 0, 0),
  (17, .iload_n 3, 0, 0),
  (18, .iconst 0, 0, 0),
  (19, .sipush 999, 0, 0),
  (22, .invokestatic 75, 112, 891),
  (25, .ifCond .eq 19, 0, 0),
  (28, .iload 4, 0, 0),
  (30, .iload_n 3, 0, 0),
  (31, .sipush 999, 0, 0),
  (34, .invokestatic 75, 112, 891),
  (37, .ifCond .eq 7, 0, 0),
  (40, .iconst 1, 0, 0),
  (41, .goto 4, 0, 0),
  (44, .iconst 0, 0, 0),
  (45, .istore 5, 0, 0),
  (47, .iload 5, 0, 0),
  (49, .ifCond .ne 6, 0, 0),
  (52, .bipush (-2), 0, 0),
  (54, .ireturn, 0, 0),
  (55, .aload_n 0, 0, 0),
  (56, .getfield 72, 48, 930),
  (59, .bipush 10, 0, 0),
  (61, .if_icmp .ne 6, 0, 0),
  (64, .bipush (-4), 0, 0),
  (66, .ireturn, 0, 0),
  (67, .aload_n 0, 0, 0),
  (68, .getfield 7, 49, 931),
  (71, .iconst 5, 0, 0),
  (72, .aload_n 0, 0, 0),
  (73, .getfield 72, 48, 930),
  (76, .imul, 0, 0),
  (77, .iload_n 1, 0, 0),
  (78, .bipush 10, 0, 0),
  (80, .idiv, 0, 0),
  (81, .iastore, 0, 0),
  (82, .aload_n 0, 0, 0),
  (83, .getfield 7, 49, 931),
  (86, .iconst 5, 0, 0),
  (87, .aload_n 0, 0, 0),
  (88, .getfield 72, 48, 930),
  (91, .imul, 0, 0),
  (92, .iconst 1, 0, 0),
  (93, .iadd, 0, 0),
  (94, .iload_n 2, 0, 0),
  (95, .iastore, 0, 0),
  (96, .aload_n 0, 0, 0),
  (97, .getfield 7, 49, 931),
  (100, .iconst 5, 0, 0),
  (101, .aload_n 0, 0, 0),
  (102, .getfield 72, 48, 930),
  (105, .imul, 0, 0),
  (106, .iconst 2, 0, 0),
  (107, .iadd, 0, 0),
  (108, .iload_n 3, 0, 0),
  (109, .iastore, 0, 0),
  (110, .aload_n 0, 0, 0),
  (111, .getfield 7, 49, 931),
  (114, .iconst 5, 0, 0),
  (115, .aload_n 0, 0, 0),
  (116, .getfield 72, 48, 930),
  (119, .imul, 0, 0),
  (120, .iconst 3, 0, 0),
  (121, .iadd, 0, 0),
  (122, .iload 4, 0, 0),
  (124, .iastore, 0, 0),
  (125, .aload_n 0, 0, 0),
  (126, .getfield 7, 49, 931),
  (129, .iconst 5, 0, 0),
  (130, .aload_n 0, 0, 0),
  (131, .getfield 72, 48, 930),
  (134, .imul, 0, 0),
  (135, .iconst 4, 0, 0),
  (136, .iadd, 0, 0),
  (137, .iload_n 1, 0, 0),
  (138, .bipush 10, 0, 0),
  (140, .irem, 0, 0),
  (141, .iastore, 0, 0),
  (142, .aload_n 0, 0, 0),
  (143, .dup, 0, 0),
  (144, .getfield 72, 48, 930),
  (147, .iconst 1, 0, 0),
  (148, .iadd, 0, 0),
  (149, .putfield 72, 48, 930),
  (152, .aload_n 0, 0, 0),
  (153, .getfield 72, 48, 930),
  (156, .iconst 1, 0, 0),
  (157, .isub, 0, 0),
  (158, .ireturn, 0, 0)]
def xe_136 : XMe := ("BetweenThisAndThatModel", ⟨"BetweenThisAndThatModel", "say", "(IIII)I"⟩, prog_10_method_27_code, 6, some (Jvm.ClassFile.FieldType.int), 108, 4, (1068, 1066, 1067, 77))
def xi_137 : List XIn := [(0, .aload_n 0, 0, 0),
  (1, .getfield 72, 48, 930),
  (4, .ifCond .ne 6, 0, 0),
  (7, .bipush (-3), 0, 0),
  (9, .ireturn, 0, 0),
  (10, .aload_n 0, 0, 0),
  (11, .dup, 0, 0),
  (12, .getfield 72, 48, 930),
  (15, .iconst 1, 0, 0),
  (16, .isub, 0, 0),
  (17, .putfield 72, 48, 930),
  (20, .aload_n 0, 0, 0),
  (21, .getfield 72, 48, 930),
  (24, .ireturn, 0, 0)]
def xe_137 : XMe := ("BetweenThisAndThatModel", ⟨"BetweenThisAndThatModel", "unsay", "()I"⟩, prog_10_method_28_code, 1, some (Jvm.ClassFile.FieldType.int), 108, 0, (1075, 1073, 1074, 77))
def xi_138 : List XIn := [(0, .aload_n 0, 0, 0),
  (1, .getfield 7, 49, 931),
  (4, .iconst 5, 0, 0),
  (5, .iload_n 1, 0, 0),
  (6, .imul, 0, 0),
  (7, .iconst 2, 0, 0),
  (8, .iadd, 0, 0),
  (9, .iaload, 0, 0),
  (10, .aload_n 0, 0, 0),
  (11, .getfield 7, 49, 931),
  (14, .iconst 5, 0, 0),
  (15, .iload_n 1, 0, 0),
  (16, .imul, 0, 0),
  (17, .iconst 3, 0, 0),
  (18, .iadd, 0, 0),
  (19, .iaload, 0, 0),
  (20, .iadd, 0, 0),
  (21, .iconst 2, 0, 0),
  (22, .idiv, 0, 0),
  (23, .ireturn, 0, 0)]
def xe_138 : XMe := ("BetweenThisAndThatModel", ⟨"BetweenThisAndThatModel", "middle", "(I)I"⟩, prog_10_method_29_code, 2, some (Jvm.ClassFile.FieldType.int), 108, 1, (1095, 1094, 40, 77))
def xi_139 : List XIn := [(0, .aload_n 0, 0, 0),
  (1, .getfield 7, 49, 931),
  (4, .iconst 5, 0, 0),
  (5, .iload_n 1, 0, 0),
  (6, .imul, 0, 0),
  (7, .iaload, 0, 0),
  (8, .iconst 4, 0, 0),
  (9, .if_icmp .ne 24, 0, 0),
  (12, .aload_n 0, 0, 0),
  (13, .getfield 85, 52, 934),
  (16, .aload_n 0, 0, 0),
  (17, .getfield 7, 49, 931),
  (20, .iconst 5, 0, 0),
  (21, .iload_n 1, 0, 0),
  (22, .imul, 0, 0),
  (23, .iconst 4, 0, 0),
  (24, .iadd, 0, 0),
  (25, .iaload, 0, 0),
  (26, .if_icmp .lt 7, 0, 0),
  (29, .iconst 1, 0, 0),
  (30, .goto 4, 0, 0),
  (33, .iconst 0, 0, 0),
  (34, .ireturn, 0, 0)]
def xe_139 : XMe := ("BetweenThisAndThatModel", ⟨"BetweenThisAndThatModel", "isExact", "(I)Z"⟩, prog_10_method_30_code, 2, some (Jvm.ClassFile.FieldType.boolean), 108, 1, (1091, 1090, 39, 77))
def xi_140 : List XIn := [(0, .aload_n 0, 0, 0),
  (1, .getfield 7, 49, 931),
  (4, .iconst 5, 0, 0),
  (5, .iload_n 1, 0, 0),
  (6, .imul, 0, 0),
  (7, .iaload, 0, 0),
  (8, .istore_n 2, 0, 0),
  (9, .aload_n 0, 0, 0),
  (10, .getfield 7, 49, 931),
  (13, .iconst 5, 0, 0),
  (14, .iload_n 1, 0, 0),
  (15, .imul, 0, 0),
  (16, .iconst 2, 0, 0),
  (17, .iadd, 0, 0),
  (18, .iaload, 0, 0),
  (19, .istore_n 3, 0, 0),
  (20, .aload_n 0, 0, 0),
  (21, .getfield 7, 49, 931),
  (24, .iconst 5, 0, 0),
  (25, .iload_n 1, 0, 0),
  (26, .imul, 0, 0),
  (27, .iconst 4, 0, 0),
  (28, .iadd, 0, 0),
  (29, .iaload, 0, 0),
  (30, .istore 4, 0, 0),
  (32, .iload_n 3, 0, 0),
  (33, .istore 5, 0, 0),
  (35, .iload_n 2, 0, 0),
  (36, .iconst 1, 0, 0),
  (37, .if_icmp .eq 8, 0, 0),
  (40, .iload_n 2, 0, 0),
  (41, .iconst 3, 0, 0),
  (42, .if_icmp .ne 23, 0, 0),
  (45, .iload_n 3, 0, 0),
  (46, .iload 4, 0, 0),
  (48, .isub, 0, 0),
  (49, .iload_n 2, 0, 0),
  (50, .iconst 3, 0, 0),
  (51, .if_icmp .ne 10, 0, 0),
  (54, .aload_n 0, 0, 0),
  (55, .getfield 85, 52, 934),
  (58, .goto 4, 0, 0),
  (61, .iconst 0, 0, 0),
  (62, .isub, 0, 0),
  (63, .istore 5, 0, 0),
  (65, .iload_n 2, 0, 0),
  (66, .iconst 2, 0, 0),
  (67, .if_icmp .eq 8, 0, 0),
  (70, .iload_n 2, 0, 0),
  (71, .iconst 4, 0, 0),
  (72, .if_icmp .ne 37, 0, 0),
  (75, .aload_n 0, 0, 0),
  (76, .iload_n 1, 0, 0),
  (77, .invokevirtual 158, 139, 1088),
  (80, .ifCond .ne 15, 0, 0),
  (83, .iload_n 3, 0, 0),
  (84, .iload 4, 0, 0),
  (86, .iadd, 0, 0),
  (87, .aload_n 0, 0, 0),
  (88, .iload_n 1, 0, 0),
  (89, .invokevirtual 161, 138, 1092),
  (92, .if_icmp .le 11, 0, 0),
  (95, .aload_n 0, 0, 0),
  (96, .iload_n 1, 0, 0),
  (97, .invokevirtual 161, 138, 1092),
  (100, .goto 7, 0, 0),
  (103, .iload_n 3, 0, 0),
  (104, .iload 4, 0, 0),
  (106, .iadd, 0, 0),
  (107, .istore 5, 0, 0),
  (109, .iload 5, 0, 0),
  (111, .iconst 0, 0, 0),
  (112, .sipush 999, 0, 0),
  (115, .invokestatic 164, 113, 1096),
  (118, .ireturn, 0, 0)]
def xe_140 : XMe := ("BetweenThisAndThatModel", ⟨"BetweenThisAndThatModel", "fromOf", "(I)I"⟩, prog_10_method_31_code, 6, some (Jvm.ClassFile.FieldType.int), 108, 1, (1087, 1086, 38, 77))
def xi_141 : List XIn := [(0, .aload_n 0, 0, 0),
  (1, .getfield 7, 49, 931),
  (4, .iconst 5, 0, 0),
  (5, .iload_n 1, 0, 0),
  (6, .imul, 0, 0),
  (7, .iaload, 0, 0),
  (8, .istore_n 2, 0, 0),
  (9, .aload_n 0, 0, 0),
  (10, .getfield 7, 49, 931),
  (13, .iconst 5, 0, 0),
  (14, .iload_n 1, 0, 0),
  (15, .imul, 0, 0),
  (16, .iconst 3, 0, 0),
  (17, .iadd, 0, 0),
  (18, .iaload, 0, 0),
  (19, .istore_n 3, 0, 0),
  (20, .aload_n 0, 0, 0),
  (21, .getfield 7, 49, 931),
  (24, .iconst 5, 0, 0),
  (25, .iload_n 1, 0, 0),
  (26, .imul, 0, 0),
  (27, .iconst 4, 0, 0),
  (28, .iadd, 0, 0),
  (29, .iaload, 0, 0),
  (30, .istore 4, 0, 0),
  (32, .iload_n 2, 0, 0),
  (33, .iconst 5, 0, 0),
  (34, .if_icmp .ne 9, 0, 0),
  (37, .sipush 999, 0, 0),
  (40, .goto 4, 0, 0),
  (43, .iload_n 3, 0, 0),
  (44, .istore 5, 0, 0),
  (46, .iload_n 2, 0, 0),
  (47, .iconst 1, 0, 0),
  (48, .if_icmp .eq 8, 0, 0),
  (51, .iload_n 2, 0, 0),
  (52, .iconst 3, 0, 0),
  (53, .if_icmp .ne 23, 0, 0),
  (56, .iload_n 3, 0, 0),
  (57, .iload 4, 0, 0),
  (59, .iadd, 0, 0),
  (60, .iload_n 2, 0, 0),
  (61, .iconst 3, 0, 0),
  (62, .if_icmp .ne 10, 0, 0),
  (65, .aload_n 0, 0, 0),
  (66, .getfield 85, 52, 934),
  (69, .goto 4, 0, 0),
  (72, .iconst 0, 0, 0),
  (73, .iadd, 0, 0),
  (74, .istore 5, 0, 0),
  (76, .iload_n 2, 0, 0),
  (77, .iconst 2, 0, 0),
  (78, .if_icmp .eq 8, 0, 0),
  (81, .iload_n 2, 0, 0),
  (82, .iconst 4, 0, 0),
  (83, .if_icmp .ne 37, 0, 0),
  (86, .aload_n 0, 0, 0),
  (87, .iload_n 1, 0, 0),
  (88, .invokevirtual 158, 139, 1088),
  (91, .ifCond .ne 15, 0, 0),
  (94, .iload_n 3, 0, 0),
  (95, .iload 4, 0, 0),
  (97, .isub, 0, 0),
  (98, .aload_n 0, 0, 0),
  (99, .iload_n 1, 0, 0),
  (100, .invokevirtual 161, 138, 1092),
  (103, .if_icmp .ge 11, 0, 0),
  (106, .aload_n 0, 0, 0),
  (107, .iload_n 1, 0, 0),
  (108, .invokevirtual 161, 138, 1092),
  (111, .goto 7, 0, 0),
  (114, .iload_n 3, 0, 0),
  (115, .iload 4, 0, 0),
  (117, .isub, 0, 0),
  (118, .istore 5, 0, 0),
  (120, .iload 5, 0, 0),
  (122, .iconst 0, 0, 0),
  (123, .sipush 999, 0, 0),
  (126, .invokestatic 164, 113, 1096),
  (129, .ireturn, 0, 0)]
def xe_141 : XMe := ("BetweenThisAndThatModel", ⟨"BetweenThisAndThatModel", "upTo", "(I)I"⟩, prog_10_method_32_code, 6, some (Jvm.ClassFile.FieldType.int), 108, 1, (1102, 1101, 41, 77))
def xi_142 : List XIn := [(0, .aload_n 0, 0, 0),
  (1, .iload_n 1, 0, 0),
  (2, .invokevirtual 167, 114, 1080),
  (5, .ifCond .ne 6, 0, 0),
  (8, .bipush (-5), 0, 0),
  (10, .ireturn, 0, 0),
  (11, .iload_n 2, 0, 0),
  (12, .tableswitch 67 0 6 #[44, 44, 44, 44, 44, 55, 61], 0, 0),
  (56, .aload_n 0, 0, 0),
  (57, .getfield 7, 49, 931),
  (60, .iconst 5, 0, 0),
  (61, .iload_n 1, 0, 0),
  (62, .imul, 0, 0),
  (63, .iload_n 2, 0, 0),
  (64, .iadd, 0, 0),
  (65, .iaload, 0, 0),
  (66, .ireturn, 0, 0),
  (67, .aload_n 0, 0, 0),
  (68, .iload_n 1, 0, 0),
  (69, .invokevirtual 170, 140, 1084),
  (72, .ireturn, 0, 0),
  (73, .aload_n 0, 0, 0),
  (74, .iload_n 1, 0, 0),
  (75, .invokevirtual 173, 141, 1099),
  (78, .ireturn, 0, 0),
  (79, .bipush (-7), 0, 0),
  (81, .ireturn, 0, 0)]
def xe_142 : XMe := ("BetweenThisAndThatModel", ⟨"BetweenThisAndThatModel", "told", "(II)I"⟩, prog_10_method_33_code, 3, some (Jvm.ClassFile.FieldType.int), 108, 2, (1079, 1077, 1078, 77))
def xi_143 : List XIn := [(0, .iload_n 1, 0, 0),
  (1, .invokestatic 155, 115, 1069),
  (4, .ifCond .eq 44, 0, 0),
  (7, .iload_n 2, 0, 0),
  (8, .invokestatic 155, 115, 1069),
  (11, .ifCond .eq 37, 0, 0),
  (14, .iload_n 1, 0, 0),
  (15, .iload_n 2, 0, 0),
  (16, .if_icmp .eq 32, 0, 0),
  (19, .iload_n 3, 0, 0),
  (20, .sipush (-999), 0, 0),
  (23, .sipush 999, 0, 0),
  (26, .invokestatic 75, 112, 891),
  (29, .ifCond .eq 19, 0, 0),
  (32, .iload 4, 0, 0),
  (34, .iload_n 3, 0, 0),
  (35, .sipush 999, 0, 0),
  (38, .invokestatic 75, 112, 891),
  (41, .ifCond .eq 7, 0, 0),
  (44, .iconst 1, 0, 0),
  (45, .goto 4, 0, 0),
  (48, .iconst 0, 0, 0),
  (49, .istore 5, 0, 0),
  (51, .iload 5, 0, 0),
  (53, .ifCond .ne 6, 0, 0),
  (56, .bipush (-2), 0, 0),
  (58, .ireturn, 0, 0),
  (59, .aload_n 0, 0, 0),
  (60, .getfield 82, 50, 932),
  (63, .bipush 8, 0, 0),
  (65, .if_icmp .ne 6, 0, 0),
  (68, .bipush (-4), 0, 0),
  (70, .ireturn, 0, 0),
  (71, .aload_n 0, 0, 0),
  (72, .getfield 13, 51, 933),
  (75, .iconst 4, 0, 0),
  (76, .aload_n 0, 0, 0),
  (77, .getfield 82, 50, 932),
  (80, .imul, 0, 0),
  (81, .iload_n 1, 0, 0),
  (82, .iastore, 0, 0),
  (83, .aload_n 0, 0, 0),
  (84, .getfield 13, 51, 933),
  (87, .iconst 4, 0, 0),
  (88, .aload_n 0, 0, 0),
  (89, .getfield 82, 50, 932),
  (92, .imul, 0, 0),
  (93, .iconst 1, 0, 0),
  (94, .iadd, 0, 0),
  (95, .iload_n 2, 0, 0),
  (96, .iastore, 0, 0),
  (97, .aload_n 0, 0, 0),
  (98, .getfield 13, 51, 933),
  (101, .iconst 4, 0, 0),
  (102, .aload_n 0, 0, 0),
  (103, .getfield 82, 50, 932),
  (106, .imul, 0, 0),
  (107, .iconst 2, 0, 0),
  (108, .iadd, 0, 0),
  (109, .iload_n 3, 0, 0),
  (110, .iastore, 0, 0),
  (111, .aload_n 0, 0, 0),
  (112, .getfield 13, 51, 933),
  (115, .iconst 4, 0, 0),
  (116, .aload_n 0, 0, 0),
  (117, .getfield 82, 50, 932),
  (120, .imul, 0, 0),
  (121, .iconst 3, 0, 0),
  (122, .iadd, 0, 0),
  (123, .iload 4, 0, 0),
  (125, .iastore, 0, 0),
  (126, .aload_n 0, 0, 0),
  (127, .dup, 0, 0),
  (128, .getfield 82, 50, 932),
  (131, .iconst 1, 0, 0),
  (132, .iadd, 0, 0),
  (133, .putfield 82, 50, 932),
  (136, .aload_n 0, 0, 0),
  (137, .getfield 82, 50, 932),
  (140, .iconst 1, 0, 0),
  (141, .isub, 0, 0),
  (142, .ireturn, 0, 0)]
def xe_143 : XMe := ("BetweenThisAndThatModel", ⟨"BetweenThisAndThatModel", "link", "(IIII)I"⟩, prog_10_method_34_code, 6, some (Jvm.ClassFile.FieldType.int), 108, 4, (1106, 1104, 1105, 77))
def xi_144 : List XIn := [(0, .iload_n 1, 0, 0),
  (1, .iconst 0, 0, 0),
  (2, .aload_n 0, 0, 0),
  (3, .getfield 82, 50, 932),
  (6, .iconst 1, 0, 0),
  (7, .isub, 0, 0),
  (8, .invokestatic 75, 112, 891),
  (11, .ifCond .ne 6, 0, 0),
  (14, .bipush (-5), 0, 0),
  (16, .ireturn, 0, 0),
  (17, .iload_n 2, 0, 0),
  (18, .iconst 0, 0, 0),
  (19, .iconst 3, 0, 0),
  (20, .invokestatic 75, 112, 891),
  (23, .ifCond .eq 16, 0, 0),
  (26, .aload_n 0, 0, 0),
  (27, .getfield 13, 51, 933),
  (30, .iconst 4, 0, 0),
  (31, .iload_n 1, 0, 0),
  (32, .imul, 0, 0),
  (33, .iload_n 2, 0, 0),
  (34, .iadd, 0, 0),
  (35, .iaload, 0, 0),
  (36, .goto 5, 0, 0),
  (39, .bipush (-7), 0, 0),
  (41, .ireturn, 0, 0)]
def xe_144 : XMe := ("BetweenThisAndThatModel", ⟨"BetweenThisAndThatModel", "linkTold", "(II)I"⟩, prog_10_method_35_code, 3, some (Jvm.ClassFile.FieldType.int), 108, 2, (1110, 1108, 1109, 77))
def xi_145 : List XIn := [(0, .iconst 0, 0, 0),
  (1, .istore_n 2, 0, 0),
  (2, .iload_n 2, 0, 0),
  (3, .bipush 6, 0, 0),
  (5, .if_icmp .ge 25, 0, 0),
  (8, .aload_n 0, 0, 0),
  (9, .getfield 52, 80, 962),
  (12, .iload_n 2, 0, 0),
  (13, .iconst 0, 0, 0),
  (14, .iastore, 0, 0),
  (15, .aload_n 0, 0, 0),
  (16, .getfield 55, 81, 963),
  (19, .iload_n 2, 0, 0),
  (20, .sipush 999, 0, 0),
  (23, .iastore, 0, 0),
  (24, .iinc 2 1, 0, 0),
  (27, .goto (-25), 0, 0),
  (30, .iconst 0, 0, 0),
  (31, .istore_n 2, 0, 0),
  (32, .iload_n 2, 0, 0),
  (33, .aload_n 0, 0, 0),
  (34, .getfield 72, 48, 930),
  (37, .if_icmp .ge 113, 0, 0),
  (40, .aload_n 0, 0, 0),
  (41, .getfield 7, 49, 931),
  (44, .iconst 5, 0, 0),
  (45, .iload_n 2, 0, 0),
  (46, .imul, 0, 0),
  (47, .iconst 1, 0, 0),
  (48, .iadd, 0, 0),
  (49, .iaload, 0, 0),
  (50, .istore_n 3, 0, 0),
  (51, .iload_n 1, 0, 0),
  (52, .iload_n 2, 0, 0),
  (53, .ishr, 0, 0),
  (54, .iconst 1, 0, 0),
  (55, .iand, 0, 0),
  (56, .ifCond .ne 7, 0, 0),
  (59, .iconst 1, 0, 0),
  (60, .goto 4, 0, 0),
  (63, .iconst 0, 0, 0),
  (64, .istore 4, 0, 0),
  (66, .aload_n 0, 0, 0),
  (67, .getfield 52, 80, 962),
  (70, .iload_n 3, 0, 0),
  (71, .iload 4, 0, 0),
  (73, .ifCond .eq 25, 0, 0),
  (76, .aload_n 0, 0, 0),
  (77, .iload_n 2, 0, 0),
  (78, .invokevirtual 170, 140, 1084),
  (81, .aload_n 0, 0, 0),
  (82, .getfield 52, 80, 962),
  (85, .iload_n 3, 0, 0),
  (86, .iaload, 0, 0),
  (87, .if_icmp .le 11, 0, 0),
  (90, .aload_n 0, 0, 0),
  (91, .iload_n 2, 0, 0),
  (92, .invokevirtual 170, 140, 1084),
  (95, .goto 9, 0, 0),
  (98, .aload_n 0, 0, 0),
  (99, .getfield 52, 80, 962),
  (102, .iload_n 3, 0, 0),
  (103, .iaload, 0, 0),
  (104, .iastore, 0, 0),
  (105, .aload_n 0, 0, 0),
  (106, .getfield 55, 81, 963),
  (109, .iload_n 3, 0, 0),
  (110, .iload 4, 0, 0),
  (112, .ifCond .eq 25, 0, 0),
  (115, .aload_n 0, 0, 0),
  (116, .iload_n 2, 0, 0),
  (117, .invokevirtual 173, 141, 1099),
  (120, .aload_n 0, 0, 0),
  (121, .getfield 55, 81, 963),
  (124, .iload_n 3, 0, 0),
  (125, .iaload, 0, 0),
  (126, .if_icmp .ge 11, 0, 0),
  (129, .aload_n 0, 0, 0),
  (130, .iload_n 2, 0, 0),
  (131, .invokevirtual 173, 141, 1099),
  (134, .goto 9, 0, 0),
  (137, .aload_n 0, 0, 0),
  (138, .getfield 55, 81, 963),
  (141, .iload_n 3, 0, 0),
  (142, .iaload, 0, 0),
  (143, .iastore, 0, 0),
  (144, .iinc 2 1, 0, 0),
  (147, .goto (-115), 0, 0),
  (150, .return_, 0, 0)]
def xe_145 : XMe := ("BetweenThisAndThatModel", ⟨"BetweenThisAndThatModel", "leaves", "(I)V"⟩, prog_10_method_36_code, 5, none, 108, 1, (1122, 1121, 43, 77))
def xi_146 : List XIn := [(0, .aload_n 0, 0, 0),
  (1, .getfield 58, 82, 964),
  (4, .bipush 7, 0, 0),
  (6, .iload_n 1, 0, 0),
  (7, .imul, 0, 0),
  (8, .iload_n 2, 0, 0),
  (9, .iadd, 0, 0),
  (10, .iload_n 3, 0, 0),
  (11, .aload_n 0, 0, 0),
  (12, .getfield 58, 82, 964),
  (15, .bipush 7, 0, 0),
  (17, .iload_n 1, 0, 0),
  (18, .imul, 0, 0),
  (19, .iload_n 2, 0, 0),
  (20, .iadd, 0, 0),
  (21, .iaload, 0, 0),
  (22, .if_icmp .ge 7, 0, 0),
  (25, .iload_n 3, 0, 0),
  (26, .goto 14, 0, 0),
  (29, .aload_n 0, 0, 0),
  (30, .getfield 58, 82, 964),
  (33, .bipush 7, 0, 0),
  (35, .iload_n 1, 0, 0),
  (36, .imul, 0, 0),
  (37, .iload_n 2, 0, 0),
  (38, .iadd, 0, 0),
  (39, .iaload, 0, 0),
  (40, .iastore, 0, 0),
  (41, .return_, 0, 0)]
def xe_146 : XMe := ("BetweenThisAndThatModel", ⟨"BetweenThisAndThatModel", "cuts", "(III)V"⟩, prog_10_method_37_code, 4, none, 108, 3, (1130, 1129, 45, 77))
def xi_147 : List XIn := [(0, .iconst 0, 0, 0),
  (1, .istore_n 2, 0, 0),
  (2, .iload_n 2, 0, 0),
  (3, .bipush 49, 0, 0),
  (5, .if_icmp .ge 33, 0, 0),
  (8, .aload_n 0, 0, 0),
  (9, .getfield 58, 82, 964),
  (12, .iload_n 2, 0, 0),
  (13, .iload_n 2, 0, 0),
  (14, .bipush 7, 0, 0),
  (16, .idiv, 0, 0),
  (17, .iload_n 2, 0, 0),
  (18, .bipush 7, 0, 0),
  (20, .irem, 0, 0),
  (21, .if_icmp .ne 7, 0, 0),
  (24, .iconst 0, 0, 0),
  (25, .goto 6, 0, 0),
  (28, .sipush 9999, 0, 0),
  (31, .iastore, 0, 0),
  (32, .iinc 2 1, 0, 0),
  (35, .goto (-33), 0, 0),
  (38, .iconst 0, 0, 0),
  (39, .istore_n 2, 0, 0),
  (40, .iload_n 2, 0, 0),
  (41, .bipush 6, 0, 0),
  (43, .if_icmp .ge 36, 0, 0),
  (46, .aload_n 0, 0, 0),
  (47, .bipush 6, 0, 0),
  (49, .iload_n 2, 0, 0),
  (50, .aload_n 0, 0, 0),
  (51, .getfield 55, 81, 963),
  (54, .iload_n 2, 0, 0),
  (55, .iaload, 0, 0),
  (56, .invokevirtual 176, 146, 1127),
  (59, .aload_n 0, 0, 0),
  (60, .iload_n 2, 0, 0),
  (61, .bipush 6, 0, 0),
  (63, .aload_n 0, 0, 0),
  (64, .getfield 52, 80, 962),
  (67, .iload_n 2, 0, 0),
  (68, .iaload, 0, 0),
  (69, .ineg, 0, 0),
  (70, .invokevirtual 176, 146, 1127),
  (73, .iinc 2 1, 0, 0),
  (76, .goto (-36), 0, 0),
  (79, .iconst 0, 0, 0),
  (80, .istore_n 2, 0, 0),
  (81, .iload_n 2, 0, 0),
  (82, .aload_n 0, 0, 0),
  (83, .getfield 82, 50, 932),
  (86, .if_icmp .ge 82, 0, 0),
  (89, .iload_n 1, 0, 0),
  (90, .iload_n 2, 0, 0),
  (91, .ishr, 0, 0),
  (92, .iconst 1, 0, 0),
  (93, .iand, 0, 0),
  (94, .ifCond .ne 68, 0, 0),
  (97, .aload_n 0, 0, 0),
  (98, .aload_n 0, 0, 0),
  (99, .getfield 13, 51, 933),
  (102, .iconst 4, 0, 0),
  (103, .iload_n 2, 0, 0),
  (104, .imul, 0, 0),
  (105, .iaload, 0, 0),
  (106, .aload_n 0, 0, 0),
  (107, .getfield 13, 51, 933),
  (110, .iconst 4, 0, 0),
  (111, .iload_n 2, 0, 0),
  (112, .imul, 0, 0),
  (113, .iconst 1, 0, 0),
  (114, .iadd, 0, 0),
  (115, .iaload, 0, 0),
  (116, .aload_n 0, 0, 0),
  (117, .getfield 13, 51, 933),
  (120, .iconst 4, 0, 0),
  (121, .iload_n 2, 0, 0),
  (122, .imul, 0, 0),
  (123, .iconst 3, 0, 0),
  (124, .iadd, 0, 0),
  (125, .iaload, 0, 0),
  (126, .invokevirtual 176, 146, 1127),
  (129, .aload_n 0, 0, 0),
  (130, .aload_n 0, 0, 0),
  (131, .getfield 13, 51, 933),
  (134, .iconst 4, 0, 0),
  (135, .iload_n 2, 0, 0),
  (136, .imul, 0, 0),
  (137, .iconst 1, 0, 0),
  (138, .iadd, 0, 0),
  (139, .iaload, 0, 0),
  (140, .aload_n 0, 0, 0),
  (141, .getfield 13, 51, 933),
  (144, .iconst 4, 0, 0),
  (145, .iload_n 2, 0, 0),
  (146, .imul, 0, 0),
  (147, .iaload, 0, 0),
  (148, .aload_n 0, 0, 0),
  (149, .getfield 13, 51, 933),
  (152, .iconst 4, 0, 0),
  (153, .iload_n 2, 0, 0),
  (154, .imul, 0, 0),
  (155, .iconst 2, 0, 0),
  (156, .iadd, 0, 0),
  (157, .iaload, 0, 0),
  (158, .ineg, 0, 0),
  (159, .invokevirtual 176, 146, 1127),
  (162, .iinc 2 1, 0, 0),
  (165, .goto (-84), 0, 0),
  (168, .iconst 0, 0, 0),
  (169, .istore_n 2, 0, 0),
  (170, .iload_n 2, 0, 0),
  (171, .bipush 7, 0, 0),
  (173, .if_icmp .ge 64, 0, 0),
  (176, .iconst 0, 0, 0),
  (177, .istore_n 3, 0, 0),
  (178, .iload_n 3, 0, 0),
  (179, .bipush 49, 0, 0),
  (181, .if_icmp .ge 50, 0, 0),
  (184, .aload_n 0, 0, 0),
  (185, .iload_n 3, 0, 0),
  (186, .bipush 7, 0, 0),
  (188, .idiv, 0, 0),
  (189, .iload_n 3, 0, 0),
  (190, .bipush 7, 0, 0),
  (192, .irem, 0, 0),
  (193, .aload_n 0, 0, 0),
  (194, .getfield 58, 82, 964),
  (197, .bipush 7, 0, 0),
  (199, .iload_n 3, 0, 0),
  (200, .bipush 7, 0, 0),
  (202, .idiv, 0, 0),
  (203, .imul, 0, 0),
  (204, .iload_n 2, 0, 0),
  (205, .iadd, 0, 0),
  (206, .iaload, 0, 0),
  (207, .aload_n 0, 0, 0),
  (208, .getfield 58, 82, 964),
  (211, .bipush 7, 0, 0),
  (213, .iload_n 2, 0, 0),
  (214, .imul, 0, 0),
  (215, .iload_n 3, 0, 0),
  (216, .bipush 7, 0, 0),
  (218, .irem, 0, 0),
  (219, .iadd, 0, 0),
  (220, .iaload, 0, 0),
  (221, .iadd, 0, 0),
  (222, .invokevirtual 176, 146, 1127),
  (225, .iinc 3 1, 0, 0),
  (228, .goto (-50), 0, 0),
  (231, .iinc 2 1, 0, 0),
  (234, .goto (-64), 0, 0),
  (237, .iconst 1, 0, 0),
  (238, .istore_n 2, 0, 0),
  (239, .iconst 0, 0, 0),
  (240, .istore_n 3, 0, 0),
  (241, .iload_n 3, 0, 0),
  (242, .bipush 7, 0, 0),
  (244, .if_icmp .ge 33, 0, 0),
  (247, .iload_n 2, 0, 0),
  (248, .ifCond .eq 21, 0, 0),
  (251, .aload_n 0, 0, 0),
  (252, .getfield 58, 82, 964),
  (255, .bipush 7, 0, 0),
  (257, .iload_n 3, 0, 0),
  (258, .imul, 0, 0),
  (259, .iload_n 3, 0, 0),
  (260, .iadd, 0, 0),
  (261, .iaload, 0, 0),
  (262, .ifCond .lt 7, 0, 0),
  (265, .iconst 1, 0, 0),
  (266, .goto 4, 0, 0),
  (269, .iconst 0, 0, 0),
  (270, .istore_n 2, 0, 0),
  (271, .iinc 3 1, 0, 0),
  (274, .goto (-33), 0, 0),
  (277, .iload_n 2, 0, 0),
  (278, .ireturn, 0, 0)]
def xe_147 : XMe := ("BetweenThisAndThatModel", ⟨"BetweenThisAndThatModel", "canBe", "(I)Z"⟩, prog_10_method_38_code, 4, some (Jvm.ClassFile.FieldType.boolean), 108, 1, (1126, 1125, 44, 77))
def xi_148 : List XIn := [(0, .aload_n 0, 0, 0),
  (1, .iconst 0, 0, 0),
  (2, .invokevirtual 180, 145, 1119),
  (5, .aload_n 0, 0, 0),
  (6, .iconst 0, 0, 0),
  (7, .invokevirtual 183, 147, 1123),
  (10, .ireturn, 0, 0)]
def xe_148 : XMe := ("BetweenThisAndThatModel", ⟨"BetweenThisAndThatModel", "canNow", "()Z"⟩, prog_10_method_39_code, 1, some (Jvm.ClassFile.FieldType.boolean), 108, 0, (1118, 1117, 42, 77))
def xi_149 : List XIn := [(0, .aload_n 0, 0, 0),
  (1, .getfield 58, 82, 964),
  (4, .bipush 7, 0, 0),
  (6, .iload_n 1, 0, 0),
  (7, .imul, 0, 0),
  (8, .bipush 6, 0, 0),
  (10, .iadd, 0, 0),
  (11, .iaload, 0, 0),
  (12, .ineg, 0, 0),
  (13, .ireturn, 0, 0)]
def xe_149 : XMe := ("BetweenThisAndThatModel", ⟨"BetweenThisAndThatModel", "low", "(I)I"⟩, prog_10_method_40_code, 2, some (Jvm.ClassFile.FieldType.int), 108, 1, (1138, 1137, 46, 77))
def xi_150 : List XIn := [(0, .aload_n 0, 0, 0),
  (1, .getfield 58, 82, 964),
  (4, .bipush 42, 0, 0),
  (6, .iload_n 1, 0, 0),
  (7, .iadd, 0, 0),
  (8, .iaload, 0, 0),
  (9, .ireturn, 0, 0)]
def xe_150 : XMe := ("BetweenThisAndThatModel", ⟨"BetweenThisAndThatModel", "high", "(I)I"⟩, prog_10_method_41_code, 2, some (Jvm.ClassFile.FieldType.int), 108, 1, (1142, 1141, 47, 77))
def xi_151 : List XIn := [(0, .aload_n 0, 0, 0),
  (1, .invokevirtual 186, 148, 1115),
  (4, .ifCond .eq 7, 0, 0),
  (7, .iconst 1, 0, 0),
  (8, .goto 4, 0, 0),
  (11, .iconst 0, 0, 0),
  (12, .ireturn, 0, 0)]
def xe_151 : XMe := ("BetweenThisAndThatModel", ⟨"BetweenThisAndThatModel", "can", "()I"⟩, prog_10_method_42_code, 1, some (Jvm.ClassFile.FieldType.int), 108, 0, (1114, 1112, 1113, 77))
def xi_152 : List XIn := [(0, .iload_n 1, 0, 0),
  (1, .invokestatic 155, 115, 1069),
  (4, .ifCond .ne 6, 0, 0),
  (7, .bipush (-5), 0, 0),
  (9, .ireturn, 0, 0),
  (10, .iload_n 2, 0, 0),
  (11, .iconst 0, 0, 0),
  (12, .iconst 4, 0, 0),
  (13, .invokestatic 75, 112, 891),
  (16, .ifCond .ne 6, 0, 0),
  (19, .bipush (-7), 0, 0),
  (21, .ireturn, 0, 0),
  (22, .aload_n 0, 0, 0),
  (23, .invokevirtual 186, 148, 1115),
  (26, .istore_n 3, 0, 0),
  (27, .iload_n 2, 0, 0),
  (28, .iconst 2, 0, 0),
  (29, .if_icmp .le 24, 0, 0),
  (32, .iload_n 2, 0, 0),
  (33, .iconst 3, 0, 0),
  (34, .if_icmp .ne 12, 0, 0),
  (37, .aload_n 0, 0, 0),
  (38, .getfield 52, 80, 962),
  (41, .iload_n 1, 0, 0),
  (42, .iaload, 0, 0),
  (43, .goto 9, 0, 0),
  (46, .aload_n 0, 0, 0),
  (47, .getfield 55, 81, 963),
  (50, .iload_n 1, 0, 0),
  (51, .iaload, 0, 0),
  (52, .ireturn, 0, 0),
  (53, .iload_n 3, 0, 0),
  (54, .ifCond .ne 7, 0, 0),
  (57, .iconst (-1), 0, 0),
  (58, .goto 39, 0, 0),
  (61, .iload_n 2, 0, 0),
  (62, .ifCond .ne 11, 0, 0),
  (65, .aload_n 0, 0, 0),
  (66, .iload_n 1, 0, 0),
  (67, .invokevirtual 189, 149, 1135),
  (70, .goto 27, 0, 0),
  (73, .iload_n 2, 0, 0),
  (74, .iconst 1, 0, 0),
  (75, .if_icmp .ne 11, 0, 0),
  (78, .aload_n 0, 0, 0),
  (79, .iload_n 1, 0, 0),
  (80, .invokevirtual 192, 150, 1139),
  (83, .goto 14, 0, 0),
  (86, .aload_n 0, 0, 0),
  (87, .iload_n 1, 0, 0),
  (88, .invokevirtual 192, 150, 1139),
  (91, .aload_n 0, 0, 0),
  (92, .iload_n 1, 0, 0),
  (93, .invokevirtual 189, 149, 1135),
  (96, .isub, 0, 0),
  (97, .ireturn, 0, 0)]
def xe_152 : XMe := ("BetweenThisAndThatModel", ⟨"BetweenThisAndThatModel", "span", "(II)I"⟩, prog_10_method_43_code, 4, some (Jvm.ClassFile.FieldType.int), 108, 2, (1134, 1132, 1133, 77))
def xi_153 : List XIn := [(0, .iload_n 1, 0, 0),
  (1, .invokestatic 155, 115, 1069),
  (4, .ifCond .eq 26, 0, 0),
  (7, .iload_n 2, 0, 0),
  (8, .invokestatic 155, 115, 1069),
  (11, .ifCond .eq 19, 0, 0),
  (14, .iload_n 3, 0, 0),
  (15, .iconst 0, 0, 0),
  (16, .iconst 1, 0, 0),
  (17, .invokestatic 75, 112, 891),
  (20, .ifCond .eq 10, 0, 0),
  (23, .aload_n 0, 0, 0),
  (24, .invokevirtual 186, 148, 1115),
  (27, .ifCond .ne 6, 0, 0),
  (30, .ldc 195, 0, 1147),
  (32, .ireturn, 0, 0),
  (33, .iload_n 3, 0, 0),
  (34, .ifCond .ne 18, 0, 0),
  (37, .aload_n 0, 0, 0),
  (38, .getfield 58, 82, 964),
  (41, .bipush 7, 0, 0),
  (43, .iload_n 2, 0, 0),
  (44, .imul, 0, 0),
  (45, .iload_n 1, 0, 0),
  (46, .iadd, 0, 0),
  (47, .iaload, 0, 0),
  (48, .ineg, 0, 0),
  (49, .goto 14, 0, 0),
  (52, .aload_n 0, 0, 0),
  (53, .getfield 58, 82, 964),
  (56, .bipush 7, 0, 0),
  (58, .iload_n 1, 0, 0),
  (59, .imul, 0, 0),
  (60, .iload_n 2, 0, 0),
  (61, .iadd, 0, 0),
  (62, .iaload, 0, 0),
  (63, .ireturn, 0, 0)]
def xe_153 : XMe := ("BetweenThisAndThatModel", ⟨"BetweenThisAndThatModel", "apart", "(III)I"⟩, prog_10_method_44_code, 4, some (Jvm.ClassFile.FieldType.int), 108, 3, (1146, 1144, 1145, 77))
def xi_154 : List XIn := [(0, .aload_n 0, 0, 0),
  (1, .getfield 7, 49, 931),
  (4, .iconst 5, 0, 0),
  (5, .iload_n 1, 0, 0),
  (6, .imul, 0, 0),
  (7, .iconst 1, 0, 0),
  (8, .iadd, 0, 0),
  (9, .iaload, 0, 0),
  (10, .aload_n 0, 0, 0),
  (11, .getfield 7, 49, 931),
  (14, .iconst 5, 0, 0),
  (15, .iload_n 2, 0, 0),
  (16, .imul, 0, 0),
  (17, .iconst 1, 0, 0),
  (18, .iadd, 0, 0),
  (19, .iaload, 0, 0),
  (20, .if_icmp .ne 33, 0, 0),
  (23, .aload_n 0, 0, 0),
  (24, .iload_n 1, 0, 0),
  (25, .invokevirtual 170, 140, 1084),
  (28, .aload_n 0, 0, 0),
  (29, .iload_n 2, 0, 0),
  (30, .invokevirtual 173, 141, 1099),
  (33, .if_icmp .gt 16, 0, 0),
  (36, .aload_n 0, 0, 0),
  (37, .iload_n 2, 0, 0),
  (38, .invokevirtual 170, 140, 1084),
  (41, .aload_n 0, 0, 0),
  (42, .iload_n 1, 0, 0),
  (43, .invokevirtual 173, 141, 1099),
  (46, .if_icmp .le 7, 0, 0),
  (49, .iconst 1, 0, 0),
  (50, .goto 4, 0, 0),
  (53, .iconst 0, 0, 0),
  (54, .ireturn, 0, 0)]
def xe_154 : XMe := ("BetweenThisAndThatModel", ⟨"BetweenThisAndThatModel", "clash", "(II)Z"⟩, prog_10_method_45_code, 3, some (Jvm.ClassFile.FieldType.boolean), 108, 2, (1155, 1154, 48, 77))
def xi_155 : List XIn := [(0, .iload_n 1, 0, 0),
  (1, .iconst 0, 0, 0),
  (2, .iconst 1, 0, 0),
  (3, .invokestatic 75, 112, 891),
  (6, .ifCond .ne 6, 0, 0),
  (9, .bipush (-2), 0, 0),
  (11, .ireturn, 0, 0),
  (12, .iconst 0, 0, 0),
  (13, .istore_n 2, 0, 0),
  (14, .iconst (-1), 0, 0),
  (15, .istore_n 3, 0, 0),
  (16, .iconst 0, 0, 0),
  (17, .istore 4, 0, 0),
  (19, .iload 4, 0, 0),
  (21, .aload_n 0, 0, 0),
  (22, .getfield 72, 48, 930),
  (25, .if_icmp .ge 61, 0, 0),
  (28, .iload 4, 0, 0),
  (30, .iconst 1, 0, 0),
  (31, .iadd, 0, 0),
  (32, .istore 5, 0, 0),
  (34, .iload 5, 0, 0),
  (36, .aload_n 0, 0, 0),
  (37, .getfield 72, 48, 930),
  (40, .if_icmp .ge 40, 0, 0),
  (43, .aload_n 0, 0, 0),
  (44, .iload 4, 0, 0),
  (46, .iload 5, 0, 0),
  (48, .invokevirtual 196, 154, 1152),
  (51, .ifCond .eq 23, 0, 0),
  (54, .iload_n 2, 0, 0),
  (55, .ifCond .ne 14, 0, 0),
  (58, .bipush 10, 0, 0),
  (60, .iload 4, 0, 0),
  (62, .imul, 0, 0),
  (63, .iload 5, 0, 0),
  (65, .iadd, 0, 0),
  (66, .goto 4, 0, 0),
  (69, .iload_n 3, 0, 0),
  (70, .istore_n 3, 0, 0),
  (71, .iinc 2 1, 0, 0),
  (74, .iinc 5 1, 0, 0),
  (77, .goto (-43), 0, 0),
  (80, .iinc 4 1, 0, 0),
  (83, .goto (-64), 0, 0),
  (86, .iload_n 1, 0, 0),
  (87, .ifCond .ne 7, 0, 0),
  (90, .iload_n 2, 0, 0),
  (91, .goto 4, 0, 0),
  (94, .iload_n 3, 0, 0),
  (95, .ireturn, 0, 0)]
def xe_155 : XMe := ("BetweenThisAndThatModel", ⟨"BetweenThisAndThatModel", "clashes", "(I)I"⟩, prog_10_method_46_code, 6, some (Jvm.ClassFile.FieldType.int), 108, 1, (1151, 1149, 1150, 77))
def xi_156 : List XIn := [(0, .iload_n 1, 0, 0),
  (1, .iconst 0, 0, 0),
  (2, .iconst 1, 0, 0),
  (3, .invokestatic 75, 112, 891),
  (6, .ifCond .ne 6, 0, 0),
  (9, .bipush (-2), 0, 0),
  (11, .ireturn, 0, 0),
  (12, .iconst (-1), 0, 0),
  (13, .istore_n 2, 0, 0),
  (14, .iconst 0, 0, 0),
  (15, .istore_n 3, 0, 0),
  (16, .iload_n 3, 0, 0),
  (17, .iconst 1, 0, 0),
  (18, .aload_n 0, 0, 0),
  (19, .getfield 72, 48, 930),
  (22, .ishl, 0, 0),
  (23, .if_icmp .ge 44, 0, 0),
  (26, .iload_n 2, 0, 0),
  (27, .iconst (-1), 0, 0),
  (28, .if_icmp .eq 14, 0, 0),
  (31, .iload_n 3, 0, 0),
  (32, .invokestatic 200, 117, 1160),
  (35, .iload_n 2, 0, 0),
  (36, .invokestatic 200, 117, 1160),
  (39, .if_icmp .ge 22, 0, 0),
  (42, .aload_n 0, 0, 0),
  (43, .iload_n 3, 0, 0),
  (44, .invokevirtual 180, 145, 1119),
  (47, .aload_n 0, 0, 0),
  (48, .iconst 0, 0, 0),
  (49, .invokevirtual 183, 147, 1123),
  (52, .ifCond .eq 7, 0, 0),
  (55, .iload_n 3, 0, 0),
  (56, .goto 4, 0, 0),
  (59, .iload_n 2, 0, 0),
  (60, .istore_n 2, 0, 0),
  (61, .iinc 3 1, 0, 0),
  (64, .goto (-48), 0, 0),
  (67, .iload_n 1, 0, 0),
  (68, .iconst 1, 0, 0),
  (69, .if_icmp .eq 8, 0, 0),
  (72, .iload_n 2, 0, 0),
  (73, .iconst (-1), 0, 0),
  (74, .if_icmp .ne 7, 0, 0),
  (77, .iload_n 2, 0, 0),
  (78, .goto 7, 0, 0),
  (81, .iload_n 2, 0, 0),
  (82, .invokestatic 200, 117, 1160),
  (85, .ireturn, 0, 0)]
def xe_156 : XMe := ("BetweenThisAndThatModel", ⟨"BetweenThisAndThatModel", "wrong", "(I)I"⟩, prog_10_method_47_code, 4, some (Jvm.ClassFile.FieldType.int), 108, 1, (1159, 1157, 1158, 77))
def xi_157 : List XIn := [(0, .iconst 0, 0, 0),
  (1, .istore_n 1, 0, 0),
  (2, .aload_n 0, 0, 0),
  (3, .invokevirtual 186, 148, 1115),
  (6, .istore_n 2, 0, 0),
  (7, .iconst 0, 0, 0),
  (8, .istore_n 3, 0, 0),
  (9, .iload_n 3, 0, 0),
  (10, .aload_n 0, 0, 0),
  (11, .getfield 82, 50, 932),
  (14, .if_icmp .ge 33, 0, 0),
  (17, .iload_n 2, 0, 0),
  (18, .ifCond .ne 29, 0, 0),
  (21, .iload_n 1, 0, 0),
  (22, .aload_n 0, 0, 0),
  (23, .iconst 1, 0, 0),
  (24, .iload_n 3, 0, 0),
  (25, .ishl, 0, 0),
  (26, .invokevirtual 183, 147, 1123),
  (29, .ifCond .eq 9, 0, 0),
  (32, .iconst 1, 0, 0),
  (33, .iload_n 3, 0, 0),
  (34, .ishl, 0, 0),
  (35, .goto 4, 0, 0),
  (38, .iconst 0, 0, 0),
  (39, .ior, 0, 0),
  (40, .istore_n 1, 0, 0),
  (41, .iinc 3 1, 0, 0),
  (44, .goto (-35), 0, 0),
  (47, .iload_n 1, 0, 0),
  (48, .ireturn, 0, 0)]
def xe_157 : XMe := ("BetweenThisAndThatModel", ⟨"BetweenThisAndThatModel", "blame", "()I"⟩, prog_10_method_48_code, 4, some (Jvm.ClassFile.FieldType.int), 108, 0, (1166, 1164, 1165, 77))
def xi_158 : List XIn := [(0, .aload_n 0, 0, 0),
  (1, .getfield 88, 58, 940),
  (4, .istore_n 3, 0, 0),
  (5, .aload_n 0, 0, 0),
  (6, .iload_n 1, 0, 0),
  (7, .putfield 88, 58, 940),
  (10, .aload_n 0, 0, 0),
  (11, .iload_n 2, 0, 0),
  (12, .invokevirtual 203, 134, 1184),
  (15, .istore 4, 0, 0),
  (17, .aload_n 0, 0, 0),
  (18, .iload_n 3, 0, 0),
  (19, .putfield 88, 58, 940),
  (22, .iload 4, 0, 0),
  (24, .ireturn, 0, 0)]
def xe_158 : XMe := ("BetweenThisAndThatModel", ⟨"BetweenThisAndThatModel", "saysBy", "(II)I"⟩, prog_10_method_49_code, 5, some (Jvm.ClassFile.FieldType.int), 108, 2, (1183, 1182, 51, 77))
def xi_159 : List XIn := [(0, .iconst 0, 0, 0),
  (1, .istore_n 2, 0, 0),
  (2, .iload_n 2, 0, 0),
  (3, .bipush 64, 0, 0),
  (5, .if_icmp .ge 108, 0, 0),
  (8, .iconst 0, 0, 0),
  (9, .istore_n 3, 0, 0),
  (10, .iload_n 3, 0, 0),
  (11, .bipush 6, 0, 0),
  (13, .if_icmp .ge 36, 0, 0),
  (16, .aload_n 0, 0, 0),
  (17, .getfield 49, 79, 961),
  (20, .iload_n 3, 0, 0),
  (21, .iload_n 2, 0, 0),
  (22, .iload_n 3, 0, 0),
  (23, .ishr, 0, 0),
  (24, .iconst 1, 0, 0),
  (25, .iand, 0, 0),
  (26, .ifCond .ne 11, 0, 0),
  (29, .aload_n 0, 0, 0),
  (30, .iload_n 3, 0, 0),
  (31, .invokevirtual 189, 149, 1135),
  (34, .goto 8, 0, 0),
  (37, .aload_n 0, 0, 0),
  (38, .iload_n 3, 0, 0),
  (39, .invokevirtual 192, 150, 1139),
  (42, .iastore, 0, 0),
  (43, .iinc 3 1, 0, 0),
  (46, .goto (-36), 0, 0),
  (49, .aload_n 0, 0, 0),
  (50, .iload_n 1, 0, 0),
  (51, .iconst 0, 0, 0),
  (52, .invokevirtual 206, 158, 1180),
  (55, .i2l, 0, 0),
  (56, .lstore_n 3, 0, 0),
  (57, .aload_n 0, 0, 0),
  (58, .iload_n 2, 0, 0),
  (59, .ifCond .eq 12, 0, 0),
  (62, .lload_n 3, 0, 0),
  (63, .aload_n 0, 0, 0),
  (64, .getfield 209, 83, 965),
  (67, .lcmp, 0, 0),
  (68, .ifCond .ge 7, 0, 0),
  (71, .lload_n 3, 0, 0),
  (72, .goto 7, 0, 0),
  (75, .aload_n 0, 0, 0),
  (76, .getfield 209, 83, 965),
  (79, .putfield 209, 83, 965),
  (82, .aload_n 0, 0, 0),
  (83, .iload_n 2, 0, 0),
  (84, .ifCond .eq 12, 0, 0),
  (87, .lload_n 3, 0, 0),
  (88, .aload_n 0, 0, 0),
  (89, .getfield 213, 84, 966),
  (92, .lcmp, 0, 0),
  (93, .ifCond .le 7, 0, 0),
  (96, .lload_n 3, 0, 0),
  (97, .goto 7, 0, 0),
  (100, .aload_n 0, 0, 0),
  (101, .getfield 213, 84, 966),
  (104, .putfield 213, 84, 966),
  (107, .iinc 2 1, 0, 0),
  (110, .goto (-108), 0, 0),
  (113, .return_, 0, 0)]
def xe_159 : XMe := ("BetweenThisAndThatModel", ⟨"BetweenThisAndThatModel", "reckons", "(I)V"⟩, prog_10_method_50_code, 5, none, 108, 1, (1179, 1178, 50, 77))
def xi_160 : List XIn := [(0, .aload_n 0, 0, 0),
  (1, .iload_n 1, 0, 0),
  (2, .invokevirtual 216, 159, 1176),
  (5, .aload_n 0, 0, 0),
  (6, .getfield 213, 84, 966),
  (9, .aload_n 0, 0, 0),
  (10, .getfield 209, 83, 965),
  (13, .lsub, 0, 0),
  (14, .lreturn, 0, 0)]
def xe_160 : XMe := ("BetweenThisAndThatModel", ⟨"BetweenThisAndThatModel", "width", "(I)J"⟩, prog_10_method_51_code, 2, some (Jvm.ClassFile.FieldType.long), 108, 1, (1210, 1209, 55, 77))
def xi_161 : List XIn := [(0, .aload_n 0, 0, 0),
  (1, .iload_n 1, 0, 0),
  (2, .invokevirtual 219, 116, 1171),
  (5, .ifCond .eq 19, 0, 0),
  (8, .iload_n 2, 0, 0),
  (9, .iconst 0, 0, 0),
  (10, .iconst 2, 0, 0),
  (11, .invokestatic 75, 112, 891),
  (14, .ifCond .eq 10, 0, 0),
  (17, .aload_n 0, 0, 0),
  (18, .invokevirtual 186, 148, 1115),
  (21, .ifCond .ne 7, 0, 0),
  (24, .ldc2_w 222, 0, 1175),
  (27, .lreturn, 0, 0),
  (28, .aload_n 0, 0, 0),
  (29, .iload_n 1, 0, 0),
  (30, .invokevirtual 216, 159, 1176),
  (33, .iload_n 2, 0, 0),
  (34, .ifCond .ne 10, 0, 0),
  (37, .aload_n 0, 0, 0),
  (38, .getfield 209, 83, 965),
  (41, .goto 24, 0, 0),
  (44, .iload_n 2, 0, 0),
  (45, .iconst 1, 0, 0),
  (46, .if_icmp .ne 10, 0, 0),
  (49, .aload_n 0, 0, 0),
  (50, .getfield 213, 84, 966),
  (53, .goto 12, 0, 0),
  (56, .aload_n 0, 0, 0),
  (57, .getfield 213, 84, 966),
  (60, .aload_n 0, 0, 0),
  (61, .getfield 209, 83, 965),
  (64, .lsub, 0, 0),
  (65, .lreturn, 0, 0)]
def xe_161 : XMe := ("BetweenThisAndThatModel", ⟨"BetweenThisAndThatModel", "between", "(II)J"⟩, prog_10_method_52_code, 3, some (Jvm.ClassFile.FieldType.long), 108, 2, (1170, 1168, 1169, 77))
def xi_162 : List XIn := [(0, .iconst 0, 0, 0),
  (1, .istore_n 1, 0, 0),
  (2, .iload_n 1, 0, 0),
  (3, .bipush 6, 0, 0),
  (5, .if_icmp .ge 20, 0, 0),
  (8, .aload_n 0, 0, 0),
  (9, .getfield 49, 79, 961),
  (12, .iload_n 1, 0, 0),
  (13, .aload_n 0, 0, 0),
  (14, .iload_n 1, 0, 0),
  (15, .invokevirtual 189, 149, 1135),
  (18, .iastore, 0, 0),
  (19, .iinc 1 1, 0, 0),
  (22, .goto (-20), 0, 0),
  (25, .aload_n 0, 0, 0),
  (26, .iconst 1, 0, 0),
  (27, .invokevirtual 203, 134, 1184),
  (30, .iconst 0, 0, 0),
  (31, .bipush 99, 0, 0),
  (33, .invokestatic 164, 113, 1096),
  (36, .ireturn, 0, 0)]
def xe_162 : XMe := ("BetweenThisAndThatModel", ⟨"BetweenThisAndThatModel", "inchNow", "()I"⟩, prog_10_method_53_code, 2, some (Jvm.ClassFile.FieldType.int), 108, 0, (1198, 1197, 53, 77))
def xi_163 : List XIn := [(0, .aload_n 0, 0, 0),
  (1, .invokevirtual 186, 148, 1115),
  (4, .ifCond .eq 10, 0, 0),
  (7, .aload_n 0, 0, 0),
  (8, .invokevirtual 224, 162, 1195),
  (11, .goto 4, 0, 0),
  (14, .iconst (-1), 0, 0),
  (15, .ireturn, 0, 0)]
def xe_163 : XMe := ("BetweenThisAndThatModel", ⟨"BetweenThisAndThatModel", "inch", "()I"⟩, prog_10_method_54_code, 1, some (Jvm.ClassFile.FieldType.int), 108, 0, (1194, 1192, 1193, 77))
def xi_164 : List XIn := [(0, .iload_n 1, 0, 0),
  (1, .iconst 1, 0, 0),
  (2, .isub, 0, 0),
  (3, .istore_n 2, 0, 0),
  (4, .iload_n 2, 0, 0),
  (5, .ifCond .lt 53, 0, 0),
  (8, .aload_n 0, 0, 0),
  (9, .getfield 61, 85, 967),
  (12, .iload_n 2, 0, 0),
  (13, .iaload, 0, 0),
  (14, .iconst 5, 0, 0),
  (15, .if_icmp .ge 37, 0, 0),
  (18, .aload_n 0, 0, 0),
  (19, .getfield 61, 85, 967),
  (22, .iload_n 2, 0, 0),
  (23, .iaload, 0, 0),
  (24, .iconst 1, 0, 0),
  (25, .iadd, 0, 0),
  (26, .istore_n 3, 0, 0),
  (27, .iload_n 2, 0, 0),
  (28, .istore 4, 0, 0),
  (30, .iload 4, 0, 0),
  (32, .iload_n 1, 0, 0),
  (33, .if_icmp .ge 17, 0, 0),
  (36, .aload_n 0, 0, 0),
  (37, .getfield 61, 85, 967),
  (40, .iload 4, 0, 0),
  (42, .iload_n 3, 0, 0),
  (43, .iastore, 0, 0),
  (44, .iinc 4 1, 0, 0),
  (47, .goto (-17), 0, 0),
  (50, .iconst 1, 0, 0),
  (51, .ireturn, 0, 0),
  (52, .iinc 2 (-1), 0, 0),
  (55, .goto (-51), 0, 0),
  (58, .iconst 0, 0, 0),
  (59, .ireturn, 0, 0)]
def xe_164 : XMe := ("BetweenThisAndThatModel", ⟨"BetweenThisAndThatModel", "nextRow", "(I)Z"⟩, prog_10_method_55_code, 5, some (Jvm.ClassFile.FieldType.boolean), 108, 1, (1218, 1217, 57, 77))
def xi_165 : List XIn := [(0, .aload_n 0, 0, 0),
  (1, .iconst 0, 0, 0),
  (2, .invokevirtual 180, 145, 1119),
  (5, .iconst 0, 0, 0),
  (6, .istore_n 2, 0, 0),
  (7, .iload_n 2, 0, 0),
  (8, .bipush 6, 0, 0),
  (10, .if_icmp .ge 71, 0, 0),
  (13, .iconst 0, 0, 0),
  (14, .istore_n 3, 0, 0),
  (15, .iconst 0, 0, 0),
  (16, .istore 4, 0, 0),
  (18, .iload 4, 0, 0),
  (20, .iload_n 1, 0, 0),
  (21, .if_icmp .ge 28, 0, 0),
  (24, .iload_n 3, 0, 0),
  (25, .aload_n 0, 0, 0),
  (26, .getfield 61, 85, 967),
  (29, .iload 4, 0, 0),
  (31, .iaload, 0, 0),
  (32, .iload_n 2, 0, 0),
  (33, .if_icmp .ne 7, 0, 0),
  (36, .iconst 1, 0, 0),
  (37, .goto 4, 0, 0),
  (40, .iconst 0, 0, 0),
  (41, .iadd, 0, 0),
  (42, .istore_n 3, 0, 0),
  (43, .iinc 4 1, 0, 0),
  (46, .goto (-28), 0, 0),
  (49, .aload_n 0, 0, 0),
  (50, .getfield 52, 80, 962),
  (53, .iload_n 2, 0, 0),
  (54, .dup2, 0, 0),
  (55, .iaload, 0, 0),
  (56, .iload_n 3, 0, 0),
  (57, .iconst 2, 0, 0),
  (58, .idiv, 0, 0),
  (59, .iadd, 0, 0),
  (60, .iastore, 0, 0),
  (61, .aload_n 0, 0, 0),
  (62, .getfield 55, 81, 963),
  (65, .iload_n 2, 0, 0),
  (66, .dup2, 0, 0),
  (67, .iaload, 0, 0),
  (68, .iload_n 3, 0, 0),
  (69, .iconst 1, 0, 0),
  (70, .iadd, 0, 0),
  (71, .iconst 2, 0, 0),
  (72, .idiv, 0, 0),
  (73, .isub, 0, 0),
  (74, .iastore, 0, 0),
  (75, .iinc 2 1, 0, 0),
  (78, .goto (-71), 0, 0),
  (81, .aload_n 0, 0, 0),
  (82, .iconst 0, 0, 0),
  (83, .invokevirtual 183, 147, 1123),
  (86, .ireturn, 0, 0)]
def xe_165 : XMe := ("BetweenThisAndThatModel", ⟨"BetweenThisAndThatModel", "buys", "(I)Z"⟩, prog_10_method_56_code, 5, some (Jvm.ClassFile.FieldType.boolean), 108, 1, (1206, 1205, 54, 77))
def xi_166 : List XIn := [(0, .iconst 0, 0, 0),
  (1, .istore_n 2, 0, 0),
  (2, .iconst 0, 0, 0),
  (3, .istore_n 3, 0, 0),
  (4, .iload_n 3, 0, 0),
  (5, .iload_n 1, 0, 0),
  (6, .if_icmp .ge 23, 0, 0),
  (9, .bipush 10, 0, 0),
  (11, .iload_n 2, 0, 0),
  (12, .imul, 0, 0),
  (13, .aload_n 0, 0, 0),
  (14, .getfield 61, 85, 967),
  (17, .iload_n 3, 0, 0),
  (18, .iaload, 0, 0),
  (19, .iadd, 0, 0),
  (20, .iconst 1, 0, 0),
  (21, .iadd, 0, 0),
  (22, .istore_n 2, 0, 0),
  (23, .iinc 3 1, 0, 0),
  (26, .goto (-22), 0, 0),
  (29, .iload_n 2, 0, 0),
  (30, .ireturn, 0, 0)]
def xe_166 : XMe := ("BetweenThisAndThatModel", ⟨"BetweenThisAndThatModel", "rowDigits", "(I)I"⟩, prog_10_method_57_code, 4, some (Jvm.ClassFile.FieldType.int), 108, 1, (1214, 1213, 56, 77))
def xi_167 : List XIn := [(0, .aload_n 0, 0, 0),
  (1, .iload_n 1, 0, 0),
  (2, .invokevirtual 219, 116, 1171),
  (5, .ifCond .eq 30, 0, 0),
  (8, .iload_n 2, 0, 0),
  (9, .iconst 0, 0, 0),
  (10, .sipush 999, 0, 0),
  (13, .invokestatic 75, 112, 891),
  (16, .ifCond .eq 19, 0, 0),
  (19, .iload_n 3, 0, 0),
  (20, .iconst 0, 0, 0),
  (21, .iconst 1, 0, 0),
  (22, .invokestatic 75, 112, 891),
  (25, .ifCond .eq 10, 0, 0),
  (28, .aload_n 0, 0, 0),
  (29, .invokevirtual 186, 148, 1115),
  (32, .ifCond .ne 7, 0, 0),
  (35, .ldc2_w 222, 0, 1175),
  (38, .lreturn, 0, 0),
  (39, .aload_n 0, 0, 0),
  (40, .invokevirtual 224, 162, 1195),
  (43, .istore 4, 0, 0),
  (45, .iload 4, 0, 0),
  (47, .ifCond .ne 7, 0, 0),
  (50, .iconst 4, 0, 0),
  (51, .goto 12, 0, 0),
  (54, .iload_n 2, 0, 0),
  (55, .iload 4, 0, 0),
  (57, .idiv, 0, 0),
  (58, .iconst 0, 0, 0),
  (59, .iconst 4, 0, 0),
  (60, .invokestatic 164, 113, 1096),
  (63, .istore 5, 0, 0),
  (65, .iconst 0, 0, 0),
  (66, .istore 6, 0, 0),
  (68, .iload 6, 0, 0),
  (70, .iconst 4, 0, 0),
  (71, .if_icmp .ge 17, 0, 0),
  (74, .aload_n 0, 0, 0),
  (75, .getfield 61, 85, 967),
  (78, .iload 6, 0, 0),
  (80, .iconst 0, 0, 0),
  (81, .iastore, 0, 0),
  (82, .iinc 6 1, 0, 0),
  (85, .goto (-17), 0, 0),
  (88, .ldc2_w 222, 0, 1175),
  (91, .lstore 6, 0, 0),
  (93, .iconst 0, 0, 0),
  (94, .istore 8, 0, 0),
  (96, .iconst 1, 0, 0),
  (97, .istore 9, 0, 0),
  (99, .iload 9, 0, 0),
  (101, .ifCond .eq 86, 0, 0),
  (104, .aload_n 0, 0, 0),
  (105, .iload 5, 0, 0),
  (107, .invokevirtual 227, 165, 1203),
  (110, .ifCond .eq 66, 0, 0),
  (113, .aload_n 0, 0, 0),
  (114, .iload_n 1, 0, 0),
  (115, .invokevirtual 230, 160, 1207),
  (118, .lstore 10, 0, 0),
  (120, .lload 6, 0, 0),
  (122, .ldc2_w 222, 0, 1175),
  (125, .lcmp, 0, 0),
  (126, .ifCond .eq 11, 0, 0),
  (129, .lload 10, 0, 0),
  (131, .lload 6, 0, 0),
  (133, .lcmp, 0, 0),
  (134, .ifCond .ge 12, 0, 0),
  (137, .aload_n 0, 0, 0),
  (138, .iload 5, 0, 0),
  (140, .invokevirtual 234, 166, 1211),
  (143, .goto 5, 0, 0),
  (146, .iload 8, 0, 0),
  (148, .istore 8, 0, 0),
  (150, .lload 6, 0, 0),
  (152, .ldc2_w 222, 0, 1175),
  (155, .lcmp, 0, 0),
  (156, .ifCond .eq 11, 0, 0),
  (159, .lload 10, 0, 0),
  (161, .lload 6, 0, 0),
  (163, .lcmp, 0, 0),
  (164, .ifCond .ge 8, 0, 0),
  (167, .lload 10, 0, 0),
  (169, .goto 5, 0, 0),
  (172, .lload 6, 0, 0),
  (174, .lstore 6, 0, 0),
  (176, .aload_n 0, 0, 0),
  (177, .iload 5, 0, 0),
  (179, .invokevirtual 237, 164, 1215),
  (182, .istore 9, 0, 0),
  (184, .goto (-85), 0, 0),
  (187, .lload 6, 0, 0),
  (189, .ldc2_w 222, 0, 1175),
  (192, .lcmp, 0, 0),
  (193, .ifCond .ne 9, 0, 0),
  (196, .ldc2_w 222, 0, 1175),
  (199, .goto 15, 0, 0),
  (202, .iload_n 3, 0, 0),
  (203, .ifCond .ne 9, 0, 0),
  (206, .iload 8, 0, 0),
  (208, .i2l, 0, 0),
  (209, .goto 5, 0, 0),
  (212, .lload 6, 0, 0),
  (214, .lreturn, 0, 0)]
def xe_167 : XMe := ("BetweenThisAndThatModel", ⟨"BetweenThisAndThatModel", "buy", "(III)J"⟩, prog_10_method_58_code, 12, some (Jvm.ClassFile.FieldType.long), 108, 3, (1202, 1200, 1201, 77))
def xi_168 : List XIn := [(0, .aload_n 0, 0, 0),
  (1, .iload_n 1, 0, 0),
  (2, .invokevirtual 219, 116, 1171),
  (5, .ifCond .eq 18, 0, 0),
  (8, .aload_n 0, 0, 0),
  (9, .iload_n 2, 0, 0),
  (10, .invokevirtual 167, 114, 1080),
  (13, .ifCond .eq 10, 0, 0),
  (16, .aload_n 0, 0, 0),
  (17, .invokevirtual 186, 148, 1115),
  (20, .ifCond .ne 7, 0, 0),
  (23, .ldc2_w 222, 0, 1175),
  (26, .lreturn, 0, 0),
  (27, .aload_n 0, 0, 0),
  (28, .iload_n 1, 0, 0),
  (29, .invokevirtual 230, 160, 1207),
  (32, .lstore_n 3, 0, 0),
  (33, .aload_n 0, 0, 0),
  (34, .iconst 1, 0, 0),
  (35, .iload_n 2, 0, 0),
  (36, .ishl, 0, 0),
  (37, .invokevirtual 180, 145, 1119),
  (40, .aload_n 0, 0, 0),
  (41, .iconst 0, 0, 0),
  (42, .invokevirtual 183, 147, 1123),
  (45, .pop, 0, 0),
  (46, .aload_n 0, 0, 0),
  (47, .iload_n 1, 0, 0),
  (48, .invokevirtual 230, 160, 1207),
  (51, .lload_n 3, 0, 0),
  (52, .lsub, 0, 0),
  (53, .lreturn, 0, 0)]
def xe_168 : XMe := ("BetweenThisAndThatModel", ⟨"BetweenThisAndThatModel", "worth", "(II)J"⟩, prog_10_method_59_code, 5, some (Jvm.ClassFile.FieldType.long), 108, 2, (1222, 1220, 1221, 77))
def xi_169 : List XIn := [(0, .aload_n 0, 0, 0),
  (1, .iload_n 1, 0, 0),
  (2, .invokevirtual 219, 116, 1171),
  (5, .ifCond .eq 21, 0, 0),
  (8, .iload_n 2, 0, 0),
  (9, .invokestatic 155, 115, 1069),
  (12, .ifCond .eq 14, 0, 0),
  (15, .iload_n 3, 0, 0),
  (16, .iconst 0, 0, 0),
  (17, .sipush 999, 0, 0),
  (20, .invokestatic 75, 112, 891),
  (23, .ifCond .ne 7, 0, 0),
  (26, .ldc2_w 222, 0, 1175),
  (29, .lreturn, 0, 0),
  (30, .aload_n 0, 0, 0),
  (31, .iconst 0, 0, 0),
  (32, .invokevirtual 180, 145, 1119),
  (35, .aload_n 0, 0, 0),
  (36, .getfield 52, 80, 962),
  (39, .iload_n 2, 0, 0),
  (40, .iload_n 3, 0, 0),
  (41, .iastore, 0, 0),
  (42, .aload_n 0, 0, 0),
  (43, .getfield 55, 81, 963),
  (46, .iload_n 2, 0, 0),
  (47, .iload_n 3, 0, 0),
  (48, .iastore, 0, 0),
  (49, .aload_n 0, 0, 0),
  (50, .iconst 0, 0, 0),
  (51, .invokevirtual 183, 147, 1123),
  (54, .ifCond .eq 11, 0, 0),
  (57, .aload_n 0, 0, 0),
  (58, .iload_n 1, 0, 0),
  (59, .invokevirtual 230, 160, 1207),
  (62, .goto 6, 0, 0),
  (65, .ldc2_w 222, 0, 1175),
  (68, .lreturn, 0, 0)]
def xe_169 : XMe := ("BetweenThisAndThatModel", ⟨"BetweenThisAndThatModel", "exact", "(III)J"⟩, prog_10_method_60_code, 4, some (Jvm.ClassFile.FieldType.long), 108, 3, (1226, 1224, 1225, 77))
def xi_170 : List XIn := [(0, .lload_n 0, 0, 0),
  (1, .lconst 0, 0, 0),
  (2, .lcmp, 0, 0),
  (3, .ifCond .ne 7, 0, 0),
  (6, .iload 4, 0, 0),
  (8, .i2l, 0, 0),
  (9, .lreturn, 0, 0),
  (10, .lload_n 0, 0, 0),
  (11, .lstore 5, 0, 0),
  (13, .lload_n 2, 0, 0),
  (14, .lstore 7, 0, 0),
  (16, .lload 7, 0, 0),
  (18, .lconst 0, 0, 0),
  (19, .lcmp, 0, 0),
  (20, .ifCond .eq 21, 0, 0),
  (23, .lload 5, 0, 0),
  (25, .lload 7, 0, 0),
  (27, .lrem, 0, 0),
  (28, .lstore 9, 0, 0),
  (30, .lload 7, 0, 0),
  (32, .lstore 5, 0, 0),
  (34, .lload 9, 0, 0),
  (36, .lstore 7, 0, 0),
  (38, .goto (-22), 0, 0),
  (41, .iload 4, 0, 0),
  (43, .ifCond .ne 7, 0, 0),
  (46, .lload_n 0, 0, 0),
  (47, .goto 4, 0, 0),
  (50, .lload_n 2, 0, 0),
  (51, .lload 5, 0, 0),
  (53, .ldiv, 0, 0),
  (54, .lreturn, 0, 0)]
def xe_170 : XMe := ("BetweenThisAndThatModel", ⟨"BetweenThisAndThatModel", "lowest", "(JJI)J"⟩, prog_10_method_61_code, 11, some (Jvm.ClassFile.FieldType.long), 0, 3, (1233, 1232, 0, 77))
def xi_171 : List XIn := [(0, .iload_n 1, 0, 0),
  (1, .invokestatic 155, 115, 1069),
  (4, .ifCond .eq 30, 0, 0),
  (7, .iload_n 2, 0, 0),
  (8, .iconst 0, 0, 0),
  (9, .sipush 999, 0, 0),
  (12, .invokestatic 75, 112, 891),
  (15, .ifCond .eq 19, 0, 0),
  (18, .iload_n 3, 0, 0),
  (19, .iconst 0, 0, 0),
  (20, .iconst 1, 0, 0),
  (21, .invokestatic 75, 112, 891),
  (24, .ifCond .eq 10, 0, 0),
  (27, .aload_n 0, 0, 0),
  (28, .invokevirtual 186, 148, 1115),
  (31, .ifCond .ne 7, 0, 0),
  (34, .ldc2_w 222, 0, 1175),
  (37, .lreturn, 0, 0),
  (38, .aload_n 0, 0, 0),
  (39, .iload_n 1, 0, 0),
  (40, .invokevirtual 192, 150, 1139),
  (43, .aload_n 0, 0, 0),
  (44, .iload_n 1, 0, 0),
  (45, .invokevirtual 189, 149, 1135),
  (48, .isub, 0, 0),
  (49, .iconst 1, 0, 0),
  (50, .iadd, 0, 0),
  (51, .istore 4, 0, 0),
  (53, .iload_n 2, 0, 0),
  (54, .aload_n 0, 0, 0),
  (55, .iload_n 1, 0, 0),
  (56, .invokevirtual 189, 149, 1135),
  (59, .isub, 0, 0),
  (60, .iconst 1, 0, 0),
  (61, .iadd, 0, 0),
  (62, .iconst 0, 0, 0),
  (63, .iload 4, 0, 0),
  (65, .invokestatic 164, 113, 1096),
  (68, .i2l, 0, 0),
  (69, .iload 4, 0, 0),
  (71, .i2l, 0, 0),
  (72, .iload_n 3, 0, 0),
  (73, .invokestatic 240, 170, 1231),
  (76, .lreturn, 0, 0)]
def xe_171 : XMe := ("BetweenThisAndThatModel", ⟨"BetweenThisAndThatModel", "wage\x72", "(III)J"⟩, prog_10_method_62_code, 5, some (Jvm.ClassFile.FieldType.long), 108, 3, (1230, 1228, 1229, 77))
def xi_172 : List XIn := [(0, .iload_n 1, 0, 0),
  (1, .invokestatic 155, 115, 1069),
  (4, .ifCond .eq 31, 0, 0),
  (7, .iload_n 2, 0, 0),
  (8, .invokestatic 155, 115, 1069),
  (11, .ifCond .eq 24, 0, 0),
  (14, .iload_n 1, 0, 0),
  (15, .iload_n 2, 0, 0),
  (16, .if_icmp .eq 19, 0, 0),
  (19, .iload_n 3, 0, 0),
  (20, .iconst 0, 0, 0),
  (21, .iconst 1, 0, 0),
  (22, .invokestatic 75, 112, 891),
  (25, .ifCond .eq 10, 0, 0),
  (28, .aload_n 0, 0, 0),
  (29, .invokevirtual 186, 148, 1115),
  (32, .ifCond .ne 7, 0, 0),
  (35, .ldc2_w 222, 0, 1175),
  (38, .lreturn, 0, 0),
  (39, .aload_n 0, 0, 0),
  (40, .iload_n 2, 0, 0),
  (41, .invokevirtual 192, 150, 1139),
  (44, .aload_n 0, 0, 0),
  (45, .iload_n 2, 0, 0),
  (46, .invokevirtual 189, 149, 1135),
  (49, .isub, 0, 0),
  (50, .iconst 1, 0, 0),
  (51, .iadd, 0, 0),
  (52, .istore 4, 0, 0),
  (54, .lconst 0, 0, 0),
  (55, .lstore 5, 0, 0),
  (57, .aload_n 0, 0, 0),
  (58, .iload_n 1, 0, 0),
  (59, .invokevirtual 189, 149, 1135),
  (62, .istore 7, 0, 0),
  (64, .iload 7, 0, 0),
  (66, .aload_n 0, 0, 0),
  (67, .iload_n 1, 0, 0),
  (68, .invokevirtual 192, 150, 1139),
  (71, .if_icmp .gt 29, 0, 0),
  (74, .lload 5, 0, 0),
  (76, .aload_n 0, 0, 0),
  (77, .iload_n 2, 0, 0),
  (78, .invokevirtual 192, 150, 1139),
  (81, .iload 7, 0, 0),
  (83, .isub, 0, 0),
  (84, .iconst 0, 0, 0),
  (85, .iload 4, 0, 0),
  (87, .invokestatic 164, 113, 1096),
  (90, .i2l, 0, 0),
  (91, .ladd, 0, 0),
  (92, .lstore 5, 0, 0),
  (94, .iinc 7 1, 0, 0),
  (97, .goto (-33), 0, 0),
  (100, .lload 5, 0, 0),
  (102, .aload_n 0, 0, 0),
  (103, .iload_n 1, 0, 0),
  (104, .invokevirtual 192, 150, 1139),
  (107, .aload_n 0, 0, 0),
  (108, .iload_n 1, 0, 0),
  (109, .invokevirtual 189, 149, 1135),
  (112, .isub, 0, 0),
  (113, .i2l, 0, 0),
  (114, .lconst 1, 0, 0),
  (115, .ladd, 0, 0),
  (116, .iload 4, 0, 0),
  (118, .i2l, 0, 0),
  (119, .lmul, 0, 0),
  (120, .iload_n 3, 0, 0),
  (121, .invokestatic 240, 170, 1231),
  (124, .lreturn, 0, 0)]
def xe_172 : XMe := ("BetweenThisAndThatModel", ⟨"BetweenThisAndThatModel", "less", "(III)J"⟩, prog_10_method_63_code, 8, some (Jvm.ClassFile.FieldType.long), 108, 3, (1237, 1235, 1236, 77))
def xi_173 : List XIn := [(0, .iload_n 1, 0, 0),
  (1, .iconst 0, 0, 0),
  (2, .iconst 3, 0, 0),
  (3, .invokestatic 75, 112, 891),
  (6, .ifCond .ne 6, 0, 0),
  (9, .bipush (-2), 0, 0),
  (11, .ireturn, 0, 0),
  (12, .aload_n 0, 0, 0),
  (13, .getfield 28, 65, 947),
  (16, .iload_n 1, 0, 0),
  (17, .iaload, 0, 0),
  (18, .iconst (-1), 0, 0),
  (19, .if_icmp .ne 6, 0, 0),
  (22, .bipush (-11), 0, 0),
  (24, .ireturn, 0, 0),
  (25, .aload_n 0, 0, 0),
  (26, .getfield 31, 66, 948),
  (29, .iload_n 1, 0, 0),
  (30, .iaload, 0, 0),
  (31, .bipush 6, 0, 0),
  (33, .if_icmp .ne 7, 0, 0),
  (36, .iconst 0, 0, 0),
  (37, .goto 5, 0, 0),
  (40, .bipush (-2), 0, 0),
  (42, .ireturn, 0, 0)]
def xe_173 : XMe := ("BetweenThisAndThatModel", ⟨"BetweenThisAndThatModel", "sheetWrong", "(I)I"⟩, prog_10_method_64_code, 2, some (Jvm.ClassFile.FieldType.int), 108, 1, (1245, 1244, 58, 77))
def xi_174 : List XIn := [(0, .aload_n 0, 0, 0),
  (1, .iload_n 1, 0, 0),
  (2, .invokevirtual 244, 173, 1242),
  (5, .istore_n 2, 0, 0),
  (6, .iload_n 2, 0, 0),
  (7, .ifCond .eq 5, 0, 0),
  (10, .iload_n 2, 0, 0),
  (11, .ireturn, 0, 0),
  (12, .iconst 0, 0, 0),
  (13, .istore_n 3, 0, 0),
  (14, .iconst 0, 0, 0),
  (15, .istore 4, 0, 0),
  (17, .iload 4, 0, 0),
  (19, .aload_n 0, 0, 0),
  (20, .getfield 72, 48, 930),
  (23, .if_icmp .ge 59, 0, 0),
  (26, .iload_n 3, 0, 0),
  (27, .aload_n 0, 0, 0),
  (28, .getfield 34, 67, 949),
  (31, .bipush 40, 0, 0),
  (33, .iload_n 1, 0, 0),
  (34, .imul, 0, 0),
  (35, .aload_n 0, 0, 0),
  (36, .getfield 7, 49, 931),
  (39, .iconst 5, 0, 0),
  (40, .iload 4, 0, 0),
  (42, .imul, 0, 0),
  (43, .iconst 1, 0, 0),
  (44, .iadd, 0, 0),
  (45, .iaload, 0, 0),
  (46, .iadd, 0, 0),
  (47, .iaload, 0, 0),
  (48, .aload_n 0, 0, 0),
  (49, .iload 4, 0, 0),
  (51, .invokevirtual 170, 140, 1084),
  (54, .aload_n 0, 0, 0),
  (55, .iload 4, 0, 0),
  (57, .invokevirtual 173, 141, 1099),
  (60, .invokestatic 75, 112, 891),
  (63, .ifCond .eq 7, 0, 0),
  (66, .iconst 0, 0, 0),
  (67, .goto 7, 0, 0),
  (70, .iconst 1, 0, 0),
  (71, .iload 4, 0, 0),
  (73, .ishl, 0, 0),
  (74, .ior, 0, 0),
  (75, .istore_n 3, 0, 0),
  (76, .iinc 4 1, 0, 0),
  (79, .goto (-62), 0, 0),
  (82, .iload_n 3, 0, 0),
  (83, .ireturn, 0, 0)]
def xe_174 : XMe := ("BetweenThisAndThatModel", ⟨"BetweenThisAndThatModel", "lies", "(I)I"⟩, prog_10_method_65_code, 5, some (Jvm.ClassFile.FieldType.int), 108, 1, (1241, 1239, 1240, 77))
def xi_175 : List XIn := [(0, .aload_n 0, 0, 0),
  (1, .iload_n 1, 0, 0),
  (2, .invokevirtual 244, 173, 1242),
  (5, .istore_n 2, 0, 0),
  (6, .iload_n 2, 0, 0),
  (7, .ifCond .eq 5, 0, 0),
  (10, .iload_n 2, 0, 0),
  (11, .ireturn, 0, 0),
  (12, .iconst 0, 0, 0),
  (13, .istore_n 3, 0, 0),
  (14, .iconst 0, 0, 0),
  (15, .istore 4, 0, 0),
  (17, .iload 4, 0, 0),
  (19, .aload_n 0, 0, 0),
  (20, .getfield 82, 50, 932),
  (23, .if_icmp .ge 101, 0, 0),
  (26, .aload_n 0, 0, 0),
  (27, .getfield 34, 67, 949),
  (30, .bipush 40, 0, 0),
  (32, .iload_n 1, 0, 0),
  (33, .imul, 0, 0),
  (34, .aload_n 0, 0, 0),
  (35, .getfield 13, 51, 933),
  (38, .iconst 4, 0, 0),
  (39, .iload 4, 0, 0),
  (41, .imul, 0, 0),
  (42, .iconst 1, 0, 0),
  (43, .iadd, 0, 0),
  (44, .iaload, 0, 0),
  (45, .iadd, 0, 0),
  (46, .iaload, 0, 0),
  (47, .i2l, 0, 0),
  (48, .aload_n 0, 0, 0),
  (49, .getfield 34, 67, 949),
  (52, .bipush 40, 0, 0),
  (54, .iload_n 1, 0, 0),
  (55, .imul, 0, 0),
  (56, .aload_n 0, 0, 0),
  (57, .getfield 13, 51, 933),
  (60, .iconst 4, 0, 0),
  (61, .iload 4, 0, 0),
  (63, .imul, 0, 0),
  (64, .iaload, 0, 0),
  (65, .iadd, 0, 0),
  (66, .iaload, 0, 0),
  (67, .i2l, 0, 0),
  (68, .lsub, 0, 0),
  (69, .lstore 5, 0, 0),
  (71, .iload_n 3, 0, 0),
  (72, .lload 5, 0, 0),
  (74, .aload_n 0, 0, 0),
  (75, .getfield 13, 51, 933),
  (78, .iconst 4, 0, 0),
  (79, .iload 4, 0, 0),
  (81, .imul, 0, 0),
  (82, .iconst 2, 0, 0),
  (83, .iadd, 0, 0),
  (84, .iaload, 0, 0),
  (85, .i2l, 0, 0),
  (86, .lcmp, 0, 0),
  (87, .ifCond .lt 25, 0, 0),
  (90, .lload 5, 0, 0),
  (92, .aload_n 0, 0, 0),
  (93, .getfield 13, 51, 933),
  (96, .iconst 4, 0, 0),
  (97, .iload 4, 0, 0),
  (99, .imul, 0, 0),
  (100, .iconst 3, 0, 0),
  (101, .iadd, 0, 0),
  (102, .iaload, 0, 0),
  (103, .i2l, 0, 0),
  (104, .lcmp, 0, 0),
  (105, .ifCond .gt 7, 0, 0),
  (108, .iconst 0, 0, 0),
  (109, .goto 7, 0, 0),
  (112, .iconst 1, 0, 0),
  (113, .iload 4, 0, 0),
  (115, .ishl, 0, 0),
  (116, .ior, 0, 0),
  (117, .istore_n 3, 0, 0),
  (118, .iinc 4 1, 0, 0),
  (121, .goto (-104), 0, 0),
  (124, .iload_n 3, 0, 0),
  (125, .ireturn, 0, 0)]
def xe_175 : XMe := ("BetweenThisAndThatModel", ⟨"BetweenThisAndThatModel", "breaks", "(I)I"⟩, prog_10_method_66_code, 7, some (Jvm.ClassFile.FieldType.int), 108, 1, (1249, 1247, 1248, 77))
def xi_176 : List XIn := [(0, .aload_n 0, 0, 0),
  (1, .iload_n 1, 0, 0),
  (2, .invokevirtual 244, 173, 1242),
  (5, .istore_n 2, 0, 0),
  (6, .iload_n 2, 0, 0),
  (7, .ifCond .ne 10, 0, 0),
  (10, .aload_n 0, 0, 0),
  (11, .invokevirtual 186, 148, 1115),
  (14, .ifCond .ne 14, 0, 0),
  (17, .iload_n 2, 0, 0),
  (18, .ifCond .eq 7, 0, 0),
  (21, .iload_n 2, 0, 0),
  (22, .goto 5, 0, 0),
  (25, .bipush (-9), 0, 0),
  (27, .ireturn, 0, 0),
  (28, .iconst 0, 0, 0),
  (29, .istore_n 3, 0, 0),
  (30, .iload_n 3, 0, 0),
  (31, .bipush 6, 0, 0),
  (33, .if_icmp .ge 38, 0, 0),
  (36, .aload_n 0, 0, 0),
  (37, .getfield 34, 67, 949),
  (40, .bipush 40, 0, 0),
  (42, .iload_n 1, 0, 0),
  (43, .imul, 0, 0),
  (44, .iload_n 3, 0, 0),
  (45, .iadd, 0, 0),
  (46, .iaload, 0, 0),
  (47, .aload_n 0, 0, 0),
  (48, .iload_n 3, 0, 0),
  (49, .invokevirtual 189, 149, 1135),
  (52, .aload_n 0, 0, 0),
  (53, .iload_n 3, 0, 0),
  (54, .invokevirtual 192, 150, 1139),
  (57, .invokestatic 75, 112, 891),
  (60, .ifCond .ne 5, 0, 0),
  (63, .iload_n 3, 0, 0),
  (64, .ireturn, 0, 0),
  (65, .iinc 3 1, 0, 0),
  (68, .goto (-38), 0, 0),
  (71, .iconst (-1), 0, 0),
  (72, .ireturn, 0, 0)]
def xe_176 : XMe := ("BetweenThisAndThatModel", ⟨"BetweenThisAndThatModel", "judge", "(I)I"⟩, prog_10_method_67_code, 4, some (Jvm.ClassFile.FieldType.int), 108, 1, (1253, 1251, 1252, 77))
def xi_177 : List XIn := [(0, .iconst 0, 0, 0),
  (1, .istore_n 2, 0, 0),
  (2, .iload_n 2, 0, 0),
  (3, .bipush 6, 0, 0),
  (5, .if_icmp .ge 26, 0, 0),
  (8, .aload_n 0, 0, 0),
  (9, .getfield 49, 79, 961),
  (12, .iload_n 2, 0, 0),
  (13, .aload_n 0, 0, 0),
  (14, .getfield 34, 67, 949),
  (17, .bipush 40, 0, 0),
  (19, .iload_n 1, 0, 0),
  (20, .imul, 0, 0),
  (21, .iload_n 2, 0, 0),
  (22, .iadd, 0, 0),
  (23, .iaload, 0, 0),
  (24, .iastore, 0, 0),
  (25, .iinc 2 1, 0, 0),
  (28, .goto (-26), 0, 0),
  (31, .return_, 0, 0)]
def xe_177 : XMe := ("BetweenThisAndThatModel", ⟨"BetweenThisAndThatModel", "names", "(I)V"⟩, prog_10_method_68_code, 3, none, 108, 1, (1261, 1260, 59, 77))
def xi_178 : List XIn := [(0, .aload_n 0, 0, 0),
  (1, .iload_n 1, 0, 0),
  (2, .invokevirtual 244, 173, 1242),
  (5, .ifCond .ne 11, 0, 0),
  (8, .aload_n 0, 0, 0),
  (9, .iload_n 2, 0, 0),
  (10, .invokevirtual 219, 116, 1171),
  (13, .ifCond .ne 7, 0, 0),
  (16, .ldc2_w 222, 0, 1175),
  (19, .lreturn, 0, 0),
  (20, .aload_n 0, 0, 0),
  (21, .iload_n 1, 0, 0),
  (22, .invokevirtual 247, 177, 1258),
  (25, .aload_n 0, 0, 0),
  (26, .iload_n 2, 0, 0),
  (27, .iconst 0, 0, 0),
  (28, .invokevirtual 206, 158, 1180),
  (31, .i2l, 0, 0),
  (32, .lreturn, 0, 0)]
def xe_178 : XMe := ("BetweenThisAndThatModel", ⟨"BetweenThisAndThatModel", "reckon", "(II)J"⟩, prog_10_method_69_code, 3, some (Jvm.ClassFile.FieldType.long), 108, 2, (1257, 1255, 1256, 77))
def xi_179 : List XIn := [(0, .aload_n 0, 0, 0),
  (1, .iload_n 1, 0, 0),
  (2, .invokevirtual 244, 173, 1242),
  (5, .istore_n 2, 0, 0),
  (6, .iload_n 2, 0, 0),
  (7, .ifCond .eq 5, 0, 0),
  (10, .iload_n 2, 0, 0),
  (11, .ireturn, 0, 0),
  (12, .aload_n 0, 0, 0),
  (13, .iload_n 1, 0, 0),
  (14, .invokevirtual 247, 177, 1258),
  (17, .iconst 0, 0, 0),
  (18, .istore_n 3, 0, 0),
  (19, .iconst 0, 0, 0),
  (20, .istore 4, 0, 0),
  (22, .iload 4, 0, 0),
  (24, .aload_n 0, 0, 0),
  (25, .getfield 79, 57, 939),
  (28, .if_icmp .ge 30, 0, 0),
  (31, .iload_n 3, 0, 0),
  (32, .aload_n 0, 0, 0),
  (33, .iload 4, 0, 0),
  (35, .iconst 2, 0, 0),
  (36, .invokevirtual 206, 158, 1180),
  (39, .ifCond .ne 7, 0, 0),
  (42, .iconst 0, 0, 0),
  (43, .goto 7, 0, 0),
  (46, .iconst 1, 0, 0),
  (47, .iload 4, 0, 0),
  (49, .ishl, 0, 0),
  (50, .ior, 0, 0),
  (51, .istore_n 3, 0, 0),
  (52, .iinc 4 1, 0, 0),
  (55, .goto (-33), 0, 0),
  (58, .iload_n 3, 0, 0),
  (59, .ireturn, 0, 0)]
def xe_179 : XMe := ("BetweenThisAndThatModel", ⟨"BetweenThisAndThatModel", "laws", "(I)I"⟩, prog_10_method_70_code, 5, some (Jvm.ClassFile.FieldType.int), 108, 1, (1265, 1263, 1264, 77))
def xi_180 : List XIn := [(0, .iload_n 1, 0, 0),
  (1, .iconst 0, 0, 0),
  (2, .iconst 3, 0, 0),
  (3, .invokestatic 75, 112, 891),
  (6, .ifCond .ne 6, 0, 0),
  (9, .bipush (-2), 0, 0),
  (11, .ireturn, 0, 0),
  (12, .iload_n 2, 0, 0),
  (13, .iconst 0, 0, 0),
  (14, .iconst 1, 0, 0),
  (15, .invokestatic 75, 112, 891),
  (18, .ifCond .ne 6, 0, 0),
  (21, .bipush (-7), 0, 0),
  (23, .ireturn, 0, 0),
  (24, .aload_n 0, 0, 0),
  (25, .invokevirtual 186, 148, 1115),
  (28, .ifCond .ne 6, 0, 0),
  (31, .bipush (-9), 0, 0),
  (33, .ireturn, 0, 0),
  (34, .aload_n 0, 0, 0),
  (35, .getfield 28, 65, 947),
  (38, .iload_n 1, 0, 0),
  (39, .iconst 2, 0, 0),
  (40, .iastore, 0, 0),
  (41, .aload_n 0, 0, 0),
  (42, .getfield 31, 66, 948),
  (45, .iload_n 1, 0, 0),
  (46, .bipush 6, 0, 0),
  (48, .iastore, 0, 0),
  (49, .iconst 0, 0, 0),
  (50, .istore_n 3, 0, 0),
  (51, .iload_n 3, 0, 0),
  (52, .bipush 40, 0, 0),
  (54, .if_icmp .ge 47, 0, 0),
  (57, .aload_n 0, 0, 0),
  (58, .getfield 34, 67, 949),
  (61, .bipush 40, 0, 0),
  (63, .iload_n 1, 0, 0),
  (64, .imul, 0, 0),
  (65, .iload_n 3, 0, 0),
  (66, .iadd, 0, 0),
  (67, .iload_n 3, 0, 0),
  (68, .bipush 6, 0, 0),
  (70, .if_icmp .lt 7, 0, 0),
  (73, .iconst 0, 0, 0),
  (74, .goto 20, 0, 0),
  (77, .iload_n 2, 0, 0),
  (78, .ifCond .ne 11, 0, 0),
  (81, .aload_n 0, 0, 0),
  (82, .iload_n 3, 0, 0),
  (83, .invokevirtual 189, 149, 1135),
  (86, .goto 8, 0, 0),
  (89, .aload_n 0, 0, 0),
  (90, .iload_n 3, 0, 0),
  (91, .invokevirtual 192, 150, 1139),
  (94, .iastore, 0, 0),
  (95, .iinc 3 1, 0, 0),
  (98, .goto (-47), 0, 0),
  (101, .bipush 6, 0, 0),
  (103, .ireturn, 0, 0)]
def xe_180 : XMe := ("BetweenThisAndThatModel", ⟨"BetweenThisAndThatModel", "film", "(II)I"⟩, prog_10_method_71_code, 4, some (Jvm.ClassFile.FieldType.int), 108, 2, (1269, 1267, 1268, 77))
def xi_181 : List XIn := [(0, .iload_n 1, 0, 0),
  (1, .i2l, 0, 0),
  (2, .lconst 1, 0, 0),
  (3, .ladd, 0, 0),
  (4, .lstore_n 2, 0, 0),
  (5, .iconst 0, 0, 0),
  (6, .istore 4, 0, 0),
  (8, .iload 4, 0, 0),
  (10, .bipush 6, 0, 0),
  (12, .if_icmp .ge 52, 0, 0),
  (15, .lload_n 2, 0, 0),
  (16, .ldc2_w 250, 0, 1279),
  (19, .lmul, 0, 0),
  (20, .ldc2_w 252, 0, 1280),
  (23, .lrem, 0, 0),
  (24, .lstore_n 2, 0, 0),
  (25, .aload_n 0, 0, 0),
  (26, .getfield 49, 79, 961),
  (29, .iload 4, 0, 0),
  (31, .aload_n 0, 0, 0),
  (32, .iload 4, 0, 0),
  (34, .invokevirtual 189, 149, 1135),
  (37, .lload_n 2, 0, 0),
  (38, .aload_n 0, 0, 0),
  (39, .iload 4, 0, 0),
  (41, .invokevirtual 192, 150, 1139),
  (44, .aload_n 0, 0, 0),
  (45, .iload 4, 0, 0),
  (47, .invokevirtual 189, 149, 1135),
  (50, .isub, 0, 0),
  (51, .iconst 1, 0, 0),
  (52, .iadd, 0, 0),
  (53, .i2l, 0, 0),
  (54, .lrem, 0, 0),
  (55, .l2i, 0, 0),
  (56, .iadd, 0, 0),
  (57, .iastore, 0, 0),
  (58, .iinc 4 1, 0, 0),
  (61, .goto (-53), 0, 0),
  (64, .return_, 0, 0)]
def xe_181 : XMe := ("BetweenThisAndThatModel", ⟨"BetweenThisAndThatModel", "draws", "(I)V"⟩, prog_10_method_72_code, 5, none, 108, 1, (1278, 1277, 60, 77))
def xi_182 : List XIn := [(0, .iload_n 1, 0, 0),
  (1, .iconst 0, 0, 0),
  (2, .ldc 254, 0, 1274),
  (4, .invokestatic 75, 112, 891),
  (7, .ifCond .eq 13, 0, 0),
  (10, .iload_n 2, 0, 0),
  (11, .iconst 0, 0, 0),
  (12, .bipush 6, 0, 0),
  (14, .invokestatic 75, 112, 891),
  (17, .ifCond .ne 6, 0, 0),
  (20, .bipush (-2), 0, 0),
  (22, .ireturn, 0, 0),
  (23, .aload_n 0, 0, 0),
  (24, .invokevirtual 186, 148, 1115),
  (27, .ifCond .ne 5, 0, 0),
  (30, .iconst (-1), 0, 0),
  (31, .ireturn, 0, 0),
  (32, .aload_n 0, 0, 0),
  (33, .iload_n 1, 0, 0),
  (34, .invokevirtual 255, 181, 1275),
  (37, .iload_n 2, 0, 0),
  (38, .bipush 6, 0, 0),
  (40, .if_icmp .ge 12, 0, 0),
  (43, .aload_n 0, 0, 0),
  (44, .getfield 49, 79, 961),
  (47, .iload_n 2, 0, 0),
  (48, .iaload, 0, 0),
  (49, .goto 16, 0, 0),
  (52, .aload_n 0, 0, 0),
  (53, .iconst 2, 0, 0),
  (54, .invokevirtual 203, 134, 1184),
  (57, .ifCond .ne 7, 0, 0),
  (60, .iconst 0, 0, 0),
  (61, .goto 4, 0, 0),
  (64, .iconst 1, 0, 0),
  (65, .ireturn, 0, 0)]
def xe_182 : XMe := ("BetweenThisAndThatModel", ⟨"BetweenThisAndThatModel", "drawn", "(II)I"⟩, prog_10_method_73_code, 3, some (Jvm.ClassFile.FieldType.int), 108, 2, (1273, 1271, 1272, 77))
def xi_183 : List XIn := [(0, .iload_n 1, 0, 0),
  (1, .iconst 0, 0, 0),
  (2, .ldc 254, 0, 1274),
  (4, .invokestatic 75, 112, 891),
  (7, .ifCond .eq 29, 0, 0),
  (10, .iload_n 2, 0, 0),
  (11, .iconst 1, 0, 0),
  (12, .bipush 40, 0, 0),
  (14, .invokestatic 75, 112, 891),
  (17, .ifCond .eq 19, 0, 0),
  (20, .iload_n 3, 0, 0),
  (21, .iconst 0, 0, 0),
  (22, .iconst 1, 0, 0),
  (23, .invokestatic 75, 112, 891),
  (26, .ifCond .eq 10, 0, 0),
  (29, .aload_n 0, 0, 0),
  (30, .invokevirtual 186, 148, 1115),
  (33, .ifCond .ne 7, 0, 0),
  (36, .ldc2_w 222, 0, 1175),
  (39, .lreturn, 0, 0),
  (40, .lconst 0, 0, 0),
  (41, .lstore 4, 0, 0),
  (43, .iconst 0, 0, 0),
  (44, .istore 6, 0, 0),
  (46, .iload 6, 0, 0),
  (48, .iload_n 2, 0, 0),
  (49, .if_icmp .ge 35, 0, 0),
  (52, .aload_n 0, 0, 0),
  (53, .iload_n 1, 0, 0),
  (54, .iload 6, 0, 0),
  (56, .iadd, 0, 0),
  (57, .invokevirtual 255, 181, 1275),
  (60, .lload 4, 0, 0),
  (62, .aload_n 0, 0, 0),
  (63, .iconst 2, 0, 0),
  (64, .invokevirtual 203, 134, 1184),
  (67, .ifCond .ne 7, 0, 0),
  (70, .lconst 0, 0, 0),
  (71, .goto 4, 0, 0),
  (74, .lconst 1, 0, 0),
  (75, .ladd, 0, 0),
  (76, .lstore 4, 0, 0),
  (78, .iinc 6 1, 0, 0),
  (81, .goto (-35), 0, 0),
  (84, .lload 4, 0, 0),
  (86, .iload_n 2, 0, 0),
  (87, .i2l, 0, 0),
  (88, .iload_n 3, 0, 0),
  (89, .invokestatic 240, 170, 1231),
  (92, .lreturn, 0, 0)]
def xe_183 : XMe := ("BetweenThisAndThatModel", ⟨"BetweenThisAndThatModel", "odds", "(III)J"⟩, prog_10_method_74_code, 7, some (Jvm.ClassFile.FieldType.long), 108, 3, (1284, 1282, 1283, 77))
def xi_184 : List XIn := [(0, .aload_n 0, 0, 0),
  (1, .iconst 1, 0, 0),
  (2, .putfield 258, 59, 941),
  (5, .aload_n 0, 0, 0),
  (6, .aload_n 0, 0, 0),
  (7, .getfield 72, 48, 930),
  (10, .putfield 262, 60, 942),
  (13, .aload_n 0, 0, 0),
  (14, .aload_n 0, 0, 0),
  (15, .getfield 82, 50, 932),
  (18, .putfield 265, 61, 943),
  (21, .aload_n 0, 0, 0),
  (22, .aload_n 0, 0, 0),
  (23, .getfield 85, 52, 934),
  (26, .putfield 268, 62, 944),
  (29, .aload_n 0, 0, 0),
  (30, .aload_n 0, 0, 0),
  (31, .getfield 88, 58, 940),
  (34, .putfield 271, 63, 945),
  (37, .iconst 0, 0, 0),
  (38, .istore_n 1, 0, 0),
  (39, .iload_n 1, 0, 0),
  (40, .bipush 50, 0, 0),
  (42, .if_icmp .ge 21, 0, 0),
  (45, .aload_n 0, 0, 0),
  (46, .getfield 25, 64, 946),
  (49, .iload_n 1, 0, 0),
  (50, .aload_n 0, 0, 0),
  (51, .getfield 7, 49, 931),
  (54, .iload_n 1, 0, 0),
  (55, .iaload, 0, 0),
  (56, .iastore, 0, 0),
  (57, .iinc 1 1, 0, 0),
  (60, .goto (-21), 0, 0),
  (63, .aload_n 0, 0, 0),
  (64, .getfield 72, 48, 930),
  (67, .ireturn, 0, 0)]
def xe_184 : XMe := ("BetweenThisAndThatModel", ⟨"BetweenThisAndThatModel", "image", "()I"⟩, prog_10_method_75_code, 2, some (Jvm.ClassFile.FieldType.int), 108, 0, (1288, 1286, 1287, 77))
def xi_185 : List XIn := [(0, .aload_n 0, 0, 0),
  (1, .getfield 258, 59, 941),
  (4, .ifCond .ne 6, 0, 0),
  (7, .bipush (-3), 0, 0),
  (9, .ireturn, 0, 0),
  (10, .aload_n 0, 0, 0),
  (11, .aload_n 0, 0, 0),
  (12, .getfield 262, 60, 942),
  (15, .putfield 72, 48, 930),
  (18, .aload_n 0, 0, 0),
  (19, .aload_n 0, 0, 0),
  (20, .getfield 265, 61, 943),
  (23, .putfield 82, 50, 932),
  (26, .aload_n 0, 0, 0),
  (27, .aload_n 0, 0, 0),
  (28, .getfield 268, 62, 944),
  (31, .putfield 85, 52, 934),
  (34, .aload_n 0, 0, 0),
  (35, .aload_n 0, 0, 0),
  (36, .getfield 271, 63, 945),
  (39, .putfield 88, 58, 940),
  (42, .iconst 0, 0, 0),
  (43, .istore_n 1, 0, 0),
  (44, .iload_n 1, 0, 0),
  (45, .bipush 50, 0, 0),
  (47, .if_icmp .ge 21, 0, 0),
  (50, .aload_n 0, 0, 0),
  (51, .getfield 7, 49, 931),
  (54, .iload_n 1, 0, 0),
  (55, .aload_n 0, 0, 0),
  (56, .getfield 25, 64, 946),
  (59, .iload_n 1, 0, 0),
  (60, .iaload, 0, 0),
  (61, .iastore, 0, 0),
  (62, .iinc 1 1, 0, 0),
  (65, .goto (-21), 0, 0),
  (68, .aload_n 0, 0, 0),
  (69, .getfield 72, 48, 930),
  (72, .ireturn, 0, 0)]
def xe_185 : XMe := ("BetweenThisAndThatModel", ⟨"BetweenThisAndThatModel", "back", "()I"⟩, prog_10_method_76_code, 2, some (Jvm.ClassFile.FieldType.int), 108, 0, (1292, 1290, 1291, 77))
def xi_186 : List XIn := [(0, .iload_n 1, 0, 0),
  (1, .iconst 0, 0, 0),
  (2, .iconst 3, 0, 0),
  (3, .invokestatic 75, 112, 891),
  (6, .ifCond .eq 23, 0, 0),
  (9, .iload_n 2, 0, 0),
  (10, .iconst (-1), 0, 0),
  (11, .iconst 2, 0, 0),
  (12, .invokestatic 75, 112, 891),
  (15, .ifCond .eq 14, 0, 0),
  (18, .iload_n 2, 0, 0),
  (19, .iconst (-1), 0, 0),
  (20, .if_icmp .eq 12, 0, 0),
  (23, .iload_n 3, 0, 0),
  (24, .bipush 40, 0, 0),
  (26, .if_icmp .le 6, 0, 0),
  (29, .bipush (-2), 0, 0),
  (31, .ireturn, 0, 0),
  (32, .iload_n 2, 0, 0),
  (33, .iconst (-1), 0, 0),
  (34, .if_icmp .eq 10, 0, 0),
  (37, .iload_n 3, 0, 0),
  (38, .ifCond .ge 6, 0, 0),
  (41, .bipush (-14), 0, 0),
  (43, .ireturn, 0, 0),
  (44, .aload_n 0, 0, 0),
  (45, .getfield 28, 65, 947),
  (48, .iload_n 1, 0, 0),
  (49, .iload_n 2, 0, 0),
  (50, .iastore, 0, 0),
  (51, .aload_n 0, 0, 0),
  (52, .getfield 31, 66, 948),
  (55, .iload_n 1, 0, 0),
  (56, .iload_n 2, 0, 0),
  (57, .iconst (-1), 0, 0),
  (58, .if_icmp .ne 7, 0, 0),
  (61, .iconst 0, 0, 0),
  (62, .goto 4, 0, 0),
  (65, .iload_n 3, 0, 0),
  (66, .iastore, 0, 0),
  (67, .iconst 0, 0, 0),
  (68, .istore 4, 0, 0),
  (70, .iload 4, 0, 0),
  (72, .bipush 40, 0, 0),
  (74, .if_icmp .ge 22, 0, 0),
  (77, .aload_n 0, 0, 0),
  (78, .getfield 34, 67, 949),
  (81, .bipush 40, 0, 0),
  (83, .iload_n 1, 0, 0),
  (84, .imul, 0, 0),
  (85, .iload 4, 0, 0),
  (87, .iadd, 0, 0),
  (88, .iconst 0, 0, 0),
  (89, .iastore, 0, 0),
  (90, .iinc 4 1, 0, 0),
  (93, .goto (-23), 0, 0),
  (96, .iconst 1, 0, 0),
  (97, .ireturn, 0, 0)]
def xe_186 : XMe := ("BetweenThisAndThatModel", ⟨"BetweenThisAndThatModel", "sheet", "(III)I"⟩, prog_10_method_77_code, 5, some (Jvm.ClassFile.FieldType.int), 108, 3, (1296, 1294, 1295, 77))
def xi_187 : List XIn := [(0, .iload_n 1, 0, 0),
  (1, .iconst 0, 0, 0),
  (2, .iconst 3, 0, 0),
  (3, .invokestatic 75, 112, 891),
  (6, .ifCond .ne 6, 0, 0),
  (9, .bipush (-2), 0, 0),
  (11, .ireturn, 0, 0),
  (12, .aload_n 0, 0, 0),
  (13, .getfield 28, 65, 947),
  (16, .iload_n 1, 0, 0),
  (17, .iaload, 0, 0),
  (18, .iconst (-1), 0, 0),
  (19, .if_icmp .ne 6, 0, 0),
  (22, .bipush (-11), 0, 0),
  (24, .ireturn, 0, 0),
  (25, .iload_n 2, 0, 0),
  (26, .iconst 0, 0, 0),
  (27, .aload_n 0, 0, 0),
  (28, .getfield 31, 66, 948),
  (31, .iload_n 1, 0, 0),
  (32, .iaload, 0, 0),
  (33, .iconst 1, 0, 0),
  (34, .isub, 0, 0),
  (35, .invokestatic 75, 112, 891),
  (38, .ifCond .ne 6, 0, 0),
  (41, .bipush (-12), 0, 0),
  (43, .ireturn, 0, 0),
  (44, .aload_n 0, 0, 0),
  (45, .getfield 34, 67, 949),
  (48, .bipush 40, 0, 0),
  (50, .iload_n 1, 0, 0),
  (51, .imul, 0, 0),
  (52, .iload_n 2, 0, 0),
  (53, .iadd, 0, 0),
  (54, .aload_n 0, 0, 0),
  (55, .getfield 28, 65, 947),
  (58, .iload_n 1, 0, 0),
  (59, .iaload, 0, 0),
  (60, .ifCond .ne 8, 0, 0),
  (63, .iload_n 3, 0, 0),
  (64, .i2b, 0, 0),
  (65, .goto 19, 0, 0),
  (68, .aload_n 0, 0, 0),
  (69, .getfield 28, 65, 947),
  (72, .iload_n 1, 0, 0),
  (73, .iaload, 0, 0),
  (74, .iconst 1, 0, 0),
  (75, .if_icmp .ne 8, 0, 0),
  (78, .iload_n 3, 0, 0),
  (79, .i2s, 0, 0),
  (80, .goto 4, 0, 0),
  (83, .iload_n 3, 0, 0),
  (84, .iastore, 0, 0),
  (85, .iconst 1, 0, 0),
  (86, .ireturn, 0, 0)]
def xe_187 : XMe := ("BetweenThisAndThatModel", ⟨"BetweenThisAndThatModel", "cell", "(III)I"⟩, prog_10_method_78_code, 4, some (Jvm.ClassFile.FieldType.int), 108, 3, (1300, 1298, 1299, 77))
def xi_188 : List XIn := [(0, .iload_n 1, 0, 0),
  (1, .iconst 0, 0, 0),
  (2, .iconst 3, 0, 0),
  (3, .invokestatic 75, 112, 891),
  (6, .ifCond .eq 12, 0, 0),
  (9, .iload_n 3, 0, 0),
  (10, .iconst 0, 0, 0),
  (11, .iconst 3, 0, 0),
  (12, .invokestatic 75, 112, 891),
  (15, .ifCond .ne 6, 0, 0),
  (18, .bipush (-2), 0, 0),
  (20, .ireturn, 0, 0),
  (21, .aload_n 0, 0, 0),
  (22, .getfield 28, 65, 947),
  (25, .iload_n 1, 0, 0),
  (26, .iaload, 0, 0),
  (27, .iconst (-1), 0, 0),
  (28, .if_icmp .eq 13, 0, 0),
  (31, .aload_n 0, 0, 0),
  (32, .getfield 28, 65, 947),
  (35, .iload_n 3, 0, 0),
  (36, .iaload, 0, 0),
  (37, .iconst (-1), 0, 0),
  (38, .if_icmp .ne 6, 0, 0),
  (41, .bipush (-11), 0, 0),
  (43, .ireturn, 0, 0),
  (44, .aload_n 0, 0, 0),
  (45, .getfield 28, 65, 947),
  (48, .iload_n 1, 0, 0),
  (49, .iaload, 0, 0),
  (50, .aload_n 0, 0, 0),
  (51, .getfield 28, 65, 947),
  (54, .iload_n 3, 0, 0),
  (55, .iaload, 0, 0),
  (56, .if_icmp .eq 6, 0, 0),
  (59, .bipush (-13), 0, 0),
  (61, .ireturn, 0, 0),
  (62, .iload 5, 0, 0),
  (64, .ifCond .lt 60, 0, 0),
  (67, .iload_n 2, 0, 0),
  (68, .ifCond .lt 56, 0, 0),
  (71, .iload 4, 0, 0),
  (73, .ifCond .lt 51, 0, 0),
  (76, .iload_n 2, 0, 0),
  (77, .aload_n 0, 0, 0),
  (78, .getfield 31, 66, 948),
  (81, .iload_n 1, 0, 0),
  (82, .iaload, 0, 0),
  (83, .if_icmp .gt 41, 0, 0),
  (86, .iload 4, 0, 0),
  (88, .aload_n 0, 0, 0),
  (89, .getfield 31, 66, 948),
  (92, .iload_n 3, 0, 0),
  (93, .iaload, 0, 0),
  (94, .if_icmp .gt 30, 0, 0),
  (97, .iload 5, 0, 0),
  (99, .aload_n 0, 0, 0),
  (100, .getfield 31, 66, 948),
  (103, .iload_n 1, 0, 0),
  (104, .iaload, 0, 0),
  (105, .iload_n 2, 0, 0),
  (106, .isub, 0, 0),
  (107, .if_icmp .gt 17, 0, 0),
  (110, .iload 5, 0, 0),
  (112, .aload_n 0, 0, 0),
  (113, .getfield 31, 66, 948),
  (116, .iload_n 3, 0, 0),
  (117, .iaload, 0, 0),
  (118, .iload 4, 0, 0),
  (120, .isub, 0, 0),
  (121, .if_icmp .le 6, 0, 0),
  (124, .bipush (-12), 0, 0),
  (126, .ireturn, 0, 0),
  (127, .bipush 40, 0, 0),
  (129, .iload_n 1, 0, 0),
  (130, .imul, 0, 0),
  (131, .iload_n 2, 0, 0),
  (132, .iadd, 0, 0),
  (133, .istore 6, 0, 0),
  (135, .bipush 40, 0, 0),
  (137, .iload_n 3, 0, 0),
  (138, .imul, 0, 0),
  (139, .iload 4, 0, 0),
  (141, .iadd, 0, 0),
  (142, .istore 7, 0, 0),
  (144, .iconst 0, 0, 0),
  (145, .istore 8, 0, 0),
  (147, .iload 8, 0, 0),
  (149, .iload 5, 0, 0),
  (151, .if_icmp .ge 50, 0, 0),
  (154, .iload 6, 0, 0),
  (156, .iload 7, 0, 0),
  (158, .if_icmp .ge 13, 0, 0),
  (161, .iload 5, 0, 0),
  (163, .iconst 1, 0, 0),
  (164, .isub, 0, 0),
  (165, .iload 8, 0, 0),
  (167, .isub, 0, 0),
  (168, .goto 5, 0, 0),
  (171, .iload 8, 0, 0),
  (173, .istore 9, 0, 0),
  (175, .aload_n 0, 0, 0),
  (176, .getfield 34, 67, 949),
  (179, .iload 7, 0, 0),
  (181, .iload 9, 0, 0),
  (183, .iadd, 0, 0),
  (184, .aload_n 0, 0, 0),
  (185, .getfield 34, 67, 949),
  (188, .iload 6, 0, 0),
  (190, .iload 9, 0, 0),
  (192, .iadd, 0, 0),
  (193, .iaload, 0, 0),
  (194, .iastore, 0, 0),
  (195, .iinc 8 1, 0, 0),
  (198, .goto (-51), 0, 0),
  (201, .iload 5, 0, 0),
  (203, .ireturn, 0, 0)]
def xe_188 : XMe := ("BetweenThisAndThatModel", ⟨"BetweenThisAndThatModel", "copy", "(IIIII)I"⟩, prog_10_method_79_code, 10, some (Jvm.ClassFile.FieldType.int), 108, 5, (1304, 1302, 1303, 77))
def xi_189 : List XIn := [(0, .iload_n 1, 0, 0),
  (1, .iconst 0, 0, 0),
  (2, .iconst 3, 0, 0),
  (3, .invokestatic 75, 112, 891),
  (6, .ifCond .eq 23, 0, 0),
  (9, .iload_n 2, 0, 0),
  (10, .iconst 0, 0, 0),
  (11, .iconst 2, 0, 0),
  (12, .invokestatic 75, 112, 891),
  (15, .ifCond .eq 14, 0, 0),
  (18, .iload 4, 0, 0),
  (20, .iconst 0, 0, 0),
  (21, .bipush 10, 0, 0),
  (23, .invokestatic 75, 112, 891),
  (26, .ifCond .ne 6, 0, 0),
  (29, .bipush (-2), 0, 0),
  (31, .ireturn, 0, 0),
  (32, .aload_n 0, 0, 0),
  (33, .getfield 28, 65, 947),
  (36, .iload_n 1, 0, 0),
  (37, .iaload, 0, 0),
  (38, .iconst (-1), 0, 0),
  (39, .if_icmp .ne 6, 0, 0),
  (42, .bipush (-11), 0, 0),
  (44, .ireturn, 0, 0),
  (45, .aload_n 0, 0, 0),
  (46, .getfield 28, 65, 947),
  (49, .iload_n 1, 0, 0),
  (50, .iaload, 0, 0),
  (51, .iload_n 2, 0, 0),
  (52, .if_icmp .eq 6, 0, 0),
  (55, .bipush (-13), 0, 0),
  (57, .ireturn, 0, 0),
  (58, .iconst 0, 0, 0),
  (59, .istore 5, 0, 0),
  (61, .iconst 0, 0, 0),
  (62, .istore 6, 0, 0),
  (64, .iload 6, 0, 0),
  (66, .iload 4, 0, 0),
  (68, .if_icmp .ge 103, 0, 0),
  (71, .iload_n 3, 0, 0),
  (72, .iconst 4, 0, 0),
  (73, .iload 6, 0, 0),
  (75, .imul, 0, 0),
  (76, .iadd, 0, 0),
  (77, .istore 7, 0, 0),
  (79, .iload_n 3, 0, 0),
  (80, .ifCond .lt 22, 0, 0),
  (83, .iload 7, 0, 0),
  (85, .iload_n 3, 0, 0),
  (86, .if_icmp .lt 16, 0, 0),
  (89, .iload 7, 0, 0),
  (91, .aload_n 0, 0, 0),
  (92, .getfield 31, 66, 948),
  (95, .iload_n 1, 0, 0),
  (96, .iaload, 0, 0),
  (97, .iconst 4, 0, 0),
  (98, .isub, 0, 0),
  (99, .if_icmp .le 6, 0, 0),
  (102, .bipush (-12), 0, 0),
  (104, .ireturn, 0, 0),
  (105, .bipush 40, 0, 0),
  (107, .iload_n 1, 0, 0),
  (108, .imul, 0, 0),
  (109, .iload 7, 0, 0),
  (111, .iadd, 0, 0),
  (112, .istore 8, 0, 0),
  (114, .iload 5, 0, 0),
  (116, .aload_n 0, 0, 0),
  (117, .aload_n 0, 0, 0),
  (118, .getfield 34, 67, 949),
  (121, .iload 8, 0, 0),
  (123, .iaload, 0, 0),
  (124, .aload_n 0, 0, 0),
  (125, .getfield 34, 67, 949),
  (128, .iload 8, 0, 0),
  (130, .iconst 1, 0, 0),
  (131, .iadd, 0, 0),
  (132, .iaload, 0, 0),
  (133, .aload_n 0, 0, 0),
  (134, .getfield 34, 67, 949),
  (137, .iload 8, 0, 0),
  (139, .iconst 2, 0, 0),
  (140, .iadd, 0, 0),
  (141, .iaload, 0, 0),
  (142, .aload_n 0, 0, 0),
  (143, .getfield 34, 67, 949),
  (146, .iload 8, 0, 0),
  (148, .iconst 3, 0, 0),
  (149, .iadd, 0, 0),
  (150, .iaload, 0, 0),
  (151, .invokevirtual 274, 136, 1309),
  (154, .ifCond .lt 7, 0, 0),
  (157, .iconst 1, 0, 0),
  (158, .goto 4, 0, 0),
  (161, .iconst 0, 0, 0),
  (162, .iadd, 0, 0),
  (163, .istore 5, 0, 0),
  (165, .iinc 6 1, 0, 0),
  (168, .goto (-104), 0, 0),
  (171, .iload 5, 0, 0),
  (173, .ireturn, 0, 0)]
def xe_189 : XMe := ("BetweenThisAndThatModel", ⟨"BetweenThisAndThatModel", "sayingsBy", "(IIII)I"⟩, prog_10_method_80_code, 9, some (Jvm.ClassFile.FieldType.int), 108, 4, (1308, 1306, 1307, 77))
def xi_190 : List XIn := [(0, .iload_n 1, 0, 0),
  (1, .ifCond .eq 28, 0, 0),
  (4, .iload_n 0, 0, 0),
  (5, .iload_n 1, 0, 0),
  (6, .if_icmp .eq 23, 0, 0),
  (9, .iload_n 1, 0, 0),
  (10, .iconst 1, 0, 0),
  (11, .if_icmp .ne 8, 0, 0),
  (14, .iload_n 0, 0, 0),
  (15, .iconst 3, 0, 0),
  (16, .if_icmp .eq 13, 0, 0),
  (19, .iload_n 1, 0, 0),
  (20, .iconst 2, 0, 0),
  (21, .if_icmp .ne 12, 0, 0),
  (24, .iload_n 0, 0, 0),
  (25, .iconst 4, 0, 0),
  (26, .if_icmp .ne 7, 0, 0),
  (29, .iconst 1, 0, 0),
  (30, .goto 4, 0, 0),
  (33, .iconst 0, 0, 0),
  (34, .ireturn, 0, 0)]
def xe_190 : XMe := ("BetweenThisAndThatModel", ⟨"BetweenThisAndThatModel", "isUnde\x72", "(II)Z"⟩, prog_10_method_81_code, 2, some (Jvm.ClassFile.FieldType.boolean), 0, 2, (1316, 1315, 0, 77))
def xi_191 : List XIn := [(0, .iload_n 2, 0, 0),
  (1, .iconst 0, 0, 0),
  (2, .bipush 6, 0, 0),
  (4, .invokestatic 75, 112, 891),
  (7, .ifCond .ne 6, 0, 0),
  (10, .bipush (-2), 0, 0),
  (12, .ireturn, 0, 0),
  (13, .iload_n 1, 0, 0),
  (14, .iconst 0, 0, 0),
  (15, .bipush 17, 0, 0),
  (17, .invokestatic 75, 112, 891),
  (20, .ifCond .ne 6, 0, 0),
  (23, .bipush (-12), 0, 0),
  (25, .ireturn, 0, 0),
  (26, .iload_n 1, 0, 0),
  (27, .bipush 10, 0, 0),
  (29, .if_icmp .ge 44, 0, 0),
  (32, .iload_n 1, 0, 0),
  (33, .aload_n 0, 0, 0),
  (34, .getfield 72, 48, 930),
  (37, .if_icmp .lt 8, 0, 0),
  (40, .bipush (-11), 0, 0),
  (42, .goto 30, 0, 0),
  (45, .iload_n 2, 0, 0),
  (46, .bipush 6, 0, 0),
  (48, .if_icmp .ge 22, 0, 0),
  (51, .aload_n 0, 0, 0),
  (52, .getfield 7, 49, 931),
  (55, .iconst 5, 0, 0),
  (56, .iload_n 1, 0, 0),
  (57, .imul, 0, 0),
  (58, .iaload, 0, 0),
  (59, .iload_n 2, 0, 0),
  (60, .invokestatic 278, 190, 1314),
  (63, .ifCond .eq 7, 0, 0),
  (66, .iload_n 1, 0, 0),
  (67, .goto 5, 0, 0),
  (70, .bipush (-13), 0, 0),
  (72, .ireturn, 0, 0),
  (73, .iload_n 1, 0, 0),
  (74, .bipush 10, 0, 0),
  (76, .isub, 0, 0),
  (77, .istore_n 3, 0, 0),
  (78, .iload_n 3, 0, 0),
  (79, .aload_n 0, 0, 0),
  (80, .getfield 82, 50, 932),
  (83, .if_icmp .lt 8, 0, 0),
  (86, .bipush (-11), 0, 0),
  (88, .goto 35, 0, 0),
  (91, .iload_n 2, 0, 0),
  (92, .bipush 6, 0, 0),
  (94, .if_icmp .ne 27, 0, 0),
  (97, .aload_n 0, 0, 0),
  (98, .getfield 13, 51, 933),
  (101, .iconst 4, 0, 0),
  (102, .iload_n 3, 0, 0),
  (103, .imul, 0, 0),
  (104, .iconst 3, 0, 0),
  (105, .iadd, 0, 0),
  (106, .iaload, 0, 0),
  (107, .aload_n 0, 0, 0),
  (108, .getfield 13, 51, 933),
  (111, .iconst 4, 0, 0),
  (112, .iload_n 3, 0, 0),
  (113, .imul, 0, 0),
  (114, .iconst 2, 0, 0),
  (115, .iadd, 0, 0),
  (116, .iaload, 0, 0),
  (117, .isub, 0, 0),
  (118, .goto 5, 0, 0),
  (121, .bipush (-13), 0, 0),
  (123, .ireturn, 0, 0)]
def xe_191 : XMe := ("BetweenThisAndThatModel", ⟨"BetweenThisAndThatModel", "taken", "(II)I"⟩, prog_10_method_82_code, 4, some (Jvm.ClassFile.FieldType.int), 108, 2, (1313, 1311, 1312, 77))
def xi_192 : List XIn := [(0, .aload_n 0, 0, 0),
  (1, .getfield 9, 900, 1317),
  (4, .arraylength, 0, 0),
  (5, .aload_n 0, 0, 0),
  (6, .invokevirtual 335, 196, 292),
  (9, .ishr, 0, 0),
  (10, .ireturn, 0, 0)]
def xe_192 : XMe := ("java/lang/String", ⟨"java/lang/String", "length", "()I"⟩, prog_14_method_54_code, 1, some (Jvm.ClassFile.FieldType.int), 150, 0, (291, 289, 290, 70))
def xi_193 : List XIn := [(0, .aload_n 0, 0, 0),
  (1, .invokevirtual 492, 197, 302),
  (4, .ifCond .eq 12, 0, 0),
  (7, .aload_n 0, 0, 0),
  (8, .getfield 9, 900, 1317),
  (11, .iload_n 1, 0, 0),
  (12, .invokestatic 495, 199, 306),
  (15, .ireturn, 0, 0),
  (16, .aload_n 0, 0, 0),
  (17, .getfield 9, 900, 1317),
  (20, .iload_n 1, 0, 0),
  (21, .invokestatic 498, 99999, 0),
  (24, .ireturn, 0, 0)]
def xe_193 : XMe := ("java/lang/String", ⟨"java/lang/String", "charAt", "(I)C"⟩, prog_14_method_56_code, 2, some (Jvm.ClassFile.FieldType.char), 150, 1, (301, 299, 300, 70))
def xi_194 : List XIn := [(0, .aload_n 0, 0, 0),
  (1, .iload_n 1, 0, 0),
  (2, .iconst 0, 0, 0),
  (3, .invokevirtual 633, 195, 383),
  (6, .ireturn, 0, 0)]
def xe_194 : XMe := ("java/lang/String", ⟨"java/lang/String", "indexOf", "(I)I"⟩, prog_14_method_79_code, 2, some (Jvm.ClassFile.FieldType.int), 150, 1, (382, 380, 381, 70))
def xi_195 : List XIn := [(0, .aload_n 0, 0, 0),
  (1, .invokevirtual 492, 197, 302),
  (4, .ifCond .eq 19, 0, 0),
  (7, .aload_n 0, 0, 0),
  (8, .getfield 9, 900, 1317),
  (11, .iload_n 1, 0, 0),
  (12, .iload_n 2, 0, 0),
  (13, .aload_n 0, 0, 0),
  (14, .invokevirtual 505, 192, 387),
  (17, .invokestatic 637, 201, 388),
  (20, .goto 16, 0, 0),
  (23, .aload_n 0, 0, 0),
  (24, .getfield 9, 900, 1317),
  (27, .iload_n 1, 0, 0),
  (28, .iload_n 2, 0, 0),
  (29, .aload_n 0, 0, 0),
  (30, .invokevirtual 505, 192, 387),
  (33, .invokestatic 640, 99999, 0),
  (36, .ireturn, 0, 0)]
def xe_195 : XMe := ("java/lang/String", ⟨"java/lang/String", "indexOf", "(II)I"⟩, prog_14_method_80_code, 3, some (Jvm.ClassFile.FieldType.int), 150, 2, (386, 384, 385, 70))
def xi_196 : List XIn := [(0, .getstatic 38, 0, 296),
  (3, .ifCond .eq 10, 0, 0),
  (6, .aload_n 0, 0, 0),
  (7, .getfield 15, 901, 1318),
  (10, .goto 4, 0, 0),
  (13, .iconst 1, 0, 0),
  (14, .ireturn, 0, 0)]
def xe_196 : XMe := ("java/lang/String", ⟨"java/lang/String", "code\x72", "()B"⟩, prog_14_method_152_code, 1, some (Jvm.ClassFile.FieldType.byte), 150, 0, (295, 293, 294, 70))
def xi_197 : List XIn := [(0, .getstatic 38, 0, 296),
  (3, .ifCond .eq 14, 0, 0),
  (6, .aload_n 0, 0, 0),
  (7, .getfield 15, 901, 1318),
  (10, .ifCond .ne 7, 0, 0),
  (13, .iconst 1, 0, 0),
  (14, .goto 4, 0, 0),
  (17, .iconst 0, 0, 0),
  (18, .ireturn, 0, 0)]
def xe_197 : XMe := ("java/lang/String", ⟨"java/lang/String", "isLatin1", "()Z"⟩, prog_14_method_154_code, 1, some (Jvm.ClassFile.FieldType.boolean), 150, 0, (305, 303, 304, 70))
def xi_198 : List XIn := [(0, .iload_n 0, 0, 0),
  (1, .iload_n 1, 0, 0),
  (2, .getstatic 1053, 2, 312),
  (5, .invokestatic 1059, 203, 314),
  (8, .pop, 0, 0),
  (9, .return_, 0, 0)]
def xe_198 : XMe := ("java/lang/String", ⟨"java/lang/String", "checkIndex", "(II)V"⟩, prog_14_method_155_code, 2, none, 0, 2, (311, 310, 0, 70))
def xi_199 : List XIn := [(0, .iload_n 1, 0, 0),
  (1, .aload_n 0, 0, 0),
  (2, .arraylength, 0, 0),
  (3, .invokestatic 9, 198, 309),
  (6, .aload_n 0, 0, 0),
  (7, .iload_n 1, 0, 0),
  (8, .baload, 0, 0),
  (9, .sipush 255, 0, 0),
  (12, .iand, 0, 0),
  (13, .i2c, 0, 0),
  (14, .ireturn, 0, 0)]
def xe_199 : XMe := ("java/lang/StringLatin1", ⟨"java/lang/StringLatin1", "charAt", "([BI)C"⟩, prog_15_method_2_code, 2, some (Jvm.ClassFile.FieldType.char), 0, 2, (308, 307, 0, 71))
def xi_200 : List XIn := [(0, .iload_n 0, 0, 0),
  (1, .ifCond .lt 14, 0, 0),
  (4, .iload_n 0, 0, 0),
  (5, .sipush 255, 0, 0),
  (8, .if_icmp .gt 7, 0, 0),
  (11, .iconst 1, 0, 0),
  (12, .goto 4, 0, 0),
  (15, .iconst 0, 0, 0),
  (16, .ireturn, 0, 0)]
def xe_200 : XMe := ("java/lang/StringLatin1", ⟨"java/lang/StringLatin1", "canEncode", "(I)Z"⟩, prog_15_method_4_code, 1, some (Jvm.ClassFile.FieldType.boolean), 0, 1, (393, 392, 0, 71))
def xi_201 : List XIn := [(0, .iload_n 1, 0, 0),
  (1, .invokestatic 88, 200, 391),
  (4, .ifCond .ne 5, 0, 0),
  (7, .iconst (-1), 0, 0),
  (8, .ireturn, 0, 0),
  (9, .iload_n 2, 0, 0),
  (10, .iconst 0, 0, 0),
  (11, .invokestatic 92, 9997, 394),
  (14, .istore_n 2, 0, 0),
  (15, .iload_n 3, 0, 0),
  (16, .aload_n 0, 0, 0),
  (17, .arraylength, 0, 0),
  (18, .invokestatic 38, 9998, 397),
  (21, .istore_n 3, 0, 0),
  (22, .iload_n 2, 0, 0),
  (23, .iload_n 3, 0, 0),
  (24, .if_icmp .lt 5, 0, 0),
  (27, .iconst (-1), 0, 0),
  (28, .ireturn, 0, 0),
  (29, .aload_n 0, 0, 0),
  (30, .iload_n 1, 0, 0),
  (31, .iload_n 2, 0, 0),
  (32, .iload_n 3, 0, 0),
  (33, .invokestatic 95, 202, 400),
  (36, .ireturn, 0, 0)]
def xe_201 : XMe := ("java/lang/StringLatin1", ⟨"java/lang/StringLatin1", "indexOf", "([BIII)I"⟩, prog_15_method_22_code, 4, some (Jvm.ClassFile.FieldType.int), 0, 4, (390, 389, 0, 71))
def xi_202 : List XIn := [(0, .iload_n 1, 0, 0),
  (1, .i2b, 0, 0),
  (2, .istore 4, 0, 0),
  (4, .iload_n 2, 0, 0),
  (5, .istore 5, 0, 0),
  (7, .iload 5, 0, 0),
  (9, .iload_n 3, 0, 0),
  (10, .if_icmp .ge 21, 0, 0),
  (13, .aload_n 0, 0, 0),
  (14, .iload 5, 0, 0),
  (16, .baload, 0, 0),
  (17, .iload 4, 0, 0),
  (19, .if_icmp .ne 6, 0, 0),
  (22, .iload 5, 0, 0),
  (24, .ireturn, 0, 0),
  (25, .iinc 5 1, 0, 0),
  (28, .goto (-21), 0, 0),
  (31, .iconst (-1), 0, 0),
  (32, .ireturn, 0, 0)]
def xe_202 : XMe := ("java/lang/StringLatin1", ⟨"java/lang/StringLatin1", "indexOfCha\x72", "([BIII)I"⟩, prog_15_method_23_code, 6, some (Jvm.ClassFile.FieldType.int), 0, 4, (402, 401, 0, 71))
def xi_203 : List XIn := [(0, .iload_n 0, 0, 0),
  (1, .ifCond .lt 8, 0, 0),
  (4, .iload_n 0, 0, 0),
  (5, .iload_n 1, 0, 0),
  (6, .if_icmp .lt 10, 0, 0),
  (9, .aload_n 2, 0, 0),
  (10, .iload_n 0, 0, 0),
  (11, .iload_n 1, 0, 0),
  (12, .invokestatic 95, 99999, 0),
  (15, .athrow, 0, 0),
  (16, .iload_n 0, 0, 0),
  (17, .ireturn, 0, 0)]
def xe_203 : XMe := ("jdk/internal/util/Preconditions", ⟨"jdk/internal/util/Preconditions", "checkIndex", "(IILjava/util/function/BiFunction;)I"⟩, prog_19_method_11_code, 3, some (Jvm.ClassFile.FieldType.int), 0, 3, (316, 315, 0, 72))
def xi_204 : List XIn := [(0, .iconst 0, 0, 0),
  (1, .istore_n 2, 0, 0),
  (2, .aload_n 0, 0, 0),
  (3, .arraylength, 0, 0),
  (4, .istore_n 3, 0, 0),
  (5, .iload_n 2, 0, 0),
  (6, .iload_n 3, 0, 0),
  (7, .if_icmp .ge 13, 0, 0),
  (10, .aload_n 0, 0, 0),
  (11, .iload_n 2, 0, 0),
  (12, .iload_n 1, 0, 0),
  (13, .iastore, 0, 0),
  (14, .iinc 2 1, 0, 0),
  (17, .goto (-12), 0, 0),
  (20, .return_, 0, 0)]
def xe_204 : XMe := ("java/util/Arrays", ⟨"java/util/Arrays", "fill", "([II)V"⟩, prog_18_method_103_code, 4, none, 0, 2, (640, 639, 0, 78))
def xi_205 : List XIn := [(0, .iload_n 0, 0, 0),
  (1, .iload_n 0, 0, 0),
  (2, .iconst 1, 0, 0),
  (3, .iushr, 0, 0),
  (4, .ldc_w 265, 0, 678),
  (7, .iand, 0, 0),
  (8, .isub, 0, 0),
  (9, .istore_n 0, 0, 0),
  (10, .iload_n 0, 0, 0),
  (11, .ldc_w 266, 0, 679),
  (14, .iand, 0, 0),
  (15, .iload_n 0, 0, 0),
  (16, .iconst 2, 0, 0),
  (17, .iushr, 0, 0),
  (18, .ldc_w 266, 0, 679),
  (21, .iand, 0, 0),
  (22, .iadd, 0, 0),
  (23, .istore_n 0, 0, 0),
  (24, .iload_n 0, 0, 0),
  (25, .iload_n 0, 0, 0),
  (26, .iconst 4, 0, 0),
  (27, .iushr, 0, 0),
  (28, .iadd, 0, 0),
  (29, .ldc_w 267, 0, 680),
  (32, .iand, 0, 0),
  (33, .istore_n 0, 0, 0),
  (34, .iload_n 0, 0, 0),
  (35, .iload_n 0, 0, 0),
  (36, .bipush 8, 0, 0),
  (38, .iushr, 0, 0),
  (39, .iadd, 0, 0),
  (40, .istore_n 0, 0, 0),
  (41, .iload_n 0, 0, 0),
  (42, .iload_n 0, 0, 0),
  (43, .bipush 16, 0, 0),
  (45, .iushr, 0, 0),
  (46, .iadd, 0, 0),
  (47, .istore_n 0, 0, 0),
  (48, .iload_n 0, 0, 0),
  (49, .bipush 63, 0, 0),
  (51, .iand, 0, 0),
  (52, .ireturn, 0, 0)]
def xe_205 : XMe := ("java/lang/Intege\x72", ⟨"java/lang/Intege\x72", "bitCount", "(I)I"⟩, prog_12_method_49_code, 1, some (Jvm.ClassFile.FieldType.int), 0, 1, (677, 676, 0, 79))
def XT : List (XMe × List XIn) := [(xe_0, xi_0), (xe_1, xi_1), (xe_2, xi_2), (xe_3, xi_3), (xe_4, xi_4), (xe_5, xi_5), (xe_6, xi_6), (xe_7, xi_7), (xe_8, xi_8), (xe_9, xi_9), (xe_10, xi_10), (xe_11, xi_11), (xe_12, xi_12), (xe_13, xi_13), (xe_14, xi_14), (xe_15, xi_15), (xe_16, xi_16), (xe_17, xi_17), (xe_18, xi_18), (xe_19, xi_19), (xe_20, xi_20), (xe_21, xi_21), (xe_22, xi_22), (xe_23, xi_23), (xe_24, xi_24), (xe_25, xi_25), (xe_26, xi_26), (xe_27, xi_27), (xe_28, xi_28), (xe_29, xi_29), (xe_30, xi_30), (xe_31, xi_31), (xe_32, xi_32), (xe_33, xi_33), (xe_34, xi_34), (xe_35, xi_35), (xe_36, xi_36), (xe_37, xi_37), (xe_38, xi_38), (xe_39, xi_39), (xe_40, xi_40), (xe_41, xi_41), (xe_42, xi_42), (xe_43, xi_43), (xe_44, xi_44), (xe_45, xi_45), (xe_46, xi_46), (xe_47, xi_47), (xe_48, xi_48), (xe_49, xi_49), (xe_50, xi_50), (xe_51, xi_51), (xe_52, xi_52), (xe_53, xi_53), (xe_54, xi_54), (xe_55, xi_55), (xe_56, xi_56), (xe_57, xi_57), (xe_58, xi_58), (xe_59, xi_59), (xe_60, xi_60), (xe_61, xi_61), (xe_62, xi_62), (xe_63, xi_63), (xe_64, xi_64), (xe_65, xi_65), (xe_66, xi_66), (xe_67, xi_67), (xe_68, xi_68), (xe_69, xi_69), (xe_70, xi_70), (xe_71, xi_71), (xe_72, xi_72), (xe_73, xi_73), (xe_74, xi_74), (xe_75, xi_75), (xe_76, xi_76), (xe_77, xi_77), (xe_78, xi_78), (xe_79, xi_79), (xe_80, xi_80), (xe_81, xi_81), (xe_82, xi_82), (xe_83, xi_83), (xe_84, xi_84), (xe_85, xi_85), (xe_86, xi_86), (xe_87, xi_87), (xe_88, xi_88), (xe_89, xi_89), (xe_90, xi_90), (xe_91, xi_91), (xe_92, xi_92), (xe_93, xi_93), (xe_94, xi_94), (xe_95, xi_95), (xe_96, xi_96), (xe_97, xi_97), (xe_98, xi_98), (xe_99, xi_99), (xe_100, xi_100), (xe_101, xi_101), (xe_102, xi_102), (xe_103, xi_103), (xe_104, xi_104), (xe_105, xi_105), (xe_106, xi_106), (xe_107, xi_107), (xe_108, xi_108), (xe_109, xi_109), (xe_110, xi_110), (xe_111, xi_111), (xe_112, xi_112), (xe_113, xi_113), (xe_114, xi_114), (xe_115, xi_115), (xe_116, xi_116), (xe_117, xi_117), (xe_118, xi_118), (xe_119, xi_119), (xe_120, xi_120), (xe_121, xi_121), (xe_122, xi_122), (xe_123, xi_123), (xe_124, xi_124), (xe_125, xi_125), (xe_126, xi_126), (xe_127, xi_127), (xe_128, xi_128), (xe_129, xi_129), (xe_130, xi_130), (xe_131, xi_131), (xe_132, xi_132), (xe_133, xi_133), (xe_134, xi_134), (xe_135, xi_135), (xe_136, xi_136), (xe_137, xi_137), (xe_138, xi_138), (xe_139, xi_139), (xe_140, xi_140), (xe_141, xi_141), (xe_142, xi_142), (xe_143, xi_143), (xe_144, xi_144), (xe_145, xi_145), (xe_146, xi_146), (xe_147, xi_147), (xe_148, xi_148), (xe_149, xi_149), (xe_150, xi_150), (xe_151, xi_151), (xe_152, xi_152), (xe_153, xi_153), (xe_154, xi_154), (xe_155, xi_155), (xe_156, xi_156), (xe_157, xi_157), (xe_158, xi_158), (xe_159, xi_159), (xe_160, xi_160), (xe_161, xi_161), (xe_162, xi_162), (xe_163, xi_163), (xe_164, xi_164), (xe_165, xi_165), (xe_166, xi_166), (xe_167, xi_167), (xe_168, xi_168), (xe_169, xi_169), (xe_170, xi_170), (xe_171, xi_171), (xe_172, xi_172), (xe_173, xi_173), (xe_174, xi_174), (xe_175, xi_175), (xe_176, xi_176), (xe_177, xi_177), (xe_178, xi_178), (xe_179, xi_179), (xe_180, xi_180), (xe_181, xi_181), (xe_182, xi_182), (xe_183, xi_183), (xe_184, xi_184), (xe_185, xi_185), (xe_186, xi_186), (xe_187, xi_187), (xe_188, xi_188), (xe_189, xi_189), (xe_190, xi_190), (xe_191, xi_191), (xe_192, xi_192), (xe_193, xi_193), (xe_194, xi_194), (xe_195, xi_195), (xe_196, xi_196), (xe_197, xi_197), (xe_198, xi_198), (xe_199, xi_199), (xe_200, xi_200), (xe_201, xi_201), (xe_202, xi_202), (xe_203, xi_203), (xe_204, xi_204), (xe_205, xi_205)]
/-- fields: class, number -/
def xFT : List (Nat × Nat) := [(0, 0), (0, 1), (0, 2), (0, 3), (1, 0), (1, 1), (1, 2), (1, 3), (1, 4), (1, 5), (1, 6), (1, 7), (2, 0), (2, 1), (2, 2), (2, 3), (2, 4), (3, 0), (3, 1), (3, 2), (4, 0), (4, 1), (4, 2), (4, 3), (4, 4), (4, 5), (5, 0), (5, 1), (5, 2), (5, 3), (6, 0), (6, 1), (6, 2), (6, 3), (6, 4), (7, 0), (7, 1), (7, 2), (7, 3), (7, 4), (7, 5), (7, 6), (7, 7), (7, 8), (7, 9), (7, 10), (7, 11), (7, 12), (8, 0), (8, 1), (8, 2), (8, 3), (8, 4), (8, 5), (8, 6), (8, 7), (8, 8), (8, 9), (8, 10), (8, 11), (8, 12), (8, 13), (8, 14), (8, 15), (8, 16), (8, 17), (8, 18), (8, 19), (8, 20), (8, 21), (8, 22), (8, 23), (8, 24), (8, 25), (8, 26), (8, 27), (8, 28), (8, 29), (8, 30), (8, 31), (8, 32), (8, 33), (8, 34), (8, 35), (8, 36), (8, 37)]
/-- fields' kinds by class: 0 int, 1 long, 2 reference, 3 boolean; final -/
def xFK : List (List (Nat × Bool)) := [[(0, false), (0, false), (0, false), (0, false)], [(2, true), (0, false), (2, true), (0, false), (0, false), (0, false), (0, false), (0, false)], [(0, false), (0, false), (0, false), (0, false), (0, false)], [(2, true), (0, false), (0, false)], [(2, true), (2, true), (2, true), (2, true), (2, true), (3, false)], [(2, true), (0, false), (2, true), (0, false)], [(2, true), (0, false), (0, false), (0, false), (0, false)], [(2, true), (2, true), (3, false), (2, true), (2, true), (0, false), (2, true), (2, true), (2, true), (2, true), (2, true), (0, false), (0, false)], [(0, false), (2, true), (0, false), (2, true), (0, false), (2, true), (0, false), (2, true), (2, true), (0, false), (0, false), (3, false), (0, false), (0, false), (0, false), (0, false), (2, true), (2, true), (2, true), (2, true), (2, true), (0, false), (0, false), (0, false), (0, false), (2, true), (2, true), (0, false), (0, false), (0, false), (2, true), (2, true), (2, true), (2, true), (2, true), (1, false), (1, false), (2, true)]]
def xSTR : List (String × Nat × String) := [("BetweenThisAndThat", 75, "reckons a + b ; costs 1 ; meets 1 ;"), ("BetweenThisAndThat$Reade\x72", 100, "reckons"), ("BetweenThisAndThat$Reade\x72", 106, "costs"), ("BetweenThisAndThat$Reade\x72", 108, "meets"), ("BetweenThisAndThat$Reade\x72", 110, "o\x72"), ("BetweenThisAndThat$Reade\x72", 112, "and"), ("BetweenThisAndThat$Reade\x72", 114, "not"), ("BetweenThisAndThat$Reade\x72", 92, "();+-*<=")]
def xBYT : List (List Int32) := [[114, 101, 99, 107, 111, 110, 115, 32, 97, 32, 43, 32, 98, 32, 59, 32, 99, 111, 115, 116, 115, 32, 49, 32, 59, 32, 109, 101, 101, 116, 115, 32, 49, 32, 59], [114, 101, 99, 107, 111, 110, 115], [99, 111, 115, 116, 115], [109, 101, 101, 116, 115], [111, 114], [97, 110, 100], [110, 111, 116], [40, 41, 59, 43, 45, 42, 60, 61]]
def xCI : List (Nat × Int32) := [(408, 65536), (433, 55232), (437, 56320), (656, -100000), (678, 1431655765), (679, 858993459), (680, 252645135), (694, 2147483647), (695, -2147483648), (818, 99999), (902, 100000), (1147, -100000), (1274, 99999)]
def xCL : List (Nat × Int64) := [(689, -4611686018427387904), (823, 48271), (824, 2147483647), (1175, -4611686018427387904), (1279, 48271), (1280, 2147483647)]
def xNEST : List Cond := [.methodLinkNest "BetweenThisAndThat$Told" 30 ⟨"BetweenThisAndThat$Saying", "<init>", "()V"⟩ "BetweenThisAndThat", .methodLinkNest "BetweenThisAndThat" 41 ⟨"BetweenThisAndThat$Reade\x72", "<init>", "()V"⟩ "BetweenThisAndThat", .methodLinkNest "BetweenThisAndThat$Reade\x72" 21 ⟨"BetweenThisAndThat$Text", "<init>", "()V"⟩ "BetweenThisAndThat", .methodLinkNest "BetweenThisAndThat" 54 ⟨"BetweenThisAndThat$Spans", "<init>", "()V"⟩ "BetweenThisAndThat", .methodLinkNest "BetweenThisAndThat" 72 ⟨"BetweenThisAndThat$Link", "<init>", "()V"⟩ "BetweenThisAndThat", .methodLinkNest "BetweenThisAndThat" 73 ⟨"BetweenThisAndThat$Text", "<init>", "()V"⟩ "BetweenThisAndThat", .methodLinkNest "BetweenThisAndThat" 74 ⟨"BetweenThisAndThat$Sheet", "<init>", "()V"⟩ "BetweenThisAndThat", .methodLinkNest "BetweenThisAndThat$Saying" 51 ⟨"BetweenThisAndThat", "within", "(III)Z"⟩ "BetweenThisAndThat"]
/-- the cells in the order in which they are made: kind (0 ints, 100 and class: references, 200 and class: an object), how many -/
def xSH : List (Nat × Nat) := [(207, 13), (206, 5), (102, 10), (202, 5), (202, 5), (202, 5), (202, 5), (202, 5), (202, 5), (202, 5), (202, 5), (202, 5), (202, 5), (206, 5), (102, 10), (202, 5), (202, 5), (202, 5), (202, 5), (202, 5), (202, 5), (202, 5), (202, 5), (202, 5), (202, 5), (100, 8), (105, 6), (201, 8), (0, 160), (205, 4), (0, 160), (0, 3), (103, 4), (204, 6), (0, 6), (0, 6), (0, 6), (0, 6), (0, 36), (0, 6), (0, 160), (200, 4), (200, 4), (200, 4), (200, 4), (200, 4), (200, 4), (200, 4), (200, 4), (205, 4), (0, 160), (0, 3), (205, 4), (0, 160), (0, 3), (205, 4), (0, 160), (0, 3), (205, 4), (0, 160), (0, 3), (205, 4), (0, 160), (0, 3), (205, 4), (0, 160), (0, 3), (203, 3), (0, 40), (203, 3), (0, 40), (203, 3), (0, 40), (203, 3), (0, 40), (208, 38), (0, 50), (0, 32), (0, 160), (0, 1200), (0, 24), (0, 50), (0, 4), (0, 4), (0, 160), (0, 35), (0, 96), (0, 200), (0, 200), (0, 6), (0, 6), (0, 6), (0, 49), (0, 4)]
end
section
/-! The tables of 02 are what the Statement's words say: a program that checks it. -/
def xme (mi : Nat) : Option XMe := (XT[mi]?).map Prod.fst
/-- an instruction's length -/
def xlen (i : Instr) (pc : Nat) : Nat := match i with
  | .bipush _ => 2
  | .sipush _ => 3
  | .iload _ => 2
  | .lload _ => 2
  | .aload _ => 2
  | .istore _ => 2
  | .lstore _ => 2
  | .astore _ => 2
  | .iinc _ _ => 3
  | .goto _ => 3
  | .getstatic _ => 3
  | .ldc _ => 2
  | .ldc_w _ => 3
  | .ldc2_w _ => 3
  | .ifCond _ _ => 3
  | .if_icmp _ _ => 3
  | .tableswitch _ _ _ offs => 1 + (3 - pc % 4) + 12 + 4 * offs.size
  | .getfield _ => 3
  | .putfield _ => 3
  | .newarray _ => 2
  | .anewarray _ => 3
  | .new _ => 3
  | .invokestatic _ => 3
  | .invokevirtual _ => 3
  | .invokespecial _ => 3
  | _ => 1
def xokF (own : String) (idx rs wp : Nat) (put : Bool) : Bool := match xFT[rs]? with
  | some f => match vwCl[f.1]? with
    | some C => decide (f.2 < C.2.2) && decide (lw_tbl[wp]? = some (.fieldLink own idx (C.2.1 f.2).1 (C.2.1 f.2).2.1 (C.2.1 f.2).2.2.1)) && (if put && (C.2.1 f.2).2.2.2 then decide ((C.2.1 f.2).1 = own) else true)
    | none => false
  | none => false
def xokI (own : String) (pc : Nat) (i : Instr) (rs wp : Nat) : Bool := match i with
  | .getfield idx => if rs = 900 then decide (lw_tbl[wp]? = some (.fieldLink own idx "java/lang/String" "value" "[B")) else if rs = 901 then decide (lw_tbl[wp]? = some (.fieldLink own idx "java/lang/String" "coder" "B")) else xokF own idx rs wp false
  | .putfield idx => xokF own idx rs wp true
  | .getstatic idx => match rs with
    | 0 => decide (lw_tbl[wp]? = some (.fieldLink own idx "java/lang/String" "COMPACT_STRINGS" "Z"))
    | 1 => decide (lw_tbl[wp]? = some (.fieldLink own idx "BetweenThisAndThat$Saying" "ABOVE" "[I"))
    | 2 => decide (lw_tbl[wp]? = some (.fieldLink own idx "jdk/internal/util/Preconditions" "SIOOBE_FORMATTER" "Ljava/util/function/BiFunction;"))
    | _ => decide (rs = 99999)
  | .invokestatic idx => if rs = 9999 then decide (lw_tbl[wp]? = some (.methodLink own idx arraycopyName)) else if rs = 9997 then decide (lw_tbl[wp]? = some (.methodLink own idx Lib.Math.max.name)) else if rs = 9998 then decide (lw_tbl[wp]? = some (.methodLink own idx Lib.Math.min.name)) else if rs = 99999 then true else match xme (rs % 10000) with
    | some e => decide (rs % 10000 ≠ 0) && (if rs < 10000 then decide (lw_tbl[wp]? = some (.methodLink own idx e.2.1)) else decide (Cond.methodLinkNest own idx e.2.1 "BetweenThisAndThat" ∈ xNEST))
    | none => false
  | .invokevirtual idx => match xme (rs % 10000) with
    | some e => decide (rs % 10000 ≠ 0) && (if rs < 10000 then decide (lw_tbl[wp]? = some (.methodLink own idx e.2.1)) else false)
    | none => false
  | .invokespecial idx => if rs = 8888 then decide (lw_tbl[wp]? = some (.methodLink own idx objectInit)) else match xme (rs % 10000) with
    | some e => decide (rs % 10000 ≠ 0) && (if rs < 10000 then decide (lw_tbl[wp]? = some (.methodLink own idx e.2.1)) else decide (Cond.methodLinkNest own idx e.2.1 "BetweenThisAndThat" ∈ xNEST))
    | none => false
  | .new idx => match vwCl[rs]? with
    | some C => decide (lw_tbl[wp]? = some (.classLink own idx C.1))
    | none => false
  | .anewarray idx => match vwCl[rs]? with
    | some C => decide (lw_tbl[wp]? = some (.classLink own idx C.1))
    | none => false
  | .ldc idx => match rs with
    | 0 => match xCI.find? (fun q => Nat.beq q.1 wp) with
      | some q => decide (lw_tbl[wp]? = some (.constant own idx q.2))
      | none => false
    | k + 1 => match xSTR[k]? with
      | some q => decide (q.1 = own ∧ q.2.1 = idx)
      | none => false
  | .ldc_w idx => match xCI.find? (fun q => Nat.beq q.1 wp) with
    | some q => decide (lw_tbl[wp]? = some (.constant own idx q.2))
    | none => false
  | .ldc2_w idx => match xCL.find? (fun q => Nat.beq q.1 wp) with
    | some q => decide (lw_tbl[wp]? = some (.constantLong own idx q.2))
    | none => false
  | .ifCond _ off => decide (0 ≤ (pc : Int) + off)
  | .if_icmp _ off => decide (0 ≤ (pc : Int) + off)
  | .goto off => decide (0 ≤ (pc : Int) + off)
  | .tableswitch d _ _ offs => decide (0 ≤ (pc : Int) + d) && offs.toList.all (fun o => decide (0 ≤ (pc : Int) + o))
  | _ => true
def xokE (e : XMe) (q : XIn) : Bool := decide (decode e.2.2.1 q.1 = .ok (q.2.1, xlen q.2.1 q.1)) && xokI e.1 q.1 q.2.1 q.2.2.1 q.2.2.2
/-- a method's own words, but for its code -/
def xokM (e : XMe) : Bool := match e with
  | (own, y, _, maxL, ret, kd, n, (_, wk, ws, wi)) =>
    decide (y.cls = own) && plainName own && decide (own ≠ "java/lang/invoke/MethodHandle") && decide (own ≠ "java/lang/invoke/VarHandle") && decide (maxL ≤ 41) && decide ((parseMethodDescriptor y.desc).map (fun d => d.parameters.length) = some n) && decide (lw_tbl[wi]? = some (.initialized own)) &&
    (if kd = 0 then decide (lw_tbl[wk]? = some (.static y)) else decide (lw_tbl[wk]? = some (.instanceMethod y)) && (if kd < 200 then decide (lw_tbl[ws]? = some (.selects own y y)) && (if kd = 150 then decide (own = "java/lang/String") else match vwCl[kd - 100]? with
      | some C => decide (C.1 = own)
      | none => false) else decide (y.name = "<init>") && decide (ret = none) && (match vwCl[kd - 200]? with
      | some C => decide (C.1 = own)
      | none => false)))
end
section
def xfind : List XIn → Nat → Option (Instr × Nat × Nat)
  | [], _ => none
  | q :: l, pc => if Nat.beq q.1 pc then some q.2 else xfind l pc
def xi (mi pc : Nat) : Option (Instr × Nat × Nat) := match XT[mi]? with
  | some q => xfind q.2 pc
  | none => none
/-- what the tables' checks say (they stand behind, for they take long) -/
def xCK : Prop := (∀ q ∈ XT, q.2.all (xokE q.1) = true) ∧ ∀ q ∈ XT.drop 1, xokM q.1 = true ∧ Cond.code q.1.2.1 q.1.2.2.1 q.1.2.2.2.1 q.1.2.2.2.2.1 ∈ lw_tbl
theorem xfind_mem : ∀ (l : List XIn) (pc : Nat) (r : Instr × Nat × Nat), xfind l pc = some r → (pc, r) ∈ l
  | [], _, _, h => by cases h
  | q :: l, pc, r, h => by
    unfold xfind at h
    split at h
    · rename_i hq
      have h1 : q.1 = pc := Nat.eq_of_beq_eq_true hq
      have h2 : q.2 = r := Option.some.inj h
      have h3 : q = (pc, r) := by rw [← h1, ← h2]
      rw [h3]
      exact List.mem_cons_self
    · exact List.mem_cons_of_mem _ (xfind_mem l pc r h)
theorem xi_ok (hck : xCK) {mi pc : Nat} {e : XMe} {i : Instr} {rs wp : Nat} (hm : xme mi = some e) (hi : xi mi pc = some (i, rs, wp)) : decode e.2.2.1 pc = .ok (i, xlen i pc) ∧ xokI e.1 pc i rs wp = true := by
  unfold xme at hm
  unfold xi at hi
  cases hq : XT[mi]? with
  | none => rw [hq] at hm; cases hm
  | some q =>
    rw [hq] at hm hi
    have he : q.1 = e := Option.some.inj hm
    have h1 := hck.1 q (List.mem_of_getElem? hq)
    have h2 := List.all_eq_true.mp h1 _ (xfind_mem _ _ _ hi)
    unfold xokE at h2
    rw [Bool.and_eq_true, he] at h2
    exact ⟨of_decide_eq_true h2.1, h2.2⟩
theorem xme_ok (hck : xCK) {mi : Nat} {e : XMe} (hm : xme mi = some e) (h0 : mi ≠ 0) : xokM e = true ∧ Cond.code e.2.1 e.2.2.1 e.2.2.2.1 e.2.2.2.2.1 ∈ lw_tbl := by
  unfold xme at hm
  cases hq : XT[mi]? with
  | none => rw [hq] at hm; cases hm
  | some q =>
    rw [hq] at hm
    have he : q.1 = e := Option.some.inj hm
    obtain ⟨k, rfl⟩ : ∃ k, mi = k + 1 := ⟨mi - 1, by omega⟩
    have hd : (XT.drop 1)[k]? = some q := by rw [List.getElem?_drop, Nat.add_comm]; exact hq
    have h1 := hck.2 q (List.mem_of_getElem? hd)
    rw [he] at h1
    exact h1
end
section
/-! A machine of our own over numbers and few rows: what the bytecode does, as a function. Its memory: how many cells there are, ints, longs, references by cell and place; which cell is of what kind (xSH) is told once for all. -/
abbrev XM : Type := Nat × (Nat → Nat → Int32) × (Nat → Nat → Int64) × (Nat → Nat → Option Nat)
abbrev XL : Type := List (Option Value)
/-- the script: how long, its ints -/
abbrev XS : Type := Nat × (Nat → Int32)
/-- what a number more of a cell does -/
def xu {α : Type} (f : Nat → Nat → α) (c k : Nat) (v : α) : Nat → Nat → α := fun c' k' => if c' = c then (if k' = k then v else f c' k') else f c' k'
def xur {α : Type} (f : Nat → Nat → α) (c : Nat) (g : Nat → α) : Nat → Nat → α := fun c' k' => if c' = c then g k' else f c' k'
def xkind (c : Nat) : Nat × Nat := xSH.getD c (99, 0)
def xfk (ci k : Nat) : Nat × Bool := (xFK.getD ci []).getD k (9, false)
def xnf (ci : Nat) : Nat := (xFK.getD ci []).length
def xcat2 : Option Value → Bool
  | some v => v.category == 2
  | none => false
def xst1 (ls : XL) (i : Nat) (v : Value) : XL := (if xcat2 (ls.getD (i - 1) none) then ls.set (i - 1) none else ls).set i (some v)
def xst2 (ls : XL) (i : Nat) (v : Value) : XL := ((if xcat2 (ls.getD (i - 1) none) then ls.set (i - 1) none else ls).set i (some v)).set (i + 1) none
def xlocs : List Value → XL
  | [] => []
  | v :: r => if v.category = 2 then some v :: none :: xlocs r else some v :: xlocs r
def xpad (n : Nat) (l : XL) : XL := l ++ List.replicate (n - l.length) none
abbrev xinb (i : Int32) (n : Nat) : Prop := 0 ≤ i.toInt ∧ i.toInt < (n : Int)
/-- a reference that is one -/
def xok (n : Nat) : Value → Bool
  | .ref a => decide (a < n) || decide (10000 ≤ a)
  | _ => true
def xoks (n : Nat) (st : List Value) (ls : XL) : Bool := st.all (xok n) && ls.all (fun o => match o with | some v => xok n v | none => true)
def xabove : List Int32 := [-1, 0, 0, 1, 2, 0]
/-- a field's value -/
def xget (X : XM) (c ci k : Nat) : Option Value := match (xfk ci k).1 with
  | 0 => some (.int (X.2.1 c k))
  | 3 => some (.int (X.2.1 c k))
  | 1 => some (.long (X.2.2.1 c k))
  | 2 => some (va_rf (X.2.2.2 c k))
  | _ => none
def xput (X : XM) (c ci k : Nat) (v : Value) : Option XM := match (xfk ci k).1, v with
  | 0, .int x => some (X.1, xu X.2.1 c k x, X.2.2.1, X.2.2.2)
  | 3, .int x => if x = 0 ∨ x = 1 then some (X.1, xu X.2.1 c k x, X.2.2.1, X.2.2.2) else none
  | 1, .long x => some (X.1, X.2.1, xu X.2.2.1 c k x, X.2.2.2)
  | 2, .ref a => if a < X.1 then some (X.1, X.2.1, X.2.2.1, xu X.2.2.2 c k (some a)) else none
  | _, _ => none
def xcond (c : ClassFile.Cond) (x y : Int32) : Bool := match c with
  | .eq => decide (x = y)
  | .ne => decide (x ≠ y)
  | .lt => decide (x < y)
  | .ge => decide (y ≤ x)
  | .gt => decide (y < x)
  | .le => decide (x ≤ y)
/-- where a branch goes -/
def xgo (pc : Nat) (off : Int) : Nat := ((pc : Int) + off).toNat
/-- instructions that only move numbers about -/
def xs0 (i : Instr) (rs wp pc : Nat) (ls : XL) (st : List Value) : Option (Nat × XL × List Value) := match i, st with
  | .iconst n, st => some (pc + 1, ls, .int (Int32.ofInt n) :: st)
  | .bipush n, st => some (pc + 2, ls, .int ((Int8.ofInt n).toInt32) :: st)
  | .sipush n, st => some (pc + 3, ls, .int ((Int16.ofInt n).toInt32) :: st)
  | .lconst n, st => some (pc + 1, ls, .long (Int64.ofNat n) :: st)
  | .iload_n k, st => match ls[(k : Nat)]? with
    | some (some (.int x)) => some (pc + 1, ls, .int x :: st)
    | _ => none
  | .iload k, st => match ls[k]? with
    | some (some (.int x)) => some (pc + 2, ls, .int x :: st)
    | _ => none
  | .lload_n k, st => match ls[(k : Nat)]? with
    | some (some (.long x)) => some (pc + 1, ls, .long x :: st)
    | _ => none
  | .lload k, st => match ls[k]? with
    | some (some (.long x)) => some (pc + 2, ls, .long x :: st)
    | _ => none
  | .aload_n k, st => match ls[(k : Nat)]? with
    | some (some (.ref x)) => some (pc + 1, ls, .ref x :: st)
    | some (some (.retAddr x)) => some (pc + 1, ls, .retAddr x :: st)
    | _ => none
  | .aload k, st => match ls[k]? with
    | some (some (.ref x)) => some (pc + 2, ls, .ref x :: st)
    | _ => none
  | .istore_n k, .int x :: st => if (k : Nat) < ls.length then some (pc + 1, xst1 ls k (.int x), st) else none
  | .istore k, .int x :: st => if k < ls.length then some (pc + 2, xst1 ls k (.int x), st) else none
  | .lstore_n k, .long x :: st => if (k : Nat) + 1 < ls.length then some (pc + 1, xst2 ls k (.long x), st) else none
  | .lstore k, .long x :: st => if k + 1 < ls.length then some (pc + 2, xst2 ls k (.long x), st) else none
  | .astore_n k, .ref x :: st => if (k : Nat) < ls.length then some (pc + 1, xst1 ls k (.ref x), st) else none
  | .astore k, .ref x :: st => if k < ls.length then some (pc + 2, xst1 ls k (.ref x), st) else none
  | .iinc k n, st => match ls[k]? with
    | some (some (.int x)) => some (pc + 3, xst1 ls k (.int (x + Int32.ofInt n)), st)
    | _ => none
  | .iadd, .int y :: .int x :: st => some (pc + 1, ls, .int (x + y) :: st)
  | .isub, .int y :: .int x :: st => some (pc + 1, ls, .int (x - y) :: st)
  | .imul, .int y :: .int x :: st => some (pc + 1, ls, .int (x * y) :: st)
  | .iand, .int y :: .int x :: st => some (pc + 1, ls, .int (x &&& y) :: st)
  | .ior, .int y :: .int x :: st => some (pc + 1, ls, .int (x ||| y) :: st)
  | .ixor, .int y :: .int x :: st => some (pc + 1, ls, .int (x ^^^ y) :: st)
  | .ineg, .int x :: st => some (pc + 1, ls, .int (-x) :: st)
  | .ishl, .int y :: .int x :: st => some (pc + 1, ls, .int (x <<< (y &&& 31)) :: st)
  | .ishr, .int y :: .int x :: st => some (pc + 1, ls, .int (x >>> (y &&& 31)) :: st)
  | .iushr, .int y :: .int x :: st => some (pc + 1, ls, .int ((x.toUInt32 >>> (y.toUInt32 &&& Int32.toUInt32 31)).toInt32) :: st)
  | .ladd, .long y :: .long x :: st => some (pc + 1, ls, .long (x + y) :: st)
  | .lsub, .long y :: .long x :: st => some (pc + 1, ls, .long (x - y) :: st)
  | .lmul, .long y :: .long x :: st => some (pc + 1, ls, .long (x * y) :: st)
  | .i2l, .int x :: st => some (pc + 1, ls, .long x.toInt64 :: st)
  | .l2i, .long x :: st => some (pc + 1, ls, .int x.toInt32 :: st)
  | .i2b, .int x :: st => some (pc + 1, ls, .int x.toInt8.toInt32 :: st)
  | .i2s, .int x :: st => some (pc + 1, ls, .int x.toInt16.toInt32 :: st)
  | .i2c, .int x :: st => some (pc + 1, ls, .int (x.toUInt32 % 65536).toInt32 :: st)
  | .dup, .int x :: st => some (pc + 1, ls, .int x :: .int x :: st)
  | .dup, .ref x :: st => some (pc + 1, ls, .ref x :: .ref x :: st)
  | .dup2, .int x :: .ref y :: st => some (pc + 1, ls, .int x :: .ref y :: .int x :: .ref y :: st)
  | .pop, .int _ :: st => some (pc + 1, ls, st)
  | .goto off, st => some (xgo pc off, ls, st)
  | .getstatic _, st => match rs with
    | 0 => some (pc + 3, ls, .int 1 :: st)
    | 1 => some (pc + 3, ls, .ref 30000 :: st)
    | 2 => some (pc + 3, ls, .retAddr 0 :: st)
    | _ => none
  | .ldc _, st => match rs with
    | 0 => match xCI.find? (fun q => Nat.beq q.1 wp) with
      | some q => some (pc + 2, ls, .int q.2 :: st)
      | none => none
    | k + 1 => if k < xSTR.length then some (pc + 2, ls, .ref (10000 + k) :: st) else none
  | .ldc_w _, st => match xCI.find? (fun q => Nat.beq q.1 wp) with
    | some q => some (pc + 3, ls, .int q.2 :: st)
    | none => none
  | .ldc2_w _, st => match xCL.find? (fun q => Nat.beq q.1 wp) with
    | some q => some (pc + 3, ls, .long q.2 :: st)
    | none => none
  | _, _ => none
/-- a world cell of a kind -/
def xisk (X : XM) (a kd : Nat) : Prop := a < X.1 ∧ (xkind a).1 = kd
/-- instructions of one step: numbers, branches, memory -/
def xs1 (S : XS) (kd : Nat) (i : Instr) (rs wp pc : Nat) (ls : XL) (st : List Value) (X : XM) : Option (Nat × XL × List Value × XM) := match i, st with
  | .ifCond cd off, .int x :: st => if xcond cd x 0 then some (xgo pc off, ls, st, X) else some (pc + 3, ls, st, X)
  | .if_icmp cd off, .int y :: .int x :: st => if xcond cd x y then some (xgo pc off, ls, st, X) else some (pc + 3, ls, st, X)
  | .tableswitch dflt lo hi offs, .int x :: st => if x.toInt < lo ∨ hi < x.toInt then some (xgo pc dflt, ls, st, X) else match offs[(x.toInt - lo).toNat]? with
    | some off => some (xgo pc off, ls, st, X)
    | none => none
  | .idiv, .int y :: .int x :: st => if y = 0 then none else some (pc + 1, ls, .int (x / y) :: st, X)
  | .irem, .int y :: .int x :: st => if y = 0 then none else some (pc + 1, ls, .int (x - x / y * y) :: st, X)
  | .ldiv, .long y :: .long x :: st => if y = 0 then none else some (pc + 1, ls, .long (x / y) :: st, X)
  | .lrem, .long y :: .long x :: st => if y = 0 then none else some (pc + 1, ls, .long (x - x / y * y) :: st, X)
  | .lcmp, .long y :: .long x :: st => some (pc + 1, ls, .int (lg_cmp x y) :: st, X)
  | .getfield _, .ref a :: st => if rs = 900 then (if 10000 ≤ a ∧ a < 10000 + xSTR.length then some (pc + 3, ls, .ref (a + 10000) :: st, X) else none)
    else if rs = 901 then (if 10000 ≤ a ∧ a < 10000 + xSTR.length then some (pc + 3, ls, .int 0 :: st, X) else none)
    else match xFT[rs]? with
      | some f => if a < X.1 ∧ (xkind a).1 = 200 + f.1 then (match xget X a f.1 f.2 with
        | some v => some (pc + 3, ls, v :: st, X)
        | none => none) else none
      | none => none
  | .putfield _, v :: .ref a :: st => match xFT[rs]? with
      | some f => if a < X.1 ∧ (xkind a).1 = 200 + f.1 ∧ ((xfk f.1 f.2).2 = false ∨ kd = 200 + f.1) then (match xput X a f.1 f.2 v with
        | some X' => some (pc + 3, ls, st, X')
        | none => none) else none
      | none => none
  | .iaload, .int j :: .ref a :: st => if a = 30000 then (if xinb j 6 then some (pc + 1, ls, .int (xabove.getD j.toNatClampNeg 0) :: st, X) else none)
    else if a = 40000 then (if xinb j S.1 then some (pc + 1, ls, .int (S.2 j.toNatClampNeg) :: st, X) else none)
    else if (a < X.1 ∧ (xkind a).1 = 0) ∧ xinb j (xkind a).2 then some (pc + 1, ls, .int (X.2.1 a j.toNatClampNeg) :: st, X) else none
  | .baload, .int j :: .ref a :: st => if (20000 ≤ a ∧ a < 20000 + xSTR.length) ∧ xinb j (xBYT.getD (a - 20000) []).length then some (pc + 1, ls, .int ((xBYT.getD (a - 20000) []).getD j.toNatClampNeg 0) :: st, X) else none
  | .aaload, .int j :: .ref a :: st => if (a < X.1 ∧ 100 ≤ (xkind a).1 ∧ (xkind a).1 < 200) ∧ xinb j (xkind a).2 then (match X.2.2.2 a j.toNatClampNeg with
    | some r => some (pc + 1, ls, .ref r :: st, X)
    | none => none) else none
  | .arraylength, .ref a :: st => if a = 40000 then some (pc + 1, ls, .int (Int32.ofNat S.1) :: st, X)
    else if 20000 ≤ a ∧ a < 20000 + xSTR.length then some (pc + 1, ls, .int (Int32.ofNat (xBYT.getD (a - 20000) []).length) :: st, X)
    else if a < X.1 ∧ (xkind a).1 < 200 then some (pc + 1, ls, .int (Int32.ofNat (xkind a).2) :: st, X) else none
  | .iastore, .int v :: .int j :: .ref a :: st => if (a < X.1 ∧ (xkind a).1 = 0) ∧ xinb j (xkind a).2 then some (pc + 1, ls, st, (X.1, xu X.2.1 a j.toNatClampNeg v, X.2.2.1, X.2.2.2)) else none
  | .aastore, .ref v :: .int j :: .ref a :: st => if (a < X.1 ∧ 100 ≤ (xkind a).1 ∧ (xkind a).1 < 200) ∧ xinb j (xkind a).2 ∧ v < X.1 ∧ (xkind v).1 = (xkind a).1 + 100 then some (pc + 1, ls, st, (X.1, X.2.1, X.2.2.1, xu X.2.2.2 a j.toNatClampNeg (some v))) else none
  | .newarray .int, .int n :: st => if xSH[X.1]? = some (0, n.toNatClampNeg) ∧ 0 ≤ n.toInt ∧ n.toInt < 100000 ∧ xoks X.1 st ls = true then some (pc + 2, ls, .ref X.1 :: st, (X.1 + 1, xur X.2.1 X.1 (fun _ => 0), X.2.2.1, X.2.2.2)) else none
  | .anewarray _, .int n :: st => if xSH[X.1]? = some (100 + rs, n.toNatClampNeg) ∧ 0 ≤ n.toInt ∧ n.toInt < 100000 ∧ rs < 9 ∧ xoks X.1 st ls = true then some (pc + 3, ls, .ref X.1 :: st, (X.1 + 1, X.2.1, X.2.2.1, xur X.2.2.2 X.1 (fun _ => none))) else none
  | .new _, st => if xSH[X.1]? = some (200 + rs, xnf rs) ∧ rs < 9 ∧ xoks X.1 st ls = true then some (pc + 3, ls, .ref X.1 :: st, (X.1 + 1, xur X.2.1 X.1 (fun _ => 0), xur X.2.2.1 X.1 (fun _ => 0), xur X.2.2.2 X.1 (fun _ => none))) else none
  | i, st => (xs0 i rs wp pc ls st).map (fun q => (q.1, q.2.1, q.2.2, X))
/-- what kind of instruction: 0 of one step, 1 an end, 2 a call -/
def xcl : Instr → Nat
  | .ireturn => 1
  | .lreturn => 1
  | .return_ => 1
  | .invokestatic _ => 2
  | .invokevirtual _ => 2
  | .invokespecial _ => 2
  | _ => 0
def xret (i : Instr) (ret : Option FieldType) (st : List Value) : Option (Option Value) := match i, st, ret with
  | .ireturn, [.int v], some ty => if narrow ty (.int v) = .int v then some (some (.int v)) else none
  | .lreturn, [.long v], some .long => some (some (.long v))
  | .return_, [], none => some none
  | _, _, _ => none
/-- the receiver of a call of a kind -/
def xrecv (X : XM) (kd : Nat) (v : Value) : Bool := match v with
  | .ref a => if kd = 150 then decide (10000 ≤ a ∧ a < 10000 + xSTR.length) else if 200 ≤ kd then true else decide (100 ≤ kd) && decide (a < X.1) && decide ((xkind a).1 = kd + 100)
  | _ => false
/-- how many values a call takes -/
def xnar (e : XMe) : Nat := if e.2.2.2.2.2.1 = 0 then e.2.2.2.2.2.2.1 else e.2.2.2.2.2.2.1 + 1
def xcnd (i : Instr) (e : XMe) (X : XM) (v : Value) : Bool := match i with
  | .invokestatic _ => decide (e.2.2.2.2.2.1 = 0)
  | .invokevirtual _ => decide (100 ≤ e.2.2.2.2.2.1) && decide (e.2.2.2.2.2.1 < 200) && xrecv X e.2.2.2.2.2.1 v
  | .invokespecial _ => decide (200 ≤ e.2.2.2.2.2.1) && xrecv X e.2.2.2.2.2.1 v
  | _ => false
def xinvc (i : Instr) (rs : Nat) (st : List Value) (X : XM) (e : XMe) : Bool :=
  decide (rs < 20000) && decide (xnar e ≤ st.length) && decide (((st.drop (xnar e)).map fun v => v.category).sum ≤ 8) && decide ((xlocs (st.take (xnar e)).reverse).length ≤ e.2.2.2.1) && xcnd i e X ((st.drop (xnar e - 1)).headD .null)
/-- which method, what it is given, what stays below -/
def xinv (i : Instr) (rs : Nat) (st : List Value) (X : XM) : Option (Nat × XMe × List Value × List Value) := match xme (rs % 10000) with
  | none => none
  | some e => if xinvc i rs st X e = true then some (rs % 10000, e, (st.take (xnar e)).reverse, st.drop (xnar e)) else none
/-- arraycopy of ints -/
def xcopy (st : List Value) (X : XM) : Option (List Value × XM) := match st with
  | .int n :: .int dp :: .ref a :: .int sp :: .ref b :: rest => if (a < X.1 ∧ (xkind a).1 = 0) ∧ (b < X.1 ∧ (xkind b).1 = 0) ∧ 0 ≤ sp.toInt ∧ 0 ≤ dp.toInt ∧ 0 ≤ n.toInt ∧ sp.toInt + n.toInt ≤ ((xkind b).2 : Int) ∧ dp.toInt + n.toInt ≤ ((xkind a).2 : Int) ∧ (rest.map fun v => v.category).sum ≤ 8 then
      some (rest, (X.1, xur X.2.1 a (va_cpy (X.2.1 b) (X.2.1 a) sp.toNatClampNeg dp.toNatClampNeg n.toNatClampNeg), X.2.2.1, X.2.2.2)) else none
  | _ => none
def xexec (S : XS) : Nat → Nat → Nat → Nat → XL → List Value → XM → Option (Option Value × XM)
  | 0, _, _, _, _, _, _ => none
  | n + 1, d, mi, pc, ls, st, X => match xme mi, xi mi pc with
    | some e, some (i, rs, wp) =>
      if xcl i = 0 then match xs1 S e.2.2.2.2.2.1 i rs wp pc ls st X with
        | some q => xexec S n d mi q.1 q.2.1 q.2.2.1 q.2.2.2
        | none => none
      else if xcl i = 1 then (xret i e.2.2.2.2.1 st).map (fun r => (r, X))
      else match d with
        | 0 => none
        | d' + 1 =>
          if rs = 8888 then (match st with
            | .ref _ :: rest => if (rest.map fun v => v.category).sum ≤ 8 then xexec S n (d' + 1) mi (pc + 3) ls rest X else none
            | _ => none)
          else if rs = 9999 then (match xcopy st X with
            | some q => xexec S n (d' + 1) mi (pc + 3) ls q.1 q.2
            | none => none)
          else if rs = 9997 then (match st with
            | .int y :: .int x :: rest => if (rest.map fun v => v.category).sum ≤ 8 then xexec S n (d' + 1) mi (pc + 3) ls (.int (if x < y then y else x) :: rest) X else none
            | _ => none)
          else if rs = 9998 then (match st with
            | .int y :: .int x :: rest => if (rest.map fun v => v.category).sum ≤ 8 then xexec S n (d' + 1) mi (pc + 3) ls (.int (if y < x then y else x) :: rest) X else none
            | _ => none)
          else match xinv i rs st X with
            | some (mj, e2, as, rest) => (match xexec S n d' mj 0 (xpad e2.2.2.2.1 (xlocs as)) [] X with
              | some (r, X1) => if X1.1 = X.1 ∨ xoks X.1 rest ls = true then xexec S n (d' + 1) mi (pc + 3) ls (r.toList ++ rest) X1 else none
              | none => none)
            | none => none
    | _, _ => none
end
section
/-! What our machine does, the machine does. First: values, locals, the world. -/
def xv (ad : Nat → Nat) (fmt : Value) : Value → Value
  | .ref a => .ref (ad a)
  | .retAddr _ => fmt
  | v => v
abbrev xfm (fmt : Value) : Prop := fmt = .null ∨ ∃ t : Nat, fmt = .ref t
theorem xv_cat {ad : Nat → Nat} {fmt : Value} (h : xfm fmt) (v : Value) : (xv ad fmt v).category = v.category := by
  rcases h with rfl | ⟨t, rfl⟩ <;> cases v <;> rfl
def xLh (ad : Nat → Nat) (fmt : Value) (la : Array Slot) (nL : Nat) (ls : XL) : Prop := la.size = nL ∧ lv_wf la ∧ ls.length = nL ∧ ∀ (i : Nat) (v : Value), ls[i]? = some (some v) → la[i]? = some (.val (xv ad fmt v))
def xlp (ad : Nat → Nat) (fmt : Value) (ls : XL) : List (Nat × Value) := (List.range ls.length).filterMap (fun i => (ls.getD i none).map (fun v => (i, xv ad fmt v)))
theorem xlp_mem {ad : Nat → Nat} {fmt : Value} {ls : XL} {i : Nat} {v : Value} (h : ls[i]? = some (some v)) : (i, xv ad fmt v) ∈ xlp ad fmt ls := by
  have hl := (List.getElem?_eq_some_iff.mp h).1
  exact List.mem_filterMap.mpr ⟨i, List.mem_range.mpr hl, by rw [List.getD_eq_getElem?_getD, h]; rfl⟩
theorem xlp_of {ad : Nat → Nat} {fmt : Value} {ls : XL} {q : Nat × Value} (h : q ∈ xlp ad fmt ls) : ∃ v, ls[q.1]? = some (some v) ∧ q.2 = xv ad fmt v := by
  obtain ⟨i, hi, hq⟩ := List.mem_filterMap.mp h
  rw [List.getD_eq_getElem?_getD] at hq
  cases hg : ls[i]? with
  | none => rw [hg] at hq; simp at hq
  | some o =>
    cases o with
    | none => rw [hg] at hq; simp at hq
    | some v =>
      rw [hg] at hq
      simp at hq
      subst hq
      exact ⟨v, hg, rfl⟩
theorem xLh.has {ad : Nat → Nat} {fmt : Value} {la : Array Slot} {nL : Nat} {ls : XL} (h : xLh ad fmt la nL ls) : lv_has la nL (xlp ad fmt ls) := by
  refine ⟨h.1, h.2.1, fun q hq => ?_⟩
  obtain ⟨v, h1, h2⟩ := xlp_of hq
  rw [h2]
  exact h.2.2.2 _ _ h1
theorem xLh.at {ad : Nat → Nat} {fmt : Value} {la : Array Slot} {nL : Nat} {ls : XL} (h : xLh ad fmt la nL ls) {i : Nat} {v : Value} (hi : ls[i]? = some (some v)) : la[i]? = some (.val (xv ad fmt v)) := h.2.2.2 i v hi
theorem xset_eq {α : Type} {l : List α} {j : Nat} {a b : α} (h : (l.set j a)[j]? = some b) : a = b := by
  by_cases hl : j < l.length
  · rw [List.getElem?_set_self hl] at h
    exact Option.some.inj h
  · rw [List.getElem?_eq_none (by rw [List.length_set]; omega)] at h
    cases h
theorem xkill_len (ls : XL) (i : Nat) : (if xcat2 (ls.getD (i - 1) none) then ls.set (i - 1) none else ls).length = ls.length := by
  split <;> simp
theorem xkill_get {ls : XL} {i j : Nat} {v : Value} (h : (if xcat2 (ls.getD (i - 1) none) then ls.set (i - 1) none else ls)[j]? = some (some v)) : ls[j]? = some (some v) ∧ ¬ (j = i - 1 ∧ v.category = 2) := by
  split at h
  · rename_i hc
    by_cases hj : j = i - 1
    · subst hj
      rw [List.getElem?_set] at h
      simp at h
    · rw [List.getElem?_set_ne (fun e => hj e.symm)] at h
      exact ⟨h, fun q => hj q.1⟩
  · rename_i hc
    refine ⟨h, fun q => hc ?_⟩
    rw [← q.1, List.getD_eq_getElem?_getD, h]
    simp [xcat2, q.2]
theorem xst1_len (ls : XL) (i : Nat) (v : Value) : (xst1 ls i v).length = ls.length := by
  unfold xst1
  rw [List.length_set, xkill_len]
theorem xst2_len (ls : XL) (i : Nat) (v : Value) : (xst2 ls i v).length = ls.length := by
  unfold xst2
  rw [List.length_set, List.length_set, xkill_len]
/-- a store of one word -/
theorem xLh.st1 {ad : Nat → Nat} {fmt : Value} (hf : xfm fmt) {nL i : Nat} {ls : XL} {v : Value} (hlen : ls.length = nL) {la' : Array Slot} (h : lv_has la' nL ((i, xv ad fmt v) :: (xlp ad fmt ls).filter (fun q => !(q.1 == i) && !(q.1 + 1 == i && q.2.category == 2)))) : xLh ad fmt la' nL (xst1 ls i v) := by
  refine ⟨h.1, h.2.1, by rw [xst1_len]; exact hlen, fun j w hj => ?_⟩
  unfold xst1 at hj
  by_cases hji : j = i
  · subst hji
    have hw := xset_eq hj
    cases hw
    exact h.2.2 (j, xv ad fmt v) List.mem_cons_self
  · rw [List.getElem?_set_ne (fun e => hji e.symm)] at hj
    obtain ⟨h1, h2⟩ := xkill_get hj
    refine h.2.2 (j, xv ad fmt w) (List.mem_cons_of_mem _ (List.mem_filter.mpr ⟨xlp_mem h1, ?_⟩))
    have hc := xv_cat (ad := ad) hf w
    simp only [Bool.and_eq_true, Bool.not_eq_true', beq_eq_false_iff_ne, ne_eq, hc]
    refine ⟨hji, ?_⟩
    cases hb : (j + 1 == i && w.category == 2) with
    | false => rfl
    | true =>
      simp at hb
      exact absurd ⟨by omega, hb.2⟩ h2
/-- a store of two words -/
theorem xLh.st2 {ad : Nat → Nat} {fmt : Value} (hf : xfm fmt) {nL i : Nat} {ls : XL} {v : Value} (hlen : ls.length = nL) {la' : Array Slot} (h : lv_has la' nL ((i, xv ad fmt v) :: (xlp ad fmt ls).filter (fun q => !(q.1 == i) && (!(q.1 == i + 1) && !(q.1 + 1 == i && q.2.category == 2))))) : xLh ad fmt la' nL (xst2 ls i v) := by
  refine ⟨h.1, h.2.1, by rw [xst2_len]; exact hlen, fun j w hj => ?_⟩
  unfold xst2 at hj
  by_cases hj1 : j = i + 1
  · subst hj1
    have hw := xset_eq hj
    cases hw
  rw [List.getElem?_set_ne (fun e => hj1 e.symm)] at hj
  by_cases hji : j = i
  · subst hji
    have hw := xset_eq hj
    cases hw
    exact h.2.2 (j, xv ad fmt v) List.mem_cons_self
  · rw [List.getElem?_set_ne (fun e => hji e.symm)] at hj
    obtain ⟨h1, h2⟩ := xkill_get hj
    refine h.2.2 (j, xv ad fmt w) (List.mem_cons_of_mem _ (List.mem_filter.mpr ⟨xlp_mem h1, ?_⟩))
    have hc := xv_cat (ad := ad) hf w
    simp only [Bool.and_eq_true, Bool.not_eq_true', beq_eq_false_iff_ne, ne_eq, hc]
    refine ⟨hji, hj1, ?_⟩
    cases hb : (j + 1 == i && w.category == 2) with
    | false => rfl
    | true =>
      simp at hb
      exact absurd ⟨by omega, hb.2⟩ h2
/-- the words that stay true under calls -/
def xGT : List Jvm.Cond := lw_tbl.filter goodWord
theorem xGT_in {w : Jvm.Cond} (h : w ∈ lw_tbl) (hg : goodWord w = true) : w ∈ xGT := List.mem_filter.mpr ⟨h, hg⟩
/-- the frame: what doesn't change in one run of a method -/
def xFr (p : Program) (R : Room) (s : State) (m : MethodId) (args : Array Value) (meth : Method) (c : Code) (e : XMe) (d : Nat) : Prop :=
  p.tables.exec = Jvm.exec ∧ c.code = e.2.2.1 ∧ c.maxLocals = e.2.2.2.1 ∧ meth.sig.returnType = e.2.2.2.2.1 ∧ s.vm.findClass e.1 = some m.cls ∧ (∀ w ∈ xGT, w.before args s = true) ∧ meth.locks = false ∧ (200 ≤ e.2.2.2.2.2.1 → meth.name = "<init>") ∧ d ≤ R.frames ∧ 60 * d ≤ R.locals
theorem xFr.word {p : Program} {R : Room} {s : State} {m : MethodId} {args : Array Value} {meth : Method} {c : Code} {e : XMe} {d : Nat} (h : xFr p R s m args meth c e d) {w : Jvm.Cond} {k : Nat} (hk : lw_tbl[k]? = some w) (hg : goodWord w = true) : w.before args s = true :=
  h.2.2.2.2.2.1 w (xGT_in (List.mem_of_getElem? hk) hg)
section XS0
variable {p : Program} {l : Launch} {e : Env} {R : Room} {s : State} {m : MethodId} {args : Array Value} {below : List Frame} {meth : Method} {c : Code} {H : Heap} {locs : List Loc} {cells slots : Nat} {Q : State → Prop}
theorem xgo_eq {pc : Nat} {off : Int} (h : 0 ≤ (pc : Int) + off) : (pc : Int) + off = ((xgo pc off : Nat) : Int) := by
  unfold xgo
  omega
set_option maxHeartbeats 4000000 in
theorem xs0_sound {ent : XMe} {d : Nat} {i : Instr} {rs wp pc pc' nL : Nat} {ls ls' : XL} {st st' : List Value} {ad : Nat → Nat} {fmt : Value} {la : Array Slot} {S : XS} {A : Nat → Prop}
    (hF : xFr p R s m args meth c ent d) (hd : decode ent.2.2.1 pc = .ok (i, xlen i pc)) (hI : xokI ent.1 pc i rs wp = true) (hf : xfm fmt)
    (hx : xs0 i rs wp pc ls st = some (pc', ls', st'))
    (hZ0 : va_Z "java/lang/String" "COMPACT_STRINGS" "Z" (.int 1) A s s.heap) (hZ1 : va_Z "BetweenThisAndThat$Saying" "ABOVE" "[I" (.ref (ad 30000)) A s s.heap) (hZ2 : va_Z "jdk/internal/util/Preconditions" "SIOOBE_FORMATTER" "Ljava/util/function/BiFunction;" fmt A s s.heap)
    (hR : ∀ (k : Nat) (q : String × Nat × String), xSTR[k]? = some q → vk_R q.1 q.2.1 q.2.2 (ad (10000 + k)) s)
    (hS : va_S A s.heap H locs) (hl : xLh ad fmt la nL ls)
    (kk : ∀ la' : Array Slot, xLh ad fmt la' nL ls' → W p l e R s m args below meth c H locs cells slots Q (F0 m pc' la' (st'.map (xv ad fmt)))) :
    W p l e R s m args below meth c H locs cells slots Q (F0 m pc la (st.map (xv ad fmt))) := by
  obtain ⟨hx0, hb, hml, hr, hown, hts, hlk, hin, hfr, hlo⟩ := id hF
  revert hd hI
  unfold xs0 at hx
  split at hx
  all_goals intro hd hI
  · cases hx
    exact lv_iconst hx0 hb hd rfl (kk la hl)
  · cases hx
    exact lv_bipush hx0 hb hd rfl (kk la hl)
  · cases hx
    exact lv_sipush hx0 hb hd rfl (kk la hl)
  · cases hx
    exact lv_lconst hx0 hb hd rfl (kk la hl)
  · split at hx
    · rename_i h
      cases hx
      exact lv_iload_n hx0 hb hd rfl (hl.at h) (kk la hl)
    · cases hx
  · split at hx
    · rename_i h
      cases hx
      exact lv_iload hx0 hb hd (hl.at h) (kk la hl)
    · cases hx
  · split at hx
    · rename_i h
      cases hx
      exact lv_lload_n hx0 hb hd rfl (hl.at h) (kk la hl)
    · cases hx
  · split at hx
    · rename_i h
      cases hx
      exact lv_lload hx0 hb hd (hl.at h) (kk la hl)
    · cases hx
  · split at hx
    · rename_i h
      cases hx
      exact lv_aload_n hx0 hb hd rfl (hl.at h) (kk la hl)
    · rename_i h
      cases hx
      rcases hf with rfl | ⟨t, rfl⟩
      · exact lv_aload_nN hx0 hb hd rfl (hl.at h) (kk la hl)
      · exact lv_aload_n hx0 hb hd rfl (hl.at h) (kk la hl)
    · cases hx
  · split at hx
    · rename_i h
      cases hx
      exact lv_aload hx0 hb hd (hl.at h) (kk la hl)
    · cases hx
  · split at hx
    · rename_i x _ h
      cases hx
      exact lv_istore_n hx0 hb hd rfl hl.has (by rw [← hl.2.2.1]; exact h) rfl (fun la' h' => kk la' (xLh.st1 (v := .int x) hf hl.2.2.1 h'))
    · cases hx
  · split at hx
    · rename_i x _ h
      cases hx
      exact lv_istore hx0 hb hd hl.has (by rw [← hl.2.2.1]; exact h) rfl (fun la' h' => kk la' (xLh.st1 (v := .int x) hf hl.2.2.1 h'))
    · cases hx
  · split at hx
    · rename_i x _ h
      cases hx
      exact lv_lstore_n hx0 hb hd rfl hl.has (by rw [← hl.2.2.1]; exact h) rfl (fun la' h' => kk la' (xLh.st2 (v := .long x) hf hl.2.2.1 h'))
    · cases hx
  · split at hx
    · rename_i x _ h
      cases hx
      exact lv_lstore hx0 hb hd hl.has (by rw [← hl.2.2.1]; exact h) rfl (fun la' h' => kk la' (xLh.st2 (v := .long x) hf hl.2.2.1 h'))
    · cases hx
  · split at hx
    · rename_i x _ h
      cases hx
      exact lv_astore_n hx0 hb hd rfl hl.has (by rw [← hl.2.2.1]; exact h) rfl (fun la' h' => kk la' (xLh.st1 (v := .ref x) hf hl.2.2.1 h'))
    · cases hx
  · split at hx
    · rename_i x _ h
      cases hx
      exact lv_astore hx0 hb hd hl.has (by rw [← hl.2.2.1]; exact h) rfl (fun la' h' => kk la' (xLh.st1 (v := .ref x) hf hl.2.2.1 h'))
    · cases hx
  · split at hx
    · rename_i n _ x h
      cases hx
      obtain ⟨k', hk'⟩ := List.getElem?_of_mem (xlp_mem (ad := ad) (fmt := fmt) h)
      exact lv_iinc hx0 hb hd hl.has hk' rfl (by rw [← hl.2.2.1]; exact (List.getElem?_eq_some_iff.mp h).1) rfl (fun la' h' => kk la' (xLh.st1 (v := .int (x + Int32.ofInt n)) hf hl.2.2.1 h'))
    · cases hx
  · cases hx
    exact lv_iadd hx0 hb hd (kk la hl)
  · cases hx
    exact lv_isub hx0 hb hd (kk la hl)
  · cases hx
    exact lv_imul hx0 hb hd (kk la hl)
  · cases hx
    exact lv_iand hx0 hb hd (kk la hl)
  · cases hx
    exact lv_ior hx0 hb hd (kk la hl)
  · cases hx
    exact lv_ixor hx0 hb hd (kk la hl)
  · cases hx
    exact lv_ineg hx0 hb hd (kk la hl)
  · cases hx
    exact lv_ishl hx0 hb hd (kk la hl)
  · cases hx
    exact lv_ishr hx0 hb hd (kk la hl)
  · cases hx
    exact lv_iushr hx0 hb hd rfl (kk la hl)
  · cases hx
    exact lv_ladd hx0 hb hd (kk la hl)
  · cases hx
    exact lv_lsub hx0 hb hd (kk la hl)
  · cases hx
    exact lv_lmul hx0 hb hd (kk la hl)
  · cases hx
    exact lv_i2l hx0 hb hd rfl (kk la hl)
  · cases hx
    exact lv_l2i hx0 hb hd rfl (kk la hl)
  · cases hx
    exact lv_i2b hx0 hb hd rfl (kk la hl)
  · cases hx
    exact lv_i2s hx0 hb hd rfl (kk la hl)
  · cases hx
    exact lv_i2c hx0 hb hd rfl (kk la hl)
  · cases hx
    exact lv_dup hx0 hb hd rfl (kk la hl)
  · cases hx
    exact lv_dup hx0 hb hd rfl (kk la hl)
  · cases hx
    exact lv_dup2_11 hx0 hb hd rfl rfl (kk la hl)
  · cases hx
    exact lv_pop hx0 hb hd rfl (kk la hl)
  · cases hx
    exact lv_goto hx0 hb hd (xgo_eq (of_decide_eq_true hI)) (kk la hl)
  · split at hx
    · cases hx
      exact va_gets hx0 hb hZ0 hS hown (hF.word (of_decide_eq_true hI) rfl) (fun _ h => h) hd (kk la hl)
    · cases hx
      exact va_gets hx0 hb hZ1 hS hown (hF.word (of_decide_eq_true hI) rfl) (fun _ h => h) hd (kk la hl)
    · cases hx
      exact va_gets hx0 hb hZ2 hS hown (hF.word (of_decide_eq_true hI) rfl) (fun _ h => h) hd (kk la hl)
    · cases hx
  · split at hx
    · split at hx
      · rename_i hq
        cases hx
        simp only [xokI, hq, decide_eq_true_eq] at hI
        exact lv_ldc hx0 hb hown (hF.word hI rfl) hd (kk la hl)
      · cases hx
    · split at hx
      · rename_i k hk
        cases hx
        cases hq : xSTR[k]? with
        | none => rw [List.getElem?_eq_none_iff] at hq; omega
        | some q =>
          simp only [xokI, hq, decide_eq_true_eq] at hI
          have h := hR k q hq
          rw [hI.1, hI.2] at h
          exact va_ldcS hx0 hb hown h hd (kk la hl)
      · cases hx
  · split at hx
    · rename_i hq
      cases hx
      simp only [xokI, hq, decide_eq_true_eq] at hI
      exact lv_ldcw hx0 hb hown (hF.word hI rfl) hd (kk la hl)
    · cases hx
  · split at hx
    · rename_i hq
      cases hx
      simp only [xokI, hq, decide_eq_true_eq] at hI
      exact lv_ldc2 hx0 hb hown (hF.word hI rfl) hd (kk la hl)
    · cases hx
  · cases hx
end XS0
end
section
/-! the world: our cells in the machine's heap -/
def xfv (ad : Nat → Nat) (X : XM) (c ci k : Nat) : Value := match (xfk ci k).1 with
  | 0 => .int (X.2.1 c k)
  | 3 => .int (X.2.1 c k)
  | 1 => .long (X.2.2.1 c k)
  | _ => va_rf ((X.2.2.2 c k).map ad)
def xfs (ad : Nat → Nat) (X : XM) (c ci : Nat) : List Value := (List.range (xnf ci)).map (xfv ad X c ci)
def xce (ad : Nat → Nat) (ca : Nat → ClassId) (X : XM) (c : Nat) : va_E :=
  if (xkind c).1 = 0 then .inl (ca c, (xkind c).2, .inl (X.2.1 c))
  else if (xkind c).1 < 200 then .inl (ca c, (xkind c).2, .inr (.inr (.inr (.inr (fun i => (X.2.2.2 c i).map ad)))))
  else .inr ((xkind c).1 - 200, xfs ad X c ((xkind c).1 - 200))
def xw (ad : Nat → Nat) (ca : Nat → ClassId) (X : XM) : va_W := (List.range X.1).map (fun c => (ad c, xce ad ca X c))
theorem xw_get {ad : Nat → Nat} {ca : Nat → ClassId} {X : XM} {c : Nat} (h : c < X.1) : (xw ad ca X)[c]? = some (ad c, xce ad ca X c) := by
  simp [xw, h]
theorem xw_len {ad : Nat → Nat} {ca : Nat → ClassId} {X : XM} : (xw ad ca X).length = X.1 := by simp [xw]
theorem xw_set {ad : Nat → Nat} {ca : Nat → ClassId} {X X' : XM} {c : Nat} {e : va_E} (h1 : X'.1 = X.1) (he : xce ad ca X' c = e) (hne : ∀ j, j ≠ c → xce ad ca X' j = xce ad ca X j) : (xw ad ca X).set c (ad c, e) = xw ad ca X' := by
  apply List.ext_getElem?
  intro j
  by_cases hj : j = c
  · subst hj
    by_cases hl : j < X.1
    · rw [List.getElem?_set_self (by rw [xw_len]; exact hl), xw_get (by rw [h1]; exact hl), he]
    · rw [List.getElem?_eq_none (by rw [List.length_set, xw_len]; omega), List.getElem?_eq_none (by rw [xw_len, h1]; omega)]
  · rw [List.getElem?_set_ne (fun e => hj e.symm)]
    by_cases hl : j < X.1
    · rw [xw_get hl, xw_get (by rw [h1]; exact hl), hne j hj]
    · rw [List.getElem?_eq_none (by rw [xw_len]; omega), List.getElem?_eq_none (by rw [xw_len, h1]; omega)]
theorem xw_push {ad ad1 : Nat → Nat} {ca ca1 : Nat → ClassId} {X X1 : XM} {q : Nat} {e : va_E} (h1 : X1.1 = X.1 + 1) (hq : ad1 X.1 = q) (he : xce ad1 ca1 X1 X.1 = e) (hne : ∀ j, j < X.1 → ad1 j = ad j ∧ xce ad1 ca1 X1 j = xce ad ca X j) : xw ad ca X ++ [(q, e)] = xw ad1 ca1 X1 := by
  unfold xw
  rw [h1, List.range_succ, List.map_append, List.map_cons, List.map_nil, hq, he]
  congr 1
  apply List.map_congr_left
  intro j hj
  obtain ⟨a1, a2⟩ := hne j (List.mem_range.mp hj)
  rw [a1, a2]
theorem xu_ne {α : Type} {f : Nat → Nat → α} {c k j : Nat} {v : α} (h : j ≠ c) : xu f c k v j = f j := by
  funext k'
  unfold xu
  rw [if_neg h]
theorem xur_ne {α : Type} {f : Nat → Nat → α} {c j : Nat} {g : Nat → α} (h : j ≠ c) : xur f c g j = f j := by
  funext k'
  unfold xur
  rw [if_neg h]
theorem xur_eq {α : Type} {f : Nat → Nat → α} {c : Nat} {g : Nat → α} : xur f c g c = g := by
  funext k'
  unfold xur
  rw [if_pos rfl]
theorem xu_eq {f : Nat → Nat → Int32} {c k : Nat} {v : Int32} : xu f c k v c = upd (f c) k v := by
  funext k'
  unfold xu upd
  simp
/-- a cell speaks of its own numbers alone -/
theorem xce_of {ad : Nat → Nat} {ca : Nat → ClassId} {X X' : XM} {c : Nat} (hI : X'.2.1 c = X.2.1 c) (hL : X'.2.2.1 c = X.2.2.1 c) (hR : X'.2.2.2 c = X.2.2.2 c) : xce ad ca X' c = xce ad ca X c := by
  have hv : ∀ ci, xfv ad X' c ci = xfv ad X c ci := by
    intro ci
    funext k
    unfold xfv
    rw [hI, hL, hR]
  unfold xce xfs
  rw [hI, hR]
  simp only [hv]
def xty (kd : Nat) : FieldType := if kd = 0 then .int else .object (vwCl.getD (kd - 100) ("", TX0, 0)).1
/-- our memory is the heap's cells -/
def xW (D : va_G) (tys : List (ClassId × FieldType)) (ad : Nat → Nat) (ca : Nat → ClassId) (A : Nat → Prop) (X : XM) (H : Heap) : Prop :=
  va_P D vwCl (xw ad ca X) H ∧ va_D A (xw ad ca X) ∧ (∀ c, c < X.1 → (xkind c).1 < 200 → ∃ t0 : Nat, tys[t0]? = some (ca c, xty (xkind c).1)) ∧ (∀ c k a, X.2.2.2 c k = some a → a < X.1) ∧ X.1 ≤ xSH.length
/-- what stands from the start, and nobody writes -/
def xE (S : XS) (ad : Nat → Nat) (fmt : Value) (A : Nat → Prop) (U : State) (H : Heap) : Prop :=
  vk_S 8 (xBYT.map List.length) xBYT (fun i => ad (10000 + i)) (fun i => ad (20000 + i)) A U H ∧
  (∀ (k : Nat) (q : String × Nat × String), xSTR[k]? = some q → vk_R q.1 q.2.1 q.2.2 (ad (10000 + k)) U) ∧
  va_Z "java/lang/String" "COMPACT_STRINGS" "Z" (.int 1) A U H ∧
  va_Z "BetweenThisAndThat$Saying" "ABOVE" "[I" (.ref (ad 30000)) A U H ∧
  va_T .int (ad 30000) 6 (fun j => .int (xabove.getD j 0)) A U H ∧
  va_Z "jdk/internal/util/Preconditions" "SIOOBE_FORMATTER" "Ljava/util/function/BiFunction;" fmt A U H ∧
  (∀ ci : Nat, ci ∈ [0, 2, 3, 5] → va_AO (vwCl.getD ci ("", TX0, 0)).1 U) ∧
  (∀ (a : String) (i : Nat) (y : MethodName) (h : String), Cond.methodLinkNest a i y h ∈ xNEST → va_Nw (.methodLinkNest a i y h) U) ∧
  (va_X (ad 40000) S.1 S.2 U H ∧ ad 40000 < H.size ∧ ¬ A (ad 40000))
theorem va_X.kept2 {b L : Nat} {xs : Nat → Int32} {U : State} {H H1 : Heap} (h : va_X b L xs U H) (hq : H1[b]? = H[b]?) : va_X b L xs U H1 := h.kept hq
/-- it moves on to a callee -/
theorem xE.go {S : XS} {ad : Nat → Nat} {fmt : Value} {A B : Nat → Prop} {s U : State} {H0 H : Heap} (h : xE S ad fmt A s H0) (hW : s.WarmedH U.vm) (hz : H0.size ≤ H.size) (hk : ∀ a : Nat, a < H0.size → ¬ A a → H[a]? = H0[a]?) (hAB : ∀ q, B q → A q) : xE S ad fmt B U H := by
  obtain ⟨h1, h2, h3, h4, h5, h6, h7, h8, h9, h10, h11⟩ := h
  have hm := hW.alike
  exact ⟨((vk_S.moved hm h1).kept hk).narrow hAB, fun k q hq => (h2 k q hq).warm hW, ((va_Z.moved hm h3).kept hk).narrow hAB, ((va_Z.moved hm h4).kept hk).narrow hAB, ((va_T.moved hm h5).kept hk).narrow hAB, ((va_Z.moved hm h6).kept hk).narrow hAB, fun ci hci => va_AO.moved hm (h7 ci hci), fun a i y hh hin => va_Nw.warmM hW (h8 a i y hh hin), (va_X.moved hm h9).kept (hk _ h10 h11), Nat.lt_of_lt_of_le h10 hz, fun z => h11 (hAB _ z)⟩
/-- addresses of what stands: only these matter -/
theorem xE.ad {S : XS} {ad ad1 : Nat → Nat} {fmt : Value} {A : Nat → Prop} {U : State} {H : Heap} (h : xE S ad fmt A U H) (hq : ∀ a, 10000 ≤ a → ad1 a = ad a) : xE S ad1 fmt A U H := by
  have e1 : (fun i => ad1 (10000 + i)) = (fun i => ad (10000 + i)) := funext fun i => hq _ (by omega)
  have e2 : (fun i => ad1 (20000 + i)) = (fun i => ad (20000 + i)) := funext fun i => hq _ (by omega)
  unfold xE at h ⊢
  rw [e1, e2, hq 30000 (by omega), hq 40000 (by omega)]
  refine ⟨h.1, fun k q hk => ?_, h.2.2⟩
  rw [hq _ (by omega)]
  exact h.2.1 k q hk
end
section
/-! one step of ours that reads or writes the world -/
/-- what a field of a kind is, as a type -/
def xtk (k : Nat) (ty : FieldType) : Bool := match k, ty with
  | 0, .int => true
  | 3, .boolean => true
  | 1, .long => true
  | 2, .object _ => true
  | 2, .array _ => true
  | _, _ => false
def xcK (ci : Nat) (C : vw_C) : Prop :=
  ((∀ w ∈ u_ws C.1 C.2.1 C.2.2, w ∈ lw_tbl ∧ goodWord w = true) ∧ (Jvm.Cond.instantiable C.1 C.2.2 ∈ lw_tbl ∧ Jvm.Cond.initialized C.1 ∈ lw_tbl)) ∧
  (∀ a, a < C.2.2 → ∀ b, b < C.2.2 → a ≠ b → (C.2.1 a).2.1 ≠ (C.2.1 b).2.1) ∧ xnf ci = C.2.2 ∧
  (∀ k, k < C.2.2 → (C.2.1 k).2.2.2 = (xfk ci k).2) ∧
  ∃ ty : Nat → FieldType, (∀ k, k < C.2.2 → parseFieldDescriptor (C.2.1 k).2.2.1 = some (ty k)) ∧ ∀ k, k < C.2.2 → xtk (xfk ci k).1 (ty k) = true
set_option maxRecDepth 100000 in
theorem xcls {ci : Nat} {C : vw_C} (h : vwCl[ci]? = some C) : xcK ci C := by
  match ci, h with
  | 0, h => cases h; exact ⟨⟨by decide +kernel, by decide +kernel, by decide +kernel⟩, nmX0, by decide +kernel, by decide +kernel, tyX0, tyX0_ok, by decide +kernel⟩
  | 1, h => cases h; exact ⟨⟨by decide +kernel, by decide +kernel, by decide +kernel⟩, nmX1, by decide +kernel, by decide +kernel, tyX1, tyX1_ok, by decide +kernel⟩
  | 2, h => cases h; exact ⟨⟨by decide +kernel, by decide +kernel, by decide +kernel⟩, nmX2, by decide +kernel, by decide +kernel, tyX2, tyX2_ok, by decide +kernel⟩
  | 3, h => cases h; exact ⟨⟨by decide +kernel, by decide +kernel, by decide +kernel⟩, nmX3, by decide +kernel, by decide +kernel, tyX3, tyX3_ok, by decide +kernel⟩
  | 4, h => cases h; exact ⟨⟨by decide +kernel, by decide +kernel, by decide +kernel⟩, nmX4, by decide +kernel, by decide +kernel, tyX4, tyX4_ok, by decide +kernel⟩
  | 5, h => cases h; exact ⟨⟨by decide +kernel, by decide +kernel, by decide +kernel⟩, nmX5, by decide +kernel, by decide +kernel, tyX5, tyX5_ok, by decide +kernel⟩
  | 6, h => cases h; exact ⟨⟨by decide +kernel, by decide +kernel, by decide +kernel⟩, nmX6, by decide +kernel, by decide +kernel, tyX6, tyX6_ok, by decide +kernel⟩
  | 7, h => cases h; exact ⟨⟨by decide +kernel, by decide +kernel, by decide +kernel⟩, nmX7, by decide +kernel, by decide +kernel, tyX7, tyX7_ok, by decide +kernel⟩
  | 8, h => cases h; exact ⟨⟨by decide +kernel, by decide +kernel, by decide +kernel⟩, nmX8, by decide +kernel, by decide +kernel, tyX8, tyX8_ok, by decide +kernel⟩
  | k + 9, h => simp [vwCl] at h
theorem xcK.gt {ci : Nat} {C : vw_C} (h : xcK ci C) : ∀ w ∈ u_ws C.1 C.2.1 C.2.2, w ∈ xGT := fun w hw => xGT_in (h.1.1 w hw).1 (h.1.1 w hw).2
theorem xfs_get {ad : Nat → Nat} {X : XM} {c ci k : Nat} (h : k < xnf ci) : (xfs ad X c ci)[k]? = some (xfv ad X c ci k) := by
  simp [xfs, h]
theorem xget_fv {ad : Nat → Nat} {fmt : Value} {X : XM} {c ci k : Nat} {v : Value} (h : xget X c ci k = some v) : xfv ad X c ci k = xv ad fmt v := by
  unfold xget at h
  unfold xfv
  split at h
  · cases h; rename_i hk; rw [hk]; rfl
  · cases h; rename_i hk; rw [hk]; rfl
  · cases h; rename_i hk; rw [hk]; rfl
  · cases h
    rename_i hk
    rw [hk]
    show va_rf ((X.2.2.2 c k).map ad) = xv ad fmt (va_rf (X.2.2.2 c k))
    cases X.2.2.2 c k <;> rfl
  · cases h
theorem xce_obj {ad : Nat → Nat} {ca : Nat → ClassId} {X : XM} {c ci : Nat} (h : (xkind c).1 = 200 + ci) : xce ad ca X c = .inr (ci, xfs ad X c ci) := by
  unfold xce
  rw [if_neg (by omega), if_neg (by omega), h, Nat.add_sub_cancel_left]
theorem xce_int {ad : Nat → Nat} {ca : Nat → ClassId} {X : XM} {c : Nat} (h : (xkind c).1 = 0) : xce ad ca X c = .inl (ca c, (xkind c).2, .inl (X.2.1 c)) := by
  unfold xce
  rw [if_pos h]
theorem xce_ref {ad : Nat → Nat} {ca : Nat → ClassId} {X : XM} {c : Nat} (h : 100 ≤ (xkind c).1) (h2 : (xkind c).1 < 200) : xce ad ca X c = .inl (ca c, (xkind c).2, .inr (.inr (.inr (.inr (fun i => (X.2.2.2 c i).map ad))))) := by
  unfold xce
  rw [if_neg (by omega), if_pos h2]
theorem xput_spec {ad : Nat → Nat} {fmt : Value} {X X' : XM} {c ci k : Nat} {v : Value} (h : xput X c ci k v = some X') (hc : c < X.1) (hkN : k < xnf ci) :
    X'.1 = X.1 ∧ (∀ j, j ≠ c → X'.2.1 j = X.2.1 j ∧ X'.2.2.1 j = X.2.2.1 j ∧ X'.2.2.2 j = X.2.2.2 j) ∧ (xfs ad X c ci).set k (xv ad fmt v) = xfs ad X' c ci ∧
    ((∀ c k a, X.2.2.2 c k = some a → a < X.1) → ∀ c k a, X'.2.2.2 c k = some a → a < X.1) ∧
    ∀ ty, xtk (xfk ci k).1 ty = true → narrow ty (xv ad fmt v) = xv ad fmt v ∧ fits ty (xv ad fmt v) = true := by
  have key : ∀ (X' : XM) (w : Value), xfv ad X' c ci k = w → (∀ j, j ≠ k → xfv ad X' c ci j = xfv ad X c ci j) → (xfs ad X c ci).set k w = xfs ad X' c ci := by
    intro X' w h1 h2
    apply List.ext_getElem?
    intro j
    by_cases hj : j = k
    · subst hj
      rw [List.getElem?_set_self (by simp [xfs]; exact hkN), xfs_get hkN, h1]
    · rw [List.getElem?_set_ne (fun e => hj e.symm)]
      by_cases hl : j < xnf ci
      · rw [xfs_get hl, xfs_get hl, h2 j hj]
      · rw [List.getElem?_eq_none (by simp [xfs]; omega), List.getElem?_eq_none (by simp [xfs]; omega)]
  unfold xput at h
  split at h
  · cases h
    rename_i x hk
    refine ⟨rfl, fun j hj => ⟨xu_ne hj, rfl, rfl⟩, key _ _ (by unfold xfv; rw [hk]; simp [xu, xv]) (fun j hj => by unfold xfv; simp [xu, hj]), fun hw => hw, fun ty ht => ?_⟩
    rw [hk] at ht
    cases ty <;> simp [xtk] at ht
    exact ⟨rfl, rfl⟩
  · rename_i x hk
    split at h
    · cases h
      rename_i hx
      refine ⟨rfl, fun j hj => ⟨xu_ne hj, rfl, rfl⟩, key _ _ (by unfold xfv; rw [hk]; simp [xu, xv]) (fun j hj => by unfold xfv; simp [xu, hj]), fun hw => hw, fun ty ht => ?_⟩
      rw [hk] at ht
      cases ty <;> simp [xtk] at ht
      rcases hx with rfl | rfl
      · exact ⟨show narrow .boolean (.int 0) = .int 0 by decide, show fits .boolean (.int 0) = true by decide⟩
      · exact ⟨show narrow .boolean (.int 1) = .int 1 by decide, show fits .boolean (.int 1) = true by decide⟩
    · cases h
  · cases h
    rename_i x hk
    refine ⟨rfl, fun j hj => ⟨rfl, xu_ne hj, rfl⟩, key _ _ (by unfold xfv; rw [hk]; simp [xu, xv]) (fun j hj => by unfold xfv; simp [xu, hj]), fun hw => hw, fun ty ht => ?_⟩
    rw [hk] at ht
    cases ty <;> simp [xtk] at ht
    exact ⟨rfl, rfl⟩
  · rename_i a hk
    split at h
    · cases h
      rename_i ha
      refine ⟨rfl, fun j hj => ⟨rfl, rfl, xu_ne hj⟩, key _ _ (by unfold xfv; rw [hk]; simp [xu, xv, va_rf]) (fun j hj => by unfold xfv; simp [xu, hj]), fun hw c' k' a' h' => ?_, fun ty ht => ?_⟩
      · simp only [xu] at h'
        split at h'
        · split at h'
          · cases h'; exact ha
          · exact hw _ _ _ h'
        · exact hw _ _ _ h'
      · rw [hk] at ht
        cases ty <;> simp [xtk] at ht <;> exact ⟨rfl, rfl⟩
    · cases h
  · cases h
theorem xinb_vp {i : Int32} {n : Nat} (h : xinb i n) : vp_in i n := vp_in_iff.mpr h
theorem xW.put {D : va_G} {tys : List (ClassId × FieldType)} {ad : Nat → Nat} {ca : Nat → ClassId} {A : Nat → Prop} {X X' : XM} {H H1 : Heap} {c : Nat} {e : va_E} (h : xW D tys ad ca A X H) (h1 : X'.1 = X.1) (he : xce ad ca X' c = e) (hne : ∀ j, j ≠ c → X'.2.1 j = X.2.1 j ∧ X'.2.2.1 j = X.2.2.1 j ∧ X'.2.2.2 j = X.2.2.2 j)
    (hwf : ∀ c k a, X'.2.2.2 c k = some a → a < X.1) (hP : va_P D vwCl ((xw ad ca X).set c (ad c, e)) H1) (hD : va_D A ((xw ad ca X).set c (ad c, e))) : xW D tys ad ca A X' H1 := by
  rw [xw_set h1 he (fun j hj => xce_of (hne j hj).1 (hne j hj).2.1 (hne j hj).2.2)] at hP hD
  exact ⟨hP, hD, fun c hc => h.2.2.1 c (by rw [← h1]; exact hc), fun c k a ha => by rw [h1]; exact hwf c k a ha, by rw [h1]; exact h.2.2.2.2⟩
end
section
section XS1
variable {p : Program} {l : Launch} {e : Env} {R : Room} {s : State} {m : MethodId} {args : Array Value} {below : List Frame} {meth : Method} {c : Code} {H : Heap} {locs : List Loc} {cells slots : Nat} {Q : State → Prop}
variable {ent : XMe} {d rs wp pc nL : Nat} {la : Array Slot} {st : List Value} {X : XM} {S : XS} {D : va_G} {tys : List (ClassId × FieldType)} {ad : Nat → Nat} {ca : Nat → ClassId} {fmt : Value} {A : Nat → Prop}
theorem xokF_spec {own : String} {idx : Nat} {put : Bool} (hI : xokF own idx rs wp put = true) {f : Nat × Nat} (hf : xFT[rs]? = some f) : ∃ C : vw_C, vwCl[f.1]? = some C ∧ f.2 < C.2.2 ∧ lw_tbl[wp]? = some (.fieldLink own idx (C.2.1 f.2).1 (C.2.1 f.2).2.1 (C.2.1 f.2).2.2.1) ∧ (put = true → (C.2.1 f.2).2.2.2 = true → (C.2.1 f.2).1 = own) := by
  unfold xokF at hI
  rw [hf] at hI
  dsimp only at hI
  cases hC : vwCl[f.1]? with
  | none => rw [hC] at hI; cases hI
  | some C =>
    rw [hC] at hI
    dsimp only at hI
    simp only [Bool.and_eq_true, decide_eq_true_eq] at hI
    refine ⟨C, rfl, hI.1.1, hI.1.2, fun h1 h2 => ?_⟩
    have h3 := hI.2
    rw [h1, h2] at h3
    simpa using h3
theorem x_getf (hF : xFr p R s m args meth c ent d) {idx a : Nat} {f : Nat × Nat} {v : Value} (hd : decode ent.2.2.1 pc = .ok (.getfield idx, 3)) (hI : xokF ent.1 idx rs wp false = true) (hf : xFT[rs]? = some f) (ha : a < X.1) (hk : (xkind a).1 = 200 + f.1) (hv : xget X a f.1 f.2 = some v)
    (hK : va_K D vwCl tys s) (hW : xW D tys ad ca A X H)
    (kk : W p l e R s m args below meth c H locs cells slots Q (F0 m (pc + 3) la (xv ad fmt v :: st.map (xv ad fmt)))) : W p l e R s m args below meth c H locs cells slots Q (F0 m pc la (.ref (ad a) :: st.map (xv ad fmt))) := by
  obtain ⟨hx0, hb, hml, hr, hown, hts, hlk, hin, hfr, hlo⟩ := id hF
  obtain ⟨C, hC, hkC, hl, -⟩ := xokF_spec hI hf
  have hcK := xcls hC
  refine va_get (v := xv ad fmt v) (C := C.1) (T := C.2.1) (N := C.2.2) hx0 hb hts hcK.gt hown hK hW.1 a (by rw [xw_get ha, xce_obj hk]) hC f.2 hkC (hF.word hl rfl) (fun _ h => h) ?_ hd kk
  rw [xfs_get (by rw [hcK.2.2.1]; exact hkC), xget_fv hv]
theorem x_putf (hF : xFr p R s m args meth c ent d) {idx a : Nat} {f : Nat × Nat} {v : Value} {X' : XM} (hd : decode ent.2.2.1 pc = .ok (.putfield idx, 3)) (hI : xokF ent.1 idx rs wp true = true) (hf : xFT[rs]? = some f) (ha : a < X.1) (hk : (xkind a).1 = 200 + f.1) (hfin : (xfk f.1 f.2).2 = false ∨ ent.2.2.2.2.2.1 = 200 + f.1) (hv : xput X a f.1 f.2 v = some X')
    (hK : va_K D vwCl tys s) (hW : xW D tys ad ca A X H) (hS : va_S A s.heap H locs)
    (kk : ∀ (H1 : Heap) (locs1 : List Loc), xW D tys ad ca A X' H1 → va_S A s.heap H1 locs1 → W p l e R s m args below meth c H1 locs1 cells slots Q (F0 m (pc + 3) la (st.map (xv ad fmt)))) : W p l e R s m args below meth c H locs cells slots Q (F0 m pc la (xv ad fmt v :: .ref (ad a) :: st.map (xv ad fmt))) := by
  obtain ⟨hx0, hb, hml, hr, hown, hts, hlk, hin, hfr, hlo⟩ := id hF
  obtain ⟨C, hC, hkC, hl, hdecl⟩ := xokF_spec hI hf
  have hcK := xcls hC
  obtain ⟨-, hnm, hnf, hfi, ty, hty, htk⟩ := id hcK
  have hkN : f.2 < xnf f.1 := by rw [hnf]; exact hkC
  obtain ⟨g1, g2, g3, g4, g5⟩ := xput_spec (ad := ad) (fmt := fmt) hv ha hkN
  obtain ⟨hn, hfit⟩ := g5 (ty f.2) (htk f.2 hkC)
  have he : (xw ad ca X)[a]? = some (ad a, .inr (f.1, xfs ad X a f.1)) := by rw [xw_get ha, xce_obj hk]
  have hlen : f.2 < (xfs ad X a f.1).length := by simp [xfs]; exact hkN
  have fin : ∀ (H1 : Heap) (locs1 : List Loc), va_P D vwCl ((xw ad ca X).set a (ad a, .inr (f.1, (xfs ad X a f.1).set f.2 (xv ad fmt v)))) H1 → va_D A ((xw ad ca X).set a (ad a, .inr (f.1, (xfs ad X a f.1).set f.2 (xv ad fmt v)))) → va_S A s.heap H1 locs1 → W p l e R s m args below meth c H1 locs1 cells slots Q (F0 m (pc + 3) la (st.map (xv ad fmt))) := by
    intro H1 locs1 hP1 hD1 hS1
    rw [g3] at hP1 hD1
    exact kk H1 locs1 (hW.put g1 (xce_obj hk) g2 (g4 hW.2.2.2.1) hP1 hD1) hS1
  cases hb2 : (C.2.1 f.2).2.2.2 with
  | false =>
    exact va_put (v := xv ad fmt v) (ty := ty f.2) (C := C.1) (T := C.2.1) (N := C.2.2) hx0 hb hts hcK.gt ty hty hnm hown hK hW.1 hW.2.1 hS a he hC f.2 hkC (hF.word hl rfl) (fun _ h => h) hb2 (hty f.2 hkC) hn hfit hlen hd fin
  | true =>
    have hkd : ent.2.2.2.2.2.1 = 200 + f.1 := by
      rcases hfin with h | h
      · rw [← hfi f.2 hkC, hb2] at h
        cases h
      · exact h
    exact va_putF (v := xv ad fmt v) (ty := ty f.2) (C := C.1) (T := C.2.1) (N := C.2.2) hx0 hb hts hcK.gt ty hty hnm hown hK hW.1 hW.2.1 hS a he hC f.2 hkC (hF.word hl rfl) (fun _ h => h) hb2 (hin (by omega)) (hdecl rfl hb2) (hty f.2 hkC) hn hfit hlen hd fin
theorem x_iald (hF : xFr p R s m args meth c ent d) {a : Nat} {j : Int32} (hd : decode ent.2.2.1 pc = .ok (.iaload, 1)) (ha : a < X.1) (hk : (xkind a).1 = 0) (hj : xinb j (xkind a).2)
    (hK : va_K D vwCl tys s) (hW : xW D tys ad ca A X H)
    (kk : W p l e R s m args below meth c H locs cells slots Q (F0 m (pc + 1) la (.int (X.2.1 a j.toNatClampNeg) :: st.map (xv ad fmt)))) : W p l e R s m args below meth c H locs cells slots Q (F0 m pc la (.int j :: .ref (ad a) :: st.map (xv ad fmt))) := by
  obtain ⟨hx0, hb, -⟩ := id hF
  obtain ⟨t0, ht⟩ := hW.2.2.1 a ha (by omega)
  rw [hk] at ht
  exact va_iald hx0 hb hK hW.1 a t0 (by rw [xw_get ha, xce_int hk]) ht (xinb_vp hj) hd kk
theorem x_iast (hF : xFr p R s m args meth c ent d) {a : Nat} {j v : Int32} (hd : decode ent.2.2.1 pc = .ok (.iastore, 1)) (ha : a < X.1) (hk : (xkind a).1 = 0) (hj : xinb j (xkind a).2)
    (hK : va_K D vwCl tys s) (hW : xW D tys ad ca A X H) (hS : va_S A s.heap H locs)
    (kk : ∀ (H1 : Heap) (locs1 : List Loc), xW D tys ad ca A (X.1, xu X.2.1 a j.toNatClampNeg v, X.2.2.1, X.2.2.2) H1 → va_S A s.heap H1 locs1 → W p l e R s m args below meth c H1 locs1 cells slots Q (F0 m (pc + 1) la (st.map (xv ad fmt)))) : W p l e R s m args below meth c H locs cells slots Q (F0 m pc la (.int v :: .int j :: .ref (ad a) :: st.map (xv ad fmt))) := by
  obtain ⟨hx0, hb, -⟩ := id hF
  obtain ⟨t0, ht⟩ := hW.2.2.1 a ha (by omega)
  rw [hk] at ht
  refine va_iast hx0 hb hK hW.1 hW.2.1 hS a t0 (by rw [xw_get ha, xce_int hk]) ht (xinb_vp hj) hd (fun H1 locs1 hP1 hD1 hS1 => kk H1 locs1 (hW.put rfl ?_ (fun j hj => ⟨xu_ne hj, rfl, rfl⟩) hW.2.2.2.1 hP1 hD1) hS1)
  rw [xce_int hk]
  show Sum.inl (ca a, (xkind a).2, Sum.inl (xu X.2.1 a j.toNatClampNeg v a)) = _
  rw [xu_eq]
theorem x_aald (hF : xFr p R s m args meth c ent d) {a r : Nat} {j : Int32} (hd : decode ent.2.2.1 pc = .ok (.aaload, 1)) (ha : a < X.1) (hk : 100 ≤ (xkind a).1) (hk2 : (xkind a).1 < 200) (hj : xinb j (xkind a).2) (hr : X.2.2.2 a j.toNatClampNeg = some r)
    (hK : va_K D vwCl tys s) (hW : xW D tys ad ca A X H)
    (kk : W p l e R s m args below meth c H locs cells slots Q (F0 m (pc + 1) la (.ref (ad r) :: st.map (xv ad fmt)))) : W p l e R s m args below meth c H locs cells slots Q (F0 m pc la (.int j :: .ref (ad a) :: st.map (xv ad fmt))) := by
  obtain ⟨hx0, hb, -⟩ := id hF
  obtain ⟨t0, ht⟩ := hW.2.2.1 a ha hk2
  unfold xty at ht
  rw [if_neg (by omega)] at ht
  refine va_aldq hx0 hb hK hW.1 a t0 (by rw [xw_get ha, xce_ref hk hk2]) ht (xinb_vp hj) hd ?_
  rw [hr]
  exact kk
theorem xkind_lt (c : Nat) : (xkind c).1 < 209 := by
  by_cases h : c < 94
  · exact (show ∀ c, c < 94 → (xkind c).1 < 209 by decide +kernel) c h
  · have h2 : xSH.length = 94 := by decide +kernel
    unfold xkind
    rw [List.getD_eq_getElem?_getD, List.getElem?_eq_none (by omega)]
    decide
theorem xcl_get {ci : Nat} (h : ci < 9) : vwCl[ci]? = some (vwCl.getD ci ("", TX0, 0)) := by
  rw [List.getD_eq_getElem?_getD]
  cases hq : vwCl[ci]? with
  | none => rw [List.getElem?_eq_none_iff] at hq; exact absurd h (by simp [vwCl] at hq; omega)
  | some q => rfl
theorem x_aast (hF : xFr p R s m args meth c ent d) {a v : Nat} {j : Int32} (hd : decode ent.2.2.1 pc = .ok (.aastore, 1)) (ha : a < X.1) (hk : 100 ≤ (xkind a).1) (hk2 : (xkind a).1 < 200) (hj : xinb j (xkind a).2) (hv : v < X.1) (hkv : (xkind v).1 = (xkind a).1 + 100)
    (hK : va_K D vwCl tys s) (hW : xW D tys ad ca A X H) (hS : va_S A s.heap H locs)
    (kk : ∀ (H1 : Heap) (locs1 : List Loc), xW D tys ad ca A (X.1, X.2.1, X.2.2.1, xu X.2.2.2 a j.toNatClampNeg (some v)) H1 → va_S A s.heap H1 locs1 → W p l e R s m args below meth c H1 locs1 cells slots Q (F0 m (pc + 1) la (st.map (xv ad fmt)))) : W p l e R s m args below meth c H locs cells slots Q (F0 m pc la (.ref (ad v) :: .int j :: .ref (ad a) :: st.map (xv ad fmt))) := by
  obtain ⟨hx0, hb, -⟩ := id hF
  obtain ⟨t0, ht⟩ := hW.2.2.1 a ha hk2
  unfold xty at ht
  rw [if_neg (by omega)] at ht
  have hci : (xkind a).1 - 100 < 9 := by have := xkind_lt v; omega
  refine va_astq (r := vwCl.getD ((xkind a).1 - 100) ("", TX0, 0)) hx0 hb hK hW.1 hW.2.1 hS a t0 v ((xkind a).1 - 100) (by rw [xw_get ha, xce_ref hk hk2]) ht (by rw [xw_get hv, xce_obj (ci := (xkind a).1 - 100) (by omega)]) (xcl_get hci) (xinb_vp hj) hd (fun H1 locs1 hP1 hD1 hS1 => kk H1 locs1 (hW.put rfl ?_ (fun j hj => ⟨rfl, rfl, xu_ne hj⟩) ?_ hP1 hD1) hS1)
  · rw [xce_ref hk hk2]
    congr 7
    funext i
    simp only [xu, va_up, if_true]
    split <;> rfl
  · intro c' k' a' h'
    simp only [xu] at h'
    split at h'
    · split at h'
      · cases h'; exact hv
      · exact hW.2.2.2.1 _ _ _ h'
    · exact hW.2.2.2.1 _ _ _ h'
end XS1
end
section
section XS2
variable {p : Program} {l : Launch} {e : Env} {R : Room} {s : State} {m : MethodId} {args : Array Value} {below : List Frame} {meth : Method} {c : Code} {H : Heap} {locs : List Loc} {cells slots : Nat} {Q : State → Prop}
variable {ent : XMe} {d rs wp pc nL : Nat} {la : Array Slot} {st : List Value} {ls : XL} {X : XM} {S : XS} {D : va_G} {tys : List (ClassId × FieldType)} {ad : Nat → Nat} {ca : Nat → ClassId} {fmt : Value} {A : Nat → Prop}
theorem x_alenW (hF : xFr p R s m args meth c ent d) {a : Nat} (hd : decode ent.2.2.1 pc = .ok (.arraylength, 1)) (ha : a < X.1) (hk : (xkind a).1 < 200)
    (hK : va_K D vwCl tys s) (hW : xW D tys ad ca A X H)
    (kk : W p l e R s m args below meth c H locs cells slots Q (F0 m (pc + 1) la (.int (Int32.ofNat (xkind a).2) :: st.map (xv ad fmt)))) : W p l e R s m args below meth c H locs cells slots Q (F0 m pc la (.ref (ad a) :: st.map (xv ad fmt))) := by
  obtain ⟨hx0, hb, -⟩ := id hF
  obtain ⟨t0, ht⟩ := hW.2.2.1 a ha hk
  by_cases h0 : (xkind a).1 = 0
  · exact va_alen (x := ((xkind a).2, .inl (X.2.1 a))) hx0 hb hK hW.1 a t0 (by rw [xw_get ha, xce_int h0]) ht rfl hd kk
  · have h1 : xce ad ca X a = .inl (ca a, (xkind a).2, .inr (.inr (.inr (.inr (fun i => (X.2.2.2 a i).map ad))))) := by
      unfold xce
      rw [if_neg h0, if_pos hk]
    exact va_alen (x := ((xkind a).2, .inr (.inr (.inr (.inr (fun i => (X.2.2.2 a i).map ad)))))) hx0 hb hK hW.1 a t0 (by rw [xw_get ha, h1]) ht rfl hd kk
theorem xlen_bytes (k : Nat) : (xBYT.map List.length).getD k 0 = (xBYT.getD k []).length := by
  rw [List.getD_eq_getElem?_getD, List.getD_eq_getElem?_getD, List.getElem?_map]
  cases xBYT[k]? <;> rfl
theorem xSTR_len : xSTR.length = 8 := by decide +kernel
theorem x_sval (hF : xFr p R s m args meth c ent d) {idx a : Nat} (hd : decode ent.2.2.1 pc = .ok (.getfield idx, 3)) (hI : lw_tbl[wp]? = some (.fieldLink ent.1 idx "java/lang/String" "value" "[B")) (ha : 10000 ≤ a ∧ a < 10000 + xSTR.length)
    (hE : xE S ad fmt A s s.heap) (hS : va_S A s.heap H locs)
    (kk : W p l e R s m args below meth c H locs cells slots Q (F0 m (pc + 3) la (.ref (ad (a + 10000)) :: st.map (xv ad fmt)))) : W p l e R s m args below meth c H locs cells slots Q (F0 m pc la (.ref (ad a) :: st.map (xv ad fmt))) := by
  obtain ⟨hx0, hb, hml, hr, hown, -⟩ := id hF
  have h8 := xSTR_len
  obtain ⟨k, rfl⟩ : ∃ k, a = 10000 + k := ⟨a - 10000, by omega⟩
  have h := (hE.1.1 k (by omega)).2.2.1
  rw [show 10000 + k + 10000 = 20000 + k by omega] at kk
  exact vk_getf hx0 hb h hS hown (hF.word hI rfl) (fun _ h => h) hd kk
theorem x_scod (hF : xFr p R s m args meth c ent d) {idx a : Nat} (hd : decode ent.2.2.1 pc = .ok (.getfield idx, 3)) (hI : lw_tbl[wp]? = some (.fieldLink ent.1 idx "java/lang/String" "coder" "B")) (ha : 10000 ≤ a ∧ a < 10000 + xSTR.length)
    (hE : xE S ad fmt A s s.heap) (hS : va_S A s.heap H locs)
    (kk : W p l e R s m args below meth c H locs cells slots Q (F0 m (pc + 3) la (.int 0 :: st.map (xv ad fmt)))) : W p l e R s m args below meth c H locs cells slots Q (F0 m pc la (.ref (ad a) :: st.map (xv ad fmt))) := by
  obtain ⟨hx0, hb, hml, hr, hown, -⟩ := id hF
  have h8 := xSTR_len
  obtain ⟨k, rfl⟩ : ∃ k, a = 10000 + k := ⟨a - 10000, by omega⟩
  have h := (hE.1.1 k (by omega)).2.1
  exact vk_getf hx0 hb h hS hown (hF.word hI rfl) (fun _ h => h) hd kk
theorem x_bald (hF : xFr p R s m args meth c ent d) {a : Nat} {j : Int32} (hd : decode ent.2.2.1 pc = .ok (.baload, 1)) (ha : 20000 ≤ a ∧ a < 20000 + xSTR.length) (hj : xinb j (xBYT.getD (a - 20000) []).length)
    (hE : xE S ad fmt A s s.heap) (hS : va_S A s.heap H locs)
    (kk : W p l e R s m args below meth c H locs cells slots Q (F0 m (pc + 1) la (.int ((xBYT.getD (a - 20000) []).getD j.toNatClampNeg 0) :: st.map (xv ad fmt)))) : W p l e R s m args below meth c H locs cells slots Q (F0 m pc la (.int j :: .ref (ad a) :: st.map (xv ad fmt))) := by
  obtain ⟨hx0, hb, -⟩ := id hF
  have h8 := xSTR_len
  obtain ⟨k, rfl⟩ : ∃ k, a = 20000 + k := ⟨a - 20000, by omega⟩
  rw [Nat.add_sub_cancel_left] at hj kk
  have h := (hE.1.1 k (by omega)).2.2.2
  exact va_tb hx0 hb h hS (by rw [xlen_bytes]; exact xinb_vp hj) rfl hd kk
theorem x_blen (hF : xFr p R s m args meth c ent d) {a : Nat} (hd : decode ent.2.2.1 pc = .ok (.arraylength, 1)) (ha : 20000 ≤ a ∧ a < 20000 + xSTR.length)
    (hE : xE S ad fmt A s s.heap) (hS : va_S A s.heap H locs)
    (kk : W p l e R s m args below meth c H locs cells slots Q (F0 m (pc + 1) la (.int (Int32.ofNat (xBYT.getD (a - 20000) []).length) :: st.map (xv ad fmt)))) : W p l e R s m args below meth c H locs cells slots Q (F0 m pc la (.ref (ad a) :: st.map (xv ad fmt))) := by
  obtain ⟨hx0, hb, -⟩ := id hF
  have h8 := xSTR_len
  obtain ⟨k, rfl⟩ : ∃ k, a = 20000 + k := ⟨a - 20000, by omega⟩
  rw [Nat.add_sub_cancel_left] at kk
  have h := (hE.1.1 k (by omega)).2.2.2
  exact va_tlen hx0 hb h hS (by rw [xlen_bytes]) hd kk
/-- slots of the first n cells -/
def xss : Nat → Nat
  | 0 => 0
  | n + 1 => xss n + (xkind n).2
theorem xss_le {a b : Nat} (h : a ≤ b) : xss a ≤ xss b := by
  induction b with
  | zero => rw [Nat.le_zero.mp h]; exact Nat.le_refl _
  | succ b ih =>
    rcases Nat.lt_or_ge a (b + 1) with h1 | h1
    · exact Nat.le_trans (ih (by omega)) (Nat.le_add_right _ _)
    · rw [show a = b + 1 by omega]; exact Nat.le_refl _
theorem xv_ok {ad ad1 : Nat → Nat} {n : Nat} (h : ∀ a, a < n ∨ 10000 ≤ a → ad1 a = ad a) {v : Value} (hv : xok n v = true) : xv ad1 fmt v = xv ad fmt v := by
  cases v with
  | ref a =>
    unfold xok at hv
    simp only [Bool.or_eq_true, decide_eq_true_eq] at hv
    show Value.ref (ad1 a) = Value.ref (ad a)
    rw [h a hv]
  | _ => rfl
theorem xst_ok {ad ad1 : Nat → Nat} {n : Nat} (h : ∀ a, a < n ∨ 10000 ≤ a → ad1 a = ad a) {st : List Value} (hv : st.all (xok n) = true) : st.map (xv ad1 fmt) = st.map (xv ad fmt) :=
  List.map_congr_left fun v hm => xv_ok h (List.all_eq_true.mp hv v hm)
theorem xLh.ok {ad ad1 : Nat → Nat} {n : Nat} (h : ∀ a, a < n ∨ 10000 ≤ a → ad1 a = ad a) {la : Array Slot} (hl : xLh ad fmt la nL ls) (hv : ls.all (fun o => match o with | some v => xok n v | none => true) = true) : xLh ad1 fmt la nL ls := by
  refine ⟨hl.1, hl.2.1, hl.2.2.1, fun i v hi => ?_⟩
  have h1 := List.all_eq_true.mp hv (some v) (List.mem_of_getElem? hi)
  rw [xv_ok h h1]
  exact hl.2.2.2 i v hi
/-- a new cell: the world is one longer -/
theorem xW.push {X1 : XM} {q : Nat} {cA : ClassId} {e0 : va_E} {tys1 : List (ClassId × FieldType)} {H1 : Heap} (h : xW D tys ad ca A X H) (h1 : X1.1 = X.1 + 1) (hlen : X.1 < xSH.length) (hI : ∀ j, j ≠ X.1 → X1.2.1 j = X.2.1 j) (hL : ∀ j, j ≠ X.1 → X1.2.2.1 j = X.2.2.1 j) (hR : ∀ j, j ≠ X.1 → X1.2.2.2 j = X.2.2.2 j) (hR0 : X1.2.2.2 X.1 = (fun _ => none) ∨ X1.2.2.2 X.1 = X.2.2.2 X.1)
    (he : xce (va_up ad X.1 q) (va_up ca X.1 cA) X1 X.1 = e0) (hty : (xkind X.1).1 < 200 → ∃ t0 : Nat, tys1[t0]? = some (cA, xty (xkind X.1).1)) (htys : ∀ (t0 : Nat) (x : ClassId × FieldType), tys[t0]? = some x → ∃ t1 : Nat, tys1[t1]? = some x)
    (hP : va_P D vwCl (xw ad ca X ++ [(q, e0)]) H1) (hD : va_D A (xw ad ca X ++ [(q, e0)])) : xW D tys1 (va_up ad X.1 q) (va_up ca X.1 cA) A X1 H1 ∧ ∀ a, a < X.1 ∨ 10000 ≤ a → va_up ad X.1 q a = ad a := by
  have h94 : xSH.length = 94 := by decide +kernel
  have hne : ∀ j, j ≠ X.1 → va_up ad X.1 q j = ad j := fun j hj => by unfold va_up; rw [if_neg hj]
  have hne2 : ∀ j, j ≠ X.1 → va_up ca X.1 cA j = ca j := fun j hj => by unfold va_up; rw [if_neg hj]
  have hrefs : ∀ j k, (X.2.2.2 j k).map (va_up ad X.1 q) = (X.2.2.2 j k).map ad := by
    intro j k
    cases hr : X.2.2.2 j k with
    | none => rfl
    | some r => show some _ = some _; rw [hne r (Nat.ne_of_lt (h.2.2.2.1 _ _ _ hr))]
  have hcell : ∀ j, j < X.1 → xce (va_up ad X.1 q) (va_up ca X.1 cA) X1 j = xce ad ca X j := by
    intro j hj
    have hj' : j ≠ X.1 := Nat.ne_of_lt hj
    have hv : ∀ ci, xfv (va_up ad X.1 q) X1 j ci = xfv ad X j ci := by
      intro ci
      funext k
      unfold xfv
      rw [hI j hj', hL j hj', hR j hj', hrefs]
    unfold xce xfs
    rw [hI j hj', hR j hj', hne2 j hj']
    simp only [hv, hrefs]
  rw [xw_push (ad1 := va_up ad X.1 q) (ca1 := va_up ca X.1 cA) h1 (by unfold va_up; rw [if_pos rfl]) he (fun j hj => ⟨hne j (Nat.ne_of_lt hj), hcell j hj⟩)] at hP hD
  refine ⟨⟨hP, hD, fun j hj hk => ?_, fun j k a ha => ?_, by omega⟩, fun a ha => hne a (by omega)⟩
  · by_cases hj' : j = X.1
    · subst hj'
      obtain ⟨t0, ht⟩ := hty hk
      exact ⟨t0, by rw [ht]; unfold va_up; rw [if_pos rfl]⟩
    · obtain ⟨t0, ht⟩ := h.2.2.1 j (by omega) hk
      obtain ⟨t1, ht1⟩ := htys _ _ ht
      exact ⟨t1, by rw [ht1, hne2 j hj']⟩
  · rw [h1]
    by_cases hj' : j = X.1
    · subst hj'
      rcases hR0 with h0 | h0
      · rw [h0] at ha; cases ha
      · rw [h0] at ha
        exact Nat.lt_succ_of_lt (h.2.2.2.1 _ _ _ ha)
    · rw [hR j hj'] at ha
      exact Nat.lt_succ_of_lt (h.2.2.2.1 _ _ _ ha)
theorem xsh_kind {k n c : Nat} (h : xSH[c]? = some (k, n)) : xkind c = (k, n) ∧ c < xSH.length := by
  refine ⟨?_, (List.getElem?_eq_some_iff.mp h).1⟩
  unfold xkind
  rw [List.getD_eq_getElem?_getD, h]
  rfl
theorem xfv_new {ad : Nat → Nat} {X1 : XM} {c ci : Nat} (hI : X1.2.1 c = fun _ => 0) (hL : X1.2.2.1 c = fun _ => 0) (hR : X1.2.2.2 c = fun _ => none) {ty : FieldType} {k : Nat} (ht : xtk (xfk ci k).1 ty = true) : defaultValue ty = xfv ad X1 c ci k := by
  unfold xfv
  rw [hI, hL, hR]
  generalize (xfk ci k).1 = kd at ht ⊢
  match kd, ty, ht with
  | 0, .int, _ => rfl
  | 3, .boolean, _ => rfl
  | 1, .long, _ => rfl
  | 2, .object _, _ => rfl
  | 2, .array _, _ => rfl
theorem x_new (hF : xFr p R s m args meth c ent d) {idx : Nat} (hd : decode ent.2.2.1 pc = .ok (.new idx, 3)) {C : vw_C} (hC : vwCl[rs]? = some C) (hl : lw_tbl[wp]? = some (.classLink ent.1 idx C.1)) (hsh : xSH[X.1]? = some (200 + rs, xnf rs)) (hok : xoks X.1 st ls = true)
    (hK : va_K D vwCl tys s) (hW : xW D tys ad ca A X H) (hS : va_S A s.heap H locs) (hA : ∀ q, s.heap.size ≤ q → A q) (hlh : xLh ad fmt la nL ls) (hcells : cells + 1 ≤ R.cells) (hslots : slots + xnf rs ≤ R.slots)
    (kk : ∀ (H1 : Heap) (ad1 : Nat → Nat) (ca1 : Nat → ClassId), (∀ a, a < X.1 ∨ 10000 ≤ a → ad1 a = ad a) → xW D tys ad1 ca1 A (X.1 + 1, xur X.2.1 X.1 (fun _ => 0), xur X.2.2.1 X.1 (fun _ => 0), xur X.2.2.2 X.1 (fun _ => none)) H1 → va_S A s.heap H1 locs → xLh ad1 fmt la nL ls → W p l e R s m args below meth c H1 locs (cells + 1) (slots + xnf rs) Q (F0 m (pc + 3) la ((Value.ref X.1 :: st).map (xv ad1 fmt)))) : W p l e R s m args below meth c H locs cells slots Q (F0 m pc la (st.map (xv ad fmt))) := by
  obtain ⟨hx0, hb, hml, hr, hown, hts, hlk, hin, hfr, hlo⟩ := id hF
  have hcK := xcls hC
  obtain ⟨⟨-, hins, hini⟩, hnm, hnf, hfi, ty, hty, htk⟩ := id hcK
  obtain ⟨hkd, hlen⟩ := xsh_kind hsh
  unfold xoks at hok
  rw [Bool.and_eq_true] at hok
  have fI : (xur X.2.1 X.1 (fun _ => (0 : Int32))) X.1 = fun _ => 0 := xur_eq
  refine va_new (ci := rs) (C := C.1) (T := C.2.1) (N := C.2.2) (fs := xfs (va_up ad X.1 0) (X.1 + 1, xur X.2.1 X.1 (fun _ => 0), xur X.2.2.1 X.1 (fun _ => 0), xur X.2.2.2 X.1 (fun _ => none)) X.1 rs) hx0 hb hts hcK.gt ty hty hown (hF.word hl rfl) (hts _ (xGT_in hins rfl)) (hts _ (xGT_in hini rfl)) hK hW.1 hW.2.1 hS hA hC ?_ hcells (by rw [← hnf]; exact hslots) hd (fun q H1 hP1 hD1 hS1 => ?_)
  · intro j hj
    unfold vp_V
    rw [List.getD_eq_getElem?_getD, xfs_get (by rw [hnf]; exact hj)]
    exact xfv_new xur_eq xur_eq xur_eq (htk j hj)
  · have he0 : xce (va_up ad X.1 q) (va_up ca X.1 0) (X.1 + 1, xur X.2.1 X.1 (fun _ => 0), xur X.2.2.1 X.1 (fun _ => 0), xur X.2.2.2 X.1 (fun _ => none)) X.1 = .inr (rs, xfs (va_up ad X.1 0) (X.1 + 1, xur X.2.1 X.1 (fun _ => 0), xur X.2.2.1 X.1 (fun _ => 0), xur X.2.2.2 X.1 (fun _ => none)) X.1 rs) := by
      rw [xce_obj (ci := rs) (by rw [hkd])]
      congr 2
      unfold xfs
      apply List.map_congr_left
      intro k _
      unfold xfv
      have hR : (xur X.2.2.2 X.1 (fun _ => (none : Option Nat))) X.1 k = none := by rw [xur_eq]
      simp only [hR]
      rfl
    obtain ⟨hW1, had⟩ := hW.push (X1 := (X.1 + 1, xur X.2.1 X.1 (fun _ => 0), xur X.2.2.1 X.1 (fun _ => 0), xur X.2.2.2 X.1 (fun _ => none))) (q := q) (cA := 0) (tys1 := tys) rfl hlen (fun j hj => xur_ne hj) (fun j hj => xur_ne hj) (fun j hj => xur_ne hj) (Or.inl xur_eq) (e0 := .inr (rs, xfs (va_up ad X.1 0) (X.1 + 1, xur X.2.1 X.1 (fun _ => 0), xur X.2.2.1 X.1 (fun _ => 0), xur X.2.2.2 X.1 (fun _ => none)) X.1 rs)) he0 (fun h => by rw [hkd] at h; simp at h; omega) (fun t0 x h => ⟨t0, h⟩) hP1 hD1
    · rw [show C.2.2 = xnf rs from hnf.symm]
      have hq : va_up ad X.1 q X.1 = q := by unfold va_up; rw [if_pos rfl]
      have h2 := kk H1 (va_up ad X.1 q) (va_up ca X.1 0) had hW1 hS1 (hlh.ok had hok.2)
      rw [List.map_cons, xst_ok had hok.1] at h2
      simp only [xv, hq] at h2
      exact h2
theorem x_newa (hF : xFr p R s m args meth c ent d) {n : Int32} (hd : decode ent.2.2.1 pc = .ok (.newarray .int, 2)) (hsh : xSH[X.1]? = some (0, n.toNatClampNeg)) (hn0 : 0 ≤ n.toInt) (hn1 : n.toInt < 100000) (hok : xoks X.1 st ls = true)
    (hK : va_K D vwCl tys s) (hW : xW D tys ad ca A X H) (hS : va_S A s.heap H locs) (hA : ∀ q, s.heap.size ≤ q → A q) (hlh : xLh ad fmt la nL ls) (hcells : cells + 1 ≤ R.cells) (hslots : slots + n.toNatClampNeg ≤ R.slots)
    (kk : ∀ (H1 : Heap) (tys1 : List (ClassId × FieldType)) (ad1 : Nat → Nat) (ca1 : Nat → ClassId), (∀ a, a < X.1 ∨ 10000 ≤ a → ad1 a = ad a) → va_K D vwCl tys1 s → xW D tys1 ad1 ca1 A (X.1 + 1, xur X.2.1 X.1 (fun _ => 0), X.2.2.1, X.2.2.2) H1 → va_S A s.heap H1 locs → xLh ad1 fmt la nL ls → W p l e R s m args below meth c H1 locs (cells + 1) (slots + n.toNatClampNeg) Q (F0 m (pc + 2) la ((Value.ref X.1 :: st).map (xv ad1 fmt)))) : W p l e R s m args below meth c H locs cells slots Q (F0 m pc la (.int n :: st.map (xv ad fmt))) := by
  obtain ⟨hx0, hb, hml, hr, hown, hts, hlk, hin, hfr, hlo⟩ := id hF
  obtain ⟨hkd, hlen⟩ := xsh_kind hsh
  unfold xoks at hok
  rw [Bool.and_eq_true] at hok
  have hneg : ¬ n < 0 := by rw [Int32.lt_iff_toInt_lt, Int32.toInt_zero]; omega
  have hbig : n.toNatClampNeg < 100000 := by show n.toInt.toNat < _; omega
  refine va_newa (atype := .int) (ty := .int) (a0 := (n.toNatClampNeg, .inl (fun _ => 0))) hx0 hb (hts _ (xGT_in (List.mem_of_getElem? (i := 182) (by decide +kernel)) rfl)) rfl hK hW.1 hW.2.1 hS hA (fun cA => by rw [vp_cell_i]; rfl) hneg rfl (by show n.toNatClampNeg * 4 ≤ _; omega) hcells hslots hd (fun q cA H1 hK1 hP1 hD1 hS1 => ?_)
  obtain ⟨hW1, had⟩ := hW.push (X1 := (X.1 + 1, xur X.2.1 X.1 (fun _ => 0), X.2.2.1, X.2.2.2)) (q := q) (cA := cA) (tys1 := tys ++ [(cA, .int)]) rfl hlen (fun j hj => xur_ne hj) (fun j hj => rfl) (fun j hj => rfl) (Or.inr rfl) (e0 := .inl (cA, n.toNatClampNeg, .inl (fun _ => 0))) (by rw [xce_int (by rw [hkd])]; simp only [xur_eq, hkd, va_up, if_true]) (fun _ => ⟨tys.length, by rw [List.getElem?_append_right (Nat.le_refl _), Nat.sub_self, hkd]; rfl⟩) (fun t0 x h => ⟨t0, by rw [List.getElem?_append_left (List.getElem?_eq_some_iff.mp h).1]; exact h⟩) hP1 hD1
  have hq : va_up ad X.1 q X.1 = q := by unfold va_up; rw [if_pos rfl]
  have h2 := kk H1 _ (va_up ad X.1 q) (va_up ca X.1 cA) had hK1 hW1 hS1 (hlh.ok had hok.2)
  rw [List.map_cons, xst_ok had hok.1] at h2
  simp only [xv, hq] at h2
  exact h2
theorem x_newq (hF : xFr p R s m args meth c ent d) {idx : Nat} {n : Int32} (hd : decode ent.2.2.1 pc = .ok (.anewarray idx, 3)) {C : vw_C} (hC : vwCl[rs]? = some C) (hl : lw_tbl[wp]? = some (.classLink ent.1 idx C.1)) (hAO : va_AO C.1 s) (hsh : xSH[X.1]? = some (100 + rs, n.toNatClampNeg)) (hn0 : 0 ≤ n.toInt) (hn1 : n.toInt < 100000) (hrs : rs < 9) (hok : xoks X.1 st ls = true)
    (hK : va_K D vwCl tys s) (hW : xW D tys ad ca A X H) (hS : va_S A s.heap H locs) (hA : ∀ q, s.heap.size ≤ q → A q) (hlh : xLh ad fmt la nL ls) (hcells : cells + 1 ≤ R.cells) (hslots : slots + n.toNatClampNeg ≤ R.slots)
    (kk : ∀ (H1 : Heap) (tys1 : List (ClassId × FieldType)) (ad1 : Nat → Nat) (ca1 : Nat → ClassId), (∀ a, a < X.1 ∨ 10000 ≤ a → ad1 a = ad a) → va_K D vwCl tys1 s → xW D tys1 ad1 ca1 A (X.1 + 1, X.2.1, X.2.2.1, xur X.2.2.2 X.1 (fun _ => none)) H1 → va_S A s.heap H1 locs → xLh ad1 fmt la nL ls → W p l e R s m args below meth c H1 locs (cells + 1) (slots + n.toNatClampNeg) Q (F0 m (pc + 3) la ((Value.ref X.1 :: st).map (xv ad1 fmt)))) : W p l e R s m args below meth c H locs cells slots Q (F0 m pc la (.int n :: st.map (xv ad fmt))) := by
  obtain ⟨hx0, hb, hml, hr, hown, hts, hlk, hin, hfr, hlo⟩ := id hF
  obtain ⟨hkd, hlen⟩ := xsh_kind hsh
  unfold xoks at hok
  rw [Bool.and_eq_true] at hok
  have hneg : ¬ n < 0 := by rw [Int32.lt_iff_toInt_lt, Int32.toInt_zero]; omega
  have hbig : n.toNatClampNeg < 100000 := by show n.toInt.toNat < _; omega
  refine va_newq hx0 hb hown (hF.word hl rfl) hAO hK hW.1 hW.2.1 hS hA hneg rfl (by omega) hcells hslots hd (fun q cA H1 hK1 hP1 hD1 hS1 => ?_)
  have hCx : vwCl.getD rs ("", TX0, 0) = C := by rw [List.getD_eq_getElem?_getD, hC]; rfl
  obtain ⟨hW1, had⟩ := hW.push (X1 := (X.1 + 1, X.2.1, X.2.2.1, xur X.2.2.2 X.1 (fun _ => none))) (q := q) (cA := cA) (tys1 := tys ++ [(cA, .object C.1)]) rfl hlen (fun j hj => rfl) (fun j hj => rfl) (fun j hj => xur_ne hj) (Or.inl xur_eq) (e0 := .inl (cA, n.toNatClampNeg, .inr (.inr (.inr (.inr (fun _ => none)))))) (by rw [xce_ref (by rw [hkd]; simp) (by rw [hkd]; simp; omega)]; simp only [xur_eq, hkd, va_up, if_true]; rfl) (fun _ => ⟨tys.length, by rw [List.getElem?_append_right (Nat.le_refl _), Nat.sub_self, hkd]; unfold xty; rw [if_neg (by simp)]; simp [hC]⟩) (fun t0 x h => ⟨t0, by rw [List.getElem?_append_left (List.getElem?_eq_some_iff.mp h).1]; exact h⟩) hP1 hD1
  have hq : va_up ad X.1 q X.1 = q := by unfold va_up; rw [if_pos rfl]
  have h2 := kk H1 _ (va_up ad X.1 q) (va_up ca X.1 cA) had hK1 hW1 hS1 (hlh.ok had hok.2)
  rw [List.map_cons, xst_ok had hok.1] at h2
  simp only [xv, hq] at h2
  exact h2
end XS2
end
section
section XS3
variable {p : Program} {l : Launch} {e : Env} {R : Room} {s : State} {m : MethodId} {args : Array Value} {below : List Frame} {meth : Method} {c : Code} {H : Heap} {locs : List Loc} {cells slots : Nat} {Q : State → Prop}
variable {ent : XMe} {d rs wp pc pc' nL : Nat} {i : Instr} {la : Array Slot} {st st' : List Value} {ls ls' : XL} {X X' : XM} {S : XS} {D : va_G} {tys : List (ClassId × FieldType)} {ad : Nat → Nat} {ca : Nat → ClassId} {fmt : Value} {A : Nat → Prop}
set_option maxHeartbeats 4000000 in
theorem xs1_sound (hF : xFr p R s m args meth c ent d) (hd : decode ent.2.2.1 pc = .ok (i, xlen i pc)) (hI : xokI ent.1 pc i rs wp = true) (hf : xfm fmt)
    (hx : xs1 S ent.2.2.2.2.2.1 i rs wp pc ls st X = some (pc', ls', st', X')) :
    X.1 ≤ X'.1 ∧ (va_K D vwCl tys s → xW D tys ad ca A X H → va_S A s.heap H locs → (∀ q, s.heap.size ≤ q → A q) → xE S ad fmt A s s.heap → xLh ad fmt la nL ls → cells + (X'.1 - X.1) ≤ R.cells → slots + (xss X'.1 - xss X.1) ≤ R.slots →
    (∀ (H1 : Heap) (locs1 : List Loc) (tys1 : List (ClassId × FieldType)) (ad1 : Nat → Nat) (ca1 : Nat → ClassId) (la1 : Array Slot), (X'.1 = X.1 → ad1 = ad) → (∀ a, a < X.1 ∨ 10000 ≤ a → ad1 a = ad a) → va_K D vwCl tys1 s → xW D tys1 ad1 ca1 A X' H1 → va_S A s.heap H1 locs1 → xLh ad1 fmt la1 nL ls' → W p l e R s m args below meth c H1 locs1 (cells + (X'.1 - X.1)) (slots + (xss X'.1 - xss X.1)) Q (F0 m pc' la1 (st'.map (xv ad1 fmt)))) →
    W p l e R s m args below meth c H locs cells slots Q (F0 m pc la (st.map (xv ad fmt)))) := by
  obtain ⟨hx0, hb, hml, hr, hown, hts, hlk, hin, hfr, hlo⟩ := id hF
  revert hd hI
  unfold xs1 at hx
  split at hx
  all_goals intro hd hI
  · have hX : X' = X := by split at hx <;> (cases hx; rfl)
    subst hX
    refine ⟨Nat.le_refl _, ?_⟩
    intro hK hW hS hA hE hl hc hs kk
    have hg := xgo_eq (of_decide_eq_true hI)
    simp only [Nat.sub_self, Nat.add_zero] at kk
    have k2 := kk H locs tys ad ca la (fun _ => rfl) (fun _ _ => rfl) hK hW hS
    rename_i cd off x st
    cases cd
    · refine lv_if_eq hx0 hb hd hg (fun h => ?_) (fun h => ?_)
      · rw [if_pos (by show decide _ = true; exact decide_eq_true h)] at hx; cases hx; exact k2 hl
      · rw [if_neg (by show ¬ decide _ = true; rw [decide_eq_true_eq]; exact h)] at hx; cases hx; exact k2 hl
    · refine lv_if_ne hx0 hb hd hg (fun h => ?_) (fun h => ?_)
      · rw [if_pos (by show decide _ = true; exact decide_eq_true h)] at hx; cases hx; exact k2 hl
      · rw [if_neg (by show ¬ decide _ = true; rw [decide_eq_true_eq]; exact fun z => z h)] at hx; cases hx; exact k2 hl
    · refine lv_if_lt hx0 hb hd hg (fun h => ?_) (fun h => ?_)
      · rw [if_pos (by show decide _ = true; exact decide_eq_true h)] at hx; cases hx; exact k2 hl
      · rw [if_neg (by show ¬ decide _ = true; rw [decide_eq_true_eq]; exact h)] at hx; cases hx; exact k2 hl
    · refine lv_if_ge hx0 hb hd hg (fun h => ?_) (fun h => ?_)
      · rw [if_pos (by show decide _ = true; exact decide_eq_true h)] at hx; cases hx; exact k2 hl
      · rw [if_neg (by show ¬ decide _ = true; rw [decide_eq_true_eq]; exact h)] at hx; cases hx; exact k2 hl
    · refine lv_if_gt hx0 hb hd hg (fun h => ?_) (fun h => ?_)
      · rw [if_pos (by show decide _ = true; exact decide_eq_true h)] at hx; cases hx; exact k2 hl
      · rw [if_neg (by show ¬ decide _ = true; rw [decide_eq_true_eq]; exact h)] at hx; cases hx; exact k2 hl
    · refine lv_if_le hx0 hb hd hg (fun h => ?_) (fun h => ?_)
      · rw [if_pos (by show decide _ = true; exact decide_eq_true h)] at hx; cases hx; exact k2 hl
      · rw [if_neg (by show ¬ decide _ = true; rw [decide_eq_true_eq]; exact h)] at hx; cases hx; exact k2 hl
  · have hX : X' = X := by split at hx <;> (cases hx; rfl)
    subst hX
    refine ⟨Nat.le_refl _, ?_⟩
    intro hK hW hS hA hE hl hc hs kk
    have hg := xgo_eq (of_decide_eq_true hI)
    simp only [Nat.sub_self, Nat.add_zero] at kk
    have k2 := kk H locs tys ad ca la (fun _ => rfl) (fun _ _ => rfl) hK hW hS
    rename_i cd off y x st
    cases cd
    · refine lv_icmp_eq hx0 hb hd hg (fun h => ?_) (fun h => ?_)
      · rw [if_pos (by show decide _ = true; exact decide_eq_true h)] at hx; cases hx; exact k2 hl
      · rw [if_neg (by show ¬ decide _ = true; rw [decide_eq_true_eq]; exact h)] at hx; cases hx; exact k2 hl
    · refine lv_icmp_ne hx0 hb hd hg (fun h => ?_) (fun h => ?_)
      · rw [if_pos (by show decide _ = true; exact decide_eq_true h)] at hx; cases hx; exact k2 hl
      · rw [if_neg (by show ¬ decide _ = true; rw [decide_eq_true_eq]; exact fun z => z h)] at hx; cases hx; exact k2 hl
    · refine lv_icmp_lt hx0 hb hd hg (fun h => ?_) (fun h => ?_)
      · rw [if_pos (by show decide _ = true; exact decide_eq_true h)] at hx; cases hx; exact k2 hl
      · rw [if_neg (by show ¬ decide _ = true; rw [decide_eq_true_eq]; exact h)] at hx; cases hx; exact k2 hl
    · refine lv_icmp_ge hx0 hb hd hg (fun h => ?_) (fun h => ?_)
      · rw [if_pos (by show decide _ = true; exact decide_eq_true h)] at hx; cases hx; exact k2 hl
      · rw [if_neg (by show ¬ decide _ = true; rw [decide_eq_true_eq]; exact h)] at hx; cases hx; exact k2 hl
    · refine lv_icmp_gt hx0 hb hd hg (fun h => ?_) (fun h => ?_)
      · rw [if_pos (by show decide _ = true; exact decide_eq_true h)] at hx; cases hx; exact k2 hl
      · rw [if_neg (by show ¬ decide _ = true; rw [decide_eq_true_eq]; exact h)] at hx; cases hx; exact k2 hl
    · refine lv_icmp_le hx0 hb hd hg (fun h => ?_) (fun h => ?_)
      · rw [if_pos (by show decide _ = true; exact decide_eq_true h)] at hx; cases hx; exact k2 hl
      · rw [if_neg (by show ¬ decide _ = true; rw [decide_eq_true_eq]; exact h)] at hx; cases hx; exact k2 hl
  · split at hx
    · rename_i dflt lo hi offs x st h
      cases hx
      refine ⟨Nat.le_refl _, ?_⟩
      intro hK hW hS hA hE hl hc hs kk
      simp only [xokI, Bool.and_eq_true, decide_eq_true_eq] at hI
      simp only [Nat.sub_self, Nat.add_zero] at kk
      exact lv_tableOut hx0 hb hd h (xgo_eq hI.1) (kk H locs tys ad ca la (fun _ => rfl) (fun _ _ => rfl) hK hW hS hl)
    · rename_i dflt lo hi offs x st h
      split at hx
      · rename_i off ho
        cases hx
        refine ⟨Nat.le_refl _, ?_⟩
        intro hK hW hS hA hE hl hc hs kk
        simp only [xokI, Bool.and_eq_true, decide_eq_true_eq, List.all_eq_true] at hI
        simp only [Nat.sub_self, Nat.add_zero] at kk
        have hm : off ∈ offs.toList := by
          rw [← Array.getElem?_toList] at ho
          exact List.mem_of_getElem? ho
        exact lv_tableIn hx0 hb hd (fun z => h (Or.inl z)) (fun z => h (Or.inr z)) ho (xgo_eq (hI.2 off hm)) (kk H locs tys ad ca la (fun _ => rfl) (fun _ _ => rfl) hK hW hS hl)
      · cases hx
  · split at hx
    · cases hx
    · rename_i h
      cases hx
      refine ⟨Nat.le_refl _, ?_⟩
      intro hK hW hS hA hE hl hc hs kk
      simp only [Nat.sub_self, Nat.add_zero] at kk
      exact lv_idiv hx0 hb hd h (kk H locs tys ad ca la (fun _ => rfl) (fun _ _ => rfl) hK hW hS hl)
  · split at hx
    · cases hx
    · rename_i h
      cases hx
      refine ⟨Nat.le_refl _, ?_⟩
      intro hK hW hS hA hE hl hc hs kk
      simp only [Nat.sub_self, Nat.add_zero] at kk
      exact lv_irem hx0 hb hd h (kk H locs tys ad ca la (fun _ => rfl) (fun _ _ => rfl) hK hW hS hl)
  · split at hx
    · cases hx
    · rename_i h
      cases hx
      refine ⟨Nat.le_refl _, ?_⟩
      intro hK hW hS hA hE hl hc hs kk
      simp only [Nat.sub_self, Nat.add_zero] at kk
      exact lv_ldiv hx0 hb hd h (kk H locs tys ad ca la (fun _ => rfl) (fun _ _ => rfl) hK hW hS hl)
  · split at hx
    · cases hx
    · rename_i h
      cases hx
      refine ⟨Nat.le_refl _, ?_⟩
      intro hK hW hS hA hE hl hc hs kk
      simp only [Nat.sub_self, Nat.add_zero] at kk
      exact lv_lrem hx0 hb hd h (kk H locs tys ad ca la (fun _ => rfl) (fun _ _ => rfl) hK hW hS hl)
  · cases hx
    refine ⟨Nat.le_refl _, ?_⟩
    intro hK hW hS hA hE hl hc hs kk
    simp only [Nat.sub_self, Nat.add_zero] at kk
    exact W.lcmp hx0 hb hd (kk H locs tys ad ca la (fun _ => rfl) (fun _ _ => rfl) hK hW hS hl)
  · split at hx
    · rename_i h900
      split at hx
      · rename_i ha
        cases hx
        refine ⟨Nat.le_refl _, ?_⟩
        intro hK hW hS hA hE hl hc hs kk
        simp only [Nat.sub_self, Nat.add_zero] at kk
        simp only [xokI, if_pos h900, decide_eq_true_eq] at hI
        exact x_sval hF hd hI ha hE hS (kk H locs tys ad ca la (fun _ => rfl) (fun _ _ => rfl) hK hW hS hl)
      · cases hx
    · rename_i h900
      split at hx
      · rename_i h901
        split at hx
        · rename_i ha
          cases hx
          refine ⟨Nat.le_refl _, ?_⟩
          intro hK hW hS hA hE hl hc hs kk
          simp only [Nat.sub_self, Nat.add_zero] at kk
          simp only [xokI, if_neg h900, if_pos h901, decide_eq_true_eq] at hI
          exact x_scod hF hd hI ha hE hS (kk H locs tys ad ca la (fun _ => rfl) (fun _ _ => rfl) hK hW hS hl)
        · cases hx
      · rename_i h901
        simp only [xokI, if_neg h900, if_neg h901] at hI
        split at hx
        · rename_i f hq
          split at hx
          · rename_i ha
            split at hx
            · rename_i v hv
              cases hx
              refine ⟨Nat.le_refl _, ?_⟩
              intro hK hW hS hA hE hl hc hs kk
              simp only [Nat.sub_self, Nat.add_zero] at kk
              exact x_getf hF hd hI hq ha.1 ha.2 hv hK hW (kk H locs tys ad ca la (fun _ => rfl) (fun _ _ => rfl) hK hW hS hl)
            · cases hx
          · cases hx
        · cases hx
  · split at hx
    · rename_i f hq
      split at hx
      · rename_i ha
        split at hx
        · rename_i X1 hv
          cases hx
          have h1 : X'.1 = X.1 := by
            unfold xput at hv
            split at hv
            · cases hv; rfl
            · split at hv
              · cases hv; rfl
              · cases hv
            · cases hv; rfl
            · split at hv
              · cases hv; rfl
              · cases hv
            · cases hv
          refine ⟨by rw [h1]; exact Nat.le_refl _, ?_⟩
          intro hK hW hS hA hE hl hc hs kk
          simp only [h1, Nat.sub_self, Nat.add_zero] at kk
          exact x_putf hF hd hI hq ha.1 ha.2.1 ha.2.2 hv hK hW hS (fun H1 locs1 hW1 hS1 => kk H1 locs1 tys ad ca la (fun _ => rfl) (fun _ _ => rfl) hK hW1 hS1 hl)
        · cases hx
      · cases hx
    · cases hx
  · split at hx
    · rename_i ha
      split at hx
      · rename_i hj
        cases hx
        refine ⟨Nat.le_refl _, ?_⟩
        intro hK hW hS hA hE hl hc hs kk
        simp only [Nat.sub_self, Nat.add_zero] at kk
        subst ha
        exact va_ti hx0 hb hE.2.2.2.2.1 hS (xinb_vp hj) rfl hd (kk H locs tys ad ca la (fun _ => rfl) (fun _ _ => rfl) hK hW hS hl)
      · cases hx
    · split at hx
      · rename_i ha
        split at hx
        · rename_i hj
          cases hx
          refine ⟨Nat.le_refl _, ?_⟩
          intro hK hW hS hA hE hl hc hs kk
          simp only [Nat.sub_self, Nat.add_zero] at kk
          subst ha
          exact va_sld hx0 hb hE.2.2.2.2.2.2.2.2.1 hE.2.2.2.2.2.2.2.2.2.1 hE.2.2.2.2.2.2.2.2.2.2 hS (xinb_vp hj) hd (kk H locs tys ad ca la (fun _ => rfl) (fun _ _ => rfl) hK hW hS hl)
        · cases hx
      · split at hx
        · rename_i ha
          cases hx
          refine ⟨Nat.le_refl _, ?_⟩
          intro hK hW hS hA hE hl hc hs kk
          simp only [Nat.sub_self, Nat.add_zero] at kk
          exact x_iald hF hd ha.1.1 ha.1.2 ha.2 hK hW (kk H locs tys ad ca la (fun _ => rfl) (fun _ _ => rfl) hK hW hS hl)
        · cases hx
  · split at hx
    · rename_i ha
      cases hx
      refine ⟨Nat.le_refl _, ?_⟩
      intro hK hW hS hA hE hl hc hs kk
      simp only [Nat.sub_self, Nat.add_zero] at kk
      exact x_bald hF hd ha.1 ha.2 hE hS (kk H locs tys ad ca la (fun _ => rfl) (fun _ _ => rfl) hK hW hS hl)
    · cases hx
  · split at hx
    · rename_i ha
      split at hx
      · rename_i r hr2
        cases hx
        refine ⟨Nat.le_refl _, ?_⟩
        intro hK hW hS hA hE hl hc hs kk
        simp only [Nat.sub_self, Nat.add_zero] at kk
        exact x_aald hF hd ha.1.1 ha.1.2.1 ha.1.2.2 ha.2 hr2 hK hW (kk H locs tys ad ca la (fun _ => rfl) (fun _ _ => rfl) hK hW hS hl)
      · cases hx
    · cases hx
  · split at hx
    · rename_i ha
      cases hx
      refine ⟨Nat.le_refl _, ?_⟩
      intro hK hW hS hA hE hl hc hs kk
      simp only [Nat.sub_self, Nat.add_zero] at kk
      subst ha
      exact va_slen hx0 hb hE.2.2.2.2.2.2.2.2.1 hE.2.2.2.2.2.2.2.2.2.1 hE.2.2.2.2.2.2.2.2.2.2 hS hd (kk H locs tys ad ca la (fun _ => rfl) (fun _ _ => rfl) hK hW hS hl)
    · split at hx
      · rename_i ha
        cases hx
        refine ⟨Nat.le_refl _, ?_⟩
        intro hK hW hS hA hE hl hc hs kk
        simp only [Nat.sub_self, Nat.add_zero] at kk
        exact x_blen hF hd ha hE hS (kk H locs tys ad ca la (fun _ => rfl) (fun _ _ => rfl) hK hW hS hl)
      · split at hx
        · rename_i ha
          cases hx
          refine ⟨Nat.le_refl _, ?_⟩
          intro hK hW hS hA hE hl hc hs kk
          simp only [Nat.sub_self, Nat.add_zero] at kk
          exact x_alenW hF hd ha.1 ha.2 hK hW (kk H locs tys ad ca la (fun _ => rfl) (fun _ _ => rfl) hK hW hS hl)
        · cases hx
  · split at hx
    · rename_i ha
      cases hx
      refine ⟨Nat.le_refl _, ?_⟩
      intro hK hW hS hA hE hl hc hs kk
      simp only [Nat.sub_self, Nat.add_zero] at kk
      exact x_iast hF hd ha.1.1 ha.1.2 ha.2 hK hW hS (fun H1 locs1 hW1 hS1 => kk H1 locs1 tys ad ca la (fun _ => rfl) (fun _ _ => rfl) hK hW1 hS1 hl)
    · cases hx
  · split at hx
    · rename_i ha
      cases hx
      refine ⟨Nat.le_refl _, ?_⟩
      intro hK hW hS hA hE hl hc hs kk
      simp only [Nat.sub_self, Nat.add_zero] at kk
      exact x_aast hF hd ha.1.1 ha.1.2.1 ha.1.2.2 ha.2.1 ha.2.2.1 ha.2.2.2 hK hW hS (fun H1 locs1 hW1 hS1 => kk H1 locs1 tys ad ca la (fun _ => rfl) (fun _ _ => rfl) hK hW1 hS1 hl)
    · cases hx
  · split at hx
    · rename_i n st ha
      cases hx
      refine ⟨Nat.le_succ _, ?_⟩
      intro hK hW hS hA hE hl hc hs kk
      have e1 : X.1 + 1 - X.1 = 1 := by omega
      have e2 : xss (X.1 + 1) - xss X.1 = n.toNatClampNeg := by
        show xss X.1 + (xkind X.1).2 - xss X.1 = _
        rw [(xsh_kind ha.1).1]
        omega
      simp only [e1, e2] at hc hs kk
      exact x_newa hF hd ha.1 ha.2.1 ha.2.2.1 ha.2.2.2 hK hW hS hA hl hc hs (fun H1 tys1 ad1 ca1 g1 g2 g3 g4 g5 => kk H1 locs tys1 ad1 ca1 la (fun z => absurd z (by omega)) g1 g2 g3 g4 g5)
    · cases hx
  · split at hx
    · rename_i idx n st ha
      cases hx
      refine ⟨Nat.le_succ _, ?_⟩
      intro hK hW hS hA hE hl hc hs kk
      have e1 : X.1 + 1 - X.1 = 1 := by omega
      have e2 : xss (X.1 + 1) - xss X.1 = n.toNatClampNeg := by
        show xss X.1 + (xkind X.1).2 - xss X.1 = _
        rw [(xsh_kind ha.1).1]
        omega
      simp only [e1, e2] at hc hs kk
      have hC := xcl_get ha.2.2.2.1
      simp only [xokI, hC, decide_eq_true_eq] at hI
      have hAO : rs ∈ [0, 2, 3, 5] := by
        have h94 : ∀ c, c < 94 → ∀ r, r < 9 → (xkind c).1 = 100 + r → r ∈ [0, 2, 3, 5] := by decide +kernel
        have hk := xsh_kind ha.1
        have hl94 : xSH.length = 94 := by decide +kernel
        exact h94 X.1 (by omega) rs ha.2.2.2.1 (by rw [hk.1])
      exact x_newq hF hd hC hI (hE.2.2.2.2.2.2.1 rs hAO) ha.1 ha.2.1 ha.2.2.1 ha.2.2.2.1 ha.2.2.2.2 hK hW hS hA hl hc hs (fun H1 tys1 ad1 ca1 g1 g2 g3 g4 g5 => kk H1 locs tys1 ad1 ca1 la (fun z => absurd z (by omega)) g1 g2 g3 g4 g5)
    · cases hx
  · split at hx
    · rename_i idx st ha
      cases hx
      refine ⟨Nat.le_succ _, ?_⟩
      intro hK hW hS hA hE hl hc hs kk
      have e1 : X.1 + 1 - X.1 = 1 := by omega
      have e2 : xss (X.1 + 1) - xss X.1 = xnf rs := by
        show xss X.1 + (xkind X.1).2 - xss X.1 = _
        rw [(xsh_kind ha.1).1]
        omega
      simp only [e1, e2] at hc hs kk
      have hC := xcl_get ha.2.1
      simp only [xokI, hC, decide_eq_true_eq] at hI
      exact x_new hF hd hC hI ha.1 ha.2.2 hK hW hS hA hl hc hs (fun H1 ad1 ca1 g1 g3 g4 g5 => kk H1 locs tys ad1 ca1 la (fun z => absurd z (by omega)) g1 hK g3 g4 g5)
    · cases hx
  · cases hq : xs0 i rs wp pc ls st with
    | none => rw [hq] at hx; cases hx
    | some q =>
      rw [hq] at hx
      cases hx
      refine ⟨Nat.le_refl _, ?_⟩
      intro hK hW hS hA hE hl hc hs kk
      simp only [Nat.sub_self, Nat.add_zero] at kk
      exact xs0_sound (S := S) hF hd hI hf hq hE.2.2.1 hE.2.2.2.1 hE.2.2.2.2.2.1 hE.2.1 hS hl (fun la' h' => kk H locs tys ad ca la' (fun _ => rfl) (fun _ _ => rfl) hK hW hS h')
theorem xput_le {X X' : XM} {c ci k : Nat} {v : Value} (hv : xput X c ci k v = some X') : X.1 ≤ X'.1 := by
  unfold xput at hv
  split at hv
  · cases hv; exact Nat.le_refl _
  · split at hv
    · cases hv; exact Nat.le_refl _
    · cases hv
  · cases hv; exact Nat.le_refl _
  · split at hv
    · cases hv; exact Nat.le_refl _
    · cases hv
  · cases hv
theorem xmap_le {X : XM} {o : Option (Nat × XL × List Value)} {q0 : Nat × XL × List Value × XM} (hx : o.map (fun q => (q.1, q.2.1, q.2.2, X)) = some q0) : X.1 ≤ q0.2.2.2.1 := by
  cases o with
  | none => cases hx
  | some q => cases hx; exact Nat.le_refl _
theorem xs1_le {S : XS} {kd : Nat} {i : Instr} {rs wp pc : Nat} {ls : XL} {st : List Value} {X : XM} {q0 : Nat × XL × List Value × XM} (hx : xs1 S kd i rs wp pc ls st X = some q0) : X.1 ≤ q0.2.2.2.1 := by
  unfold xs1 at hx
  split at hx
  all_goals repeat' (first | (exact xmap_le hx) | (cases hx; done) | (cases hx; exact Nat.le_refl _) | (cases hx; exact Nat.le_succ _) | (cases hx; exact xput_le (by assumption)) | split at hx)
end XS3
end
section
/-! calls, and a whole run -/
theorem xlocs_args {ad : Nat → Nat} {fmt : Value} (hf : xfm fmt) : ∀ (as : List Value) (k i : Nat) (v : Value), (xlocs as)[i]? = some (some v) → (k + i, xv ad fmt v) ∈ lv_args k (as.map (xv ad fmt))
  | [], _, i, v, h => by simp [xlocs] at h
  | a :: r, k, i, v, h => by
    unfold xlocs at h
    show _ ∈ (k, xv ad fmt a) :: lv_args (if (xv ad fmt a).category = 2 then k + 2 else k + 1) (r.map (xv ad fmt))
    rw [xv_cat hf]
    split at h
    · rename_i hc
      rw [if_pos hc]
      match i, h with
      | 0, h => cases h; exact List.mem_cons_self
      | 1, h => cases h
      | j + 2, h =>
        have h2 := xlocs_args (ad := ad) hf r (k + 2) j v h
        rw [show k + (j + 2) = k + 2 + j by omega]
        exact List.mem_cons_of_mem _ h2
    · rename_i hc
      rw [if_neg hc]
      match i, h with
      | 0, h => cases h; exact List.mem_cons_self
      | j + 1, h =>
        have h2 := xlocs_args (ad := ad) hf r (k + 1) j v h
        rw [show k + (j + 1) = k + 1 + j by omega]
        exact List.mem_cons_of_mem _ h2
theorem xlocs_len {ad : Nat → Nat} {fmt : Value} (hf : xfm fmt) : ∀ (as : List Value), (lg_sl (as.map (xv ad fmt))).length = (xlocs as).length
  | [] => rfl
  | a :: r => by
    have h := xlocs_len (ad := ad) hf r
    unfold xlocs
    unfold lg_sl at h ⊢
    rw [List.map_cons, List.flatMap_cons, List.length_append, h, xv_cat hf]
    split
    · simp; omega
    · simp; omega
theorem xLh.entry {ad : Nat → Nat} {fmt : Value} (hf : xfm fmt) {as : List Value} {n : Nat} (h : (xlocs as).length ≤ n) : xLh ad fmt ((lg_sl (as.map (xv ad fmt)) ++ List.replicate (n - (lg_sl (as.map (xv ad fmt))).length) Slot.unset).toArray) n (xpad n (xlocs as)) := by
  have h0 := xlocs_len (ad := ad) hf as
  obtain ⟨h1, h2, h3⟩ := lv_entry (as.map (xv ad fmt)) (n := n) (by rw [h0]; exact h)
  refine ⟨h1, h2, by simp [xpad]; omega, fun i v hi => ?_⟩
  unfold xpad at hi
  rcases Nat.lt_or_ge i (xlocs as).length with hl | hl
  · rw [List.getElem?_append_left hl] at hi
    have h4 := h3 _ (xlocs_args hf as 0 i v hi)
    rw [Nat.zero_add] at h4
    exact h4
  · rw [List.getElem?_append_right hl, List.getElem?_replicate] at hi
    split at hi <;> cases hi
theorem xret_st {i : Instr} {ret : Option FieldType} {st : List Value} {r : Option Value} (h : xret i ret st = some r) : st = r.toList := by
  unfold xret at h
  split at h
  · split at h <;> cases h
    rfl
  · cases h; rfl
  · cases h; rfl
  · cases h
theorem xcl_two {i : Instr} (h0 : ¬ xcl i = 0) (h1 : ¬ xcl i = 1) : (∃ k, i = .invokestatic k) ∨ (∃ k, i = .invokevirtual k) ∨ ∃ k, i = .invokespecial k := by
  cases i <;> first | exact absurd rfl h0 | exact absurd rfl h1 | exact Or.inl ⟨_, rfl⟩ | exact Or.inr (Or.inl ⟨_, rfl⟩) | exact Or.inr (Or.inr ⟨_, rfl⟩)
/-- what a call is given, and asks of the world -/
def xPc (S : XS) (D : va_G) (tys : List (ClassId × FieldType)) (ad : Nat → Nat) (ca : Nat → ClassId) (fmt : Value) (X : XM) (sz : Nat) (as : List Value) : Array Value → State → Prop :=
  va_Pc (as.map (xv ad fmt)) (fun U => U.heap.size = sz ∧ va_P D vwCl (xw ad ca X) U.heap ∧ va_K D vwCl tys U ∧ va_D (fun _ => True) (xw ad ca X) ∧ xE S ad fmt (va_A (xw ad ca X) sz) U U.heap)
def xQc (D : va_G) (ad : Nat → Nat) (fmt : Value) (X X1 : XM) (r : Option Value) (A : Nat → Prop) : Array Value → State → Outcome → State → Prop := fun _ st o t =>
  (∃ (tys1 : List (ClassId × FieldType)) (ad1 : Nat → Nat) (ca1 : Nat → ClassId), o = .returned (r.map (xv ad1 fmt)) ∧ (X1.1 = X.1 → ad1 = ad) ∧ (∀ a, a < X.1 ∨ 10000 ≤ a → ad1 a = ad a) ∧ va_K D vwCl tys1 t ∧ xW D tys1 ad1 ca1 A X1 t.heap) ∧ va_F A st t
theorem xPc.blind {S : XS} {D : va_G} {tys : List (ClassId × FieldType)} {ad : Nat → Nat} {ca : Nat → ClassId} {fmt : Value} {X : XM} {sz : Nat} {as : List Value} : FrameBlind (xPc S D tys ad ca fmt X sz as) := by
  intro a U g mk h
  obtain ⟨h1, h2, h3, h4, h5, h6⟩ := h
  exact ⟨h1, h2, h3, va_K.moved (u := U) (U := U.calling g mk a) (Vm.Alike.refl U.vm) h4, h5, h6.go (State.WarmedH.refl U) (Nat.le_refl _) (fun _ _ _ => rfl) (fun _ z => z)⟩
/-- a run of n instructions of ours is a run of the machine -/
def xSnd (S : XS) (l : Launch) (n : Nat) : Prop := ∀ (d mi pc : Nat) (ls : XL) (st : List Value) (X : XM) (r : Option Value) (X' : XM) (ent : XMe), xme mi = some ent → xexec S n d mi pc ls st X = some (r, X') →
  X.1 ≤ X'.1 ∧ ∀ (p : Program) (e : Env) (R : Room) (s : State) (m : MethodId) (args : Array Value) (below : List Frame) (meth : Method) (c : Code) (H : Heap) (locs : List Loc) (cells slots : Nat) (Q : State → Prop) (la : Array Slot) (D : va_G) (tys : List (ClassId × FieldType)) (ad : Nat → Nat) (ca : Nat → ClassId) (fmt : Value) (A : Nat → Prop),
    xFr p R s m args meth c ent d → xfm fmt → va_K D vwCl tys s → xW D tys ad ca A X H → va_S A s.heap H locs → (∀ q, s.heap.size ≤ q → A q) → xE S ad fmt A s s.heap → xLh ad fmt la ent.2.2.2.1 ls → cells + (X'.1 - X.1) ≤ R.cells → slots + (xss X'.1 - xss X.1) ≤ R.slots →
    (∀ (H1 : Heap) (locs1 : List Loc) (tys1 : List (ClassId × FieldType)) (ad1 : Nat → Nat) (ca1 : Nat → ClassId) (la1 : Array Slot) (pc1 : Nat) (i1 : Instr), (X'.1 = X.1 → ad1 = ad) → (∀ a, a < X.1 ∨ 10000 ≤ a → ad1 a = ad a) → va_K D vwCl tys1 s → xW D tys1 ad1 ca1 A X' H1 → va_S A s.heap H1 locs1 → decode ent.2.2.1 pc1 = .ok (i1, xlen i1 pc1) → xret i1 ent.2.2.2.2.1 r.toList = some r →
      W p l e R s m args below meth c H1 locs1 (cells + (X'.1 - X.1)) (slots + (xss X'.1 - xss X.1)) Q (F0 m pc1 la1 (r.toList.map (xv ad1 fmt)))) →
    W p l e R s m args below meth c H locs cells slots Q (F0 m pc la (st.map (xv ad fmt)))
theorem xokM_spec {own : String} {y : MethodName} {b : ByteArray} {maxL : Nat} {ret : Option FieldType} {kd n wc wk ws wi : Nat} (h : xokM (own, y, b, maxL, ret, kd, n, (wc, wk, ws, wi)) = true) :
    y.cls = own ∧ plainName own = true ∧ (own ≠ "java/lang/invoke/MethodHandle" ∧ own ≠ "java/lang/invoke/VarHandle") ∧ maxL ≤ 41 ∧ (parseMethodDescriptor y.desc).map (fun d => d.parameters.length) = some n ∧ lw_tbl[wi]? = some (.initialized own) ∧
    (kd = 0 → lw_tbl[wk]? = some (.static y)) ∧ (kd ≠ 0 → lw_tbl[wk]? = some (.instanceMethod y)) ∧ (kd ≠ 0 → kd < 200 → lw_tbl[ws]? = some (.selects own y y)) ∧ (kd = 150 → own = "java/lang/String") ∧ (kd ≠ 0 → kd < 200 → kd ≠ 150 → ∃ C : vw_C, vwCl[kd - 100]? = some C ∧ C.1 = own) ∧ (200 ≤ kd → y.name = "<init>" ∧ ret = none) := by
  unfold xokM at h
  simp only [Bool.and_eq_true, decide_eq_true_eq] at h
  obtain ⟨⟨⟨⟨⟨⟨⟨h1, h2⟩, h3⟩, h4⟩, h5⟩, h6⟩, h7⟩, h8⟩ := h
  refine ⟨h1, h2, ⟨h3, h4⟩, h5, h6, h7, fun hk => ?_, fun hk => ?_, fun hk h2 => ?_, fun hk => ?_, fun hk h2 h3 => ?_, fun hk => ?_⟩
  · rw [if_pos hk] at h8
    exact of_decide_eq_true h8
  · rw [if_neg hk, Bool.and_eq_true] at h8
    exact of_decide_eq_true h8.1
  · rw [if_neg hk, Bool.and_eq_true, if_pos h2, Bool.and_eq_true] at h8
    exact of_decide_eq_true h8.2.1
  · rw [if_neg (by omega), Bool.and_eq_true, if_pos (by omega), Bool.and_eq_true, if_pos hk] at h8
    exact of_decide_eq_true h8.2.2
  · rw [if_neg hk, Bool.and_eq_true, if_pos h2, Bool.and_eq_true, if_neg h3] at h8
    have h9 := h8.2.2
    split at h9
    · rename_i C hC
      exact ⟨C, hC, of_decide_eq_true h9⟩
    · cases h9
  · rw [if_neg (by omega), Bool.and_eq_true, if_neg (by omega), Bool.and_eq_true, Bool.and_eq_true] at h8
    exact ⟨of_decide_eq_true h8.2.1.1, of_decide_eq_true h8.2.1.2⟩
theorem x_good {e : XMe} (h : Jvm.Cond.code e.2.1 e.2.2.1 e.2.2.2.1 e.2.2.2.2.1 ∈ lw_tbl) : GoodIn xGT (Jvm.Cond.code e.2.1 e.2.2.1 e.2.2.2.1 e.2.2.2.2.1 :: xGT) := by
  intro w hw
  rcases List.mem_cons.mp hw with rfl | hw
  · exact ⟨xGT_in h rfl, Or.inl rfl⟩
  · exact ⟨hw, good_of_word (List.mem_filter.mp hw).2⟩
set_option maxHeartbeats 4000000 in
/-- a method of ours has a contract -/
theorem x_met (hck : xCK) {S : XS} {l : Launch} {n : Nat} (ih : xSnd S l n) {mj : Nat} {e2 : XMe} (hm : xme mj = some e2) (h0 : mj ≠ 0) {d' : Nat} {as : List Value} {X X1 : XM} {r : Option Value} (hx : xexec S n d' mj 0 (xpad e2.2.2.2.1 (xlocs as)) [] X = some (r, X1)) (hlen : (xlocs as).length ≤ e2.2.2.2.1)
    (D : va_G) (tys : List (ClassId × FieldType)) (ad : Nat → Nat) (ca : Nat → ClassId) (fmt : Value) (hf : xfm fmt) (sz : Nat) (hty : ∀ c, c < X.1 → (xkind c).1 < 200 → ∃ t0 : Nat, tys[t0]? = some (ca c, xty (xkind c).1)) (hwf : ∀ c k a, X.2.2.2 c k = some a → a < X.1) (hle : X.1 ≤ xSH.length) :
    Met l e2.2.1 (Jvm.Cond.code e2.2.1 e2.2.2.1 e2.2.2.2.1 e2.2.2.2.2.1 :: xGT) { frames := d', cells := X1.1 - X.1, slots := xss X1.1 - xss X.1, locals := 60 * d' } (xPc S D tys ad ca fmt X sz as) (xQc D ad fmt X X1 r (va_A (xw ad ca X) sz)) (X1.1 - X.1) (xss X1.1 - xss X.1) (va_A (xw ad ca X) sz) := by
  obtain ⟨own, y, b, maxL, ret, kd, na, wc, wk, ws, wi⟩ := e2
  obtain ⟨hM, hcode⟩ := xme_ok hck hm h0
  obtain ⟨m1, m2, m3, m4, m5, m6, m7, m8, m9, m10, m11, m12⟩ := xokM_spec hM
  dsimp only at hx hlen hcode ⊢
  subst m1
  refine Met.ofW (cc := b) (maxL := maxL) (ret := ret) m2 rfl ?_
  intro p e s m args below meth c s₁ B hml hv
  obtain ⟨rfl, hsz, hP, hK, hD0, hE⟩ := hv
  subst hsz
  have hD := hD0.self (sz := s.heap.size)
  have hts := atoms_spec (ws := Jvm.Cond.code y b maxL ret :: xGT) B.pre
  have hFr : xFr p (headSpec (Jvm.Cond.code y b maxL ret :: xGT) { frames := d', cells := X1.1 - X.1, slots := xss X1.1 - xss X.1, locals := 60 * d' }).room s m (as.map (xv ad fmt)).toArray meth c (y.cls, y, b, maxL, ret, kd, na, wc, wk, ws, wi) d' :=
    ⟨B.exec, B.bytes, hml, B.returns, findClass_of_methodNamed B.named, fun w hw => hts w (List.mem_cons_of_mem _ hw), B.notSynchronized, fun hk => by rw [(name_of_methodNamed B.named B.method).1]; exact (m12 hk).1, Nat.le_refl _, Nat.le_refl _⟩
  rw [lg_entry_eq]
  obtain ⟨g1, g2⟩ := ih d' mj 0 _ [] X r X1 _ hm hx
  refine g2 p e _ s m _ below meth c s.heap [] 0 0 _ _ D tys ad ca fmt (va_A (xw ad ca X) s.heap.size) hFr hf hK ⟨hP, hD, hty, hwf, hle⟩ va_S.rf (fun q hq => Or.inr hq) hE (xLh.entry hf hlen) (by show 0 + _ ≤ X1.1 - X.1; omega) (by show 0 + _ ≤ xss X1.1 - xss X.1; omega) ?_
  intro H1 locs1 tys1 ad1 ca1 la1 pc1 i1 a1 a2 K1 W1 S1 hdec hret
  simp only [Nat.zero_add]
  have hq : ∀ t : State, t.heap = H1 → s.WarmedH t.vm → xQc D ad fmt X X1 r (va_A (xw ad ca X) s.heap.size) (as.map (xv ad fmt)).toArray s (.returned (r.map (xv ad1 fmt))) t := fun t ht hW => ⟨⟨tys1, ad1, ca1, rfl, a1, a2, va_K.moved hW.alike K1, by rw [ht]; exact W1⟩, S1.F ht⟩
  unfold xret at hret
  dsimp only at hret
  split at hret
  · rename_i v ty hst
    split at hret
    · rename_i hn
      cases hret
      exact W.zret (ty := ty) B.exec B.bytes B.returns hn hq S1.2.2 hdec B.notSynchronized
    · cases hret
  · cases hret
    exact W.lret B.exec B.bytes B.returns hq S1.2.2 hdec B.notSynchronized
  · cases hret
    exact W.vret B.exec B.bytes B.returns hq S1.2.2 hdec B.notSynchronized
  · cases hret
end
section
section XC
variable {p : Program} {l : Launch} {e : Env} {R : Room} {s : State} {m : MethodId} {args : Array Value} {below : List Frame} {meth : Method} {c : Code} {H : Heap} {locs : List Loc} {cells slots : Nat} {Q : State → Prop}
variable {ent : XMe} {d rs wp pc nL : Nat} {i : Instr} {la : Array Slot} {st : List Value} {ls : XL} {X X1 : XM} {S : XS} {D : va_G} {tys : List (ClassId × FieldType)} {ad : Nat → Nat} {ca : Nat → ClassId} {fmt : Value} {A : Nat → Prop}
theorem x_cont {mc ms : Nat} {free : Addr → Prop} {A1 : Nat → Prop} {a : Array Value} {rest st0 : List Value} {r : Option Value} (hr : va_Run p l e R s m args below meth c H locs cells slots mc ms (F0 m pc la st0) rest (xQc D ad fmt X X1 r A1 a) free) (hS : va_S A s.heap H locs) (hA : ∀ q, A1 q → A q) (hf : ∀ q, free q → A q)
    (kk : ∀ (H1 : Heap) (locs1 : List Loc) (tys1 : List (ClassId × FieldType)) (ad1 : Nat → Nat) (ca1 : Nat → ClassId), (X1.1 = X.1 → ad1 = ad) → (∀ a, a < X.1 ∨ 10000 ≤ a → ad1 a = ad a) → va_K D vwCl tys1 s → xW D tys1 ad1 ca1 A X1 H1 → va_S A s.heap H1 locs1 → W p l e R s m args below meth c H1 locs1 (cells + mc) (slots + ms) Q (F0 m (pc + 3) la (r.toList.map (xv ad1 fmt) ++ rest))) : W p l e R s m args below meth c H locs cells slots Q (F0 m pc la st0) := by
  intro T hT Xs
  obtain ⟨v, st₀, t, T', L, h0, X', hL, e1, e2, ⟨⟨tys1, ad1, ca1, hv, b1, b2, b3, b4⟩, hz, hk⟩, hst⟩ := hr T hT Xs
  cases hv
  rw [h0] at hz hk
  have hal : s.vm.Alike t.vm := by rw [← e2]; exact X'.warmed.alike
  obtain ⟨t2, a1, b9⟩ := kk T'.heap (locs ++ L) tys1 ad1 ca1 b1 b2 (va_K.moved hal.symm b3) (by rw [e1]; exact ⟨b4.1, b4.2.1.weaken (fun _ _ _ h => hA _ h), b4.2.2⟩)
    ⟨Nat.le_trans hS.1 (by rw [e1]; exact hz), fun q h1 h2 => by rw [e1, hk q (Nat.lt_of_lt_of_le h1 hS.1) (fun z => h2 (hA q z))]; exact hS.2.1 q h1 h2, fun q hq => by
      rcases List.mem_append.mp hq with h | h
      · exact hS.2.2 q h
      · exact hf _ (hL q h)⟩ T' rfl X'
  refine ⟨t2, hst t2 ?_, b9⟩
  rw [show (r.map (xv ad1 fmt)).toList = r.toList.map (xv ad1 fmt) by cases r <;> rfl]
  exact a1
theorem xinv_spec {rs : Nat} {mj : Nat} {e2 : XMe} {as rest : List Value} (h : xinv i rs st X = some (mj, e2, as, rest)) :
    mj = rs % 10000 ∧ xme mj = some e2 ∧ rs < 20000 ∧ as.reverse ++ rest = st ∧ (rest.map fun v => v.category).sum ≤ 8 ∧ (xlocs as).length ≤ e2.2.2.2.1 ∧
    (if e2.2.2.2.2.2.1 = 0 then as.length = e2.2.2.2.2.2.2.1 else ∃ (v : Value) (As : List Value), as = v :: As ∧ As.length = e2.2.2.2.2.2.2.1 ∧ xrecv X e2.2.2.2.2.2.1 v = true) ∧
    ((∃ k, i = .invokestatic k) → e2.2.2.2.2.2.1 = 0) ∧ ((∃ k, i = .invokevirtual k) → 100 ≤ e2.2.2.2.2.2.1 ∧ e2.2.2.2.2.2.1 < 200) ∧ ((∃ k, i = .invokespecial k) → 200 ≤ e2.2.2.2.2.2.1) := by
  unfold xinv at h
  cases hm : xme (rs % 10000) with
  | none => rw [hm] at h; cases h
  | some e3 =>
    rw [hm] at h
    dsimp only at h
    split at h
    · rename_i hc
      cases h
      unfold xinvc at hc
      simp only [Bool.and_eq_true, decide_eq_true_eq] at hc
      obtain ⟨⟨⟨⟨c1, c2⟩, c3⟩, c4⟩, c5⟩ := hc
      unfold xcnd at c5
      refine ⟨rfl, hm, c1, by rw [List.reverse_reverse]; exact List.take_append_drop _ _, c3, c4, ?_, ?_, ?_, ?_⟩
      · by_cases h0 : e2.2.2.2.2.2.1 = 0
        · have hn : xnar e2 = e2.2.2.2.2.2.2.1 := by unfold xnar; rw [if_pos h0]
          rw [if_pos h0, hn]
          rw [hn] at c2
          simp only [List.length_reverse, List.length_take]
          omega
        · have hn : xnar e2 = e2.2.2.2.2.2.2.1 + 1 := by unfold xnar; rw [if_neg h0]
          rw [if_neg h0]
          have hx : xrecv X e2.2.2.2.2.2.1 ((st.drop (xnar e2 - 1)).headD .null) = true := by
            split at c5
            · exact absurd (of_decide_eq_true c5) h0
            · rw [Bool.and_eq_true] at c5; exact c5.2
            · rw [Bool.and_eq_true] at c5; exact c5.2
            · cases c5
          rw [hn, Nat.add_sub_cancel] at hx
          rw [hn] at c2 ⊢
          have hl : e2.2.2.2.2.2.2.1 < st.length := by omega
          refine ⟨st[e2.2.2.2.2.2.2.1], (st.take e2.2.2.2.2.2.2.1).reverse, ?_, by simp; omega, ?_⟩
          · rw [List.take_succ_eq_append_getElem hl]
            simp
          · rw [List.drop_eq_getElem_cons hl] at hx
            exact hx
      · rintro ⟨k, rfl⟩
        exact of_decide_eq_true c5
      · rintro ⟨k, rfl⟩
        rw [Bool.and_eq_true, Bool.and_eq_true] at c5
        exact ⟨of_decide_eq_true c5.1.1, of_decide_eq_true c5.1.2⟩
      · rintro ⟨k, rfl⟩
        rw [Bool.and_eq_true] at c5
        exact of_decide_eq_true c5.1
    · cases h
theorem xcats {hf : xfm fmt} (rest : List Value) : ((rest.map (xv ad fmt)).map fun v => v.category).sum = (rest.map fun v => v.category).sum := by
  rw [List.map_map]
  congr 1
  apply List.map_congr_left
  intro v _
  exact xv_cat hf v
set_option maxHeartbeats 4000000 in
/-- a call: the callee's contract, then what comes behind -/
theorem x_call (hck : xCK) {n : Nat} (ih : xSnd S l n) {d' : Nat} (hF : xFr p R s m args meth c ent (d' + 1)) (hf : xfm fmt) (hd : decode ent.2.2.1 pc = .ok (i, xlen i pc)) (hI : xokI ent.1 pc i rs wp = true) (hi : (∃ k, i = .invokestatic k) ∨ (∃ k, i = .invokevirtual k) ∨ ∃ k, i = .invokespecial k)
    (h8 : rs ≠ 8888) (h9 : rs ≠ 9999) (h97 : rs ≠ 9997) (h98 : rs ≠ 9998) {mj : Nat} {e2 : XMe} {as rest : List Value} (hv : xinv i rs st X = some (mj, e2, as, rest)) {r : Option Value} (hx : xexec S n d' mj 0 (xpad e2.2.2.2.1 (xlocs as)) [] X = some (r, X1))
    (hK : va_K D vwCl tys s) (hW : xW D tys ad ca A X H) (hS : va_S A s.heap H locs) (hA : ∀ q, s.heap.size ≤ q → A q) (hE : xE S ad fmt A s s.heap) (hl : xLh ad fmt la ent.2.2.2.1 ls) (hc : cells + (X1.1 - X.1) ≤ R.cells) (hs : slots + (xss X1.1 - xss X.1) ≤ R.slots)
    (kk : ∀ (H1 : Heap) (locs1 : List Loc) (tys1 : List (ClassId × FieldType)) (ad1 : Nat → Nat) (ca1 : Nat → ClassId), (X1.1 = X.1 → ad1 = ad) → (∀ a, a < X.1 ∨ 10000 ≤ a → ad1 a = ad a) → va_K D vwCl tys1 s → xW D tys1 ad1 ca1 A X1 H1 → va_S A s.heap H1 locs1 → W p l e R s m args below meth c H1 locs1 (cells + (X1.1 - X.1)) (slots + (xss X1.1 - xss X.1)) Q (F0 m (pc + 3) la (r.toList.map (xv ad1 fmt) ++ rest.map (xv ad fmt)))) :
    W p l e R s m args below meth c H locs cells slots Q (F0 m pc la (st.map (xv ad fmt))) := by
  obtain ⟨hx0, hb, hml, hr, hown, hts, hlk, hin, hfr, hlo⟩ := id hF
  obtain ⟨v1, v2, v3, v4, v5, v6, v7, v8, v9, v10⟩ := xinv_spec hv
  subst v1
  have h0 : rs % 10000 ≠ 0 := by
    rcases hi with ⟨k, rfl⟩ | ⟨k, rfl⟩ | ⟨k, rfl⟩ <;> simp only [xokI, v2] at hI
    · rw [if_neg h9, if_neg h97, if_neg h98] at hI
      split at hI
      · omega
      · rw [Bool.and_eq_true] at hI; exact of_decide_eq_true hI.1
    · rw [Bool.and_eq_true] at hI; exact of_decide_eq_true hI.1
    · rw [if_neg h8, Bool.and_eq_true] at hI; exact of_decide_eq_true hI.1
  have hMet := x_met hck ih v2 h0 hx v6 D tys ad ca fmt hf H.size hW.2.2.1 hW.2.2.2.1 hW.2.2.2.2
  obtain ⟨own, y, b, maxL, ret, kd, na, wc, wk, ws, wi⟩ := e2
  obtain ⟨hM, hcode⟩ := xme_ok hck v2 h0
  obtain ⟨m1, m2, m3, m4, m5, m6, m7, m8, m9, m10, m11, m12⟩ := xokM_spec hM
  dsimp only at hMet hcode v6 v7 v8 v9 v10
  subst m1
  have hG := x_good (e := (y.cls, y, b, maxL, ret, kd, na, wc, wk, ws, wi)) hcode
  dsimp only at hG
  have hAB : ∀ q, va_A (xw ad ca X) H.size q → A q := by
    intro q h
    rcases h with ⟨k, e, h⟩ | h
    · exact hW.2.1.2 k (q, e) h
    · exact hA q (Nat.le_trans hS.1 h)
  have hpre : ∀ U : State, U.heap = H → s.WarmedH U.vm → xPc S D tys ad ca fmt X H.size as (as.map (xv ad fmt)).toArray U := by
    intro U hU hWm
    refine ⟨rfl, by rw [hU], by rw [hU]; exact hW.1, va_K.moved hWm.alike hK, hW.2.1.weaken (fun _ _ _ _ => trivial), ?_⟩
    rw [hU]
    exact hE.go hWm hS.1 hS.2.1 hAB
  have hRm : d' + 1 ≤ R.frames ∧ 8 + (maxL + 11) + 60 * d' ≤ R.locals := ⟨hfr, by omega⟩
  have hcat : 2 * (F0 m pc la (st.map (xv ad fmt))).monitorRoom + ((rest.map (xv ad fmt)).map fun v => v.category).sum ≤ 8 := lv_room (by rw [xcats (hf := hf)]; exact v5)
  have hini : (Jvm.Cond.initialized y.cls).before args s = true := hF.word m6 rfl
  have hsz : (F0 m pc la (st.map (xv ad fmt))).locals.size = ent.2.2.2.1 := hl.1
  have hdsc : y.cls ≠ "java/lang/invoke/MethodHandle" ∧ y.cls ≠ "java/lang/invoke/VarHandle" ∧ (parseMethodDescriptor y.desc).map (fun d => d.parameters.length) = some na := ⟨m3.1, m3.2, m5⟩
  have hcont := fun {a : Array Value} {st0 : List Value} (hr : va_Run p l e R s m args below meth c H locs cells slots (X1.1 - X.1) (xss X1.1 - xss X.1) (F0 m pc la st0) (rest.map (xv ad fmt)) (xQc D ad fmt X X1 r (va_A (xw ad ca X) H.size) a) (va_A (xw ad ca X) H.size)) => x_cont (Q := Q) hr hS hAB hAB kk
  have hst : ∀ As : List Value, As.reverse ++ rest = st → (As.map (xv ad fmt)).reverse ++ rest.map (xv ad fmt) = st.map (xv ad fmt) := by
    intro As h
    rw [← h, List.map_append, List.map_reverse]
  rcases hi with ⟨idx, rfl⟩ | ⟨idx, rfl⟩ | ⟨idx, rfl⟩
  · have hk0 : kd = 0 := v8 ⟨idx, rfl⟩
    rw [if_pos hk0] at v7
    have hsta := hF.word (m7 hk0) rfl
    simp only [xokI, v2] at hI
    rw [if_neg h9, if_neg h97, if_neg h98] at hI
    split at hI
    · omega
    rw [Bool.and_eq_true] at hI
    have hI2 := hI.2
    by_cases hn : rs < 10000
    · rw [if_pos hn] at hI2
      have hlk2 := hF.word (of_decide_eq_true hI2) rfl
      exact hcont (va_runS (As := as.map (xv ad fmt)) (index := idx) ⟨hx0, hb, hml, hown, hts⟩ hMet ⟨callB_of na hts hG rfl rfl rfl hini hlk2 hdsc hRm, hsta⟩ ⟨xPc.blind, hpre⟩ rfl (by rw [List.length_map]; exact v7) hsz (hst _ v4).symm hcat hd ⟨hc, hs⟩)
    · rw [if_neg hn] at hI2
      have hnest := hE.2.2.2.2.2.2.2.1 _ _ _ _ (of_decide_eq_true hI2)
      exact hcont (va_runSN (As := as.map (xv ad fmt)) (index := idx) ⟨hx0, hb, hml, hown, hts⟩ hMet ⟨va_cnB na hts hG rfl rfl rfl hnest hini hdsc hRm, hsta, trivial⟩ ⟨xPc.blind, hpre⟩ rfl (by rw [List.length_map]; exact v7) hsz (hst _ v4).symm hcat hd ⟨hc, hs⟩)
  · obtain ⟨k1, k2⟩ := v9 ⟨idx, rfl⟩
    have hk0 : kd ≠ 0 := by omega
    rw [if_neg hk0] at v7
    obtain ⟨v, As, rfl, hAs, hrec⟩ := v7
    have hinst := hF.word (m8 hk0) rfl
    have hsel := hF.word (m9 hk0 k2) rfl
    simp only [xokI, v2] at hI
    rw [Bool.and_eq_true] at hI
    have hI2 := hI.2
    by_cases hn : rs < 10000
    · rw [if_pos hn] at hI2
      have hlk2 := hF.word (of_decide_eq_true hI2) rfl
      cases v with
      | ref b0 =>
        have hrcv : ∃ cellB : Cell, H[ad b0]? = some cellB ∧ cellB.vm.isStatics = false ∧ s.vm.findClass y.cls = some cellB.cls := by
          unfold xrecv at hrec
          dsimp only at hrec
          by_cases h15 : kd = 150
          · rw [if_pos h15] at hrec
            have hb0 : 10000 ≤ b0 ∧ b0 < 10000 + xSTR.length := of_decide_eq_true hrec
            have h8' := xSTR_len
            have key : ∀ b : Nat, 10000 ≤ b ∧ b < 10000 + xSTR.length → ∃ k : Nat, k < 8 ∧ b = 10000 + k := fun b h => ⟨b - 10000, by omega, by omega⟩
            obtain ⟨k, hk8, hk⟩ := key b0 hb0
            rw [m10 h15, show ad b0 = ad (10000 + k) by rw [← hk]]
            exact vk_recv hE.1 (i := k) hk8 hS
          · rw [if_neg h15, if_neg (by omega)] at hrec
            simp only [Bool.and_eq_true, decide_eq_true_eq] at hrec
            obtain ⟨C, hC, hCo⟩ := m11 hk0 k2 h15
            rw [← hCo]
            exact va_recv hK hW.1 (ci := kd - 100) (q0 := b0) hC (by rw [xw_get hrec.1.2, xce_obj (ci := kd - 100) (by omega)])
        exact hcont (va_runV (b := ad b0) (C := y.cls) (As := As.map (xv ad fmt)) (index := idx) ⟨hx0, hb, hml, hown, hts⟩ hMet ⟨callB_of na hts hG rfl rfl rfl hini hlk2 hdsc hRm, hinst, hsel⟩ ⟨xPc.blind, hrcv, hpre⟩ rfl (by rw [List.length_map]; exact hAs) hsz (by
          have h := hst _ v4
          rw [List.map_cons, List.reverse_cons, List.append_assoc] at h
          exact h.symm) hcat hd ⟨hc, hs⟩)
      | _ => cases hrec
    · rw [if_neg hn] at hI2
      cases hI2
  · have k1 : 200 ≤ kd := v10 ⟨idx, rfl⟩
    have hk0 : kd ≠ 0 := by omega
    rw [if_neg hk0] at v7
    obtain ⟨v, As, rfl, hAs, hrec⟩ := v7
    have hinst := hF.word (m8 hk0) rfl
    obtain ⟨hy1, hret⟩ := m12 k1
    subst hret
    simp only [xokI, v2] at hI
    rw [if_neg h8, Bool.and_eq_true] at hI
    have hI2 := hI.2
    cases v with
    | ref b0 =>
      have hstk : (st.map (xv ad fmt)) = (As.map (xv ad fmt)).reverse ++ .ref (ad b0) :: rest.map (xv ad fmt) := by
        have h := hst _ v4
        rw [List.map_cons, List.reverse_cons, List.append_assoc] at h
        exact h.symm
      by_cases hn : rs < 10000
      · rw [if_pos hn] at hI2
        have hlk2 := hF.word (of_decide_eq_true hI2) rfl
        exact hcont (va_runI (b := ad b0) (As := As.map (xv ad fmt)) (index := idx) ⟨hx0, hb, hml, hown, hts⟩ hMet ⟨callB_of na hts hG rfl rfl rfl hini hlk2 hdsc hRm, hy1, hinst⟩ ⟨xPc.blind, hpre⟩ rfl (by rw [List.length_map]; exact hAs) hsz hstk hcat hd ⟨hc, hs⟩)
      · rw [if_neg hn] at hI2
        have hnest := hE.2.2.2.2.2.2.2.1 _ _ _ _ (of_decide_eq_true hI2)
        exact hcont (va_runIN (b := ad b0) (As := As.map (xv ad fmt)) (index := idx) ⟨hx0, hb, hml, hown, hts⟩ hMet ⟨va_cnB na hts hG rfl rfl rfl hnest hini hdsc hRm, hy1, hinst⟩ ⟨xPc.blind, hpre⟩ rfl (by rw [List.length_map]; exact hAs) hsz hstk hcat hd ⟨hc, hs⟩)
    | _ => cases hrec
end XC
end
section
theorem xme_8888 : xme 8888 = none ∧ xme 9999 = none ∧ xme 9997 = none ∧ xme 9998 = none := by decide +kernel
theorem xmax_code : Jvm.Cond.code Lib.Math.max.name Lib.Math.max.code 2 (some .int) ∈ lw_tbl := List.mem_of_getElem? (i := 396) rfl
theorem xmin_code : Jvm.Cond.code Lib.Math.min.name Lib.Math.min.code 2 (some .int) ∈ lw_tbl := List.mem_of_getElem? (i := 399) rfl
theorem xWcs {p : Program} {l : Launch} {e : Env} {R : Room} {s : State} {m : MethodId} {args : Array Value} {below : List Frame} {meth : Method} {c : Code} {H : Heap} {locs : List Loc} {cells slots cells' slots' : Nat} {Q : State → Prop} {g : JFrame} (hc : cells = cells') (hs : slots = slots') (k : W p l e R s m args below meth c H locs cells slots Q g) : W p l e R s m args below meth c H locs cells' slots' Q g := by
  subst hc; subst hs; exact k
set_option maxHeartbeats 4000000 in
theorem x_sound (hck : xCK) (S : XS) (l : Launch) : ∀ n : Nat, xSnd S l n := by
  intro n
  induction n with
  | zero => intro d mi pc ls st X r X' ent hm hx; cases hx
  | succ n ih =>
    intro d mi pc ls st X r X' ent hm hx
    unfold xexec at hx
    rw [hm] at hx
    cases hi : xi mi pc with
    | none => rw [hi] at hx; cases hx
    | some q0 =>
      obtain ⟨i, rs, wp⟩ := q0
      rw [hi] at hx
      dsimp only at hx
      obtain ⟨hd, hI⟩ := xi_ok hck hm hi
      split at hx
      · -- one step
        cases hq : xs1 S ent.2.2.2.2.2.1 i rs wp pc ls st X with
        | none => rw [hq] at hx; cases hx
        | some q =>
          rw [hq] at hx
          dsimp only at hx
          obtain ⟨pc1, ls1, st1, X1⟩ := q
          dsimp only at hx
          obtain ⟨g1, g2⟩ := ih d mi pc1 ls1 st1 X1 r X' ent hm hx
          have gle : X.1 ≤ X1.1 := by
            have : ∀ (q : Nat × XL × List Value × XM), xs1 S ent.2.2.2.2.2.1 i rs wp pc ls st X = some q → X.1 ≤ q.2.2.2.1 := by
              intro q hq
              exact xs1_le hq
            exact this _ hq
          refine ⟨Nat.le_trans gle g1, ?_⟩
          intro p e R s m args below meth c H locs cells slots Q la D tys ad ca fmt A hF hf hK hW hS hA hE hl hc hs hret
          have hss1 := xss_le gle
          have hss2 := xss_le g1
          refine (xs1_sound (S := S) hF hd hI hf hq).2 hK hW hS hA hE hl (by omega) (by omega) (fun H1 locs1 tys1 ad1 ca1 la1 a1 a2 K1 W1 S1 L1 => ?_)
          refine g2 p e R s m args below meth c H1 locs1 _ _ Q la1 D tys1 ad1 ca1 fmt A hF hf K1 W1 S1 hA (hE.ad (fun a ha => a2 a (Or.inr ha))) L1 (by omega) (by omega) (fun H2 locs2 tys2 ad2 ca2 la2 pc2 i2 b1 b2 K2 W2 S2 hdec hr => ?_)
          exact xWcs (by omega) (by omega) (hret H2 locs2 tys2 ad2 ca2 la2 pc2 i2 (fun z => (b1 (by omega)).trans (a1 (by omega))) (fun a ha => (b2 a (by omega)).trans (a2 a ha)) K2 W2 S2 hdec hr)
      · rename_i hc0
        split at hx
        · -- an end
          cases hq : xret i ent.2.2.2.2.1 st with
          | none => rw [hq] at hx; cases hx
          | some r1 =>
            rw [hq] at hx
            cases hx
            refine ⟨Nat.le_refl _, ?_⟩
            intro p e R s m args below meth c H locs cells slots Q la D tys ad ca fmt A hF hf hK hW hS hA hE hl hc hs hret
            have hst := xret_st hq
            rw [hst] at hq ⊢
            simp only [Nat.sub_self, Nat.add_zero] at hret
            exact hret H locs tys ad ca la pc i (fun _ => rfl) (fun _ _ => rfl) hK hW hS hd hq
        · rename_i hc1
          have h3 := xcl_two hc0 hc1
          cases d with
          | zero => cases hx
          | succ d' =>
            dsimp only at hx
            split at hx
            · -- Object()
              rename_i h8
              subst h8
              split at hx
              · rename_i a rest
                split at hx
                · rename_i hcat
                  obtain ⟨g1, g2⟩ := ih (d' + 1) mi (pc + 3) ls rest X r X' ent hm hx
                  refine ⟨g1, ?_⟩
                  intro p e R s m args below meth c H locs cells slots Q la D tys ad ca fmt A hF hf hK hW hS hA hE hl hc hs hret
                  obtain ⟨hx0, hb, hml, hr, hown, hts, hlk, hin, hfr, hlo⟩ := id hF
                  rcases h3 with ⟨k, rfl⟩ | ⟨k, rfl⟩ | ⟨k, rfl⟩
                  · simp only [xokI] at hI
                    rw [if_neg (by decide), if_neg (by decide), if_neg (by decide), if_neg (by decide), show 8888 % 10000 = 8888 from rfl, xme_8888.1] at hI
                    cases hI
                  · simp only [xokI] at hI
                    rw [show 8888 % 10000 = 8888 from rfl, xme_8888.1] at hI
                    cases hI
                  · simp only [xokI, if_true, decide_eq_true_eq] at hI
                    refine W.objInit (a := ad a) (rest := rest.map (xv ad fmt)) hx0 hb hown (hF.word hI rfl) (hF.word (k := 86) (by decide +kernel) rfl) (hF.word (k := 87) (by rfl) rfl) rfl (by rw [hml]; exact hl.1) rfl hd (by omega) (by
                      show 2 * (F0 m pc la _).monitorRoom + _ + 12 ≤ R.locals
                      have h0 : (F0 m pc la ((Value.ref a :: rest).map (xv ad fmt))).monitorRoom = 0 := rfl
                      rw [h0, xcats (hf := hf)]
                      omega) ?_
                    exact g2 p e R s m args below meth c H locs cells slots Q la D tys ad ca fmt A hF hf hK hW hS hA hE hl hc hs hret
                · cases hx
              · cases hx
            · rename_i h8
              split at hx
              · -- arraycopy
                rename_i h9
                subst h9
                cases hq : xcopy st X with
                | none => rw [hq] at hx; cases hx
                | some q =>
                  rw [hq] at hx
                  dsimp only at hx
                  obtain ⟨rest, X1⟩ := q
                  dsimp only at hx
                  obtain ⟨g1, g2⟩ := ih (d' + 1) mi (pc + 3) ls rest X1 r X' ent hm hx
                  unfold xcopy at hq
                  split at hq
                  · rename_i n dp a sp b rest2
                    split at hq
                    · rename_i hcond
                      cases hq
                      obtain ⟨⟨ha1, ha2⟩, ⟨hb1, hb2⟩, q1, q2, q3, q4, q5, hcat⟩ := hcond
                      refine ⟨g1, ?_⟩
                      intro p e R s m args below meth c H locs cells slots Q la D tys ad ca fmt A hF hf hK hW hS hA hE hl hc hs hret
                      obtain ⟨hx0, hb, hml, hr, hown, hts, hlk, hin, hfr, hlo⟩ := id hF
                      rcases h3 with ⟨k, rfl⟩ | ⟨k, rfl⟩ | ⟨k, rfl⟩
                      · simp only [xokI, if_true, decide_eq_true_eq] at hI
                        obtain ⟨t0, ht0⟩ := hW.2.2.1 b hb1 (by omega)
                        obtain ⟨t1, ht1⟩ := hW.2.2.1 a ha1 (by omega)
                        rw [hb2] at ht0
                        rw [ha2] at ht1
                        have nn : ∀ z : Int32, 0 ≤ z.toInt → ¬ z < 0 := fun z hz => by rw [Int32.lt_iff_toInt_lt, Int32.toInt_zero]; omega
                        have cl : ∀ z : Int32, z.toNatClampNeg = z.toInt.toNat := fun z => rfl
                        refine va_copyi (q0 := b) (q1 := a) (t0 := t0) (t1 := t1) (a0 := ad b) (a := ad a) (ty := .int) (f := X.2.1 b) (g := X.2.1 a) hx0 hb (by rw [hml]; exact hl.1.symm) hown (hF.word hI rfl) (hF.word (k := 484) (by decide +kernel) rfl) (hF.word (k := 483) (by decide +kernel) rfl) (hF.word (k := 76) (by decide +kernel) rfl) hK hW.1 hW.2.1 hS (by rw [xw_get hb1, xce_int hb2]) (by rw [xw_get ha1, xce_int ha2]) ht0 ht1 rfl (nn sp q1) (nn dp q2) (nn n q3) (by rw [cl, cl]; omega) (by rw [cl, cl]; omega) (fun i _ => rfl) (by omega) (by rw [xcats (hf := hf)]; show _ + (5 + 2 + 11) ≤ _; omega) hd (fun H1 locs1 hP1 hD1 hS1 => ?_)
                        refine g2 p e R s m args below meth c H1 locs1 cells slots Q la D tys ad ca fmt A hF hf hK (hW.put rfl ?_ (fun j hj => ⟨xur_ne hj, rfl, rfl⟩) hW.2.2.2.1 hP1 hD1) hS1 hA hE hl hc hs hret
                        rw [xce_int ha2]
                        show Sum.inl (ca a, (xkind a).2, Sum.inl (xur X.2.1 a _ a)) = _
                        rw [xur_eq]
                      · simp only [xokI] at hI
                        rw [show 9999 % 10000 = 9999 from rfl, xme_8888.2.1] at hI
                        cases hI
                      · simp only [xokI] at hI
                        rw [if_neg (by decide), show 9999 % 10000 = 9999 from rfl, xme_8888.2.1] at hI
                        cases hI
                    · cases hq
                  · cases hq
              · rename_i h9
                split at hx
                · -- max
                  rename_i h97
                  subst h97
                  split at hx
                  · rename_i y x rest
                    split at hx
                    · rename_i hcat
                      obtain ⟨g1, g2⟩ := ih (d' + 1) mi (pc + 3) ls _ X r X' ent hm hx
                      refine ⟨g1, ?_⟩
                      intro p e R s m args below meth c H locs cells slots Q la D tys ad ca fmt A hF hf hK hW hS hA hE hl hc hs hret
                      obtain ⟨hx0, hb, hml, hr, hown, hts, hlk, hin, hfr, hlo⟩ := id hF
                      rcases h3 with ⟨k, rfl⟩ | ⟨k, rfl⟩ | ⟨k, rfl⟩
                      · simp only [xokI] at hI
                        rw [if_neg (by decide), if_pos trivial, decide_eq_true_eq] at hI
                        exact va_mmax hx0 hb (by rw [hml]; exact hl.1.symm) hown (hF.word hI rfl) (hF.word (k := 395) (by decide +kernel) rfl) (hF.word (k := 74) (by decide +kernel) rfl) (hts _ (xGT_in xmax_code rfl)) (by omega) (by rw [xcats (hf := hf)]; omega) (by omega) (by omega) hd (g2 p e R s m args below meth c H locs cells slots Q la D tys ad ca fmt A hF hf hK hW hS hA hE hl hc hs hret)
                      · simp only [xokI] at hI
                        rw [show 9997 % 10000 = 9997 from rfl, xme_8888.2.2.1] at hI
                        cases hI
                      · simp only [xokI] at hI
                        rw [if_neg (by decide), show 9997 % 10000 = 9997 from rfl, xme_8888.2.2.1] at hI
                        cases hI
                    · cases hx
                  · cases hx
                · rename_i h97
                  split at hx
                  · -- min
                    rename_i h98
                    subst h98
                    split at hx
                    · rename_i y x rest
                      split at hx
                      · rename_i hcat
                        obtain ⟨g1, g2⟩ := ih (d' + 1) mi (pc + 3) ls _ X r X' ent hm hx
                        refine ⟨g1, ?_⟩
                        intro p e R s m args below meth c H locs cells slots Q la D tys ad ca fmt A hF hf hK hW hS hA hE hl hc hs hret
                        obtain ⟨hx0, hb, hml, hr, hown, hts, hlk, hin, hfr, hlo⟩ := id hF
                        rcases h3 with ⟨k, rfl⟩ | ⟨k, rfl⟩ | ⟨k, rfl⟩
                        · simp only [xokI] at hI
                          rw [if_neg (by decide), if_neg (by decide), if_pos trivial, decide_eq_true_eq] at hI
                          exact va_mmin hx0 hb (by rw [hml]; exact hl.1.symm) hown (hF.word hI rfl) (hF.word (k := 398) (by decide +kernel) rfl) (hF.word (k := 74) (by decide +kernel) rfl) (hts _ (xGT_in xmin_code rfl)) (by omega) (by rw [xcats (hf := hf)]; omega) (by omega) (by omega) hd (g2 p e R s m args below meth c H locs cells slots Q la D tys ad ca fmt A hF hf hK hW hS hA hE hl hc hs hret)
                        · simp only [xokI] at hI
                          rw [show 9998 % 10000 = 9998 from rfl, xme_8888.2.2.2] at hI
                          cases hI
                        · simp only [xokI] at hI
                          rw [if_neg (by decide), show 9998 % 10000 = 9998 from rfl, xme_8888.2.2.2] at hI
                          cases hI
                      · cases hx
                    · cases hx
                  · rename_i h98
                    -- a call of ours
                    cases hv : xinv i rs st X with
                    | none => rw [hv] at hx; cases hx
                    | some q =>
                      obtain ⟨mj, e2, as, rest⟩ := q
                      rw [hv] at hx
                      dsimp only at hx
                      cases hcl : xexec S n d' mj 0 (xpad e2.2.2.2.1 (xlocs as)) [] X with
                      | none => rw [hcl] at hx; cases hx
                      | some q1 =>
                        obtain ⟨r1, X1⟩ := q1
                        rw [hcl] at hx
                        dsimp only at hx
                        split at hx
                        · rename_i hok
                          obtain ⟨v1, v2, -⟩ := xinv_spec hv
                          obtain ⟨f1, -⟩ := ih d' mj 0 _ [] X r1 X1 e2 v2 hcl
                          obtain ⟨g1, g2⟩ := ih (d' + 1) mi (pc + 3) ls (r1.toList ++ rest) X1 r X' ent hm hx
                          refine ⟨Nat.le_trans f1 g1, ?_⟩
                          intro p e R s m args below meth c H locs cells slots Q la D tys ad ca fmt A hF hf hK hW hS hA hE hl hc hs hret
                          have hss1 := xss_le f1
                          have hss2 := xss_le g1
                          refine x_call hck ih hF hf hd hI h3 h8 h9 h97 h98 hv hcl hK hW hS hA hE hl (by omega) (by omega) (fun H1 locs1 tys1 ad1 ca1 a1 a2 K1 W1 S1 => ?_)
                          have hrs : rest.map (xv ad fmt) = rest.map (xv ad1 fmt) ∧ xLh ad1 fmt la ent.2.2.2.1 ls := by
                            rcases hok with h | h
                            · rw [a1 h]; exact ⟨rfl, hl⟩
                            · unfold xoks at h
                              rw [Bool.and_eq_true] at h
                              exact ⟨(xst_ok a2 h.1).symm, hl.ok a2 h.2⟩
                          rw [hrs.1, ← List.map_append]
                          refine g2 p e R s m args below meth c H1 locs1 _ _ Q la D tys1 ad1 ca1 fmt A hF hf K1 W1 S1 hA (hE.ad (fun a ha => a2 a (Or.inr ha))) hrs.2 (by omega) (by omega) (fun H2 locs2 tys2 ad2 ca2 la2 pc2 i2 b1 b2 K2 W2 S2 hdec hr => ?_)
                          exact xWcs (by omega) (by omega) (hret H2 locs2 tys2 ad2 ca2 la2 pc2 i2 (fun z => (b1 (by omega)).trans (a1 (by omega))) (fun a ha => (b2 a (by omega)).trans (a2 a ha)) K2 W2 S2 hdec hr)
                        · cases hx
end
section
/-! The same machine over integers: every int of ours is Int32.ofInt of one; the memory behind the constructors (94 cells, references as they are then). -/
def xRFL : List (List (Option Nat)) := [[some 1, some 13, none, some 25, some 26, none, some 27, some 32, some 33, some 39, some 40, none, none], [some 2, none, none, none, none], [some 3, some 4, some 5, some 6, some 7, some 8, some 9, some 10, some 11, some 12], [none, none, none, none, none], [none, none, none, none, none], [none, none, none, none, none], [none, none, none, none, none], [none, none, none, none, none], [none, none, none, none, none], [none, none, none, none, none], [none, none, none, none, none], [none, none, none, none, none], [none, none, none, none, none], [some 14, none, none, none, none], [some 15, some 16, some 17, some 18, some 19, some 20, some 21, some 22, some 23, some 24], [none, none, none, none, none], [none, none, none, none, none], [none, none, none, none, none], [none, none, none, none, none], [none, none, none, none, none], [none, none, none, none, none], [none, none, none, none, none], [none, none, none, none, none], [none, none, none, none, none], [none, none, none, none, none], [some 41, some 42, some 43, some 44, some 45, some 46, some 47, some 48], [some 49, some 52, some 55, some 58, some 61, some 64], [some 28, none, some 29, none, none, none, none, none], [], [some 30, none, some 31, none], [], [], [some 67, some 69, some 71, some 73], [some 34, some 35, some 36, some 37, some 38, none], [], [], [], [], [], [], [], [none, none, none, none], [none, none, none, none], [none, none, none, none], [none, none, none, none], [none, none, none, none], [none, none, none, none], [none, none, none, none], [none, none, none, none], [some 50, none, some 51, none], [], [], [some 53, none, some 54, none], [], [], [some 56, none, some 57, none], [], [], [some 59, none, some 60, none], [], [], [some 62, none, some 63, none], [], [], [some 65, none, some 66, none], [], [], [some 68, none, none], [], [some 70, none, none], [], [some 72, none, none], [], [some 74, none, none], [], [none, some 76, none, some 77, none, some 78, none, some 79, some 80, none, none, none, none, none, none, none, some 81, some 82, some 83, some 84, some 85, none, none, none, none, some 86, some 87, none, none, none, some 88, some 89, some 90, some 91, some 92, none, none, some 93], [], [], [], [], [], [], [], [], [], [], [], [], [], [], [], [], [], []]
def xRF (c k : Nat) : Option Nat := (xRFL.getD c []).getD k none
/-- int, long, reference -/
abbrev YV : Type := Int ⊕ Int ⊕ Int
abbrev YL : Type := List (Option YV)
abbrev YM : Type := Int → Int → Int
def yv : YV → Value
  | .inl a => .int (Int32.ofInt a)
  | .inr (.inl a) => .long (Int64.ofInt a)
  | .inr (.inr a) => .ref a.toNat
abbrev yi (a : Int) : YV := .inl a
abbrev yj (a : Int) : YV := .inr (.inl a)
abbrev yr (a : Int) : YV := .inr (.inr a)
def yo (ls : YL) : XL := ls.map (Option.map yv)
def ym (M N : YM) : XM := (94, fun c k => Int32.ofInt (M c k), fun c k => Int64.ofInt (N c k), xRF)
/-- one place of the memory -/
def yu (M : YM) (c k v : Int) : YM := fun c' k' => if c' = c ∧ k' = k then v else M c' k'
/-- a cell's kind and size -/
def yk (c : Int) : Nat × Nat := if 0 ≤ c then xkind c.toNat else (99, 0)
def ycat2 : Option YV → Bool
  | some (.inr (.inl _)) => true
  | _ => false
def yst1 (ls : YL) (i : Nat) (v : YV) : YL := (if ycat2 (ls.getD (i - 1) none) then ls.set (i - 1) none else ls).set i (some v)
def yst2 (ls : YL) (i : Nat) (v : YV) : YL := ((if ycat2 (ls.getD (i - 1) none) then ls.set (i - 1) none else ls).set i (some v)).set (i + 1) none
def ylocs : List YV → YL
  | [] => []
  | .inr (.inl a) :: r => some (.inr (.inl a)) :: none :: ylocs r
  | v :: r => some v :: ylocs r
def ypad (n : Nat) (l : YL) : YL := l ++ List.replicate (n - l.length) none
/-- steps that ask nothing -/
def ys (i : Instr) (rs wp pc : Nat) (ls : YL) (st : List YV) (M N : YM) : Option (Nat × YL × List YV × YM × YM) := match i, st with
  | .iconst n, st => some (pc + 1, ls, .inl n :: st, M, N)
  | .bipush n, st => if -128 ≤ n ∧ n < 128 then some (pc + 2, ls, .inl n :: st, M, N) else none
  | .sipush n, st => if -32768 ≤ n ∧ n < 32768 then some (pc + 3, ls, .inl n :: st, M, N) else none
  | .lconst n, st => some (pc + 1, ls, .inr (.inl ((n : Nat) : Int)) :: st, M, N)
  | .iload_n k, st => match ls[(k : Nat)]? with
    | some (some (.inl x)) => some (pc + 1, ls, .inl x :: st, M, N)
    | _ => none
  | .iload k, st => match ls[k]? with
    | some (some (.inl x)) => some (pc + 2, ls, .inl x :: st, M, N)
    | _ => none
  | .lload_n k, st => match ls[(k : Nat)]? with
    | some (some (.inr (.inl x))) => some (pc + 1, ls, .inr (.inl x) :: st, M, N)
    | _ => none
  | .lload k, st => match ls[k]? with
    | some (some (.inr (.inl x))) => some (pc + 2, ls, .inr (.inl x) :: st, M, N)
    | _ => none
  | .aload_n k, st => match ls[(k : Nat)]? with
    | some (some (.inr (.inr x))) => some (pc + 1, ls, .inr (.inr x) :: st, M, N)
    | _ => none
  | .aload k, st => match ls[k]? with
    | some (some (.inr (.inr x))) => some (pc + 2, ls, .inr (.inr x) :: st, M, N)
    | _ => none
  | .istore_n k, .inl x :: st => if (k : Nat) < ls.length then some (pc + 1, yst1 ls k (.inl x), st, M, N) else none
  | .istore k, .inl x :: st => if k < ls.length then some (pc + 2, yst1 ls k (.inl x), st, M, N) else none
  | .lstore_n k, .inr (.inl x) :: st => if (k : Nat) + 1 < ls.length then some (pc + 1, yst2 ls k (.inr (.inl x)), st, M, N) else none
  | .lstore k, .inr (.inl x) :: st => if k + 1 < ls.length then some (pc + 2, yst2 ls k (.inr (.inl x)), st, M, N) else none
  | .astore_n k, .inr (.inr x) :: st => if (k : Nat) < ls.length then some (pc + 1, yst1 ls k (.inr (.inr x)), st, M, N) else none
  | .astore k, .inr (.inr x) :: st => if k < ls.length then some (pc + 2, yst1 ls k (.inr (.inr x)), st, M, N) else none
  | .iinc k n, st => match ls[k]? with
    | some (some (.inl x)) => some (pc + 3, yst1 ls k (.inl (x + n)), st, M, N)
    | _ => none
  | .iadd, .inl y :: .inl x :: st => some (pc + 1, ls, .inl (x + y) :: st, M, N)
  | .isub, .inl y :: .inl x :: st => some (pc + 1, ls, .inl (x - y) :: st, M, N)
  | .imul, .inl y :: .inl x :: st => some (pc + 1, ls, .inl (x * y) :: st, M, N)
  | .ineg, .inl x :: st => some (pc + 1, ls, .inl (-x) :: st, M, N)
  | .iand, .inl y :: .inl x :: st => some (pc + 1, ls, .inl (Int32.ofInt x &&& Int32.ofInt y).toInt :: st, M, N)
  | .ior, .inl y :: .inl x :: st => some (pc + 1, ls, .inl (Int32.ofInt x ||| Int32.ofInt y).toInt :: st, M, N)
  | .ixor, .inl y :: .inl x :: st => some (pc + 1, ls, .inl (Int32.ofInt x ^^^ Int32.ofInt y).toInt :: st, M, N)
  | .ishl, .inl y :: .inl x :: st => some (pc + 1, ls, .inl (Int32.ofInt x <<< (Int32.ofInt y &&& 31)).toInt :: st, M, N)
  | .ishr, .inl y :: .inl x :: st => some (pc + 1, ls, .inl (Int32.ofInt x >>> (Int32.ofInt y &&& 31)).toInt :: st, M, N)
  | .ladd, .inr (.inl y) :: .inr (.inl x) :: st => some (pc + 1, ls, .inr (.inl (x + y)) :: st, M, N)
  | .lsub, .inr (.inl y) :: .inr (.inl x) :: st => some (pc + 1, ls, .inr (.inl (x - y)) :: st, M, N)
  | .lmul, .inr (.inl y) :: .inr (.inl x) :: st => some (pc + 1, ls, .inr (.inl (x * y)) :: st, M, N)
  | .l2i, .inr (.inl x) :: st => some (pc + 1, ls, .inl x :: st, M, N)
  | .i2b, .inl x :: st => some (pc + 1, ls, .inl (Int32.ofInt x).toInt8.toInt :: st, M, N)
  | .i2s, .inl x :: st => some (pc + 1, ls, .inl (Int32.ofInt x).toInt16.toInt :: st, M, N)
  | .dup, .inl x :: st => some (pc + 1, ls, .inl x :: .inl x :: st, M, N)
  | .dup, .inr (.inr x) :: st => some (pc + 1, ls, .inr (.inr x) :: .inr (.inr x) :: st, M, N)
  | .dup2, .inl x :: .inr (.inr y) :: st => some (pc + 1, ls, .inl x :: .inr (.inr y) :: .inl x :: .inr (.inr y) :: st, M, N)
  | .pop, .inl _ :: st => some (pc + 1, ls, st, M, N)
  | .goto off, st => some (xgo pc off, ls, st, M, N)
  | .getstatic _, st => match rs with
    | 1 => some (pc + 3, ls, .inr (.inr 30000) :: st, M, N)
    | _ => none
  | .ldc _, st => match rs with
    | 0 => match xCI.find? (fun q => Nat.beq q.1 wp) with
      | some q => some (pc + 2, ls, .inl q.2.toInt :: st, M, N)
      | none => none
    | k + 1 => if k < xSTR.length then some (pc + 2, ls, .inr (.inr ((10000 + k : Nat) : Int)) :: st, M, N) else none
  | .ldc_w _, st => match xCI.find? (fun q => Nat.beq q.1 wp) with
    | some q => some (pc + 3, ls, .inl q.2.toInt :: st, M, N)
    | none => none
  | .ldc2_w _, st => match xCL.find? (fun q => Nat.beq q.1 wp) with
    | some q => some (pc + 3, ls, .inr (.inl q.2.toInt) :: st, M, N)
    | none => none
  | .getfield _, .inr (.inr a) :: st => if rs = 900 ∨ rs = 901 then none else match xFT[rs]? with
    | some f => if 0 ≤ a ∧ a < 94 ∧ (yk a).1 = 200 + f.1 then (match (xfk f.1 f.2).1 with
      | 0 => some (pc + 3, ls, .inl (M a f.2) :: st, M, N)
      | 3 => some (pc + 3, ls, .inl (M a f.2) :: st, M, N)
      | 1 => some (pc + 3, ls, .inr (.inl (N a f.2)) :: st, M, N)
      | 2 => match xRF a.toNat f.2 with
        | some r => some (pc + 3, ls, .inr (.inr (r : Int)) :: st, M, N)
        | none => none
      | _ => none) else none
    | none => none
  | .putfield _, .inl v :: .inr (.inr a) :: st => match xFT[rs]? with
    | some f => if 0 ≤ a ∧ a < 94 ∧ (yk a).1 = 200 + f.1 ∧ xfk f.1 f.2 = (0, false) then some (pc + 3, ls, st, yu M a f.2 v, N) else none
    | none => none
  | .putfield _, .inr (.inl v) :: .inr (.inr a) :: st => match xFT[rs]? with
    | some f => if 0 ≤ a ∧ a < 94 ∧ (yk a).1 = 200 + f.1 ∧ xfk f.1 f.2 = (1, false) then some (pc + 3, ls, st, M, yu N a f.2 v) else none
    | none => none
  | _, _ => none
def yrun (mi : Nat) : Nat → Nat → YL → List YV → YM → YM → Option (Nat × YL × List YV × YM × YM)
  | 0, pc, ls, st, M, N => some (pc, ls, st, M, N)
  | k + 1, pc, ls, st, M, N => match xi mi pc with
    | some (i, rs, wp) => match ys i rs wp pc ls st M N with
      | some (pc', ls', st', M', N') => yrun mi k pc' ls' st' M' N'
      | none => none
    | none => none
/-- from here the method comes to its end, with Q -/
def ry (S : XS) (d mi pc : Nat) (ls : YL) (st : List YV) (M N : YM) (Q : Option YV → YM → YM → Prop) : Prop :=
  ∃ (n : Nat) (r : Option YV) (M' N' : YM), xexec S n d mi pc (yo ls) (st.map yv) (ym M N) = some (r.map yv, ym M' N') ∧ Q r M' N'
/-- a method, given values, comes to its end, with Q -/
def rm (S : XS) (d mj : Nat) (as : List YV) (M N : YM) (Q : Option YV → YM → YM → Prop) : Prop :=
  ∃ e : XMe, xme mj = some e ∧ (ylocs as).length ≤ e.2.2.2.1 ∧ ry S d mj 0 (ypad e.2.2.2.1 (ylocs as)) [] M N Q
end
section
theorem t32 {a : Int} (h : -2147483648 ≤ a ∧ a < 2147483648) : (Int32.ofInt a).toInt = a := Int32.toInt_ofInt_of_le (by omega) (by omega)
theorem t64 {a : Int} (h : -9223372036854775808 ≤ a ∧ a < 9223372036854775808) : (Int64.ofInt a).toInt = a := Int64.toInt_ofInt_of_le (by omega) (by omega)
theorem yo_get (ls : YL) (k : Nat) : (yo ls)[k]? = (ls[k]?).map (Option.map yv) := by
  unfold yo
  rw [List.getElem?_map]
theorem yo_len (ls : YL) : (yo ls).length = ls.length := by simp [yo]
theorem ycat_eq (o : Option YV) : xcat2 (o.map yv) = ycat2 o := by
  rcases o with _ | a | a | a <;> rfl
theorem yo_getD (ls : YL) (k : Nat) : (yo ls).getD k none = (ls.getD k none).map yv := by
  rw [List.getD_eq_getElem?_getD, List.getD_eq_getElem?_getD, yo_get]
  cases ls[k]? <;> rfl
theorem yo_set (ls : YL) (k : Nat) (o : Option YV) : yo (ls.set k o) = (yo ls).set k (o.map yv) := by
  unfold yo
  rw [List.map_set]
theorem yo_kill (ls : YL) (i : Nat) : yo (if ycat2 (ls.getD (i - 1) none) then ls.set (i - 1) none else ls) = (if xcat2 ((yo ls).getD (i - 1) none) then (yo ls).set (i - 1) none else yo ls) := by
  rw [yo_getD, ycat_eq]
  split
  · rw [yo_set]; rfl
  · rfl
theorem yo_st1 (ls : YL) (i : Nat) (v : YV) : yo (yst1 ls i v) = xst1 (yo ls) i (yv v) := by
  unfold yst1 xst1
  rw [yo_set, yo_kill]
  rfl
theorem yo_st2 (ls : YL) (i : Nat) (v : YV) : yo (yst2 ls i v) = xst2 (yo ls) i (yv v) := by
  unfold yst2 xst2
  rw [yo_set, yo_set, yo_kill]
  rfl
theorem yo_load {ls : YL} {k : Nat} {v : YV} (h : ls[k]? = some (some v)) : (yo ls)[k]? = some (some (yv v)) := by
  rw [yo_get, h]
  rfl
theorem ym_put {M N : YM} {c k v : Int} (hc : 0 ≤ c) (hk : 0 ≤ k) : ym (yu M c k v) N = (94, xu (ym M N).2.1 c.toNat k.toNat (Int32.ofInt v), (ym M N).2.2.1, xRF) := by
  unfold ym
  congr 2
  funext c' k'
  unfold yu xu
  by_cases h1 : c' = c.toNat
  · by_cases h2 : k' = k.toNat
    · subst h1; subst h2
      rw [if_pos rfl, if_pos rfl, if_pos ⟨by omega, by omega⟩]
    · rw [if_pos h1, if_neg h2, if_neg (by omega)]
  · rw [if_neg h1, if_neg (by omega)]
theorem ym_putN {M N : YM} {c k v : Int} (hc : 0 ≤ c) (hk : 0 ≤ k) : ym M (yu N c k v) = (94, (ym M N).2.1, xu (ym M N).2.2.1 c.toNat k.toNat (Int64.ofInt v), xRF) := by
  unfold ym
  congr 3
  funext c' k'
  unfold yu xu
  by_cases h1 : c' = c.toNat
  · by_cases h2 : k' = k.toNat
    · subst h1; subst h2
      rw [if_pos rfl, if_pos rfl, if_pos ⟨by omega, by omega⟩]
    · rw [if_pos h1, if_neg h2, if_neg (by omega)]
  · rw [if_neg h1, if_neg (by omega)]
theorem yk_eq {a : Int} (h : 0 ≤ a) : xkind a.toNat = yk a := by
  unfold yk
  rw [if_pos h]
theorem b8 {n : Int} (h : -128 ≤ n ∧ n < 128) : (Int8.ofInt n).toInt32 = Int32.ofInt n := Int32.toInt_inj.mp (by rw [Int8.toInt_toInt32, Int8.toInt_ofInt_of_le (by omega) (by omega), t32 (by omega)])
theorem b16 {n : Int} (h : -32768 ≤ n ∧ n < 32768) : (Int16.ofInt n).toInt32 = Int32.ofInt n := Int32.toInt_inj.mp (by rw [Int16.toInt_toInt32, Int16.toInt_ofInt_of_le (by omega) (by omega), t32 (by omega)])
set_option maxHeartbeats 4000000 in
theorem ys_sound {i : Instr} {rs wp pc pc' : Nat} {ls ls' : YL} {st st' : List YV} {M N M' N' : YM} (h : ys i rs wp pc ls st M N = some (pc', ls', st', M', N')) : xcl i = 0 ∧ ∀ (S : XS) (kd : Nat), xs1 S kd i rs wp pc (yo ls) (st.map yv) (ym M N) = some (pc', yo ls', st'.map yv, ym M' N') := by
  unfold ys at h
  split at h
  · cases h
    exact ⟨rfl, fun S kd => rfl⟩
  · split at h
    · rename_i hn
      cases h
      refine ⟨rfl, fun S kd => ?_⟩
      show some (_, _, Value.int _ :: _, _) = some _
      rw [b8 hn]
      rfl
    · cases h
  · split at h
    · rename_i hn
      cases h
      refine ⟨rfl, fun S kd => ?_⟩
      show some (_, _, Value.int _ :: _, _) = some _
      rw [b16 hn]
      rfl
    · cases h
  · cases h
    exact ⟨rfl, fun S kd => rfl⟩
  · split at h
    · rename_i hl
      cases h
      refine ⟨rfl, fun S kd => ?_⟩
      simp only [xs1, xs0, yo_load hl, yv]
      rfl
    · cases h
  · split at h
    · rename_i hl
      cases h
      refine ⟨rfl, fun S kd => ?_⟩
      simp only [xs1, xs0, yo_load hl, yv]
      rfl
    · cases h
  · split at h
    · rename_i hl
      cases h
      refine ⟨rfl, fun S kd => ?_⟩
      simp only [xs1, xs0, yo_load hl, yv]
      rfl
    · cases h
  · split at h
    · rename_i hl
      cases h
      refine ⟨rfl, fun S kd => ?_⟩
      simp only [xs1, xs0, yo_load hl, yv]
      rfl
    · cases h
  · split at h
    · rename_i hl
      cases h
      refine ⟨rfl, fun S kd => ?_⟩
      simp only [xs1, xs0, yo_load hl, yv]
      rfl
    · cases h
  · split at h
    · rename_i hl
      cases h
      refine ⟨rfl, fun S kd => ?_⟩
      simp only [xs1, xs0, yo_load hl, yv]
      rfl
    · cases h
  · split at h
    · rename_i hl
      cases h
      refine ⟨rfl, fun S kd => ?_⟩
      simp only [xs1, xs0, List.map_cons, yv, yo_len, if_pos hl, yo_st1]
      rfl
    · cases h
  · split at h
    · rename_i hl
      cases h
      refine ⟨rfl, fun S kd => ?_⟩
      simp only [xs1, xs0, List.map_cons, yv, yo_len, if_pos hl, yo_st1]
      rfl
    · cases h
  · split at h
    · rename_i hl
      cases h
      refine ⟨rfl, fun S kd => ?_⟩
      simp only [xs1, xs0, List.map_cons, yv, yo_len, if_pos hl, yo_st2]
      rfl
    · cases h
  · split at h
    · rename_i hl
      cases h
      refine ⟨rfl, fun S kd => ?_⟩
      simp only [xs1, xs0, List.map_cons, yv, yo_len, if_pos hl, yo_st2]
      rfl
    · cases h
  · split at h
    · rename_i hl
      cases h
      refine ⟨rfl, fun S kd => ?_⟩
      simp only [xs1, xs0, List.map_cons, yv, yo_len, if_pos hl, yo_st1]
      rfl
    · cases h
  · split at h
    · rename_i hl
      cases h
      refine ⟨rfl, fun S kd => ?_⟩
      simp only [xs1, xs0, List.map_cons, yv, yo_len, if_pos hl, yo_st1]
      rfl
    · cases h
  · split at h
    · rename_i hl
      cases h
      refine ⟨rfl, fun S kd => ?_⟩
      simp only [xs1, xs0, yo_load hl, yv, yo_st1, Int32.ofInt_add]
      rfl
    · cases h
  · cases h
    refine ⟨rfl, fun S kd => ?_⟩
    simp only [xs1, xs0, List.map_cons, yv, Int32.ofInt_add]
    rfl
  · cases h
    refine ⟨rfl, fun S kd => ?_⟩
    simp only [xs1, xs0, List.map_cons, yv, Int32.ofInt_sub]
    rfl
  · cases h
    refine ⟨rfl, fun S kd => ?_⟩
    simp only [xs1, xs0, List.map_cons, yv, Int32.ofInt_mul]
    rfl
  · cases h
    refine ⟨rfl, fun S kd => ?_⟩
    simp only [xs1, xs0, List.map_cons, yv, Int32.ofInt_neg]
    rfl
  · cases h
    refine ⟨rfl, fun S kd => ?_⟩
    simp only [xs1, xs0, List.map_cons, yv, Int32.ofInt_toInt]
    rfl
  · cases h
    refine ⟨rfl, fun S kd => ?_⟩
    simp only [xs1, xs0, List.map_cons, yv, Int32.ofInt_toInt]
    rfl
  · cases h
    refine ⟨rfl, fun S kd => ?_⟩
    simp only [xs1, xs0, List.map_cons, yv, Int32.ofInt_toInt]
    rfl
  · cases h
    refine ⟨rfl, fun S kd => ?_⟩
    simp only [xs1, xs0, List.map_cons, yv, Int32.ofInt_toInt]
    rfl
  · cases h
    refine ⟨rfl, fun S kd => ?_⟩
    simp only [xs1, xs0, List.map_cons, yv, Int32.ofInt_toInt]
    rfl
  · cases h
    refine ⟨rfl, fun S kd => ?_⟩
    simp only [xs1, xs0, List.map_cons, yv, Int64.ofInt_add]
    rfl
  · cases h
    refine ⟨rfl, fun S kd => ?_⟩
    simp only [xs1, xs0, List.map_cons, yv, Int64.ofInt_sub]
    rfl
  · cases h
    refine ⟨rfl, fun S kd => ?_⟩
    simp only [xs1, xs0, List.map_cons, yv, Int64.ofInt_mul]
    rfl
  · cases h
    refine ⟨rfl, fun S kd => ?_⟩
    simp only [xs1, xs0, List.map_cons, yv, Int64.toInt32_ofInt]
    rfl
  · cases h
    refine ⟨rfl, fun S kd => ?_⟩
    rename_i x st
    have hx : (Int32.ofInt x).toInt8.toInt32 = Int32.ofInt (Int32.ofInt x).toInt8.toInt := by rw [← Int8.toInt_toInt32, Int32.ofInt_toInt]
    simp only [xs1, xs0, List.map_cons, yv, hx]
    rfl
  · cases h
    refine ⟨rfl, fun S kd => ?_⟩
    rename_i x st
    have hx : (Int32.ofInt x).toInt16.toInt32 = Int32.ofInt (Int32.ofInt x).toInt16.toInt := by rw [← Int16.toInt_toInt32, Int32.ofInt_toInt]
    simp only [xs1, xs0, List.map_cons, yv, hx]
    rfl
  · cases h
    exact ⟨rfl, fun S kd => rfl⟩
  · cases h
    exact ⟨rfl, fun S kd => rfl⟩
  · cases h
    exact ⟨rfl, fun S kd => rfl⟩
  · cases h
    exact ⟨rfl, fun S kd => rfl⟩
  · cases h
    exact ⟨rfl, fun S kd => rfl⟩
  · split at h
    · cases h
      exact ⟨rfl, fun S kd => rfl⟩
    · cases h
  · split at h
    · split at h
      · rename_i q hq
        cases h
        refine ⟨rfl, fun S kd => ?_⟩
        simp only [xs1, xs0, hq, List.map_cons, yv, Int32.ofInt_toInt]
        rfl
      · cases h
    · split at h
      · rename_i k hk
        cases h
        refine ⟨rfl, fun S kd => ?_⟩
        simp only [xs1, xs0, if_pos hk]
        rfl
      · cases h
  · split at h
    · rename_i q hq
      cases h
      refine ⟨rfl, fun S kd => ?_⟩
      simp only [xs1, xs0, hq, List.map_cons, yv, Int32.ofInt_toInt]
      rfl
    · cases h
  · split at h
    · rename_i q hq
      cases h
      refine ⟨rfl, fun S kd => ?_⟩
      simp only [xs1, xs0, hq, List.map_cons, yv, Int64.ofInt_toInt]
      rfl
    · cases h
  · split at h
    · cases h
    · rename_i hrs
      split at h
      · rename_i f hf
        split at h
        · rename_i ha
          obtain ⟨a0, a1, a2⟩ := ha
          rw [← yk_eq a0] at a2
          have hc : ∀ a : Int, 0 ≤ a → a < 94 → a.toNat < 94 := fun a h1 h2 => by omega
          have hc1 := hc _ a0 a1
          have key : ∀ (v : Value) (S : XS) (kd : Nat) (M N : YM) (a : Int) (st : List YV), a.toNat < (ym M N).1 → (xkind a.toNat).1 = 200 + f.1 → xget (ym M N) a.toNat f.1 f.2 = some v → xs1 S kd (.getfield 0) rs wp pc (yo ls) ((Sum.inr (Sum.inr a) :: st).map yv) (ym M N) = some (pc + 3, yo ls, v :: st.map yv, ym M N) := by
            intro v S kd M N a st h1 h2 h3
            simp only [xs1, List.map_cons, yv, if_neg (fun z => hrs (Or.inl z)), if_neg (fun z => hrs (Or.inr z)), hf, if_pos (And.intro h1 h2), h3]
          split at h
          · rename_i hk
            cases h
            exact ⟨rfl, fun S kd => key _ S kd _ _ _ _ hc1 a2 (by unfold xget; rw [hk]; show some (Value.int (Int32.ofInt (M ((Int.toNat _ : Nat) : Int) _))) = _; rw [Int.toNat_of_nonneg a0]; rfl)⟩
          · rename_i hk
            cases h
            exact ⟨rfl, fun S kd => key _ S kd _ _ _ _ hc1 a2 (by unfold xget; rw [hk]; show some (Value.int (Int32.ofInt (M ((Int.toNat _ : Nat) : Int) _))) = _; rw [Int.toNat_of_nonneg a0]; rfl)⟩
          · rename_i hk
            cases h
            exact ⟨rfl, fun S kd => key _ S kd _ _ _ _ hc1 a2 (by unfold xget; rw [hk]; show some (Value.long (Int64.ofInt (N ((Int.toNat _ : Nat) : Int) _))) = _; rw [Int.toNat_of_nonneg a0]; rfl)⟩
          · rename_i hk
            split at h
            · rename_i r hr
              cases h
              exact ⟨rfl, fun S kd => key _ S kd _ _ _ _ hc1 a2 (by unfold xget; rw [hk]; show some (va_rf (xRF _ _)) = _; rw [hr]; rfl)⟩
            · cases h
          · cases h
        · cases h
      · cases h
  · split at h
    · rename_i f hf
      split at h
      · rename_i ha
        obtain ⟨a0, a1, a2, a3⟩ := ha
        rw [← yk_eq a0] at a2
        have hc : ∀ a : Int, 0 ≤ a → a < 94 → a.toNat < 94 := fun a h1 h2 => by omega
        have hc1 := hc _ a0 a1
        cases h
        refine ⟨rfl, fun S kd => ?_⟩
        rw [ym_put a0 (Int.natCast_nonneg _)]
        have h1 : (xfk f.1 f.2).1 = 0 := by rw [a3]
        have h2 : (xfk f.1 f.2).2 = false := by rw [a3]
        simp only [xs1, List.map_cons, yv, hf, xput, h1]
        rw [if_pos ⟨hc1, a2, Or.inl h2⟩]
        rfl
      · cases h
    · cases h
  · split at h
    · rename_i f hf
      split at h
      · rename_i ha
        obtain ⟨a0, a1, a2, a3⟩ := ha
        rw [← yk_eq a0] at a2
        have hc : ∀ a : Int, 0 ≤ a → a < 94 → a.toNat < 94 := fun a h1 h2 => by omega
        have hc1 := hc _ a0 a1
        cases h
        refine ⟨rfl, fun S kd => ?_⟩
        rw [ym_putN a0 (Int.natCast_nonneg _)]
        have h1 : (xfk f.1 f.2).1 = 1 := by rw [a3]
        have h2 : (xfk f.1 f.2).2 = false := by rw [a3]
        simp only [xs1, List.map_cons, yv, hf, xput, h1]
        rw [if_pos ⟨hc1, a2, Or.inl h2⟩]
        rfl
      · cases h
    · cases h
  · cases h
end
section
/-! rules: from a state, towards the end -/
theorem xme_of_xi {mi pc : Nat} {q : Instr × Nat × Nat} (h : xi mi pc = some q) : ∃ e, xme mi = some e := by
  unfold xi at h
  unfold xme
  cases hq : XT[mi]? with
  | none => rw [hq] at h; cases h
  | some p => exact ⟨p.1, rfl⟩
theorem xexec_mono (S : XS) : ∀ (n d mi pc : Nat) (ls : XL) (st : List Value) (X : XM) (q : Option Value × XM), xexec S n d mi pc ls st X = some q → ∀ k d2, d ≤ d2 → xexec S (n + k) d2 mi pc ls st X = some q := by
  intro n
  induction n with
  | zero => intro d mi pc ls st X q h; cases h
  | succ n ih =>
    intro d mi pc ls st X q h k d2 hd
    rw [show n + 1 + k = (n + k) + 1 by omega]
    unfold xexec at h ⊢
    cases hm : xme mi with
    | none => rw [hm] at h; cases h
    | some e =>
      rw [hm] at h
      cases hi : xi mi pc with
      | none => rw [hi] at h; cases h
      | some p =>
        obtain ⟨i, rs, wp⟩ := p
        rw [hi] at h
        dsimp only at h ⊢
        split at h
        · rename_i h0
          rw [if_pos h0]
          cases hq : xs1 S e.2.2.2.2.2.1 i rs wp pc ls st X with
          | none => rw [hq] at h; cases h
          | some p => rw [hq] at h; exact ih _ _ _ _ _ _ _ h k d2 hd
        · rename_i h0
          rw [if_neg h0]
          split at h
          · rename_i h1
            rw [if_pos h1]
            exact h
          · rename_i h1
            rw [if_neg h1]
            cases d with
            | zero => cases h
            | succ d' =>
              obtain ⟨d3, rfl⟩ : ∃ d3, d2 = d3 + 1 := ⟨d2 - 1, by omega⟩
              dsimp only at h ⊢
              split at h
              · rename_i h8
                rw [if_pos h8]
                split at h
                · split at h
                  · rename_i hc
                    rw [if_pos hc]
                    exact ih _ _ _ _ _ _ _ h k _ hd
                  · cases h
                · cases h
              · rename_i h8
                rw [if_neg h8]
                split at h
                · rename_i h9
                  rw [if_pos h9]
                  cases hq : xcopy st X with
                  | none => rw [hq] at h; cases h
                  | some p => rw [hq] at h; exact ih _ _ _ _ _ _ _ h k _ hd
                · rename_i h9
                  rw [if_neg h9]
                  split at h
                  · rename_i h97
                    rw [if_pos h97]
                    split at h
                    · split at h
                      · rename_i hc
                        rw [if_pos hc]
                        exact ih _ _ _ _ _ _ _ h k _ hd
                      · cases h
                    · cases h
                  · rename_i h97
                    rw [if_neg h97]
                    split at h
                    · rename_i h98
                      rw [if_pos h98]
                      split at h
                      · split at h
                        · rename_i hc
                          rw [if_pos hc]
                          exact ih _ _ _ _ _ _ _ h k _ hd
                        · cases h
                      · cases h
                    · rename_i h98
                      rw [if_neg h98]
                      cases hv : xinv i rs st X with
                      | none => rw [hv] at h; cases h
                      | some p =>
                        obtain ⟨mj, e2, as, rest⟩ := p
                        rw [hv] at h
                        dsimp only at h ⊢
                        cases hcl : xexec S n d' mj 0 (xpad e2.2.2.2.1 (xlocs as)) [] X with
                        | none => rw [hcl] at h; cases h
                        | some p =>
                          obtain ⟨r, X1⟩ := p
                          rw [hcl] at h
                          rw [ih _ _ _ _ _ _ _ hcl k d3 (by omega)]
                          dsimp only at h ⊢
                          split at h
                          · rename_i hok
                            rw [if_pos hok]
                            exact ih _ _ _ _ _ _ _ h k _ hd
                          · cases h
section YR
variable {S : XS} {d mi pc pc' rs wp : Nat} {ls ls' : YL} {st st' : List YV} {M N M' N' : YM} {Q : Option YV → YM → YM → Prop} {i : Instr}
theorem ry_step (hi : xi mi pc = some (i, rs, wp)) (hc : xcl i = 0) (hx : ∀ kd, xs1 S kd i rs wp pc (yo ls) (st.map yv) (ym M N) = some (pc', yo ls', st'.map yv, ym M' N')) (k : ry S d mi pc' ls' st' M' N' Q) : ry S d mi pc ls st M N Q := by
  obtain ⟨n, r, M2, N2, h, hq⟩ := k
  obtain ⟨e, he⟩ := xme_of_xi hi
  refine ⟨n + 1, r, M2, N2, ?_, hq⟩
  unfold xexec
  rw [he, hi]
  dsimp only
  rw [if_pos hc, hx]
  exact h
theorem r_run (k : Nat) (h : yrun mi k pc ls st M N = some (pc', ls', st', M', N')) (kk : ry S d mi pc' ls' st' M' N' Q) : ry S d mi pc ls st M N Q := by
  induction k generalizing pc ls st M N with
  | zero =>
    cases h
    exact kk
  | succ k ih =>
    unfold yrun at h
    cases hi : xi mi pc with
    | none => rw [hi] at h; cases h
    | some q =>
      obtain ⟨i, rs, wp⟩ := q
      rw [hi] at h
      dsimp only at h
      cases hs : ys i rs wp pc ls st M N with
      | none => rw [hs] at h; cases h
      | some q =>
        obtain ⟨pc1, ls1, st1, M1, N1⟩ := q
        rw [hs] at h
        obtain ⟨h0, h1⟩ := ys_sound hs
        exact ry_step hi h0 (fun kd => h1 S kd) (ih h)
theorem r_deep {d2 : Nat} (h : d ≤ d2) (k : ry S d mi pc ls st M N Q) : ry S d2 mi pc ls st M N Q := by
  obtain ⟨n, r, M2, N2, h1, hq⟩ := k
  exact ⟨n, r, M2, N2, xexec_mono S n d mi pc _ _ _ _ h1 0 d2 h, hq⟩
theorem r_post {Q2 : Option YV → YM → YM → Prop} (k : ry S d mi pc ls st M N Q) (h : ∀ r M' N', Q r M' N' → Q2 r M' N') : ry S d mi pc ls st M N Q2 := by
  obtain ⟨n, r, M2, N2, h1, hq⟩ := k
  exact ⟨n, r, M2, N2, h1, h _ _ _ hq⟩

theorem r_if_eq {a : Int} {off : Int} (hi : xi mi pc = some (.ifCond .eq off, rs, wp)) (ha : -2147483648 ≤ a ∧ a < 2147483648) (kt : a = 0 → ry S d mi (xgo pc off) ls st M N Q) (kf : a ≠ 0 → ry S d mi (pc + 3) ls st M N Q) : ry S d mi pc ls (.inl a :: st) M N Q := by
  have hA := t32 ha
  have hB : (0 : Int32).toInt = 0 := by decide
  by_cases hP : a = 0
  · have hx : xcond .eq (Int32.ofInt a) 0 = true := by
      show decide _ = true
      rw [decide_eq_true_eq, ← Int32.toInt_inj]
      omega
    exact ry_step hi rfl (fun kd => by simp only [xs1, List.map_cons, yv, hx, if_true]) (kt hP)
  · have hx : xcond .eq (Int32.ofInt a) 0 = false := by
      show decide _ = false
      rw [decide_eq_false_iff_not, ← Int32.toInt_inj]
      omega
    exact ry_step hi rfl (fun kd => by simp only [xs1, List.map_cons, yv, hx]; rfl) (kf (by omega))
theorem r_icmp_eq {a b : Int} {off : Int} (hi : xi mi pc = some (.if_icmp .eq off, rs, wp)) (ha : -2147483648 ≤ a ∧ a < 2147483648) (hb : -2147483648 ≤ b ∧ b < 2147483648) (kt : a = b → ry S d mi (xgo pc off) ls st M N Q) (kf : a ≠ b → ry S d mi (pc + 3) ls st M N Q) : ry S d mi pc ls (.inl b :: .inl a :: st) M N Q := by
  have hA := t32 ha
  have hB := t32 hb
  by_cases hP : a = b
  · have hx : xcond .eq (Int32.ofInt a) (Int32.ofInt b) = true := by
      show decide _ = true
      rw [decide_eq_true_eq, ← Int32.toInt_inj]
      omega
    exact ry_step hi rfl (fun kd => by simp only [xs1, List.map_cons, yv, hx, if_true]) (kt hP)
  · have hx : xcond .eq (Int32.ofInt a) (Int32.ofInt b) = false := by
      show decide _ = false
      rw [decide_eq_false_iff_not, ← Int32.toInt_inj]
      omega
    exact ry_step hi rfl (fun kd => by simp only [xs1, List.map_cons, yv, hx]; rfl) (kf (by omega))
theorem r_if_ne {a : Int} {off : Int} (hi : xi mi pc = some (.ifCond .ne off, rs, wp)) (ha : -2147483648 ≤ a ∧ a < 2147483648) (kt : a ≠ 0 → ry S d mi (xgo pc off) ls st M N Q) (kf : a = 0 → ry S d mi (pc + 3) ls st M N Q) : ry S d mi pc ls (.inl a :: st) M N Q := by
  have hA := t32 ha
  have hB : (0 : Int32).toInt = 0 := by decide
  by_cases hP : a ≠ 0
  · have hx : xcond .ne (Int32.ofInt a) 0 = true := by
      show decide _ = true
      rw [decide_eq_true_eq, ne_eq, ← Int32.toInt_inj]
      omega
    exact ry_step hi rfl (fun kd => by simp only [xs1, List.map_cons, yv, hx, if_true]) (kt hP)
  · have hx : xcond .ne (Int32.ofInt a) 0 = false := by
      show decide _ = false
      rw [decide_eq_false_iff_not, ne_eq, ← Int32.toInt_inj]
      omega
    exact ry_step hi rfl (fun kd => by simp only [xs1, List.map_cons, yv, hx]; rfl) (kf (by omega))
theorem r_icmp_ne {a b : Int} {off : Int} (hi : xi mi pc = some (.if_icmp .ne off, rs, wp)) (ha : -2147483648 ≤ a ∧ a < 2147483648) (hb : -2147483648 ≤ b ∧ b < 2147483648) (kt : a ≠ b → ry S d mi (xgo pc off) ls st M N Q) (kf : a = b → ry S d mi (pc + 3) ls st M N Q) : ry S d mi pc ls (.inl b :: .inl a :: st) M N Q := by
  have hA := t32 ha
  have hB := t32 hb
  by_cases hP : a ≠ b
  · have hx : xcond .ne (Int32.ofInt a) (Int32.ofInt b) = true := by
      show decide _ = true
      rw [decide_eq_true_eq, ne_eq, ← Int32.toInt_inj]
      omega
    exact ry_step hi rfl (fun kd => by simp only [xs1, List.map_cons, yv, hx, if_true]) (kt hP)
  · have hx : xcond .ne (Int32.ofInt a) (Int32.ofInt b) = false := by
      show decide _ = false
      rw [decide_eq_false_iff_not, ne_eq, ← Int32.toInt_inj]
      omega
    exact ry_step hi rfl (fun kd => by simp only [xs1, List.map_cons, yv, hx]; rfl) (kf (by omega))
theorem r_if_lt {a : Int} {off : Int} (hi : xi mi pc = some (.ifCond .lt off, rs, wp)) (ha : -2147483648 ≤ a ∧ a < 2147483648) (kt : a < 0 → ry S d mi (xgo pc off) ls st M N Q) (kf : 0 ≤ a → ry S d mi (pc + 3) ls st M N Q) : ry S d mi pc ls (.inl a :: st) M N Q := by
  have hA := t32 ha
  have hB : (0 : Int32).toInt = 0 := by decide
  by_cases hP : a < 0
  · have hx : xcond .lt (Int32.ofInt a) 0 = true := by
      show decide _ = true
      rw [decide_eq_true_eq, Int32.lt_iff_toInt_lt]
      omega
    exact ry_step hi rfl (fun kd => by simp only [xs1, List.map_cons, yv, hx, if_true]) (kt hP)
  · have hx : xcond .lt (Int32.ofInt a) 0 = false := by
      show decide _ = false
      rw [decide_eq_false_iff_not, Int32.lt_iff_toInt_lt]
      omega
    exact ry_step hi rfl (fun kd => by simp only [xs1, List.map_cons, yv, hx]; rfl) (kf (by omega))
theorem r_icmp_lt {a b : Int} {off : Int} (hi : xi mi pc = some (.if_icmp .lt off, rs, wp)) (ha : -2147483648 ≤ a ∧ a < 2147483648) (hb : -2147483648 ≤ b ∧ b < 2147483648) (kt : a < b → ry S d mi (xgo pc off) ls st M N Q) (kf : b ≤ a → ry S d mi (pc + 3) ls st M N Q) : ry S d mi pc ls (.inl b :: .inl a :: st) M N Q := by
  have hA := t32 ha
  have hB := t32 hb
  by_cases hP : a < b
  · have hx : xcond .lt (Int32.ofInt a) (Int32.ofInt b) = true := by
      show decide _ = true
      rw [decide_eq_true_eq, Int32.lt_iff_toInt_lt]
      omega
    exact ry_step hi rfl (fun kd => by simp only [xs1, List.map_cons, yv, hx, if_true]) (kt hP)
  · have hx : xcond .lt (Int32.ofInt a) (Int32.ofInt b) = false := by
      show decide _ = false
      rw [decide_eq_false_iff_not, Int32.lt_iff_toInt_lt]
      omega
    exact ry_step hi rfl (fun kd => by simp only [xs1, List.map_cons, yv, hx]; rfl) (kf (by omega))
theorem r_if_ge {a : Int} {off : Int} (hi : xi mi pc = some (.ifCond .ge off, rs, wp)) (ha : -2147483648 ≤ a ∧ a < 2147483648) (kt : 0 ≤ a → ry S d mi (xgo pc off) ls st M N Q) (kf : a < 0 → ry S d mi (pc + 3) ls st M N Q) : ry S d mi pc ls (.inl a :: st) M N Q := by
  have hA := t32 ha
  have hB : (0 : Int32).toInt = 0 := by decide
  by_cases hP : 0 ≤ a
  · have hx : xcond .ge (Int32.ofInt a) 0 = true := by
      show decide _ = true
      rw [decide_eq_true_eq, Int32.le_iff_toInt_le]
      omega
    exact ry_step hi rfl (fun kd => by simp only [xs1, List.map_cons, yv, hx, if_true]) (kt hP)
  · have hx : xcond .ge (Int32.ofInt a) 0 = false := by
      show decide _ = false
      rw [decide_eq_false_iff_not, Int32.le_iff_toInt_le]
      omega
    exact ry_step hi rfl (fun kd => by simp only [xs1, List.map_cons, yv, hx]; rfl) (kf (by omega))
theorem r_icmp_ge {a b : Int} {off : Int} (hi : xi mi pc = some (.if_icmp .ge off, rs, wp)) (ha : -2147483648 ≤ a ∧ a < 2147483648) (hb : -2147483648 ≤ b ∧ b < 2147483648) (kt : b ≤ a → ry S d mi (xgo pc off) ls st M N Q) (kf : a < b → ry S d mi (pc + 3) ls st M N Q) : ry S d mi pc ls (.inl b :: .inl a :: st) M N Q := by
  have hA := t32 ha
  have hB := t32 hb
  by_cases hP : b ≤ a
  · have hx : xcond .ge (Int32.ofInt a) (Int32.ofInt b) = true := by
      show decide _ = true
      rw [decide_eq_true_eq, Int32.le_iff_toInt_le]
      omega
    exact ry_step hi rfl (fun kd => by simp only [xs1, List.map_cons, yv, hx, if_true]) (kt hP)
  · have hx : xcond .ge (Int32.ofInt a) (Int32.ofInt b) = false := by
      show decide _ = false
      rw [decide_eq_false_iff_not, Int32.le_iff_toInt_le]
      omega
    exact ry_step hi rfl (fun kd => by simp only [xs1, List.map_cons, yv, hx]; rfl) (kf (by omega))
theorem r_if_gt {a : Int} {off : Int} (hi : xi mi pc = some (.ifCond .gt off, rs, wp)) (ha : -2147483648 ≤ a ∧ a < 2147483648) (kt : 0 < a → ry S d mi (xgo pc off) ls st M N Q) (kf : a ≤ 0 → ry S d mi (pc + 3) ls st M N Q) : ry S d mi pc ls (.inl a :: st) M N Q := by
  have hA := t32 ha
  have hB : (0 : Int32).toInt = 0 := by decide
  by_cases hP : 0 < a
  · have hx : xcond .gt (Int32.ofInt a) 0 = true := by
      show decide _ = true
      rw [decide_eq_true_eq, Int32.lt_iff_toInt_lt]
      omega
    exact ry_step hi rfl (fun kd => by simp only [xs1, List.map_cons, yv, hx, if_true]) (kt hP)
  · have hx : xcond .gt (Int32.ofInt a) 0 = false := by
      show decide _ = false
      rw [decide_eq_false_iff_not, Int32.lt_iff_toInt_lt]
      omega
    exact ry_step hi rfl (fun kd => by simp only [xs1, List.map_cons, yv, hx]; rfl) (kf (by omega))
theorem r_icmp_gt {a b : Int} {off : Int} (hi : xi mi pc = some (.if_icmp .gt off, rs, wp)) (ha : -2147483648 ≤ a ∧ a < 2147483648) (hb : -2147483648 ≤ b ∧ b < 2147483648) (kt : b < a → ry S d mi (xgo pc off) ls st M N Q) (kf : a ≤ b → ry S d mi (pc + 3) ls st M N Q) : ry S d mi pc ls (.inl b :: .inl a :: st) M N Q := by
  have hA := t32 ha
  have hB := t32 hb
  by_cases hP : b < a
  · have hx : xcond .gt (Int32.ofInt a) (Int32.ofInt b) = true := by
      show decide _ = true
      rw [decide_eq_true_eq, Int32.lt_iff_toInt_lt]
      omega
    exact ry_step hi rfl (fun kd => by simp only [xs1, List.map_cons, yv, hx, if_true]) (kt hP)
  · have hx : xcond .gt (Int32.ofInt a) (Int32.ofInt b) = false := by
      show decide _ = false
      rw [decide_eq_false_iff_not, Int32.lt_iff_toInt_lt]
      omega
    exact ry_step hi rfl (fun kd => by simp only [xs1, List.map_cons, yv, hx]; rfl) (kf (by omega))
theorem r_if_le {a : Int} {off : Int} (hi : xi mi pc = some (.ifCond .le off, rs, wp)) (ha : -2147483648 ≤ a ∧ a < 2147483648) (kt : a ≤ 0 → ry S d mi (xgo pc off) ls st M N Q) (kf : 0 < a → ry S d mi (pc + 3) ls st M N Q) : ry S d mi pc ls (.inl a :: st) M N Q := by
  have hA := t32 ha
  have hB : (0 : Int32).toInt = 0 := by decide
  by_cases hP : a ≤ 0
  · have hx : xcond .le (Int32.ofInt a) 0 = true := by
      show decide _ = true
      rw [decide_eq_true_eq, Int32.le_iff_toInt_le]
      omega
    exact ry_step hi rfl (fun kd => by simp only [xs1, List.map_cons, yv, hx, if_true]) (kt hP)
  · have hx : xcond .le (Int32.ofInt a) 0 = false := by
      show decide _ = false
      rw [decide_eq_false_iff_not, Int32.le_iff_toInt_le]
      omega
    exact ry_step hi rfl (fun kd => by simp only [xs1, List.map_cons, yv, hx]; rfl) (kf (by omega))
theorem r_icmp_le {a b : Int} {off : Int} (hi : xi mi pc = some (.if_icmp .le off, rs, wp)) (ha : -2147483648 ≤ a ∧ a < 2147483648) (hb : -2147483648 ≤ b ∧ b < 2147483648) (kt : a ≤ b → ry S d mi (xgo pc off) ls st M N Q) (kf : b < a → ry S d mi (pc + 3) ls st M N Q) : ry S d mi pc ls (.inl b :: .inl a :: st) M N Q := by
  have hA := t32 ha
  have hB := t32 hb
  by_cases hP : a ≤ b
  · have hx : xcond .le (Int32.ofInt a) (Int32.ofInt b) = true := by
      show decide _ = true
      rw [decide_eq_true_eq, Int32.le_iff_toInt_le]
      omega
    exact ry_step hi rfl (fun kd => by simp only [xs1, List.map_cons, yv, hx, if_true]) (kt hP)
  · have hx : xcond .le (Int32.ofInt a) (Int32.ofInt b) = false := by
      show decide _ = false
      rw [decide_eq_false_iff_not, Int32.le_iff_toInt_le]
      omega
    exact ry_step hi rfl (fun kd => by simp only [xs1, List.map_cons, yv, hx]; rfl) (kf (by omega))
theorem r_sw_out {a dflt lo up : Int} {offs : Array Int} (hi : xi mi pc = some (.tableswitch dflt lo up offs, rs, wp)) (ha : -2147483648 ≤ a ∧ a < 2147483648) (h : a < lo ∨ up < a) (k : ry S d mi (xgo pc dflt) ls st M N Q) : ry S d mi pc ls (.inl a :: st) M N Q := by
  have hA := t32 ha
  exact ry_step hi rfl (fun kd => by simp only [xs1, List.map_cons, yv, hA, if_pos h]) k
theorem r_sw_in {a dflt lo up : Int} {offs : Array Int} (j : Nat) {off : Int} (hi : xi mi pc = some (.tableswitch dflt lo up offs, rs, wp)) (h : a = lo + j) (ha : -2147483648 ≤ a ∧ a < 2147483648) (hh : a ≤ up) (ho : offs[j]? = some off) (k : ry S d mi (xgo pc off) ls st M N Q) : ry S d mi pc ls (.inl a :: st) M N Q := by
  have hA := t32 ha
  have hn : ¬ (a < lo ∨ up < a) := by omega
  have hj : (a - lo).toNat = j := by omega
  exact ry_step hi rfl (fun kd => by simp only [xs1, List.map_cons, yv, hA, if_neg hn, hj, ho]) k
theorem ycell {c : Int} (h : 0 ≤ c ∧ c < 94) : c.toNat < 94 := by omega
theorem r_iald {c a : Int} {n : Nat} (hi : xi mi pc = some (.iaload, rs, wp)) (hc : 0 ≤ c ∧ c < 94) (hk : yk c = (0, n)) (hn : n < 100000) (ha : 0 ≤ a ∧ a < n) (k : ry S d mi (pc + 1) ls (.inl (M c a) :: st) M N Q) : ry S d mi pc ls (.inl a :: .inr (.inr c) :: st) M N Q := by
  have hA : (Int32.ofInt a).toInt = a := t32 (by omega)
  have h1 := ycell hc
  have h2 : xkind c.toNat = (0, n) := by rw [yk_eq hc.1, hk]
  have hl : (Int32.ofInt a).toNatClampNeg = a.toNat := by show (Int32.ofInt a).toInt.toNat = _; rw [hA]
  refine ry_step hi rfl (fun kd => ?_) k
  have e1 : ¬ c.toNat = 30000 := by omega
  have e2 : ¬ c.toNat = 40000 := by omega
  have e3 : (c.toNat < (ym M N).1 ∧ (xkind c.toNat).1 = 0) ∧ 0 ≤ (Int32.ofInt a).toInt ∧ (Int32.ofInt a).toInt < ((xkind c.toNat).2 : Int) := by
    rw [h2, hA]
    exact ⟨⟨h1, rfl⟩, ha.1, ha.2⟩
  simp only [xs1, List.map_cons, yv, if_neg e1, if_neg e2, if_pos e3, hl]
  show some (_, _, Value.int (Int32.ofInt (M ((c.toNat : Nat) : Int) ((a.toNat : Nat) : Int))) :: _, _) = _
  rw [Int.toNat_of_nonneg hc.1, Int.toNat_of_nonneg ha.1]
theorem r_iast {c a v : Int} {n : Nat} (hi : xi mi pc = some (.iastore, rs, wp)) (hc : 0 ≤ c ∧ c < 94) (hk : yk c = (0, n)) (hn : n < 100000) (ha : 0 ≤ a ∧ a < n) (k : ry S d mi (pc + 1) ls st (yu M c a v) N Q) : ry S d mi pc ls (.inl v :: .inl a :: .inr (.inr c) :: st) M N Q := by
  have hA : (Int32.ofInt a).toInt = a := t32 (by omega)
  have h1 := ycell hc
  have h2 : xkind c.toNat = (0, n) := by rw [yk_eq hc.1, hk]
  have hl : (Int32.ofInt a).toNatClampNeg = a.toNat := by show (Int32.ofInt a).toInt.toNat = _; rw [hA]
  refine ry_step hi rfl (fun kd => ?_) k
  have e3 : (c.toNat < (ym M N).1 ∧ (xkind c.toNat).1 = 0) ∧ 0 ≤ (Int32.ofInt a).toInt ∧ (Int32.ofInt a).toInt < ((xkind c.toNat).2 : Int) := by
    rw [h2, hA]
    exact ⟨⟨h1, rfl⟩, ha.1, ha.2⟩
  rw [ym_put hc.1 ha.1]
  simp only [xs1, List.map_cons, yv, if_pos e3, hl]
  rfl
theorem r_iabove {a : Int} (hi : xi mi pc = some (.iaload, rs, wp)) (ha : 0 ≤ a ∧ a < 6) (k : ry S d mi (pc + 1) ls (.inl (xabove.getD a.toNat 0).toInt :: st) M N Q) : ry S d mi pc ls (.inl a :: .inr (.inr 30000) :: st) M N Q := by
  have hA : (Int32.ofInt a).toInt = a := t32 (by omega)
  have hl : (Int32.ofInt a).toNatClampNeg = a.toNat := by show (Int32.ofInt a).toInt.toNat = _; rw [hA]
  refine ry_step hi rfl (fun kd => ?_) k
  have e3 : 0 ≤ (Int32.ofInt a).toInt ∧ (Int32.ofInt a).toInt < ((6 : Nat) : Int) := by rw [hA]; omega
  have e1 : (30000 : Int).toNat = 30000 := rfl
  simp only [xs1, List.map_cons, yv, e1, if_true, if_pos e3, hl, Int32.ofInt_toInt]
theorem r_iscr {a : Int} (hi : xi mi pc = some (.iaload, rs, wp)) (ha : 0 ≤ a ∧ a < S.1) (hs : S.1 < 100000) (k : ry S d mi (pc + 1) ls (.inl (S.2 a.toNat).toInt :: st) M N Q) : ry S d mi pc ls (.inl a :: .inr (.inr 40000) :: st) M N Q := by
  have hA : (Int32.ofInt a).toInt = a := t32 (by omega)
  have hl : (Int32.ofInt a).toNatClampNeg = a.toNat := by show (Int32.ofInt a).toInt.toNat = _; rw [hA]
  refine ry_step hi rfl (fun kd => ?_) k
  have e3 : 0 ≤ (Int32.ofInt a).toInt ∧ (Int32.ofInt a).toInt < (S.1 : Int) := by rw [hA]; omega
  have e1 : (40000 : Int).toNat = 40000 := rfl
  have e2 : ¬ (40000 : Nat) = 30000 := by decide
  simp only [xs1, List.map_cons, yv, e1, if_neg e2, if_true, if_pos e3, hl, Int32.ofInt_toInt]
theorem r_slen (hi : xi mi pc = some (.arraylength, rs, wp)) (k : ry S d mi (pc + 1) ls (.inl (S.1 : Int) :: st) M N Q) : ry S d mi pc ls (.inr (.inr 40000) :: st) M N Q := by
  refine ry_step hi rfl (fun kd => ?_) k
  have e1 : (40000 : Int).toNat = 40000 := rfl
  simp only [xs1, List.map_cons, yv, e1, if_true]
  rw [Int32.ofInt_eq_ofNat]
theorem r_alen {c : Int} {kd n : Nat} (hi : xi mi pc = some (.arraylength, rs, wp)) (hc : 0 ≤ c ∧ c < 94) (hk : yk c = (kd, n)) (hkd : kd < 200) (k : ry S d mi (pc + 1) ls (.inl (n : Int) :: st) M N Q) : ry S d mi pc ls (.inr (.inr c) :: st) M N Q := by
  have h1 := ycell hc
  have h2 : xkind c.toNat = (kd, n) := by rw [yk_eq hc.1, hk]
  refine ry_step hi rfl (fun _ => ?_) k
  have e1 : ¬ c.toNat = 40000 := by omega
  have e2 : ¬ (20000 ≤ c.toNat ∧ c.toNat < 20000 + xSTR.length) := by omega
  have e3 : c.toNat < (ym M N).1 ∧ (xkind c.toNat).1 < 200 := by rw [h2]; exact ⟨h1, hkd⟩
  simp only [xs1, List.map_cons, yv, if_neg e1, if_neg e2, if_pos e3]
  rw [h2, Int32.ofInt_eq_ofNat]
theorem r_aald {c a r : Int} {kd n : Nat} (hi : xi mi pc = some (.aaload, rs, wp)) (hc : 0 ≤ c ∧ c < 94) (hk : yk c = (kd, n)) (hkd : 100 ≤ kd ∧ kd < 200) (hn : n < 100000) (ha : 0 ≤ a ∧ a < n) (hr : xRF c.toNat a.toNat = some r.toNat) (k : ry S d mi (pc + 1) ls (.inr (.inr r) :: st) M N Q) : ry S d mi pc ls (.inl a :: .inr (.inr c) :: st) M N Q := by
  have hA : (Int32.ofInt a).toInt = a := t32 (by omega)
  have h1 := ycell hc
  have h2 : xkind c.toNat = (kd, n) := by rw [yk_eq hc.1, hk]
  have hl : (Int32.ofInt a).toNatClampNeg = a.toNat := by show (Int32.ofInt a).toInt.toNat = _; rw [hA]
  refine ry_step hi rfl (fun _ => ?_) k
  have e3 : (c.toNat < (ym M N).1 ∧ 100 ≤ (xkind c.toNat).1 ∧ (xkind c.toNat).1 < 200) ∧ 0 ≤ (Int32.ofInt a).toInt ∧ (Int32.ofInt a).toInt < ((xkind c.toNat).2 : Int) := by
    rw [h2, hA]
    exact ⟨⟨h1, hkd.1, hkd.2⟩, ha.1, ha.2⟩
  have e4 : (ym M N).2.2.2 c.toNat a.toNat = some r.toNat := hr
  simp only [xs1, List.map_cons, yv, if_pos e3, hl, e4]
/-- fields of a cell that is told by a kind alone -/
theorem r_getf {idx ci fk : Nat} {c : Int} {n : Nat} (fi : Int) (hfi : (fk : Int) = fi) (hi : xi mi pc = some (.getfield idx, rs, wp)) (hrs : rs ≠ 900 ∧ rs ≠ 901) (hf : xFT[rs]? = some (ci, fk)) (hfk : (xfk ci fk).1 = 0 ∨ (xfk ci fk).1 = 3) (hc : 0 ≤ c ∧ c < 94) (hk : yk c = (200 + ci, n)) (k : ry S d mi (pc + 3) ls (.inl (M c fi) :: st) M N Q) : ry S d mi pc ls (.inr (.inr c) :: st) M N Q := by
  subst hfi
  have h1 := ycell hc
  have h2 : (xkind c.toNat).1 = 200 + ci := by rw [yk_eq hc.1, hk]
  refine ry_step hi rfl (fun _ => ?_) k
  have e3 : c.toNat < (ym M N).1 ∧ (xkind c.toNat).1 = 200 + ci := ⟨h1, h2⟩
  have e4 : xget (ym M N) c.toNat ci fk = some (.int (Int32.ofInt (M c fk))) := by
    unfold xget
    rcases hfk with h | h <;> rw [h] <;> (show some (Value.int (Int32.ofInt (M ((c.toNat : Nat) : Int) _))) = _; rw [Int.toNat_of_nonneg hc.1])
  simp only [xs1, List.map_cons, yv, if_neg hrs.1, if_neg hrs.2, hf, if_pos e3, e4]
theorem r_getr {idx ci fk : Nat} {c r : Int} {n : Nat} (hi : xi mi pc = some (.getfield idx, rs, wp)) (hrs : rs ≠ 900 ∧ rs ≠ 901) (hf : xFT[rs]? = some (ci, fk)) (hfk : (xfk ci fk).1 = 2) (hc : 0 ≤ c ∧ c < 94) (hk : yk c = (200 + ci, n)) (hr : xRF c.toNat fk = some r.toNat) (k : ry S d mi (pc + 3) ls (.inr (.inr r) :: st) M N Q) : ry S d mi pc ls (.inr (.inr c) :: st) M N Q := by
  have h1 := ycell hc
  have h2 : (xkind c.toNat).1 = 200 + ci := by rw [yk_eq hc.1, hk]
  refine ry_step hi rfl (fun _ => ?_) k
  have e3 : c.toNat < (ym M N).1 ∧ (xkind c.toNat).1 = 200 + ci := ⟨h1, h2⟩
  have e4 : xget (ym M N) c.toNat ci fk = some (.ref r.toNat) := by
    unfold xget
    rw [hfk]
    show some (va_rf (xRF _ _)) = _
    rw [hr]
    rfl
  simp only [xs1, List.map_cons, yv, if_neg hrs.1, if_neg hrs.2, hf, if_pos e3, e4]
theorem r_putf {idx ci fk : Nat} {c v : Int} {n : Nat} (fi : Int) (hfi : (fk : Int) = fi) (hi : xi mi pc = some (.putfield idx, rs, wp)) (hf : xFT[rs]? = some (ci, fk)) (hfk : xfk ci fk = (0, false) ∨ (xfk ci fk = (3, false) ∧ (v = 0 ∨ v = 1))) (hc : 0 ≤ c ∧ c < 94) (hk : yk c = (200 + ci, n)) (k : ry S d mi (pc + 3) ls st (yu M c fi v) N Q) : ry S d mi pc ls (.inl v :: .inr (.inr c) :: st) M N Q := by
  subst hfi
  have h1 := ycell hc
  have h2 : (xkind c.toNat).1 = 200 + ci := by rw [yk_eq hc.1, hk]
  refine ry_step hi rfl (fun kd => ?_) k
  have e0 : (xfk ci fk).2 = false := by
    rcases hfk with h | h
    · rw [h]
    · rw [h.1]
  have e3 : c.toNat < (ym M N).1 ∧ (xkind c.toNat).1 = 200 + ci ∧ ((xfk ci fk).2 = false ∨ kd = 200 + ci) := ⟨h1, h2, Or.inl e0⟩
  have e4 : xput (ym M N) c.toNat ci fk (.int (Int32.ofInt v)) = some (ym (yu M c fk v) N) := by
    rw [ym_put hc.1 (Int.natCast_nonneg _)]
    unfold xput
    rcases hfk with h | h
    · rw [h]; rfl
    · rw [h.1]
      rcases h.2 with rfl | rfl
      · rfl
      · rfl
  simp only [xs1, List.map_cons, yv, hf, if_pos e3, e4]
theorem r_idiv {a b : Int} (hi : xi mi pc = some (.idiv, rs, wp)) (ha : 0 ≤ a ∧ a < 2147483648) (hb : 0 < b ∧ b < 2147483648) (k : ry S d mi (pc + 1) ls (.inl (a / b) :: st) M N Q) : ry S d mi pc ls (.inl b :: .inl a :: st) M N Q := by
  have hA := t32 (a := a) (by omega)
  have hB := t32 (a := b) (by omega)
  have h0 : ¬ Int32.ofInt b = 0 := fun h => by
    rw [h] at hB
    have : (0 : Int32).toInt = 0 := by decide
    omega
  have hd : 0 ≤ a / b ∧ a / b ≤ a := ⟨Int.ediv_nonneg ha.1 (by omega), Int.ediv_le_self b ha.1⟩
  have hq : Int32.ofInt a / Int32.ofInt b = Int32.ofInt (a / b) := Int32.toInt_inj.mp (by
    rw [Int32.toInt_div, hA, hB, Int.tdiv_eq_ediv_of_nonneg ha.1, t32 (by omega)]
    exact Int.bmod_eq_of_le (by omega) (by omega))
  exact ry_step hi rfl (fun _ => by simp only [xs1, List.map_cons, yv, if_neg h0, hq]) k
theorem r_irem {a b : Int} (hi : xi mi pc = some (.irem, rs, wp)) (ha : 0 ≤ a ∧ a < 2147483648) (hb : 0 < b ∧ b < 2147483648) (k : ry S d mi (pc + 1) ls (.inl (a % b) :: st) M N Q) : ry S d mi pc ls (.inl b :: .inl a :: st) M N Q := by
  have hA := t32 (a := a) (by omega)
  have hB := t32 (a := b) (by omega)
  have h0 : ¬ Int32.ofInt b = 0 := fun h => by
    rw [h] at hB
    have : (0 : Int32).toInt = 0 := by decide
    omega
  have hd : 0 ≤ a / b ∧ a / b ≤ a := ⟨Int.ediv_nonneg ha.1 (by omega), Int.ediv_le_self b ha.1⟩
  have hq : Int32.ofInt a / Int32.ofInt b = Int32.ofInt (a / b) := Int32.toInt_inj.mp (by
    rw [Int32.toInt_div, hA, hB, Int.tdiv_eq_ediv_of_nonneg ha.1, t32 (by omega)]
    exact Int.bmod_eq_of_le (by omega) (by omega))
  have hm : Int32.ofInt a - Int32.ofInt a / Int32.ofInt b * Int32.ofInt b = Int32.ofInt (a % b) := by
    rw [hq, ← Int32.ofInt_mul, ← Int32.ofInt_sub, Int.emod_def, Int.mul_comm]
  exact ry_step hi rfl (fun _ => by simp only [xs1, List.map_cons, yv, if_neg h0, hm]) k
theorem ldiv_eq {a b : Int} (ha : 0 ≤ a ∧ a < 9223372036854775808) (hb : 0 < b ∧ b < 9223372036854775808) : ¬ Int64.ofInt b = 0 ∧ Int64.ofInt a / Int64.ofInt b = Int64.ofInt (a / b) := by
  have hA := t64 (a := a) (by omega)
  have hB := t64 (a := b) (by omega)
  have hd : 0 ≤ a / b ∧ a / b ≤ a := ⟨Int.ediv_nonneg ha.1 (by omega), Int.ediv_le_self b ha.1⟩
  refine ⟨fun h => by
    rw [h] at hB
    have : (0 : Int64).toInt = 0 := by decide
    omega, Int64.toInt_inj.mp (by
    rw [Int64.toInt_div, hA, hB, Int.tdiv_eq_ediv_of_nonneg ha.1, t64 (by omega)]
    exact Int.bmod_eq_of_le (by omega) (by omega))⟩
theorem r_ldiv {a b : Int} (hi : xi mi pc = some (.ldiv, rs, wp)) (ha : 0 ≤ a ∧ a < 9223372036854775808) (hb : 0 < b ∧ b < 9223372036854775808) (k : ry S d mi (pc + 1) ls (.inr (.inl (a / b)) :: st) M N Q) : ry S d mi pc ls (.inr (.inl b) :: .inr (.inl a) :: st) M N Q := by
  obtain ⟨h0, hq⟩ := ldiv_eq ha hb
  exact ry_step hi rfl (fun _ => by simp only [xs1, List.map_cons, yv, if_neg h0, hq]) k
theorem r_lrem {a b : Int} (hi : xi mi pc = some (.lrem, rs, wp)) (ha : 0 ≤ a ∧ a < 9223372036854775808) (hb : 0 < b ∧ b < 9223372036854775808) (k : ry S d mi (pc + 1) ls (.inr (.inl (a % b)) :: st) M N Q) : ry S d mi pc ls (.inr (.inl b) :: .inr (.inl a) :: st) M N Q := by
  obtain ⟨h0, hq⟩ := ldiv_eq ha hb
  have hm : Int64.ofInt a - Int64.ofInt a / Int64.ofInt b * Int64.ofInt b = Int64.ofInt (a % b) := by
    rw [hq, ← Int64.ofInt_mul, ← Int64.ofInt_sub, Int.emod_def, Int.mul_comm]
  exact ry_step hi rfl (fun _ => by simp only [xs1, List.map_cons, yv, if_neg h0, hm]) k
theorem r_i2l {a : Int} (hi : xi mi pc = some (.i2l, rs, wp)) (ha : -2147483648 ≤ a ∧ a < 2147483648) (k : ry S d mi (pc + 1) ls (.inr (.inl a) :: st) M N Q) : ry S d mi pc ls (.inl a :: st) M N Q := by
  have hq : (Int32.ofInt a).toInt64 = Int64.ofInt a := Int64.toInt_inj.mp (by rw [Int32.toInt_toInt64, t32 ha, t64 (by omega)])
  exact ry_step hi rfl (fun _ => by simp only [xs1, xs0, List.map_cons, yv, hq]; rfl) k
theorem r_lcmp {a b : Int} (hi : xi mi pc = some (.lcmp, rs, wp)) (ha : -9223372036854775808 ≤ a ∧ a < 9223372036854775808) (hb : -9223372036854775808 ≤ b ∧ b < 9223372036854775808) (k : ∀ v : Int, (v = -1 ∧ a < b) ∨ (v = 0 ∧ a = b) ∨ (v = 1 ∧ b < a) → ry S d mi (pc + 1) ls (.inl v :: st) M N Q) : ry S d mi pc ls (.inr (.inl b) :: .inr (.inl a) :: st) M N Q := by
  have hA := t64 ha
  have hB := t64 hb
  have hx : ∃ v : Int, ((v = -1 ∧ a < b) ∨ (v = 0 ∧ a = b) ∨ (v = 1 ∧ b < a)) ∧ lg_cmp (Int64.ofInt a) (Int64.ofInt b) = Int32.ofInt v := by
    unfold lg_cmp
    by_cases h1 : a < b
    · refine ⟨-1, Or.inl ⟨rfl, h1⟩, ?_⟩
      rw [if_neg (by rw [gt_iff_lt, Int64.lt_iff_toInt_lt, hA, hB]; omega), if_neg (by rw [← Int64.toInt_inj, hA, hB]; omega)]
      decide
    · by_cases h2 : a = b
      · refine ⟨0, Or.inr (Or.inl ⟨rfl, h2⟩), ?_⟩
        rw [if_neg (by rw [gt_iff_lt, Int64.lt_iff_toInt_lt, hA, hB]; omega), if_pos (by rw [h2])]
        decide
      · refine ⟨1, Or.inr (Or.inr ⟨rfl, by omega⟩), ?_⟩
        rw [if_pos (by rw [gt_iff_lt, Int64.lt_iff_toInt_lt, hA, hB]; omega)]
        decide
  obtain ⟨v, h1, h2⟩ := hx
  exact ry_step hi rfl (fun _ => by simp only [xs1, List.map_cons, yv, h2]) (k v h1)
end YR
end
section
/-! ends and calls -/
theorem yl_locs : ∀ as : List YV, yo (ylocs as) = xlocs (as.map yv)
  | [] => rfl
  | .inl a :: r => by
    show some (yv (.inl a)) :: yo (ylocs r) = xlocs (yv (.inl a) :: r.map yv)
    rw [yl_locs r]
    rfl
  | .inr (.inl a) :: r => by
    show some (yv (.inr (.inl a))) :: none :: yo (ylocs r) = xlocs (yv (.inr (.inl a)) :: r.map yv)
    rw [yl_locs r]
    rfl
  | .inr (.inr a) :: r => by
    show some (yv (.inr (.inr a))) :: yo (ylocs r) = xlocs (yv (.inr (.inr a)) :: r.map yv)
    rw [yl_locs r]
    rfl
theorem yl_pad (n : Nat) (as : List YV) : yo (ypad n (ylocs as)) = xpad n (xlocs (as.map yv)) := by
  unfold ypad xpad
  rw [← yl_locs]
  unfold yo
  rw [List.map_append, List.map_replicate, List.length_map]
  rfl
theorem yl_len (as : List YV) : (xlocs (as.map yv)).length = (ylocs as).length := by
  rw [← yl_locs, yo_len]
def ycats (l : List YV) : Nat := ((l.map yv).map fun v => v.category).sum
section YC
variable {S : XS} {d mi pc rs wp : Nat} {ls : YL} {st : List YV} {M N : YM} {Q : Option YV → YM → YM → Prop}
theorem ry_ret {i : Instr} {e : XMe} {r : Option YV} (hm : xme mi = some e) (hi : xi mi pc = some (i, rs, wp)) (h0 : ¬ xcl i = 0) (h1 : xcl i = 1) (hx : xret i e.2.2.2.2.1 (st.map yv) = some (r.map yv)) (k : Q r M N) : ry S d mi pc ls st M N Q := by
  refine ⟨1, r, M, N, ?_, k⟩
  unfold xexec
  rw [hm, hi]
  dsimp only
  rw [if_neg h0, if_pos h1, hx]
  rfl
theorem r_iret {e : XMe} {v : Int} (hm : xme mi = some e) (hr : e.2.2.2.2.1 = some .int) (hi : xi mi pc = some (.ireturn, rs, wp)) (k : Q (some (.inl v)) M N) : ry S d mi pc ls [.inl v] M N Q := by
  refine ry_ret hm hi (by decide) rfl ?_ k
  rw [hr]
  show (if narrow .int (.int (Int32.ofInt v)) = .int (Int32.ofInt v) then some (some (Value.int (Int32.ofInt v))) else none) = _
  rw [if_pos (show narrow .int (.int (Int32.ofInt v)) = .int (Int32.ofInt v) from rfl)]
  rfl
theorem r_zret {e : XMe} {v : Int} (hm : xme mi = some e) (hr : e.2.2.2.2.1 = some .boolean) (hi : xi mi pc = some (.ireturn, rs, wp)) (hv : v = 0 ∨ v = 1) (k : Q (some (.inl v)) M N) : ry S d mi pc ls [.inl v] M N Q := by
  refine ry_ret hm hi (by decide) rfl ?_ k
  rw [hr]
  rcases hv with rfl | rfl <;> rfl
theorem r_lret {e : XMe} {v : Int} (hm : xme mi = some e) (hr : e.2.2.2.2.1 = some .long) (hi : xi mi pc = some (.lreturn, rs, wp)) (k : Q (some (.inr (.inl v))) M N) : ry S d mi pc ls [.inr (.inl v)] M N Q := by
  refine ry_ret hm hi (by decide) rfl ?_ k
  rw [hr]
  rfl
theorem r_vret {e : XMe} (hm : xme mi = some e) (hr : e.2.2.2.2.1 = none) (hi : xi mi pc = some (.return_, rs, wp)) (k : Q none M N) : ry S d mi pc ls [] M N Q := by
  refine ry_ret hm hi (by decide) rfl (r := none) ?_ k
  rw [hr]
  rfl
theorem rm_deep {d2 mj : Nat} {as : List YV} (h : d ≤ d2) (k : rm S d mj as M N Q) : rm S d2 mj as M N Q := by
  obtain ⟨e, h1, h2, h3⟩ := k
  exact ⟨e, h1, h2, r_deep h h3⟩
theorem rm_post {mj : Nat} {as : List YV} {Q2 : Option YV → YM → YM → Prop} (k : rm S d mj as M N Q) (h : ∀ r M' N', Q r M' N' → Q2 r M' N') : rm S d mj as M N Q2 := by
  obtain ⟨e, h1, h2, h3⟩ := k
  exact ⟨e, h1, h2, r_post h3 h⟩
theorem ry_call {i : Instr} {mj dc : Nat} {e : XMe} {as rest : List YV} {Qc : Option YV → YM → YM → Prop} (hi : xi mi pc = some (i, rs, wp)) (h0 : ¬ xcl i = 0) (h1 : ¬ xcl i = 1) (hrs : rs ≠ 8888 ∧ rs ≠ 9999 ∧ rs ≠ 9997 ∧ rs ≠ 9998) (hm : xme mj = some e) (hv : (ylocs as).length ≤ e.2.2.2.1 → xinv i rs (st.map yv) (ym M N) = some (mj, e, as.map yv, rest.map yv)) (hd : dc < d) (hc : rm S dc mj as M N Qc)
    (kk : ∀ r M' N', Qc r M' N' → ry S d mi (pc + 3) ls (r.toList ++ rest) M' N' Q) : ry S d mi pc ls st M N Q := by
  obtain ⟨e', hm', hlen, n1, r1, M1, N1, hx1, hq1⟩ := hc
  have he : e' = e := Option.some.inj (hm'.symm.trans hm)
  subst he
  obtain ⟨n2, r2, M2, N2, hx2, hq2⟩ := kk r1 M1 N1 hq1
  obtain ⟨em, hem⟩ := xme_of_xi hi
  obtain ⟨d', rfl⟩ : ∃ d', d = d' + 1 := ⟨d - 1, by omega⟩
  refine ⟨n1 + n2 + 1, r2, M2, N2, ?_, hq2⟩
  unfold xexec
  rw [hem, hi]
  dsimp only
  rw [if_neg h0, if_neg h1, if_neg hrs.1, if_neg hrs.2.1, if_neg hrs.2.2.1, if_neg hrs.2.2.2, hv hlen]
  dsimp only
  rw [yl_pad] at hx1
  have hx1' := xexec_mono S n1 dc mj 0 _ _ _ _ hx1 n2 d' (by omega)
  rw [show ([] : List YV).map yv = [] from rfl] at hx1'
  rw [hx1']
  dsimp only
  rw [if_pos (show (ym M1 N1).1 = (ym M N).1 ∨ _ from Or.inl rfl)]
  have hx2' := xexec_mono S n2 (d' + 1) mi (pc + 3) _ _ _ _ hx2 n1 (d' + 1) (Nat.le_refl _)
  rw [List.map_append, Nat.add_comm n2 n1] at hx2'
  rw [show (r1.map yv).toList = r1.toList.map yv by cases r1 <;> rfl]
  exact hx2'
theorem yinv {i : Instr} {mj : Nat} {e : XMe} {as rest : List YV} (hm : xme mj = some e) (hmj : rs % 10000 = mj) (hrs : rs < 20000) (hst : st = as.reverse ++ rest) (hn : as.length = xnar e) (hcat : ycats rest ≤ 8) (hlen : (ylocs as).length ≤ e.2.2.2.1) (hcond : xcnd i e (ym M N) (((st.map yv).drop (xnar e - 1)).headD .null) = true) : xinv i rs (st.map yv) (ym M N) = some (mj, e, as.map yv, rest.map yv) := by
  have hl : (as.reverse.map yv).length = xnar e := by simp [hn]
  have h1 : st.map yv = as.reverse.map yv ++ rest.map yv := by rw [hst, List.map_append]
  have ht : (st.map yv).take (xnar e) = as.reverse.map yv := by rw [h1, ← hl, List.take_left]
  have hd : (st.map yv).drop (xnar e) = rest.map yv := by rw [h1, ← hl, List.drop_left]
  have hr : (as.reverse.map yv).reverse = as.map yv := by rw [List.map_reverse, List.reverse_reverse]
  unfold xinv
  rw [hmj, hm]
  dsimp only
  have hc : xinvc i rs (st.map yv) (ym M N) e = true := by
    unfold xinvc
    rw [ht, hd, hr, hcond, Bool.and_true]
    simp only [Bool.and_eq_true, decide_eq_true_eq]
    refine ⟨⟨⟨hrs, by rw [h1, List.length_append, hl]; omega⟩, hcat⟩, by rw [yl_len]; exact hlen⟩
  rw [if_pos hc, ht, hd, hr]
theorem r_static {k mj dc : Nat} {e : XMe} {as rest : List YV} {Qc : Option YV → YM → YM → Prop} (hi : xi mi pc = some (.invokestatic k, rs, wp)) (hrs : rs < 20000 ∧ rs ≠ 8888 ∧ rs ≠ 9999 ∧ rs ≠ 9997 ∧ rs ≠ 9998) (hmj : rs % 10000 = mj) (hm : xme mj = some e) (hk : e.2.2.2.2.2.1 = 0) (hst : st = as.reverse ++ rest) (hn : as.length = xnar e) (hcat : ycats rest ≤ 8) (hd : dc < d) (hc : rm S dc mj as M N Qc)
    (kk : ∀ r M' N', Qc r M' N' → ry S d mi (pc + 3) ls (r.toList ++ rest) M' N' Q) : ry S d mi pc ls st M N Q :=
  ry_call hi (show ¬ (2 : Nat) = 0 by decide) (show ¬ (2 : Nat) = 1 by decide) hrs.2 hm (fun hlen => yinv hm hmj hrs.1 hst hn hcat hlen (by unfold xcnd; exact decide_eq_true hk)) hd hc kk
theorem yrecv_head {as rest : List YV} {b : Int} (hst : st = (.inr (.inr b) :: as).reverse ++ rest) {n : Nat} (hn : as.length + 1 = n) : ((st.map yv).drop (n - 1)).headD .null = .ref b.toNat := by
  rw [hst, List.reverse_cons, List.append_assoc, List.map_append]
  have hl : (as.reverse.map yv).length = n - 1 := by simp; omega
  rw [← hl, List.drop_left]
  rfl
theorem r_virtual {k mj dc : Nat} {e : XMe} {b : Int} {as rest : List YV} {Qc : Option YV → YM → YM → Prop} (hi : xi mi pc = some (.invokevirtual k, rs, wp)) (hrs : rs < 20000 ∧ rs ≠ 8888 ∧ rs ≠ 9999 ∧ rs ≠ 9997 ∧ rs ≠ 9998) (hmj : rs % 10000 = mj) (hm : xme mj = some e) (hk : 100 ≤ e.2.2.2.2.2.1 ∧ e.2.2.2.2.2.1 < 200 ∧ e.2.2.2.2.2.1 ≠ 150) (hb : 0 ≤ b ∧ b < 94) (hbk : (yk b).1 = e.2.2.2.2.2.1 + 100) (hst : st = (.inr (.inr b) :: as).reverse ++ rest) (hn : as.length + 1 = xnar e) (hcat : ycats rest ≤ 8) (hd : dc < d) (hc : rm S dc mj (.inr (.inr b) :: as) M N Qc)
    (kk : ∀ r M' N', Qc r M' N' → ry S d mi (pc + 3) ls (r.toList ++ rest) M' N' Q) : ry S d mi pc ls st M N Q := by
  refine ry_call hi (show ¬ (2 : Nat) = 0 by decide) (show ¬ (2 : Nat) = 1 by decide) hrs.2 hm (fun hlen => yinv hm hmj hrs.1 hst (by rw [List.length_cons]; exact hn) hcat hlen ?_) hd hc kk
  rw [yrecv_head hst hn]
  unfold xcnd xrecv
  dsimp only
  rw [if_neg hk.2.2, if_neg (by omega)]
  have h2 : (xkind b.toNat).1 = e.2.2.2.2.2.1 + 100 := by rw [yk_eq hb.1, hbk]
  have h3 : b.toNat < (ym M N).1 := ycell hb
  simp only [Bool.and_eq_true, decide_eq_true_eq]
  exact ⟨⟨hk.1, hk.2.1⟩, ⟨hk.1, h3⟩, h2⟩
theorem r_vstring {k mj dc : Nat} {e : XMe} {b : Int} {as rest : List YV} {Qc : Option YV → YM → YM → Prop} (hi : xi mi pc = some (.invokevirtual k, rs, wp)) (hrs : rs < 20000 ∧ rs ≠ 8888 ∧ rs ≠ 9999 ∧ rs ≠ 9997 ∧ rs ≠ 9998) (hmj : rs % 10000 = mj) (hm : xme mj = some e) (hk : e.2.2.2.2.2.1 = 150) (hb : 10000 ≤ b ∧ b < 10008) (hst : st = (.inr (.inr b) :: as).reverse ++ rest) (hn : as.length + 1 = xnar e) (hcat : ycats rest ≤ 8) (hd : dc < d) (hc : rm S dc mj (.inr (.inr b) :: as) M N Qc)
    (kk : ∀ r M' N', Qc r M' N' → ry S d mi (pc + 3) ls (r.toList ++ rest) M' N' Q) : ry S d mi pc ls st M N Q := by
  refine ry_call hi (show ¬ (2 : Nat) = 0 by decide) (show ¬ (2 : Nat) = 1 by decide) hrs.2 hm (fun hlen => yinv hm hmj hrs.1 hst (by rw [List.length_cons]; exact hn) hcat hlen ?_) hd hc kk
  rw [yrecv_head hst hn]
  unfold xcnd xrecv
  dsimp only
  have h8 := xSTR_len
  rw [hk, if_pos rfl]
  simp only [Bool.and_eq_true, decide_eq_true_eq]
  have hb2 : 10000 ≤ b.toNat ∧ b.toNat < 10000 + xSTR.length := by rw [h8]; omega
  exact ⟨⟨by decide, by decide⟩, hb2⟩
theorem r_max {a b : Int} {k : Nat} (hi : xi mi pc = some (.invokestatic k, 9997, wp)) (ha : -2147483648 ≤ a ∧ a < 2147483648) (hb : -2147483648 ≤ b ∧ b < 2147483648) (hcat : ycats st ≤ 8) (hd : 0 < d) (kk : ∀ v : Int, (v = b ∧ a < b) ∨ (v = a ∧ b ≤ a) → ry S d mi (pc + 3) ls (.inl v :: st) M N Q) : ry S d mi pc ls (.inl b :: .inl a :: st) M N Q := by
  obtain ⟨em, hem⟩ := xme_of_xi hi
  obtain ⟨d', rfl⟩ : ∃ d', d = d' + 1 := ⟨d - 1, by omega⟩
  have hv : ∃ v : Int, ((v = b ∧ a < b) ∨ (v = a ∧ b ≤ a)) ∧ (if Int32.ofInt a < Int32.ofInt b then Int32.ofInt b else Int32.ofInt a) = Int32.ofInt v := by
    by_cases h : a < b
    · exact ⟨b, Or.inl ⟨rfl, h⟩, by rw [if_pos (by rw [Int32.lt_iff_toInt_lt, t32 ha, t32 hb]; exact h)]⟩
    · exact ⟨a, Or.inr ⟨rfl, by omega⟩, by rw [if_neg (by rw [Int32.lt_iff_toInt_lt, t32 ha, t32 hb]; exact h)]⟩
  obtain ⟨v, hv1, hv2⟩ := hv
  obtain ⟨n2, r2, M2, N2, hx2, hq2⟩ := kk v hv1
  refine ⟨n2 + 1, r2, M2, N2, ?_, hq2⟩
  unfold xexec
  rw [hem, hi]
  dsimp only
  have c0 : ¬ xcl (.invokestatic k) = 0 := show ¬ (2 : Nat) = 0 by decide
  have c1 : ¬ xcl (.invokestatic k) = 1 := show ¬ (2 : Nat) = 1 by decide
  rw [if_neg c0, if_neg c1, if_neg (by decide), if_neg (by decide), if_pos rfl]
  simp only [List.map_cons, yv]
  rw [if_pos (show ((st.map yv).map fun v => v.category).sum ≤ 8 from hcat), hv2]
  exact hx2
theorem r_min {a b : Int} {k : Nat} (hi : xi mi pc = some (.invokestatic k, 9998, wp)) (ha : -2147483648 ≤ a ∧ a < 2147483648) (hb : -2147483648 ≤ b ∧ b < 2147483648) (hcat : ycats st ≤ 8) (hd : 0 < d) (kk : ∀ v : Int, (v = b ∧ b < a) ∨ (v = a ∧ a ≤ b) → ry S d mi (pc + 3) ls (.inl v :: st) M N Q) : ry S d mi pc ls (.inl b :: .inl a :: st) M N Q := by
  obtain ⟨em, hem⟩ := xme_of_xi hi
  obtain ⟨d', rfl⟩ : ∃ d', d = d' + 1 := ⟨d - 1, by omega⟩
  have hv : ∃ v : Int, ((v = b ∧ b < a) ∨ (v = a ∧ a ≤ b)) ∧ (if Int32.ofInt b < Int32.ofInt a then Int32.ofInt b else Int32.ofInt a) = Int32.ofInt v := by
    by_cases h : b < a
    · exact ⟨b, Or.inl ⟨rfl, h⟩, by rw [if_pos (by rw [Int32.lt_iff_toInt_lt, t32 ha, t32 hb]; exact h)]⟩
    · exact ⟨a, Or.inr ⟨rfl, by omega⟩, by rw [if_neg (by rw [Int32.lt_iff_toInt_lt, t32 ha, t32 hb]; exact h)]⟩
  obtain ⟨v, hv1, hv2⟩ := hv
  obtain ⟨n2, r2, M2, N2, hx2, hq2⟩ := kk v hv1
  refine ⟨n2 + 1, r2, M2, N2, ?_, hq2⟩
  unfold xexec
  rw [hem, hi]
  dsimp only
  have c0 : ¬ xcl (.invokestatic k) = 0 := show ¬ (2 : Nat) = 0 by decide
  have c1 : ¬ xcl (.invokestatic k) = 1 := show ¬ (2 : Nat) = 1 by decide
  rw [if_neg c0, if_neg c1, if_neg (by decide), if_neg (by decide), if_neg (by decide), if_pos rfl]
  simp only [List.map_cons, yv]
  rw [if_pos (show ((st.map yv).map fun v => v.category).sum ≤ 8 from hcat), hv2]
  exact hx2
/-- arraycopy: n ints of cell b from sp on come to cell a's place dp -/
def ycopy (M : YM) (a b sp dp n : Int) : YM := fun c k => if c = a ∧ dp ≤ k ∧ k < dp + n then M b (sp + (k - dp)) else M c k
theorem r_copy {a b sp dp n : Int} {na nb k : Nat} (hi : xi mi pc = some (.invokestatic k, 9999, wp)) (ha : 0 ≤ a ∧ a < 94) (hb : 0 ≤ b ∧ b < 94) (hka : yk a = (0, na)) (hkb : yk b = (0, nb)) (hn : 0 ≤ n) (hsp : 0 ≤ sp ∧ sp + n ≤ nb) (hdp : 0 ≤ dp ∧ dp + n ≤ na) (hna : na < 100000) (hnb : nb < 100000) (hcat : ycats st ≤ 8) (hd : 0 < d) (kk : ry S d mi (pc + 3) ls st (ycopy M a b sp dp n) N Q) : ry S d mi pc ls (.inl n :: .inl dp :: .inr (.inr a) :: .inl sp :: .inr (.inr b) :: st) M N Q := by
  obtain ⟨em, hem⟩ := xme_of_xi hi
  obtain ⟨d', rfl⟩ : ∃ d', d = d' + 1 := ⟨d - 1, by omega⟩
  obtain ⟨n2, r2, M2, N2, hx2, hq2⟩ := kk
  refine ⟨n2 + 1, r2, M2, N2, ?_, hq2⟩
  have e1 := t32 (a := n) (by omega)
  have e2 := t32 (a := sp) (by omega)
  have e3 := t32 (a := dp) (by omega)
  have f1 : (Int32.ofInt n).toNatClampNeg = n.toNat := by show (Int32.ofInt n).toInt.toNat = _; rw [e1]
  have f2 : (Int32.ofInt sp).toNatClampNeg = sp.toNat := by show (Int32.ofInt sp).toInt.toNat = _; rw [e2]
  have f3 : (Int32.ofInt dp).toNatClampNeg = dp.toNat := by show (Int32.ofInt dp).toInt.toNat = _; rw [e3]
  have g1 : xkind a.toNat = (0, na) := by rw [yk_eq ha.1, hka]
  have g2 : xkind b.toNat = (0, nb) := by rw [yk_eq hb.1, hkb]
  have hcp : xcopy ((.inl n :: .inl dp :: .inr (.inr a) :: .inl sp :: .inr (.inr b) :: st : List YV).map yv) (ym M N) = some (st.map yv, ym (ycopy M a b sp dp n) N) := by
    unfold xcopy
    simp only [List.map_cons, yv]
    rw [if_pos (by
      rw [g1, g2, e1, e2, e3]
      exact ⟨⟨ycell ha, rfl⟩, ⟨ycell hb, rfl⟩, hsp.1, hdp.1, hn, hsp.2, hdp.2, hcat⟩), f1, f2, f3]
    congr 2
    unfold ym
    dsimp only
    congr 2
    funext c k
    unfold xur va_cpy ycopy
    by_cases hc : c = a.toNat
    · by_cases hk : dp.toNat ≤ k ∧ k < dp.toNat + n.toNat
      · rw [if_pos hc, if_pos hk, if_pos (by omega)]
        dsimp only
        rw [Int.toNat_of_nonneg hb.1, show ((sp.toNat + (k - dp.toNat) : Nat) : Int) = sp + ((k : Int) - dp) by omega]
      · rw [if_pos hc, if_neg hk, if_neg (by omega)]
        dsimp only
        rw [hc]
    · rw [if_neg hc, if_neg (by omega)]
  unfold xexec
  rw [hem, hi]
  dsimp only
  have c0 : ¬ xcl (.invokestatic k) = 0 := show ¬ (2 : Nat) = 0 by decide
  have c1 : ¬ xcl (.invokestatic k) = 1 := show ¬ (2 : Nat) = 1 by decide
  rw [if_neg c0, if_neg c1, if_neg (by decide), if_pos rfl, hcp]
  exact hx2
end YC
end
section
theorem m_1 : xme 1 = some xe_1 := rfl
theorem f_1_6 : xi 1 6 = some (.putfield 7, 0, 247) := rfl
theorem f_1_11 : xi 1 11 = some (.putfield 13, 1, 250) := rfl
theorem f_1_16 : xi 1 16 = some (.putfield 16, 2, 253) := rfl
theorem f_1_21 : xi 1 21 = some (.putfield 19, 3, 256) := rfl
theorem f_1_24 : xi 1 24 = some (.return_, 0, 0) := rfl
theorem m_2 : xme 2 = some xe_2 := rfl
theorem f_2_2 : xi 2 2 = some (.putfield 7, 0, 247) := rfl
theorem f_2_7 : xi 2 7 = some (.putfield 13, 1, 250) := rfl
theorem f_2_12 : xi 2 12 = some (.putfield 16, 2, 253) := rfl
theorem f_2_18 : xi 2 18 = some (.putfield 19, 3, 256) := rfl
theorem f_2_21 : xi 2 21 = some (.return_, 0, 0) := rfl
theorem m_3 : xme 3 = some xe_3 := rfl
theorem f_3_2 : xi 3 2 = some (.getfield 13, 1, 250) := rfl
theorem f_3_5 : xi 3 5 = some (.iaload, 0, 0) := rfl
theorem f_3_6 : xi 3 6 = some (.i2l, 0, 0) := rfl
theorem f_3_9 : xi 3 9 = some (.getfield 7, 0, 247) := rfl
theorem f_3_12 : xi 3 12 = some (.iaload, 0, 0) := rfl
theorem f_3_13 : xi 3 13 = some (.i2l, 0, 0) := rfl
theorem f_3_17 : xi 3 17 = some (.getfield 16, 2, 253) := rfl
theorem f_3_20 : xi 3 20 = some (.i2l, 0, 0) := rfl
theorem f_3_22 : xi 3 22 = some (.lcmp, 0, 0) := rfl
theorem f_3_23 : xi 3 23 = some (.ifCond .gt 17, 0, 0) := rfl
theorem f_3_28 : xi 3 28 = some (.getfield 19, 3, 256) := rfl
theorem f_3_31 : xi 3 31 = some (.i2l, 0, 0) := rfl
theorem f_3_32 : xi 3 32 = some (.lcmp, 0, 0) := rfl
theorem f_3_33 : xi 3 33 = some (.ifCond .gt 7, 0, 0) := rfl
theorem f_3_41 : xi 3 41 = some (.ireturn, 0, 0) := rfl
theorem m_4 : xme 4 = some xe_4 := rfl
theorem f_4_10 : xi 4 10 = some (.putfield 9, 4, 183) := rfl
theorem f_4_15 : xi 4 15 = some (.putfield 15, 5, 184) := rfl
theorem f_4_26 : xi 4 26 = some (.putfield 22, 6, 186) := rfl
theorem f_4_31 : xi 4 31 = some (.putfield 26, 7, 188) := rfl
theorem f_4_36 : xi 4 36 = some (.putfield 29, 8, 190) := rfl
theorem f_4_41 : xi 4 41 = some (.putfield 32, 9, 191) := rfl
theorem f_4_46 : xi 4 46 = some (.putfield 35, 10, 192) := rfl
theorem f_4_51 : xi 4 51 = some (.putfield 38, 11, 193) := rfl
theorem f_4_54 : xi 4 54 = some (.return_, 0, 0) := rfl
theorem m_5 : xme 5 = some xe_5 := rfl
theorem f_5_1 : xi 5 1 = some (.getfield 15, 5, 184) := rfl
theorem f_5_5 : xi 5 5 = some (.getfield 9, 4, 183) := rfl
theorem f_5_8 : xi 5 8 = some (.arraylength, 0, 0) := rfl
theorem f_5_9 : xi 5 9 = some (.if_icmp .ge 23, 0, 0) := rfl
theorem f_5_13 : xi 5 13 = some (.getfield 9, 4, 183) := rfl
theorem f_5_17 : xi 5 17 = some (.getfield 15, 5, 184) := rfl
theorem f_5_21 : xi 5 21 = some (.iastore, 0, 0) := rfl
theorem f_5_24 : xi 5 24 = some (.getfield 15, 5, 184) := rfl
theorem f_5_29 : xi 5 29 = some (.putfield 15, 5, 184) := rfl
theorem f_5_32 : xi 5 32 = some (.return_, 0, 0) := rfl
theorem m_6 : xme 6 = some xe_6 := rfl
theorem f_6_1 : xi 6 1 = some (.getfield 22, 6, 186) := rfl
theorem f_6_4 : xi 6 4 = some (.invokevirtual 41, 42, 344) := rfl
theorem f_6_9 : xi 6 9 = some (.putfield 38, 11, 193) := rfl
theorem f_6_14 : xi 6 14 = some (.putfield 29, 8, 190) := rfl
theorem f_6_18 : xi 6 18 = some (.invokevirtual 44, 15, 348) := rfl
theorem f_6_23 : xi 6 23 = some (.invokevirtual 47, 7, 438) := rfl
theorem f_6_26 : xi 6 26 = some (.ifCond .eq 30, 0, 0) := rfl
theorem f_6_31 : xi 6 31 = some (.invokevirtual 47, 7, 438) := rfl
theorem f_6_34 : xi 6 34 = some (.ifCond .eq 22, 0, 0) := rfl
theorem f_6_39 : xi 6 39 = some (.invokevirtual 47, 7, 438) := rfl
theorem f_6_42 : xi 6 42 = some (.ifCond .eq 14, 0, 0) := rfl
theorem f_6_46 : xi 6 46 = some (.getfield 32, 9, 191) := rfl
theorem f_6_49 : xi 6 49 = some (.ifCond .ne 7, 0, 0) := rfl
theorem f_6_60 : xi 6 60 = some (.putfield 15, 5, 184) := rfl
theorem f_6_64 : xi 6 64 = some (.ireturn, 0, 0) := rfl
theorem m_7 : xme 7 = some xe_7 := rfl
theorem f_7_1 : xi 7 1 = some (.getfield 32, 9, 191) := rfl
theorem f_7_8 : xi 7 8 = some (.if_icmp .eq 5, 0, 0) := rfl
theorem f_7_12 : xi 7 12 = some (.ireturn, 0, 0) := rfl
theorem f_7_14 : xi 7 14 = some (.invokevirtual 44, 15, 348) := rfl
theorem f_7_18 : xi 7 18 = some (.invokevirtual 51, 8, 442) := rfl
theorem f_7_21 : xi 7 21 = some (.ifCond .eq 12, 0, 0) := rfl
theorem f_7_25 : xi 7 25 = some (.getfield 32, 9, 191) := rfl
theorem f_7_30 : xi 7 30 = some (.if_icmp .eq 5, 0, 0) := rfl
theorem f_7_34 : xi 7 34 = some (.ireturn, 0, 0) := rfl
theorem f_7_36 : xi 7 36 = some (.invokevirtual 44, 15, 348) := rfl
theorem f_7_40 : xi 7 40 = some (.getfield 22, 6, 186) := rfl
theorem f_7_44 : xi 7 44 = some (.invokevirtual 55, 44, 474) := rfl
theorem f_7_48 : xi 7 48 = some (.ireturn, 0, 0) := rfl
theorem m_8 : xme 8 = some xe_8 := rfl
theorem f_8_1 : xi 8 1 = some (.invokevirtual 59, 9, 446) := rfl
theorem f_8_4 : xi 8 4 = some (.ifCond .ne 5, 0, 0) := rfl
theorem f_8_8 : xi 8 8 = some (.ireturn, 0, 0) := rfl
theorem f_8_15 : xi 8 15 = some (.if_icmp .ge 38, 0, 0) := rfl
theorem f_8_19 : xi 8 19 = some (.getfield 32, 9, 191) := rfl
theorem f_8_23 : xi 8 23 = some (.if_icmp .ne 30, 0, 0) := rfl
theorem f_8_27 : xi 8 27 = some (.invokevirtual 44, 15, 348) := rfl
theorem f_8_31 : xi 8 31 = some (.invokevirtual 59, 9, 446) := rfl
theorem f_8_34 : xi 8 34 = some (.ifCond .ne 5, 0, 0) := rfl
theorem f_8_38 : xi 8 38 = some (.ireturn, 0, 0) := rfl
theorem f_8_40 : xi 8 40 = some (.getfield 22, 6, 186) := rfl
theorem f_8_44 : xi 8 44 = some (.invokevirtual 62, 43, 458) := rfl
theorem f_8_54 : xi 8 54 = some (.ireturn, 0, 0) := rfl
theorem m_9 : xme 9 = some xe_9 := rfl
theorem f_9_1 : xi 9 1 = some (.invokevirtual 65, 10, 450) := rfl
theorem f_9_4 : xi 9 4 = some (.ifCond .ne 5, 0, 0) := rfl
theorem f_9_8 : xi 9 8 = some (.ireturn, 0, 0) := rfl
theorem f_9_15 : xi 9 15 = some (.if_icmp .ge 39, 0, 0) := rfl
theorem f_9_19 : xi 9 19 = some (.getfield 32, 9, 191) := rfl
theorem f_9_23 : xi 9 23 = some (.if_icmp .ne 31, 0, 0) := rfl
theorem f_9_27 : xi 9 27 = some (.invokevirtual 44, 15, 348) := rfl
theorem f_9_31 : xi 9 31 = some (.invokevirtual 65, 10, 450) := rfl
theorem f_9_34 : xi 9 34 = some (.ifCond .ne 5, 0, 0) := rfl
theorem f_9_38 : xi 9 38 = some (.ireturn, 0, 0) := rfl
theorem f_9_40 : xi 9 40 = some (.getfield 22, 6, 186) := rfl
theorem f_9_45 : xi 9 45 = some (.invokevirtual 62, 43, 458) := rfl
theorem f_9_55 : xi 9 55 = some (.ireturn, 0, 0) := rfl
theorem m_10 : xme 10 = some xe_10 := rfl
theorem f_10_1 : xi 10 1 = some (.getfield 32, 9, 191) := rfl
theorem f_10_6 : xi 10 6 = some (.if_icmp .ne 46, 0, 0) := rfl
theorem f_10_10 : xi 10 10 = some (.invokevirtual 68, 14, 454) := rfl
theorem f_10_13 : xi 10 13 = some (.ifCond .ne 5, 0, 0) := rfl
theorem f_10_17 : xi 10 17 = some (.ireturn, 0, 0) := rfl
theorem f_10_19 : xi 10 19 = some (.invokevirtual 44, 15, 348) := rfl
theorem f_10_23 : xi 10 23 = some (.invokevirtual 65, 10, 450) := rfl
theorem f_10_26 : xi 10 26 = some (.ifCond .ne 5, 0, 0) := rfl
theorem f_10_30 : xi 10 30 = some (.ireturn, 0, 0) := rfl
theorem f_10_33 : xi 10 33 = some (.getfield 38, 11, 193) := rfl
theorem f_10_38 : xi 10 38 = some (.putfield 38, 11, 193) := rfl
theorem f_10_42 : xi 10 42 = some (.getfield 22, 6, 186) := rfl
theorem f_10_47 : xi 10 47 = some (.invokevirtual 62, 43, 458) := rfl
theorem f_10_51 : xi 10 51 = some (.ireturn, 0, 0) := rfl
theorem f_10_53 : xi 10 53 = some (.invokevirtual 71, 11, 462) := rfl
theorem f_10_56 : xi 10 56 = some (.ifCond .ne 5, 0, 0) := rfl
theorem f_10_60 : xi 10 60 = some (.ireturn, 0, 0) := rfl
theorem f_10_62 : xi 10 62 = some (.getfield 32, 9, 191) := rfl
theorem f_10_67 : xi 10 67 = some (.if_icmp .eq 14, 0, 0) := rfl
theorem f_10_71 : xi 10 71 = some (.getfield 32, 9, 191) := rfl
theorem f_10_76 : xi 10 76 = some (.if_icmp .eq 5, 0, 0) := rfl
set_option maxRecDepth 1000000 in
theorem f_10_80 : xi 10 80 = some (.ireturn, 0, 0) := rfl
set_option maxRecDepth 1000000 in
theorem f_10_82 : xi 10 82 = some (.getfield 32, 9, 191) := rfl
set_option maxRecDepth 1000000 in
theorem f_10_87 : xi 10 87 = some (.if_icmp .ne 8, 0, 0) := rfl
set_option maxRecDepth 1000000 in
theorem f_10_99 : xi 10 99 = some (.invokevirtual 44, 15, 348) := rfl
set_option maxRecDepth 1000000 in
theorem f_10_103 : xi 10 103 = some (.invokevirtual 71, 11, 462) := rfl
set_option maxRecDepth 1000000 in
theorem f_10_106 : xi 10 106 = some (.ifCond .ne 5, 0, 0) := rfl
set_option maxRecDepth 1000000 in
theorem f_10_110 : xi 10 110 = some (.ireturn, 0, 0) := rfl
set_option maxRecDepth 1000000 in
theorem f_10_112 : xi 10 112 = some (.getfield 22, 6, 186) := rfl
set_option maxRecDepth 1000000 in
theorem f_10_116 : xi 10 116 = some (.invokevirtual 62, 43, 458) := rfl
set_option maxRecDepth 1000000 in
theorem f_10_120 : xi 10 120 = some (.ireturn, 0, 0) := rfl
theorem m_11 : xme 11 = some xe_11 := rfl
theorem f_11_1 : xi 11 1 = some (.invokevirtual 74, 12, 466) := rfl
theorem f_11_4 : xi 11 4 = some (.ifCond .ne 5, 0, 0) := rfl
theorem f_11_8 : xi 11 8 = some (.ireturn, 0, 0) := rfl
theorem f_11_15 : xi 11 15 = some (.if_icmp .ge 65, 0, 0) := rfl
theorem f_11_19 : xi 11 19 = some (.getfield 32, 9, 191) := rfl
theorem f_11_24 : xi 11 24 = some (.if_icmp .eq 12, 0, 0) := rfl
theorem f_11_28 : xi 11 28 = some (.getfield 32, 9, 191) := rfl
theorem f_11_33 : xi 11 33 = some (.if_icmp .ne 47, 0, 0) := rfl
theorem f_11_37 : xi 11 37 = some (.getfield 32, 9, 191) := rfl
theorem f_11_42 : xi 11 42 = some (.if_icmp .ne 8, 0, 0) := rfl
theorem f_11_54 : xi 11 54 = some (.invokevirtual 44, 15, 348) := rfl
theorem f_11_58 : xi 11 58 = some (.invokevirtual 74, 12, 466) := rfl
theorem f_11_61 : xi 11 61 = some (.ifCond .ne 5, 0, 0) := rfl
theorem f_11_65 : xi 11 65 = some (.ireturn, 0, 0) := rfl
theorem f_11_67 : xi 11 67 = some (.getfield 22, 6, 186) := rfl
theorem f_11_71 : xi 11 71 = some (.invokevirtual 62, 43, 458) := rfl
theorem f_11_81 : xi 11 81 = some (.ireturn, 0, 0) := rfl
theorem m_12 : xme 12 = some xe_12 := rfl
theorem f_12_1 : xi 12 1 = some (.invokevirtual 77, 13, 470) := rfl
theorem f_12_4 : xi 12 4 = some (.ifCond .ne 5, 0, 0) := rfl
theorem f_12_8 : xi 12 8 = some (.ireturn, 0, 0) := rfl
theorem f_12_15 : xi 12 15 = some (.if_icmp .ge 40, 0, 0) := rfl
theorem f_12_19 : xi 12 19 = some (.getfield 32, 9, 191) := rfl
theorem f_12_24 : xi 12 24 = some (.if_icmp .ne 31, 0, 0) := rfl
theorem f_12_28 : xi 12 28 = some (.invokevirtual 44, 15, 348) := rfl
theorem f_12_32 : xi 12 32 = some (.invokevirtual 77, 13, 470) := rfl
theorem f_12_35 : xi 12 35 = some (.ifCond .ne 5, 0, 0) := rfl
theorem f_12_39 : xi 12 39 = some (.ireturn, 0, 0) := rfl
theorem f_12_41 : xi 12 41 = some (.getfield 22, 6, 186) := rfl
theorem f_12_46 : xi 12 46 = some (.invokevirtual 62, 43, 458) := rfl
theorem f_12_56 : xi 12 56 = some (.ireturn, 0, 0) := rfl
theorem m_13 : xme 13 = some xe_13 := rfl
theorem f_13_1 : xi 13 1 = some (.getfield 32, 9, 191) := rfl
theorem f_13_5 : xi 13 5 = some (.if_icmp .eq 11, 0, 0) := rfl
theorem f_13_9 : xi 13 9 = some (.getfield 32, 9, 191) := rfl
theorem f_13_13 : xi 13 13 = some (.if_icmp .ne 39, 0, 0) := rfl
theorem f_13_17 : xi 13 17 = some (.getfield 22, 6, 186) := rfl
theorem f_13_21 : xi 13 21 = some (.getfield 32, 9, 191) := rfl
theorem f_13_25 : xi 13 25 = some (.if_icmp .ne 10, 0, 0) := rfl
theorem f_13_29 : xi 13 29 = some (.getfield 35, 10, 192) := rfl
theorem f_13_39 : xi 13 39 = some (.getfield 35, 10, 192) := rfl
theorem f_13_43 : xi 13 43 = some (.invokevirtual 62, 43, 458) := rfl
theorem f_13_47 : xi 13 47 = some (.invokevirtual 44, 15, 348) := rfl
theorem f_13_51 : xi 13 51 = some (.ireturn, 0, 0) := rfl
theorem f_13_53 : xi 13 53 = some (.getfield 32, 9, 191) := rfl
theorem f_13_58 : xi 13 58 = some (.if_icmp .ne 46, 0, 0) := rfl
theorem f_13_62 : xi 13 62 = some (.invokevirtual 68, 14, 454) := rfl
theorem f_13_65 : xi 13 65 = some (.ifCond .ne 5, 0, 0) := rfl
theorem f_13_69 : xi 13 69 = some (.ireturn, 0, 0) := rfl
theorem f_13_71 : xi 13 71 = some (.invokevirtual 44, 15, 348) := rfl
theorem f_13_75 : xi 13 75 = some (.invokevirtual 77, 13, 470) := rfl
theorem f_13_78 : xi 13 78 = some (.ifCond .ne 5, 0, 0) := rfl
set_option maxRecDepth 1000000 in
theorem f_13_82 : xi 13 82 = some (.ireturn, 0, 0) := rfl
set_option maxRecDepth 1000000 in
theorem f_13_85 : xi 13 85 = some (.getfield 38, 11, 193) := rfl
set_option maxRecDepth 1000000 in
theorem f_13_90 : xi 13 90 = some (.putfield 38, 11, 193) := rfl
set_option maxRecDepth 1000000 in
theorem f_13_94 : xi 13 94 = some (.getfield 22, 6, 186) := rfl
set_option maxRecDepth 1000000 in
theorem f_13_99 : xi 13 99 = some (.invokevirtual 62, 43, 458) := rfl
set_option maxRecDepth 1000000 in
theorem f_13_103 : xi 13 103 = some (.ireturn, 0, 0) := rfl
set_option maxRecDepth 1000000 in
theorem f_13_105 : xi 13 105 = some (.getfield 32, 9, 191) := rfl
set_option maxRecDepth 1000000 in
theorem f_13_110 : xi 13 110 = some (.if_icmp .ne 10, 0, 0) := rfl
set_option maxRecDepth 1000000 in
theorem f_13_114 : xi 13 114 = some (.invokevirtual 68, 14, 454) := rfl
set_option maxRecDepth 1000000 in
theorem f_13_117 : xi 13 117 = some (.ifCond .ne 5, 0, 0) := rfl
set_option maxRecDepth 1000000 in
theorem f_13_121 : xi 13 121 = some (.ireturn, 0, 0) := rfl
set_option maxRecDepth 1000000 in
theorem f_13_123 : xi 13 123 = some (.invokevirtual 44, 15, 348) := rfl
set_option maxRecDepth 1000000 in
theorem f_13_127 : xi 13 127 = some (.invokevirtual 51, 8, 442) := rfl
set_option maxRecDepth 1000000 in
theorem f_13_130 : xi 13 130 = some (.ifCond .eq 12, 0, 0) := rfl
set_option maxRecDepth 1000000 in
theorem f_13_134 : xi 13 134 = some (.getfield 32, 9, 191) := rfl
set_option maxRecDepth 1000000 in
theorem f_13_139 : xi 13 139 = some (.if_icmp .eq 5, 0, 0) := rfl
set_option maxRecDepth 1000000 in
theorem f_13_143 : xi 13 143 = some (.ireturn, 0, 0) := rfl
set_option maxRecDepth 1000000 in
theorem f_13_146 : xi 13 146 = some (.getfield 38, 11, 193) := rfl
set_option maxRecDepth 1000000 in
theorem f_13_151 : xi 13 151 = some (.putfield 38, 11, 193) := rfl
set_option maxRecDepth 1000000 in
theorem f_13_155 : xi 13 155 = some (.invokevirtual 44, 15, 348) := rfl
set_option maxRecDepth 1000000 in
theorem f_13_159 : xi 13 159 = some (.ireturn, 0, 0) := rfl
theorem m_14 : xme 14 = some xe_14 := rfl
theorem f_14_1 : xi 14 1 = some (.getfield 38, 11, 193) := rfl
theorem f_14_5 : xi 14 5 = some (.if_icmp .lt 5, 0, 0) := rfl
theorem f_14_9 : xi 14 9 = some (.ireturn, 0, 0) := rfl
theorem f_14_12 : xi 14 12 = some (.getfield 38, 11, 193) := rfl
theorem f_14_17 : xi 14 17 = some (.putfield 38, 11, 193) := rfl
theorem f_14_21 : xi 14 21 = some (.ireturn, 0, 0) := rfl
theorem m_15 : xme 15 = some xe_15 := rfl
theorem f_15_2 : xi 15 2 = some (.getfield 29, 8, 190) := rfl
theorem f_15_5 : xi 15 5 = some (.putfield 26, 7, 188) := rfl
theorem f_15_9 : xi 15 9 = some (.getfield 26, 7, 188) := rfl
theorem f_15_13 : xi 15 13 = some (.getfield 15, 5, 184) := rfl
theorem f_15_16 : xi 15 16 = some (.if_icmp .ge 44, 0, 0) := rfl
theorem f_15_20 : xi 15 20 = some (.getfield 9, 4, 183) := rfl
theorem f_15_24 : xi 15 24 = some (.getfield 26, 7, 188) := rfl
theorem f_15_27 : xi 15 27 = some (.iaload, 0, 0) := rfl
theorem f_15_30 : xi 15 30 = some (.if_icmp .eq 17, 0, 0) := rfl
theorem f_15_34 : xi 15 34 = some (.getfield 9, 4, 183) := rfl
theorem f_15_38 : xi 15 38 = some (.getfield 26, 7, 188) := rfl
theorem f_15_41 : xi 15 41 = some (.iaload, 0, 0) := rfl
theorem f_15_44 : xi 15 44 = some (.if_icmp .ne 16, 0, 0) := rfl
theorem f_15_49 : xi 15 49 = some (.getfield 26, 7, 188) := rfl
theorem f_15_54 : xi 15 54 = some (.putfield 26, 7, 188) := rfl
theorem f_15_62 : xi 15 62 = some (.getfield 26, 7, 188) := rfl
theorem f_15_65 : xi 15 65 = some (.putfield 29, 8, 190) := rfl
theorem f_15_69 : xi 15 69 = some (.getfield 26, 7, 188) := rfl
theorem f_15_73 : xi 15 73 = some (.getfield 15, 5, 184) := rfl
theorem f_15_76 : xi 15 76 = some (.if_icmp .lt 11, 0, 0) := rfl
set_option maxRecDepth 1000000 in
theorem f_15_81 : xi 15 81 = some (.putfield 32, 9, 191) := rfl
set_option maxRecDepth 1000000 in
theorem f_15_88 : xi 15 88 = some (.getfield 9, 4, 183) := rfl
set_option maxRecDepth 1000000 in
theorem f_15_92 : xi 15 92 = some (.getfield 26, 7, 188) := rfl
set_option maxRecDepth 1000000 in
theorem f_15_95 : xi 15 95 = some (.iaload, 0, 0) := rfl
set_option maxRecDepth 1000000 in
theorem f_15_96 : xi 15 96 = some (.invokestatic 80, 19, 352) := rfl
set_option maxRecDepth 1000000 in
theorem f_15_99 : xi 15 99 = some (.ifCond .eq 10, 0, 0) := rfl
set_option maxRecDepth 1000000 in
theorem f_15_103 : xi 15 103 = some (.invokevirtual 83, 16, 355) := rfl
set_option maxRecDepth 1000000 in
theorem f_15_110 : xi 15 110 = some (.getfield 9, 4, 183) := rfl
set_option maxRecDepth 1000000 in
theorem f_15_114 : xi 15 114 = some (.getfield 26, 7, 188) := rfl
set_option maxRecDepth 1000000 in
theorem f_15_117 : xi 15 117 = some (.iaload, 0, 0) := rfl
set_option maxRecDepth 1000000 in
theorem f_15_118 : xi 15 118 = some (.invokestatic 86, 20, 371) := rfl
set_option maxRecDepth 1000000 in
theorem f_15_121 : xi 15 121 = some (.ifCond .eq 10, 0, 0) := rfl
set_option maxRecDepth 1000000 in
theorem f_15_125 : xi 15 125 = some (.invokevirtual 89, 17, 374) := rfl
set_option maxRecDepth 1000000 in
theorem f_15_133 : xi 15 133 = some (.getfield 26, 7, 188) := rfl
set_option maxRecDepth 1000000 in
theorem f_15_138 : xi 15 138 = some (.putfield 29, 8, 190) := rfl
set_option maxRecDepth 1000000 in
theorem f_15_145 : xi 15 145 = some (.getfield 9, 4, 183) := rfl
set_option maxRecDepth 1000000 in
theorem f_15_149 : xi 15 149 = some (.getfield 26, 7, 188) := rfl
set_option maxRecDepth 1000000 in
theorem f_15_152 : xi 15 152 = some (.iaload, 0, 0) := rfl
set_option maxRecDepth 1000000 in
theorem f_15_154 : xi 15 154 = some (.invokevirtual 94, 194, 379) := rfl
set_option maxRecDepth 1000000 in
theorem f_15_157 : xi 15 157 = some (.ifCond .lt 15, 0, 0) := rfl
set_option maxRecDepth 1000000 in
theorem f_15_161 : xi 15 161 = some (.getfield 9, 4, 183) := rfl
set_option maxRecDepth 1000000 in
theorem f_15_165 : xi 15 165 = some (.getfield 26, 7, 188) := rfl
set_option maxRecDepth 1000000 in
theorem f_15_168 : xi 15 168 = some (.iaload, 0, 0) := rfl
set_option maxRecDepth 1000000 in
theorem f_15_173 : xi 15 173 = some (.putfield 32, 9, 191) := rfl
set_option maxRecDepth 1000000 in
theorem f_15_176 : xi 15 176 = some (.return_, 0, 0) := rfl
theorem m_16 : xme 16 = some xe_16 := rfl
theorem f_16_1 : xi 16 1 = some (.getfield 29, 8, 190) := rfl
theorem f_16_5 : xi 16 5 = some (.getfield 15, 5, 184) := rfl
theorem f_16_8 : xi 16 8 = some (.if_icmp .ge 31, 0, 0) := rfl
theorem f_16_12 : xi 16 12 = some (.getfield 9, 4, 183) := rfl
theorem f_16_16 : xi 16 16 = some (.getfield 29, 8, 190) := rfl
theorem f_16_19 : xi 16 19 = some (.iaload, 0, 0) := rfl
theorem f_16_20 : xi 16 20 = some (.invokestatic 80, 19, 352) := rfl
theorem f_16_23 : xi 16 23 = some (.ifCond .eq 16, 0, 0) := rfl
theorem f_16_28 : xi 16 28 = some (.getfield 29, 8, 190) := rfl
theorem f_16_33 : xi 16 33 = some (.putfield 29, 8, 190) := rfl
theorem f_16_41 : xi 16 41 = some (.getfield 9, 4, 183) := rfl
theorem f_16_45 : xi 16 45 = some (.getfield 26, 7, 188) := rfl
theorem f_16_48 : xi 16 48 = some (.iaload, 0, 0) := rfl
theorem f_16_52 : xi 16 52 = some (.putfield 35, 10, 192) := rfl
theorem f_16_56 : xi 16 56 = some (.getfield 29, 8, 190) := rfl
theorem f_16_60 : xi 16 60 = some (.getfield 26, 7, 188) := rfl
theorem f_16_65 : xi 16 65 = some (.if_icmp .ne 20, 0, 0) := rfl
theorem f_16_69 : xi 16 69 = some (.getfield 35, 10, 192) := rfl
theorem f_16_74 : xi 16 74 = some (.if_icmp .ge 11, 0, 0) := rfl
set_option maxRecDepth 1000000 in
theorem f_16_79 : xi 16 79 = some (.putfield 32, 9, 191) := rfl
set_option maxRecDepth 1000000 in
theorem f_16_88 : xi 16 88 = some (.invokevirtual 102, 18, 360) := rfl
set_option maxRecDepth 1000000 in
theorem f_16_91 : xi 16 91 = some (.ifCond .eq 12, 0, 0) := rfl
set_option maxRecDepth 1000000 in
theorem f_16_97 : xi 16 97 = some (.putfield 32, 9, 191) := rfl
set_option maxRecDepth 1000000 in
theorem f_16_106 : xi 16 106 = some (.invokevirtual 102, 18, 360) := rfl
set_option maxRecDepth 1000000 in
theorem f_16_109 : xi 16 109 = some (.ifCond .eq 12, 0, 0) := rfl
set_option maxRecDepth 1000000 in
theorem f_16_115 : xi 16 115 = some (.putfield 32, 9, 191) := rfl
set_option maxRecDepth 1000000 in
theorem f_16_124 : xi 16 124 = some (.invokevirtual 102, 18, 360) := rfl
set_option maxRecDepth 1000000 in
theorem f_16_127 : xi 16 127 = some (.ifCond .eq 12, 0, 0) := rfl
set_option maxRecDepth 1000000 in
theorem f_16_133 : xi 16 133 = some (.putfield 32, 9, 191) := rfl
set_option maxRecDepth 1000000 in
theorem f_16_142 : xi 16 142 = some (.invokevirtual 102, 18, 360) := rfl
set_option maxRecDepth 1000000 in
theorem f_16_145 : xi 16 145 = some (.ifCond .eq 11, 0, 0) := rfl
set_option maxRecDepth 1000000 in
theorem f_16_150 : xi 16 150 = some (.putfield 32, 9, 191) := rfl
set_option maxRecDepth 1000000 in
theorem f_16_159 : xi 16 159 = some (.invokevirtual 102, 18, 360) := rfl
set_option maxRecDepth 1000000 in
theorem f_16_162 : xi 16 162 = some (.ifCond .eq 11, 0, 0) := rfl
set_option maxRecDepth 1000000 in
theorem f_16_167 : xi 16 167 = some (.putfield 32, 9, 191) := rfl
set_option maxRecDepth 1000000 in
theorem f_16_177 : xi 16 177 = some (.invokevirtual 102, 18, 360) := rfl
set_option maxRecDepth 1000000 in
theorem f_16_180 : xi 16 180 = some (.ifCond .eq 8, 0, 0) := rfl
set_option maxRecDepth 1000000 in
theorem f_16_189 : xi 16 189 = some (.putfield 32, 9, 191) := rfl
set_option maxRecDepth 1000000 in
theorem f_16_192 : xi 16 192 = some (.return_, 0, 0) := rfl
theorem m_17 : xme 17 = some xe_17 := rfl
theorem f_17_2 : xi 17 2 = some (.putfield 35, 10, 192) := rfl
theorem f_17_6 : xi 17 6 = some (.getfield 29, 8, 190) := rfl
theorem f_17_10 : xi 17 10 = some (.getfield 15, 5, 184) := rfl
theorem f_17_13 : xi 17 13 = some (.if_icmp .ge 55, 0, 0) := rfl
theorem f_17_17 : xi 17 17 = some (.getfield 9, 4, 183) := rfl
theorem f_17_21 : xi 17 21 = some (.getfield 29, 8, 190) := rfl
theorem f_17_24 : xi 17 24 = some (.iaload, 0, 0) := rfl
theorem f_17_25 : xi 17 25 = some (.invokestatic 86, 20, 371) := rfl
theorem f_17_28 : xi 17 28 = some (.ifCond .eq 40, 0, 0) := rfl
theorem f_17_35 : xi 17 35 = some (.getfield 35, 10, 192) := rfl
theorem f_17_40 : xi 17 40 = some (.getfield 9, 4, 183) := rfl
theorem f_17_44 : xi 17 44 = some (.getfield 29, 8, 190) := rfl
theorem f_17_47 : xi 17 47 = some (.iaload, 0, 0) := rfl
theorem f_17_52 : xi 17 52 = some (.putfield 35, 10, 192) := rfl
theorem f_17_57 : xi 17 57 = some (.getfield 29, 8, 190) := rfl
theorem f_17_62 : xi 17 62 = some (.putfield 29, 8, 190) := rfl
theorem f_17_70 : xi 17 70 = some (.getfield 29, 8, 190) := rfl
theorem f_17_74 : xi 17 74 = some (.getfield 26, 7, 188) := rfl
set_option maxRecDepth 1000000 in
theorem f_17_79 : xi 17 79 = some (.if_icmp .le 7, 0, 0) := rfl
set_option maxRecDepth 1000000 in
theorem f_17_87 : xi 17 87 = some (.putfield 32, 9, 191) := rfl
set_option maxRecDepth 1000000 in
theorem f_17_90 : xi 17 90 = some (.return_, 0, 0) := rfl
theorem m_18 : xme 18 = some xe_18 := rfl
theorem f_18_1 : xi 18 1 = some (.getfield 29, 8, 190) := rfl
theorem f_18_5 : xi 18 5 = some (.getfield 26, 7, 188) := rfl
theorem f_18_10 : xi 18 10 = some (.invokevirtual 116, 192, 364) := rfl
theorem f_18_13 : xi 18 13 = some (.if_icmp .eq 5, 0, 0) := rfl
theorem f_18_17 : xi 18 17 = some (.ireturn, 0, 0) := rfl
theorem f_18_22 : xi 18 22 = some (.invokevirtual 116, 192, 364) := rfl
theorem f_18_25 : xi 18 25 = some (.if_icmp .ge 30, 0, 0) := rfl
theorem f_18_29 : xi 18 29 = some (.getfield 9, 4, 183) := rfl
theorem f_18_33 : xi 18 33 = some (.getfield 26, 7, 188) := rfl
theorem f_18_38 : xi 18 38 = some (.iaload, 0, 0) := rfl
theorem f_18_41 : xi 18 41 = some (.invokevirtual 120, 193, 365) := rfl
theorem f_18_44 : xi 18 44 = some (.if_icmp .eq 5, 0, 0) := rfl
theorem f_18_48 : xi 18 48 = some (.ireturn, 0, 0) := rfl
theorem f_18_56 : xi 18 56 = some (.ireturn, 0, 0) := rfl
theorem m_19 : xme 19 = some xe_19 := rfl
theorem f_19_3 : xi 19 3 = some (.if_icmp .lt 13, 0, 0) := rfl
theorem f_19_9 : xi 19 9 = some (.if_icmp .gt 7, 0, 0) := rfl
theorem f_19_17 : xi 19 17 = some (.ireturn, 0, 0) := rfl
theorem m_20 : xme 20 = some xe_20 := rfl
theorem f_20_3 : xi 20 3 = some (.if_icmp .lt 13, 0, 0) := rfl
theorem f_20_9 : xi 20 9 = some (.if_icmp .gt 7, 0, 0) := rfl
theorem f_20_17 : xi 20 17 = some (.ireturn, 0, 0) := rfl
theorem m_21 : xme 21 = some xe_21 := rfl
theorem f_21_6 : xi 21 6 = some (.putfield 9, 12, 101) := rfl
theorem f_21_11 : xi 21 11 = some (.putfield 15, 13, 104) := rfl
theorem f_21_16 : xi 21 16 = some (.putfield 18, 14, 107) := rfl
theorem f_21_21 : xi 21 21 = some (.putfield 21, 15, 111) := rfl
theorem f_21_26 : xi 21 26 = some (.putfield 24, 16, 114) := rfl
theorem f_21_29 : xi 21 29 = some (.return_, 0, 0) := rfl
theorem m_22 : xme 22 = some xe_22 := rfl
theorem f_22_4 : xi 22 4 = some (.idiv, 0, 0) := rfl
theorem f_22_5 : xi 22 5 = some (.putfield 9, 12, 101) := rfl
theorem f_22_12 : xi 22 12 = some (.irem, 0, 0) := rfl
theorem f_22_13 : xi 22 13 = some (.putfield 15, 13, 104) := rfl
theorem f_22_18 : xi 22 18 = some (.putfield 18, 14, 107) := rfl
theorem f_22_23 : xi 22 23 = some (.putfield 21, 15, 111) := rfl
theorem f_22_29 : xi 22 29 = some (.putfield 24, 16, 114) := rfl
theorem f_22_32 : xi 22 32 = some (.return_, 0, 0) := rfl
theorem m_23 : xme 23 = some xe_23 := rfl
theorem f_23_1 : xi 23 1 = some (.getfield 9, 12, 101) := rfl
theorem f_23_4 : xi 23 4 = some (.tableswitch 111 1 4 #[32, 46, 63, 79], 0, 0) := rfl
theorem f_23_38 : xi 23 38 = some (.getfield 21, 15, 111) := rfl
theorem f_23_42 : xi 23 42 = some (.getfield 15, 13, 104) := rfl
theorem f_23_46 : xi 23 46 = some (.invokestatic 27, 9997, 587) := rfl
theorem f_23_49 : xi 23 49 = some (.ireturn, 0, 0) := rfl
theorem f_23_51 : xi 23 51 = some (.getfield 21, 15, 111) := rfl
theorem f_23_55 : xi 23 55 = some (.getfield 15, 13, 104) := rfl
theorem f_23_60 : xi 23 60 = some (.invokevirtual 33, 25, 588) := rfl
theorem f_23_63 : xi 23 63 = some (.invokestatic 37, 9998, 592) := rfl
theorem f_23_66 : xi 23 66 = some (.ireturn, 0, 0) := rfl
theorem f_23_69 : xi 23 69 = some (.getfield 21, 15, 111) := rfl
theorem f_23_73 : xi 23 73 = some (.getfield 15, 13, 104) := rfl
theorem f_23_79 : xi 23 79 = some (.invokestatic 27, 9997, 587) := rfl
theorem f_23_82 : xi 23 82 = some (.ireturn, 0, 0) := rfl
theorem f_23_85 : xi 23 85 = some (.getfield 15, 13, 104) := rfl
theorem f_23_88 : xi 23 88 = some (.if_icmp .lt 10, 0, 0) := rfl
theorem f_23_92 : xi 23 92 = some (.invokevirtual 33, 25, 588) := rfl
theorem f_23_99 : xi 23 99 = some (.getfield 21, 15, 111) := rfl
theorem f_23_103 : xi 23 103 = some (.getfield 15, 13, 104) := rfl
set_option maxRecDepth 1000000 in
theorem f_23_108 : xi 23 108 = some (.invokevirtual 33, 25, 588) := rfl
set_option maxRecDepth 1000000 in
theorem f_23_111 : xi 23 111 = some (.invokestatic 37, 9998, 592) := rfl
set_option maxRecDepth 1000000 in
theorem f_23_114 : xi 23 114 = some (.ireturn, 0, 0) := rfl
set_option maxRecDepth 1000000 in
theorem f_23_116 : xi 23 116 = some (.getfield 21, 15, 111) := rfl
set_option maxRecDepth 1000000 in
theorem f_23_119 : xi 23 119 = some (.ireturn, 0, 0) := rfl
theorem m_24 : xme 24 = some xe_24 := rfl
theorem f_24_1 : xi 24 1 = some (.getfield 9, 12, 101) := rfl
theorem f_24_4 : xi 24 4 = some (.tableswitch 123 1 5 #[36, 52, 69, 87, 119], 0, 0) := rfl
theorem f_24_44 : xi 24 44 = some (.getfield 24, 16, 114) := rfl
theorem f_24_48 : xi 24 48 = some (.getfield 15, 13, 104) := rfl
theorem f_24_52 : xi 24 52 = some (.invokestatic 37, 9998, 592) := rfl
theorem f_24_55 : xi 24 55 = some (.ireturn, 0, 0) := rfl
theorem f_24_57 : xi 24 57 = some (.getfield 24, 16, 114) := rfl
theorem f_24_61 : xi 24 61 = some (.getfield 15, 13, 104) := rfl
theorem f_24_66 : xi 24 66 = some (.invokevirtual 33, 25, 588) := rfl
theorem f_24_69 : xi 24 69 = some (.invokestatic 27, 9997, 587) := rfl
theorem f_24_72 : xi 24 72 = some (.ireturn, 0, 0) := rfl
theorem f_24_77 : xi 24 77 = some (.getfield 24, 16, 114) := rfl
theorem f_24_81 : xi 24 81 = some (.getfield 15, 13, 104) := rfl
theorem f_24_87 : xi 24 87 = some (.invokestatic 37, 9998, 592) := rfl
theorem f_24_90 : xi 24 90 = some (.ireturn, 0, 0) := rfl
theorem f_24_93 : xi 24 93 = some (.getfield 15, 13, 104) := rfl
theorem f_24_96 : xi 24 96 = some (.if_icmp .lt 10, 0, 0) := rfl
theorem f_24_100 : xi 24 100 = some (.invokevirtual 33, 25, 588) := rfl
theorem f_24_107 : xi 24 107 = some (.getfield 24, 16, 114) := rfl
theorem f_24_111 : xi 24 111 = some (.getfield 15, 13, 104) := rfl
set_option maxRecDepth 1000000 in
theorem f_24_116 : xi 24 116 = some (.invokevirtual 33, 25, 588) := rfl
set_option maxRecDepth 1000000 in
theorem f_24_119 : xi 24 119 = some (.invokestatic 27, 9997, 587) := rfl
set_option maxRecDepth 1000000 in
theorem f_24_122 : xi 24 122 = some (.ireturn, 0, 0) := rfl
set_option maxRecDepth 1000000 in
theorem f_24_126 : xi 24 126 = some (.ireturn, 0, 0) := rfl
set_option maxRecDepth 1000000 in
theorem f_24_128 : xi 24 128 = some (.getfield 24, 16, 114) := rfl
set_option maxRecDepth 1000000 in
theorem f_24_131 : xi 24 131 = some (.ireturn, 0, 0) := rfl
theorem m_25 : xme 25 = some xe_25 := rfl
theorem f_25_1 : xi 25 1 = some (.getfield 21, 15, 111) := rfl
theorem f_25_5 : xi 25 5 = some (.getfield 24, 16, 114) := rfl
theorem f_25_10 : xi 25 10 = some (.idiv, 0, 0) := rfl
theorem f_25_11 : xi 25 11 = some (.ireturn, 0, 0) := rfl
theorem m_26 : xme 26 = some xe_26 := rfl
theorem f_26_1 : xi 26 1 = some (.getfield 9, 12, 101) := rfl
theorem f_26_10 : xi 26 10 = some (.if_icmp .ge 27, 0, 0) := rfl
theorem f_26_15 : xi 26 15 = some (.if_icmp .eq 22, 0, 0) := rfl
theorem f_26_20 : xi 26 20 = some (.if_icmp .ne 5, 0, 0) := rfl
theorem f_26_24 : xi 26 24 = some (.ireturn, 0, 0) := rfl
theorem f_26_29 : xi 26 29 = some (.iaload, 0, 0) := rfl
theorem f_26_38 : xi 26 38 = some (.ireturn, 0, 0) := rfl
theorem m_27 : xme 27 = some xe_27 := rfl
theorem f_27_1 : xi 27 1 = some (.getfield 18, 14, 107) := rfl
theorem f_27_5 : xi 27 5 = some (.getfield 18, 14, 107) := rfl
theorem f_27_8 : xi 27 8 = some (.if_icmp .ne 33, 0, 0) := rfl
theorem f_27_13 : xi 27 13 = some (.invokevirtual 44, 24, 669) := rfl
theorem f_27_18 : xi 27 18 = some (.invokevirtual 48, 23, 670) := rfl
theorem f_27_21 : xi 27 21 = some (.if_icmp .lt 16, 0, 0) := rfl
theorem f_27_26 : xi 27 26 = some (.invokevirtual 44, 24, 669) := rfl
theorem f_27_31 : xi 27 31 = some (.invokevirtual 48, 23, 670) := rfl
theorem f_27_34 : xi 27 34 = some (.if_icmp .ge 7, 0, 0) := rfl
theorem f_27_42 : xi 27 42 = some (.ireturn, 0, 0) := rfl
theorem m_28 : xme 28 = some xe_28 := rfl
theorem f_28_2 : xi 28 2 = some (.getfield 18, 14, 107) := rfl
theorem f_28_5 : xi 28 5 = some (.iaload, 0, 0) := rfl
theorem f_28_8 : xi 28 8 = some (.invokevirtual 48, 23, 670) := rfl
theorem f_28_13 : xi 28 13 = some (.invokevirtual 44, 24, 669) := rfl
theorem f_28_16 : xi 28 16 = some (.invokestatic 51, 10090, 780) := rfl
theorem f_28_19 : xi 28 19 = some (.ireturn, 0, 0) := rfl
theorem m_29 : xme 29 = some xe_29 := rfl
theorem f_29_9 : xi 29 9 = some (.putfield 9, 17, 274) := rfl
theorem f_29_14 : xi 29 14 = some (.putfield 15, 18, 276) := rfl
theorem f_29_19 : xi 29 19 = some (.putfield 19, 19, 278) := rfl
theorem f_29_22 : xi 29 22 = some (.return_, 0, 0) := rfl
theorem m_30 : xme 30 = some xe_30 := rfl
theorem f_30_2 : xi 30 2 = some (.putfield 15, 18, 276) := rfl
theorem f_30_7 : xi 30 7 = some (.putfield 19, 19, 278) := rfl
theorem f_30_11 : xi 30 11 = some (.getfield 9, 17, 274) := rfl
theorem f_30_15 : xi 30 15 = some (.invokestatic 22, 204, 809) := rfl
theorem f_30_18 : xi 30 18 = some (.return_, 0, 0) := rfl
theorem m_31 : xme 31 = some xe_31 := rfl
theorem f_31_1 : xi 31 1 = some (.getfield 9, 17, 274) := rfl
theorem f_31_6 : xi 31 6 = some (.getfield 15, 18, 276) := rfl
theorem f_31_9 : xi 31 9 = some (.ifCond .ne 8, 0, 0) := rfl
theorem f_31_18 : xi 31 18 = some (.getfield 15, 18, 276) := rfl
theorem f_31_22 : xi 31 22 = some (.if_icmp .ne 8, 0, 0) := rfl
theorem f_31_31 : xi 31 31 = some (.iastore, 0, 0) := rfl
theorem f_31_32 : xi 31 32 = some (.return_, 0, 0) := rfl
theorem m_32 : xme 32 = some xe_32 := rfl
theorem f_32_1 : xi 32 1 = some (.ifCond .lt 29, 0, 0) := rfl
theorem f_32_6 : xi 32 6 = some (.getfield 19, 19, 278) := rfl
theorem f_32_9 : xi 32 9 = some (.if_icmp .gt 21, 0, 0) := rfl
theorem f_32_13 : xi 32 13 = some (.ifCond .lt 17, 0, 0) := rfl
theorem f_32_18 : xi 32 18 = some (.getfield 19, 19, 278) := rfl
theorem f_32_23 : xi 32 23 = some (.if_icmp .gt 7, 0, 0) := rfl
theorem f_32_31 : xi 32 31 = some (.ireturn, 0, 0) := rfl
theorem m_33 : xme 33 = some xe_33 := rfl
theorem f_33_9 : xi 33 9 = some (.putfield 9, 20, 219) := rfl
theorem f_33_17 : xi 33 17 = some (.putfield 15, 21, 221) := rfl
theorem f_33_25 : xi 33 25 = some (.putfield 18, 22, 223) := rfl
theorem f_33_33 : xi 33 33 = some (.putfield 21, 23, 225) := rfl
theorem f_33_41 : xi 33 41 = some (.putfield 24, 24, 227) := rfl
theorem f_33_46 : xi 33 46 = some (.putfield 27, 25, 228) := rfl
theorem f_33_49 : xi 33 49 = some (.return_, 0, 0) := rfl
theorem m_34 : xme 34 = some xe_34 := rfl
theorem f_34_1 : xi 34 1 = some (.getfield 9, 20, 219) := rfl
theorem f_34_5 : xi 34 5 = some (.invokestatic 31, 204, 638) := rfl
theorem f_34_9 : xi 34 9 = some (.getfield 15, 21, 221) := rfl
theorem f_34_15 : xi 34 15 = some (.invokestatic 31, 204, 638) := rfl
theorem f_34_22 : xi 34 22 = some (.getfield 37, 31, 132) := rfl
theorem f_34_25 : xi 34 25 = some (.if_icmp .ge 89, 0, 0) := rfl
theorem f_34_33 : xi 34 33 = some (.ifCond .ne 75, 0, 0) := rfl
theorem f_34_37 : xi 34 37 = some (.getfield 43, 30, 129) := rfl
theorem f_34_41 : xi 34 41 = some (.aaload, 0, 0) := rfl
theorem f_34_45 : xi 34 45 = some (.getfield 9, 20, 219) := rfl
theorem f_34_50 : xi 34 50 = some (.getfield 47, 14, 108) := rfl
theorem f_34_54 : xi 34 54 = some (.getfield 9, 20, 219) := rfl
theorem f_34_59 : xi 34 59 = some (.getfield 47, 14, 108) := rfl
theorem f_34_62 : xi 34 62 = some (.iaload, 0, 0) := rfl
theorem f_34_66 : xi 34 66 = some (.getfield 52, 33, 138) := rfl
theorem f_34_69 : xi 34 69 = some (.invokevirtual 55, 23, 641) := rfl
theorem f_34_72 : xi 34 72 = some (.invokestatic 59, 9997, 642) := rfl
theorem f_34_75 : xi 34 75 = some (.iastore, 0, 0) := rfl
set_option maxRecDepth 1000000 in
theorem f_34_77 : xi 34 77 = some (.getfield 15, 21, 221) := rfl
set_option maxRecDepth 1000000 in
theorem f_34_82 : xi 34 82 = some (.getfield 47, 14, 108) := rfl
set_option maxRecDepth 1000000 in
theorem f_34_86 : xi 34 86 = some (.getfield 15, 21, 221) := rfl
set_option maxRecDepth 1000000 in
theorem f_34_91 : xi 34 91 = some (.getfield 47, 14, 108) := rfl
set_option maxRecDepth 1000000 in
theorem f_34_94 : xi 34 94 = some (.iaload, 0, 0) := rfl
set_option maxRecDepth 1000000 in
theorem f_34_98 : xi 34 98 = some (.getfield 52, 33, 138) := rfl
set_option maxRecDepth 1000000 in
theorem f_34_101 : xi 34 101 = some (.invokevirtual 65, 24, 643) := rfl
set_option maxRecDepth 1000000 in
theorem f_34_104 : xi 34 104 = some (.invokestatic 68, 9998, 625) := rfl
set_option maxRecDepth 1000000 in
theorem f_34_107 : xi 34 107 = some (.iastore, 0, 0) := rfl
set_option maxRecDepth 1000000 in
theorem f_34_114 : xi 34 114 = some (.return_, 0, 0) := rfl
theorem m_35 : xme 35 = some xe_35 := rfl
theorem f_35_6 : xi 35 6 = some (.getfield 24, 24, 227) := rfl
theorem f_35_9 : xi 35 9 = some (.arraylength, 0, 0) := rfl
theorem f_35_10 : xi 35 10 = some (.if_icmp .ge 36, 0, 0) := rfl
theorem f_35_14 : xi 35 14 = some (.getfield 24, 24, 227) := rfl
theorem f_35_23 : xi 35 23 = some (.idiv, 0, 0) := rfl
theorem f_35_28 : xi 35 28 = some (.irem, 0, 0) := rfl
theorem f_35_29 : xi 35 29 = some (.if_icmp .ne 7, 0, 0) := rfl
theorem f_35_39 : xi 35 39 = some (.iastore, 0, 0) := rfl
theorem f_35_52 : xi 35 52 = some (.if_icmp .ge 68, 0, 0) := rfl
theorem f_35_58 : xi 35 58 = some (.if_icmp .eq 56, 0, 0) := rfl
theorem f_35_64 : xi 35 64 = some (.aaload, 0, 0) := rfl
theorem f_35_70 : xi 35 70 = some (.getfield 71, 0, 248) := rfl
set_option maxRecDepth 1000000 in
theorem f_35_78 : xi 35 78 = some (.getfield 76, 1, 251) := rfl
set_option maxRecDepth 1000000 in
theorem f_35_84 : xi 35 84 = some (.getfield 79, 3, 257) := rfl
set_option maxRecDepth 1000000 in
theorem f_35_87 : xi 35 87 = some (.invokevirtual 82, 37, 621) := rfl
set_option maxRecDepth 1000000 in
theorem f_35_93 : xi 35 93 = some (.getfield 76, 1, 251) := rfl
set_option maxRecDepth 1000000 in
theorem f_35_101 : xi 35 101 = some (.getfield 71, 0, 248) := rfl
set_option maxRecDepth 1000000 in
theorem f_35_107 : xi 35 107 = some (.getfield 86, 2, 254) := rfl
set_option maxRecDepth 1000000 in
theorem f_35_111 : xi 35 111 = some (.invokevirtual 82, 37, 621) := rfl
set_option maxRecDepth 1000000 in
theorem f_35_127 : xi 35 127 = some (.if_icmp .ge 15, 0, 0) := rfl
set_option maxRecDepth 1000000 in
theorem f_35_133 : xi 35 133 = some (.invokevirtual 89, 36, 626) := rfl
set_option maxRecDepth 1000000 in
theorem f_35_144 : xi 35 144 = some (.putfield 27, 25, 228) := rfl
set_option maxRecDepth 1000000 in
theorem f_35_154 : xi 35 154 = some (.if_icmp .ge 41, 0, 0) := rfl
set_option maxRecDepth 1000000 in
theorem f_35_159 : xi 35 159 = some (.getfield 27, 25, 228) := rfl
set_option maxRecDepth 1000000 in
theorem f_35_162 : xi 35 162 = some (.ifCond .eq 23, 0, 0) := rfl
set_option maxRecDepth 1000000 in
theorem f_35_166 : xi 35 166 = some (.getfield 24, 24, 227) := rfl
set_option maxRecDepth 1000000 in
theorem f_35_177 : xi 35 177 = some (.iaload, 0, 0) := rfl
set_option maxRecDepth 1000000 in
theorem f_35_178 : xi 35 178 = some (.ifCond .lt 7, 0, 0) := rfl
set_option maxRecDepth 1000000 in
theorem f_35_186 : xi 35 186 = some (.putfield 27, 25, 228) := rfl
set_option maxRecDepth 1000000 in
theorem f_35_195 : xi 35 195 = some (.return_, 0, 0) := rfl
theorem m_36 : xme 36 = some xe_36 := rfl
theorem f_36_5 : xi 36 5 = some (.if_icmp .ge 56, 0, 0) := rfl
theorem f_36_13 : xi 36 13 = some (.if_icmp .ge 42, 0, 0) := rfl
theorem f_36_24 : xi 36 24 = some (.getfield 24, 24, 227) := rfl
theorem f_36_33 : xi 36 33 = some (.iaload, 0, 0) := rfl
theorem f_36_35 : xi 36 35 = some (.getfield 24, 24, 227) := rfl
theorem f_36_44 : xi 36 44 = some (.iaload, 0, 0) := rfl
theorem f_36_46 : xi 36 46 = some (.invokevirtual 82, 37, 621) := rfl
theorem f_36_61 : xi 36 61 = some (.return_, 0, 0) := rfl
theorem m_37 : xme 37 = some xe_37 := rfl
theorem f_37_1 : xi 37 1 = some (.getfield 24, 24, 227) := rfl
theorem f_37_6 : xi 37 6 = some (.getfield 24, 24, 227) := rfl
theorem f_37_10 : xi 37 10 = some (.iaload, 0, 0) := rfl
theorem f_37_12 : xi 37 12 = some (.invokestatic 68, 9998, 625) := rfl
theorem f_37_15 : xi 37 15 = some (.iastore, 0, 0) := rfl
theorem f_37_16 : xi 37 16 = some (.return_, 0, 0) := rfl
theorem m_38 : xme 38 = some xe_38 := rfl
theorem f_38_1 : xi 38 1 = some (.getfield 27, 25, 228) := rfl
theorem f_38_10 : xi 38 10 = some (.if_icmp .ge 138, 0, 0) := rfl
theorem f_38_14 : xi 38 14 = some (.getfield 18, 22, 223) := rfl
theorem f_38_19 : xi 38 19 = some (.getfield 9, 20, 219) := rfl
theorem f_38_23 : xi 38 23 = some (.iaload, 0, 0) := rfl
theorem f_38_24 : xi 38 24 = some (.iastore, 0, 0) := rfl
theorem f_38_26 : xi 38 26 = some (.getfield 21, 23, 225) := rfl
theorem f_38_31 : xi 38 31 = some (.getfield 15, 21, 221) := rfl
theorem f_38_35 : xi 38 35 = some (.iaload, 0, 0) := rfl
theorem f_38_36 : xi 38 36 = some (.iastore, 0, 0) := rfl
theorem f_38_42 : xi 38 42 = some (.if_icmp .ge 75, 0, 0) := rfl
theorem f_38_46 : xi 38 46 = some (.getfield 18, 22, 223) := rfl
theorem f_38_51 : xi 38 51 = some (.getfield 18, 22, 223) := rfl
theorem f_38_55 : xi 38 55 = some (.iaload, 0, 0) := rfl
theorem f_38_57 : xi 38 57 = some (.getfield 9, 20, 219) := rfl
theorem f_38_61 : xi 38 61 = some (.iaload, 0, 0) := rfl
set_option maxRecDepth 1000000 in
theorem f_38_63 : xi 38 63 = some (.getfield 24, 24, 227) := rfl
set_option maxRecDepth 1000000 in
theorem f_38_72 : xi 38 72 = some (.iaload, 0, 0) := rfl
set_option maxRecDepth 1000000 in
theorem f_38_74 : xi 38 74 = some (.invokestatic 59, 9997, 642) := rfl
set_option maxRecDepth 1000000 in
theorem f_38_77 : xi 38 77 = some (.iastore, 0, 0) := rfl
set_option maxRecDepth 1000000 in
theorem f_38_79 : xi 38 79 = some (.getfield 21, 23, 225) := rfl
set_option maxRecDepth 1000000 in
theorem f_38_84 : xi 38 84 = some (.getfield 21, 23, 225) := rfl
set_option maxRecDepth 1000000 in
theorem f_38_88 : xi 38 88 = some (.iaload, 0, 0) := rfl
set_option maxRecDepth 1000000 in
theorem f_38_90 : xi 38 90 = some (.getfield 15, 21, 221) := rfl
set_option maxRecDepth 1000000 in
theorem f_38_94 : xi 38 94 = some (.iaload, 0, 0) := rfl
set_option maxRecDepth 1000000 in
theorem f_38_96 : xi 38 96 = some (.getfield 24, 24, 227) := rfl
set_option maxRecDepth 1000000 in
theorem f_38_105 : xi 38 105 = some (.iaload, 0, 0) := rfl
set_option maxRecDepth 1000000 in
theorem f_38_107 : xi 38 107 = some (.invokestatic 68, 9998, 625) := rfl
set_option maxRecDepth 1000000 in
theorem f_38_110 : xi 38 110 = some (.iastore, 0, 0) := rfl
set_option maxRecDepth 1000000 in
theorem f_38_118 : xi 38 118 = some (.ifCond .eq 22, 0, 0) := rfl
set_option maxRecDepth 1000000 in
theorem f_38_122 : xi 38 122 = some (.getfield 9, 20, 219) := rfl
set_option maxRecDepth 1000000 in
theorem f_38_126 : xi 38 126 = some (.iaload, 0, 0) := rfl
set_option maxRecDepth 1000000 in
theorem f_38_128 : xi 38 128 = some (.getfield 21, 23, 225) := rfl
set_option maxRecDepth 1000000 in
theorem f_38_132 : xi 38 132 = some (.iaload, 0, 0) := rfl
set_option maxRecDepth 1000000 in
theorem f_38_133 : xi 38 133 = some (.if_icmp .gt 7, 0, 0) := rfl
set_option maxRecDepth 1000000 in
theorem f_38_149 : xi 38 149 = some (.ireturn, 0, 0) := rfl
theorem m_39 : xme 39 = some xe_39 := rfl
theorem f_39_1 : xi 39 1 = some (.getfield 24, 24, 227) := rfl
theorem f_39_10 : xi 39 10 = some (.iaload, 0, 0) := rfl
theorem f_39_12 : xi 39 12 = some (.getfield 21, 23, 225) := rfl
theorem f_39_16 : xi 39 16 = some (.iaload, 0, 0) := rfl
theorem f_39_18 : xi 39 18 = some (.getfield 18, 22, 223) := rfl
theorem f_39_22 : xi 39 22 = some (.iaload, 0, 0) := rfl
theorem f_39_24 : xi 39 24 = some (.invokestatic 68, 9998, 625) := rfl
theorem f_39_27 : xi 39 27 = some (.ireturn, 0, 0) := rfl
theorem m_40 : xme 40 = some xe_40 := rfl
theorem f_40_1 : xi 40 1 = some (.getfield 21, 23, 225) := rfl
theorem f_40_5 : xi 40 5 = some (.iaload, 0, 0) := rfl
theorem f_40_7 : xi 40 7 = some (.getfield 18, 22, 223) := rfl
theorem f_40_11 : xi 40 11 = some (.iaload, 0, 0) := rfl
theorem f_40_15 : xi 40 15 = some (.ireturn, 0, 0) := rfl
theorem m_41 : xme 41 = some xe_41 := rfl
theorem f_41_10 : xi 41 10 = some (.putfield 9, 26, 168) := rfl
theorem f_41_15 : xi 41 15 = some (.putfield 15, 27, 169) := rfl
theorem f_41_22 : xi 41 22 = some (.putfield 19, 28, 170) := rfl
theorem f_41_27 : xi 41 27 = some (.putfield 22, 29, 171) := rfl
theorem f_41_30 : xi 41 30 = some (.return_, 0, 0) := rfl
theorem m_42 : xme 42 = some xe_42 := rfl
theorem f_42_2 : xi 42 2 = some (.putfield 15, 27, 169) := rfl
theorem f_42_7 : xi 42 7 = some (.putfield 22, 29, 171) := rfl
theorem f_42_10 : xi 42 10 = some (.return_, 0, 0) := rfl
theorem m_43 : xme 43 = some xe_43 := rfl
theorem f_43_1 : xi 43 1 = some (.getfield 15, 27, 169) := rfl
theorem f_43_5 : xi 43 5 = some (.getfield 9, 26, 168) := rfl
theorem f_43_8 : xi 43 8 = some (.arraylength, 0, 0) := rfl
theorem f_43_9 : xi 43 9 = some (.if_icmp .ge 23, 0, 0) := rfl
theorem f_43_13 : xi 43 13 = some (.getfield 9, 26, 168) := rfl
theorem f_43_17 : xi 43 17 = some (.getfield 15, 27, 169) := rfl
theorem f_43_21 : xi 43 21 = some (.iastore, 0, 0) := rfl
theorem f_43_24 : xi 43 24 = some (.getfield 15, 27, 169) := rfl
theorem f_43_29 : xi 43 29 = some (.putfield 15, 27, 169) := rfl
theorem f_43_32 : xi 43 32 = some (.return_, 0, 0) := rfl
theorem m_44 : xme 44 = some xe_44 := rfl
theorem f_44_1 : xi 44 1 = some (.getfield 19, 28, 170) := rfl
theorem f_44_6 : xi 44 6 = some (.getfield 15, 27, 169) := rfl
theorem f_44_9 : xi 44 9 = some (.iastore, 0, 0) := rfl
theorem f_44_11 : xi 44 11 = some (.ifCond .ne 61, 0, 0) := rfl
theorem f_44_16 : xi 44 16 = some (.putfield 22, 29, 171) := rfl
theorem f_44_23 : xi 44 23 = some (.getfield 15, 27, 169) := rfl
theorem f_44_26 : xi 44 26 = some (.if_icmp .ge 46, 0, 0) := rfl
theorem f_44_31 : xi 44 31 = some (.getfield 22, 29, 171) := rfl
theorem f_44_35 : xi 44 35 = some (.getfield 9, 26, 168) := rfl
theorem f_44_39 : xi 44 39 = some (.iaload, 0, 0) := rfl
theorem f_44_43 : xi 44 43 = some (.if_icmp .lt 18, 0, 0) := rfl
theorem f_44_48 : xi 44 48 = some (.getfield 9, 26, 168) := rfl
theorem f_44_52 : xi 44 52 = some (.iaload, 0, 0) := rfl
theorem f_44_63 : xi 44 63 = some (.putfield 22, 29, 171) := rfl
theorem f_44_72 : xi 44 72 = some (.return_, 0, 0) := rfl
theorem m_45 : xme 45 = some xe_45 := rfl
theorem f_45_2 : xi 45 2 = some (.getfield 15, 27, 169) := rfl
theorem f_45_5 : xi 45 5 = some (.putfield 15, 27, 169) := rfl
theorem f_45_10 : xi 45 10 = some (.getfield 22, 29, 171) := rfl
theorem f_45_13 : xi 45 13 = some (.putfield 22, 29, 171) := rfl
theorem f_45_17 : xi 45 17 = some (.getfield 9, 26, 168) := rfl
theorem f_45_22 : xi 45 22 = some (.getfield 9, 26, 168) := rfl
theorem f_45_27 : xi 45 27 = some (.getfield 9, 26, 168) := rfl
theorem f_45_30 : xi 45 30 = some (.arraylength, 0, 0) := rfl
theorem f_45_31 : xi 45 31 = some (.invokestatic 25, 9999, 482) := rfl
theorem f_45_35 : xi 45 35 = some (.getfield 19, 28, 170) := rfl
theorem f_45_40 : xi 45 40 = some (.getfield 19, 28, 170) := rfl
theorem f_45_45 : xi 45 45 = some (.getfield 19, 28, 170) := rfl
theorem f_45_48 : xi 45 48 = some (.arraylength, 0, 0) := rfl
theorem f_45_49 : xi 45 49 = some (.invokestatic 25, 9999, 482) := rfl
theorem f_45_52 : xi 45 52 = some (.return_, 0, 0) := rfl
theorem m_46 : xme 46 = some xe_46 := rfl
theorem f_46_4 : xi 46 4 = some (.ifCond .ne 7, 0, 0) := rfl
theorem f_46_12 : xi 46 12 = some (.getfield 19, 28, 170) := rfl
theorem f_46_18 : xi 46 18 = some (.iaload, 0, 0) := rfl
theorem f_46_24 : xi 46 24 = some (.getfield 19, 28, 170) := rfl
theorem f_46_28 : xi 46 28 = some (.iaload, 0, 0) := rfl
theorem f_46_29 : xi 46 29 = some (.if_icmp .ge 160, 0, 0) := rfl
theorem f_46_33 : xi 46 33 = some (.getfield 9, 26, 168) := rfl
theorem f_46_38 : xi 46 38 = some (.iaload, 0, 0) := rfl
theorem f_46_43 : xi 46 43 = some (.ifCond .lt 43, 0, 0) := rfl
theorem f_46_49 : xi 46 49 = some (.arraylength, 0, 0) := rfl
theorem f_46_50 : xi 46 50 = some (.if_icmp .lt 5, 0, 0) := rfl
theorem f_46_54 : xi 46 54 = some (.ireturn, 0, 0) := rfl
theorem f_46_63 : xi 46 63 = some (.if_icmp .ge 8, 0, 0) := rfl
set_option maxRecDepth 1000000 in
theorem f_46_78 : xi 46 78 = some (.iaload, 0, 0) := rfl
set_option maxRecDepth 1000000 in
theorem f_46_79 : xi 46 79 = some (.iastore, 0, 0) := rfl
set_option maxRecDepth 1000000 in
theorem f_46_90 : xi 46 90 = some (.if_icmp .eq 10, 0, 0) := rfl
set_option maxRecDepth 1000000 in
theorem f_46_97 : xi 46 97 = some (.if_icmp .ne 54, 0, 0) := rfl
set_option maxRecDepth 1000000 in
theorem f_46_103 : xi 46 103 = some (.if_icmp .ge 5, 0, 0) := rfl
set_option maxRecDepth 1000000 in
theorem f_46_107 : xi 46 107 = some (.ireturn, 0, 0) := rfl
set_option maxRecDepth 1000000 in
theorem f_46_117 : xi 46 117 = some (.if_icmp .ne 13, 0, 0) := rfl
set_option maxRecDepth 1000000 in
theorem f_46_125 : xi 46 125 = some (.iaload, 0, 0) := rfl
set_option maxRecDepth 1000000 in
theorem f_46_135 : xi 46 135 = some (.iaload, 0, 0) := rfl
set_option maxRecDepth 1000000 in
theorem f_46_136 : xi 46 136 = some (.ifCond .ne 7, 0, 0) := rfl
set_option maxRecDepth 1000000 in
theorem f_46_144 : xi 46 144 = some (.invokestatic 31, 48, 704) := rfl
set_option maxRecDepth 1000000 in
theorem f_46_147 : xi 46 147 = some (.iastore, 0, 0) := rfl
set_option maxRecDepth 1000000 in
theorem f_46_154 : xi 46 154 = some (.if_icmp .ge 5, 0, 0) := rfl
set_option maxRecDepth 1000000 in
theorem f_46_158 : xi 46 158 = some (.ireturn, 0, 0) := rfl
set_option maxRecDepth 1000000 in
theorem f_46_174 : xi 46 174 = some (.iaload, 0, 0) := rfl
set_option maxRecDepth 1000000 in
theorem f_46_178 : xi 46 178 = some (.iaload, 0, 0) := rfl
set_option maxRecDepth 1000000 in
theorem f_46_179 : xi 46 179 = some (.invokestatic 35, 47, 707) := rfl
set_option maxRecDepth 1000000 in
theorem f_46_182 : xi 46 182 = some (.iastore, 0, 0) := rfl
set_option maxRecDepth 1000000 in
theorem f_46_192 : xi 46 192 = some (.if_icmp .ne 9, 0, 0) := rfl
set_option maxRecDepth 1000000 in
theorem f_46_197 : xi 46 197 = some (.iaload, 0, 0) := rfl
set_option maxRecDepth 1000000 in
theorem f_46_202 : xi 46 202 = some (.ireturn, 0, 0) := rfl
theorem m_47 : xme 47 = some xe_47 := rfl
theorem f_47_1 : xi 47 1 = some (.tableswitch 113 (-7) (-1) #[109, 105, 91, 77, 113, 60, 43], 0, 0) := rfl
theorem f_47_45 : xi 47 45 = some (.ifCond .ne 7, 0, 0) := rfl
theorem f_47_49 : xi 47 49 = some (.ifCond .eq 7, 0, 0) := rfl
theorem f_47_57 : xi 47 57 = some (.invokestatic 31, 48, 704) := rfl
theorem f_47_60 : xi 47 60 = some (.ireturn, 0, 0) := rfl
theorem f_47_62 : xi 47 62 = some (.ifCond .eq 11, 0, 0) := rfl
theorem f_47_66 : xi 47 66 = some (.ifCond .eq 7, 0, 0) := rfl
theorem f_47_74 : xi 47 74 = some (.invokestatic 31, 48, 704) := rfl
theorem f_47_77 : xi 47 77 = some (.ireturn, 0, 0) := rfl
theorem f_47_80 : xi 47 80 = some (.if_icmp .ge 7, 0, 0) := rfl
theorem f_47_88 : xi 47 88 = some (.invokestatic 31, 48, 704) := rfl
theorem f_47_91 : xi 47 91 = some (.ireturn, 0, 0) := rfl
theorem f_47_94 : xi 47 94 = some (.if_icmp .ne 7, 0, 0) := rfl
theorem f_47_102 : xi 47 102 = some (.invokestatic 31, 48, 704) := rfl
theorem f_47_105 : xi 47 105 = some (.ireturn, 0, 0) := rfl
theorem f_47_109 : xi 47 109 = some (.ireturn, 0, 0) := rfl
set_option maxRecDepth 1000000 in
theorem f_47_113 : xi 47 113 = some (.ireturn, 0, 0) := rfl
set_option maxRecDepth 1000000 in
theorem f_47_117 : xi 47 117 = some (.ireturn, 0, 0) := rfl
theorem m_48 : xme 48 = some xe_48 := rfl
theorem f_48_1 : xi 48 1 = some (.ifCond .eq 7, 0, 0) := rfl
theorem f_48_9 : xi 48 9 = some (.ireturn, 0, 0) := rfl
theorem m_49 : xme 49 = some xe_49 := rfl
theorem f_49_10 : xi 49 10 = some (.putfield 11, 30, 128) := rfl
theorem f_49_15 : xi 49 15 = some (.putfield 17, 31, 131) := rfl
theorem f_49_20 : xi 49 20 = some (.putfield 21, 32, 134) := rfl
theorem f_49_25 : xi 49 25 = some (.putfield 24, 33, 136) := rfl
theorem f_49_30 : xi 49 30 = some (.putfield 27, 34, 139) := rfl
theorem f_49_38 : xi 49 38 = some (.if_icmp .ge 22, 0, 0) := rfl
theorem f_49_42 : xi 49 42 = some (.getfield 11, 30, 128) := rfl
theorem f_49_60 : xi 49 60 = some (.return_, 0, 0) := rfl
theorem m_50 : xme 50 = some xe_50 := rfl
theorem f_50_2 : xi 50 2 = some (.getfield 17, 31, 131) := rfl
theorem f_50_5 : xi 50 5 = some (.putfield 17, 31, 131) := rfl
theorem f_50_10 : xi 50 10 = some (.getfield 21, 32, 134) := rfl
theorem f_50_13 : xi 50 13 = some (.putfield 21, 32, 134) := rfl
theorem f_50_18 : xi 50 18 = some (.getfield 24, 33, 136) := rfl
theorem f_50_21 : xi 50 21 = some (.putfield 24, 33, 136) := rfl
theorem f_50_26 : xi 50 26 = some (.getfield 27, 34, 139) := rfl
theorem f_50_29 : xi 50 29 = some (.putfield 27, 34, 139) := rfl
theorem f_50_36 : xi 50 36 = some (.getfield 17, 31, 131) := rfl
theorem f_50_39 : xi 50 39 = some (.if_icmp .ge 49, 0, 0) := rfl
theorem f_50_43 : xi 50 43 = some (.getfield 11, 30, 128) := rfl
theorem f_50_47 : xi 50 47 = some (.aaload, 0, 0) := rfl
theorem f_50_50 : xi 50 50 = some (.getfield 11, 30, 128) := rfl
theorem f_50_54 : xi 50 54 = some (.aaload, 0, 0) := rfl
theorem f_50_58 : xi 50 58 = some (.getfield 31, 12, 102) := rfl
theorem f_50_63 : xi 50 63 = some (.getfield 34, 13, 105) := rfl
theorem f_50_68 : xi 50 68 = some (.getfield 37, 14, 109) := rfl
set_option maxRecDepth 1000000 in
theorem f_50_72 : xi 50 72 = some (.getfield 40, 15, 112) := rfl
set_option maxRecDepth 1000000 in
theorem f_50_76 : xi 50 76 = some (.getfield 43, 16, 115) := rfl
set_option maxRecDepth 1000000 in
theorem f_50_79 : xi 50 79 = some (.invokevirtual 46, 22, 841) := rfl
set_option maxRecDepth 1000000 in
theorem f_50_88 : xi 50 88 = some (.return_, 0, 0) := rfl
theorem m_51 : xme 51 = some xe_51 := rfl
theorem f_51_12 : xi 51 12 = some (.putfield 10, 35, 485) := rfl
theorem f_51_23 : xi 51 23 = some (.putfield 16, 36, 486) := rfl
theorem f_51_28 : xi 51 28 = some (.putfield 19, 37, 487) := rfl
theorem f_51_37 : xi 51 37 = some (.putfield 25, 38, 488) := rfl
theorem f_51_46 : xi 51 46 = some (.putfield 31, 39, 489) := rfl
theorem f_51_51 : xi 51 51 = some (.putfield 35, 40, 490) := rfl
theorem f_51_62 : xi 51 62 = some (.putfield 42, 41, 491) := rfl
theorem f_51_70 : xi 51 70 = some (.putfield 48, 42, 492) := rfl
theorem f_51_81 : xi 51 81 = some (.putfield 55, 43, 493) := rfl
set_option maxRecDepth 1000000 in
theorem f_51_89 : xi 51 89 = some (.putfield 59, 44, 494) := rfl
set_option maxRecDepth 1000000 in
theorem f_51_98 : xi 51 98 = some (.putfield 63, 45, 495) := rfl
set_option maxRecDepth 1000000 in
theorem f_51_103 : xi 51 103 = some (.putfield 66, 46, 496) := rfl
set_option maxRecDepth 1000000 in
theorem f_51_108 : xi 51 108 = some (.putfield 69, 47, 497) := rfl
set_option maxRecDepth 1000000 in
theorem f_51_116 : xi 51 116 = some (.if_icmp .ge 22, 0, 0) := rfl
set_option maxRecDepth 1000000 in
theorem f_51_120 : xi 51 120 = some (.getfield 25, 38, 488) := rfl
set_option maxRecDepth 1000000 in
theorem f_51_143 : xi 51 143 = some (.if_icmp .ge 22, 0, 0) := rfl
set_option maxRecDepth 1000000 in
theorem f_51_147 : xi 51 147 = some (.getfield 31, 39, 489) := rfl
set_option maxRecDepth 1000000 in
theorem f_51_169 : xi 51 169 = some (.if_icmp .ge 22, 0, 0) := rfl
set_option maxRecDepth 1000000 in
theorem f_51_173 : xi 51 173 = some (.getfield 48, 42, 492) := rfl
set_option maxRecDepth 1000000 in
theorem f_51_196 : xi 51 196 = some (.invokevirtual 77, 192, 288) := rfl
set_option maxRecDepth 1000000 in
theorem f_51_199 : xi 51 199 = some (.if_icmp .ge 22, 0, 0) := rfl
set_option maxRecDepth 1000000 in
theorem f_51_203 : xi 51 203 = some (.getfield 42, 41, 491) := rfl
set_option maxRecDepth 1000000 in
theorem f_51_209 : xi 51 209 = some (.invokevirtual 83, 193, 298) := rfl
set_option maxRecDepth 1000000 in
theorem f_51_212 : xi 51 212 = some (.invokevirtual 87, 5, 336) := rfl
set_option maxRecDepth 1000000 in
theorem f_51_222 : xi 51 222 = some (.getfield 42, 41, 491) := rfl
set_option maxRecDepth 1000000 in
theorem f_51_225 : xi 51 225 = some (.invokevirtual 91, 6, 340) := rfl
set_option maxRecDepth 1000000 in
theorem f_51_230 : xi 51 230 = some (.getfield 31, 39, 489) := rfl
set_option maxRecDepth 1000000 in
theorem f_51_234 : xi 51 234 = some (.aaload, 0, 0) := rfl
set_option maxRecDepth 1000000 in
theorem f_51_236 : xi 51 236 = some (.getfield 42, 41, 491) := rfl
set_option maxRecDepth 1000000 in
theorem f_51_239 : xi 51 239 = some (.getfield 95, 6, 187) := rfl
set_option maxRecDepth 1000000 in
theorem f_51_242 : xi 51 242 = some (.invokevirtual 99, 45, 478) := rfl
set_option maxRecDepth 1000000 in
theorem f_51_247 : xi 51 247 = some (.putfield 35, 40, 490) := rfl
set_option maxRecDepth 1000000 in
theorem f_51_250 : xi 51 250 = some (.return_, 0, 0) := rfl
theorem m_52 : xme 52 = some xe_52 := rfl
theorem f_52_1 : xi 52 1 = some (.tableswitch 84 0 5 #[39, 47, 55, 63, 68, 76], 0, 0) := rfl
theorem f_52_41 : xi 52 41 = some (.getfield 10, 35, 485) := rfl
theorem f_52_44 : xi 52 44 = some (.getfield 103, 31, 133) := rfl
theorem f_52_47 : xi 52 47 = some (.ireturn, 0, 0) := rfl
theorem f_52_49 : xi 52 49 = some (.getfield 10, 35, 485) := rfl
theorem f_52_52 : xi 52 52 = some (.getfield 106, 32, 135) := rfl
theorem f_52_55 : xi 52 55 = some (.ireturn, 0, 0) := rfl
theorem f_52_57 : xi 52 57 = some (.getfield 10, 35, 485) := rfl
theorem f_52_60 : xi 52 60 = some (.getfield 109, 33, 137) := rfl
theorem f_52_63 : xi 52 63 = some (.ireturn, 0, 0) := rfl
theorem f_52_65 : xi 52 65 = some (.getfield 35, 40, 490) := rfl
theorem f_52_68 : xi 52 68 = some (.ireturn, 0, 0) := rfl
theorem f_52_70 : xi 52 70 = some (.getfield 10, 35, 485) := rfl
theorem f_52_73 : xi 52 73 = some (.getfield 112, 34, 140) := rfl
theorem f_52_76 : xi 52 76 = some (.ireturn, 0, 0) := rfl
theorem f_52_78 : xi 52 78 = some (.getfield 42, 41, 491) := rfl
theorem f_52_81 : xi 52 81 = some (.getfield 115, 5, 185) := rfl
theorem f_52_84 : xi 52 84 = some (.ireturn, 0, 0) := rfl
theorem f_52_87 : xi 52 87 = some (.ireturn, 0, 0) := rfl
theorem m_53 : xme 53 = some xe_53 := rfl
theorem f_53_4 : xi 53 4 = some (.invokestatic 118, 90, 534) := rfl
theorem f_53_7 : xi 53 7 = some (.ifCond .ne 6, 0, 0) := rfl
theorem f_53_12 : xi 53 12 = some (.ireturn, 0, 0) := rfl
theorem f_53_14 : xi 53 14 = some (.getfield 10, 35, 485) := rfl
theorem f_53_17 : xi 53 17 = some (.getfield 109, 33, 137) := rfl
theorem f_53_22 : xi 53 22 = some (.getfield 10, 35, 485) := rfl
theorem f_53_26 : xi 53 26 = some (.putfield 109, 33, 137) := rfl
theorem f_53_30 : xi 53 30 = some (.ireturn, 0, 0) := rfl
theorem m_54 : xme 54 = some xe_54 := rfl
theorem f_54_3 : xi 54 3 = some (.invokestatic 118, 90, 534) := rfl
theorem f_54_6 : xi 54 6 = some (.ifCond .eq 41, 0, 0) := rfl
theorem f_54_10 : xi 54 10 = some (.invokestatic 122, 91, 541) := rfl
theorem f_54_13 : xi 54 13 = some (.ifCond .eq 34, 0, 0) := rfl
theorem f_54_17 : xi 54 17 = some (.invokestatic 122, 91, 541) := rfl
theorem f_54_20 : xi 54 20 = some (.ifCond .eq 27, 0, 0) := rfl
theorem f_54_25 : xi 54 25 = some (.invokestatic 122, 91, 541) := rfl
theorem f_54_28 : xi 54 28 = some (.ifCond .eq 19, 0, 0) := rfl
theorem f_54_33 : xi 54 33 = some (.invokestatic 122, 91, 541) := rfl
theorem f_54_36 : xi 54 36 = some (.ifCond .eq 11, 0, 0) := rfl
theorem f_54_41 : xi 54 41 = some (.invokestatic 122, 91, 541) := rfl
theorem f_54_44 : xi 54 44 = some (.ifCond .ne 6, 0, 0) := rfl
theorem f_54_49 : xi 54 49 = some (.ireturn, 0, 0) := rfl
theorem f_54_51 : xi 54 51 = some (.getfield 42, 41, 491) := rfl
theorem f_54_54 : xi 54 54 = some (.getfield 115, 5, 185) := rfl
theorem f_54_62 : xi 54 62 = some (.if_icmp .le 6, 0, 0) := rfl
theorem f_54_67 : xi 54 67 = some (.ireturn, 0, 0) := rfl
theorem f_54_74 : xi 54 74 = some (.if_icmp .ge 59, 0, 0) := rfl
theorem f_54_78 : xi 54 78 = some (.getfield 42, 41, 491) := rfl
theorem f_54_83 : xi 54 83 = some (.ifCond .ne 7, 0, 0) := rfl
set_option maxRecDepth 1000000 in
theorem f_54_93 : xi 54 93 = some (.if_icmp .ne 7, 0, 0) := rfl
set_option maxRecDepth 1000000 in
theorem f_54_103 : xi 54 103 = some (.if_icmp .ne 8, 0, 0) := rfl
set_option maxRecDepth 1000000 in
theorem f_54_114 : xi 54 114 = some (.if_icmp .ne 8, 0, 0) := rfl
set_option maxRecDepth 1000000 in
theorem f_54_124 : xi 54 124 = some (.invokevirtual 87, 5, 336) := rfl
set_option maxRecDepth 1000000 in
theorem f_54_134 : xi 54 134 = some (.getfield 42, 41, 491) := rfl
set_option maxRecDepth 1000000 in
theorem f_54_137 : xi 54 137 = some (.getfield 115, 5, 185) := rfl
set_option maxRecDepth 1000000 in
theorem f_54_140 : xi 54 140 = some (.ireturn, 0, 0) := rfl
theorem m_55 : xme 55 = some xe_55 := rfl
theorem f_55_1 : xi 55 1 = some (.getfield 35, 40, 490) := rfl
theorem f_55_6 : xi 55 6 = some (.if_icmp .lt 6, 0, 0) := rfl
theorem f_55_11 : xi 55 11 = some (.ireturn, 0, 0) := rfl
theorem f_55_13 : xi 55 13 = some (.getfield 42, 41, 491) := rfl
theorem f_55_16 : xi 55 16 = some (.invokevirtual 91, 6, 340) := rfl
theorem f_55_19 : xi 55 19 = some (.ifCond .ne 14, 0, 0) := rfl
theorem f_55_25 : xi 55 25 = some (.getfield 42, 41, 491) := rfl
theorem f_55_28 : xi 55 28 = some (.getfield 126, 7, 189) := rfl
theorem f_55_32 : xi 55 32 = some (.ireturn, 0, 0) := rfl
theorem f_55_34 : xi 55 34 = some (.getfield 31, 39, 489) := rfl
theorem f_55_38 : xi 55 38 = some (.getfield 35, 40, 490) := rfl
theorem f_55_41 : xi 55 41 = some (.aaload, 0, 0) := rfl
theorem f_55_43 : xi 55 43 = some (.getfield 42, 41, 491) := rfl
theorem f_55_46 : xi 55 46 = some (.getfield 95, 6, 187) := rfl
theorem f_55_49 : xi 55 49 = some (.invokevirtual 99, 45, 478) := rfl
theorem f_55_54 : xi 55 54 = some (.getfield 35, 40, 490) := rfl
theorem f_55_59 : xi 55 59 = some (.putfield 35, 40, 490) := rfl
theorem f_55_63 : xi 55 63 = some (.getfield 35, 40, 490) := rfl
theorem f_55_68 : xi 55 68 = some (.ireturn, 0, 0) := rfl
theorem m_56 : xme 56 = some xe_56 := rfl
theorem f_56_2 : xi 56 2 = some (.invokevirtual 129, 94, 552) := rfl
theorem f_56_5 : xi 56 5 = some (.ifCond .ne 6, 0, 0) := rfl
theorem f_56_10 : xi 56 10 = some (.ireturn, 0, 0) := rfl
theorem f_56_12 : xi 56 12 = some (.getfield 10, 35, 485) := rfl
theorem f_56_15 : xi 56 15 = some (.getfield 112, 34, 140) := rfl
theorem f_56_20 : xi 56 20 = some (.getfield 10, 35, 485) := rfl
theorem f_56_24 : xi 56 24 = some (.putfield 112, 34, 140) := rfl
theorem f_56_28 : xi 56 28 = some (.ireturn, 0, 0) := rfl
theorem m_57 : xme 57 = some xe_57 := rfl
theorem f_57_6 : xi 57 6 = some (.invokevirtual 132, 96, 560) := rfl
theorem f_57_9 : xi 57 9 = some (.ireturn, 0, 0) := rfl
theorem m_58 : xme 58 = some xe_58 := rfl
theorem f_58_1 : xi 58 1 = some (.getfield 10, 35, 485) := rfl
theorem f_58_4 : xi 58 4 = some (.getfield 103, 31, 133) := rfl
theorem f_58_7 : xi 58 7 = some (.ifCond .ne 6, 0, 0) := rfl
theorem f_58_12 : xi 58 12 = some (.ireturn, 0, 0) := rfl
theorem f_58_14 : xi 58 14 = some (.getfield 10, 35, 485) := rfl
theorem f_58_18 : xi 58 18 = some (.getfield 103, 31, 133) := rfl
theorem f_58_23 : xi 58 23 = some (.putfield 103, 31, 133) := rfl
theorem f_58_27 : xi 58 27 = some (.getfield 10, 35, 485) := rfl
theorem f_58_30 : xi 58 30 = some (.getfield 103, 31, 133) := rfl
theorem f_58_33 : xi 58 33 = some (.ireturn, 0, 0) := rfl
theorem m_59 : xme 59 = some xe_59 := rfl
theorem f_59_2 : xi 59 2 = some (.invokevirtual 136, 95, 579) := rfl
theorem f_59_5 : xi 59 5 = some (.ifCond .ne 6, 0, 0) := rfl
theorem f_59_10 : xi 59 10 = some (.ireturn, 0, 0) := rfl
theorem f_59_12 : xi 59 12 = some (.getfield 10, 35, 485) := rfl
theorem f_59_15 : xi 59 15 = some (.getfield 139, 30, 130) := rfl
theorem f_59_19 : xi 59 19 = some (.aaload, 0, 0) := rfl
theorem f_59_22 : xi 59 22 = some (.tableswitch 91 0 6 #[42, 47, 52, 57, 62, 67, 79], 0, 0) := rfl
theorem f_59_65 : xi 59 65 = some (.getfield 143, 12, 103) := rfl
theorem f_59_68 : xi 59 68 = some (.ireturn, 0, 0) := rfl
theorem f_59_70 : xi 59 70 = some (.getfield 148, 14, 110) := rfl
theorem f_59_73 : xi 59 73 = some (.ireturn, 0, 0) := rfl
theorem f_59_75 : xi 59 75 = some (.getfield 151, 15, 113) := rfl
theorem f_59_78 : xi 59 78 = some (.ireturn, 0, 0) := rfl
theorem f_59_80 : xi 59 80 = some (.getfield 154, 16, 116) := rfl
theorem f_59_83 : xi 59 83 = some (.ireturn, 0, 0) := rfl
theorem f_59_85 : xi 59 85 = some (.getfield 157, 13, 106) := rfl
theorem f_59_88 : xi 59 88 = some (.ireturn, 0, 0) := rfl
theorem f_59_91 : xi 59 91 = some (.getfield 10, 35, 485) := rfl
theorem f_59_94 : xi 59 94 = some (.getfield 109, 33, 137) := rfl
theorem f_59_97 : xi 59 97 = some (.invokevirtual 160, 23, 583) := rfl
theorem f_59_100 : xi 59 100 = some (.ireturn, 0, 0) := rfl
theorem f_59_103 : xi 59 103 = some (.getfield 10, 35, 485) := rfl
theorem f_59_106 : xi 59 106 = some (.getfield 109, 33, 137) := rfl
theorem f_59_109 : xi 59 109 = some (.invokevirtual 164, 24, 593) := rfl
theorem f_59_112 : xi 59 112 = some (.ireturn, 0, 0) := rfl
set_option maxRecDepth 1000000 in
theorem f_59_115 : xi 59 115 = some (.ireturn, 0, 0) := rfl
theorem m_60 : xme 60 = some xe_60 := rfl
theorem f_60_1 : xi 60 1 = some (.invokestatic 167, 92, 564) := rfl
theorem f_60_4 : xi 60 4 = some (.ifCond .eq 48, 0, 0) := rfl
theorem f_60_8 : xi 60 8 = some (.invokestatic 167, 92, 564) := rfl
theorem f_60_11 : xi 60 11 = some (.ifCond .eq 41, 0, 0) := rfl
theorem f_60_16 : xi 60 16 = some (.if_icmp .eq 36, 0, 0) := rfl
theorem f_60_26 : xi 60 26 = some (.invokestatic 118, 90, 534) := rfl
theorem f_60_29 : xi 60 29 = some (.ifCond .eq 23, 0, 0) := rfl
theorem f_60_40 : xi 60 40 = some (.invokestatic 118, 90, 534) := rfl
theorem f_60_43 : xi 60 43 = some (.ifCond .eq 9, 0, 0) := rfl
theorem f_60_49 : xi 60 49 = some (.if_icmp .le 6, 0, 0) := rfl
theorem f_60_54 : xi 60 54 = some (.ireturn, 0, 0) := rfl
theorem f_60_56 : xi 60 56 = some (.getfield 10, 35, 485) := rfl
theorem f_60_59 : xi 60 59 = some (.getfield 106, 32, 135) := rfl
theorem f_60_64 : xi 60 64 = some (.if_icmp .lt 6, 0, 0) := rfl
theorem f_60_69 : xi 60 69 = some (.ireturn, 0, 0) := rfl
theorem f_60_71 : xi 60 71 = some (.getfield 25, 38, 488) := rfl
theorem f_60_75 : xi 60 75 = some (.getfield 10, 35, 485) := rfl
theorem f_60_78 : xi 60 78 = some (.getfield 106, 32, 135) := rfl
theorem f_60_81 : xi 60 81 = some (.aaload, 0, 0) := rfl
set_option maxRecDepth 1000000 in
theorem f_60_87 : xi 60 87 = some (.invokevirtual 170, 2, 601) := rfl
set_option maxRecDepth 1000000 in
theorem f_60_91 : xi 60 91 = some (.getfield 10, 35, 485) := rfl
set_option maxRecDepth 1000000 in
theorem f_60_95 : xi 60 95 = some (.getfield 106, 32, 135) := rfl
set_option maxRecDepth 1000000 in
theorem f_60_100 : xi 60 100 = some (.putfield 106, 32, 135) := rfl
set_option maxRecDepth 1000000 in
theorem f_60_104 : xi 60 104 = some (.getfield 10, 35, 485) := rfl
set_option maxRecDepth 1000000 in
theorem f_60_107 : xi 60 107 = some (.getfield 106, 32, 135) := rfl
set_option maxRecDepth 1000000 in
theorem f_60_112 : xi 60 112 = some (.ireturn, 0, 0) := rfl
theorem m_61 : xme 61 = some xe_61 := rfl
theorem f_61_3 : xi 61 3 = some (.getfield 10, 35, 485) := rfl
theorem f_61_6 : xi 61 6 = some (.getfield 106, 32, 135) := rfl
theorem f_61_11 : xi 61 11 = some (.invokestatic 118, 90, 534) := rfl
theorem f_61_14 : xi 61 14 = some (.ifCond .ne 6, 0, 0) := rfl
theorem f_61_19 : xi 61 19 = some (.ireturn, 0, 0) := rfl
theorem f_61_21 : xi 61 21 = some (.getfield 25, 38, 488) := rfl
theorem f_61_25 : xi 61 25 = some (.aaload, 0, 0) := rfl
theorem f_61_28 : xi 61 28 = some (.tableswitch 52 0 3 #[32, 37, 42, 47], 0, 0) := rfl
theorem f_61_61 : xi 61 61 = some (.getfield 173, 0, 249) := rfl
theorem f_61_64 : xi 61 64 = some (.ireturn, 0, 0) := rfl
theorem f_61_66 : xi 61 66 = some (.getfield 176, 1, 252) := rfl
theorem f_61_69 : xi 61 69 = some (.ireturn, 0, 0) := rfl
theorem f_61_71 : xi 61 71 = some (.getfield 179, 2, 255) := rfl
theorem f_61_74 : xi 61 74 = some (.ireturn, 0, 0) := rfl
theorem f_61_76 : xi 61 76 = some (.getfield 180, 3, 258) := rfl
theorem f_61_79 : xi 61 79 = some (.ireturn, 0, 0) := rfl
theorem f_61_82 : xi 61 82 = some (.ireturn, 0, 0) := rfl
theorem m_62 : xme 62 = some xe_62 := rfl
theorem f_62_1 : xi 62 1 = some (.invokevirtual 181, 97, 613) := rfl
theorem f_62_4 : xi 62 4 = some (.ifCond .eq 7, 0, 0) := rfl
theorem f_62_12 : xi 62 12 = some (.ireturn, 0, 0) := rfl
theorem m_63 : xme 63 = some xe_63 := rfl
theorem f_63_1 : xi 63 1 = some (.invokestatic 167, 92, 564) := rfl
theorem f_63_4 : xi 63 4 = some (.ifCond .ne 6, 0, 0) := rfl
theorem f_63_9 : xi 63 9 = some (.ireturn, 0, 0) := rfl
theorem f_63_13 : xi 63 13 = some (.invokestatic 118, 90, 534) := rfl
theorem f_63_16 : xi 63 16 = some (.ifCond .ne 6, 0, 0) := rfl
theorem f_63_21 : xi 63 21 = some (.ireturn, 0, 0) := rfl
theorem f_63_23 : xi 63 23 = some (.invokevirtual 181, 97, 613) := rfl
theorem f_63_29 : xi 63 29 = some (.if_icmp .ne 13, 0, 0) := rfl
theorem f_63_33 : xi 63 33 = some (.getfield 55, 43, 493) := rfl
theorem f_63_36 : xi 63 36 = some (.getfield 184, 20, 220) := rfl
theorem f_63_40 : xi 63 40 = some (.iaload, 0, 0) := rfl
theorem f_63_41 : xi 63 41 = some (.ireturn, 0, 0) := rfl
theorem f_63_44 : xi 63 44 = some (.if_icmp .ne 13, 0, 0) := rfl
theorem f_63_48 : xi 63 48 = some (.getfield 55, 43, 493) := rfl
theorem f_63_51 : xi 63 51 = some (.getfield 187, 21, 222) := rfl
theorem f_63_55 : xi 63 55 = some (.iaload, 0, 0) := rfl
theorem f_63_56 : xi 63 56 = some (.ireturn, 0, 0) := rfl
theorem f_63_58 : xi 63 58 = some (.ifCond .ne 5, 0, 0) := rfl
theorem f_63_62 : xi 63 62 = some (.ireturn, 0, 0) := rfl
theorem f_63_64 : xi 63 64 = some (.ifCond .ne 15, 0, 0) := rfl
theorem f_63_68 : xi 63 68 = some (.getfield 55, 43, 493) := rfl
set_option maxRecDepth 1000000 in
theorem f_63_71 : xi 63 71 = some (.getfield 190, 22, 224) := rfl
set_option maxRecDepth 1000000 in
theorem f_63_75 : xi 63 75 = some (.iaload, 0, 0) := rfl
set_option maxRecDepth 1000000 in
theorem f_63_81 : xi 63 81 = some (.if_icmp .ne 15, 0, 0) := rfl
set_option maxRecDepth 1000000 in
theorem f_63_85 : xi 63 85 = some (.getfield 55, 43, 493) := rfl
set_option maxRecDepth 1000000 in
theorem f_63_88 : xi 63 88 = some (.getfield 193, 23, 226) := rfl
set_option maxRecDepth 1000000 in
theorem f_63_92 : xi 63 92 = some (.iaload, 0, 0) := rfl
set_option maxRecDepth 1000000 in
theorem f_63_97 : xi 63 97 = some (.getfield 55, 43, 493) := rfl
set_option maxRecDepth 1000000 in
theorem f_63_100 : xi 63 100 = some (.getfield 193, 23, 226) := rfl
set_option maxRecDepth 1000000 in
theorem f_63_104 : xi 63 104 = some (.iaload, 0, 0) := rfl
set_option maxRecDepth 1000000 in
theorem f_63_106 : xi 63 106 = some (.getfield 55, 43, 493) := rfl
set_option maxRecDepth 1000000 in
theorem f_63_109 : xi 63 109 = some (.getfield 190, 22, 224) := rfl
set_option maxRecDepth 1000000 in
theorem f_63_113 : xi 63 113 = some (.iaload, 0, 0) := rfl
set_option maxRecDepth 1000000 in
theorem f_63_115 : xi 63 115 = some (.ireturn, 0, 0) := rfl
theorem m_64 : xme 64 = some xe_64 := rfl
theorem f_64_1 : xi 64 1 = some (.invokestatic 167, 92, 564) := rfl
theorem f_64_4 : xi 64 4 = some (.ifCond .eq 26, 0, 0) := rfl
theorem f_64_8 : xi 64 8 = some (.invokestatic 167, 92, 564) := rfl
theorem f_64_11 : xi 64 11 = some (.ifCond .eq 19, 0, 0) := rfl
theorem f_64_17 : xi 64 17 = some (.invokestatic 118, 90, 534) := rfl
theorem f_64_20 : xi 64 20 = some (.ifCond .eq 10, 0, 0) := rfl
theorem f_64_24 : xi 64 24 = some (.invokevirtual 181, 97, 613) := rfl
theorem f_64_27 : xi 64 27 = some (.ifCond .ne 6, 0, 0) := rfl
theorem f_64_32 : xi 64 32 = some (.ireturn, 0, 0) := rfl
theorem f_64_34 : xi 64 34 = some (.ifCond .ne 16, 0, 0) := rfl
theorem f_64_38 : xi 64 38 = some (.getfield 55, 43, 493) := rfl
theorem f_64_43 : xi 64 43 = some (.invokevirtual 197, 39, 657) := rfl
theorem f_64_51 : xi 64 51 = some (.getfield 55, 43, 493) := rfl
theorem f_64_56 : xi 64 56 = some (.invokevirtual 197, 39, 657) := rfl
theorem f_64_59 : xi 64 59 = some (.ireturn, 0, 0) := rfl
theorem m_65 : xme 65 = some xe_65 := rfl
theorem f_65_3 : xi 65 3 = some (.invokestatic 118, 90, 534) := rfl
theorem f_65_6 : xi 65 6 = some (.ifCond .ne 6, 0, 0) := rfl
theorem f_65_11 : xi 65 11 = some (.ireturn, 0, 0) := rfl
theorem f_65_22 : xi 65 22 = some (.getfield 10, 35, 485) := rfl
theorem f_65_25 : xi 65 25 = some (.getfield 103, 31, 133) := rfl
theorem f_65_28 : xi 65 28 = some (.if_icmp .ge 86, 0, 0) := rfl
theorem f_65_40 : xi 65 40 = some (.getfield 10, 35, 485) := rfl
theorem f_65_43 : xi 65 43 = some (.getfield 103, 31, 133) := rfl
theorem f_65_46 : xi 65 46 = some (.if_icmp .ge 62, 0, 0) := rfl
theorem f_65_50 : xi 65 50 = some (.getfield 10, 35, 485) := rfl
theorem f_65_53 : xi 65 53 = some (.getfield 139, 30, 130) := rfl
theorem f_65_58 : xi 65 58 = some (.aaload, 0, 0) := rfl
theorem f_65_60 : xi 65 60 = some (.getfield 10, 35, 485) := rfl
theorem f_65_63 : xi 65 63 = some (.getfield 139, 30, 130) := rfl
theorem f_65_68 : xi 65 68 = some (.aaload, 0, 0) := rfl
theorem f_65_70 : xi 65 70 = some (.getfield 10, 35, 485) := rfl
theorem f_65_73 : xi 65 73 = some (.getfield 109, 33, 137) := rfl
theorem f_65_76 : xi 65 76 = some (.invokevirtual 201, 27, 665) := rfl
set_option maxRecDepth 1000000 in
theorem f_65_79 : xi 65 79 = some (.ifCond .eq 23, 0, 0) := rfl
set_option maxRecDepth 1000000 in
theorem f_65_83 : xi 65 83 = some (.ifCond .ne 14, 0, 0) := rfl
set_option maxRecDepth 1000000 in
theorem f_65_115 : xi 65 115 = some (.ifCond .ne 7, 0, 0) := rfl
set_option maxRecDepth 1000000 in
theorem f_65_123 : xi 65 123 = some (.ireturn, 0, 0) := rfl
theorem m_66 : xme 66 = some xe_66 := rfl
theorem f_66_3 : xi 66 3 = some (.invokestatic 118, 90, 534) := rfl
theorem f_66_6 : xi 66 6 = some (.ifCond .ne 6, 0, 0) := rfl
theorem f_66_11 : xi 66 11 = some (.ireturn, 0, 0) := rfl
theorem f_66_18 : xi 66 18 = some (.getfield 55, 43, 493) := rfl
theorem f_66_22 : xi 66 22 = some (.getfield 25, 38, 488) := rfl
theorem f_66_26 : xi 66 26 = some (.getfield 10, 35, 485) := rfl
theorem f_66_29 : xi 66 29 = some (.getfield 106, 32, 135) := rfl
theorem f_66_33 : xi 66 33 = some (.invokevirtual 205, 35, 617) := rfl
theorem f_66_43 : xi 66 43 = some (.getfield 10, 35, 485) := rfl
theorem f_66_46 : xi 66 46 = some (.getfield 103, 31, 133) := rfl
theorem f_66_50 : xi 66 50 = some (.if_icmp .ge 37, 0, 0) := rfl
theorem f_66_55 : xi 66 55 = some (.invokestatic 209, 205, 675) := rfl
theorem f_66_63 : xi 66 63 = some (.if_icmp .ge 18, 0, 0) := rfl
theorem f_66_69 : xi 66 69 = some (.invokevirtual 214, 98, 630) := rfl
theorem f_66_72 : xi 66 72 = some (.ifCond .eq 9, 0, 0) := rfl
set_option maxRecDepth 1000000 in
theorem f_66_89 : xi 66 89 = some (.if_icmp .ne 7, 0, 0) := rfl
set_option maxRecDepth 1000000 in
theorem f_66_97 : xi 66 97 = some (.ifCond .ne 7, 0, 0) := rfl
set_option maxRecDepth 1000000 in
theorem f_66_105 : xi 66 105 = some (.ireturn, 0, 0) := rfl
theorem m_67 : xme 67 = some xe_67 := rfl
theorem f_67_1 : xi 67 1 = some (.invokevirtual 181, 97, 613) := rfl
theorem f_67_4 : xi 67 4 = some (.ifCond .eq 5, 0, 0) := rfl
theorem f_67_8 : xi 67 8 = some (.ireturn, 0, 0) := rfl
theorem f_67_15 : xi 67 15 = some (.getfield 10, 35, 485) := rfl
theorem f_67_18 : xi 67 18 = some (.getfield 106, 32, 135) := rfl
theorem f_67_21 : xi 67 21 = some (.if_icmp .ge 44, 0, 0) := rfl
theorem f_67_25 : xi 67 25 = some (.getfield 55, 43, 493) := rfl
theorem f_67_29 : xi 67 29 = some (.getfield 25, 38, 488) := rfl
theorem f_67_33 : xi 67 33 = some (.getfield 10, 35, 485) := rfl
theorem f_67_36 : xi 67 36 = some (.getfield 106, 32, 135) := rfl
theorem f_67_40 : xi 67 40 = some (.invokevirtual 205, 35, 617) := rfl
theorem f_67_44 : xi 67 44 = some (.getfield 55, 43, 493) := rfl
theorem f_67_47 : xi 67 47 = some (.invokevirtual 217, 38, 644) := rfl
theorem f_67_50 : xi 67 50 = some (.ifCond .eq 9, 0, 0) := rfl
theorem f_67_66 : xi 67 66 = some (.ireturn, 0, 0) := rfl
theorem m_68 : xme 68 = some xe_68 := rfl
theorem f_68_2 : xi 68 2 = some (.invokevirtual 129, 94, 552) := rfl
theorem f_68_5 : xi 68 5 = some (.ifCond .eq 19, 0, 0) := rfl
theorem f_68_11 : xi 68 11 = some (.invokestatic 118, 90, 534) := rfl
theorem f_68_14 : xi 68 14 = some (.ifCond .eq 10, 0, 0) := rfl
theorem f_68_18 : xi 68 18 = some (.invokevirtual 181, 97, 613) := rfl
theorem f_68_21 : xi 68 21 = some (.ifCond .ne 7, 0, 0) := rfl
theorem f_68_27 : xi 68 27 = some (.lreturn, 0, 0) := rfl
theorem f_68_30 : xi 68 30 = some (.getfield 31, 39, 489) := rfl
theorem f_68_34 : xi 68 34 = some (.aaload, 0, 0) := rfl
theorem f_68_35 : xi 68 35 = some (.invokevirtual 222, 99, 690) := rfl
theorem f_68_40 : xi 68 40 = some (.ifCond .ne 11, 0, 0) := rfl
theorem f_68_44 : xi 68 44 = some (.getfield 66, 46, 496) := rfl
theorem f_68_47 : xi 68 47 = some (.i2l, 0, 0) := rfl
theorem f_68_53 : xi 68 53 = some (.if_icmp .ne 11, 0, 0) := rfl
theorem f_68_57 : xi 68 57 = some (.getfield 69, 47, 497) := rfl
theorem f_68_60 : xi 68 60 = some (.i2l, 0, 0) := rfl
theorem f_68_65 : xi 68 65 = some (.lreturn, 0, 0) := rfl
theorem m_69 : xme 69 = some xe_69 := rfl
theorem f_69_1 : xi 69 1 = some (.invokevirtual 181, 97, 613) := rfl
theorem f_69_4 : xi 69 4 = some (.ifCond .eq 10, 0, 0) := rfl
theorem f_69_8 : xi 69 8 = some (.invokevirtual 226, 101, 716) := rfl
theorem f_69_15 : xi 69 15 = some (.ireturn, 0, 0) := rfl
theorem m_70 : xme 70 = some xe_70 := rfl
theorem f_70_2 : xi 70 2 = some (.invokevirtual 129, 94, 552) := rfl
theorem f_70_5 : xi 70 5 = some (.ifCond .eq 30, 0, 0) := rfl
theorem f_70_13 : xi 70 13 = some (.invokestatic 118, 90, 534) := rfl
theorem f_70_16 : xi 70 16 = some (.ifCond .eq 19, 0, 0) := rfl
theorem f_70_22 : xi 70 22 = some (.invokestatic 118, 90, 534) := rfl
theorem f_70_25 : xi 70 25 = some (.ifCond .eq 10, 0, 0) := rfl
theorem f_70_29 : xi 70 29 = some (.invokevirtual 181, 97, 613) := rfl
theorem f_70_32 : xi 70 32 = some (.ifCond .ne 7, 0, 0) := rfl
theorem f_70_38 : xi 70 38 = some (.lreturn, 0, 0) := rfl
theorem f_70_41 : xi 70 41 = some (.invokevirtual 229, 102, 724) := rfl
theorem f_70_50 : xi 70 50 = some (.invokestatic 232, 106, 728) := rfl
theorem f_70_70 : xi 70 70 = some (.if_icmp .ge 75, 0, 0) := rfl
theorem f_70_77 : xi 70 77 = some (.invokestatic 235, 103, 731) := rfl
theorem f_70_80 : xi 70 80 = some (.ifCond .eq 59, 0, 0) := rfl
set_option maxRecDepth 1000000 in
theorem f_70_88 : xi 70 88 = some (.invokevirtual 239, 104, 734) := rfl
set_option maxRecDepth 1000000 in
theorem f_70_91 : xi 70 91 = some (.ifCond .ne 6, 0, 0) := rfl
set_option maxRecDepth 1000000 in
theorem f_70_99 : xi 70 99 = some (.getfield 31, 39, 489) := rfl
set_option maxRecDepth 1000000 in
theorem f_70_103 : xi 70 103 = some (.aaload, 0, 0) := rfl
set_option maxRecDepth 1000000 in
theorem f_70_104 : xi 70 104 = some (.invokevirtual 222, 99, 690) := rfl
set_option maxRecDepth 1000000 in
theorem f_70_114 : xi 70 114 = some (.lcmp, 0, 0) := rfl
set_option maxRecDepth 1000000 in
theorem f_70_115 : xi 70 115 = some (.ifCond .eq 11, 0, 0) := rfl
set_option maxRecDepth 1000000 in
theorem f_70_122 : xi 70 122 = some (.lcmp, 0, 0) := rfl
set_option maxRecDepth 1000000 in
theorem f_70_123 : xi 70 123 = some (.ifCond .ge 16, 0, 0) := rfl
set_option maxRecDepth 1000000 in
theorem f_70_134 : xi 70 134 = some (.invokestatic 242, 105, 739) := rfl
set_option maxRecDepth 1000000 in
theorem f_70_150 : xi 70 150 = some (.lcmp, 0, 0) := rfl
set_option maxRecDepth 1000000 in
theorem f_70_151 : xi 70 151 = some (.ifCond .eq 8, 0, 0) := rfl
set_option maxRecDepth 1000000 in
theorem f_70_156 : xi 70 156 = some (.if_icmp .ne 8, 0, 0) := rfl
set_option maxRecDepth 1000000 in
theorem f_70_166 : xi 70 166 = some (.i2l, 0, 0) := rfl
set_option maxRecDepth 1000000 in
theorem f_70_167 : xi 70 167 = some (.lreturn, 0, 0) := rfl
theorem m_71 : xme 71 = some xe_71 := rfl
theorem f_71_2 : xi 71 2 = some (.invokevirtual 129, 94, 552) := rfl
theorem f_71_5 : xi 71 5 = some (.ifCond .eq 18, 0, 0) := rfl
theorem f_71_10 : xi 71 10 = some (.invokevirtual 136, 95, 579) := rfl
theorem f_71_13 : xi 71 13 = some (.ifCond .eq 10, 0, 0) := rfl
theorem f_71_17 : xi 71 17 = some (.invokevirtual 181, 97, 613) := rfl
theorem f_71_20 : xi 71 20 = some (.ifCond .ne 7, 0, 0) := rfl
theorem f_71_26 : xi 71 26 = some (.lreturn, 0, 0) := rfl
theorem f_71_29 : xi 71 29 = some (.getfield 31, 39, 489) := rfl
theorem f_71_33 : xi 71 33 = some (.aaload, 0, 0) := rfl
theorem f_71_34 : xi 71 34 = some (.invokevirtual 222, 99, 690) := rfl
theorem f_71_42 : xi 71 42 = some (.invokevirtual 214, 98, 630) := rfl
theorem f_71_45 : xi 71 45 = some (.ifCond .eq 18, 0, 0) := rfl
theorem f_71_50 : xi 71 50 = some (.getfield 31, 39, 489) := rfl
theorem f_71_54 : xi 71 54 = some (.aaload, 0, 0) := rfl
theorem f_71_55 : xi 71 55 = some (.invokevirtual 222, 99, 690) := rfl
theorem f_71_66 : xi 71 66 = some (.lreturn, 0, 0) := rfl
theorem m_72 : xme 72 = some xe_72 := rfl
theorem f_72_2 : xi 72 2 = some (.invokevirtual 129, 94, 552) := rfl
theorem f_72_5 : xi 72 5 = some (.ifCond .eq 21, 0, 0) := rfl
theorem f_72_9 : xi 72 9 = some (.invokestatic 167, 92, 564) := rfl
theorem f_72_12 : xi 72 12 = some (.ifCond .eq 14, 0, 0) := rfl
theorem f_72_20 : xi 72 20 = some (.invokestatic 118, 90, 534) := rfl
theorem f_72_23 : xi 72 23 = some (.ifCond .ne 7, 0, 0) := rfl
theorem f_72_29 : xi 72 29 = some (.lreturn, 0, 0) := rfl
theorem f_72_31 : xi 72 31 = some (.getfield 55, 43, 493) := rfl
theorem f_72_35 : xi 72 35 = some (.getfield 25, 38, 488) := rfl
theorem f_72_39 : xi 72 39 = some (.getfield 10, 35, 485) := rfl
theorem f_72_42 : xi 72 42 = some (.getfield 106, 32, 135) := rfl
theorem f_72_46 : xi 72 46 = some (.invokevirtual 205, 35, 617) := rfl
theorem f_72_50 : xi 72 50 = some (.getfield 55, 43, 493) := rfl
theorem f_72_54 : xi 72 54 = some (.getfield 10, 35, 485) := rfl
theorem f_72_58 : xi 72 58 = some (.invokevirtual 245, 34, 634) := rfl
theorem f_72_62 : xi 72 62 = some (.getfield 55, 43, 493) := rfl
theorem f_72_65 : xi 72 65 = some (.getfield 184, 20, 220) := rfl
theorem f_72_70 : xi 72 70 = some (.iastore, 0, 0) := rfl
theorem f_72_72 : xi 72 72 = some (.getfield 55, 43, 493) := rfl
theorem f_72_75 : xi 72 75 = some (.getfield 187, 21, 222) := rfl
theorem f_72_80 : xi 72 80 = some (.iastore, 0, 0) := rfl
set_option maxRecDepth 1000000 in
theorem f_72_82 : xi 72 82 = some (.getfield 55, 43, 493) := rfl
set_option maxRecDepth 1000000 in
theorem f_72_85 : xi 72 85 = some (.invokevirtual 217, 38, 644) := rfl
set_option maxRecDepth 1000000 in
theorem f_72_88 : xi 72 88 = some (.ifCond .eq 16, 0, 0) := rfl
set_option maxRecDepth 1000000 in
theorem f_72_93 : xi 72 93 = some (.getfield 31, 39, 489) := rfl
set_option maxRecDepth 1000000 in
theorem f_72_97 : xi 72 97 = some (.aaload, 0, 0) := rfl
set_option maxRecDepth 1000000 in
theorem f_72_98 : xi 72 98 = some (.invokevirtual 222, 99, 690) := rfl
set_option maxRecDepth 1000000 in
theorem f_72_107 : xi 72 107 = some (.lreturn, 0, 0) := rfl
theorem m_73 : xme 73 = some xe_73 := rfl
theorem f_73_1 : xi 73 1 = some (.invokestatic 167, 92, 564) := rfl
theorem f_73_4 : xi 73 4 = some (.ifCond .eq 30, 0, 0) := rfl
theorem f_73_12 : xi 73 12 = some (.invokestatic 118, 90, 534) := rfl
theorem f_73_15 : xi 73 15 = some (.ifCond .eq 19, 0, 0) := rfl
theorem f_73_21 : xi 73 21 = some (.invokestatic 118, 90, 534) := rfl
theorem f_73_24 : xi 73 24 = some (.ifCond .eq 10, 0, 0) := rfl
theorem f_73_28 : xi 73 28 = some (.invokevirtual 181, 97, 613) := rfl
theorem f_73_31 : xi 73 31 = some (.ifCond .ne 7, 0, 0) := rfl
theorem f_73_37 : xi 73 37 = some (.lreturn, 0, 0) := rfl
theorem f_73_39 : xi 73 39 = some (.getfield 55, 43, 493) := rfl
theorem f_73_42 : xi 73 42 = some (.getfield 190, 22, 224) := rfl
theorem f_73_46 : xi 73 46 = some (.iaload, 0, 0) := rfl
theorem f_73_50 : xi 73 50 = some (.getfield 55, 43, 493) := rfl
theorem f_73_53 : xi 73 53 = some (.getfield 193, 23, 226) := rfl
theorem f_73_57 : xi 73 57 = some (.iaload, 0, 0) := rfl
theorem f_73_64 : xi 73 64 = some (.invokestatic 249, 9998, 710) := rfl
theorem f_73_72 : xi 73 72 = some (.invokestatic 254, 9997, 711) := rfl
set_option maxRecDepth 1000000 in
theorem f_73_79 : xi 73 79 = some (.i2l, 0, 0) := rfl
set_option maxRecDepth 1000000 in
theorem f_73_87 : xi 73 87 = some (.i2l, 0, 0) := rfl
set_option maxRecDepth 1000000 in
theorem f_73_89 : xi 73 89 = some (.invokestatic 257, 107, 754) := rfl
set_option maxRecDepth 1000000 in
theorem f_73_92 : xi 73 92 = some (.lreturn, 0, 0) := rfl
theorem m_74 : xme 74 = some xe_74 := rfl
theorem f_74_1 : xi 74 1 = some (.invokestatic 167, 92, 564) := rfl
theorem f_74_4 : xi 74 4 = some (.ifCond .eq 31, 0, 0) := rfl
theorem f_74_8 : xi 74 8 = some (.invokestatic 167, 92, 564) := rfl
theorem f_74_11 : xi 74 11 = some (.ifCond .eq 24, 0, 0) := rfl
theorem f_74_16 : xi 74 16 = some (.if_icmp .eq 19, 0, 0) := rfl
theorem f_74_22 : xi 74 22 = some (.invokestatic 118, 90, 534) := rfl
theorem f_74_25 : xi 74 25 = some (.ifCond .eq 10, 0, 0) := rfl
theorem f_74_29 : xi 74 29 = some (.invokevirtual 181, 97, 613) := rfl
theorem f_74_32 : xi 74 32 = some (.ifCond .ne 7, 0, 0) := rfl
theorem f_74_38 : xi 74 38 = some (.lreturn, 0, 0) := rfl
theorem f_74_43 : xi 74 43 = some (.getfield 55, 43, 493) := rfl
theorem f_74_46 : xi 74 46 = some (.getfield 190, 22, 224) := rfl
theorem f_74_50 : xi 74 50 = some (.iaload, 0, 0) := rfl
theorem f_74_56 : xi 74 56 = some (.getfield 55, 43, 493) := rfl
theorem f_74_59 : xi 74 59 = some (.getfield 193, 23, 226) := rfl
theorem f_74_63 : xi 74 63 = some (.iaload, 0, 0) := rfl
theorem f_74_64 : xi 74 64 = some (.if_icmp .gt 47, 0, 0) := rfl
theorem f_74_71 : xi 74 71 = some (.getfield 55, 43, 493) := rfl
theorem f_74_74 : xi 74 74 = some (.getfield 193, 23, 226) := rfl
theorem f_74_78 : xi 74 78 = some (.iaload, 0, 0) := rfl
set_option maxRecDepth 1000000 in
theorem f_74_84 : xi 74 84 = some (.getfield 55, 43, 493) := rfl
set_option maxRecDepth 1000000 in
theorem f_74_87 : xi 74 87 = some (.getfield 190, 22, 224) := rfl
set_option maxRecDepth 1000000 in
theorem f_74_91 : xi 74 91 = some (.iaload, 0, 0) := rfl
set_option maxRecDepth 1000000 in
theorem f_74_92 : xi 74 92 = some (.invokestatic 254, 9997, 711) := rfl
set_option maxRecDepth 1000000 in
theorem f_74_98 : xi 74 98 = some (.invokestatic 254, 9997, 711) := rfl
set_option maxRecDepth 1000000 in
theorem f_74_101 : xi 74 101 = some (.i2l, 0, 0) := rfl
set_option maxRecDepth 1000000 in
theorem f_74_114 : xi 74 114 = some (.getfield 55, 43, 493) := rfl
set_option maxRecDepth 1000000 in
theorem f_74_118 : xi 74 118 = some (.invokevirtual 261, 40, 761) := rfl
set_option maxRecDepth 1000000 in
theorem f_74_121 : xi 74 121 = some (.i2l, 0, 0) := rfl
set_option maxRecDepth 1000000 in
theorem f_74_123 : xi 74 123 = some (.getfield 55, 43, 493) := rfl
set_option maxRecDepth 1000000 in
theorem f_74_127 : xi 74 127 = some (.invokevirtual 261, 40, 761) := rfl
set_option maxRecDepth 1000000 in
theorem f_74_130 : xi 74 130 = some (.i2l, 0, 0) := rfl
set_option maxRecDepth 1000000 in
theorem f_74_133 : xi 74 133 = some (.invokestatic 257, 107, 754) := rfl
set_option maxRecDepth 1000000 in
theorem f_74_136 : xi 74 136 = some (.lreturn, 0, 0) := rfl
theorem m_75 : xme 75 = some xe_75 := rfl
theorem f_75_2 : xi 75 2 = some (.invokevirtual 263, 108, 769) := rfl
theorem f_75_7 : xi 75 7 = some (.ifCond .eq 5, 0, 0) := rfl
theorem f_75_11 : xi 75 11 = some (.ireturn, 0, 0) := rfl
theorem f_75_20 : xi 75 20 = some (.getfield 10, 35, 485) := rfl
theorem f_75_23 : xi 75 23 = some (.getfield 103, 31, 133) := rfl
theorem f_75_26 : xi 75 26 = some (.if_icmp .ge 48, 0, 0) := rfl
theorem f_75_30 : xi 75 30 = some (.getfield 10, 35, 485) := rfl
theorem f_75_33 : xi 75 33 = some (.getfield 139, 30, 130) := rfl
theorem f_75_38 : xi 75 38 = some (.aaload, 0, 0) := rfl
theorem f_75_40 : xi 75 40 = some (.getfield 48, 42, 492) := rfl
theorem f_75_44 : xi 75 44 = some (.aaload, 0, 0) := rfl
theorem f_75_45 : xi 75 45 = some (.getfield 266, 17, 275) := rfl
theorem f_75_49 : xi 75 49 = some (.getfield 10, 35, 485) := rfl
theorem f_75_52 : xi 75 52 = some (.getfield 109, 33, 137) := rfl
theorem f_75_55 : xi 75 55 = some (.invokevirtual 269, 28, 776) := rfl
theorem f_75_58 : xi 75 58 = some (.ifCond .ne 10, 0, 0) := rfl
set_option maxRecDepth 1000000 in
theorem f_75_75 : xi 75 75 = some (.ireturn, 0, 0) := rfl
theorem m_76 : xme 76 = some xe_76 := rfl
theorem f_76_2 : xi 76 2 = some (.invokevirtual 263, 108, 769) := rfl
theorem f_76_7 : xi 76 7 = some (.ifCond .eq 5, 0, 0) := rfl
theorem f_76_11 : xi 76 11 = some (.ireturn, 0, 0) := rfl
theorem f_76_20 : xi 76 20 = some (.getfield 10, 35, 485) := rfl
theorem f_76_23 : xi 76 23 = some (.getfield 106, 32, 135) := rfl
theorem f_76_26 : xi 76 26 = some (.if_icmp .ge 38, 0, 0) := rfl
theorem f_76_30 : xi 76 30 = some (.getfield 25, 38, 488) := rfl
theorem f_76_35 : xi 76 35 = some (.aaload, 0, 0) := rfl
theorem f_76_37 : xi 76 37 = some (.getfield 48, 42, 492) := rfl
theorem f_76_41 : xi 76 41 = some (.aaload, 0, 0) := rfl
theorem f_76_42 : xi 76 42 = some (.getfield 266, 17, 275) := rfl
theorem f_76_45 : xi 76 45 = some (.invokevirtual 273, 3, 785) := rfl
theorem f_76_48 : xi 76 48 = some (.ifCond .ne 10, 0, 0) := rfl
theorem f_76_65 : xi 76 65 = some (.ireturn, 0, 0) := rfl
theorem m_77 : xme 77 = some xe_77 := rfl
theorem f_77_2 : xi 77 2 = some (.invokevirtual 263, 108, 769) := rfl
theorem f_77_7 : xi 77 7 = some (.ifCond .eq 5, 0, 0) := rfl
theorem f_77_11 : xi 77 11 = some (.ireturn, 0, 0) := rfl
theorem f_77_13 : xi 77 13 = some (.invokevirtual 181, 97, 613) := rfl
theorem f_77_16 : xi 77 16 = some (.ifCond .ne 6, 0, 0) := rfl
theorem f_77_21 : xi 77 21 = some (.ireturn, 0, 0) := rfl
theorem f_77_27 : xi 77 27 = some (.if_icmp .ge 46, 0, 0) := rfl
theorem f_77_31 : xi 77 31 = some (.getfield 48, 42, 492) := rfl
theorem f_77_35 : xi 77 35 = some (.aaload, 0, 0) := rfl
theorem f_77_36 : xi 77 36 = some (.getfield 266, 17, 275) := rfl
theorem f_77_40 : xi 77 40 = some (.iaload, 0, 0) := rfl
theorem f_77_42 : xi 77 42 = some (.getfield 55, 43, 493) := rfl
theorem f_77_45 : xi 77 45 = some (.getfield 190, 22, 224) := rfl
theorem f_77_49 : xi 77 49 = some (.iaload, 0, 0) := rfl
theorem f_77_51 : xi 77 51 = some (.getfield 55, 43, 493) := rfl
theorem f_77_54 : xi 77 54 = some (.getfield 193, 23, 226) := rfl
theorem f_77_58 : xi 77 58 = some (.iaload, 0, 0) := rfl
theorem f_77_59 : xi 77 59 = some (.invokestatic 118, 90, 534) := rfl
theorem f_77_62 : xi 77 62 = some (.ifCond .ne 5, 0, 0) := rfl
theorem f_77_66 : xi 77 66 = some (.ireturn, 0, 0) := rfl
set_option maxRecDepth 1000000 in
theorem f_77_74 : xi 77 74 = some (.ireturn, 0, 0) := rfl
theorem m_78 : xme 78 = some xe_78 := rfl
theorem f_78_2 : xi 78 2 = some (.invokevirtual 263, 108, 769) := rfl
theorem f_78_5 : xi 78 5 = some (.ifCond .ne 11, 0, 0) := rfl
theorem f_78_10 : xi 78 10 = some (.invokevirtual 129, 94, 552) := rfl
theorem f_78_13 : xi 78 13 = some (.ifCond .ne 7, 0, 0) := rfl
theorem f_78_19 : xi 78 19 = some (.lreturn, 0, 0) := rfl
theorem f_78_21 : xi 78 21 = some (.getfield 31, 39, 489) := rfl
theorem f_78_25 : xi 78 25 = some (.aaload, 0, 0) := rfl
theorem f_78_28 : xi 78 28 = some (.getfield 48, 42, 492) := rfl
theorem f_78_32 : xi 78 32 = some (.aaload, 0, 0) := rfl
theorem f_78_33 : xi 78 33 = some (.getfield 266, 17, 275) := rfl
theorem f_78_37 : xi 78 37 = some (.getfield 63, 45, 495) := rfl
theorem f_78_40 : xi 78 40 = some (.invokevirtual 276, 46, 700) := rfl
theorem f_78_43 : xi 78 43 = some (.i2l, 0, 0) := rfl
theorem f_78_44 : xi 78 44 = some (.lreturn, 0, 0) := rfl
theorem m_79 : xme 79 = some xe_79 := rfl
theorem f_79_2 : xi 79 2 = some (.invokevirtual 263, 108, 769) := rfl
theorem f_79_7 : xi 79 7 = some (.ifCond .eq 5, 0, 0) := rfl
theorem f_79_11 : xi 79 11 = some (.ireturn, 0, 0) := rfl
theorem f_79_20 : xi 79 20 = some (.getfield 35, 40, 490) := rfl
theorem f_79_23 : xi 79 23 = some (.if_icmp .ge 43, 0, 0) := rfl
theorem f_79_27 : xi 79 27 = some (.getfield 31, 39, 489) := rfl
theorem f_79_32 : xi 79 32 = some (.aaload, 0, 0) := rfl
theorem f_79_35 : xi 79 35 = some (.getfield 48, 42, 492) := rfl
theorem f_79_39 : xi 79 39 = some (.aaload, 0, 0) := rfl
theorem f_79_40 : xi 79 40 = some (.getfield 266, 17, 275) := rfl
theorem f_79_44 : xi 79 44 = some (.getfield 63, 45, 495) := rfl
theorem f_79_47 : xi 79 47 = some (.invokevirtual 276, 46, 700) := rfl
theorem f_79_50 : xi 79 50 = some (.ifCond .eq 10, 0, 0) := rfl
theorem f_79_67 : xi 79 67 = some (.ireturn, 0, 0) := rfl
theorem m_80 : xme 80 = some xe_80 := rfl
theorem f_80_1 : xi 80 1 = some (.invokestatic 280, 93, 773) := rfl
theorem f_80_4 : xi 80 4 = some (.ifCond .ne 6, 0, 0) := rfl
theorem f_80_9 : xi 80 9 = some (.ireturn, 0, 0) := rfl
theorem f_80_13 : xi 80 13 = some (.invokestatic 118, 90, 534) := rfl
theorem f_80_16 : xi 80 16 = some (.ifCond .ne 6, 0, 0) := rfl
theorem f_80_21 : xi 80 21 = some (.ireturn, 0, 0) := rfl
theorem f_80_23 : xi 80 23 = some (.invokevirtual 181, 97, 613) := rfl
theorem f_80_26 : xi 80 26 = some (.ifCond .ne 6, 0, 0) := rfl
theorem f_80_31 : xi 80 31 = some (.ireturn, 0, 0) := rfl
theorem f_80_33 : xi 80 33 = some (.getfield 48, 42, 492) := rfl
theorem f_80_37 : xi 80 37 = some (.aaload, 0, 0) := rfl
theorem f_80_41 : xi 80 41 = some (.invokevirtual 283, 30, 805) := rfl
theorem f_80_49 : xi 80 49 = some (.if_icmp .ge 44, 0, 0) := rfl
theorem f_80_53 : xi 80 53 = some (.getfield 48, 42, 492) := rfl
theorem f_80_57 : xi 80 57 = some (.aaload, 0, 0) := rfl
theorem f_80_60 : xi 80 60 = some (.ifCond .ne 15, 0, 0) := rfl
theorem f_80_64 : xi 80 64 = some (.getfield 55, 43, 493) := rfl
theorem f_80_67 : xi 80 67 = some (.getfield 190, 22, 224) := rfl
theorem f_80_71 : xi 80 71 = some (.iaload, 0, 0) := rfl
set_option maxRecDepth 1000000 in
theorem f_80_76 : xi 80 76 = some (.getfield 55, 43, 493) := rfl
set_option maxRecDepth 1000000 in
theorem f_80_79 : xi 80 79 = some (.getfield 193, 23, 226) := rfl
set_option maxRecDepth 1000000 in
theorem f_80_83 : xi 80 83 = some (.iaload, 0, 0) := rfl
set_option maxRecDepth 1000000 in
theorem f_80_84 : xi 80 84 = some (.invokevirtual 286, 31, 810) := rfl
set_option maxRecDepth 1000000 in
theorem f_80_95 : xi 80 95 = some (.ireturn, 0, 0) := rfl
theorem m_81 : xme 81 = some xe_81 := rfl
theorem f_81_5 : xi 81 5 = some (.invokestatic 118, 90, 534) := rfl
theorem f_81_8 : xi 81 8 = some (.ifCond .eq 13, 0, 0) := rfl
theorem f_81_15 : xi 81 15 = some (.invokestatic 118, 90, 534) := rfl
theorem f_81_18 : xi 81 18 = some (.ifCond .ne 6, 0, 0) := rfl
theorem f_81_23 : xi 81 23 = some (.ireturn, 0, 0) := rfl
theorem f_81_25 : xi 81 25 = some (.invokevirtual 181, 97, 613) := rfl
theorem f_81_28 : xi 81 28 = some (.ifCond .ne 5, 0, 0) := rfl
theorem f_81_32 : xi 81 32 = some (.ireturn, 0, 0) := rfl
theorem f_81_35 : xi 81 35 = some (.invokevirtual 290, 109, 819) := rfl
theorem f_81_41 : xi 81 41 = some (.if_icmp .ge 12, 0, 0) := rfl
theorem f_81_45 : xi 81 45 = some (.getfield 59, 44, 494) := rfl
theorem f_81_49 : xi 81 49 = some (.iaload, 0, 0) := rfl
theorem f_81_54 : xi 81 54 = some (.invokevirtual 293, 110, 825) := rfl
theorem f_81_57 : xi 81 57 = some (.ifCond .eq 7, 0, 0) := rfl
theorem f_81_65 : xi 81 65 = some (.ireturn, 0, 0) := rfl
theorem m_82 : xme 82 = some xe_82 := rfl
theorem f_82_5 : xi 82 5 = some (.invokestatic 118, 90, 534) := rfl
theorem f_82_8 : xi 82 8 = some (.ifCond .eq 29, 0, 0) := rfl
theorem f_82_15 : xi 82 15 = some (.invokestatic 118, 90, 534) := rfl
theorem f_82_18 : xi 82 18 = some (.ifCond .eq 19, 0, 0) := rfl
theorem f_82_24 : xi 82 24 = some (.invokestatic 118, 90, 534) := rfl
theorem f_82_27 : xi 82 27 = some (.ifCond .eq 10, 0, 0) := rfl
theorem f_82_31 : xi 82 31 = some (.invokevirtual 181, 97, 613) := rfl
theorem f_82_34 : xi 82 34 = some (.ifCond .ne 7, 0, 0) := rfl
theorem f_82_40 : xi 82 40 = some (.lreturn, 0, 0) := rfl
theorem f_82_50 : xi 82 50 = some (.if_icmp .ge 34, 0, 0) := rfl
theorem f_82_58 : xi 82 58 = some (.invokevirtual 290, 109, 819) := rfl
theorem f_82_64 : xi 82 64 = some (.invokevirtual 293, 110, 825) := rfl
theorem f_82_67 : xi 82 67 = some (.ifCond .eq 7, 0, 0) := rfl
set_option maxRecDepth 1000000 in
theorem f_82_86 : xi 82 86 = some (.i2l, 0, 0) := rfl
set_option maxRecDepth 1000000 in
theorem f_82_88 : xi 82 88 = some (.i2l, 0, 0) := rfl
set_option maxRecDepth 1000000 in
theorem f_82_90 : xi 82 90 = some (.invokestatic 257, 107, 754) := rfl
set_option maxRecDepth 1000000 in
theorem f_82_93 : xi 82 93 = some (.lreturn, 0, 0) := rfl
theorem m_83 : xme 83 = some xe_83 := rfl
theorem f_83_1 : xi 83 1 = some (.getfield 16, 36, 486) := rfl
theorem f_83_5 : xi 83 5 = some (.getfield 10, 35, 485) := rfl
theorem f_83_8 : xi 83 8 = some (.invokevirtual 296, 50, 837) := rfl
theorem f_83_13 : xi 83 13 = some (.putfield 19, 37, 487) := rfl
theorem f_83_17 : xi 83 17 = some (.getfield 10, 35, 485) := rfl
theorem f_83_20 : xi 83 20 = some (.getfield 103, 31, 133) := rfl
theorem f_83_23 : xi 83 23 = some (.ireturn, 0, 0) := rfl
theorem m_84 : xme 84 = some xe_84 := rfl
theorem f_84_1 : xi 84 1 = some (.getfield 19, 37, 487) := rfl
theorem f_84_4 : xi 84 4 = some (.ifCond .ne 6, 0, 0) := rfl
theorem f_84_9 : xi 84 9 = some (.ireturn, 0, 0) := rfl
theorem f_84_11 : xi 84 11 = some (.getfield 10, 35, 485) := rfl
theorem f_84_15 : xi 84 15 = some (.getfield 16, 36, 486) := rfl
theorem f_84_18 : xi 84 18 = some (.invokevirtual 296, 50, 837) := rfl
theorem f_84_22 : xi 84 22 = some (.getfield 10, 35, 485) := rfl
theorem f_84_25 : xi 84 25 = some (.getfield 103, 31, 133) := rfl
theorem f_84_28 : xi 84 28 = some (.ireturn, 0, 0) := rfl
theorem m_85 : xme 85 = some xe_85 := rfl
theorem f_85_1 : xi 85 1 = some (.invokestatic 280, 93, 773) := rfl
theorem f_85_4 : xi 85 4 = some (.ifCond .eq 12, 0, 0) := rfl
theorem f_85_10 : xi 85 10 = some (.invokestatic 118, 90, 534) := rfl
theorem f_85_13 : xi 85 13 = some (.ifCond .ne 6, 0, 0) := rfl
theorem f_85_18 : xi 85 18 = some (.ireturn, 0, 0) := rfl
theorem f_85_21 : xi 85 21 = some (.if_icmp .eq 12, 0, 0) := rfl
theorem f_85_27 : xi 85 27 = some (.if_icmp .le 6, 0, 0) := rfl
theorem f_85_32 : xi 85 32 = some (.ireturn, 0, 0) := rfl
theorem f_85_35 : xi 85 35 = some (.if_icmp .eq 10, 0, 0) := rfl
theorem f_85_39 : xi 85 39 = some (.ifCond .ge 6, 0, 0) := rfl
theorem f_85_44 : xi 85 44 = some (.ireturn, 0, 0) := rfl
theorem f_85_46 : xi 85 46 = some (.getfield 48, 42, 492) := rfl
theorem f_85_50 : xi 85 50 = some (.aaload, 0, 0) := rfl
theorem f_85_54 : xi 85 54 = some (.if_icmp .ne 7, 0, 0) := rfl
theorem f_85_62 : xi 85 62 = some (.invokevirtual 283, 30, 805) := rfl
theorem f_85_66 : xi 85 66 = some (.ireturn, 0, 0) := rfl
theorem m_86 : xme 86 = some xe_86 := rfl
theorem f_86_1 : xi 86 1 = some (.invokestatic 280, 93, 773) := rfl
theorem f_86_4 : xi 86 4 = some (.ifCond .ne 6, 0, 0) := rfl
theorem f_86_9 : xi 86 9 = some (.ireturn, 0, 0) := rfl
theorem f_86_11 : xi 86 11 = some (.getfield 48, 42, 492) := rfl
theorem f_86_15 : xi 86 15 = some (.aaload, 0, 0) := rfl
theorem f_86_16 : xi 86 16 = some (.getfield 299, 18, 277) := rfl
theorem f_86_20 : xi 86 20 = some (.if_icmp .ne 6, 0, 0) := rfl
theorem f_86_25 : xi 86 25 = some (.ireturn, 0, 0) := rfl
theorem f_86_29 : xi 86 29 = some (.getfield 48, 42, 492) := rfl
theorem f_86_33 : xi 86 33 = some (.aaload, 0, 0) := rfl
theorem f_86_34 : xi 86 34 = some (.getfield 302, 19, 279) := rfl
theorem f_86_39 : xi 86 39 = some (.invokestatic 118, 90, 534) := rfl
theorem f_86_42 : xi 86 42 = some (.ifCond .ne 6, 0, 0) := rfl
theorem f_86_47 : xi 86 47 = some (.ireturn, 0, 0) := rfl
theorem f_86_49 : xi 86 49 = some (.getfield 48, 42, 492) := rfl
theorem f_86_53 : xi 86 53 = some (.aaload, 0, 0) := rfl
theorem f_86_56 : xi 86 56 = some (.invokevirtual 286, 31, 810) := rfl
theorem f_86_60 : xi 86 60 = some (.ireturn, 0, 0) := rfl
theorem m_87 : xme 87 = some xe_87 := rfl
theorem f_87_1 : xi 87 1 = some (.invokestatic 280, 93, 773) := rfl
theorem f_87_4 : xi 87 4 = some (.ifCond .eq 10, 0, 0) := rfl
theorem f_87_8 : xi 87 8 = some (.invokestatic 280, 93, 773) := rfl
theorem f_87_11 : xi 87 11 = some (.ifCond .ne 6, 0, 0) := rfl
theorem f_87_16 : xi 87 16 = some (.ireturn, 0, 0) := rfl
theorem f_87_18 : xi 87 18 = some (.getfield 48, 42, 492) := rfl
theorem f_87_22 : xi 87 22 = some (.aaload, 0, 0) := rfl
theorem f_87_26 : xi 87 26 = some (.getfield 48, 42, 492) := rfl
theorem f_87_30 : xi 87 30 = some (.aaload, 0, 0) := rfl
theorem f_87_35 : xi 87 35 = some (.getfield 299, 18, 277) := rfl
theorem f_87_39 : xi 87 39 = some (.if_icmp .eq 12, 0, 0) := rfl
theorem f_87_44 : xi 87 44 = some (.getfield 299, 18, 277) := rfl
theorem f_87_48 : xi 87 48 = some (.if_icmp .ne 6, 0, 0) := rfl
theorem f_87_53 : xi 87 53 = some (.ireturn, 0, 0) := rfl
theorem f_87_56 : xi 87 56 = some (.getfield 299, 18, 277) := rfl
theorem f_87_61 : xi 87 61 = some (.getfield 299, 18, 277) := rfl
theorem f_87_64 : xi 87 64 = some (.if_icmp .eq 6, 0, 0) := rfl
theorem f_87_69 : xi 87 69 = some (.ireturn, 0, 0) := rfl
theorem f_87_75 : xi 87 75 = some (.invokevirtual 303, 32, 858) := rfl
theorem f_87_78 : xi 87 78 = some (.ifCond .eq 15, 0, 0) := rfl
set_option maxRecDepth 1000000 in
theorem f_87_87 : xi 87 87 = some (.invokevirtual 303, 32, 858) := rfl
set_option maxRecDepth 1000000 in
theorem f_87_90 : xi 87 90 = some (.ifCond .ne 6, 0, 0) := rfl
set_option maxRecDepth 1000000 in
theorem f_87_95 : xi 87 95 = some (.ireturn, 0, 0) := rfl
set_option maxRecDepth 1000000 in
theorem f_87_98 : xi 87 98 = some (.getfield 266, 17, 275) := rfl
set_option maxRecDepth 1000000 in
theorem f_87_104 : xi 87 104 = some (.getfield 266, 17, 275) := rfl
set_option maxRecDepth 1000000 in
theorem f_87_111 : xi 87 111 = some (.invokestatic 306, 9999, 862) := rfl
set_option maxRecDepth 1000000 in
theorem f_87_116 : xi 87 116 = some (.ireturn, 0, 0) := rfl
theorem m_88 : xme 88 = some xe_88 := rfl
theorem f_88_1 : xi 88 1 = some (.invokestatic 280, 93, 773) := rfl
theorem f_88_4 : xi 88 4 = some (.ifCond .eq 23, 0, 0) := rfl
theorem f_88_10 : xi 88 10 = some (.invokestatic 118, 90, 534) := rfl
theorem f_88_13 : xi 88 13 = some (.ifCond .eq 14, 0, 0) := rfl
theorem f_88_21 : xi 88 21 = some (.invokestatic 118, 90, 534) := rfl
theorem f_88_24 : xi 88 24 = some (.ifCond .ne 6, 0, 0) := rfl
theorem f_88_29 : xi 88 29 = some (.ireturn, 0, 0) := rfl
theorem f_88_31 : xi 88 31 = some (.getfield 48, 42, 492) := rfl
theorem f_88_35 : xi 88 35 = some (.aaload, 0, 0) := rfl
theorem f_88_40 : xi 88 40 = some (.getfield 299, 18, 277) := rfl
theorem f_88_44 : xi 88 44 = some (.if_icmp .ne 6, 0, 0) := rfl
theorem f_88_49 : xi 88 49 = some (.ireturn, 0, 0) := rfl
theorem f_88_52 : xi 88 52 = some (.getfield 299, 18, 277) := rfl
theorem f_88_56 : xi 88 56 = some (.if_icmp .eq 6, 0, 0) := rfl
theorem f_88_61 : xi 88 61 = some (.ireturn, 0, 0) := rfl
theorem f_88_72 : xi 88 72 = some (.if_icmp .ge 96, 0, 0) := rfl
set_option maxRecDepth 1000000 in
theorem f_88_79 : xi 88 79 = some (.getfield 302, 19, 279) := rfl
set_option maxRecDepth 1000000 in
theorem f_88_82 : xi 88 82 = some (.invokestatic 118, 90, 534) := rfl
set_option maxRecDepth 1000000 in
theorem f_88_85 : xi 88 85 = some (.ifCond .eq 18, 0, 0) := rfl
set_option maxRecDepth 1000000 in
theorem f_88_97 : xi 88 97 = some (.invokevirtual 303, 32, 858) := rfl
set_option maxRecDepth 1000000 in
theorem f_88_100 : xi 88 100 = some (.ifCond .ne 6, 0, 0) := rfl
set_option maxRecDepth 1000000 in
theorem f_88_105 : xi 88 105 = some (.ireturn, 0, 0) := rfl
set_option maxRecDepth 1000000 in
theorem f_88_117 : xi 88 117 = some (.getfield 266, 17, 275) := rfl
set_option maxRecDepth 1000000 in
theorem f_88_122 : xi 88 122 = some (.iaload, 0, 0) := rfl
set_option maxRecDepth 1000000 in
theorem f_88_125 : xi 88 125 = some (.getfield 266, 17, 275) := rfl
set_option maxRecDepth 1000000 in
theorem f_88_132 : xi 88 132 = some (.iaload, 0, 0) := rfl
set_option maxRecDepth 1000000 in
theorem f_88_135 : xi 88 135 = some (.getfield 266, 17, 275) := rfl
set_option maxRecDepth 1000000 in
theorem f_88_142 : xi 88 142 = some (.iaload, 0, 0) := rfl
set_option maxRecDepth 1000000 in
theorem f_88_145 : xi 88 145 = some (.getfield 266, 17, 275) := rfl
set_option maxRecDepth 1000000 in
theorem f_88_152 : xi 88 152 = some (.iaload, 0, 0) := rfl
set_option maxRecDepth 1000000 in
theorem f_88_153 : xi 88 153 = some (.invokevirtual 132, 96, 560) := rfl
set_option maxRecDepth 1000000 in
theorem f_88_156 : xi 88 156 = some (.ifCond .lt 6, 0, 0) := rfl
set_option maxRecDepth 1000000 in
theorem f_88_170 : xi 88 170 = some (.ireturn, 0, 0) := rfl
theorem m_89 : xme 89 = some xe_89 := rfl
theorem f_89_4 : xi 89 4 = some (.invokestatic 118, 90, 534) := rfl
theorem f_89_7 : xi 89 7 = some (.ifCond .ne 6, 0, 0) := rfl
theorem f_89_12 : xi 89 12 = some (.ireturn, 0, 0) := rfl
theorem f_89_17 : xi 89 17 = some (.invokestatic 118, 90, 534) := rfl
theorem f_89_20 : xi 89 20 = some (.ifCond .ne 6, 0, 0) := rfl
theorem f_89_25 : xi 89 25 = some (.ireturn, 0, 0) := rfl
theorem f_89_29 : xi 89 29 = some (.if_icmp .ge 43, 0, 0) := rfl
theorem f_89_34 : xi 89 34 = some (.invokevirtual 136, 95, 579) := rfl
theorem f_89_37 : xi 89 37 = some (.ifCond .ne 6, 0, 0) := rfl
theorem f_89_42 : xi 89 42 = some (.ireturn, 0, 0) := rfl
theorem f_89_46 : xi 89 46 = some (.if_icmp .eq 23, 0, 0) := rfl
theorem f_89_50 : xi 89 50 = some (.getfield 10, 35, 485) := rfl
theorem f_89_53 : xi 89 53 = some (.getfield 139, 30, 130) := rfl
theorem f_89_57 : xi 89 57 = some (.aaload, 0, 0) := rfl
theorem f_89_59 : xi 89 59 = some (.invokevirtual 312, 26, 871) := rfl
theorem f_89_62 : xi 89 62 = some (.ifCond .eq 7, 0, 0) := rfl
theorem f_89_71 : xi 89 71 = some (.ireturn, 0, 0) := rfl
set_option maxRecDepth 1000000 in
theorem f_89_79 : xi 89 79 = some (.getfield 10, 35, 485) := rfl
set_option maxRecDepth 1000000 in
theorem f_89_82 : xi 89 82 = some (.getfield 106, 32, 135) := rfl
set_option maxRecDepth 1000000 in
theorem f_89_85 : xi 89 85 = some (.if_icmp .lt 6, 0, 0) := rfl
set_option maxRecDepth 1000000 in
theorem f_89_90 : xi 89 90 = some (.ireturn, 0, 0) := rfl
set_option maxRecDepth 1000000 in
theorem f_89_94 : xi 89 94 = some (.if_icmp .ne 25, 0, 0) := rfl
set_option maxRecDepth 1000000 in
theorem f_89_98 : xi 89 98 = some (.getfield 25, 38, 488) := rfl
set_option maxRecDepth 1000000 in
theorem f_89_102 : xi 89 102 = some (.aaload, 0, 0) := rfl
set_option maxRecDepth 1000000 in
theorem f_89_103 : xi 89 103 = some (.getfield 180, 3, 258) := rfl
set_option maxRecDepth 1000000 in
theorem f_89_107 : xi 89 107 = some (.getfield 25, 38, 488) := rfl
set_option maxRecDepth 1000000 in
theorem f_89_111 : xi 89 111 = some (.aaload, 0, 0) := rfl
set_option maxRecDepth 1000000 in
theorem f_89_112 : xi 89 112 = some (.getfield 179, 2, 255) := rfl
set_option maxRecDepth 1000000 in
theorem f_89_121 : xi 89 121 = some (.ireturn, 0, 0) := rfl
theorem m_90 : xme 90 = some xe_90 := rfl
theorem f_90_2 : xi 90 2 = some (.if_icmp .gt 12, 0, 0) := rfl
theorem f_90_7 : xi 90 7 = some (.if_icmp .gt 7, 0, 0) := rfl
theorem f_90_15 : xi 90 15 = some (.ireturn, 0, 0) := rfl
theorem m_91 : xme 91 = some xe_91 := rfl
theorem f_91_5 : xi 91 5 = some (.invokestatic 118, 90, 534) := rfl
theorem f_91_8 : xi 91 8 = some (.ireturn, 0, 0) := rfl
theorem m_92 : xme 92 = some xe_92 := rfl
theorem f_92_3 : xi 92 3 = some (.invokestatic 118, 90, 534) := rfl
theorem f_92_6 : xi 92 6 = some (.ireturn, 0, 0) := rfl
theorem m_93 : xme 93 = some xe_93 := rfl
theorem f_93_3 : xi 93 3 = some (.invokestatic 118, 90, 534) := rfl
theorem f_93_6 : xi 93 6 = some (.ireturn, 0, 0) := rfl
theorem m_94 : xme 94 = some xe_94 := rfl
theorem f_94_3 : xi 94 3 = some (.getfield 35, 40, 490) := rfl
theorem f_94_8 : xi 94 8 = some (.invokestatic 118, 90, 534) := rfl
theorem f_94_11 : xi 94 11 = some (.ireturn, 0, 0) := rfl
theorem m_95 : xme 95 = some xe_95 := rfl
theorem f_95_3 : xi 95 3 = some (.getfield 10, 35, 485) := rfl
theorem f_95_6 : xi 95 6 = some (.getfield 103, 31, 133) := rfl
theorem f_95_11 : xi 95 11 = some (.invokestatic 118, 90, 534) := rfl
theorem f_95_14 : xi 95 14 = some (.ireturn, 0, 0) := rfl
theorem m_96 : xme 96 = some xe_96 := rfl
theorem f_96_4 : xi 96 4 = some (.invokestatic 118, 90, 534) := rfl
theorem f_96_7 : xi 96 7 = some (.ifCond .eq 39, 0, 0) := rfl
theorem f_96_11 : xi 96 11 = some (.invokestatic 167, 92, 564) := rfl
theorem f_96_14 : xi 96 14 = some (.ifCond .eq 32, 0, 0) := rfl
theorem f_96_22 : xi 96 22 = some (.invokestatic 118, 90, 534) := rfl
theorem f_96_25 : xi 96 25 = some (.ifCond .eq 21, 0, 0) := rfl
theorem f_96_34 : xi 96 34 = some (.invokestatic 118, 90, 534) := rfl
theorem f_96_37 : xi 96 37 = some (.ifCond .eq 9, 0, 0) := rfl
theorem f_96_43 : xi 96 43 = some (.if_icmp .le 6, 0, 0) := rfl
theorem f_96_48 : xi 96 48 = some (.ireturn, 0, 0) := rfl
theorem f_96_50 : xi 96 50 = some (.getfield 10, 35, 485) := rfl
theorem f_96_53 : xi 96 53 = some (.getfield 103, 31, 133) := rfl
theorem f_96_58 : xi 96 58 = some (.if_icmp .lt 6, 0, 0) := rfl
theorem f_96_63 : xi 96 63 = some (.ireturn, 0, 0) := rfl
theorem f_96_65 : xi 96 65 = some (.getfield 10, 35, 485) := rfl
theorem f_96_68 : xi 96 68 = some (.getfield 139, 30, 130) := rfl
theorem f_96_72 : xi 96 72 = some (.getfield 10, 35, 485) := rfl
theorem f_96_75 : xi 96 75 = some (.getfield 103, 31, 133) := rfl
theorem f_96_78 : xi 96 78 = some (.aaload, 0, 0) := rfl
set_option maxRecDepth 1000000 in
theorem f_96_84 : xi 96 84 = some (.invokevirtual 315, 22, 567) := rfl
set_option maxRecDepth 1000000 in
theorem f_96_88 : xi 96 88 = some (.getfield 10, 35, 485) := rfl
set_option maxRecDepth 1000000 in
theorem f_96_92 : xi 96 92 = some (.getfield 103, 31, 133) := rfl
set_option maxRecDepth 1000000 in
theorem f_96_97 : xi 96 97 = some (.putfield 103, 31, 133) := rfl
set_option maxRecDepth 1000000 in
theorem f_96_101 : xi 96 101 = some (.getfield 10, 35, 485) := rfl
set_option maxRecDepth 1000000 in
theorem f_96_104 : xi 96 104 = some (.getfield 103, 31, 133) := rfl
set_option maxRecDepth 1000000 in
theorem f_96_109 : xi 96 109 = some (.ireturn, 0, 0) := rfl
theorem m_97 : xme 97 = some xe_97 := rfl
theorem f_97_1 : xi 97 1 = some (.getfield 55, 43, 493) := rfl
theorem f_97_5 : xi 97 5 = some (.getfield 25, 38, 488) := rfl
theorem f_97_9 : xi 97 9 = some (.getfield 10, 35, 485) := rfl
theorem f_97_12 : xi 97 12 = some (.getfield 106, 32, 135) := rfl
theorem f_97_16 : xi 97 16 = some (.invokevirtual 205, 35, 617) := rfl
theorem f_97_21 : xi 97 21 = some (.invokevirtual 214, 98, 630) := rfl
theorem f_97_24 : xi 97 24 = some (.ireturn, 0, 0) := rfl
theorem m_98 : xme 98 = some xe_98 := rfl
theorem f_98_1 : xi 98 1 = some (.getfield 55, 43, 493) := rfl
theorem f_98_5 : xi 98 5 = some (.getfield 10, 35, 485) := rfl
theorem f_98_9 : xi 98 9 = some (.invokevirtual 245, 34, 634) := rfl
theorem f_98_13 : xi 98 13 = some (.getfield 55, 43, 493) := rfl
theorem f_98_16 : xi 98 16 = some (.invokevirtual 217, 38, 644) := rfl
theorem f_98_19 : xi 98 19 = some (.ireturn, 0, 0) := rfl
theorem m_99 : xme 99 = some xe_99 := rfl
theorem f_99_4 : xi 99 4 = some (.putfield 66, 46, 496) := rfl
theorem f_99_11 : xi 99 11 = some (.putfield 69, 47, 497) := rfl
theorem f_99_19 : xi 99 19 = some (.if_icmp .ge 63, 0, 0) := rfl
theorem f_99_24 : xi 99 24 = some (.getfield 318, 29, 172) := rfl
theorem f_99_30 : xi 99 30 = some (.ifCond .ne 46, 0, 0) := rfl
theorem f_99_35 : xi 99 35 = some (.invokevirtual 321, 100, 696) := rfl
theorem f_99_41 : xi 99 41 = some (.getfield 59, 44, 494) := rfl
theorem f_99_45 : xi 99 45 = some (.getfield 63, 45, 495) := rfl
theorem f_99_48 : xi 99 48 = some (.invokevirtual 276, 46, 700) := rfl
theorem f_99_54 : xi 99 54 = some (.getfield 66, 46, 496) := rfl
theorem f_99_58 : xi 99 58 = some (.invokestatic 249, 9998, 710) := rfl
theorem f_99_61 : xi 99 61 = some (.putfield 66, 46, 496) := rfl
theorem f_99_66 : xi 99 66 = some (.getfield 69, 47, 497) := rfl
theorem f_99_70 : xi 99 70 = some (.invokestatic 254, 9997, 711) := rfl
theorem f_99_73 : xi 99 73 = some (.putfield 69, 47, 497) := rfl
set_option maxRecDepth 1000000 in
theorem f_99_83 : xi 99 83 = some (.getfield 69, 47, 497) := rfl
set_option maxRecDepth 1000000 in
theorem f_99_86 : xi 99 86 = some (.i2l, 0, 0) := rfl
set_option maxRecDepth 1000000 in
theorem f_99_88 : xi 99 88 = some (.getfield 66, 46, 496) := rfl
set_option maxRecDepth 1000000 in
theorem f_99_91 : xi 99 91 = some (.i2l, 0, 0) := rfl
set_option maxRecDepth 1000000 in
theorem f_99_93 : xi 99 93 = some (.lreturn, 0, 0) := rfl
theorem m_100 : xme 100 = some xe_100 := rfl
theorem f_100_5 : xi 100 5 = some (.if_icmp .ge 44, 0, 0) := rfl
theorem f_100_9 : xi 100 9 = some (.getfield 59, 44, 494) := rfl
theorem f_100_18 : xi 100 18 = some (.ifCond .ne 15, 0, 0) := rfl
theorem f_100_22 : xi 100 22 = some (.getfield 55, 43, 493) := rfl
theorem f_100_25 : xi 100 25 = some (.getfield 190, 22, 224) := rfl
theorem f_100_29 : xi 100 29 = some (.iaload, 0, 0) := rfl
theorem f_100_34 : xi 100 34 = some (.getfield 55, 43, 493) := rfl
theorem f_100_37 : xi 100 37 = some (.getfield 193, 23, 226) := rfl
theorem f_100_41 : xi 100 41 = some (.iaload, 0, 0) := rfl
theorem f_100_42 : xi 100 42 = some (.iastore, 0, 0) := rfl
theorem f_100_49 : xi 100 49 = some (.return_, 0, 0) := rfl
theorem m_101 : xme 101 = some xe_101 := rfl
theorem f_101_2 : xi 101 2 = some (.invokevirtual 321, 100, 696) := rfl
theorem f_101_6 : xi 101 6 = some (.getfield 31, 39, 489) := rfl
theorem f_101_10 : xi 101 10 = some (.getfield 10, 35, 485) := rfl
theorem f_101_13 : xi 101 13 = some (.getfield 112, 34, 140) := rfl
theorem f_101_16 : xi 101 16 = some (.aaload, 0, 0) := rfl
theorem f_101_19 : xi 101 19 = some (.getfield 59, 44, 494) := rfl
theorem f_101_23 : xi 101 23 = some (.getfield 63, 45, 495) := rfl
theorem f_101_26 : xi 101 26 = some (.invokevirtual 276, 46, 700) := rfl
theorem f_101_34 : xi 101 34 = some (.invokestatic 249, 9998, 710) := rfl
theorem f_101_37 : xi 101 37 = some (.invokestatic 254, 9997, 711) := rfl
theorem f_101_40 : xi 101 40 = some (.ireturn, 0, 0) := rfl
theorem m_102 : xme 102 = some xe_102 := rfl
theorem f_102_1 : xi 102 1 = some (.invokevirtual 226, 101, 716) := rfl
theorem f_102_6 : xi 102 6 = some (.ifCond .ne 7, 0, 0) := rfl
theorem f_102_16 : xi 102 16 = some (.idiv, 0, 0) := rfl
theorem f_102_17 : xi 102 17 = some (.invokestatic 249, 9998, 710) := rfl
theorem f_102_20 : xi 102 20 = some (.ireturn, 0, 0) := rfl
theorem m_103 : xme 103 = some xe_103 := rfl
theorem f_103_10 : xi 103 10 = some (.if_icmp .ge 29, 0, 0) := rfl
theorem f_103_16 : xi 103 16 = some (.irem, 0, 0) := rfl
theorem f_103_18 : xi 103 18 = some (.if_icmp .le 5, 0, 0) := rfl
theorem f_103_22 : xi 103 22 = some (.ireturn, 0, 0) := rfl
theorem f_103_26 : xi 103 26 = some (.irem, 0, 0) := rfl
theorem f_103_31 : xi 103 31 = some (.idiv, 0, 0) := rfl
theorem f_103_40 : xi 103 40 = some (.ireturn, 0, 0) := rfl
theorem m_104 : xme 104 = some xe_104 := rfl
theorem f_104_1 : xi 104 1 = some (.getfield 59, 44, 494) := rfl
theorem f_104_5 : xi 104 5 = some (.invokestatic 324, 204, 738) := rfl
theorem f_104_16 : xi 104 16 = some (.if_icmp .ge 27, 0, 0) := rfl
theorem f_104_20 : xi 104 20 = some (.getfield 59, 44, 494) := rfl
theorem f_104_26 : xi 104 26 = some (.irem, 0, 0) := rfl
theorem f_104_28 : xi 104 28 = some (.iaload, 0, 0) := rfl
theorem f_104_31 : xi 104 31 = some (.iastore, 0, 0) := rfl
theorem f_104_35 : xi 104 35 = some (.idiv, 0, 0) := rfl
theorem f_104_44 : xi 104 44 = some (.getfield 55, 43, 493) := rfl
theorem f_104_48 : xi 104 48 = some (.getfield 10, 35, 485) := rfl
theorem f_104_52 : xi 104 52 = some (.invokevirtual 245, 34, 634) := rfl
theorem f_104_62 : xi 104 62 = some (.if_icmp .ge 55, 0, 0) := rfl
theorem f_104_66 : xi 104 66 = some (.getfield 55, 43, 493) := rfl
theorem f_104_69 : xi 104 69 = some (.getfield 184, 20, 220) := rfl
set_option maxRecDepth 1000000 in
theorem f_104_75 : xi 104 75 = some (.iaload, 0, 0) := rfl
set_option maxRecDepth 1000000 in
theorem f_104_77 : xi 104 77 = some (.getfield 59, 44, 494) := rfl
set_option maxRecDepth 1000000 in
theorem f_104_82 : xi 104 82 = some (.iaload, 0, 0) := rfl
set_option maxRecDepth 1000000 in
theorem f_104_84 : xi 104 84 = some (.idiv, 0, 0) := rfl
set_option maxRecDepth 1000000 in
theorem f_104_86 : xi 104 86 = some (.iastore, 0, 0) := rfl
set_option maxRecDepth 1000000 in
theorem f_104_88 : xi 104 88 = some (.getfield 55, 43, 493) := rfl
set_option maxRecDepth 1000000 in
theorem f_104_91 : xi 104 91 = some (.getfield 187, 21, 222) := rfl
set_option maxRecDepth 1000000 in
theorem f_104_97 : xi 104 97 = some (.iaload, 0, 0) := rfl
set_option maxRecDepth 1000000 in
theorem f_104_99 : xi 104 99 = some (.getfield 59, 44, 494) := rfl
set_option maxRecDepth 1000000 in
theorem f_104_104 : xi 104 104 = some (.iaload, 0, 0) := rfl
set_option maxRecDepth 1000000 in
theorem f_104_108 : xi 104 108 = some (.idiv, 0, 0) := rfl
set_option maxRecDepth 1000000 in
theorem f_104_110 : xi 104 110 = some (.iastore, 0, 0) := rfl
set_option maxRecDepth 1000000 in
theorem f_104_118 : xi 104 118 = some (.getfield 55, 43, 493) := rfl
set_option maxRecDepth 1000000 in
theorem f_104_121 : xi 104 121 = some (.invokevirtual 217, 38, 644) := rfl
set_option maxRecDepth 1000000 in
theorem f_104_124 : xi 104 124 = some (.ireturn, 0, 0) := rfl
theorem m_105 : xme 105 = some xe_105 := rfl
theorem f_105_13 : xi 105 13 = some (.if_icmp .ge 33, 0, 0) := rfl
theorem f_105_22 : xi 105 22 = some (.irem, 0, 0) := rfl
theorem f_105_31 : xi 105 31 = some (.idiv, 0, 0) := rfl
theorem f_105_47 : xi 105 47 = some (.ireturn, 0, 0) := rfl
theorem m_106 : xme 106 = some xe_106 := rfl
theorem f_106_6 : xi 106 6 = some (.if_icmp .ge 13, 0, 0) := rfl
theorem f_106_20 : xi 106 20 = some (.ireturn, 0, 0) := rfl
theorem m_107 : xme 107 = some xe_107 := rfl
theorem f_107_13 : xi 107 13 = some (.if_icmp .ge 31, 0, 0) := rfl
theorem f_107_19 : xi 107 19 = some (.lcmp, 0, 0) := rfl
theorem f_107_20 : xi 107 20 = some (.ifCond .eq 24, 0, 0) := rfl
theorem f_107_27 : xi 107 27 = some (.lrem, 0, 0) := rfl
theorem f_107_46 : xi 107 46 = some (.ifCond .ne 7, 0, 0) := rfl
theorem f_107_59 : xi 107 59 = some (.lcmp, 0, 0) := rfl
theorem f_107_60 : xi 107 60 = some (.ifCond .le 11, 0, 0) := rfl
theorem f_107_67 : xi 107 67 = some (.ldiv, 0, 0) := rfl
theorem f_107_73 : xi 107 73 = some (.lreturn, 0, 0) := rfl
theorem m_108 : xme 108 = some xe_108 := rfl
theorem f_108_1 : xi 108 1 = some (.invokestatic 280, 93, 773) := rfl
theorem f_108_4 : xi 108 4 = some (.ifCond .ne 6, 0, 0) := rfl
theorem f_108_9 : xi 108 9 = some (.ireturn, 0, 0) := rfl
theorem f_108_11 : xi 108 11 = some (.getfield 48, 42, 492) := rfl
theorem f_108_15 : xi 108 15 = some (.aaload, 0, 0) := rfl
theorem f_108_16 : xi 108 16 = some (.getfield 299, 18, 277) := rfl
theorem f_108_20 : xi 108 20 = some (.if_icmp .ne 6, 0, 0) := rfl
theorem f_108_25 : xi 108 25 = some (.ireturn, 0, 0) := rfl
theorem f_108_27 : xi 108 27 = some (.getfield 48, 42, 492) := rfl
theorem f_108_31 : xi 108 31 = some (.aaload, 0, 0) := rfl
theorem f_108_32 : xi 108 32 = some (.getfield 302, 19, 279) := rfl
theorem f_108_37 : xi 108 37 = some (.if_icmp .ne 7, 0, 0) := rfl
theorem f_108_46 : xi 108 46 = some (.ireturn, 0, 0) := rfl
theorem m_109 : xme 109 = some xe_109 := rfl
theorem f_109_3 : xi 109 3 = some (.i2l, 0, 0) := rfl
theorem f_109_12 : xi 109 12 = some (.if_icmp .ge 54, 0, 0) := rfl
theorem f_109_23 : xi 109 23 = some (.lrem, 0, 0) := rfl
theorem f_109_26 : xi 109 26 = some (.getfield 59, 44, 494) := rfl
theorem f_109_32 : xi 109 32 = some (.getfield 55, 43, 493) := rfl
theorem f_109_35 : xi 109 35 = some (.getfield 190, 22, 224) := rfl
theorem f_109_40 : xi 109 40 = some (.iaload, 0, 0) := rfl
theorem f_109_44 : xi 109 44 = some (.getfield 55, 43, 493) := rfl
theorem f_109_49 : xi 109 49 = some (.invokevirtual 261, 40, 761) := rfl
theorem f_109_52 : xi 109 52 = some (.invokestatic 254, 9997, 711) := rfl
theorem f_109_55 : xi 109 55 = some (.i2l, 0, 0) := rfl
theorem f_109_56 : xi 109 56 = some (.lrem, 0, 0) := rfl
theorem f_109_59 : xi 109 59 = some (.iastore, 0, 0) := rfl
theorem f_109_66 : xi 109 66 = some (.return_, 0, 0) := rfl
theorem m_110 : xme 110 = some xe_110 := rfl
theorem f_110_1 : xi 110 1 = some (.getfield 31, 39, 489) := rfl
theorem f_110_5 : xi 110 5 = some (.getfield 10, 35, 485) := rfl
theorem f_110_8 : xi 110 8 = some (.getfield 112, 34, 140) := rfl
theorem f_110_11 : xi 110 11 = some (.aaload, 0, 0) := rfl
theorem f_110_14 : xi 110 14 = some (.getfield 59, 44, 494) := rfl
theorem f_110_18 : xi 110 18 = some (.getfield 63, 45, 495) := rfl
theorem f_110_21 : xi 110 21 = some (.invokevirtual 276, 46, 700) := rfl
theorem f_110_24 : xi 110 24 = some (.ifCond .eq 7, 0, 0) := rfl
theorem f_110_32 : xi 110 32 = some (.ireturn, 0, 0) := rfl
theorem m_111 : xme 111 = some xe_111 := rfl
theorem f_111_9 : xi 111 9 = some (.putfield 7, 49, 931) := rfl
theorem f_111_17 : xi 111 17 = some (.putfield 13, 51, 933) := rfl
theorem f_111_26 : xi 111 26 = some (.putfield 16, 53, 935) := rfl
theorem f_111_35 : xi 111 35 = some (.putfield 19, 55, 937) := rfl
theorem f_111_43 : xi 111 43 = some (.putfield 22, 56, 938) := rfl
theorem f_111_51 : xi 111 51 = some (.putfield 25, 64, 946) := rfl
theorem f_111_61 : xi 111 61 = some (.iastore, 0, 0) := rfl
theorem f_111_65 : xi 111 65 = some (.iastore, 0, 0) := rfl
theorem f_111_69 : xi 111 69 = some (.iastore, 0, 0) := rfl
set_option maxRecDepth 1000000 in
theorem f_111_73 : xi 111 73 = some (.iastore, 0, 0) := rfl
set_option maxRecDepth 1000000 in
theorem f_111_74 : xi 111 74 = some (.putfield 28, 65, 947) := rfl
set_option maxRecDepth 1000000 in
theorem f_111_81 : xi 111 81 = some (.putfield 31, 66, 948) := rfl
set_option maxRecDepth 1000000 in
theorem f_111_90 : xi 111 90 = some (.putfield 34, 67, 949) := rfl
set_option maxRecDepth 1000000 in
theorem f_111_102 : xi 111 102 = some (.iastore, 0, 0) := rfl
set_option maxRecDepth 1000000 in
theorem f_111_107 : xi 111 107 = some (.iastore, 0, 0) := rfl
set_option maxRecDepth 1000000 in
theorem f_111_112 : xi 111 112 = some (.iastore, 0, 0) := rfl
set_option maxRecDepth 1000000 in
theorem f_111_117 : xi 111 117 = some (.iastore, 0, 0) := rfl
set_option maxRecDepth 1000000 in
theorem f_111_122 : xi 111 122 = some (.iastore, 0, 0) := rfl
set_option maxRecDepth 1000000 in
theorem f_111_127 : xi 111 127 = some (.iastore, 0, 0) := rfl
set_option maxRecDepth 1000000 in
theorem f_111_133 : xi 111 133 = some (.iastore, 0, 0) := rfl
set_option maxRecDepth 1000000 in
theorem f_111_139 : xi 111 139 = some (.iastore, 0, 0) := rfl
set_option maxRecDepth 1000000 in
theorem f_111_145 : xi 111 145 = some (.iastore, 0, 0) := rfl
set_option maxRecDepth 1000000 in
theorem f_111_151 : xi 111 151 = some (.iastore, 0, 0) := rfl
set_option maxRecDepth 1000000 in
theorem f_111_157 : xi 111 157 = some (.iastore, 0, 0) := rfl
set_option maxRecDepth 1000000 in
theorem f_111_163 : xi 111 163 = some (.iastore, 0, 0) := rfl
set_option maxRecDepth 1000000 in
theorem f_111_169 : xi 111 169 = some (.iastore, 0, 0) := rfl
set_option maxRecDepth 1000000 in
theorem f_111_175 : xi 111 175 = some (.iastore, 0, 0) := rfl
set_option maxRecDepth 1000000 in
theorem f_111_181 : xi 111 181 = some (.iastore, 0, 0) := rfl
set_option maxRecDepth 1000000 in
theorem f_111_187 : xi 111 187 = some (.iastore, 0, 0) := rfl
set_option maxRecDepth 1000000 in
theorem f_111_193 : xi 111 193 = some (.iastore, 0, 0) := rfl
set_option maxRecDepth 1000000 in
theorem f_111_199 : xi 111 199 = some (.iastore, 0, 0) := rfl
set_option maxRecDepth 1000000 in
theorem f_111_205 : xi 111 205 = some (.iastore, 0, 0) := rfl
set_option maxRecDepth 1000000 in
theorem f_111_211 : xi 111 211 = some (.iastore, 0, 0) := rfl
set_option maxRecDepth 1000000 in
theorem f_111_217 : xi 111 217 = some (.iastore, 0, 0) := rfl
set_option maxRecDepth 1000000 in
theorem f_111_223 : xi 111 223 = some (.iastore, 0, 0) := rfl
set_option maxRecDepth 1000000 in
theorem f_111_229 : xi 111 229 = some (.iastore, 0, 0) := rfl
set_option maxRecDepth 1000000 in
theorem f_111_235 : xi 111 235 = some (.iastore, 0, 0) := rfl
set_option maxRecDepth 1000000 in
theorem f_111_241 : xi 111 241 = some (.iastore, 0, 0) := rfl
set_option maxRecDepth 1000000 in
theorem f_111_247 : xi 111 247 = some (.iastore, 0, 0) := rfl
set_option maxRecDepth 1000000 in
theorem f_111_253 : xi 111 253 = some (.iastore, 0, 0) := rfl
set_option maxRecDepth 1000000 in
theorem f_111_259 : xi 111 259 = some (.iastore, 0, 0) := rfl
set_option maxRecDepth 1000000 in
theorem f_111_265 : xi 111 265 = some (.iastore, 0, 0) := rfl
set_option maxRecDepth 1000000 in
theorem f_111_271 : xi 111 271 = some (.iastore, 0, 0) := rfl
set_option maxRecDepth 1000000 in
theorem f_111_277 : xi 111 277 = some (.iastore, 0, 0) := rfl
set_option maxRecDepth 1000000 in
theorem f_111_283 : xi 111 283 = some (.iastore, 0, 0) := rfl
set_option maxRecDepth 1000000 in
theorem f_111_289 : xi 111 289 = some (.iastore, 0, 0) := rfl
set_option maxRecDepth 1000000 in
theorem f_111_295 : xi 111 295 = some (.iastore, 0, 0) := rfl
set_option maxRecDepth 1000000 in
theorem f_111_301 : xi 111 301 = some (.iastore, 0, 0) := rfl
set_option maxRecDepth 1000000 in
theorem f_111_302 : xi 111 302 = some (.putfield 37, 68, 950) := rfl
set_option maxRecDepth 1000000 in
theorem f_111_314 : xi 111 314 = some (.iastore, 0, 0) := rfl
set_option maxRecDepth 1000000 in
theorem f_111_319 : xi 111 319 = some (.iastore, 0, 0) := rfl
set_option maxRecDepth 1000000 in
theorem f_111_324 : xi 111 324 = some (.iastore, 0, 0) := rfl
set_option maxRecDepth 1000000 in
theorem f_111_329 : xi 111 329 = some (.iastore, 0, 0) := rfl
set_option maxRecDepth 1000000 in
theorem f_111_334 : xi 111 334 = some (.iastore, 0, 0) := rfl
set_option maxRecDepth 1000000 in
theorem f_111_339 : xi 111 339 = some (.iastore, 0, 0) := rfl
set_option maxRecDepth 1000000 in
theorem f_111_345 : xi 111 345 = some (.iastore, 0, 0) := rfl
set_option maxRecDepth 1000000 in
theorem f_111_351 : xi 111 351 = some (.iastore, 0, 0) := rfl
set_option maxRecDepth 1000000 in
theorem f_111_357 : xi 111 357 = some (.iastore, 0, 0) := rfl
set_option maxRecDepth 1000000 in
theorem f_111_363 : xi 111 363 = some (.iastore, 0, 0) := rfl
set_option maxRecDepth 1000000 in
theorem f_111_369 : xi 111 369 = some (.iastore, 0, 0) := rfl
set_option maxRecDepth 1000000 in
theorem f_111_375 : xi 111 375 = some (.iastore, 0, 0) := rfl
set_option maxRecDepth 1000000 in
theorem f_111_381 : xi 111 381 = some (.iastore, 0, 0) := rfl
set_option maxRecDepth 1000000 in
theorem f_111_387 : xi 111 387 = some (.iastore, 0, 0) := rfl
set_option maxRecDepth 1000000 in
theorem f_111_393 : xi 111 393 = some (.iastore, 0, 0) := rfl
set_option maxRecDepth 1000000 in
theorem f_111_399 : xi 111 399 = some (.iastore, 0, 0) := rfl
set_option maxRecDepth 1000000 in
theorem f_111_405 : xi 111 405 = some (.iastore, 0, 0) := rfl
set_option maxRecDepth 1000000 in
theorem f_111_411 : xi 111 411 = some (.iastore, 0, 0) := rfl
set_option maxRecDepth 1000000 in
theorem f_111_417 : xi 111 417 = some (.iastore, 0, 0) := rfl
set_option maxRecDepth 1000000 in
theorem f_111_423 : xi 111 423 = some (.iastore, 0, 0) := rfl
set_option maxRecDepth 1000000 in
theorem f_111_429 : xi 111 429 = some (.iastore, 0, 0) := rfl
set_option maxRecDepth 1000000 in
theorem f_111_435 : xi 111 435 = some (.iastore, 0, 0) := rfl
set_option maxRecDepth 1000000 in
theorem f_111_441 : xi 111 441 = some (.iastore, 0, 0) := rfl
set_option maxRecDepth 1000000 in
theorem f_111_447 : xi 111 447 = some (.iastore, 0, 0) := rfl
set_option maxRecDepth 1000000 in
theorem f_111_453 : xi 111 453 = some (.iastore, 0, 0) := rfl
set_option maxRecDepth 1000000 in
theorem f_111_459 : xi 111 459 = some (.iastore, 0, 0) := rfl
set_option maxRecDepth 1000000 in
theorem f_111_465 : xi 111 465 = some (.iastore, 0, 0) := rfl
set_option maxRecDepth 1000000 in
theorem f_111_471 : xi 111 471 = some (.iastore, 0, 0) := rfl
set_option maxRecDepth 1000000 in
theorem f_111_477 : xi 111 477 = some (.iastore, 0, 0) := rfl
set_option maxRecDepth 1000000 in
theorem f_111_483 : xi 111 483 = some (.iastore, 0, 0) := rfl
set_option maxRecDepth 1000000 in
theorem f_111_489 : xi 111 489 = some (.iastore, 0, 0) := rfl
set_option maxRecDepth 1000000 in
theorem f_111_495 : xi 111 495 = some (.iastore, 0, 0) := rfl
set_option maxRecDepth 1000000 in
theorem f_111_501 : xi 111 501 = some (.iastore, 0, 0) := rfl
set_option maxRecDepth 1000000 in
theorem f_111_507 : xi 111 507 = some (.iastore, 0, 0) := rfl
set_option maxRecDepth 1000000 in
theorem f_111_513 : xi 111 513 = some (.iastore, 0, 0) := rfl
set_option maxRecDepth 1000000 in
theorem f_111_519 : xi 111 519 = some (.iastore, 0, 0) := rfl
set_option maxRecDepth 1000000 in
theorem f_111_525 : xi 111 525 = some (.iastore, 0, 0) := rfl
set_option maxRecDepth 1000000 in
theorem f_111_531 : xi 111 531 = some (.iastore, 0, 0) := rfl
set_option maxRecDepth 1000000 in
theorem f_111_537 : xi 111 537 = some (.iastore, 0, 0) := rfl
set_option maxRecDepth 1000000 in
theorem f_111_543 : xi 111 543 = some (.iastore, 0, 0) := rfl
set_option maxRecDepth 1000000 in
theorem f_111_549 : xi 111 549 = some (.iastore, 0, 0) := rfl
set_option maxRecDepth 1000000 in
theorem f_111_555 : xi 111 555 = some (.iastore, 0, 0) := rfl
set_option maxRecDepth 1000000 in
theorem f_111_561 : xi 111 561 = some (.iastore, 0, 0) := rfl
set_option maxRecDepth 1000000 in
theorem f_111_567 : xi 111 567 = some (.iastore, 0, 0) := rfl
set_option maxRecDepth 1000000 in
theorem f_111_573 : xi 111 573 = some (.iastore, 0, 0) := rfl
set_option maxRecDepth 1000000 in
theorem f_111_579 : xi 111 579 = some (.iastore, 0, 0) := rfl
set_option maxRecDepth 1000000 in
theorem f_111_585 : xi 111 585 = some (.iastore, 0, 0) := rfl
set_option maxRecDepth 1000000 in
theorem f_111_591 : xi 111 591 = some (.iastore, 0, 0) := rfl
set_option maxRecDepth 1000000 in
theorem f_111_597 : xi 111 597 = some (.iastore, 0, 0) := rfl
set_option maxRecDepth 1000000 in
theorem f_111_603 : xi 111 603 = some (.iastore, 0, 0) := rfl
set_option maxRecDepth 1000000 in
theorem f_111_609 : xi 111 609 = some (.iastore, 0, 0) := rfl
set_option maxRecDepth 1000000 in
theorem f_111_615 : xi 111 615 = some (.iastore, 0, 0) := rfl
set_option maxRecDepth 1000000 in
theorem f_111_621 : xi 111 621 = some (.iastore, 0, 0) := rfl
set_option maxRecDepth 1000000 in
theorem f_111_627 : xi 111 627 = some (.iastore, 0, 0) := rfl
set_option maxRecDepth 1000000 in
theorem f_111_633 : xi 111 633 = some (.iastore, 0, 0) := rfl
set_option maxRecDepth 1000000 in
theorem f_111_639 : xi 111 639 = some (.iastore, 0, 0) := rfl
set_option maxRecDepth 1000000 in
theorem f_111_645 : xi 111 645 = some (.iastore, 0, 0) := rfl
set_option maxRecDepth 1000000 in
theorem f_111_651 : xi 111 651 = some (.iastore, 0, 0) := rfl
set_option maxRecDepth 1000000 in
theorem f_111_657 : xi 111 657 = some (.iastore, 0, 0) := rfl
set_option maxRecDepth 1000000 in
theorem f_111_663 : xi 111 663 = some (.iastore, 0, 0) := rfl
set_option maxRecDepth 1000000 in
theorem f_111_669 : xi 111 669 = some (.iastore, 0, 0) := rfl
set_option maxRecDepth 1000000 in
theorem f_111_675 : xi 111 675 = some (.iastore, 0, 0) := rfl
set_option maxRecDepth 1000000 in
theorem f_111_681 : xi 111 681 = some (.iastore, 0, 0) := rfl
set_option maxRecDepth 1000000 in
theorem f_111_687 : xi 111 687 = some (.iastore, 0, 0) := rfl
set_option maxRecDepth 1000000 in
theorem f_111_693 : xi 111 693 = some (.iastore, 0, 0) := rfl
set_option maxRecDepth 1000000 in
theorem f_111_699 : xi 111 699 = some (.iastore, 0, 0) := rfl
set_option maxRecDepth 1000000 in
theorem f_111_705 : xi 111 705 = some (.iastore, 0, 0) := rfl
set_option maxRecDepth 1000000 in
theorem f_111_711 : xi 111 711 = some (.iastore, 0, 0) := rfl
set_option maxRecDepth 1000000 in
theorem f_111_717 : xi 111 717 = some (.iastore, 0, 0) := rfl
set_option maxRecDepth 1000000 in
theorem f_111_723 : xi 111 723 = some (.iastore, 0, 0) := rfl
set_option maxRecDepth 1000000 in
theorem f_111_729 : xi 111 729 = some (.iastore, 0, 0) := rfl
set_option maxRecDepth 1000000 in
theorem f_111_735 : xi 111 735 = some (.iastore, 0, 0) := rfl
set_option maxRecDepth 1000000 in
theorem f_111_741 : xi 111 741 = some (.iastore, 0, 0) := rfl
set_option maxRecDepth 1000000 in
theorem f_111_747 : xi 111 747 = some (.iastore, 0, 0) := rfl
set_option maxRecDepth 1000000 in
theorem f_111_753 : xi 111 753 = some (.iastore, 0, 0) := rfl
set_option maxRecDepth 1000000 in
theorem f_111_759 : xi 111 759 = some (.iastore, 0, 0) := rfl
set_option maxRecDepth 1000000 in
theorem f_111_765 : xi 111 765 = some (.iastore, 0, 0) := rfl
set_option maxRecDepth 1000000 in
theorem f_111_771 : xi 111 771 = some (.iastore, 0, 0) := rfl
set_option maxRecDepth 1000000 in
theorem f_111_777 : xi 111 777 = some (.iastore, 0, 0) := rfl
set_option maxRecDepth 1000000 in
theorem f_111_783 : xi 111 783 = some (.iastore, 0, 0) := rfl
set_option maxRecDepth 1000000 in
theorem f_111_789 : xi 111 789 = some (.iastore, 0, 0) := rfl
set_option maxRecDepth 1000000 in
theorem f_111_795 : xi 111 795 = some (.iastore, 0, 0) := rfl
set_option maxRecDepth 1000000 in
theorem f_111_801 : xi 111 801 = some (.iastore, 0, 0) := rfl
set_option maxRecDepth 1000000 in
theorem f_111_807 : xi 111 807 = some (.iastore, 0, 0) := rfl
set_option maxRecDepth 1000000 in
theorem f_111_813 : xi 111 813 = some (.iastore, 0, 0) := rfl
set_option maxRecDepth 1000000 in
theorem f_111_819 : xi 111 819 = some (.iastore, 0, 0) := rfl
set_option maxRecDepth 1000000 in
theorem f_111_825 : xi 111 825 = some (.iastore, 0, 0) := rfl
set_option maxRecDepth 1000000 in
theorem f_111_831 : xi 111 831 = some (.iastore, 0, 0) := rfl
set_option maxRecDepth 1000000 in
theorem f_111_837 : xi 111 837 = some (.iastore, 0, 0) := rfl
set_option maxRecDepth 1000000 in
theorem f_111_843 : xi 111 843 = some (.iastore, 0, 0) := rfl
set_option maxRecDepth 1000000 in
theorem f_111_849 : xi 111 849 = some (.iastore, 0, 0) := rfl
set_option maxRecDepth 1000000 in
theorem f_111_855 : xi 111 855 = some (.iastore, 0, 0) := rfl
set_option maxRecDepth 1000000 in
theorem f_111_861 : xi 111 861 = some (.iastore, 0, 0) := rfl
set_option maxRecDepth 1000000 in
theorem f_111_867 : xi 111 867 = some (.iastore, 0, 0) := rfl
set_option maxRecDepth 1000000 in
theorem f_111_873 : xi 111 873 = some (.iastore, 0, 0) := rfl
set_option maxRecDepth 1000000 in
theorem f_111_879 : xi 111 879 = some (.iastore, 0, 0) := rfl
set_option maxRecDepth 1000000 in
theorem f_111_880 : xi 111 880 = some (.putfield 40, 73, 955) := rfl
set_option maxRecDepth 1000000 in
theorem f_111_889 : xi 111 889 = some (.putfield 43, 74, 956) := rfl
set_option maxRecDepth 1000000 in
theorem f_111_898 : xi 111 898 = some (.putfield 46, 78, 960) := rfl
set_option maxRecDepth 1000000 in
theorem f_111_906 : xi 111 906 = some (.putfield 49, 79, 961) := rfl
set_option maxRecDepth 1000000 in
theorem f_111_914 : xi 111 914 = some (.putfield 52, 80, 962) := rfl
set_option maxRecDepth 1000000 in
theorem f_111_922 : xi 111 922 = some (.putfield 55, 81, 963) := rfl
set_option maxRecDepth 1000000 in
theorem f_111_930 : xi 111 930 = some (.putfield 58, 82, 964) := rfl
set_option maxRecDepth 1000000 in
theorem f_111_937 : xi 111 937 = some (.putfield 61, 85, 967) := rfl
set_option maxRecDepth 1000000 in
theorem f_111_945 : xi 111 945 = some (.if_icmp .ge 21, 0, 0) := rfl
set_option maxRecDepth 1000000 in
theorem f_111_949 : xi 111 949 = some (.getfield 16, 53, 935) := rfl
set_option maxRecDepth 1000000 in
theorem f_111_954 : xi 111 954 = some (.getfield 37, 68, 950) := rfl
set_option maxRecDepth 1000000 in
theorem f_111_958 : xi 111 958 = some (.iaload, 0, 0) := rfl
set_option maxRecDepth 1000000 in
theorem f_111_959 : xi 111 959 = some (.iastore, 0, 0) := rfl
set_option maxRecDepth 1000000 in
theorem f_111_969 : xi 111 969 = some (.putfield 64, 54, 936) := rfl
set_option maxRecDepth 1000000 in
theorem f_111_973 : xi 111 973 = some (.invokevirtual 68, 132, 883) := rfl
set_option maxRecDepth 1000000 in
theorem f_111_977 : xi 111 977 = some (.return_, 0, 0) := rfl
theorem m_112 : xme 112 = some xe_112 := rfl
theorem f_112_2 : xi 112 2 = some (.if_icmp .lt 12, 0, 0) := rfl
theorem f_112_7 : xi 112 7 = some (.if_icmp .gt 7, 0, 0) := rfl
theorem f_112_15 : xi 112 15 = some (.ireturn, 0, 0) := rfl
theorem m_113 : xme 113 = some xe_113 := rfl
theorem f_113_2 : xi 113 2 = some (.if_icmp .ge 7, 0, 0) := rfl
theorem f_113_11 : xi 113 11 = some (.if_icmp .le 7, 0, 0) := rfl
theorem f_113_19 : xi 113 19 = some (.ireturn, 0, 0) := rfl
theorem m_114 : xme 114 = some xe_114 := rfl
theorem f_114_3 : xi 114 3 = some (.getfield 72, 48, 930) := rfl
theorem f_114_8 : xi 114 8 = some (.invokestatic 75, 112, 891) := rfl
theorem f_114_11 : xi 114 11 = some (.ireturn, 0, 0) := rfl
theorem m_115 : xme 115 = some xe_115 := rfl
theorem f_115_3 : xi 115 3 = some (.invokestatic 75, 112, 891) := rfl
theorem f_115_6 : xi 115 6 = some (.ireturn, 0, 0) := rfl
theorem m_116 : xme 116 = some xe_116 := rfl
theorem f_116_3 : xi 116 3 = some (.getfield 79, 57, 939) := rfl
theorem f_116_8 : xi 116 8 = some (.invokestatic 75, 112, 891) := rfl
theorem f_116_11 : xi 116 11 = some (.ireturn, 0, 0) := rfl
theorem m_117 : xme 117 = some xe_117 := rfl
theorem f_117_7 : xi 117 7 = some (.if_icmp .ge 17, 0, 0) := rfl
theorem f_117_25 : xi 117 25 = some (.ireturn, 0, 0) := rfl
theorem m_118 : xme 118 = some xe_118 := rfl
theorem f_118_1 : xi 118 1 = some (.tableswitch 69 0 5 #[39, 44, 49, 54, 59, 64], 0, 0) := rfl
theorem f_118_41 : xi 118 41 = some (.getfield 72, 48, 930) := rfl
theorem f_118_44 : xi 118 44 = some (.ireturn, 0, 0) := rfl
theorem f_118_46 : xi 118 46 = some (.getfield 82, 50, 932) := rfl
theorem f_118_49 : xi 118 49 = some (.ireturn, 0, 0) := rfl
theorem f_118_51 : xi 118 51 = some (.getfield 85, 52, 934) := rfl
theorem f_118_54 : xi 118 54 = some (.ireturn, 0, 0) := rfl
theorem f_118_56 : xi 118 56 = some (.getfield 79, 57, 939) := rfl
theorem f_118_59 : xi 118 59 = some (.ireturn, 0, 0) := rfl
theorem f_118_61 : xi 118 61 = some (.getfield 88, 58, 940) := rfl
theorem f_118_64 : xi 118 64 = some (.ireturn, 0, 0) := rfl
theorem f_118_66 : xi 118 66 = some (.getfield 64, 54, 936) := rfl
theorem f_118_69 : xi 118 69 = some (.ireturn, 0, 0) := rfl
theorem f_118_72 : xi 118 72 = some (.ireturn, 0, 0) := rfl
theorem m_119 : xme 119 = some xe_119 := rfl
theorem f_119_4 : xi 119 4 = some (.invokestatic 75, 112, 891) := rfl
theorem f_119_7 : xi 119 7 = some (.ifCond .ne 6, 0, 0) := rfl
theorem f_119_12 : xi 119 12 = some (.ireturn, 0, 0) := rfl
theorem f_119_14 : xi 119 14 = some (.getfield 85, 52, 934) := rfl
theorem f_119_20 : xi 119 20 = some (.putfield 85, 52, 934) := rfl
theorem f_119_24 : xi 119 24 = some (.ireturn, 0, 0) := rfl
theorem m_120 : xme 120 = some xe_120 := rfl
theorem f_120_5 : xi 120 5 = some (.invokestatic 75, 112, 891) := rfl
theorem f_120_8 : xi 120 8 = some (.ireturn, 0, 0) := rfl
theorem m_121 : xme 121 = some xe_121 := rfl
theorem f_121_3 : xi 121 3 = some (.invokestatic 75, 112, 891) := rfl
theorem f_121_6 : xi 121 6 = some (.ifCond .eq 41, 0, 0) := rfl
theorem f_121_10 : xi 121 10 = some (.invokestatic 91, 120, 1057) := rfl
theorem f_121_13 : xi 121 13 = some (.ifCond .eq 34, 0, 0) := rfl
theorem f_121_17 : xi 121 17 = some (.invokestatic 91, 120, 1057) := rfl
theorem f_121_20 : xi 121 20 = some (.ifCond .eq 27, 0, 0) := rfl
theorem f_121_25 : xi 121 25 = some (.invokestatic 91, 120, 1057) := rfl
theorem f_121_28 : xi 121 28 = some (.ifCond .eq 19, 0, 0) := rfl
theorem f_121_33 : xi 121 33 = some (.invokestatic 91, 120, 1057) := rfl
theorem f_121_36 : xi 121 36 = some (.ifCond .eq 11, 0, 0) := rfl
theorem f_121_41 : xi 121 41 = some (.invokestatic 91, 120, 1057) := rfl
theorem f_121_44 : xi 121 44 = some (.ifCond .ne 6, 0, 0) := rfl
theorem f_121_49 : xi 121 49 = some (.ireturn, 0, 0) := rfl
theorem f_121_51 : xi 121 51 = some (.getfield 64, 54, 936) := rfl
theorem f_121_59 : xi 121 59 = some (.if_icmp .le 6, 0, 0) := rfl
theorem f_121_64 : xi 121 64 = some (.ireturn, 0, 0) := rfl
theorem f_121_71 : xi 121 71 = some (.if_icmp .ge 71, 0, 0) := rfl
theorem f_121_75 : xi 121 75 = some (.getfield 16, 53, 935) := rfl
theorem f_121_79 : xi 121 79 = some (.getfield 64, 54, 936) := rfl
theorem f_121_84 : xi 121 84 = some (.ifCond .ne 7, 0, 0) := rfl
set_option maxRecDepth 1000000 in
theorem f_121_94 : xi 121 94 = some (.if_icmp .ne 7, 0, 0) := rfl
set_option maxRecDepth 1000000 in
theorem f_121_104 : xi 121 104 = some (.if_icmp .ne 8, 0, 0) := rfl
set_option maxRecDepth 1000000 in
theorem f_121_115 : xi 121 115 = some (.if_icmp .ne 8, 0, 0) := rfl
set_option maxRecDepth 1000000 in
theorem f_121_125 : xi 121 125 = some (.iastore, 0, 0) := rfl
set_option maxRecDepth 1000000 in
theorem f_121_128 : xi 121 128 = some (.getfield 64, 54, 936) := rfl
set_option maxRecDepth 1000000 in
theorem f_121_133 : xi 121 133 = some (.putfield 64, 54, 936) := rfl
set_option maxRecDepth 1000000 in
theorem f_121_143 : xi 121 143 = some (.getfield 64, 54, 936) := rfl
set_option maxRecDepth 1000000 in
theorem f_121_146 : xi 121 146 = some (.ireturn, 0, 0) := rfl
theorem m_122 : xme 122 = some xe_122 := rfl
theorem f_122_5 : xi 122 5 = some (.if_icmp .ge 96, 0, 0) := rfl
theorem f_122_13 : xi 122 13 = some (.if_icmp .gt 7, 0, 0) := rfl
theorem f_122_30 : xi 122 30 = some (.if_icmp .ge 58, 0, 0) := rfl
theorem f_122_35 : xi 122 35 = some (.ifCond .eq 53, 0, 0) := rfl
theorem f_122_39 : xi 122 39 = some (.getfield 40, 73, 955) := rfl
theorem f_122_49 : xi 122 49 = some (.iaload, 0, 0) := rfl
theorem f_122_55 : xi 122 55 = some (.if_icmp .ge 15, 0, 0) := rfl
theorem f_122_59 : xi 122 59 = some (.getfield 16, 53, 935) := rfl
theorem f_122_66 : xi 122 66 = some (.iaload, 0, 0) := rfl
set_option maxRecDepth 1000000 in
theorem f_122_72 : xi 122 72 = some (.if_icmp .ne 7, 0, 0) := rfl
set_option maxRecDepth 1000000 in
theorem f_122_90 : xi 122 90 = some (.ifCond .eq 5, 0, 0) := rfl
set_option maxRecDepth 1000000 in
theorem f_122_94 : xi 122 94 = some (.ireturn, 0, 0) := rfl
set_option maxRecDepth 1000000 in
theorem f_122_103 : xi 122 103 = some (.ireturn, 0, 0) := rfl
theorem m_123 : xme 123 = some xe_123 := rfl
theorem f_123_1 : xi 123 1 = some (.getfield 95, 69, 951) := rfl
theorem f_123_5 : xi 123 5 = some (.getfield 64, 54, 936) := rfl
theorem f_123_8 : xi 123 8 = some (.if_icmp .ge 44, 0, 0) := rfl
theorem f_123_12 : xi 123 12 = some (.getfield 16, 53, 935) := rfl
theorem f_123_16 : xi 123 16 = some (.getfield 95, 69, 951) := rfl
theorem f_123_19 : xi 123 19 = some (.iaload, 0, 0) := rfl
theorem f_123_22 : xi 123 22 = some (.if_icmp .eq 17, 0, 0) := rfl
theorem f_123_26 : xi 123 26 = some (.getfield 16, 53, 935) := rfl
theorem f_123_30 : xi 123 30 = some (.getfield 95, 69, 951) := rfl
theorem f_123_33 : xi 123 33 = some (.iaload, 0, 0) := rfl
theorem f_123_36 : xi 123 36 = some (.if_icmp .ne 16, 0, 0) := rfl
theorem f_123_41 : xi 123 41 = some (.getfield 95, 69, 951) := rfl
theorem f_123_46 : xi 123 46 = some (.putfield 95, 69, 951) := rfl
theorem f_123_54 : xi 123 54 = some (.getfield 95, 69, 951) := rfl
theorem f_123_57 : xi 123 57 = some (.putfield 98, 70, 952) := rfl
theorem f_123_62 : xi 123 62 = some (.putfield 101, 71, 953) := rfl
theorem f_123_67 : xi 123 67 = some (.putfield 104, 72, 954) := rfl
theorem f_123_71 : xi 123 71 = some (.getfield 95, 69, 951) := rfl
theorem f_123_75 : xi 123 75 = some (.getfield 64, 54, 936) := rfl
theorem f_123_78 : xi 123 78 = some (.if_icmp .ne 4, 0, 0) := rfl
set_option maxRecDepth 1000000 in
theorem f_123_81 : xi 123 81 = some (.return_, 0, 0) := rfl
set_option maxRecDepth 1000000 in
theorem f_123_83 : xi 123 83 = some (.getfield 16, 53, 935) := rfl
set_option maxRecDepth 1000000 in
theorem f_123_87 : xi 123 87 = some (.getfield 95, 69, 951) := rfl
set_option maxRecDepth 1000000 in
theorem f_123_90 : xi 123 90 = some (.iaload, 0, 0) := rfl
set_option maxRecDepth 1000000 in
theorem f_123_97 : xi 123 97 = some (.invokestatic 75, 112, 891) := rfl
set_option maxRecDepth 1000000 in
theorem f_123_100 : xi 123 100 = some (.ifCond .eq 117, 0, 0) := rfl
set_option maxRecDepth 1000000 in
theorem f_123_104 : xi 123 104 = some (.getfield 95, 69, 951) := rfl
set_option maxRecDepth 1000000 in
theorem f_123_108 : xi 123 108 = some (.getfield 64, 54, 936) := rfl
set_option maxRecDepth 1000000 in
theorem f_123_111 : xi 123 111 = some (.if_icmp .ge 35, 0, 0) := rfl
set_option maxRecDepth 1000000 in
theorem f_123_115 : xi 123 115 = some (.getfield 16, 53, 935) := rfl
set_option maxRecDepth 1000000 in
theorem f_123_119 : xi 123 119 = some (.getfield 95, 69, 951) := rfl
set_option maxRecDepth 1000000 in
theorem f_123_122 : xi 123 122 = some (.iaload, 0, 0) := rfl
set_option maxRecDepth 1000000 in
theorem f_123_127 : xi 123 127 = some (.invokestatic 75, 112, 891) := rfl
set_option maxRecDepth 1000000 in
theorem f_123_130 : xi 123 130 = some (.ifCond .eq 16, 0, 0) := rfl
set_option maxRecDepth 1000000 in
theorem f_123_135 : xi 123 135 = some (.getfield 95, 69, 951) := rfl
set_option maxRecDepth 1000000 in
theorem f_123_140 : xi 123 140 = some (.putfield 95, 69, 951) := rfl
set_option maxRecDepth 1000000 in
theorem f_123_148 : xi 123 148 = some (.getfield 98, 70, 952) := rfl
set_option maxRecDepth 1000000 in
theorem f_123_152 : xi 123 152 = some (.getfield 95, 69, 951) := rfl
set_option maxRecDepth 1000000 in
theorem f_123_155 : xi 123 155 = some (.invokevirtual 107, 122, 894) := rfl
set_option maxRecDepth 1000000 in
theorem f_123_162 : xi 123 162 = some (.if_icmp .ge 7, 0, 0) := rfl
set_option maxRecDepth 1000000 in
theorem f_123_172 : xi 123 172 = some (.if_icmp .ge 7, 0, 0) := rfl
set_option maxRecDepth 1000000 in
theorem f_123_182 : xi 123 182 = some (.if_icmp .ne 7, 0, 0) := rfl
set_option maxRecDepth 1000000 in
theorem f_123_195 : xi 123 195 = some (.putfield 101, 71, 953) := rfl
set_option maxRecDepth 1000000 in
theorem f_123_201 : xi 123 201 = some (.if_icmp .ge 7, 0, 0) := rfl
set_option maxRecDepth 1000000 in
theorem f_123_211 : xi 123 211 = some (.putfield 104, 72, 954) := rfl
set_option maxRecDepth 1000000 in
theorem f_123_222 : xi 123 222 = some (.invokestatic 75, 112, 891) := rfl
set_option maxRecDepth 1000000 in
theorem f_123_225 : xi 123 225 = some (.ifCond .eq 101, 0, 0) := rfl
set_option maxRecDepth 1000000 in
theorem f_123_231 : xi 123 231 = some (.getfield 95, 69, 951) := rfl
set_option maxRecDepth 1000000 in
theorem f_123_235 : xi 123 235 = some (.getfield 64, 54, 936) := rfl
set_option maxRecDepth 1000000 in
theorem f_123_238 : xi 123 238 = some (.if_icmp .ge 71, 0, 0) := rfl
set_option maxRecDepth 1000000 in
theorem f_123_242 : xi 123 242 = some (.getfield 16, 53, 935) := rfl
set_option maxRecDepth 1000000 in
theorem f_123_246 : xi 123 246 = some (.getfield 95, 69, 951) := rfl
set_option maxRecDepth 1000000 in
theorem f_123_249 : xi 123 249 = some (.iaload, 0, 0) := rfl
set_option maxRecDepth 1000000 in
theorem f_123_254 : xi 123 254 = some (.invokestatic 75, 112, 891) := rfl
set_option maxRecDepth 1000000 in
theorem f_123_257 : xi 123 257 = some (.ifCond .eq 52, 0, 0) := rfl
set_option maxRecDepth 1000000 in
theorem f_123_263 : xi 123 263 = some (.if_icmp .ge 26, 0, 0) := rfl
set_option maxRecDepth 1000000 in
theorem f_123_269 : xi 123 269 = some (.getfield 104, 72, 954) := rfl
set_option maxRecDepth 1000000 in
theorem f_123_274 : xi 123 274 = some (.getfield 16, 53, 935) := rfl
set_option maxRecDepth 1000000 in
theorem f_123_278 : xi 123 278 = some (.getfield 95, 69, 951) := rfl
set_option maxRecDepth 1000000 in
theorem f_123_281 : xi 123 281 = some (.iaload, 0, 0) := rfl
set_option maxRecDepth 1000000 in
theorem f_123_290 : xi 123 290 = some (.putfield 104, 72, 954) := rfl
set_option maxRecDepth 1000000 in
theorem f_123_298 : xi 123 298 = some (.getfield 95, 69, 951) := rfl
set_option maxRecDepth 1000000 in
theorem f_123_303 : xi 123 303 = some (.putfield 95, 69, 951) := rfl
set_option maxRecDepth 1000000 in
theorem f_123_312 : xi 123 312 = some (.if_icmp .le 7, 0, 0) := rfl
set_option maxRecDepth 1000000 in
theorem f_123_320 : xi 123 320 = some (.putfield 101, 71, 953) := rfl
set_option maxRecDepth 1000000 in
theorem f_123_329 : xi 123 329 = some (.if_icmp .eq 45, 0, 0) := rfl
set_option maxRecDepth 1000000 in
theorem f_123_335 : xi 123 335 = some (.if_icmp .eq 39, 0, 0) := rfl
set_option maxRecDepth 1000000 in
theorem f_123_341 : xi 123 341 = some (.if_icmp .eq 33, 0, 0) := rfl
set_option maxRecDepth 1000000 in
theorem f_123_347 : xi 123 347 = some (.if_icmp .eq 27, 0, 0) := rfl
set_option maxRecDepth 1000000 in
theorem f_123_353 : xi 123 353 = some (.if_icmp .eq 21, 0, 0) := rfl
set_option maxRecDepth 1000000 in
theorem f_123_359 : xi 123 359 = some (.if_icmp .eq 15, 0, 0) := rfl
set_option maxRecDepth 1000000 in
theorem f_123_365 : xi 123 365 = some (.if_icmp .eq 9, 0, 0) := rfl
set_option maxRecDepth 1000000 in
theorem f_123_371 : xi 123 371 = some (.if_icmp .ne 7, 0, 0) := rfl
set_option maxRecDepth 1000000 in
theorem f_123_382 : xi 123 382 = some (.ifCond .eq 7, 0, 0) := rfl
set_option maxRecDepth 1000000 in
theorem f_123_390 : xi 123 390 = some (.putfield 101, 71, 953) := rfl
set_option maxRecDepth 1000000 in
theorem f_123_395 : xi 123 395 = some (.getfield 95, 69, 951) := rfl
set_option maxRecDepth 1000000 in
theorem f_123_400 : xi 123 400 = some (.putfield 95, 69, 951) := rfl
set_option maxRecDepth 1000000 in
theorem f_123_403 : xi 123 403 = some (.return_, 0, 0) := rfl
theorem m_124 : xme 124 = some xe_124 := rfl
theorem f_124_1 : xi 124 1 = some (.ifCond .ne 7, 0, 0) := rfl
theorem f_124_11 : xi 124 11 = some (.if_icmp .ne 7, 0, 0) := rfl
theorem f_124_21 : xi 124 21 = some (.if_icmp .ne 7, 0, 0) := rfl
theorem f_124_31 : xi 124 31 = some (.if_icmp .ne 7, 0, 0) := rfl
theorem f_124_41 : xi 124 41 = some (.if_icmp .gt 7, 0, 0) := rfl
theorem f_124_51 : xi 124 51 = some (.if_icmp .gt 7, 0, 0) := rfl
theorem f_124_61 : xi 124 61 = some (.if_icmp .ne 8, 0, 0) := rfl
theorem f_124_71 : xi 124 71 = some (.ireturn, 0, 0) := rfl
theorem m_125 : xme 125 = some xe_125 := rfl
theorem f_125_1 : xi 125 1 = some (.getfield 19, 55, 937) := rfl
theorem f_125_8 : xi 125 8 = some (.getfield 79, 57, 939) := rfl
theorem f_125_13 : xi 125 13 = some (.getfield 111, 77, 959) := rfl
theorem f_125_18 : xi 125 18 = some (.iastore, 0, 0) := rfl
theorem f_125_21 : xi 125 21 = some (.getfield 111, 77, 959) := rfl
theorem f_125_26 : xi 125 26 = some (.putfield 111, 77, 959) := rfl
theorem f_125_29 : xi 125 29 = some (.return_, 0, 0) := rfl
theorem m_126 : xme 126 = some xe_126 := rfl
theorem f_126_1 : xi 126 1 = some (.getfield 114, 75, 957) := rfl
theorem f_126_4 : xi 126 4 = some (.ifCond .le 75, 0, 0) := rfl
theorem f_126_8 : xi 126 8 = some (.getfield 43, 74, 956) := rfl
theorem f_126_12 : xi 126 12 = some (.getfield 114, 75, 957) := rfl
theorem f_126_17 : xi 126 17 = some (.iaload, 0, 0) := rfl
theorem f_126_18 : xi 126 18 = some (.invokestatic 117, 124, 911) := rfl
theorem f_126_22 : xi 126 22 = some (.if_icmp .lt 57, 0, 0) := rfl
theorem f_126_27 : xi 126 27 = some (.getfield 114, 75, 957) := rfl
theorem f_126_32 : xi 126 32 = some (.putfield 114, 75, 957) := rfl
theorem f_126_36 : xi 126 36 = some (.getfield 43, 74, 956) := rfl
theorem f_126_40 : xi 126 40 = some (.getfield 114, 75, 957) := rfl
theorem f_126_43 : xi 126 43 = some (.iaload, 0, 0) := rfl
theorem f_126_47 : xi 126 47 = some (.getfield 121, 76, 958) := rfl
theorem f_126_53 : xi 126 53 = some (.if_icmp .eq 9, 0, 0) := rfl
theorem f_126_59 : xi 126 59 = some (.if_icmp .ne 7, 0, 0) := rfl
theorem f_126_68 : xi 126 68 = some (.putfield 121, 76, 958) := rfl
set_option maxRecDepth 1000000 in
theorem f_126_73 : xi 126 73 = some (.invokevirtual 124, 125, 903) := rfl
set_option maxRecDepth 1000000 in
theorem f_126_79 : xi 126 79 = some (.return_, 0, 0) := rfl
theorem m_127 : xme 127 = some xe_127 := rfl
theorem f_127_1 : xi 127 1 = some (.getfield 43, 74, 956) := rfl
theorem f_127_5 : xi 127 5 = some (.getfield 114, 75, 957) := rfl
theorem f_127_9 : xi 127 9 = some (.iastore, 0, 0) := rfl
theorem f_127_12 : xi 127 12 = some (.getfield 114, 75, 957) := rfl
theorem f_127_17 : xi 127 17 = some (.putfield 114, 75, 957) := rfl
theorem f_127_20 : xi 127 20 = some (.return_, 0, 0) := rfl
theorem m_128 : xme 128 = some xe_128 := rfl
theorem f_128_1 : xi 128 1 = some (.getfield 121, 76, 958) := rfl
theorem f_128_5 : xi 128 5 = some (.if_icmp .ne 5, 0, 0) := rfl
theorem f_128_9 : xi 128 9 = some (.ireturn, 0, 0) := rfl
theorem f_128_12 : xi 128 12 = some (.getfield 121, 76, 958) := rfl
theorem f_128_17 : xi 128 17 = some (.putfield 121, 76, 958) := rfl
theorem f_128_22 : xi 128 22 = some (.invokevirtual 128, 127, 918) := rfl
theorem f_128_26 : xi 128 26 = some (.ireturn, 0, 0) := rfl
theorem m_129 : xme 129 = some xe_129 := rfl
theorem f_129_2 : xi 129 2 = some (.invokestatic 117, 124, 911) := rfl
theorem f_129_6 : xi 129 6 = some (.if_icmp .ne 7, 0, 0) := rfl
theorem f_129_14 : xi 129 14 = some (.invokestatic 117, 124, 911) := rfl
theorem f_129_17 : xi 129 17 = some (.invokevirtual 131, 126, 907) := rfl
theorem f_129_21 : xi 129 21 = some (.invokestatic 117, 124, 911) := rfl
theorem f_129_25 : xi 129 25 = some (.if_icmp .ne 30, 0, 0) := rfl
theorem f_129_29 : xi 129 29 = some (.getfield 114, 75, 957) := rfl
theorem f_129_32 : xi 129 32 = some (.ifCond .le 23, 0, 0) := rfl
theorem f_129_36 : xi 129 36 = some (.getfield 43, 74, 956) := rfl
theorem f_129_40 : xi 129 40 = some (.getfield 114, 75, 957) := rfl
theorem f_129_45 : xi 129 45 = some (.iaload, 0, 0) := rfl
theorem f_129_46 : xi 129 46 = some (.invokestatic 117, 124, 911) := rfl
theorem f_129_50 : xi 129 50 = some (.if_icmp .ne 5, 0, 0) := rfl
theorem f_129_54 : xi 129 54 = some (.ireturn, 0, 0) := rfl
theorem f_129_57 : xi 129 57 = some (.invokevirtual 128, 127, 918) := rfl
theorem f_129_61 : xi 129 61 = some (.ireturn, 0, 0) := rfl
theorem m_130 : xme 130 = some xe_130 := rfl
theorem f_130_1 : xi 130 1 = some (.getfield 101, 71, 953) := rfl
theorem f_130_5 : xi 130 5 = some (.if_icmp .ne 8, 0, 0) := rfl
theorem f_130_14 : xi 130 14 = some (.getfield 101, 71, 953) := rfl
theorem f_130_18 : xi 130 18 = some (.if_icmp .ne 8, 0, 0) := rfl
theorem f_130_27 : xi 130 27 = some (.getfield 101, 71, 953) := rfl
theorem f_130_32 : xi 130 32 = some (.if_icmp .ne 8, 0, 0) := rfl
theorem f_130_41 : xi 130 41 = some (.getfield 101, 71, 953) := rfl
theorem f_130_46 : xi 130 46 = some (.if_icmp .ne 8, 0, 0) := rfl
theorem f_130_55 : xi 130 55 = some (.getfield 101, 71, 953) := rfl
theorem f_130_60 : xi 130 60 = some (.if_icmp .ne 8, 0, 0) := rfl
theorem f_130_69 : xi 130 69 = some (.getfield 101, 71, 953) := rfl
theorem f_130_74 : xi 130 74 = some (.if_icmp .ne 8, 0, 0) := rfl
theorem f_130_83 : xi 130 83 = some (.getfield 101, 71, 953) := rfl
theorem f_130_88 : xi 130 88 = some (.if_icmp .ne 8, 0, 0) := rfl
set_option maxRecDepth 1000000 in
theorem f_130_97 : xi 130 97 = some (.ireturn, 0, 0) := rfl
theorem m_131 : xme 131 = some xe_131 := rfl
theorem f_131_2 : xi 131 2 = some (.putfield 114, 75, 957) := rfl
theorem f_131_7 : xi 131 7 = some (.putfield 121, 76, 958) := rfl
theorem f_131_15 : xi 131 15 = some (.invokevirtual 134, 123, 887) := rfl
theorem f_131_19 : xi 131 19 = some (.ifCond .eq 131, 0, 0) := rfl
theorem f_131_23 : xi 131 23 = some (.getfield 101, 71, 953) := rfl
theorem f_131_27 : xi 131 27 = some (.if_icmp .eq 11, 0, 0) := rfl
theorem f_131_31 : xi 131 31 = some (.getfield 101, 71, 953) := rfl
theorem f_131_35 : xi 131 35 = some (.if_icmp .ne 40, 0, 0) := rfl
theorem f_131_40 : xi 131 40 = some (.getfield 101, 71, 953) := rfl
theorem f_131_44 : xi 131 44 = some (.if_icmp .ne 13, 0, 0) := rfl
theorem f_131_50 : xi 131 50 = some (.getfield 104, 72, 954) := rfl
theorem f_131_58 : xi 131 58 = some (.getfield 104, 72, 954) := rfl
theorem f_131_61 : xi 131 61 = some (.invokevirtual 124, 125, 903) := rfl
theorem f_131_67 : xi 131 67 = some (.invokevirtual 131, 126, 907) := rfl
set_option maxRecDepth 1000000 in
theorem f_131_76 : xi 131 76 = some (.getfield 101, 71, 953) := rfl
set_option maxRecDepth 1000000 in
theorem f_131_81 : xi 131 81 = some (.if_icmp .ne 18, 0, 0) := rfl
set_option maxRecDepth 1000000 in
theorem f_131_85 : xi 131 85 = some (.ifCond .eq 14, 0, 0) := rfl
set_option maxRecDepth 1000000 in
theorem f_131_91 : xi 131 91 = some (.invokevirtual 138, 128, 914) := rfl
set_option maxRecDepth 1000000 in
theorem f_131_94 : xi 131 94 = some (.ifCond .ne (-80), 0, 0) := rfl
set_option maxRecDepth 1000000 in
theorem f_131_98 : xi 131 98 = some (.ireturn, 0, 0) := rfl
set_option maxRecDepth 1000000 in
theorem f_131_100 : xi 131 100 = some (.getfield 101, 71, 953) := rfl
set_option maxRecDepth 1000000 in
theorem f_131_105 : xi 131 105 = some (.if_icmp .ne 19, 0, 0) := rfl
set_option maxRecDepth 1000000 in
theorem f_131_111 : xi 131 111 = some (.invokevirtual 138, 128, 914) := rfl
set_option maxRecDepth 1000000 in
theorem f_131_114 : xi 131 114 = some (.ifCond .ne 5, 0, 0) := rfl
set_option maxRecDepth 1000000 in
theorem f_131_118 : xi 131 118 = some (.ireturn, 0, 0) := rfl
set_option maxRecDepth 1000000 in
theorem f_131_125 : xi 131 125 = some (.getfield 101, 71, 953) := rfl
set_option maxRecDepth 1000000 in
theorem f_131_130 : xi 131 130 = some (.if_icmp .ne 18, 0, 0) := rfl
set_option maxRecDepth 1000000 in
theorem f_131_135 : xi 131 135 = some (.invokevirtual 138, 128, 914) := rfl
set_option maxRecDepth 1000000 in
theorem f_131_138 : xi 131 138 = some (.ifCond .ne 5, 0, 0) := rfl
set_option maxRecDepth 1000000 in
theorem f_131_142 : xi 131 142 = some (.ireturn, 0, 0) := rfl
set_option maxRecDepth 1000000 in
theorem f_131_149 : xi 131 149 = some (.ireturn, 0, 0) := rfl
set_option maxRecDepth 1000000 in
theorem f_131_151 : xi 131 151 = some (.getfield 101, 71, 953) := rfl
set_option maxRecDepth 1000000 in
theorem f_131_156 : xi 131 156 = some (.if_icmp .ne 21, 0, 0) := rfl
set_option maxRecDepth 1000000 in
theorem f_131_161 : xi 131 161 = some (.invokevirtual 131, 126, 907) := rfl
set_option maxRecDepth 1000000 in
theorem f_131_165 : xi 131 165 = some (.getfield 114, 75, 957) := rfl
set_option maxRecDepth 1000000 in
theorem f_131_168 : xi 131 168 = some (.ifCond .ne 7, 0, 0) := rfl
set_option maxRecDepth 1000000 in
theorem f_131_176 : xi 131 176 = some (.ireturn, 0, 0) := rfl
set_option maxRecDepth 1000000 in
theorem f_131_178 : xi 131 178 = some (.getfield 101, 71, 953) := rfl
set_option maxRecDepth 1000000 in
theorem f_131_183 : xi 131 183 = some (.if_icmp .ne 46, 0, 0) := rfl
set_option maxRecDepth 1000000 in
theorem f_131_188 : xi 131 188 = some (.invokevirtual 131, 126, 907) := rfl
set_option maxRecDepth 1000000 in
theorem f_131_192 : xi 131 192 = some (.getfield 114, 75, 957) := rfl
set_option maxRecDepth 1000000 in
theorem f_131_195 : xi 131 195 = some (.ifCond .ne 5, 0, 0) := rfl
set_option maxRecDepth 1000000 in
theorem f_131_199 : xi 131 199 = some (.ireturn, 0, 0) := rfl
set_option maxRecDepth 1000000 in
theorem f_131_202 : xi 131 202 = some (.getfield 114, 75, 957) := rfl
set_option maxRecDepth 1000000 in
theorem f_131_207 : xi 131 207 = some (.putfield 114, 75, 957) := rfl
set_option maxRecDepth 1000000 in
theorem f_131_212 : xi 131 212 = some (.getfield 121, 76, 958) := rfl
set_option maxRecDepth 1000000 in
theorem f_131_217 : xi 131 217 = some (.putfield 121, 76, 958) := rfl
set_option maxRecDepth 1000000 in
theorem f_131_223 : xi 131 223 = some (.invokevirtual 131, 126, 907) := rfl
set_option maxRecDepth 1000000 in
theorem f_131_230 : xi 131 230 = some (.invokevirtual 141, 130, 922) := rfl
set_option maxRecDepth 1000000 in
theorem f_131_236 : xi 131 236 = some (.if_icmp .eq 11, 0, 0) := rfl
set_option maxRecDepth 1000000 in
theorem f_131_241 : xi 131 241 = some (.invokevirtual 144, 129, 926) := rfl
set_option maxRecDepth 1000000 in
theorem f_131_244 : xi 131 244 = some (.ifCond .ne 5, 0, 0) := rfl
set_option maxRecDepth 1000000 in
theorem f_131_248 : xi 131 248 = some (.ireturn, 0, 0) := rfl
set_option maxRecDepth 1000000 in
theorem f_131_254 : xi 131 254 = some (.if_icmp .gt 7, 0, 0) := rfl
theorem m_132 : xme 132 = some xe_132 := rfl
theorem f_132_1 : xi 132 1 = some (.getfield 79, 57, 939) := rfl
theorem f_132_6 : xi 132 6 = some (.if_icmp .ne 6, 0, 0) := rfl
theorem f_132_11 : xi 132 11 = some (.ireturn, 0, 0) := rfl
theorem f_132_14 : xi 132 14 = some (.putfield 95, 69, 951) := rfl
theorem f_132_19 : xi 132 19 = some (.putfield 111, 77, 959) := rfl
theorem f_132_28 : xi 132 28 = some (.if_icmp .ge 73, 0, 0) := rfl
theorem f_132_32 : xi 132 32 = some (.ifCond .eq 69, 0, 0) := rfl
theorem f_132_36 : xi 132 36 = some (.invokevirtual 134, 123, 887) := rfl
theorem f_132_40 : xi 132 40 = some (.getfield 101, 71, 953) := rfl
theorem f_132_44 : xi 132 44 = some (.if_icmp .ne 15, 0, 0) := rfl
theorem f_132_48 : xi 132 48 = some (.getfield 104, 72, 954) := rfl
theorem f_132_52 : xi 132 52 = some (.if_icmp .ne 7, 0, 0) := rfl
theorem f_132_62 : xi 132 62 = some (.getfield 22, 56, 938) := rfl
theorem f_132_67 : xi 132 67 = some (.getfield 79, 57, 939) := rfl
set_option maxRecDepth 1000000 in
theorem f_132_74 : xi 132 74 = some (.getfield 111, 77, 959) := rfl
set_option maxRecDepth 1000000 in
theorem f_132_77 : xi 132 77 = some (.iastore, 0, 0) := rfl
set_option maxRecDepth 1000000 in
theorem f_132_79 : xi 132 79 = some (.ifCond .eq 14, 0, 0) := rfl
set_option maxRecDepth 1000000 in
theorem f_132_83 : xi 132 83 = some (.invokevirtual 147, 131, 898) := rfl
set_option maxRecDepth 1000000 in
theorem f_132_86 : xi 132 86 = some (.ifCond .eq 7, 0, 0) := rfl
set_option maxRecDepth 1000000 in
theorem f_132_102 : xi 132 102 = some (.ifCond .eq 20, 0, 0) := rfl
set_option maxRecDepth 1000000 in
theorem f_132_106 : xi 132 106 = some (.invokevirtual 134, 123, 887) := rfl
set_option maxRecDepth 1000000 in
theorem f_132_110 : xi 132 110 = some (.getfield 101, 71, 953) := rfl
set_option maxRecDepth 1000000 in
theorem f_132_113 : xi 132 113 = some (.ifCond .ne 7, 0, 0) := rfl
set_option maxRecDepth 1000000 in
theorem f_132_123 : xi 132 123 = some (.getfield 22, 56, 938) := rfl
set_option maxRecDepth 1000000 in
theorem f_132_128 : xi 132 128 = some (.getfield 79, 57, 939) := rfl
set_option maxRecDepth 1000000 in
theorem f_132_135 : xi 132 135 = some (.getfield 111, 77, 959) := rfl
set_option maxRecDepth 1000000 in
theorem f_132_138 : xi 132 138 = some (.iastore, 0, 0) := rfl
set_option maxRecDepth 1000000 in
theorem f_132_141 : xi 132 141 = some (.putfield 64, 54, 936) := rfl
set_option maxRecDepth 1000000 in
theorem f_132_145 : xi 132 145 = some (.ifCond .ne 11, 0, 0) := rfl
set_option maxRecDepth 1000000 in
theorem f_132_151 : xi 132 151 = some (.getfield 98, 70, 952) := rfl
set_option maxRecDepth 1000000 in
theorem f_132_155 : xi 132 155 = some (.ireturn, 0, 0) := rfl
set_option maxRecDepth 1000000 in
theorem f_132_158 : xi 132 158 = some (.getfield 79, 57, 939) := rfl
set_option maxRecDepth 1000000 in
theorem f_132_163 : xi 132 163 = some (.putfield 79, 57, 939) := rfl
set_option maxRecDepth 1000000 in
theorem f_132_167 : xi 132 167 = some (.getfield 79, 57, 939) := rfl
set_option maxRecDepth 1000000 in
theorem f_132_172 : xi 132 172 = some (.ireturn, 0, 0) := rfl
theorem m_133 : xme 133 = some xe_133 := rfl
theorem f_133_1 : xi 133 1 = some (.tableswitch 101 11 17 #[43, 57, 101, 71, 82, 93, 97], 0, 0) := rfl
theorem f_133_45 : xi 133 45 = some (.ifCond .ne 7, 0, 0) := rfl
theorem f_133_49 : xi 133 49 = some (.ifCond .eq 7, 0, 0) := rfl
theorem f_133_57 : xi 133 57 = some (.ireturn, 0, 0) := rfl
theorem f_133_59 : xi 133 59 = some (.ifCond .eq 11, 0, 0) := rfl
theorem f_133_63 : xi 133 63 = some (.ifCond .eq 7, 0, 0) := rfl
theorem f_133_71 : xi 133 71 = some (.ireturn, 0, 0) := rfl
theorem f_133_74 : xi 133 74 = some (.if_icmp .ge 7, 0, 0) := rfl
theorem f_133_82 : xi 133 82 = some (.ireturn, 0, 0) := rfl
theorem f_133_85 : xi 133 85 = some (.if_icmp .ne 7, 0, 0) := rfl
theorem f_133_93 : xi 133 93 = some (.ireturn, 0, 0) := rfl
theorem f_133_97 : xi 133 97 = some (.ireturn, 0, 0) := rfl
theorem f_133_101 : xi 133 101 = some (.ireturn, 0, 0) := rfl
set_option maxRecDepth 1000000 in
theorem f_133_105 : xi 133 105 = some (.ireturn, 0, 0) := rfl
theorem m_134 : xme 134 = some xe_134 := rfl
theorem f_134_3 : xi 134 3 = some (.getfield 22, 56, 938) := rfl
theorem f_134_8 : xi 134 8 = some (.getfield 88, 58, 940) := rfl
theorem f_134_14 : xi 134 14 = some (.iaload, 0, 0) := rfl
theorem f_134_18 : xi 134 18 = some (.getfield 22, 56, 938) := rfl
theorem f_134_23 : xi 134 23 = some (.getfield 88, 58, 940) := rfl
theorem f_134_31 : xi 134 31 = some (.iaload, 0, 0) := rfl
theorem f_134_32 : xi 134 32 = some (.if_icmp .ge 165, 0, 0) := rfl
theorem f_134_36 : xi 134 36 = some (.getfield 19, 55, 937) := rfl
theorem f_134_43 : xi 134 43 = some (.getfield 88, 58, 940) := rfl
theorem f_134_49 : xi 134 49 = some (.iaload, 0, 0) := rfl
theorem f_134_56 : xi 134 56 = some (.if_icmp .ge 10, 0, 0) := rfl
theorem f_134_63 : xi 134 63 = some (.if_icmp .ge 37, 0, 0) := rfl
set_option maxRecDepth 1000000 in
theorem f_134_67 : xi 134 67 = some (.getfield 46, 78, 960) := rfl
set_option maxRecDepth 1000000 in
theorem f_134_75 : xi 134 75 = some (.if_icmp .ge 13, 0, 0) := rfl
set_option maxRecDepth 1000000 in
theorem f_134_79 : xi 134 79 = some (.getfield 49, 79, 961) := rfl
set_option maxRecDepth 1000000 in
theorem f_134_84 : xi 134 84 = some (.iaload, 0, 0) := rfl
set_option maxRecDepth 1000000 in
theorem f_134_93 : xi 134 93 = some (.iastore, 0, 0) := rfl
set_option maxRecDepth 1000000 in
theorem f_134_104 : xi 134 104 = some (.if_icmp .ne 30, 0, 0) := rfl
set_option maxRecDepth 1000000 in
theorem f_134_108 : xi 134 108 = some (.getfield 46, 78, 960) := rfl
set_option maxRecDepth 1000000 in
theorem f_134_115 : xi 134 115 = some (.getfield 46, 78, 960) := rfl
set_option maxRecDepth 1000000 in
theorem f_134_121 : xi 134 121 = some (.iaload, 0, 0) := rfl
set_option maxRecDepth 1000000 in
theorem f_134_122 : xi 134 122 = some (.ifCond .ne 7, 0, 0) := rfl
set_option maxRecDepth 1000000 in
theorem f_134_130 : xi 134 130 = some (.iastore, 0, 0) := rfl
set_option maxRecDepth 1000000 in
theorem f_134_138 : xi 134 138 = some (.if_icmp .ne 23, 0, 0) := rfl
set_option maxRecDepth 1000000 in
theorem f_134_142 : xi 134 142 = some (.getfield 46, 78, 960) := rfl
set_option maxRecDepth 1000000 in
theorem f_134_149 : xi 134 149 = some (.getfield 46, 78, 960) := rfl
set_option maxRecDepth 1000000 in
theorem f_134_155 : xi 134 155 = some (.iaload, 0, 0) := rfl
set_option maxRecDepth 1000000 in
theorem f_134_157 : xi 134 157 = some (.iastore, 0, 0) := rfl
set_option maxRecDepth 1000000 in
theorem f_134_165 : xi 134 165 = some (.getfield 46, 78, 960) := rfl
set_option maxRecDepth 1000000 in
theorem f_134_174 : xi 134 174 = some (.getfield 46, 78, 960) := rfl
set_option maxRecDepth 1000000 in
theorem f_134_180 : xi 134 180 = some (.iaload, 0, 0) := rfl
set_option maxRecDepth 1000000 in
theorem f_134_182 : xi 134 182 = some (.getfield 46, 78, 960) := rfl
set_option maxRecDepth 1000000 in
theorem f_134_186 : xi 134 186 = some (.iaload, 0, 0) := rfl
set_option maxRecDepth 1000000 in
theorem f_134_187 : xi 134 187 = some (.invokestatic 151, 133, 1188) := rfl
set_option maxRecDepth 1000000 in
theorem f_134_190 : xi 134 190 = some (.iastore, 0, 0) := rfl
set_option maxRecDepth 1000000 in
theorem f_134_198 : xi 134 198 = some (.getfield 46, 78, 960) := rfl
set_option maxRecDepth 1000000 in
theorem f_134_202 : xi 134 202 = some (.iaload, 0, 0) := rfl
set_option maxRecDepth 1000000 in
theorem f_134_203 : xi 134 203 = some (.ireturn, 0, 0) := rfl
theorem m_135 : xme 135 = some xe_135 := rfl
theorem f_135_3 : xi 135 3 = some (.getfield 79, 57, 939) := rfl
theorem f_135_8 : xi 135 8 = some (.invokestatic 75, 112, 891) := rfl
theorem f_135_11 : xi 135 11 = some (.ifCond .ne 6, 0, 0) := rfl
theorem f_135_16 : xi 135 16 = some (.ireturn, 0, 0) := rfl
theorem f_135_18 : xi 135 18 = some (.getfield 88, 58, 940) := rfl
theorem f_135_24 : xi 135 24 = some (.putfield 88, 58, 940) := rfl
theorem f_135_28 : xi 135 28 = some (.ireturn, 0, 0) := rfl
theorem m_136 : xme 136 = some xe_136 := rfl
theorem f_136_4 : xi 136 4 = some (.invokestatic 75, 112, 891) := rfl
theorem f_136_7 : xi 136 7 = some (.ifCond .eq 37, 0, 0) := rfl
theorem f_136_11 : xi 136 11 = some (.invokestatic 155, 115, 1069) := rfl
theorem f_136_14 : xi 136 14 = some (.ifCond .eq 30, 0, 0) := rfl
theorem f_136_22 : xi 136 22 = some (.invokestatic 75, 112, 891) := rfl
theorem f_136_25 : xi 136 25 = some (.ifCond .eq 19, 0, 0) := rfl
theorem f_136_34 : xi 136 34 = some (.invokestatic 75, 112, 891) := rfl
theorem f_136_37 : xi 136 37 = some (.ifCond .eq 7, 0, 0) := rfl
theorem f_136_49 : xi 136 49 = some (.ifCond .ne 6, 0, 0) := rfl
theorem f_136_54 : xi 136 54 = some (.ireturn, 0, 0) := rfl
theorem f_136_56 : xi 136 56 = some (.getfield 72, 48, 930) := rfl
theorem f_136_61 : xi 136 61 = some (.if_icmp .ne 6, 0, 0) := rfl
theorem f_136_66 : xi 136 66 = some (.ireturn, 0, 0) := rfl
theorem f_136_68 : xi 136 68 = some (.getfield 7, 49, 931) := rfl
theorem f_136_73 : xi 136 73 = some (.getfield 72, 48, 930) := rfl
theorem f_136_80 : xi 136 80 = some (.idiv, 0, 0) := rfl
set_option maxRecDepth 1000000 in
theorem f_136_81 : xi 136 81 = some (.iastore, 0, 0) := rfl
set_option maxRecDepth 1000000 in
theorem f_136_83 : xi 136 83 = some (.getfield 7, 49, 931) := rfl
set_option maxRecDepth 1000000 in
theorem f_136_88 : xi 136 88 = some (.getfield 72, 48, 930) := rfl
set_option maxRecDepth 1000000 in
theorem f_136_95 : xi 136 95 = some (.iastore, 0, 0) := rfl
set_option maxRecDepth 1000000 in
theorem f_136_97 : xi 136 97 = some (.getfield 7, 49, 931) := rfl
set_option maxRecDepth 1000000 in
theorem f_136_102 : xi 136 102 = some (.getfield 72, 48, 930) := rfl
set_option maxRecDepth 1000000 in
theorem f_136_109 : xi 136 109 = some (.iastore, 0, 0) := rfl
set_option maxRecDepth 1000000 in
theorem f_136_111 : xi 136 111 = some (.getfield 7, 49, 931) := rfl
set_option maxRecDepth 1000000 in
theorem f_136_116 : xi 136 116 = some (.getfield 72, 48, 930) := rfl
set_option maxRecDepth 1000000 in
theorem f_136_124 : xi 136 124 = some (.iastore, 0, 0) := rfl
set_option maxRecDepth 1000000 in
theorem f_136_126 : xi 136 126 = some (.getfield 7, 49, 931) := rfl
set_option maxRecDepth 1000000 in
theorem f_136_131 : xi 136 131 = some (.getfield 72, 48, 930) := rfl
set_option maxRecDepth 1000000 in
theorem f_136_140 : xi 136 140 = some (.irem, 0, 0) := rfl
set_option maxRecDepth 1000000 in
theorem f_136_141 : xi 136 141 = some (.iastore, 0, 0) := rfl
set_option maxRecDepth 1000000 in
theorem f_136_144 : xi 136 144 = some (.getfield 72, 48, 930) := rfl
set_option maxRecDepth 1000000 in
theorem f_136_149 : xi 136 149 = some (.putfield 72, 48, 930) := rfl
set_option maxRecDepth 1000000 in
theorem f_136_153 : xi 136 153 = some (.getfield 72, 48, 930) := rfl
set_option maxRecDepth 1000000 in
theorem f_136_158 : xi 136 158 = some (.ireturn, 0, 0) := rfl
theorem m_137 : xme 137 = some xe_137 := rfl
theorem f_137_1 : xi 137 1 = some (.getfield 72, 48, 930) := rfl
theorem f_137_4 : xi 137 4 = some (.ifCond .ne 6, 0, 0) := rfl
theorem f_137_9 : xi 137 9 = some (.ireturn, 0, 0) := rfl
theorem f_137_12 : xi 137 12 = some (.getfield 72, 48, 930) := rfl
theorem f_137_17 : xi 137 17 = some (.putfield 72, 48, 930) := rfl
theorem f_137_21 : xi 137 21 = some (.getfield 72, 48, 930) := rfl
theorem f_137_24 : xi 137 24 = some (.ireturn, 0, 0) := rfl
theorem m_138 : xme 138 = some xe_138 := rfl
theorem f_138_1 : xi 138 1 = some (.getfield 7, 49, 931) := rfl
theorem f_138_9 : xi 138 9 = some (.iaload, 0, 0) := rfl
theorem f_138_11 : xi 138 11 = some (.getfield 7, 49, 931) := rfl
theorem f_138_19 : xi 138 19 = some (.iaload, 0, 0) := rfl
theorem f_138_22 : xi 138 22 = some (.idiv, 0, 0) := rfl
theorem f_138_23 : xi 138 23 = some (.ireturn, 0, 0) := rfl
theorem m_139 : xme 139 = some xe_139 := rfl
theorem f_139_1 : xi 139 1 = some (.getfield 7, 49, 931) := rfl
theorem f_139_7 : xi 139 7 = some (.iaload, 0, 0) := rfl
theorem f_139_9 : xi 139 9 = some (.if_icmp .ne 24, 0, 0) := rfl
theorem f_139_13 : xi 139 13 = some (.getfield 85, 52, 934) := rfl
theorem f_139_17 : xi 139 17 = some (.getfield 7, 49, 931) := rfl
theorem f_139_25 : xi 139 25 = some (.iaload, 0, 0) := rfl
theorem f_139_26 : xi 139 26 = some (.if_icmp .lt 7, 0, 0) := rfl
theorem f_139_34 : xi 139 34 = some (.ireturn, 0, 0) := rfl
theorem m_140 : xme 140 = some xe_140 := rfl
theorem f_140_1 : xi 140 1 = some (.getfield 7, 49, 931) := rfl
theorem f_140_7 : xi 140 7 = some (.iaload, 0, 0) := rfl
theorem f_140_10 : xi 140 10 = some (.getfield 7, 49, 931) := rfl
theorem f_140_18 : xi 140 18 = some (.iaload, 0, 0) := rfl
theorem f_140_21 : xi 140 21 = some (.getfield 7, 49, 931) := rfl
theorem f_140_29 : xi 140 29 = some (.iaload, 0, 0) := rfl
theorem f_140_37 : xi 140 37 = some (.if_icmp .eq 8, 0, 0) := rfl
theorem f_140_42 : xi 140 42 = some (.if_icmp .ne 23, 0, 0) := rfl
theorem f_140_51 : xi 140 51 = some (.if_icmp .ne 10, 0, 0) := rfl
theorem f_140_55 : xi 140 55 = some (.getfield 85, 52, 934) := rfl
set_option maxRecDepth 1000000 in
theorem f_140_67 : xi 140 67 = some (.if_icmp .eq 8, 0, 0) := rfl
set_option maxRecDepth 1000000 in
theorem f_140_72 : xi 140 72 = some (.if_icmp .ne 37, 0, 0) := rfl
set_option maxRecDepth 1000000 in
theorem f_140_77 : xi 140 77 = some (.invokevirtual 158, 139, 1088) := rfl
set_option maxRecDepth 1000000 in
theorem f_140_80 : xi 140 80 = some (.ifCond .ne 15, 0, 0) := rfl
set_option maxRecDepth 1000000 in
theorem f_140_89 : xi 140 89 = some (.invokevirtual 161, 138, 1092) := rfl
set_option maxRecDepth 1000000 in
theorem f_140_92 : xi 140 92 = some (.if_icmp .le 11, 0, 0) := rfl
set_option maxRecDepth 1000000 in
theorem f_140_97 : xi 140 97 = some (.invokevirtual 161, 138, 1092) := rfl
set_option maxRecDepth 1000000 in
theorem f_140_115 : xi 140 115 = some (.invokestatic 164, 113, 1096) := rfl
set_option maxRecDepth 1000000 in
theorem f_140_118 : xi 140 118 = some (.ireturn, 0, 0) := rfl
theorem m_141 : xme 141 = some xe_141 := rfl
theorem f_141_1 : xi 141 1 = some (.getfield 7, 49, 931) := rfl
theorem f_141_7 : xi 141 7 = some (.iaload, 0, 0) := rfl
theorem f_141_10 : xi 141 10 = some (.getfield 7, 49, 931) := rfl
theorem f_141_18 : xi 141 18 = some (.iaload, 0, 0) := rfl
theorem f_141_21 : xi 141 21 = some (.getfield 7, 49, 931) := rfl
theorem f_141_29 : xi 141 29 = some (.iaload, 0, 0) := rfl
theorem f_141_34 : xi 141 34 = some (.if_icmp .ne 9, 0, 0) := rfl
theorem f_141_48 : xi 141 48 = some (.if_icmp .eq 8, 0, 0) := rfl
theorem f_141_53 : xi 141 53 = some (.if_icmp .ne 23, 0, 0) := rfl
set_option maxRecDepth 1000000 in
theorem f_141_62 : xi 141 62 = some (.if_icmp .ne 10, 0, 0) := rfl
set_option maxRecDepth 1000000 in
theorem f_141_66 : xi 141 66 = some (.getfield 85, 52, 934) := rfl
set_option maxRecDepth 1000000 in
theorem f_141_78 : xi 141 78 = some (.if_icmp .eq 8, 0, 0) := rfl
set_option maxRecDepth 1000000 in
theorem f_141_83 : xi 141 83 = some (.if_icmp .ne 37, 0, 0) := rfl
set_option maxRecDepth 1000000 in
theorem f_141_88 : xi 141 88 = some (.invokevirtual 158, 139, 1088) := rfl
set_option maxRecDepth 1000000 in
theorem f_141_91 : xi 141 91 = some (.ifCond .ne 15, 0, 0) := rfl
set_option maxRecDepth 1000000 in
theorem f_141_100 : xi 141 100 = some (.invokevirtual 161, 138, 1092) := rfl
set_option maxRecDepth 1000000 in
theorem f_141_103 : xi 141 103 = some (.if_icmp .ge 11, 0, 0) := rfl
set_option maxRecDepth 1000000 in
theorem f_141_108 : xi 141 108 = some (.invokevirtual 161, 138, 1092) := rfl
set_option maxRecDepth 1000000 in
theorem f_141_126 : xi 141 126 = some (.invokestatic 164, 113, 1096) := rfl
set_option maxRecDepth 1000000 in
theorem f_141_129 : xi 141 129 = some (.ireturn, 0, 0) := rfl
theorem m_142 : xme 142 = some xe_142 := rfl
theorem f_142_2 : xi 142 2 = some (.invokevirtual 167, 114, 1080) := rfl
theorem f_142_5 : xi 142 5 = some (.ifCond .ne 6, 0, 0) := rfl
theorem f_142_10 : xi 142 10 = some (.ireturn, 0, 0) := rfl
theorem f_142_12 : xi 142 12 = some (.tableswitch 67 0 6 #[44, 44, 44, 44, 44, 55, 61], 0, 0) := rfl
theorem f_142_57 : xi 142 57 = some (.getfield 7, 49, 931) := rfl
theorem f_142_65 : xi 142 65 = some (.iaload, 0, 0) := rfl
theorem f_142_66 : xi 142 66 = some (.ireturn, 0, 0) := rfl
theorem f_142_69 : xi 142 69 = some (.invokevirtual 170, 140, 1084) := rfl
theorem f_142_72 : xi 142 72 = some (.ireturn, 0, 0) := rfl
theorem f_142_75 : xi 142 75 = some (.invokevirtual 173, 141, 1099) := rfl
theorem f_142_78 : xi 142 78 = some (.ireturn, 0, 0) := rfl
theorem f_142_81 : xi 142 81 = some (.ireturn, 0, 0) := rfl
theorem m_143 : xme 143 = some xe_143 := rfl
theorem f_143_1 : xi 143 1 = some (.invokestatic 155, 115, 1069) := rfl
theorem f_143_4 : xi 143 4 = some (.ifCond .eq 44, 0, 0) := rfl
theorem f_143_8 : xi 143 8 = some (.invokestatic 155, 115, 1069) := rfl
theorem f_143_11 : xi 143 11 = some (.ifCond .eq 37, 0, 0) := rfl
theorem f_143_16 : xi 143 16 = some (.if_icmp .eq 32, 0, 0) := rfl
theorem f_143_26 : xi 143 26 = some (.invokestatic 75, 112, 891) := rfl
theorem f_143_29 : xi 143 29 = some (.ifCond .eq 19, 0, 0) := rfl
theorem f_143_38 : xi 143 38 = some (.invokestatic 75, 112, 891) := rfl
theorem f_143_41 : xi 143 41 = some (.ifCond .eq 7, 0, 0) := rfl
theorem f_143_53 : xi 143 53 = some (.ifCond .ne 6, 0, 0) := rfl
theorem f_143_58 : xi 143 58 = some (.ireturn, 0, 0) := rfl
theorem f_143_60 : xi 143 60 = some (.getfield 82, 50, 932) := rfl
theorem f_143_65 : xi 143 65 = some (.if_icmp .ne 6, 0, 0) := rfl
theorem f_143_70 : xi 143 70 = some (.ireturn, 0, 0) := rfl
theorem f_143_72 : xi 143 72 = some (.getfield 13, 51, 933) := rfl
theorem f_143_77 : xi 143 77 = some (.getfield 82, 50, 932) := rfl
theorem f_143_82 : xi 143 82 = some (.iastore, 0, 0) := rfl
set_option maxRecDepth 1000000 in
theorem f_143_84 : xi 143 84 = some (.getfield 13, 51, 933) := rfl
set_option maxRecDepth 1000000 in
theorem f_143_89 : xi 143 89 = some (.getfield 82, 50, 932) := rfl
set_option maxRecDepth 1000000 in
theorem f_143_96 : xi 143 96 = some (.iastore, 0, 0) := rfl
set_option maxRecDepth 1000000 in
theorem f_143_98 : xi 143 98 = some (.getfield 13, 51, 933) := rfl
set_option maxRecDepth 1000000 in
theorem f_143_103 : xi 143 103 = some (.getfield 82, 50, 932) := rfl
set_option maxRecDepth 1000000 in
theorem f_143_110 : xi 143 110 = some (.iastore, 0, 0) := rfl
set_option maxRecDepth 1000000 in
theorem f_143_112 : xi 143 112 = some (.getfield 13, 51, 933) := rfl
set_option maxRecDepth 1000000 in
theorem f_143_117 : xi 143 117 = some (.getfield 82, 50, 932) := rfl
set_option maxRecDepth 1000000 in
theorem f_143_125 : xi 143 125 = some (.iastore, 0, 0) := rfl
set_option maxRecDepth 1000000 in
theorem f_143_128 : xi 143 128 = some (.getfield 82, 50, 932) := rfl
set_option maxRecDepth 1000000 in
theorem f_143_133 : xi 143 133 = some (.putfield 82, 50, 932) := rfl
set_option maxRecDepth 1000000 in
theorem f_143_137 : xi 143 137 = some (.getfield 82, 50, 932) := rfl
set_option maxRecDepth 1000000 in
theorem f_143_142 : xi 143 142 = some (.ireturn, 0, 0) := rfl
theorem m_144 : xme 144 = some xe_144 := rfl
theorem f_144_3 : xi 144 3 = some (.getfield 82, 50, 932) := rfl
theorem f_144_8 : xi 144 8 = some (.invokestatic 75, 112, 891) := rfl
theorem f_144_11 : xi 144 11 = some (.ifCond .ne 6, 0, 0) := rfl
theorem f_144_16 : xi 144 16 = some (.ireturn, 0, 0) := rfl
theorem f_144_20 : xi 144 20 = some (.invokestatic 75, 112, 891) := rfl
theorem f_144_23 : xi 144 23 = some (.ifCond .eq 16, 0, 0) := rfl
theorem f_144_27 : xi 144 27 = some (.getfield 13, 51, 933) := rfl
theorem f_144_35 : xi 144 35 = some (.iaload, 0, 0) := rfl
theorem f_144_41 : xi 144 41 = some (.ireturn, 0, 0) := rfl
theorem m_145 : xme 145 = some xe_145 := rfl
theorem f_145_5 : xi 145 5 = some (.if_icmp .ge 25, 0, 0) := rfl
theorem f_145_9 : xi 145 9 = some (.getfield 52, 80, 962) := rfl
theorem f_145_14 : xi 145 14 = some (.iastore, 0, 0) := rfl
theorem f_145_16 : xi 145 16 = some (.getfield 55, 81, 963) := rfl
theorem f_145_23 : xi 145 23 = some (.iastore, 0, 0) := rfl
theorem f_145_34 : xi 145 34 = some (.getfield 72, 48, 930) := rfl
theorem f_145_37 : xi 145 37 = some (.if_icmp .ge 113, 0, 0) := rfl
theorem f_145_41 : xi 145 41 = some (.getfield 7, 49, 931) := rfl
theorem f_145_49 : xi 145 49 = some (.iaload, 0, 0) := rfl
theorem f_145_56 : xi 145 56 = some (.ifCond .ne 7, 0, 0) := rfl
set_option maxRecDepth 1000000 in
theorem f_145_67 : xi 145 67 = some (.getfield 52, 80, 962) := rfl
set_option maxRecDepth 1000000 in
theorem f_145_73 : xi 145 73 = some (.ifCond .eq 25, 0, 0) := rfl
set_option maxRecDepth 1000000 in
theorem f_145_78 : xi 145 78 = some (.invokevirtual 170, 140, 1084) := rfl
set_option maxRecDepth 1000000 in
theorem f_145_82 : xi 145 82 = some (.getfield 52, 80, 962) := rfl
set_option maxRecDepth 1000000 in
theorem f_145_86 : xi 145 86 = some (.iaload, 0, 0) := rfl
set_option maxRecDepth 1000000 in
theorem f_145_87 : xi 145 87 = some (.if_icmp .le 11, 0, 0) := rfl
set_option maxRecDepth 1000000 in
theorem f_145_92 : xi 145 92 = some (.invokevirtual 170, 140, 1084) := rfl
set_option maxRecDepth 1000000 in
theorem f_145_99 : xi 145 99 = some (.getfield 52, 80, 962) := rfl
set_option maxRecDepth 1000000 in
theorem f_145_103 : xi 145 103 = some (.iaload, 0, 0) := rfl
set_option maxRecDepth 1000000 in
theorem f_145_104 : xi 145 104 = some (.iastore, 0, 0) := rfl
set_option maxRecDepth 1000000 in
theorem f_145_106 : xi 145 106 = some (.getfield 55, 81, 963) := rfl
set_option maxRecDepth 1000000 in
theorem f_145_112 : xi 145 112 = some (.ifCond .eq 25, 0, 0) := rfl
set_option maxRecDepth 1000000 in
theorem f_145_117 : xi 145 117 = some (.invokevirtual 173, 141, 1099) := rfl
set_option maxRecDepth 1000000 in
theorem f_145_121 : xi 145 121 = some (.getfield 55, 81, 963) := rfl
set_option maxRecDepth 1000000 in
theorem f_145_125 : xi 145 125 = some (.iaload, 0, 0) := rfl
set_option maxRecDepth 1000000 in
theorem f_145_126 : xi 145 126 = some (.if_icmp .ge 11, 0, 0) := rfl
set_option maxRecDepth 1000000 in
theorem f_145_131 : xi 145 131 = some (.invokevirtual 173, 141, 1099) := rfl
set_option maxRecDepth 1000000 in
theorem f_145_138 : xi 145 138 = some (.getfield 55, 81, 963) := rfl
set_option maxRecDepth 1000000 in
theorem f_145_142 : xi 145 142 = some (.iaload, 0, 0) := rfl
set_option maxRecDepth 1000000 in
theorem f_145_143 : xi 145 143 = some (.iastore, 0, 0) := rfl
set_option maxRecDepth 1000000 in
theorem f_145_150 : xi 145 150 = some (.return_, 0, 0) := rfl
theorem m_146 : xme 146 = some xe_146 := rfl
theorem f_146_1 : xi 146 1 = some (.getfield 58, 82, 964) := rfl
theorem f_146_12 : xi 146 12 = some (.getfield 58, 82, 964) := rfl
theorem f_146_21 : xi 146 21 = some (.iaload, 0, 0) := rfl
theorem f_146_22 : xi 146 22 = some (.if_icmp .ge 7, 0, 0) := rfl
theorem f_146_30 : xi 146 30 = some (.getfield 58, 82, 964) := rfl
theorem f_146_39 : xi 146 39 = some (.iaload, 0, 0) := rfl
theorem f_146_40 : xi 146 40 = some (.iastore, 0, 0) := rfl
theorem f_146_41 : xi 146 41 = some (.return_, 0, 0) := rfl
theorem m_147 : xme 147 = some xe_147 := rfl
theorem f_147_5 : xi 147 5 = some (.if_icmp .ge 33, 0, 0) := rfl
theorem f_147_9 : xi 147 9 = some (.getfield 58, 82, 964) := rfl
theorem f_147_16 : xi 147 16 = some (.idiv, 0, 0) := rfl
theorem f_147_20 : xi 147 20 = some (.irem, 0, 0) := rfl
theorem f_147_21 : xi 147 21 = some (.if_icmp .ne 7, 0, 0) := rfl
theorem f_147_31 : xi 147 31 = some (.iastore, 0, 0) := rfl
theorem f_147_43 : xi 147 43 = some (.if_icmp .ge 36, 0, 0) := rfl
theorem f_147_51 : xi 147 51 = some (.getfield 55, 81, 963) := rfl
theorem f_147_55 : xi 147 55 = some (.iaload, 0, 0) := rfl
theorem f_147_56 : xi 147 56 = some (.invokevirtual 176, 146, 1127) := rfl
theorem f_147_64 : xi 147 64 = some (.getfield 52, 80, 962) := rfl
theorem f_147_68 : xi 147 68 = some (.iaload, 0, 0) := rfl
set_option maxRecDepth 1000000 in
theorem f_147_70 : xi 147 70 = some (.invokevirtual 176, 146, 1127) := rfl
set_option maxRecDepth 1000000 in
theorem f_147_83 : xi 147 83 = some (.getfield 82, 50, 932) := rfl
set_option maxRecDepth 1000000 in
theorem f_147_86 : xi 147 86 = some (.if_icmp .ge 82, 0, 0) := rfl
set_option maxRecDepth 1000000 in
theorem f_147_94 : xi 147 94 = some (.ifCond .ne 68, 0, 0) := rfl
set_option maxRecDepth 1000000 in
theorem f_147_99 : xi 147 99 = some (.getfield 13, 51, 933) := rfl
set_option maxRecDepth 1000000 in
theorem f_147_105 : xi 147 105 = some (.iaload, 0, 0) := rfl
set_option maxRecDepth 1000000 in
theorem f_147_107 : xi 147 107 = some (.getfield 13, 51, 933) := rfl
set_option maxRecDepth 1000000 in
theorem f_147_115 : xi 147 115 = some (.iaload, 0, 0) := rfl
set_option maxRecDepth 1000000 in
theorem f_147_117 : xi 147 117 = some (.getfield 13, 51, 933) := rfl
set_option maxRecDepth 1000000 in
theorem f_147_125 : xi 147 125 = some (.iaload, 0, 0) := rfl
set_option maxRecDepth 1000000 in
theorem f_147_126 : xi 147 126 = some (.invokevirtual 176, 146, 1127) := rfl
set_option maxRecDepth 1000000 in
theorem f_147_131 : xi 147 131 = some (.getfield 13, 51, 933) := rfl
set_option maxRecDepth 1000000 in
theorem f_147_139 : xi 147 139 = some (.iaload, 0, 0) := rfl
set_option maxRecDepth 1000000 in
theorem f_147_141 : xi 147 141 = some (.getfield 13, 51, 933) := rfl
set_option maxRecDepth 1000000 in
theorem f_147_147 : xi 147 147 = some (.iaload, 0, 0) := rfl
set_option maxRecDepth 1000000 in
theorem f_147_149 : xi 147 149 = some (.getfield 13, 51, 933) := rfl
set_option maxRecDepth 1000000 in
theorem f_147_157 : xi 147 157 = some (.iaload, 0, 0) := rfl
set_option maxRecDepth 1000000 in
theorem f_147_159 : xi 147 159 = some (.invokevirtual 176, 146, 1127) := rfl
set_option maxRecDepth 1000000 in
theorem f_147_173 : xi 147 173 = some (.if_icmp .ge 64, 0, 0) := rfl
set_option maxRecDepth 1000000 in
theorem f_147_181 : xi 147 181 = some (.if_icmp .ge 50, 0, 0) := rfl
set_option maxRecDepth 1000000 in
theorem f_147_188 : xi 147 188 = some (.idiv, 0, 0) := rfl
set_option maxRecDepth 1000000 in
theorem f_147_192 : xi 147 192 = some (.irem, 0, 0) := rfl
set_option maxRecDepth 1000000 in
theorem f_147_194 : xi 147 194 = some (.getfield 58, 82, 964) := rfl
set_option maxRecDepth 1000000 in
theorem f_147_202 : xi 147 202 = some (.idiv, 0, 0) := rfl
set_option maxRecDepth 1000000 in
theorem f_147_206 : xi 147 206 = some (.iaload, 0, 0) := rfl
set_option maxRecDepth 1000000 in
theorem f_147_208 : xi 147 208 = some (.getfield 58, 82, 964) := rfl
set_option maxRecDepth 1000000 in
theorem f_147_218 : xi 147 218 = some (.irem, 0, 0) := rfl
set_option maxRecDepth 1000000 in
theorem f_147_220 : xi 147 220 = some (.iaload, 0, 0) := rfl
set_option maxRecDepth 1000000 in
theorem f_147_222 : xi 147 222 = some (.invokevirtual 176, 146, 1127) := rfl
set_option maxRecDepth 1000000 in
theorem f_147_244 : xi 147 244 = some (.if_icmp .ge 33, 0, 0) := rfl
set_option maxRecDepth 1000000 in
theorem f_147_248 : xi 147 248 = some (.ifCond .eq 21, 0, 0) := rfl
set_option maxRecDepth 1000000 in
theorem f_147_252 : xi 147 252 = some (.getfield 58, 82, 964) := rfl
set_option maxRecDepth 1000000 in
theorem f_147_261 : xi 147 261 = some (.iaload, 0, 0) := rfl
set_option maxRecDepth 1000000 in
theorem f_147_262 : xi 147 262 = some (.ifCond .lt 7, 0, 0) := rfl
set_option maxRecDepth 1000000 in
theorem f_147_278 : xi 147 278 = some (.ireturn, 0, 0) := rfl
theorem m_148 : xme 148 = some xe_148 := rfl
theorem f_148_2 : xi 148 2 = some (.invokevirtual 180, 145, 1119) := rfl
theorem f_148_7 : xi 148 7 = some (.invokevirtual 183, 147, 1123) := rfl
theorem f_148_10 : xi 148 10 = some (.ireturn, 0, 0) := rfl
theorem m_149 : xme 149 = some xe_149 := rfl
theorem f_149_1 : xi 149 1 = some (.getfield 58, 82, 964) := rfl
theorem f_149_11 : xi 149 11 = some (.iaload, 0, 0) := rfl
theorem f_149_13 : xi 149 13 = some (.ireturn, 0, 0) := rfl
theorem m_150 : xme 150 = some xe_150 := rfl
theorem f_150_1 : xi 150 1 = some (.getfield 58, 82, 964) := rfl
theorem f_150_8 : xi 150 8 = some (.iaload, 0, 0) := rfl
theorem f_150_9 : xi 150 9 = some (.ireturn, 0, 0) := rfl
theorem m_151 : xme 151 = some xe_151 := rfl
theorem f_151_1 : xi 151 1 = some (.invokevirtual 186, 148, 1115) := rfl
theorem f_151_4 : xi 151 4 = some (.ifCond .eq 7, 0, 0) := rfl
theorem f_151_12 : xi 151 12 = some (.ireturn, 0, 0) := rfl
theorem m_152 : xme 152 = some xe_152 := rfl
theorem f_152_1 : xi 152 1 = some (.invokestatic 155, 115, 1069) := rfl
theorem f_152_4 : xi 152 4 = some (.ifCond .ne 6, 0, 0) := rfl
theorem f_152_9 : xi 152 9 = some (.ireturn, 0, 0) := rfl
theorem f_152_13 : xi 152 13 = some (.invokestatic 75, 112, 891) := rfl
theorem f_152_16 : xi 152 16 = some (.ifCond .ne 6, 0, 0) := rfl
theorem f_152_21 : xi 152 21 = some (.ireturn, 0, 0) := rfl
theorem f_152_23 : xi 152 23 = some (.invokevirtual 186, 148, 1115) := rfl
theorem f_152_29 : xi 152 29 = some (.if_icmp .le 24, 0, 0) := rfl
theorem f_152_34 : xi 152 34 = some (.if_icmp .ne 12, 0, 0) := rfl
theorem f_152_38 : xi 152 38 = some (.getfield 52, 80, 962) := rfl
theorem f_152_42 : xi 152 42 = some (.iaload, 0, 0) := rfl
theorem f_152_47 : xi 152 47 = some (.getfield 55, 81, 963) := rfl
theorem f_152_51 : xi 152 51 = some (.iaload, 0, 0) := rfl
theorem f_152_52 : xi 152 52 = some (.ireturn, 0, 0) := rfl
theorem f_152_54 : xi 152 54 = some (.ifCond .ne 7, 0, 0) := rfl
theorem f_152_62 : xi 152 62 = some (.ifCond .ne 11, 0, 0) := rfl
theorem f_152_67 : xi 152 67 = some (.invokevirtual 189, 149, 1135) := rfl
set_option maxRecDepth 1000000 in
theorem f_152_75 : xi 152 75 = some (.if_icmp .ne 11, 0, 0) := rfl
set_option maxRecDepth 1000000 in
theorem f_152_80 : xi 152 80 = some (.invokevirtual 192, 150, 1139) := rfl
set_option maxRecDepth 1000000 in
theorem f_152_88 : xi 152 88 = some (.invokevirtual 192, 150, 1139) := rfl
set_option maxRecDepth 1000000 in
theorem f_152_93 : xi 152 93 = some (.invokevirtual 189, 149, 1135) := rfl
set_option maxRecDepth 1000000 in
theorem f_152_97 : xi 152 97 = some (.ireturn, 0, 0) := rfl
theorem m_153 : xme 153 = some xe_153 := rfl
theorem f_153_1 : xi 153 1 = some (.invokestatic 155, 115, 1069) := rfl
theorem f_153_4 : xi 153 4 = some (.ifCond .eq 26, 0, 0) := rfl
theorem f_153_8 : xi 153 8 = some (.invokestatic 155, 115, 1069) := rfl
theorem f_153_11 : xi 153 11 = some (.ifCond .eq 19, 0, 0) := rfl
theorem f_153_17 : xi 153 17 = some (.invokestatic 75, 112, 891) := rfl
theorem f_153_20 : xi 153 20 = some (.ifCond .eq 10, 0, 0) := rfl
theorem f_153_24 : xi 153 24 = some (.invokevirtual 186, 148, 1115) := rfl
theorem f_153_27 : xi 153 27 = some (.ifCond .ne 6, 0, 0) := rfl
theorem f_153_32 : xi 153 32 = some (.ireturn, 0, 0) := rfl
theorem f_153_34 : xi 153 34 = some (.ifCond .ne 18, 0, 0) := rfl
theorem f_153_38 : xi 153 38 = some (.getfield 58, 82, 964) := rfl
theorem f_153_47 : xi 153 47 = some (.iaload, 0, 0) := rfl
theorem f_153_53 : xi 153 53 = some (.getfield 58, 82, 964) := rfl
theorem f_153_62 : xi 153 62 = some (.iaload, 0, 0) := rfl
theorem f_153_63 : xi 153 63 = some (.ireturn, 0, 0) := rfl
theorem m_154 : xme 154 = some xe_154 := rfl
theorem f_154_1 : xi 154 1 = some (.getfield 7, 49, 931) := rfl
theorem f_154_9 : xi 154 9 = some (.iaload, 0, 0) := rfl
theorem f_154_11 : xi 154 11 = some (.getfield 7, 49, 931) := rfl
theorem f_154_19 : xi 154 19 = some (.iaload, 0, 0) := rfl
theorem f_154_20 : xi 154 20 = some (.if_icmp .ne 33, 0, 0) := rfl
theorem f_154_25 : xi 154 25 = some (.invokevirtual 170, 140, 1084) := rfl
theorem f_154_30 : xi 154 30 = some (.invokevirtual 173, 141, 1099) := rfl
theorem f_154_33 : xi 154 33 = some (.if_icmp .gt 16, 0, 0) := rfl
theorem f_154_38 : xi 154 38 = some (.invokevirtual 170, 140, 1084) := rfl
theorem f_154_43 : xi 154 43 = some (.invokevirtual 173, 141, 1099) := rfl
theorem f_154_46 : xi 154 46 = some (.if_icmp .le 7, 0, 0) := rfl
theorem f_154_54 : xi 154 54 = some (.ireturn, 0, 0) := rfl
theorem m_155 : xme 155 = some xe_155 := rfl
theorem f_155_3 : xi 155 3 = some (.invokestatic 75, 112, 891) := rfl
theorem f_155_6 : xi 155 6 = some (.ifCond .ne 6, 0, 0) := rfl
theorem f_155_11 : xi 155 11 = some (.ireturn, 0, 0) := rfl
theorem f_155_22 : xi 155 22 = some (.getfield 72, 48, 930) := rfl
theorem f_155_25 : xi 155 25 = some (.if_icmp .ge 61, 0, 0) := rfl
theorem f_155_37 : xi 155 37 = some (.getfield 72, 48, 930) := rfl
theorem f_155_40 : xi 155 40 = some (.if_icmp .ge 40, 0, 0) := rfl
theorem f_155_48 : xi 155 48 = some (.invokevirtual 196, 154, 1152) := rfl
theorem f_155_51 : xi 155 51 = some (.ifCond .eq 23, 0, 0) := rfl
theorem f_155_55 : xi 155 55 = some (.ifCond .ne 14, 0, 0) := rfl
set_option maxRecDepth 1000000 in
theorem f_155_87 : xi 155 87 = some (.ifCond .ne 7, 0, 0) := rfl
set_option maxRecDepth 1000000 in
theorem f_155_95 : xi 155 95 = some (.ireturn, 0, 0) := rfl
theorem m_156 : xme 156 = some xe_156 := rfl
theorem f_156_3 : xi 156 3 = some (.invokestatic 75, 112, 891) := rfl
theorem f_156_6 : xi 156 6 = some (.ifCond .ne 6, 0, 0) := rfl
theorem f_156_11 : xi 156 11 = some (.ireturn, 0, 0) := rfl
theorem f_156_19 : xi 156 19 = some (.getfield 72, 48, 930) := rfl
theorem f_156_23 : xi 156 23 = some (.if_icmp .ge 44, 0, 0) := rfl
theorem f_156_28 : xi 156 28 = some (.if_icmp .eq 14, 0, 0) := rfl
theorem f_156_32 : xi 156 32 = some (.invokestatic 200, 117, 1160) := rfl
theorem f_156_36 : xi 156 36 = some (.invokestatic 200, 117, 1160) := rfl
theorem f_156_39 : xi 156 39 = some (.if_icmp .ge 22, 0, 0) := rfl
theorem f_156_44 : xi 156 44 = some (.invokevirtual 180, 145, 1119) := rfl
theorem f_156_49 : xi 156 49 = some (.invokevirtual 183, 147, 1123) := rfl
theorem f_156_52 : xi 156 52 = some (.ifCond .eq 7, 0, 0) := rfl
theorem f_156_69 : xi 156 69 = some (.if_icmp .eq 8, 0, 0) := rfl
set_option maxRecDepth 1000000 in
theorem f_156_74 : xi 156 74 = some (.if_icmp .ne 7, 0, 0) := rfl
set_option maxRecDepth 1000000 in
theorem f_156_82 : xi 156 82 = some (.invokestatic 200, 117, 1160) := rfl
set_option maxRecDepth 1000000 in
theorem f_156_85 : xi 156 85 = some (.ireturn, 0, 0) := rfl
theorem m_157 : xme 157 = some xe_157 := rfl
theorem f_157_3 : xi 157 3 = some (.invokevirtual 186, 148, 1115) := rfl
theorem f_157_11 : xi 157 11 = some (.getfield 82, 50, 932) := rfl
theorem f_157_14 : xi 157 14 = some (.if_icmp .ge 33, 0, 0) := rfl
theorem f_157_18 : xi 157 18 = some (.ifCond .ne 29, 0, 0) := rfl
theorem f_157_26 : xi 157 26 = some (.invokevirtual 183, 147, 1123) := rfl
theorem f_157_29 : xi 157 29 = some (.ifCond .eq 9, 0, 0) := rfl
theorem f_157_48 : xi 157 48 = some (.ireturn, 0, 0) := rfl
theorem m_158 : xme 158 = some xe_158 := rfl
theorem f_158_1 : xi 158 1 = some (.getfield 88, 58, 940) := rfl
theorem f_158_7 : xi 158 7 = some (.putfield 88, 58, 940) := rfl
theorem f_158_12 : xi 158 12 = some (.invokevirtual 203, 134, 1184) := rfl
theorem f_158_19 : xi 158 19 = some (.putfield 88, 58, 940) := rfl
theorem f_158_24 : xi 158 24 = some (.ireturn, 0, 0) := rfl
theorem m_159 : xme 159 = some xe_159 := rfl
theorem f_159_5 : xi 159 5 = some (.if_icmp .ge 108, 0, 0) := rfl
theorem f_159_13 : xi 159 13 = some (.if_icmp .ge 36, 0, 0) := rfl
theorem f_159_17 : xi 159 17 = some (.getfield 49, 79, 961) := rfl
theorem f_159_26 : xi 159 26 = some (.ifCond .ne 11, 0, 0) := rfl
theorem f_159_31 : xi 159 31 = some (.invokevirtual 189, 149, 1135) := rfl
theorem f_159_39 : xi 159 39 = some (.invokevirtual 192, 150, 1139) := rfl
theorem f_159_42 : xi 159 42 = some (.iastore, 0, 0) := rfl
theorem f_159_52 : xi 159 52 = some (.invokevirtual 206, 158, 1180) := rfl
theorem f_159_55 : xi 159 55 = some (.i2l, 0, 0) := rfl
theorem f_159_59 : xi 159 59 = some (.ifCond .eq 12, 0, 0) := rfl
theorem f_159_64 : xi 159 64 = some (.getfield 209, 83, 965) := rfl
set_option maxRecDepth 1000000 in
theorem f_159_67 : xi 159 67 = some (.lcmp, 0, 0) := rfl
set_option maxRecDepth 1000000 in
theorem f_159_68 : xi 159 68 = some (.ifCond .ge 7, 0, 0) := rfl
set_option maxRecDepth 1000000 in
theorem f_159_76 : xi 159 76 = some (.getfield 209, 83, 965) := rfl
set_option maxRecDepth 1000000 in
theorem f_159_79 : xi 159 79 = some (.putfield 209, 83, 965) := rfl
set_option maxRecDepth 1000000 in
theorem f_159_84 : xi 159 84 = some (.ifCond .eq 12, 0, 0) := rfl
set_option maxRecDepth 1000000 in
theorem f_159_89 : xi 159 89 = some (.getfield 213, 84, 966) := rfl
set_option maxRecDepth 1000000 in
theorem f_159_92 : xi 159 92 = some (.lcmp, 0, 0) := rfl
set_option maxRecDepth 1000000 in
theorem f_159_93 : xi 159 93 = some (.ifCond .le 7, 0, 0) := rfl
set_option maxRecDepth 1000000 in
theorem f_159_101 : xi 159 101 = some (.getfield 213, 84, 966) := rfl
set_option maxRecDepth 1000000 in
theorem f_159_104 : xi 159 104 = some (.putfield 213, 84, 966) := rfl
set_option maxRecDepth 1000000 in
theorem f_159_113 : xi 159 113 = some (.return_, 0, 0) := rfl
theorem m_160 : xme 160 = some xe_160 := rfl
theorem f_160_2 : xi 160 2 = some (.invokevirtual 216, 159, 1176) := rfl
theorem f_160_6 : xi 160 6 = some (.getfield 213, 84, 966) := rfl
theorem f_160_10 : xi 160 10 = some (.getfield 209, 83, 965) := rfl
theorem f_160_14 : xi 160 14 = some (.lreturn, 0, 0) := rfl
theorem m_161 : xme 161 = some xe_161 := rfl
theorem f_161_2 : xi 161 2 = some (.invokevirtual 219, 116, 1171) := rfl
theorem f_161_5 : xi 161 5 = some (.ifCond .eq 19, 0, 0) := rfl
theorem f_161_11 : xi 161 11 = some (.invokestatic 75, 112, 891) := rfl
theorem f_161_14 : xi 161 14 = some (.ifCond .eq 10, 0, 0) := rfl
theorem f_161_18 : xi 161 18 = some (.invokevirtual 186, 148, 1115) := rfl
theorem f_161_21 : xi 161 21 = some (.ifCond .ne 7, 0, 0) := rfl
theorem f_161_27 : xi 161 27 = some (.lreturn, 0, 0) := rfl
theorem f_161_30 : xi 161 30 = some (.invokevirtual 216, 159, 1176) := rfl
theorem f_161_34 : xi 161 34 = some (.ifCond .ne 10, 0, 0) := rfl
theorem f_161_38 : xi 161 38 = some (.getfield 209, 83, 965) := rfl
theorem f_161_46 : xi 161 46 = some (.if_icmp .ne 10, 0, 0) := rfl
theorem f_161_50 : xi 161 50 = some (.getfield 213, 84, 966) := rfl
theorem f_161_57 : xi 161 57 = some (.getfield 213, 84, 966) := rfl
theorem f_161_61 : xi 161 61 = some (.getfield 209, 83, 965) := rfl
theorem f_161_65 : xi 161 65 = some (.lreturn, 0, 0) := rfl
theorem m_162 : xme 162 = some xe_162 := rfl
theorem f_162_5 : xi 162 5 = some (.if_icmp .ge 20, 0, 0) := rfl
theorem f_162_9 : xi 162 9 = some (.getfield 49, 79, 961) := rfl
theorem f_162_15 : xi 162 15 = some (.invokevirtual 189, 149, 1135) := rfl
theorem f_162_18 : xi 162 18 = some (.iastore, 0, 0) := rfl
theorem f_162_27 : xi 162 27 = some (.invokevirtual 203, 134, 1184) := rfl
theorem f_162_33 : xi 162 33 = some (.invokestatic 164, 113, 1096) := rfl
theorem f_162_36 : xi 162 36 = some (.ireturn, 0, 0) := rfl
theorem m_163 : xme 163 = some xe_163 := rfl
theorem f_163_1 : xi 163 1 = some (.invokevirtual 186, 148, 1115) := rfl
theorem f_163_4 : xi 163 4 = some (.ifCond .eq 10, 0, 0) := rfl
theorem f_163_8 : xi 163 8 = some (.invokevirtual 224, 162, 1195) := rfl
theorem f_163_15 : xi 163 15 = some (.ireturn, 0, 0) := rfl
theorem m_164 : xme 164 = some xe_164 := rfl
theorem f_164_5 : xi 164 5 = some (.ifCond .lt 53, 0, 0) := rfl
theorem f_164_9 : xi 164 9 = some (.getfield 61, 85, 967) := rfl
theorem f_164_13 : xi 164 13 = some (.iaload, 0, 0) := rfl
theorem f_164_15 : xi 164 15 = some (.if_icmp .ge 37, 0, 0) := rfl
theorem f_164_19 : xi 164 19 = some (.getfield 61, 85, 967) := rfl
theorem f_164_23 : xi 164 23 = some (.iaload, 0, 0) := rfl
theorem f_164_33 : xi 164 33 = some (.if_icmp .ge 17, 0, 0) := rfl
theorem f_164_37 : xi 164 37 = some (.getfield 61, 85, 967) := rfl
theorem f_164_43 : xi 164 43 = some (.iastore, 0, 0) := rfl
theorem f_164_51 : xi 164 51 = some (.ireturn, 0, 0) := rfl
theorem f_164_59 : xi 164 59 = some (.ireturn, 0, 0) := rfl
theorem m_165 : xme 165 = some xe_165 := rfl
theorem f_165_2 : xi 165 2 = some (.invokevirtual 180, 145, 1119) := rfl
theorem f_165_10 : xi 165 10 = some (.if_icmp .ge 71, 0, 0) := rfl
theorem f_165_21 : xi 165 21 = some (.if_icmp .ge 28, 0, 0) := rfl
theorem f_165_26 : xi 165 26 = some (.getfield 61, 85, 967) := rfl
theorem f_165_31 : xi 165 31 = some (.iaload, 0, 0) := rfl
theorem f_165_33 : xi 165 33 = some (.if_icmp .ne 7, 0, 0) := rfl
theorem f_165_50 : xi 165 50 = some (.getfield 52, 80, 962) := rfl
theorem f_165_55 : xi 165 55 = some (.iaload, 0, 0) := rfl
theorem f_165_58 : xi 165 58 = some (.idiv, 0, 0) := rfl
theorem f_165_60 : xi 165 60 = some (.iastore, 0, 0) := rfl
theorem f_165_62 : xi 165 62 = some (.getfield 55, 81, 963) := rfl
set_option maxRecDepth 1000000 in
theorem f_165_67 : xi 165 67 = some (.iaload, 0, 0) := rfl
set_option maxRecDepth 1000000 in
theorem f_165_72 : xi 165 72 = some (.idiv, 0, 0) := rfl
set_option maxRecDepth 1000000 in
theorem f_165_74 : xi 165 74 = some (.iastore, 0, 0) := rfl
set_option maxRecDepth 1000000 in
theorem f_165_83 : xi 165 83 = some (.invokevirtual 183, 147, 1123) := rfl
set_option maxRecDepth 1000000 in
theorem f_165_86 : xi 165 86 = some (.ireturn, 0, 0) := rfl
theorem m_166 : xme 166 = some xe_166 := rfl
theorem f_166_6 : xi 166 6 = some (.if_icmp .ge 23, 0, 0) := rfl
theorem f_166_14 : xi 166 14 = some (.getfield 61, 85, 967) := rfl
theorem f_166_18 : xi 166 18 = some (.iaload, 0, 0) := rfl
theorem f_166_30 : xi 166 30 = some (.ireturn, 0, 0) := rfl
theorem m_167 : xme 167 = some xe_167 := rfl
theorem f_167_2 : xi 167 2 = some (.invokevirtual 219, 116, 1171) := rfl
theorem f_167_5 : xi 167 5 = some (.ifCond .eq 30, 0, 0) := rfl
theorem f_167_13 : xi 167 13 = some (.invokestatic 75, 112, 891) := rfl
theorem f_167_16 : xi 167 16 = some (.ifCond .eq 19, 0, 0) := rfl
theorem f_167_22 : xi 167 22 = some (.invokestatic 75, 112, 891) := rfl
theorem f_167_25 : xi 167 25 = some (.ifCond .eq 10, 0, 0) := rfl
theorem f_167_29 : xi 167 29 = some (.invokevirtual 186, 148, 1115) := rfl
theorem f_167_32 : xi 167 32 = some (.ifCond .ne 7, 0, 0) := rfl
theorem f_167_38 : xi 167 38 = some (.lreturn, 0, 0) := rfl
theorem f_167_40 : xi 167 40 = some (.invokevirtual 224, 162, 1195) := rfl
theorem f_167_47 : xi 167 47 = some (.ifCond .ne 7, 0, 0) := rfl
theorem f_167_57 : xi 167 57 = some (.idiv, 0, 0) := rfl
theorem f_167_60 : xi 167 60 = some (.invokestatic 164, 113, 1096) := rfl
theorem f_167_71 : xi 167 71 = some (.if_icmp .ge 17, 0, 0) := rfl
theorem f_167_75 : xi 167 75 = some (.getfield 61, 85, 967) := rfl
set_option maxRecDepth 1000000 in
theorem f_167_81 : xi 167 81 = some (.iastore, 0, 0) := rfl
set_option maxRecDepth 1000000 in
theorem f_167_101 : xi 167 101 = some (.ifCond .eq 86, 0, 0) := rfl
set_option maxRecDepth 1000000 in
theorem f_167_107 : xi 167 107 = some (.invokevirtual 227, 165, 1203) := rfl
set_option maxRecDepth 1000000 in
theorem f_167_110 : xi 167 110 = some (.ifCond .eq 66, 0, 0) := rfl
set_option maxRecDepth 1000000 in
theorem f_167_115 : xi 167 115 = some (.invokevirtual 230, 160, 1207) := rfl
set_option maxRecDepth 1000000 in
theorem f_167_125 : xi 167 125 = some (.lcmp, 0, 0) := rfl
set_option maxRecDepth 1000000 in
theorem f_167_126 : xi 167 126 = some (.ifCond .eq 11, 0, 0) := rfl
set_option maxRecDepth 1000000 in
theorem f_167_133 : xi 167 133 = some (.lcmp, 0, 0) := rfl
set_option maxRecDepth 1000000 in
theorem f_167_134 : xi 167 134 = some (.ifCond .ge 12, 0, 0) := rfl
set_option maxRecDepth 1000000 in
theorem f_167_140 : xi 167 140 = some (.invokevirtual 234, 166, 1211) := rfl
set_option maxRecDepth 1000000 in
theorem f_167_155 : xi 167 155 = some (.lcmp, 0, 0) := rfl
set_option maxRecDepth 1000000 in
theorem f_167_156 : xi 167 156 = some (.ifCond .eq 11, 0, 0) := rfl
set_option maxRecDepth 1000000 in
theorem f_167_163 : xi 167 163 = some (.lcmp, 0, 0) := rfl
set_option maxRecDepth 1000000 in
theorem f_167_164 : xi 167 164 = some (.ifCond .ge 8, 0, 0) := rfl
set_option maxRecDepth 1000000 in
theorem f_167_179 : xi 167 179 = some (.invokevirtual 237, 164, 1215) := rfl
set_option maxRecDepth 1000000 in
theorem f_167_192 : xi 167 192 = some (.lcmp, 0, 0) := rfl
set_option maxRecDepth 1000000 in
theorem f_167_193 : xi 167 193 = some (.ifCond .ne 9, 0, 0) := rfl
set_option maxRecDepth 1000000 in
theorem f_167_203 : xi 167 203 = some (.ifCond .ne 9, 0, 0) := rfl
set_option maxRecDepth 1000000 in
theorem f_167_208 : xi 167 208 = some (.i2l, 0, 0) := rfl
set_option maxRecDepth 1000000 in
theorem f_167_214 : xi 167 214 = some (.lreturn, 0, 0) := rfl
theorem m_168 : xme 168 = some xe_168 := rfl
theorem f_168_2 : xi 168 2 = some (.invokevirtual 219, 116, 1171) := rfl
theorem f_168_5 : xi 168 5 = some (.ifCond .eq 18, 0, 0) := rfl
theorem f_168_10 : xi 168 10 = some (.invokevirtual 167, 114, 1080) := rfl
theorem f_168_13 : xi 168 13 = some (.ifCond .eq 10, 0, 0) := rfl
theorem f_168_17 : xi 168 17 = some (.invokevirtual 186, 148, 1115) := rfl
theorem f_168_20 : xi 168 20 = some (.ifCond .ne 7, 0, 0) := rfl
theorem f_168_26 : xi 168 26 = some (.lreturn, 0, 0) := rfl
theorem f_168_29 : xi 168 29 = some (.invokevirtual 230, 160, 1207) := rfl
theorem f_168_37 : xi 168 37 = some (.invokevirtual 180, 145, 1119) := rfl
theorem f_168_42 : xi 168 42 = some (.invokevirtual 183, 147, 1123) := rfl
theorem f_168_48 : xi 168 48 = some (.invokevirtual 230, 160, 1207) := rfl
theorem f_168_53 : xi 168 53 = some (.lreturn, 0, 0) := rfl
theorem m_169 : xme 169 = some xe_169 := rfl
theorem f_169_2 : xi 169 2 = some (.invokevirtual 219, 116, 1171) := rfl
theorem f_169_5 : xi 169 5 = some (.ifCond .eq 21, 0, 0) := rfl
theorem f_169_9 : xi 169 9 = some (.invokestatic 155, 115, 1069) := rfl
theorem f_169_12 : xi 169 12 = some (.ifCond .eq 14, 0, 0) := rfl
theorem f_169_20 : xi 169 20 = some (.invokestatic 75, 112, 891) := rfl
theorem f_169_23 : xi 169 23 = some (.ifCond .ne 7, 0, 0) := rfl
theorem f_169_29 : xi 169 29 = some (.lreturn, 0, 0) := rfl
theorem f_169_32 : xi 169 32 = some (.invokevirtual 180, 145, 1119) := rfl
theorem f_169_36 : xi 169 36 = some (.getfield 52, 80, 962) := rfl
theorem f_169_41 : xi 169 41 = some (.iastore, 0, 0) := rfl
theorem f_169_43 : xi 169 43 = some (.getfield 55, 81, 963) := rfl
theorem f_169_48 : xi 169 48 = some (.iastore, 0, 0) := rfl
theorem f_169_51 : xi 169 51 = some (.invokevirtual 183, 147, 1123) := rfl
theorem f_169_54 : xi 169 54 = some (.ifCond .eq 11, 0, 0) := rfl
theorem f_169_59 : xi 169 59 = some (.invokevirtual 230, 160, 1207) := rfl
theorem f_169_68 : xi 169 68 = some (.lreturn, 0, 0) := rfl
theorem m_170 : xme 170 = some xe_170 := rfl
theorem f_170_2 : xi 170 2 = some (.lcmp, 0, 0) := rfl
theorem f_170_3 : xi 170 3 = some (.ifCond .ne 7, 0, 0) := rfl
theorem f_170_8 : xi 170 8 = some (.i2l, 0, 0) := rfl
theorem f_170_9 : xi 170 9 = some (.lreturn, 0, 0) := rfl
theorem f_170_19 : xi 170 19 = some (.lcmp, 0, 0) := rfl
theorem f_170_20 : xi 170 20 = some (.ifCond .eq 21, 0, 0) := rfl
theorem f_170_27 : xi 170 27 = some (.lrem, 0, 0) := rfl
theorem f_170_43 : xi 170 43 = some (.ifCond .ne 7, 0, 0) := rfl
theorem f_170_53 : xi 170 53 = some (.ldiv, 0, 0) := rfl
theorem f_170_54 : xi 170 54 = some (.lreturn, 0, 0) := rfl
theorem m_171 : xme 171 = some xe_171 := rfl
theorem f_171_1 : xi 171 1 = some (.invokestatic 155, 115, 1069) := rfl
theorem f_171_4 : xi 171 4 = some (.ifCond .eq 30, 0, 0) := rfl
theorem f_171_12 : xi 171 12 = some (.invokestatic 75, 112, 891) := rfl
theorem f_171_15 : xi 171 15 = some (.ifCond .eq 19, 0, 0) := rfl
theorem f_171_21 : xi 171 21 = some (.invokestatic 75, 112, 891) := rfl
theorem f_171_24 : xi 171 24 = some (.ifCond .eq 10, 0, 0) := rfl
theorem f_171_28 : xi 171 28 = some (.invokevirtual 186, 148, 1115) := rfl
theorem f_171_31 : xi 171 31 = some (.ifCond .ne 7, 0, 0) := rfl
theorem f_171_37 : xi 171 37 = some (.lreturn, 0, 0) := rfl
theorem f_171_40 : xi 171 40 = some (.invokevirtual 192, 150, 1139) := rfl
theorem f_171_45 : xi 171 45 = some (.invokevirtual 189, 149, 1135) := rfl
theorem f_171_56 : xi 171 56 = some (.invokevirtual 189, 149, 1135) := rfl
theorem f_171_65 : xi 171 65 = some (.invokestatic 164, 113, 1096) := rfl
theorem f_171_68 : xi 171 68 = some (.i2l, 0, 0) := rfl
theorem f_171_71 : xi 171 71 = some (.i2l, 0, 0) := rfl
set_option maxRecDepth 1000000 in
theorem f_171_73 : xi 171 73 = some (.invokestatic 240, 170, 1231) := rfl
set_option maxRecDepth 1000000 in
theorem f_171_76 : xi 171 76 = some (.lreturn, 0, 0) := rfl
theorem m_172 : xme 172 = some xe_172 := rfl
theorem f_172_1 : xi 172 1 = some (.invokestatic 155, 115, 1069) := rfl
theorem f_172_4 : xi 172 4 = some (.ifCond .eq 31, 0, 0) := rfl
theorem f_172_8 : xi 172 8 = some (.invokestatic 155, 115, 1069) := rfl
theorem f_172_11 : xi 172 11 = some (.ifCond .eq 24, 0, 0) := rfl
theorem f_172_16 : xi 172 16 = some (.if_icmp .eq 19, 0, 0) := rfl
theorem f_172_22 : xi 172 22 = some (.invokestatic 75, 112, 891) := rfl
theorem f_172_25 : xi 172 25 = some (.ifCond .eq 10, 0, 0) := rfl
theorem f_172_29 : xi 172 29 = some (.invokevirtual 186, 148, 1115) := rfl
theorem f_172_32 : xi 172 32 = some (.ifCond .ne 7, 0, 0) := rfl
theorem f_172_38 : xi 172 38 = some (.lreturn, 0, 0) := rfl
theorem f_172_41 : xi 172 41 = some (.invokevirtual 192, 150, 1139) := rfl
theorem f_172_46 : xi 172 46 = some (.invokevirtual 189, 149, 1135) := rfl
theorem f_172_59 : xi 172 59 = some (.invokevirtual 189, 149, 1135) := rfl
theorem f_172_68 : xi 172 68 = some (.invokevirtual 192, 150, 1139) := rfl
theorem f_172_71 : xi 172 71 = some (.if_icmp .gt 29, 0, 0) := rfl
set_option maxRecDepth 1000000 in
theorem f_172_78 : xi 172 78 = some (.invokevirtual 192, 150, 1139) := rfl
set_option maxRecDepth 1000000 in
theorem f_172_87 : xi 172 87 = some (.invokestatic 164, 113, 1096) := rfl
set_option maxRecDepth 1000000 in
theorem f_172_90 : xi 172 90 = some (.i2l, 0, 0) := rfl
set_option maxRecDepth 1000000 in
theorem f_172_104 : xi 172 104 = some (.invokevirtual 192, 150, 1139) := rfl
set_option maxRecDepth 1000000 in
theorem f_172_109 : xi 172 109 = some (.invokevirtual 189, 149, 1135) := rfl
set_option maxRecDepth 1000000 in
theorem f_172_113 : xi 172 113 = some (.i2l, 0, 0) := rfl
set_option maxRecDepth 1000000 in
theorem f_172_118 : xi 172 118 = some (.i2l, 0, 0) := rfl
set_option maxRecDepth 1000000 in
theorem f_172_121 : xi 172 121 = some (.invokestatic 240, 170, 1231) := rfl
set_option maxRecDepth 1000000 in
theorem f_172_124 : xi 172 124 = some (.lreturn, 0, 0) := rfl
theorem m_173 : xme 173 = some xe_173 := rfl
theorem f_173_3 : xi 173 3 = some (.invokestatic 75, 112, 891) := rfl
theorem f_173_6 : xi 173 6 = some (.ifCond .ne 6, 0, 0) := rfl
theorem f_173_11 : xi 173 11 = some (.ireturn, 0, 0) := rfl
theorem f_173_13 : xi 173 13 = some (.getfield 28, 65, 947) := rfl
theorem f_173_17 : xi 173 17 = some (.iaload, 0, 0) := rfl
theorem f_173_19 : xi 173 19 = some (.if_icmp .ne 6, 0, 0) := rfl
theorem f_173_24 : xi 173 24 = some (.ireturn, 0, 0) := rfl
theorem f_173_26 : xi 173 26 = some (.getfield 31, 66, 948) := rfl
theorem f_173_30 : xi 173 30 = some (.iaload, 0, 0) := rfl
theorem f_173_33 : xi 173 33 = some (.if_icmp .ne 7, 0, 0) := rfl
theorem f_173_42 : xi 173 42 = some (.ireturn, 0, 0) := rfl
theorem m_174 : xme 174 = some xe_174 := rfl
theorem f_174_2 : xi 174 2 = some (.invokevirtual 244, 173, 1242) := rfl
theorem f_174_7 : xi 174 7 = some (.ifCond .eq 5, 0, 0) := rfl
theorem f_174_11 : xi 174 11 = some (.ireturn, 0, 0) := rfl
theorem f_174_20 : xi 174 20 = some (.getfield 72, 48, 930) := rfl
theorem f_174_23 : xi 174 23 = some (.if_icmp .ge 59, 0, 0) := rfl
theorem f_174_28 : xi 174 28 = some (.getfield 34, 67, 949) := rfl
theorem f_174_36 : xi 174 36 = some (.getfield 7, 49, 931) := rfl
theorem f_174_45 : xi 174 45 = some (.iaload, 0, 0) := rfl
theorem f_174_47 : xi 174 47 = some (.iaload, 0, 0) := rfl
theorem f_174_51 : xi 174 51 = some (.invokevirtual 170, 140, 1084) := rfl
theorem f_174_57 : xi 174 57 = some (.invokevirtual 173, 141, 1099) := rfl
theorem f_174_60 : xi 174 60 = some (.invokestatic 75, 112, 891) := rfl
theorem f_174_63 : xi 174 63 = some (.ifCond .eq 7, 0, 0) := rfl
set_option maxRecDepth 1000000 in
theorem f_174_83 : xi 174 83 = some (.ireturn, 0, 0) := rfl
theorem m_175 : xme 175 = some xe_175 := rfl
theorem f_175_2 : xi 175 2 = some (.invokevirtual 244, 173, 1242) := rfl
theorem f_175_7 : xi 175 7 = some (.ifCond .eq 5, 0, 0) := rfl
theorem f_175_11 : xi 175 11 = some (.ireturn, 0, 0) := rfl
theorem f_175_20 : xi 175 20 = some (.getfield 82, 50, 932) := rfl
theorem f_175_23 : xi 175 23 = some (.if_icmp .ge 101, 0, 0) := rfl
theorem f_175_27 : xi 175 27 = some (.getfield 34, 67, 949) := rfl
theorem f_175_35 : xi 175 35 = some (.getfield 13, 51, 933) := rfl
theorem f_175_44 : xi 175 44 = some (.iaload, 0, 0) := rfl
theorem f_175_46 : xi 175 46 = some (.iaload, 0, 0) := rfl
theorem f_175_47 : xi 175 47 = some (.i2l, 0, 0) := rfl
theorem f_175_49 : xi 175 49 = some (.getfield 34, 67, 949) := rfl
theorem f_175_57 : xi 175 57 = some (.getfield 13, 51, 933) := rfl
set_option maxRecDepth 1000000 in
theorem f_175_64 : xi 175 64 = some (.iaload, 0, 0) := rfl
set_option maxRecDepth 1000000 in
theorem f_175_66 : xi 175 66 = some (.iaload, 0, 0) := rfl
set_option maxRecDepth 1000000 in
theorem f_175_67 : xi 175 67 = some (.i2l, 0, 0) := rfl
set_option maxRecDepth 1000000 in
theorem f_175_75 : xi 175 75 = some (.getfield 13, 51, 933) := rfl
set_option maxRecDepth 1000000 in
theorem f_175_84 : xi 175 84 = some (.iaload, 0, 0) := rfl
set_option maxRecDepth 1000000 in
theorem f_175_85 : xi 175 85 = some (.i2l, 0, 0) := rfl
set_option maxRecDepth 1000000 in
theorem f_175_86 : xi 175 86 = some (.lcmp, 0, 0) := rfl
set_option maxRecDepth 1000000 in
theorem f_175_87 : xi 175 87 = some (.ifCond .lt 25, 0, 0) := rfl
set_option maxRecDepth 1000000 in
theorem f_175_93 : xi 175 93 = some (.getfield 13, 51, 933) := rfl
set_option maxRecDepth 1000000 in
theorem f_175_102 : xi 175 102 = some (.iaload, 0, 0) := rfl
set_option maxRecDepth 1000000 in
theorem f_175_103 : xi 175 103 = some (.i2l, 0, 0) := rfl
set_option maxRecDepth 1000000 in
theorem f_175_104 : xi 175 104 = some (.lcmp, 0, 0) := rfl
set_option maxRecDepth 1000000 in
theorem f_175_105 : xi 175 105 = some (.ifCond .gt 7, 0, 0) := rfl
set_option maxRecDepth 1000000 in
theorem f_175_125 : xi 175 125 = some (.ireturn, 0, 0) := rfl
theorem m_176 : xme 176 = some xe_176 := rfl
theorem f_176_2 : xi 176 2 = some (.invokevirtual 244, 173, 1242) := rfl
theorem f_176_7 : xi 176 7 = some (.ifCond .ne 10, 0, 0) := rfl
theorem f_176_11 : xi 176 11 = some (.invokevirtual 186, 148, 1115) := rfl
theorem f_176_14 : xi 176 14 = some (.ifCond .ne 14, 0, 0) := rfl
theorem f_176_18 : xi 176 18 = some (.ifCond .eq 7, 0, 0) := rfl
theorem f_176_27 : xi 176 27 = some (.ireturn, 0, 0) := rfl
theorem f_176_33 : xi 176 33 = some (.if_icmp .ge 38, 0, 0) := rfl
theorem f_176_37 : xi 176 37 = some (.getfield 34, 67, 949) := rfl
theorem f_176_46 : xi 176 46 = some (.iaload, 0, 0) := rfl
theorem f_176_49 : xi 176 49 = some (.invokevirtual 189, 149, 1135) := rfl
theorem f_176_54 : xi 176 54 = some (.invokevirtual 192, 150, 1139) := rfl
theorem f_176_57 : xi 176 57 = some (.invokestatic 75, 112, 891) := rfl
theorem f_176_60 : xi 176 60 = some (.ifCond .ne 5, 0, 0) := rfl
theorem f_176_64 : xi 176 64 = some (.ireturn, 0, 0) := rfl
set_option maxRecDepth 1000000 in
theorem f_176_72 : xi 176 72 = some (.ireturn, 0, 0) := rfl
theorem m_177 : xme 177 = some xe_177 := rfl
theorem f_177_5 : xi 177 5 = some (.if_icmp .ge 26, 0, 0) := rfl
theorem f_177_9 : xi 177 9 = some (.getfield 49, 79, 961) := rfl
theorem f_177_14 : xi 177 14 = some (.getfield 34, 67, 949) := rfl
theorem f_177_23 : xi 177 23 = some (.iaload, 0, 0) := rfl
theorem f_177_24 : xi 177 24 = some (.iastore, 0, 0) := rfl
theorem f_177_31 : xi 177 31 = some (.return_, 0, 0) := rfl
theorem m_178 : xme 178 = some xe_178 := rfl
theorem f_178_2 : xi 178 2 = some (.invokevirtual 244, 173, 1242) := rfl
theorem f_178_5 : xi 178 5 = some (.ifCond .ne 11, 0, 0) := rfl
theorem f_178_10 : xi 178 10 = some (.invokevirtual 219, 116, 1171) := rfl
theorem f_178_13 : xi 178 13 = some (.ifCond .ne 7, 0, 0) := rfl
theorem f_178_19 : xi 178 19 = some (.lreturn, 0, 0) := rfl
theorem f_178_22 : xi 178 22 = some (.invokevirtual 247, 177, 1258) := rfl
theorem f_178_28 : xi 178 28 = some (.invokevirtual 206, 158, 1180) := rfl
theorem f_178_31 : xi 178 31 = some (.i2l, 0, 0) := rfl
theorem f_178_32 : xi 178 32 = some (.lreturn, 0, 0) := rfl
theorem m_179 : xme 179 = some xe_179 := rfl
theorem f_179_2 : xi 179 2 = some (.invokevirtual 244, 173, 1242) := rfl
theorem f_179_7 : xi 179 7 = some (.ifCond .eq 5, 0, 0) := rfl
theorem f_179_11 : xi 179 11 = some (.ireturn, 0, 0) := rfl
theorem f_179_14 : xi 179 14 = some (.invokevirtual 247, 177, 1258) := rfl
theorem f_179_25 : xi 179 25 = some (.getfield 79, 57, 939) := rfl
theorem f_179_28 : xi 179 28 = some (.if_icmp .ge 30, 0, 0) := rfl
theorem f_179_36 : xi 179 36 = some (.invokevirtual 206, 158, 1180) := rfl
theorem f_179_39 : xi 179 39 = some (.ifCond .ne 7, 0, 0) := rfl
theorem f_179_59 : xi 179 59 = some (.ireturn, 0, 0) := rfl
theorem m_180 : xme 180 = some xe_180 := rfl
theorem f_180_3 : xi 180 3 = some (.invokestatic 75, 112, 891) := rfl
theorem f_180_6 : xi 180 6 = some (.ifCond .ne 6, 0, 0) := rfl
theorem f_180_11 : xi 180 11 = some (.ireturn, 0, 0) := rfl
theorem f_180_15 : xi 180 15 = some (.invokestatic 75, 112, 891) := rfl
theorem f_180_18 : xi 180 18 = some (.ifCond .ne 6, 0, 0) := rfl
theorem f_180_23 : xi 180 23 = some (.ireturn, 0, 0) := rfl
theorem f_180_25 : xi 180 25 = some (.invokevirtual 186, 148, 1115) := rfl
theorem f_180_28 : xi 180 28 = some (.ifCond .ne 6, 0, 0) := rfl
theorem f_180_33 : xi 180 33 = some (.ireturn, 0, 0) := rfl
theorem f_180_35 : xi 180 35 = some (.getfield 28, 65, 947) := rfl
theorem f_180_40 : xi 180 40 = some (.iastore, 0, 0) := rfl
theorem f_180_42 : xi 180 42 = some (.getfield 31, 66, 948) := rfl
theorem f_180_48 : xi 180 48 = some (.iastore, 0, 0) := rfl
theorem f_180_54 : xi 180 54 = some (.if_icmp .ge 47, 0, 0) := rfl
theorem f_180_58 : xi 180 58 = some (.getfield 34, 67, 949) := rfl
set_option maxRecDepth 1000000 in
theorem f_180_70 : xi 180 70 = some (.if_icmp .lt 7, 0, 0) := rfl
set_option maxRecDepth 1000000 in
theorem f_180_78 : xi 180 78 = some (.ifCond .ne 11, 0, 0) := rfl
set_option maxRecDepth 1000000 in
theorem f_180_83 : xi 180 83 = some (.invokevirtual 189, 149, 1135) := rfl
set_option maxRecDepth 1000000 in
theorem f_180_91 : xi 180 91 = some (.invokevirtual 192, 150, 1139) := rfl
set_option maxRecDepth 1000000 in
theorem f_180_94 : xi 180 94 = some (.iastore, 0, 0) := rfl
set_option maxRecDepth 1000000 in
theorem f_180_103 : xi 180 103 = some (.ireturn, 0, 0) := rfl
theorem m_181 : xme 181 = some xe_181 := rfl
theorem f_181_1 : xi 181 1 = some (.i2l, 0, 0) := rfl
theorem f_181_12 : xi 181 12 = some (.if_icmp .ge 52, 0, 0) := rfl
theorem f_181_23 : xi 181 23 = some (.lrem, 0, 0) := rfl
theorem f_181_26 : xi 181 26 = some (.getfield 49, 79, 961) := rfl
theorem f_181_34 : xi 181 34 = some (.invokevirtual 189, 149, 1135) := rfl
theorem f_181_41 : xi 181 41 = some (.invokevirtual 192, 150, 1139) := rfl
theorem f_181_47 : xi 181 47 = some (.invokevirtual 189, 149, 1135) := rfl
theorem f_181_53 : xi 181 53 = some (.i2l, 0, 0) := rfl
theorem f_181_54 : xi 181 54 = some (.lrem, 0, 0) := rfl
theorem f_181_57 : xi 181 57 = some (.iastore, 0, 0) := rfl
theorem f_181_64 : xi 181 64 = some (.return_, 0, 0) := rfl
theorem m_182 : xme 182 = some xe_182 := rfl
theorem f_182_4 : xi 182 4 = some (.invokestatic 75, 112, 891) := rfl
theorem f_182_7 : xi 182 7 = some (.ifCond .eq 13, 0, 0) := rfl
theorem f_182_14 : xi 182 14 = some (.invokestatic 75, 112, 891) := rfl
theorem f_182_17 : xi 182 17 = some (.ifCond .ne 6, 0, 0) := rfl
theorem f_182_22 : xi 182 22 = some (.ireturn, 0, 0) := rfl
theorem f_182_24 : xi 182 24 = some (.invokevirtual 186, 148, 1115) := rfl
theorem f_182_27 : xi 182 27 = some (.ifCond .ne 5, 0, 0) := rfl
theorem f_182_31 : xi 182 31 = some (.ireturn, 0, 0) := rfl
theorem f_182_34 : xi 182 34 = some (.invokevirtual 255, 181, 1275) := rfl
theorem f_182_40 : xi 182 40 = some (.if_icmp .ge 12, 0, 0) := rfl
theorem f_182_44 : xi 182 44 = some (.getfield 49, 79, 961) := rfl
theorem f_182_48 : xi 182 48 = some (.iaload, 0, 0) := rfl
theorem f_182_54 : xi 182 54 = some (.invokevirtual 203, 134, 1184) := rfl
theorem f_182_57 : xi 182 57 = some (.ifCond .ne 7, 0, 0) := rfl
theorem f_182_65 : xi 182 65 = some (.ireturn, 0, 0) := rfl
theorem m_183 : xme 183 = some xe_183 := rfl
theorem f_183_4 : xi 183 4 = some (.invokestatic 75, 112, 891) := rfl
theorem f_183_7 : xi 183 7 = some (.ifCond .eq 29, 0, 0) := rfl
theorem f_183_14 : xi 183 14 = some (.invokestatic 75, 112, 891) := rfl
theorem f_183_17 : xi 183 17 = some (.ifCond .eq 19, 0, 0) := rfl
theorem f_183_23 : xi 183 23 = some (.invokestatic 75, 112, 891) := rfl
theorem f_183_26 : xi 183 26 = some (.ifCond .eq 10, 0, 0) := rfl
theorem f_183_30 : xi 183 30 = some (.invokevirtual 186, 148, 1115) := rfl
theorem f_183_33 : xi 183 33 = some (.ifCond .ne 7, 0, 0) := rfl
theorem f_183_39 : xi 183 39 = some (.lreturn, 0, 0) := rfl
theorem f_183_49 : xi 183 49 = some (.if_icmp .ge 35, 0, 0) := rfl
theorem f_183_57 : xi 183 57 = some (.invokevirtual 255, 181, 1275) := rfl
theorem f_183_64 : xi 183 64 = some (.invokevirtual 203, 134, 1184) := rfl
theorem f_183_67 : xi 183 67 = some (.ifCond .ne 7, 0, 0) := rfl
set_option maxRecDepth 1000000 in
theorem f_183_87 : xi 183 87 = some (.i2l, 0, 0) := rfl
set_option maxRecDepth 1000000 in
theorem f_183_89 : xi 183 89 = some (.invokestatic 240, 170, 1231) := rfl
set_option maxRecDepth 1000000 in
theorem f_183_92 : xi 183 92 = some (.lreturn, 0, 0) := rfl
theorem m_184 : xme 184 = some xe_184 := rfl
theorem f_184_2 : xi 184 2 = some (.putfield 258, 59, 941) := rfl
theorem f_184_7 : xi 184 7 = some (.getfield 72, 48, 930) := rfl
theorem f_184_10 : xi 184 10 = some (.putfield 262, 60, 942) := rfl
theorem f_184_15 : xi 184 15 = some (.getfield 82, 50, 932) := rfl
theorem f_184_18 : xi 184 18 = some (.putfield 265, 61, 943) := rfl
theorem f_184_23 : xi 184 23 = some (.getfield 85, 52, 934) := rfl
theorem f_184_26 : xi 184 26 = some (.putfield 268, 62, 944) := rfl
theorem f_184_31 : xi 184 31 = some (.getfield 88, 58, 940) := rfl
theorem f_184_34 : xi 184 34 = some (.putfield 271, 63, 945) := rfl
theorem f_184_42 : xi 184 42 = some (.if_icmp .ge 21, 0, 0) := rfl
theorem f_184_46 : xi 184 46 = some (.getfield 25, 64, 946) := rfl
theorem f_184_51 : xi 184 51 = some (.getfield 7, 49, 931) := rfl
theorem f_184_55 : xi 184 55 = some (.iaload, 0, 0) := rfl
theorem f_184_56 : xi 184 56 = some (.iastore, 0, 0) := rfl
theorem f_184_64 : xi 184 64 = some (.getfield 72, 48, 930) := rfl
theorem f_184_67 : xi 184 67 = some (.ireturn, 0, 0) := rfl
theorem m_185 : xme 185 = some xe_185 := rfl
theorem f_185_1 : xi 185 1 = some (.getfield 258, 59, 941) := rfl
theorem f_185_4 : xi 185 4 = some (.ifCond .ne 6, 0, 0) := rfl
theorem f_185_9 : xi 185 9 = some (.ireturn, 0, 0) := rfl
theorem f_185_12 : xi 185 12 = some (.getfield 262, 60, 942) := rfl
theorem f_185_15 : xi 185 15 = some (.putfield 72, 48, 930) := rfl
theorem f_185_20 : xi 185 20 = some (.getfield 265, 61, 943) := rfl
theorem f_185_23 : xi 185 23 = some (.putfield 82, 50, 932) := rfl
theorem f_185_28 : xi 185 28 = some (.getfield 268, 62, 944) := rfl
theorem f_185_31 : xi 185 31 = some (.putfield 85, 52, 934) := rfl
theorem f_185_36 : xi 185 36 = some (.getfield 271, 63, 945) := rfl
theorem f_185_39 : xi 185 39 = some (.putfield 88, 58, 940) := rfl
theorem f_185_47 : xi 185 47 = some (.if_icmp .ge 21, 0, 0) := rfl
theorem f_185_51 : xi 185 51 = some (.getfield 7, 49, 931) := rfl
theorem f_185_56 : xi 185 56 = some (.getfield 25, 64, 946) := rfl
theorem f_185_60 : xi 185 60 = some (.iaload, 0, 0) := rfl
theorem f_185_61 : xi 185 61 = some (.iastore, 0, 0) := rfl
theorem f_185_69 : xi 185 69 = some (.getfield 72, 48, 930) := rfl
theorem f_185_72 : xi 185 72 = some (.ireturn, 0, 0) := rfl
theorem m_186 : xme 186 = some xe_186 := rfl
theorem f_186_3 : xi 186 3 = some (.invokestatic 75, 112, 891) := rfl
theorem f_186_6 : xi 186 6 = some (.ifCond .eq 23, 0, 0) := rfl
theorem f_186_12 : xi 186 12 = some (.invokestatic 75, 112, 891) := rfl
theorem f_186_15 : xi 186 15 = some (.ifCond .eq 14, 0, 0) := rfl
theorem f_186_20 : xi 186 20 = some (.if_icmp .eq 12, 0, 0) := rfl
theorem f_186_26 : xi 186 26 = some (.if_icmp .le 6, 0, 0) := rfl
theorem f_186_31 : xi 186 31 = some (.ireturn, 0, 0) := rfl
theorem f_186_34 : xi 186 34 = some (.if_icmp .eq 10, 0, 0) := rfl
theorem f_186_38 : xi 186 38 = some (.ifCond .ge 6, 0, 0) := rfl
theorem f_186_43 : xi 186 43 = some (.ireturn, 0, 0) := rfl
theorem f_186_45 : xi 186 45 = some (.getfield 28, 65, 947) := rfl
theorem f_186_50 : xi 186 50 = some (.iastore, 0, 0) := rfl
theorem f_186_52 : xi 186 52 = some (.getfield 31, 66, 948) := rfl
theorem f_186_58 : xi 186 58 = some (.if_icmp .ne 7, 0, 0) := rfl
theorem f_186_66 : xi 186 66 = some (.iastore, 0, 0) := rfl
set_option maxRecDepth 1000000 in
theorem f_186_74 : xi 186 74 = some (.if_icmp .ge 22, 0, 0) := rfl
set_option maxRecDepth 1000000 in
theorem f_186_78 : xi 186 78 = some (.getfield 34, 67, 949) := rfl
set_option maxRecDepth 1000000 in
theorem f_186_89 : xi 186 89 = some (.iastore, 0, 0) := rfl
set_option maxRecDepth 1000000 in
theorem f_186_97 : xi 186 97 = some (.ireturn, 0, 0) := rfl
theorem m_187 : xme 187 = some xe_187 := rfl
theorem f_187_3 : xi 187 3 = some (.invokestatic 75, 112, 891) := rfl
theorem f_187_6 : xi 187 6 = some (.ifCond .ne 6, 0, 0) := rfl
theorem f_187_11 : xi 187 11 = some (.ireturn, 0, 0) := rfl
theorem f_187_13 : xi 187 13 = some (.getfield 28, 65, 947) := rfl
theorem f_187_17 : xi 187 17 = some (.iaload, 0, 0) := rfl
theorem f_187_19 : xi 187 19 = some (.if_icmp .ne 6, 0, 0) := rfl
theorem f_187_24 : xi 187 24 = some (.ireturn, 0, 0) := rfl
theorem f_187_28 : xi 187 28 = some (.getfield 31, 66, 948) := rfl
theorem f_187_32 : xi 187 32 = some (.iaload, 0, 0) := rfl
theorem f_187_35 : xi 187 35 = some (.invokestatic 75, 112, 891) := rfl
theorem f_187_38 : xi 187 38 = some (.ifCond .ne 6, 0, 0) := rfl
theorem f_187_43 : xi 187 43 = some (.ireturn, 0, 0) := rfl
theorem f_187_45 : xi 187 45 = some (.getfield 34, 67, 949) := rfl
theorem f_187_55 : xi 187 55 = some (.getfield 28, 65, 947) := rfl
theorem f_187_59 : xi 187 59 = some (.iaload, 0, 0) := rfl
theorem f_187_60 : xi 187 60 = some (.ifCond .ne 8, 0, 0) := rfl
set_option maxRecDepth 1000000 in
theorem f_187_69 : xi 187 69 = some (.getfield 28, 65, 947) := rfl
set_option maxRecDepth 1000000 in
theorem f_187_73 : xi 187 73 = some (.iaload, 0, 0) := rfl
set_option maxRecDepth 1000000 in
theorem f_187_75 : xi 187 75 = some (.if_icmp .ne 8, 0, 0) := rfl
set_option maxRecDepth 1000000 in
theorem f_187_84 : xi 187 84 = some (.iastore, 0, 0) := rfl
set_option maxRecDepth 1000000 in
theorem f_187_86 : xi 187 86 = some (.ireturn, 0, 0) := rfl
theorem m_188 : xme 188 = some xe_188 := rfl
theorem f_188_3 : xi 188 3 = some (.invokestatic 75, 112, 891) := rfl
theorem f_188_6 : xi 188 6 = some (.ifCond .eq 12, 0, 0) := rfl
theorem f_188_12 : xi 188 12 = some (.invokestatic 75, 112, 891) := rfl
theorem f_188_15 : xi 188 15 = some (.ifCond .ne 6, 0, 0) := rfl
theorem f_188_20 : xi 188 20 = some (.ireturn, 0, 0) := rfl
theorem f_188_22 : xi 188 22 = some (.getfield 28, 65, 947) := rfl
theorem f_188_26 : xi 188 26 = some (.iaload, 0, 0) := rfl
theorem f_188_28 : xi 188 28 = some (.if_icmp .eq 13, 0, 0) := rfl
theorem f_188_32 : xi 188 32 = some (.getfield 28, 65, 947) := rfl
theorem f_188_36 : xi 188 36 = some (.iaload, 0, 0) := rfl
theorem f_188_38 : xi 188 38 = some (.if_icmp .ne 6, 0, 0) := rfl
theorem f_188_43 : xi 188 43 = some (.ireturn, 0, 0) := rfl
theorem f_188_45 : xi 188 45 = some (.getfield 28, 65, 947) := rfl
theorem f_188_49 : xi 188 49 = some (.iaload, 0, 0) := rfl
theorem f_188_51 : xi 188 51 = some (.getfield 28, 65, 947) := rfl
theorem f_188_55 : xi 188 55 = some (.iaload, 0, 0) := rfl
theorem f_188_56 : xi 188 56 = some (.if_icmp .eq 6, 0, 0) := rfl
theorem f_188_61 : xi 188 61 = some (.ireturn, 0, 0) := rfl
theorem f_188_64 : xi 188 64 = some (.ifCond .lt 60, 0, 0) := rfl
theorem f_188_68 : xi 188 68 = some (.ifCond .lt 56, 0, 0) := rfl
set_option maxRecDepth 1000000 in
theorem f_188_73 : xi 188 73 = some (.ifCond .lt 51, 0, 0) := rfl
set_option maxRecDepth 1000000 in
theorem f_188_78 : xi 188 78 = some (.getfield 31, 66, 948) := rfl
set_option maxRecDepth 1000000 in
theorem f_188_82 : xi 188 82 = some (.iaload, 0, 0) := rfl
set_option maxRecDepth 1000000 in
theorem f_188_83 : xi 188 83 = some (.if_icmp .gt 41, 0, 0) := rfl
set_option maxRecDepth 1000000 in
theorem f_188_89 : xi 188 89 = some (.getfield 31, 66, 948) := rfl
set_option maxRecDepth 1000000 in
theorem f_188_93 : xi 188 93 = some (.iaload, 0, 0) := rfl
set_option maxRecDepth 1000000 in
theorem f_188_94 : xi 188 94 = some (.if_icmp .gt 30, 0, 0) := rfl
set_option maxRecDepth 1000000 in
theorem f_188_100 : xi 188 100 = some (.getfield 31, 66, 948) := rfl
set_option maxRecDepth 1000000 in
theorem f_188_104 : xi 188 104 = some (.iaload, 0, 0) := rfl
set_option maxRecDepth 1000000 in
theorem f_188_107 : xi 188 107 = some (.if_icmp .gt 17, 0, 0) := rfl
set_option maxRecDepth 1000000 in
theorem f_188_113 : xi 188 113 = some (.getfield 31, 66, 948) := rfl
set_option maxRecDepth 1000000 in
theorem f_188_117 : xi 188 117 = some (.iaload, 0, 0) := rfl
set_option maxRecDepth 1000000 in
theorem f_188_121 : xi 188 121 = some (.if_icmp .le 6, 0, 0) := rfl
set_option maxRecDepth 1000000 in
theorem f_188_126 : xi 188 126 = some (.ireturn, 0, 0) := rfl
set_option maxRecDepth 1000000 in
theorem f_188_151 : xi 188 151 = some (.if_icmp .ge 50, 0, 0) := rfl
set_option maxRecDepth 1000000 in
theorem f_188_158 : xi 188 158 = some (.if_icmp .ge 13, 0, 0) := rfl
set_option maxRecDepth 1000000 in
theorem f_188_176 : xi 188 176 = some (.getfield 34, 67, 949) := rfl
set_option maxRecDepth 1000000 in
theorem f_188_185 : xi 188 185 = some (.getfield 34, 67, 949) := rfl
set_option maxRecDepth 1000000 in
theorem f_188_193 : xi 188 193 = some (.iaload, 0, 0) := rfl
set_option maxRecDepth 1000000 in
theorem f_188_194 : xi 188 194 = some (.iastore, 0, 0) := rfl
set_option maxRecDepth 1000000 in
theorem f_188_203 : xi 188 203 = some (.ireturn, 0, 0) := rfl
theorem m_189 : xme 189 = some xe_189 := rfl
theorem f_189_3 : xi 189 3 = some (.invokestatic 75, 112, 891) := rfl
theorem f_189_6 : xi 189 6 = some (.ifCond .eq 23, 0, 0) := rfl
theorem f_189_12 : xi 189 12 = some (.invokestatic 75, 112, 891) := rfl
theorem f_189_15 : xi 189 15 = some (.ifCond .eq 14, 0, 0) := rfl
theorem f_189_23 : xi 189 23 = some (.invokestatic 75, 112, 891) := rfl
theorem f_189_26 : xi 189 26 = some (.ifCond .ne 6, 0, 0) := rfl
theorem f_189_31 : xi 189 31 = some (.ireturn, 0, 0) := rfl
theorem f_189_33 : xi 189 33 = some (.getfield 28, 65, 947) := rfl
theorem f_189_37 : xi 189 37 = some (.iaload, 0, 0) := rfl
theorem f_189_39 : xi 189 39 = some (.if_icmp .ne 6, 0, 0) := rfl
theorem f_189_44 : xi 189 44 = some (.ireturn, 0, 0) := rfl
theorem f_189_46 : xi 189 46 = some (.getfield 28, 65, 947) := rfl
theorem f_189_50 : xi 189 50 = some (.iaload, 0, 0) := rfl
theorem f_189_52 : xi 189 52 = some (.if_icmp .eq 6, 0, 0) := rfl
theorem f_189_57 : xi 189 57 = some (.ireturn, 0, 0) := rfl
theorem f_189_68 : xi 189 68 = some (.if_icmp .ge 103, 0, 0) := rfl
set_option maxRecDepth 1000000 in
theorem f_189_80 : xi 189 80 = some (.ifCond .lt 22, 0, 0) := rfl
set_option maxRecDepth 1000000 in
theorem f_189_86 : xi 189 86 = some (.if_icmp .lt 16, 0, 0) := rfl
set_option maxRecDepth 1000000 in
theorem f_189_92 : xi 189 92 = some (.getfield 31, 66, 948) := rfl
set_option maxRecDepth 1000000 in
theorem f_189_96 : xi 189 96 = some (.iaload, 0, 0) := rfl
set_option maxRecDepth 1000000 in
theorem f_189_99 : xi 189 99 = some (.if_icmp .le 6, 0, 0) := rfl
set_option maxRecDepth 1000000 in
theorem f_189_104 : xi 189 104 = some (.ireturn, 0, 0) := rfl
set_option maxRecDepth 1000000 in
theorem f_189_118 : xi 189 118 = some (.getfield 34, 67, 949) := rfl
set_option maxRecDepth 1000000 in
theorem f_189_123 : xi 189 123 = some (.iaload, 0, 0) := rfl
set_option maxRecDepth 1000000 in
theorem f_189_125 : xi 189 125 = some (.getfield 34, 67, 949) := rfl
set_option maxRecDepth 1000000 in
theorem f_189_132 : xi 189 132 = some (.iaload, 0, 0) := rfl
set_option maxRecDepth 1000000 in
theorem f_189_134 : xi 189 134 = some (.getfield 34, 67, 949) := rfl
set_option maxRecDepth 1000000 in
theorem f_189_141 : xi 189 141 = some (.iaload, 0, 0) := rfl
set_option maxRecDepth 1000000 in
theorem f_189_143 : xi 189 143 = some (.getfield 34, 67, 949) := rfl
set_option maxRecDepth 1000000 in
theorem f_189_150 : xi 189 150 = some (.iaload, 0, 0) := rfl
set_option maxRecDepth 1000000 in
theorem f_189_151 : xi 189 151 = some (.invokevirtual 274, 136, 1309) := rfl
set_option maxRecDepth 1000000 in
theorem f_189_154 : xi 189 154 = some (.ifCond .lt 7, 0, 0) := rfl
set_option maxRecDepth 1000000 in
theorem f_189_173 : xi 189 173 = some (.ireturn, 0, 0) := rfl
theorem m_190 : xme 190 = some xe_190 := rfl
theorem f_190_1 : xi 190 1 = some (.ifCond .eq 28, 0, 0) := rfl
theorem f_190_6 : xi 190 6 = some (.if_icmp .eq 23, 0, 0) := rfl
theorem f_190_11 : xi 190 11 = some (.if_icmp .ne 8, 0, 0) := rfl
theorem f_190_16 : xi 190 16 = some (.if_icmp .eq 13, 0, 0) := rfl
theorem f_190_21 : xi 190 21 = some (.if_icmp .ne 12, 0, 0) := rfl
theorem f_190_26 : xi 190 26 = some (.if_icmp .ne 7, 0, 0) := rfl
theorem f_190_34 : xi 190 34 = some (.ireturn, 0, 0) := rfl
theorem m_191 : xme 191 = some xe_191 := rfl
theorem f_191_4 : xi 191 4 = some (.invokestatic 75, 112, 891) := rfl
theorem f_191_7 : xi 191 7 = some (.ifCond .ne 6, 0, 0) := rfl
theorem f_191_12 : xi 191 12 = some (.ireturn, 0, 0) := rfl
theorem f_191_17 : xi 191 17 = some (.invokestatic 75, 112, 891) := rfl
theorem f_191_20 : xi 191 20 = some (.ifCond .ne 6, 0, 0) := rfl
theorem f_191_25 : xi 191 25 = some (.ireturn, 0, 0) := rfl
theorem f_191_29 : xi 191 29 = some (.if_icmp .ge 44, 0, 0) := rfl
theorem f_191_34 : xi 191 34 = some (.getfield 72, 48, 930) := rfl
theorem f_191_37 : xi 191 37 = some (.if_icmp .lt 8, 0, 0) := rfl
theorem f_191_48 : xi 191 48 = some (.if_icmp .ge 22, 0, 0) := rfl
theorem f_191_52 : xi 191 52 = some (.getfield 7, 49, 931) := rfl
theorem f_191_58 : xi 191 58 = some (.iaload, 0, 0) := rfl
theorem f_191_60 : xi 191 60 = some (.invokestatic 278, 190, 1314) := rfl
theorem f_191_63 : xi 191 63 = some (.ifCond .eq 7, 0, 0) := rfl
theorem f_191_72 : xi 191 72 = some (.ireturn, 0, 0) := rfl
set_option maxRecDepth 1000000 in
theorem f_191_80 : xi 191 80 = some (.getfield 82, 50, 932) := rfl
set_option maxRecDepth 1000000 in
theorem f_191_83 : xi 191 83 = some (.if_icmp .lt 8, 0, 0) := rfl
set_option maxRecDepth 1000000 in
theorem f_191_94 : xi 191 94 = some (.if_icmp .ne 27, 0, 0) := rfl
set_option maxRecDepth 1000000 in
theorem f_191_98 : xi 191 98 = some (.getfield 13, 51, 933) := rfl
set_option maxRecDepth 1000000 in
theorem f_191_106 : xi 191 106 = some (.iaload, 0, 0) := rfl
set_option maxRecDepth 1000000 in
theorem f_191_108 : xi 191 108 = some (.getfield 13, 51, 933) := rfl
set_option maxRecDepth 1000000 in
theorem f_191_116 : xi 191 116 = some (.iaload, 0, 0) := rfl
set_option maxRecDepth 1000000 in
theorem f_191_123 : xi 191 123 = some (.ireturn, 0, 0) := rfl
theorem m_192 : xme 192 = some xe_192 := rfl
theorem f_192_1 : xi 192 1 = some (.getfield 9, 900, 1317) := rfl
theorem f_192_4 : xi 192 4 = some (.arraylength, 0, 0) := rfl
theorem f_192_6 : xi 192 6 = some (.invokevirtual 335, 196, 292) := rfl
theorem f_192_10 : xi 192 10 = some (.ireturn, 0, 0) := rfl
theorem m_193 : xme 193 = some xe_193 := rfl
theorem f_193_1 : xi 193 1 = some (.invokevirtual 492, 197, 302) := rfl
theorem f_193_4 : xi 193 4 = some (.ifCond .eq 12, 0, 0) := rfl
theorem f_193_8 : xi 193 8 = some (.getfield 9, 900, 1317) := rfl
theorem f_193_12 : xi 193 12 = some (.invokestatic 495, 199, 306) := rfl
theorem f_193_15 : xi 193 15 = some (.ireturn, 0, 0) := rfl
theorem f_193_17 : xi 193 17 = some (.getfield 9, 900, 1317) := rfl
theorem f_193_21 : xi 193 21 = some (.invokestatic 498, 99999, 0) := rfl
theorem f_193_24 : xi 193 24 = some (.ireturn, 0, 0) := rfl
theorem m_194 : xme 194 = some xe_194 := rfl
theorem f_194_3 : xi 194 3 = some (.invokevirtual 633, 195, 383) := rfl
theorem f_194_6 : xi 194 6 = some (.ireturn, 0, 0) := rfl
theorem m_195 : xme 195 = some xe_195 := rfl
theorem f_195_1 : xi 195 1 = some (.invokevirtual 492, 197, 302) := rfl
theorem f_195_4 : xi 195 4 = some (.ifCond .eq 19, 0, 0) := rfl
theorem f_195_8 : xi 195 8 = some (.getfield 9, 900, 1317) := rfl
theorem f_195_14 : xi 195 14 = some (.invokevirtual 505, 192, 387) := rfl
theorem f_195_17 : xi 195 17 = some (.invokestatic 637, 201, 388) := rfl
theorem f_195_24 : xi 195 24 = some (.getfield 9, 900, 1317) := rfl
theorem f_195_30 : xi 195 30 = some (.invokevirtual 505, 192, 387) := rfl
theorem f_195_33 : xi 195 33 = some (.invokestatic 640, 99999, 0) := rfl
theorem f_195_36 : xi 195 36 = some (.ireturn, 0, 0) := rfl
theorem m_196 : xme 196 = some xe_196 := rfl
theorem f_196_3 : xi 196 3 = some (.ifCond .eq 10, 0, 0) := rfl
theorem f_196_7 : xi 196 7 = some (.getfield 15, 901, 1318) := rfl
theorem f_196_14 : xi 196 14 = some (.ireturn, 0, 0) := rfl
theorem m_197 : xme 197 = some xe_197 := rfl
theorem f_197_3 : xi 197 3 = some (.ifCond .eq 14, 0, 0) := rfl
theorem f_197_7 : xi 197 7 = some (.getfield 15, 901, 1318) := rfl
theorem f_197_10 : xi 197 10 = some (.ifCond .ne 7, 0, 0) := rfl
theorem f_197_18 : xi 197 18 = some (.ireturn, 0, 0) := rfl
theorem m_198 : xme 198 = some xe_198 := rfl
theorem f_198_5 : xi 198 5 = some (.invokestatic 1059, 203, 314) := rfl
theorem f_198_9 : xi 198 9 = some (.return_, 0, 0) := rfl
theorem m_199 : xme 199 = some xe_199 := rfl
theorem f_199_2 : xi 199 2 = some (.arraylength, 0, 0) := rfl
theorem f_199_3 : xi 199 3 = some (.invokestatic 9, 198, 309) := rfl
theorem f_199_14 : xi 199 14 = some (.ireturn, 0, 0) := rfl
theorem m_200 : xme 200 = some xe_200 := rfl
theorem f_200_1 : xi 200 1 = some (.ifCond .lt 14, 0, 0) := rfl
theorem f_200_8 : xi 200 8 = some (.if_icmp .gt 7, 0, 0) := rfl
theorem f_200_16 : xi 200 16 = some (.ireturn, 0, 0) := rfl
theorem m_201 : xme 201 = some xe_201 := rfl
theorem f_201_1 : xi 201 1 = some (.invokestatic 88, 200, 391) := rfl
theorem f_201_4 : xi 201 4 = some (.ifCond .ne 5, 0, 0) := rfl
theorem f_201_8 : xi 201 8 = some (.ireturn, 0, 0) := rfl
theorem f_201_11 : xi 201 11 = some (.invokestatic 92, 9997, 394) := rfl
theorem f_201_17 : xi 201 17 = some (.arraylength, 0, 0) := rfl
theorem f_201_18 : xi 201 18 = some (.invokestatic 38, 9998, 397) := rfl
theorem f_201_24 : xi 201 24 = some (.if_icmp .lt 5, 0, 0) := rfl
theorem f_201_28 : xi 201 28 = some (.ireturn, 0, 0) := rfl
theorem f_201_33 : xi 201 33 = some (.invokestatic 95, 202, 400) := rfl
theorem f_201_36 : xi 201 36 = some (.ireturn, 0, 0) := rfl
theorem m_202 : xme 202 = some xe_202 := rfl
theorem f_202_10 : xi 202 10 = some (.if_icmp .ge 21, 0, 0) := rfl
theorem f_202_19 : xi 202 19 = some (.if_icmp .ne 6, 0, 0) := rfl
theorem f_202_24 : xi 202 24 = some (.ireturn, 0, 0) := rfl
theorem f_202_32 : xi 202 32 = some (.ireturn, 0, 0) := rfl
theorem m_203 : xme 203 = some xe_203 := rfl
theorem f_203_1 : xi 203 1 = some (.ifCond .lt 8, 0, 0) := rfl
theorem f_203_6 : xi 203 6 = some (.if_icmp .lt 10, 0, 0) := rfl
theorem f_203_12 : xi 203 12 = some (.invokestatic 95, 99999, 0) := rfl
theorem f_203_17 : xi 203 17 = some (.ireturn, 0, 0) := rfl
theorem m_204 : xme 204 = some xe_204 := rfl
theorem f_204_3 : xi 204 3 = some (.arraylength, 0, 0) := rfl
theorem f_204_7 : xi 204 7 = some (.if_icmp .ge 13, 0, 0) := rfl
theorem f_204_13 : xi 204 13 = some (.iastore, 0, 0) := rfl
theorem f_204_20 : xi 204 20 = some (.return_, 0, 0) := rfl
theorem m_205 : xme 205 = some xe_205 := rfl
set_option maxRecDepth 1000000 in
theorem f_205_52 : xi 205 52 = some (.ireturn, 0, 0) := rfl
end
section
theorem c_within {S : XS} {M N : YM} {x lo hi : Int} (hx : -2147483648 ≤ x ∧ x < 2147483648) (hlo : -2147483648 ≤ lo ∧ lo < 2147483648) (hhi : -2147483648 ≤ hi ∧ hi < 2147483648) : rm S 0 90 [yi x, yi lo, yi hi] M N (fun r M' N' => ∃ v : Int, some (yi v) = r ∧ ((v = 1 ∧ lo ≤ x ∧ x ≤ hi) ∨ (v = 0 ∧ (x < lo ∨ hi < x))) ∧ M = M' ∧ N = N') := by
  refine ⟨xe_90, m_90, Nat.le_of_ble_eq_true rfl, ?_⟩
  refine r_run 2 (pc' := 2) (ls' := [some (yi x), some (yi lo), some (yi hi)]) (st' := [yi x, yi lo]) (M' := M) (N' := N) rfl ?_
  refine r_icmp_gt (pc := 2) f_90_2 (by omega) (by omega) (fun h2 => ?_) (fun h2 => ?_)
  · refine r_run 1 (pc' := 15) (ls' := [some (yi x), some (yi lo), some (yi hi)]) (st' := [yi 0]) (M' := M) (N' := N) rfl ?_
    refine r_zret m_90 rfl f_90_15 (by omega) ?_
    exact ⟨_, rfl, by omega, rfl, rfl⟩
  · refine r_run 2 (pc' := 7) (ls' := [some (yi x), some (yi lo), some (yi hi)]) (st' := [yi hi, yi x]) (M' := M) (N' := N) rfl ?_
    refine r_icmp_gt (pc := 7) f_90_7 (by omega) (by omega) (fun h7 => ?_) (fun h7 => ?_)
    · refine r_run 1 (pc' := 15) (ls' := [some (yi x), some (yi lo), some (yi hi)]) (st' := [yi 0]) (M' := M) (N' := N) rfl ?_
      refine r_zret m_90 rfl f_90_15 (by omega) ?_
      exact ⟨_, rfl, by omega, rfl, rfl⟩
    · refine r_run 2 (pc' := 15) (ls' := [some (yi x), some (yi lo), some (yi hi)]) (st' := [yi 1]) (M' := M) (N' := N) rfl ?_
      refine r_zret m_90 rfl f_90_15 (by omega) ?_
      exact ⟨_, rfl, by omega, rfl, rfl⟩
theorem m_in {S : XS} {M N : YM} {x lo hi : Int} (hx : -2147483648 ≤ x ∧ x < 2147483648) (hlo : -2147483648 ≤ lo ∧ lo < 2147483648) (hhi : -2147483648 ≤ hi ∧ hi < 2147483648) : rm S 0 112 [yi x, yi lo, yi hi] M N (fun r M' N' => ∃ v : Int, some (yi v) = r ∧ ((v = 1 ∧ lo ≤ x ∧ x ≤ hi) ∨ (v = 0 ∧ (x < lo ∨ hi < x))) ∧ M = M' ∧ N = N') := by
  refine ⟨xe_112, m_112, Nat.le_of_ble_eq_true rfl, ?_⟩
  refine r_run 2 (pc' := 2) (ls' := [some (yi x), some (yi lo), some (yi hi)]) (st' := [yi lo, yi x]) (M' := M) (N' := N) rfl ?_
  refine r_icmp_lt (pc := 2) f_112_2 (by omega) (by omega) (fun h2 => ?_) (fun h2 => ?_)
  · refine r_run 1 (pc' := 15) (ls' := [some (yi x), some (yi lo), some (yi hi)]) (st' := [yi 0]) (M' := M) (N' := N) rfl ?_
    refine r_zret m_112 rfl f_112_15 (by omega) ?_
    exact ⟨_, rfl, by omega, rfl, rfl⟩
  · refine r_run 2 (pc' := 7) (ls' := [some (yi x), some (yi lo), some (yi hi)]) (st' := [yi hi, yi x]) (M' := M) (N' := N) rfl ?_
    refine r_icmp_gt (pc := 7) f_112_7 (by omega) (by omega) (fun h7 => ?_) (fun h7 => ?_)
    · refine r_run 1 (pc' := 15) (ls' := [some (yi x), some (yi lo), some (yi hi)]) (st' := [yi 0]) (M' := M) (N' := N) rfl ?_
      refine r_zret m_112 rfl f_112_15 (by omega) ?_
      exact ⟨_, rfl, by omega, rfl, rfl⟩
    · refine r_run 2 (pc' := 15) (ls' := [some (yi x), some (yi lo), some (yi hi)]) (st' := [yi 1]) (M' := M) (N' := N) rfl ?_
      refine r_zret m_112 rfl f_112_15 (by omega) ?_
      exact ⟨_, rfl, by omega, rfl, rfl⟩
theorem m_within {S : XS} {M N : YM} {x lo hi : Int} (hx : -2147483648 ≤ x ∧ x < 2147483648) (hlo : -2147483648 ≤ lo ∧ lo < 2147483648) (hhi : -2147483648 ≤ hi ∧ hi < 2147483648) : rm S 0 113 [yi x, yi lo, yi hi] M N (fun r M' N' => ∃ v : Int, some (yi v) = r ∧ ((x < lo ∧ v = lo) ∨ (lo ≤ x ∧ hi < x ∧ v = hi) ∨ (lo ≤ x ∧ x ≤ hi ∧ v = x)) ∧ M = M' ∧ N = N') := by
  refine ⟨xe_113, m_113, Nat.le_of_ble_eq_true rfl, ?_⟩
  refine r_run 2 (pc' := 2) (ls' := [some (yi x), some (yi lo), some (yi hi)]) (st' := [yi lo, yi x]) (M' := M) (N' := N) rfl ?_
  refine r_icmp_ge (pc := 2) f_113_2 (by omega) (by omega) (fun h2 => ?_) (fun h2 => ?_)
  · refine r_run 2 (pc' := 11) (ls' := [some (yi x), some (yi lo), some (yi hi)]) (st' := [yi hi, yi x]) (M' := M) (N' := N) rfl ?_
    refine r_icmp_le (pc := 11) f_113_11 (by omega) (by omega) (fun h11 => ?_) (fun h11 => ?_)
    · refine r_run 1 (pc' := 19) (ls' := [some (yi x), some (yi lo), some (yi hi)]) (st' := [yi x]) (M' := M) (N' := N) rfl ?_
      refine r_iret m_113 rfl f_113_19 ?_
      exact ⟨_, rfl, by omega, rfl, rfl⟩
    · refine r_run 2 (pc' := 19) (ls' := [some (yi x), some (yi lo), some (yi hi)]) (st' := [yi hi]) (M' := M) (N' := N) rfl ?_
      refine r_iret m_113 rfl f_113_19 ?_
      exact ⟨_, rfl, by omega, rfl, rfl⟩
  · refine r_run 2 (pc' := 19) (ls' := [some (yi x), some (yi lo), some (yi hi)]) (st' := [yi lo]) (M' := M) (N' := N) rfl ?_
    refine r_iret m_113 rfl f_113_19 ?_
    exact ⟨_, rfl, by omega, rfl, rfl⟩
theorem c_isByte {S : XS} {M N : YM} {x : Int} (hx : -2147483648 ≤ x ∧ x < 2147483648) : rm S 1 91 [yi x] M N (fun r M' N' => ∃ v : Int, some (yi v) = r ∧ ((v = 1 ∧ 0 ≤ x ∧ x ≤ 255) ∨ (v = 0 ∧ (x < 0 ∨ 255 < x))) ∧ M = M' ∧ N = N') := by
  refine ⟨xe_91, m_91, Nat.le_of_ble_eq_true rfl, ?_⟩
  refine r_run 3 (pc' := 5) (ls' := [some (yi x)]) (st' := [yi 255, yi 0, yi x]) (M' := M) (N' := N) rfl ?_
  refine r_static (mj := 90) (as := [yi x, yi 0, yi 255]) (rest := []) f_91_5 (by decide) rfl m_90 rfl rfl rfl (Nat.le_of_ble_eq_true rfl) (by omega) (c_within (by omega) (by omega) (by omega)) ?_
  rintro _ _ _ ⟨v5, rfl, hv5, rfl, rfl⟩
  refine r_zret m_91 rfl f_91_8 (by omega) ?_
  exact ⟨_, rfl, by omega, rfl, rfl⟩
theorem c_isQ {S : XS} {M N : YM} {x : Int} (hx : -2147483648 ≤ x ∧ x < 2147483648) : rm S 1 92 [yi x] M N (fun r M' N' => ∃ v : Int, some (yi v) = r ∧ ((v = 1 ∧ 0 ≤ x ∧ x ≤ 5) ∨ (v = 0 ∧ (x < 0 ∨ 5 < x))) ∧ M = M' ∧ N = N') := by
  refine ⟨xe_92, m_92, Nat.le_of_ble_eq_true rfl, ?_⟩
  refine r_run 3 (pc' := 3) (ls' := [some (yi x)]) (st' := [yi 5, yi 0, yi x]) (M' := M) (N' := N) rfl ?_
  refine r_static (mj := 90) (as := [yi x, yi 0, yi 5]) (rest := []) f_92_3 (by decide) rfl m_90 rfl rfl rfl (Nat.le_of_ble_eq_true rfl) (by omega) (c_within (by omega) (by omega) (by omega)) ?_
  rintro _ _ _ ⟨v3, rfl, hv3, rfl, rfl⟩
  refine r_zret m_92 rfl f_92_6 (by omega) ?_
  exact ⟨_, rfl, by omega, rfl, rfl⟩
theorem c_isSheet {S : XS} {M N : YM} {x : Int} (hx : -2147483648 ≤ x ∧ x < 2147483648) : rm S 1 93 [yi x] M N (fun r M' N' => ∃ v : Int, some (yi v) = r ∧ ((v = 1 ∧ 0 ≤ x ∧ x ≤ 3) ∨ (v = 0 ∧ (x < 0 ∨ 3 < x))) ∧ M = M' ∧ N = N') := by
  refine ⟨xe_93, m_93, Nat.le_of_ble_eq_true rfl, ?_⟩
  refine r_run 3 (pc' := 3) (ls' := [some (yi x)]) (st' := [yi 3, yi 0, yi x]) (M' := M) (N' := N) rfl ?_
  refine r_static (mj := 90) (as := [yi x, yi 0, yi 3]) (rest := []) f_93_3 (by decide) rfl m_90 rfl rfl rfl (Nat.le_of_ble_eq_true rfl) (by omega) (c_within (by omega) (by omega) (by omega)) ?_
  rintro _ _ _ ⟨v3, rfl, hv3, rfl, rfl⟩
  refine r_zret m_93 rfl f_93_6 (by omega) ?_
  exact ⟨_, rfl, by omega, rfl, rfl⟩
theorem m_isOne {S : XS} {M N : YM} {x : Int} (hx : -2147483648 ≤ x ∧ x < 2147483648) : rm S 1 115 [yi x] M N (fun r M' N' => ∃ v : Int, some (yi v) = r ∧ ((v = 1 ∧ 0 ≤ x ∧ x ≤ 5) ∨ (v = 0 ∧ (x < 0 ∨ 5 < x))) ∧ M = M' ∧ N = N') := by
  refine ⟨xe_115, m_115, Nat.le_of_ble_eq_true rfl, ?_⟩
  refine r_run 3 (pc' := 3) (ls' := [some (yi x)]) (st' := [yi 5, yi 0, yi x]) (M' := M) (N' := N) rfl ?_
  refine r_static (mj := 112) (as := [yi x, yi 0, yi 5]) (rest := []) f_115_3 (by decide) rfl m_112 rfl rfl rfl (Nat.le_of_ble_eq_true rfl) (by omega) (m_in (by omega) (by omega) (by omega)) ?_
  rintro _ _ _ ⟨v3, rfl, hv3, rfl, rfl⟩
  refine r_zret m_115 rfl f_115_6 (by omega) ?_
  exact ⟨_, rfl, by omega, rfl, rfl⟩
theorem m_isByte {S : XS} {M N : YM} {x : Int} (hx : -2147483648 ≤ x ∧ x < 2147483648) : rm S 1 120 [yi x] M N (fun r M' N' => ∃ v : Int, some (yi v) = r ∧ ((v = 1 ∧ 0 ≤ x ∧ x ≤ 255) ∨ (v = 0 ∧ (x < 0 ∨ 255 < x))) ∧ M = M' ∧ N = N') := by
  refine ⟨xe_120, m_120, Nat.le_of_ble_eq_true rfl, ?_⟩
  refine r_run 3 (pc' := 5) (ls' := [some (yi x)]) (st' := [yi 255, yi 0, yi x]) (M' := M) (N' := N) rfl ?_
  refine r_static (mj := 112) (as := [yi x, yi 0, yi 255]) (rest := []) f_120_5 (by decide) rfl m_112 rfl rfl rfl (Nat.le_of_ble_eq_true rfl) (by omega) (m_in (by omega) (by omega) (by omega)) ?_
  rintro _ _ _ ⟨v5, rfl, hv5, rfl, rfl⟩
  refine r_zret m_120 rfl f_120_8 (by omega) ?_
  exact ⟨_, rfl, by omega, rfl, rfl⟩
theorem c_isText {S : XS} {M N : YM} {x : Int} (hx : -2147483648 ≤ x ∧ x < 2147483648) (hc : 0 ≤ M 0 5 ∧ M 0 5 ≤ 10) : rm S 1 94 [yr 0, yi x] M N (fun r M' N' => ∃ v : Int, some (yi v) = r ∧ ((v = 1 ∧ 0 ≤ x ∧ x ≤ M 0 5 - 1) ∨ (v = 0 ∧ (x < 0 ∨ M 0 5 - 1 < x))) ∧ M = M' ∧ N = N') := by
  refine ⟨xe_94, m_94, Nat.le_of_ble_eq_true rfl, ?_⟩
  refine r_run 6 (pc' := 8) (ls' := [some (yr 0), some (yi x)]) (st' := [yi ((M 0 5) - 1), yi 0, yi x]) (M' := M) (N' := N) rfl ?_
  refine r_static (mj := 90) (as := [yi x, yi 0, yi ((M 0 5) - 1)]) (rest := []) f_94_8 (by decide) rfl m_90 rfl rfl rfl (Nat.le_of_ble_eq_true rfl) (by omega) (c_within (by omega) (by omega) (by omega)) ?_
  rintro _ _ _ ⟨v8, rfl, hv8, rfl, rfl⟩
  refine r_zret m_94 rfl f_94_11 (by omega) ?_
  exact ⟨_, rfl, by omega, rfl, rfl⟩
theorem c_isSaying {S : XS} {M N : YM} {x : Int} (hx : -2147483648 ≤ x ∧ x < 2147483648) (hc : 0 ≤ M 1 1 ∧ M 1 1 ≤ 10) : rm S 1 95 [yr 0, yi x] M N (fun r M' N' => ∃ v : Int, some (yi v) = r ∧ ((v = 1 ∧ 0 ≤ x ∧ x ≤ M 1 1 - 1) ∨ (v = 0 ∧ (x < 0 ∨ M 1 1 - 1 < x))) ∧ M = M' ∧ N = N') := by
  refine ⟨xe_95, m_95, Nat.le_of_ble_eq_true rfl, ?_⟩
  refine r_run 7 (pc' := 11) (ls' := [some (yr 0), some (yi x)]) (st' := [yi ((M 1 1) - 1), yi 0, yi x]) (M' := M) (N' := N) rfl ?_
  refine r_static (mj := 90) (as := [yi x, yi 0, yi ((M 1 1) - 1)]) (rest := []) f_95_11 (by decide) rfl m_90 rfl rfl rfl (Nat.le_of_ble_eq_true rfl) (by omega) (c_within (by omega) (by omega) (by omega)) ?_
  rintro _ _ _ ⟨v11, rfl, hv11, rfl, rfl⟩
  refine r_zret m_95 rfl f_95_14 (by omega) ?_
  exact ⟨_, rfl, by omega, rfl, rfl⟩
theorem m_isOfTexts {S : XS} {M N : YM} {x : Int} (hx : -2147483648 ≤ x ∧ x < 2147483648) (hc : 0 ≤ M 75 9 ∧ M 75 9 ≤ 10) : rm S 1 116 [yr 75, yi x] M N (fun r M' N' => ∃ v : Int, some (yi v) = r ∧ ((v = 1 ∧ 0 ≤ x ∧ x ≤ M 75 9 - 1) ∨ (v = 0 ∧ (x < 0 ∨ M 75 9 - 1 < x))) ∧ M = M' ∧ N = N') := by
  refine ⟨xe_116, m_116, Nat.le_of_ble_eq_true rfl, ?_⟩
  refine r_run 6 (pc' := 8) (ls' := [some (yr 75), some (yi x)]) (st' := [yi ((M 75 9) - 1), yi 0, yi x]) (M' := M) (N' := N) rfl ?_
  refine r_static (mj := 112) (as := [yi x, yi 0, yi ((M 75 9) - 1)]) (rest := []) f_116_8 (by decide) rfl m_112 rfl rfl rfl (Nat.le_of_ble_eq_true rfl) (by omega) (m_in (by omega) (by omega) (by omega)) ?_
  rintro _ _ _ ⟨v8, rfl, hv8, rfl, rfl⟩
  refine r_zret m_116 rfl f_116_11 (by omega) ?_
  exact ⟨_, rfl, by omega, rfl, rfl⟩
theorem m_isSaying {S : XS} {M N : YM} {x : Int} (hx : -2147483648 ≤ x ∧ x < 2147483648) (hc : 0 ≤ M 75 0 ∧ M 75 0 ≤ 10) : rm S 1 114 [yr 75, yi x] M N (fun r M' N' => ∃ v : Int, some (yi v) = r ∧ ((v = 1 ∧ 0 ≤ x ∧ x ≤ M 75 0 - 1) ∨ (v = 0 ∧ (x < 0 ∨ M 75 0 - 1 < x))) ∧ M = M' ∧ N = N') := by
  refine ⟨xe_114, m_114, Nat.le_of_ble_eq_true rfl, ?_⟩
  refine r_run 6 (pc' := 8) (ls' := [some (yr 75), some (yi x)]) (st' := [yi ((M 75 0) - 1), yi 0, yi x]) (M' := M) (N' := N) rfl ?_
  refine r_static (mj := 112) (as := [yi x, yi 0, yi ((M 75 0) - 1)]) (rest := []) f_114_8 (by decide) rfl m_112 rfl rfl rfl (Nat.le_of_ble_eq_true rfl) (by omega) (m_in (by omega) (by omega) (by omega)) ?_
  rintro _ _ _ ⟨v8, rfl, hv8, rfl, rfl⟩
  refine r_zret m_114 rfl f_114_11 (by omega) ?_
  exact ⟨_, rfl, by omega, rfl, rfl⟩
theorem c_count {S : XS} {M N : YM} {x : Int} (hx : -2147483648 ≤ x ∧ x < 2147483648) : rm S 0 52 [yr 0, yi x] M N (fun r M' N' => ∃ v : Int, some (yi v) = r ∧ ((x = 0 ∧ v = M 1 1) ∨ (x = 1 ∧ v = M 1 2) ∨ (x = 2 ∧ v = M 1 3) ∨ (x = 3 ∧ v = M 0 5) ∨ (x = 4 ∧ v = M 1 4) ∨ (x = 5 ∧ v = M 27 1) ∨ ((x < 0 ∨ 5 < x) ∧ v = -2)) ∧ M = M' ∧ N = N') := by
  refine ⟨xe_52, m_52, Nat.le_of_ble_eq_true rfl, ?_⟩
  refine r_run 1 (pc' := 1) (ls' := [some (yr 0), some (yi x)]) (st' := [yi x]) (M' := M) (N' := N) rfl ?_
  rcases (show (x < 0 ∨ 5 < x) ∨ x = 0 ∨ x = 1 ∨ x = 2 ∨ x = 3 ∨ x = 4 ∨ x = 5 by omega) with h1 | h1 | h1 | h1 | h1 | h1 | h1
  · refine r_sw_out (pc := 1) f_52_1 (by omega) h1 ?_
    refine r_run 1 (pc' := 87) (ls' := [some (yr 0), some (yi x)]) (st' := [yi (-2)]) (M' := M) (N' := N) rfl ?_
    refine r_iret m_52 rfl f_52_87 ?_
    exact ⟨_, rfl, by omega, rfl, rfl⟩
  · refine r_sw_in (pc := 1) 0 f_52_1 (by omega) (by omega) (by omega) rfl ?_
    refine r_run 3 (pc' := 47) (ls' := [some (yr 0), some (yi x)]) (st' := [yi (M 1 1)]) (M' := M) (N' := N) rfl ?_
    refine r_iret m_52 rfl f_52_47 ?_
    exact ⟨_, rfl, by omega, rfl, rfl⟩
  · refine r_sw_in (pc := 1) 1 f_52_1 (by omega) (by omega) (by omega) rfl ?_
    refine r_run 3 (pc' := 55) (ls' := [some (yr 0), some (yi x)]) (st' := [yi (M 1 2)]) (M' := M) (N' := N) rfl ?_
    refine r_iret m_52 rfl f_52_55 ?_
    exact ⟨_, rfl, by omega, rfl, rfl⟩
  · refine r_sw_in (pc := 1) 2 f_52_1 (by omega) (by omega) (by omega) rfl ?_
    refine r_run 3 (pc' := 63) (ls' := [some (yr 0), some (yi x)]) (st' := [yi (M 1 3)]) (M' := M) (N' := N) rfl ?_
    refine r_iret m_52 rfl f_52_63 ?_
    exact ⟨_, rfl, by omega, rfl, rfl⟩
  · refine r_sw_in (pc := 1) 3 f_52_1 (by omega) (by omega) (by omega) rfl ?_
    refine r_run 2 (pc' := 68) (ls' := [some (yr 0), some (yi x)]) (st' := [yi (M 0 5)]) (M' := M) (N' := N) rfl ?_
    refine r_iret m_52 rfl f_52_68 ?_
    exact ⟨_, rfl, by omega, rfl, rfl⟩
  · refine r_sw_in (pc := 1) 4 f_52_1 (by omega) (by omega) (by omega) rfl ?_
    refine r_run 3 (pc' := 76) (ls' := [some (yr 0), some (yi x)]) (st' := [yi (M 1 4)]) (M' := M) (N' := N) rfl ?_
    refine r_iret m_52 rfl f_52_76 ?_
    exact ⟨_, rfl, by omega, rfl, rfl⟩
  · refine r_sw_in (pc := 1) 5 f_52_1 (by omega) (by omega) (by omega) rfl ?_
    refine r_run 3 (pc' := 84) (ls' := [some (yr 0), some (yi x)]) (st' := [yi (M 27 1)]) (M' := M) (N' := N) rfl ?_
    refine r_iret m_52 rfl f_52_84 ?_
    exact ⟨_, rfl, by omega, rfl, rfl⟩
theorem m_count {S : XS} {M N : YM} {x : Int} (hx : -2147483648 ≤ x ∧ x < 2147483648) : rm S 0 118 [yr 75, yi x] M N (fun r M' N' => ∃ v : Int, some (yi v) = r ∧ ((x = 0 ∧ v = M 75 0) ∨ (x = 1 ∧ v = M 75 2) ∨ (x = 2 ∧ v = M 75 4) ∨ (x = 3 ∧ v = M 75 9) ∨ (x = 4 ∧ v = M 75 10) ∨ (x = 5 ∧ v = M 75 6) ∨ ((x < 0 ∨ 5 < x) ∧ v = -2)) ∧ M = M' ∧ N = N') := by
  refine ⟨xe_118, m_118, Nat.le_of_ble_eq_true rfl, ?_⟩
  refine r_run 1 (pc' := 1) (ls' := [some (yr 75), some (yi x)]) (st' := [yi x]) (M' := M) (N' := N) rfl ?_
  rcases (show (x < 0 ∨ 5 < x) ∨ x = 0 ∨ x = 1 ∨ x = 2 ∨ x = 3 ∨ x = 4 ∨ x = 5 by omega) with h1 | h1 | h1 | h1 | h1 | h1 | h1
  · refine r_sw_out (pc := 1) f_118_1 (by omega) h1 ?_
    refine r_run 1 (pc' := 72) (ls' := [some (yr 75), some (yi x)]) (st' := [yi (-2)]) (M' := M) (N' := N) rfl ?_
    refine r_iret m_118 rfl f_118_72 ?_
    exact ⟨_, rfl, by omega, rfl, rfl⟩
  · refine r_sw_in (pc := 1) 0 f_118_1 (by omega) (by omega) (by omega) rfl ?_
    refine r_run 2 (pc' := 44) (ls' := [some (yr 75), some (yi x)]) (st' := [yi (M 75 0)]) (M' := M) (N' := N) rfl ?_
    refine r_iret m_118 rfl f_118_44 ?_
    exact ⟨_, rfl, by omega, rfl, rfl⟩
  · refine r_sw_in (pc := 1) 1 f_118_1 (by omega) (by omega) (by omega) rfl ?_
    refine r_run 2 (pc' := 49) (ls' := [some (yr 75), some (yi x)]) (st' := [yi (M 75 2)]) (M' := M) (N' := N) rfl ?_
    refine r_iret m_118 rfl f_118_49 ?_
    exact ⟨_, rfl, by omega, rfl, rfl⟩
  · refine r_sw_in (pc := 1) 2 f_118_1 (by omega) (by omega) (by omega) rfl ?_
    refine r_run 2 (pc' := 54) (ls' := [some (yr 75), some (yi x)]) (st' := [yi (M 75 4)]) (M' := M) (N' := N) rfl ?_
    refine r_iret m_118 rfl f_118_54 ?_
    exact ⟨_, rfl, by omega, rfl, rfl⟩
  · refine r_sw_in (pc := 1) 3 f_118_1 (by omega) (by omega) (by omega) rfl ?_
    refine r_run 2 (pc' := 59) (ls' := [some (yr 75), some (yi x)]) (st' := [yi (M 75 9)]) (M' := M) (N' := N) rfl ?_
    refine r_iret m_118 rfl f_118_59 ?_
    exact ⟨_, rfl, by omega, rfl, rfl⟩
  · refine r_sw_in (pc := 1) 4 f_118_1 (by omega) (by omega) (by omega) rfl ?_
    refine r_run 2 (pc' := 64) (ls' := [some (yr 75), some (yi x)]) (st' := [yi (M 75 10)]) (M' := M) (N' := N) rfl ?_
    refine r_iret m_118 rfl f_118_64 ?_
    exact ⟨_, rfl, by omega, rfl, rfl⟩
  · refine r_sw_in (pc := 1) 5 f_118_1 (by omega) (by omega) (by omega) rfl ?_
    refine r_run 2 (pc' := 69) (ls' := [some (yr 75), some (yi x)]) (st' := [yi (M 75 6)]) (M' := M) (N' := N) rfl ?_
    refine r_iret m_118 rfl f_118_69 ?_
    exact ⟨_, rfl, by omega, rfl, rfl⟩
theorem c_set {S : XS} {M N : YM} {x : Int} (hx : -2147483648 ≤ x ∧ x < 2147483648) : rm S 2 53 [yr 0, yi x] M N (fun r M' N' => ∃ v : Int, some (yi v) = r ∧ ((0 ≤ x ∧ x ≤ 99 ∧ v = M 1 3 ∧ yu M 1 3 x = M') ∨ ((x < 0 ∨ 99 < x) ∧ v = -2 ∧ M = M')) ∧ N = N') := by
  refine ⟨xe_53, m_53, Nat.le_of_ble_eq_true rfl, ?_⟩
  refine r_run 3 (pc' := 4) (ls' := [some (yr 0), some (yi x), none]) (st' := [yi 99, yi 0, yi x]) (M' := M) (N' := N) rfl ?_
  refine r_static (mj := 90) (as := [yi x, yi 0, yi 99]) (rest := []) f_53_4 (by decide) rfl m_90 rfl rfl rfl (Nat.le_of_ble_eq_true rfl) (by omega) (c_within (by omega) (by omega) (by omega)) ?_
  rintro _ _ _ ⟨v4, rfl, hv4, rfl, rfl⟩
  refine r_if_ne (pc := 7) f_53_7 (by omega) (fun h7 => ?_) (fun h7 => ?_)
  · refine r_run 9 (pc' := 30) (ls' := [some (yr 0), some (yi x), some (yi (M 1 3))]) (st' := [yi (M 1 3)]) (M' := (yu M 1 3 x)) (N' := N) rfl ?_
    refine r_iret m_53 rfl f_53_30 ?_
    exact ⟨_, rfl, Or.inl ⟨by omega, by omega, rfl, rfl⟩, rfl⟩
  · refine r_run 1 (pc' := 12) (ls' := [some (yr 0), some (yi x), none]) (st' := [yi (-2)]) (M' := M) (N' := N) rfl ?_
    refine r_iret m_53 rfl f_53_12 ?_
    exact ⟨_, rfl, Or.inr ⟨by omega, rfl, rfl⟩, rfl⟩
theorem m_set {S : XS} {M N : YM} {x : Int} (hx : -2147483648 ≤ x ∧ x < 2147483648) : rm S 2 119 [yr 75, yi x] M N (fun r M' N' => ∃ v : Int, some (yi v) = r ∧ ((0 ≤ x ∧ x ≤ 99 ∧ v = M 75 4 ∧ yu M 75 4 x = M') ∨ ((x < 0 ∨ 99 < x) ∧ v = -2 ∧ M = M')) ∧ N = N') := by
  refine ⟨xe_119, m_119, Nat.le_of_ble_eq_true rfl, ?_⟩
  refine r_run 3 (pc' := 4) (ls' := [some (yr 75), some (yi x), none]) (st' := [yi 99, yi 0, yi x]) (M' := M) (N' := N) rfl ?_
  refine r_static (mj := 112) (as := [yi x, yi 0, yi 99]) (rest := []) f_119_4 (by decide) rfl m_112 rfl rfl rfl (Nat.le_of_ble_eq_true rfl) (by omega) (m_in (by omega) (by omega) (by omega)) ?_
  rintro _ _ _ ⟨v4, rfl, hv4, rfl, rfl⟩
  refine r_if_ne (pc := 7) f_119_7 (by omega) (fun h7 => ?_) (fun h7 => ?_)
  · refine r_run 7 (pc' := 24) (ls' := [some (yr 75), some (yi x), some (yi (M 75 4))]) (st' := [yi (M 75 4)]) (M' := (yu M 75 4 x)) (N' := N) rfl ?_
    refine r_iret m_119 rfl f_119_24 ?_
    exact ⟨_, rfl, Or.inl ⟨by omega, by omega, rfl, rfl⟩, rfl⟩
  · refine r_run 1 (pc' := 12) (ls' := [some (yr 75), some (yi x), none]) (st' := [yi (-2)]) (M' := M) (N' := N) rfl ?_
    refine r_iret m_119 rfl f_119_12 ?_
    exact ⟨_, rfl, Or.inr ⟨by omega, rfl, rfl⟩, rfl⟩
theorem c_force {S : XS} {M N : YM} {x : Int} (hx : -2147483648 ≤ x ∧ x < 2147483648) (hc : 0 ≤ M 0 5 ∧ M 0 5 ≤ 10) : rm S 2 56 [yr 0, yi x] M N (fun r M' N' => ∃ v : Int, some (yi v) = r ∧ ((0 ≤ x ∧ x < M 0 5 ∧ v = M 1 4 ∧ yu M 1 4 x = M') ∨ ((x < 0 ∨ M 0 5 ≤ x) ∧ v = -2 ∧ M = M')) ∧ N = N') := by
  refine ⟨xe_56, m_56, Nat.le_of_ble_eq_true rfl, ?_⟩
  refine r_run 2 (pc' := 2) (ls' := [some (yr 0), some (yi x), none]) (st' := [yi x, yr 0]) (M' := M) (N' := N) rfl ?_
  refine r_virtual (mj := 94) (b := 0) (as := [yi x]) (rest := []) f_56_2 (by decide) rfl m_94 (by decide) (by decide) (by decide) rfl rfl (Nat.le_of_ble_eq_true rfl) (by omega) (c_isText (by omega) (by omega)) ?_
  rintro _ _ _ ⟨v2, rfl, hv2, rfl, rfl⟩
  refine r_if_ne (pc := 5) f_56_5 (by omega) (fun h5 => ?_) (fun h5 => ?_)
  · refine r_run 9 (pc' := 28) (ls' := [some (yr 0), some (yi x), some (yi (M 1 4))]) (st' := [yi (M 1 4)]) (M' := (yu M 1 4 x)) (N' := N) rfl ?_
    refine r_iret m_56 rfl f_56_28 ?_
    exact ⟨_, rfl, Or.inl ⟨by omega, by omega, rfl, rfl⟩, rfl⟩
  · refine r_run 1 (pc' := 10) (ls' := [some (yr 0), some (yi x), none]) (st' := [yi (-2)]) (M' := M) (N' := N) rfl ?_
    refine r_iret m_56 rfl f_56_10 ?_
    exact ⟨_, rfl, Or.inr ⟨by omega, rfl, rfl⟩, rfl⟩
theorem m_force {S : XS} {M N : YM} {x : Int} (hx : -2147483648 ≤ x ∧ x < 2147483648) (hc : 0 ≤ M 75 9 ∧ M 75 9 ≤ 10) : rm S 2 135 [yr 75, yi x] M N (fun r M' N' => ∃ v : Int, some (yi v) = r ∧ ((0 ≤ x ∧ x < M 75 9 ∧ v = M 75 10 ∧ yu M 75 10 x = M') ∨ ((x < 0 ∨ M 75 9 ≤ x) ∧ v = -2 ∧ M = M')) ∧ N = N') := by
  refine ⟨xe_135, m_135, Nat.le_of_ble_eq_true rfl, ?_⟩
  refine r_run 6 (pc' := 8) (ls' := [some (yr 75), some (yi x), none]) (st' := [yi ((M 75 9) - 1), yi 0, yi x]) (M' := M) (N' := N) rfl ?_
  refine r_static (mj := 112) (as := [yi x, yi 0, yi ((M 75 9) - 1)]) (rest := []) f_135_8 (by decide) rfl m_112 rfl rfl rfl (Nat.le_of_ble_eq_true rfl) (by omega) (m_in (by omega) (by omega) (by omega)) ?_
  rintro _ _ _ ⟨v8, rfl, hv8, rfl, rfl⟩
  refine r_if_ne (pc := 11) f_135_11 (by omega) (fun h11 => ?_) (fun h11 => ?_)
  · refine r_run 7 (pc' := 28) (ls' := [some (yr 75), some (yi x), some (yi (M 75 10))]) (st' := [yi (M 75 10)]) (M' := (yu M 75 10 x)) (N' := N) rfl ?_
    refine r_iret m_135 rfl f_135_28 ?_
    exact ⟨_, rfl, Or.inl ⟨by omega, by omega, rfl, rfl⟩, rfl⟩
  · refine r_run 1 (pc' := 16) (ls' := [some (yr 75), some (yi x), none]) (st' := [yi (-2)]) (M' := M) (N' := N) rfl ?_
    refine r_iret m_135 rfl f_135_16 ?_
    exact ⟨_, rfl, Or.inr ⟨by omega, rfl, rfl⟩, rfl⟩
theorem c_unsay {S : XS} {M N : YM} (hc : 0 ≤ M 1 1 ∧ M 1 1 ≤ 10) : rm S 0 58 [yr 0] M N (fun r M' N' => ∃ v : Int, some (yi v) = r ∧ ((0 < M 1 1 ∧ v = M 1 1 - 1 ∧ yu M 1 1 (M 1 1 - 1) = M') ∨ (M 1 1 = 0 ∧ v = -3 ∧ M = M')) ∧ N = N') := by
  refine ⟨xe_58, m_58, Nat.le_of_ble_eq_true rfl, ?_⟩
  refine r_run 3 (pc' := 7) (ls' := [some (yr 0)]) (st' := [yi (M 1 1)]) (M' := M) (N' := N) rfl ?_
  refine r_if_ne (pc := 7) f_58_7 (by omega) (fun h7 => ?_) (fun h7 => ?_)
  · refine r_run 10 (pc' := 33) (ls' := [some (yr 0)]) (st' := [yi ((M 1 1) - 1)]) (M' := (yu M 1 1 ((M 1 1) - 1))) (N' := N) rfl ?_
    refine r_iret m_58 rfl f_58_33 ?_
    exact ⟨_, rfl, Or.inl ⟨by omega, rfl, rfl⟩, rfl⟩
  · refine r_run 1 (pc' := 12) (ls' := [some (yr 0)]) (st' := [yi (-3)]) (M' := M) (N' := N) rfl ?_
    refine r_iret m_58 rfl f_58_12 ?_
    exact ⟨_, rfl, Or.inr ⟨by omega, rfl, rfl⟩, rfl⟩
theorem m_unsay {S : XS} {M N : YM} (hc : 0 ≤ M 75 0 ∧ M 75 0 ≤ 10) : rm S 0 137 [yr 75] M N (fun r M' N' => ∃ v : Int, some (yi v) = r ∧ ((0 < M 75 0 ∧ v = M 75 0 - 1 ∧ yu M 75 0 (M 75 0 - 1) = M') ∨ (M 75 0 = 0 ∧ v = -3 ∧ M = M')) ∧ N = N') := by
  refine ⟨xe_137, m_137, Nat.le_of_ble_eq_true rfl, ?_⟩
  refine r_run 2 (pc' := 4) (ls' := [some (yr 75)]) (st' := [yi (M 75 0)]) (M' := M) (N' := N) rfl ?_
  refine r_if_ne (pc := 4) f_137_4 (by omega) (fun h4 => ?_) (fun h4 => ?_)
  · refine r_run 8 (pc' := 24) (ls' := [some (yr 75)]) (st' := [yi ((M 75 0) - 1)]) (M' := (yu M 75 0 ((M 75 0) - 1))) (N' := N) rfl ?_
    refine r_iret m_137 rfl f_137_24 ?_
    exact ⟨_, rfl, Or.inl ⟨by omega, rfl, rfl⟩, rfl⟩
  · refine r_run 1 (pc' := 9) (ls' := [some (yr 75)]) (st' := [yi (-3)]) (M' := M) (N' := N) rfl ?_
    refine r_iret m_137 rfl f_137_9 ?_
    exact ⟨_, rfl, Or.inr ⟨by omega, rfl, rfl⟩, rfl⟩
theorem c_sbecomes {S : XS} {M N : YM} {b : Int} (hb : 0 ≤ b ∧ b < 94) (hk : yk b = (202, 5)) {km o lo hi : Int} (hkm : 0 ≤ km ∧ km < 60) : rm S 0 22 [yr b, yi km, yi o, yi lo, yi hi] M N (fun r M' N' => none = r ∧ yu (yu (yu (yu (yu M b 0 (km / 10)) b 1 (km % 10)) b 2 o) b 3 lo) b 4 hi = M' ∧ N = N') := by
  refine ⟨xe_22, m_22, Nat.le_of_ble_eq_true rfl, ?_⟩
  refine r_run 3 (pc' := 4) (ls' := [some (yr b), some (yi km), some (yi o), some (yi lo), some (yi hi)]) (st' := [yi 10, yi km, yr b]) (M' := M) (N' := N) rfl ?_
  refine r_idiv f_22_4 (by omega) (by omega) ?_
  refine r_putf (n := 5) 0 rfl f_22_5 (show xFT[12]? = some (2, 0) from rfl) (Or.inl (by decide)) hb hk ?_
  refine r_run 3 (pc' := 12) (ls' := [some (yr b), some (yi km), some (yi o), some (yi lo), some (yi hi)]) (st' := [yi 10, yi km, yr b]) (M' := (yu M b 0 (km / 10))) (N' := N) rfl ?_
  refine r_irem f_22_12 (by omega) (by omega) ?_
  refine r_putf (n := 5) 1 rfl f_22_13 (show xFT[13]? = some (2, 1) from rfl) (Or.inl (by decide)) hb hk ?_
  refine r_run 2 (pc' := 18) (ls' := [some (yr b), some (yi km), some (yi o), some (yi lo), some (yi hi)]) (st' := [yi o, yr b]) (M' := (yu (yu M b 0 (km / 10)) b 1 (km % 10))) (N' := N) rfl ?_
  refine r_putf (n := 5) 2 rfl f_22_18 (show xFT[14]? = some (2, 2) from rfl) (Or.inl (by decide)) hb hk ?_
  refine r_run 2 (pc' := 23) (ls' := [some (yr b), some (yi km), some (yi o), some (yi lo), some (yi hi)]) (st' := [yi lo, yr b]) (M' := (yu (yu (yu M b 0 (km / 10)) b 1 (km % 10)) b 2 o)) (N' := N) rfl ?_
  refine r_putf (n := 5) 3 rfl f_22_23 (show xFT[15]? = some (2, 3) from rfl) (Or.inl (by decide)) hb hk ?_
  refine r_run 2 (pc' := 29) (ls' := [some (yr b), some (yi km), some (yi o), some (yi lo), some (yi hi)]) (st' := [yi hi, yr b]) (M' := (yu (yu (yu (yu M b 0 (km / 10)) b 1 (km % 10)) b 2 o) b 3 lo)) (N' := N) rfl ?_
  refine r_putf (n := 5) 4 rfl f_22_29 (show xFT[16]? = some (2, 4) from rfl) (Or.inl (by decide)) hb hk ?_
  refine r_vret m_22 rfl f_22_32 ?_
  exact ⟨rfl, rfl, rfl⟩
theorem c_middle {S : XS} {M N : YM} {b : Int} (hb : 0 ≤ b ∧ b < 94) (hk : yk b = (202, 5)) (hl : 0 ≤ M b 3 ∧ M b 3 ≤ 999) (hh : 0 ≤ M b 4 ∧ M b 4 ≤ 999) : rm S 0 25 [yr b] M N (fun r M' N' => ∃ v : Int, some (yi v) = r ∧ (v = (M b 3 + M b 4) / 2) ∧ M = M' ∧ N = N') := by
  refine ⟨xe_25, m_25, Nat.le_of_ble_eq_true rfl, ?_⟩
  refine r_run 1 (pc' := 1) (ls' := [some (yr b)]) (st' := [yr b]) (M' := M) (N' := N) rfl ?_
  refine r_getf (n := 5) 3 rfl f_25_1 (by decide) (show xFT[15]? = some (2, 3) from rfl) (by decide) hb hk ?_
  refine r_run 1 (pc' := 5) (ls' := [some (yr b)]) (st' := [yr b, yi (M b 3)]) (M' := M) (N' := N) rfl ?_
  refine r_getf (n := 5) 4 rfl f_25_5 (by decide) (show xFT[16]? = some (2, 4) from rfl) (by decide) hb hk ?_
  refine r_run 2 (pc' := 10) (ls' := [some (yr b)]) (st' := [yi 2, yi ((M b 3) + (M b 4))]) (M' := M) (N' := N) rfl ?_
  refine r_idiv f_25_10 (by omega) (by omega) ?_
  refine r_iret m_25 rfl f_25_11 ?_
  exact ⟨_, rfl, by omega, rfl, rfl⟩
theorem c_lbecomes {S : XS} {M N : YM} {b : Int} (hb : 0 ≤ b ∧ b < 94) (hk : yk b = (200, 4)) {x y lo hi : Int} : rm S 0 2 [yr b, yi x, yi y, yi lo, yi hi] M N (fun r M' N' => none = r ∧ yu (yu (yu (yu M b 0 x) b 1 y) b 2 lo) b 3 hi = M' ∧ N = N') := by
  refine ⟨xe_2, m_2, Nat.le_of_ble_eq_true rfl, ?_⟩
  refine r_run 2 (pc' := 2) (ls' := [some (yr b), some (yi x), some (yi y), some (yi lo), some (yi hi)]) (st' := [yi x, yr b]) (M' := M) (N' := N) rfl ?_
  refine r_putf (n := 4) 0 rfl f_2_2 (show xFT[0]? = some (0, 0) from rfl) (Or.inl (by decide)) hb hk ?_
  refine r_run 2 (pc' := 7) (ls' := [some (yr b), some (yi x), some (yi y), some (yi lo), some (yi hi)]) (st' := [yi y, yr b]) (M' := (yu M b 0 x)) (N' := N) rfl ?_
  refine r_putf (n := 4) 1 rfl f_2_7 (show xFT[1]? = some (0, 1) from rfl) (Or.inl (by decide)) hb hk ?_
  refine r_run 2 (pc' := 12) (ls' := [some (yr b), some (yi x), some (yi y), some (yi lo), some (yi hi)]) (st' := [yi lo, yr b]) (M' := (yu (yu M b 0 x) b 1 y)) (N' := N) rfl ?_
  refine r_putf (n := 4) 2 rfl f_2_12 (show xFT[2]? = some (0, 2) from rfl) (Or.inl (by decide)) hb hk ?_
  refine r_run 2 (pc' := 18) (ls' := [some (yr b), some (yi x), some (yi y), some (yi lo), some (yi hi)]) (st' := [yi hi, yr b]) (M' := (yu (yu (yu M b 0 x) b 1 y) b 2 lo)) (N' := N) rfl ?_
  refine r_putf (n := 4) 3 rfl f_2_18 (show xFT[3]? = some (0, 3) from rfl) (Or.inl (by decide)) hb hk ?_
  refine r_vret m_2 rfl f_2_21 ?_
  exact ⟨rfl, rfl, rfl⟩
end
section
/-- FROM how much on, UP TO how much a saying of a kind tells -/
def sFrom (k m lo hi y : Int) : Int := if k = 1 then (if lo - m < 0 then 0 else lo - m) else if k = 2 then (if (lo + hi) / 2 < lo + m then (lo + hi) / 2 else lo + m) else if k = 3 then (if lo - m - y < 0 then 0 else lo - m - y) else if k = 4 then (if m ≤ y then (lo + hi) / 2 else if (lo + hi) / 2 < lo + m then (lo + hi) / 2 else lo + m) else lo
def sUpTo (k m lo hi y : Int) : Int := if k = 1 then (if 999 < hi + m then 999 else hi + m) else if k = 2 then (if hi - m < (lo + hi) / 2 then (lo + hi) / 2 else hi - m) else if k = 3 then (if 999 < hi + m + y then 999 else hi + m + y) else if k = 4 then (if m ≤ y then (lo + hi) / 2 else if hi - m < (lo + hi) / 2 then (lo + hi) / 2 else hi - m) else if k = 5 then 999 else hi
/-- a saying's numbers are as told -/
abbrev sOk (k m lo hi : Int) : Prop := (0 ≤ k ∧ k ≤ 5) ∧ (0 ≤ m ∧ m ≤ 9) ∧ 0 ≤ lo ∧ lo ≤ hi ∧ hi ≤ 999
theorem sFrom_in {k m lo hi y : Int} (h : sOk k m lo hi) (hy : 0 ≤ y ∧ y ≤ 99) : 0 ≤ sFrom k m lo hi y ∧ sFrom k m lo hi y ≤ 999 := by
  unfold sFrom
  (repeat' split) <;> omega
theorem sUpTo_in {k m lo hi y : Int} (h : sOk k m lo hi) (hy : 0 ≤ y ∧ y ≤ 99) : 0 ≤ sUpTo k m lo hi y ∧ sUpTo k m lo hi y ≤ 999 := by
  unfold sUpTo
  (repeat' split) <;> omega
theorem c_from {S : XS} {M N : YM} {b : Int} (hb : 0 ≤ b ∧ b < 94) (hk : yk b = (202, 5)) (hs : sOk (M b 0) (M b 1) (M b 3) (M b 4)) {y : Int} (hy : 0 ≤ y ∧ y ≤ 99) : rm S 1 23 [yr b, yi y] M N (fun r M' N' => ∃ v : Int, some (yi v) = r ∧ (v = sFrom (M b 0) (M b 1) (M b 3) (M b 4) y) ∧ M = M' ∧ N = N') := by
  refine ⟨xe_23, m_23, Nat.le_of_ble_eq_true rfl, ?_⟩
  refine r_run 1 (pc' := 1) (ls' := [some (yr b), some (yi y)]) (st' := [yr b]) (M' := M) (N' := N) rfl ?_
  refine r_getf (n := 5) 0 rfl f_23_1 (by decide) (show xFT[12]? = some (2, 0) from rfl) (by decide) hb hk ?_
  rcases (show (M b 0 < 1 ∨ 4 < M b 0) ∨ M b 0 = 1 ∨ M b 0 = 2 ∨ M b 0 = 3 ∨ M b 0 = 4 by omega) with h4 | h4 | h4 | h4 | h4
  · refine r_sw_out (pc := 4) f_23_4 (by omega) h4 ?_
    refine r_run 1 (pc' := 116) (ls' := [some (yr b), some (yi y)]) (st' := [yr b]) (M' := M) (N' := N) rfl ?_
    refine r_getf (n := 5) 3 rfl f_23_116 (by decide) (show xFT[15]? = some (2, 3) from rfl) (by decide) hb hk ?_
    refine r_iret m_23 rfl f_23_119 ?_
    exact ⟨_, rfl, by unfold sFrom; (repeat' split) <;> omega, rfl, rfl⟩
  · refine r_sw_in (pc := 4) 0 f_23_4 (by omega) (by omega) (by omega) rfl ?_
    refine r_run 2 (pc' := 38) (ls' := [some (yr b), some (yi y)]) (st' := [yr b, yi 0]) (M' := M) (N' := N) rfl ?_
    refine r_getf (n := 5) 3 rfl f_23_38 (by decide) (show xFT[15]? = some (2, 3) from rfl) (by decide) hb hk ?_
    refine r_run 1 (pc' := 42) (ls' := [some (yr b), some (yi y)]) (st' := [yr b, yi (M b 3), yi 0]) (M' := M) (N' := N) rfl ?_
    refine r_getf (n := 5) 1 rfl f_23_42 (by decide) (show xFT[13]? = some (2, 1) from rfl) (by decide) hb hk ?_
    refine r_run 1 (pc' := 46) (ls' := [some (yr b), some (yi y)]) (st' := [yi ((M b 3) - (M b 1)), yi 0]) (M' := M) (N' := N) rfl ?_
    refine r_max f_23_46 (by omega) (by omega) (Nat.le_of_ble_eq_true rfl) (by omega) (fun v46 hv46 => ?_)
    refine r_iret m_23 rfl f_23_49 ?_
    exact ⟨_, rfl, by unfold sFrom; (repeat' split) <;> omega, rfl, rfl⟩
  · refine r_sw_in (pc := 4) 1 f_23_4 (by omega) (by omega) (by omega) rfl ?_
    refine r_run 1 (pc' := 51) (ls' := [some (yr b), some (yi y)]) (st' := [yr b]) (M' := M) (N' := N) rfl ?_
    refine r_getf (n := 5) 3 rfl f_23_51 (by decide) (show xFT[15]? = some (2, 3) from rfl) (by decide) hb hk ?_
    refine r_run 1 (pc' := 55) (ls' := [some (yr b), some (yi y)]) (st' := [yr b, yi (M b 3)]) (M' := M) (N' := N) rfl ?_
    refine r_getf (n := 5) 1 rfl f_23_55 (by decide) (show xFT[13]? = some (2, 1) from rfl) (by decide) hb hk ?_
    refine r_run 2 (pc' := 60) (ls' := [some (yr b), some (yi y)]) (st' := [yr b, yi ((M b 3) + (M b 1))]) (M' := M) (N' := N) rfl ?_
    refine r_virtual (mj := 25) (b := b) (as := []) (rest := [yi ((M b 3) + (M b 1))]) f_23_60 (by decide) rfl m_25 (by decide) hb (by rw [hk]; rfl) rfl rfl (Nat.le_of_ble_eq_true rfl) (by omega) (c_middle hb hk (by omega) (by omega)) ?_
    rintro _ _ _ ⟨v60, rfl, hv60, rfl, rfl⟩
    refine r_min f_23_63 (by omega) (by omega) (Nat.le_of_ble_eq_true rfl) (by omega) (fun v63 hv63 => ?_)
    refine r_iret m_23 rfl f_23_66 ?_
    exact ⟨_, rfl, by unfold sFrom; (repeat' split) <;> omega, rfl, rfl⟩
  · refine r_sw_in (pc := 4) 2 f_23_4 (by omega) (by omega) (by omega) rfl ?_
    refine r_run 2 (pc' := 69) (ls' := [some (yr b), some (yi y)]) (st' := [yr b, yi 0]) (M' := M) (N' := N) rfl ?_
    refine r_getf (n := 5) 3 rfl f_23_69 (by decide) (show xFT[15]? = some (2, 3) from rfl) (by decide) hb hk ?_
    refine r_run 1 (pc' := 73) (ls' := [some (yr b), some (yi y)]) (st' := [yr b, yi (M b 3), yi 0]) (M' := M) (N' := N) rfl ?_
    refine r_getf (n := 5) 1 rfl f_23_73 (by decide) (show xFT[13]? = some (2, 1) from rfl) (by decide) hb hk ?_
    refine r_run 3 (pc' := 79) (ls' := [some (yr b), some (yi y)]) (st' := [yi (((M b 3) - (M b 1)) - y), yi 0]) (M' := M) (N' := N) rfl ?_
    refine r_max f_23_79 (by omega) (by omega) (Nat.le_of_ble_eq_true rfl) (by omega) (fun v79 hv79 => ?_)
    refine r_iret m_23 rfl f_23_82 ?_
    exact ⟨_, rfl, by unfold sFrom; (repeat' split) <;> omega, rfl, rfl⟩
  · refine r_sw_in (pc := 4) 3 f_23_4 (by omega) (by omega) (by omega) rfl ?_
    refine r_run 2 (pc' := 85) (ls' := [some (yr b), some (yi y)]) (st' := [yr b, yi y]) (M' := M) (N' := N) rfl ?_
    refine r_getf (n := 5) 1 rfl f_23_85 (by decide) (show xFT[13]? = some (2, 1) from rfl) (by decide) hb hk ?_
    refine r_icmp_lt (pc := 88) f_23_88 (by omega) (by omega) (fun h88 => ?_) (fun h88 => ?_)
    · refine r_run 1 (pc' := 99) (ls' := [some (yr b), some (yi y)]) (st' := [yr b]) (M' := M) (N' := N) rfl ?_
      refine r_getf (n := 5) 3 rfl f_23_99 (by decide) (show xFT[15]? = some (2, 3) from rfl) (by decide) hb hk ?_
      refine r_run 1 (pc' := 103) (ls' := [some (yr b), some (yi y)]) (st' := [yr b, yi (M b 3)]) (M' := M) (N' := N) rfl ?_
      refine r_getf (n := 5) 1 rfl f_23_103 (by decide) (show xFT[13]? = some (2, 1) from rfl) (by decide) hb hk ?_
      refine r_run 2 (pc' := 108) (ls' := [some (yr b), some (yi y)]) (st' := [yr b, yi ((M b 3) + (M b 1))]) (M' := M) (N' := N) rfl ?_
      refine r_virtual (mj := 25) (b := b) (as := []) (rest := [yi ((M b 3) + (M b 1))]) f_23_108 (by decide) rfl m_25 (by decide) hb (by rw [hk]; rfl) rfl rfl (Nat.le_of_ble_eq_true rfl) (by omega) (c_middle hb hk (by omega) (by omega)) ?_
      rintro _ _ _ ⟨v108, rfl, hv108, rfl, rfl⟩
      refine r_min f_23_111 (by omega) (by omega) (Nat.le_of_ble_eq_true rfl) (by omega) (fun v111 hv111 => ?_)
      refine r_iret m_23 rfl f_23_114 ?_
      exact ⟨_, rfl, by unfold sFrom; (repeat' split) <;> omega, rfl, rfl⟩
    · refine r_run 1 (pc' := 92) (ls' := [some (yr b), some (yi y)]) (st' := [yr b]) (M' := M) (N' := N) rfl ?_
      refine r_virtual (mj := 25) (b := b) (as := []) (rest := []) f_23_92 (by decide) rfl m_25 (by decide) hb (by rw [hk]; rfl) rfl rfl (Nat.le_of_ble_eq_true rfl) (by omega) (c_middle hb hk (by omega) (by omega)) ?_
      rintro _ _ _ ⟨v92, rfl, hv92, rfl, rfl⟩
      refine r_run 1 (pc' := 114) (ls' := [some (yr b), some (yi y)]) (st' := [yi v92]) (M' := M) (N' := N) rfl ?_
      refine r_iret m_23 rfl f_23_114 ?_
      exact ⟨_, rfl, by unfold sFrom; (repeat' split) <;> omega, rfl, rfl⟩
theorem c_upTo {S : XS} {M N : YM} {b : Int} (hb : 0 ≤ b ∧ b < 94) (hk : yk b = (202, 5)) (hs : sOk (M b 0) (M b 1) (M b 3) (M b 4)) {y : Int} (hy : 0 ≤ y ∧ y ≤ 99) : rm S 1 24 [yr b, yi y] M N (fun r M' N' => ∃ v : Int, some (yi v) = r ∧ (v = sUpTo (M b 0) (M b 1) (M b 3) (M b 4) y) ∧ M = M' ∧ N = N') := by
  refine ⟨xe_24, m_24, Nat.le_of_ble_eq_true rfl, ?_⟩
  refine r_run 1 (pc' := 1) (ls' := [some (yr b), some (yi y)]) (st' := [yr b]) (M' := M) (N' := N) rfl ?_
  refine r_getf (n := 5) 0 rfl f_24_1 (by decide) (show xFT[12]? = some (2, 0) from rfl) (by decide) hb hk ?_
  rcases (show (M b 0 < 1 ∨ 5 < M b 0) ∨ M b 0 = 1 ∨ M b 0 = 2 ∨ M b 0 = 3 ∨ M b 0 = 4 ∨ M b 0 = 5 by omega) with h4 | h4 | h4 | h4 | h4 | h4
  · refine r_sw_out (pc := 4) f_24_4 (by omega) h4 ?_
    refine r_run 1 (pc' := 128) (ls' := [some (yr b), some (yi y)]) (st' := [yr b]) (M' := M) (N' := N) rfl ?_
    refine r_getf (n := 5) 4 rfl f_24_128 (by decide) (show xFT[16]? = some (2, 4) from rfl) (by decide) hb hk ?_
    refine r_iret m_24 rfl f_24_131 ?_
    exact ⟨_, rfl, by unfold sUpTo; (repeat' split) <;> omega, rfl, rfl⟩
  · refine r_sw_in (pc := 4) 0 f_24_4 (by omega) (by omega) (by omega) rfl ?_
    refine r_run 2 (pc' := 44) (ls' := [some (yr b), some (yi y)]) (st' := [yr b, yi 999]) (M' := M) (N' := N) rfl ?_
    refine r_getf (n := 5) 4 rfl f_24_44 (by decide) (show xFT[16]? = some (2, 4) from rfl) (by decide) hb hk ?_
    refine r_run 1 (pc' := 48) (ls' := [some (yr b), some (yi y)]) (st' := [yr b, yi (M b 4), yi 999]) (M' := M) (N' := N) rfl ?_
    refine r_getf (n := 5) 1 rfl f_24_48 (by decide) (show xFT[13]? = some (2, 1) from rfl) (by decide) hb hk ?_
    refine r_run 1 (pc' := 52) (ls' := [some (yr b), some (yi y)]) (st' := [yi ((M b 4) + (M b 1)), yi 999]) (M' := M) (N' := N) rfl ?_
    refine r_min f_24_52 (by omega) (by omega) (Nat.le_of_ble_eq_true rfl) (by omega) (fun v52 hv52 => ?_)
    refine r_iret m_24 rfl f_24_55 ?_
    exact ⟨_, rfl, by unfold sUpTo; (repeat' split) <;> omega, rfl, rfl⟩
  · refine r_sw_in (pc := 4) 1 f_24_4 (by omega) (by omega) (by omega) rfl ?_
    refine r_run 1 (pc' := 57) (ls' := [some (yr b), some (yi y)]) (st' := [yr b]) (M' := M) (N' := N) rfl ?_
    refine r_getf (n := 5) 4 rfl f_24_57 (by decide) (show xFT[16]? = some (2, 4) from rfl) (by decide) hb hk ?_
    refine r_run 1 (pc' := 61) (ls' := [some (yr b), some (yi y)]) (st' := [yr b, yi (M b 4)]) (M' := M) (N' := N) rfl ?_
    refine r_getf (n := 5) 1 rfl f_24_61 (by decide) (show xFT[13]? = some (2, 1) from rfl) (by decide) hb hk ?_
    refine r_run 2 (pc' := 66) (ls' := [some (yr b), some (yi y)]) (st' := [yr b, yi ((M b 4) - (M b 1))]) (M' := M) (N' := N) rfl ?_
    refine r_virtual (mj := 25) (b := b) (as := []) (rest := [yi ((M b 4) - (M b 1))]) f_24_66 (by decide) rfl m_25 (by decide) hb (by rw [hk]; rfl) rfl rfl (Nat.le_of_ble_eq_true rfl) (by omega) (c_middle hb hk (by omega) (by omega)) ?_
    rintro _ _ _ ⟨v66, rfl, hv66, rfl, rfl⟩
    refine r_max f_24_69 (by omega) (by omega) (Nat.le_of_ble_eq_true rfl) (by omega) (fun v69 hv69 => ?_)
    refine r_iret m_24 rfl f_24_72 ?_
    exact ⟨_, rfl, by unfold sUpTo; (repeat' split) <;> omega, rfl, rfl⟩
  · refine r_sw_in (pc := 4) 2 f_24_4 (by omega) (by omega) (by omega) rfl ?_
    refine r_run 2 (pc' := 77) (ls' := [some (yr b), some (yi y)]) (st' := [yr b, yi 999]) (M' := M) (N' := N) rfl ?_
    refine r_getf (n := 5) 4 rfl f_24_77 (by decide) (show xFT[16]? = some (2, 4) from rfl) (by decide) hb hk ?_
    refine r_run 1 (pc' := 81) (ls' := [some (yr b), some (yi y)]) (st' := [yr b, yi (M b 4), yi 999]) (M' := M) (N' := N) rfl ?_
    refine r_getf (n := 5) 1 rfl f_24_81 (by decide) (show xFT[13]? = some (2, 1) from rfl) (by decide) hb hk ?_
    refine r_run 3 (pc' := 87) (ls' := [some (yr b), some (yi y)]) (st' := [yi (((M b 4) + (M b 1)) + y), yi 999]) (M' := M) (N' := N) rfl ?_
    refine r_min f_24_87 (by omega) (by omega) (Nat.le_of_ble_eq_true rfl) (by omega) (fun v87 hv87 => ?_)
    refine r_iret m_24 rfl f_24_90 ?_
    exact ⟨_, rfl, by unfold sUpTo; (repeat' split) <;> omega, rfl, rfl⟩
  · refine r_sw_in (pc := 4) 3 f_24_4 (by omega) (by omega) (by omega) rfl ?_
    refine r_run 2 (pc' := 93) (ls' := [some (yr b), some (yi y)]) (st' := [yr b, yi y]) (M' := M) (N' := N) rfl ?_
    refine r_getf (n := 5) 1 rfl f_24_93 (by decide) (show xFT[13]? = some (2, 1) from rfl) (by decide) hb hk ?_
    refine r_icmp_lt (pc := 96) f_24_96 (by omega) (by omega) (fun h96 => ?_) (fun h96 => ?_)
    · refine r_run 1 (pc' := 107) (ls' := [some (yr b), some (yi y)]) (st' := [yr b]) (M' := M) (N' := N) rfl ?_
      refine r_getf (n := 5) 4 rfl f_24_107 (by decide) (show xFT[16]? = some (2, 4) from rfl) (by decide) hb hk ?_
      refine r_run 1 (pc' := 111) (ls' := [some (yr b), some (yi y)]) (st' := [yr b, yi (M b 4)]) (M' := M) (N' := N) rfl ?_
      refine r_getf (n := 5) 1 rfl f_24_111 (by decide) (show xFT[13]? = some (2, 1) from rfl) (by decide) hb hk ?_
      refine r_run 2 (pc' := 116) (ls' := [some (yr b), some (yi y)]) (st' := [yr b, yi ((M b 4) - (M b 1))]) (M' := M) (N' := N) rfl ?_
      refine r_virtual (mj := 25) (b := b) (as := []) (rest := [yi ((M b 4) - (M b 1))]) f_24_116 (by decide) rfl m_25 (by decide) hb (by rw [hk]; rfl) rfl rfl (Nat.le_of_ble_eq_true rfl) (by omega) (c_middle hb hk (by omega) (by omega)) ?_
      rintro _ _ _ ⟨v116, rfl, hv116, rfl, rfl⟩
      refine r_max f_24_119 (by omega) (by omega) (Nat.le_of_ble_eq_true rfl) (by omega) (fun v119 hv119 => ?_)
      refine r_iret m_24 rfl f_24_122 ?_
      exact ⟨_, rfl, by unfold sUpTo; (repeat' split) <;> omega, rfl, rfl⟩
    · refine r_run 1 (pc' := 100) (ls' := [some (yr b), some (yi y)]) (st' := [yr b]) (M' := M) (N' := N) rfl ?_
      refine r_virtual (mj := 25) (b := b) (as := []) (rest := []) f_24_100 (by decide) rfl m_25 (by decide) hb (by rw [hk]; rfl) rfl rfl (Nat.le_of_ble_eq_true rfl) (by omega) (c_middle hb hk (by omega) (by omega)) ?_
      rintro _ _ _ ⟨v100, rfl, hv100, rfl, rfl⟩
      refine r_run 1 (pc' := 122) (ls' := [some (yr b), some (yi y)]) (st' := [yi v100]) (M' := M) (N' := N) rfl ?_
      refine r_iret m_24 rfl f_24_122 ?_
      exact ⟨_, rfl, by unfold sUpTo; (repeat' split) <;> omega, rfl, rfl⟩
  · refine r_sw_in (pc := 4) 4 f_24_4 (by omega) (by omega) (by omega) rfl ?_
    refine r_run 1 (pc' := 126) (ls' := [some (yr b), some (yi y)]) (st' := [yi 999]) (M' := M) (N' := N) rfl ?_
    refine r_iret m_24 rfl f_24_126 ?_
    exact ⟨_, rfl, by unfold sUpTo; (repeat' split) <;> omega, rfl, rfl⟩
theorem m_middle {S : XS} {M N : YM} {s : Int} (hs0 : 0 ≤ s ∧ s < 10) (hs : sOk (M 76 (5 * s)) (M 76 (5 * s + 4)) (M 76 (5 * s + 2)) (M 76 (5 * s + 3)))  : rm S 0 138 [yr 75, yi s] M N (fun r M' N' => ∃ v : Int, some (yi v) = r ∧ (v = (M 76 (5 * s + 2) + M 76 (5 * s + 3)) / 2) ∧ M = M' ∧ N = N') := by
  refine ⟨xe_138, m_138, Nat.le_of_ble_eq_true rfl, ?_⟩
  refine r_run 7 (pc' := 9) (ls' := [some (yr 75), some (yi s)]) (st' := [yi ((5 * s) + 2), yr 76]) (M' := M) (N' := N) rfl ?_
  refine r_iald (n := 50) f_138_9 (by decide) (by decide) (by decide) (by omega) ?_
  refine r_run 7 (pc' := 19) (ls' := [some (yr 75), some (yi s)]) (st' := [yi ((5 * s) + 3), yr 76, yi (M 76 ((5 * s) + 2))]) (M' := M) (N' := N) rfl ?_
  refine r_iald (n := 50) f_138_19 (by decide) (by decide) (by decide) (by omega) ?_
  refine r_run 2 (pc' := 22) (ls' := [some (yr 75), some (yi s)]) (st' := [yi 2, yi ((M 76 ((5 * s) + 2)) + (M 76 ((5 * s) + 3)))]) (M' := M) (N' := N) rfl ?_
  refine r_idiv f_138_22 (by omega) (by omega) ?_
  refine r_iret m_138 rfl f_138_23 ?_
  exact ⟨_, rfl, by omega, rfl, rfl⟩
theorem m_isExact {S : XS} {M N : YM} {s : Int} (hs0 : 0 ≤ s ∧ s < 10) (hs : sOk (M 76 (5 * s)) (M 76 (5 * s + 4)) (M 76 (5 * s + 2)) (M 76 (5 * s + 3))) (hy : 0 ≤ M 75 4 ∧ M 75 4 ≤ 99)  : rm S 0 139 [yr 75, yi s] M N (fun r M' N' => ∃ v : Int, some (yi v) = r ∧ ((v = 1 ∧ M 76 (5 * s) = 4 ∧ M 76 (5 * s + 4) ≤ M 75 4) ∨ (v = 0 ∧ (M 76 (5 * s) ≠ 4 ∨ M 75 4 < M 76 (5 * s + 4)))) ∧ M = M' ∧ N = N') := by
  refine ⟨xe_139, m_139, Nat.le_of_ble_eq_true rfl, ?_⟩
  refine r_run 5 (pc' := 7) (ls' := [some (yr 75), some (yi s)]) (st' := [yi (5 * s), yr 76]) (M' := M) (N' := N) rfl ?_
  refine r_iald (n := 50) f_139_7 (by decide) (by decide) (by decide) (by omega) ?_
  refine r_run 1 (pc' := 9) (ls' := [some (yr 75), some (yi s)]) (st' := [yi 4, yi (M 76 (5 * s))]) (M' := M) (N' := N) rfl ?_
  refine r_icmp_ne (pc := 9) f_139_9 (by omega) (by omega) (fun h9 => ?_) (fun h9 => ?_)
  · refine r_run 1 (pc' := 34) (ls' := [some (yr 75), some (yi s)]) (st' := [yi 0]) (M' := M) (N' := N) rfl ?_
    refine r_zret m_139 rfl f_139_34 (by omega) ?_
    exact ⟨_, rfl, by omega, rfl, rfl⟩
  · refine r_run 9 (pc' := 25) (ls' := [some (yr 75), some (yi s)]) (st' := [yi ((5 * s) + 4), yr 76, yi (M 75 4)]) (M' := M) (N' := N) rfl ?_
    refine r_iald (n := 50) f_139_25 (by decide) (by decide) (by decide) (by omega) ?_
    refine r_icmp_lt (pc := 26) f_139_26 (by omega) (by omega) (fun h26 => ?_) (fun h26 => ?_)
    · refine r_run 1 (pc' := 34) (ls' := [some (yr 75), some (yi s)]) (st' := [yi 0]) (M' := M) (N' := N) rfl ?_
      refine r_zret m_139 rfl f_139_34 (by omega) ?_
      exact ⟨_, rfl, by omega, rfl, rfl⟩
    · refine r_run 2 (pc' := 34) (ls' := [some (yr 75), some (yi s)]) (st' := [yi 1]) (M' := M) (N' := N) rfl ?_
      refine r_zret m_139 rfl f_139_34 (by omega) ?_
      exact ⟨_, rfl, by omega, rfl, rfl⟩
theorem m_fromOf {S : XS} {M N : YM} {s : Int} (hs0 : 0 ≤ s ∧ s < 10) (hs : sOk (M 76 (5 * s)) (M 76 (5 * s + 4)) (M 76 (5 * s + 2)) (M 76 (5 * s + 3))) (hy : 0 ≤ M 75 4 ∧ M 75 4 ≤ 99)  : rm S 1 140 [yr 75, yi s] M N (fun r M' N' => ∃ v : Int, some (yi v) = r ∧ (v = sFrom (M 76 (5 * s)) (M 76 (5 * s + 4)) (M 76 (5 * s + 2)) (M 76 (5 * s + 3)) (M 75 4)) ∧ M = M' ∧ N = N') := by
  refine ⟨xe_140, m_140, Nat.le_of_ble_eq_true rfl, ?_⟩
  refine r_run 5 (pc' := 7) (ls' := [some (yr 75), some (yi s), none, none, none, none]) (st' := [yi (5 * s), yr 76]) (M' := M) (N' := N) rfl ?_
  refine r_iald (n := 50) f_140_7 (by decide) (by decide) (by decide) (by omega) ?_
  refine r_run 8 (pc' := 18) (ls' := [some (yr 75), some (yi s), some (yi (M 76 (5 * s))), none, none, none]) (st' := [yi ((5 * s) + 2), yr 76]) (M' := M) (N' := N) rfl ?_
  refine r_iald (n := 50) f_140_18 (by decide) (by decide) (by decide) (by omega) ?_
  refine r_run 8 (pc' := 29) (ls' := [some (yr 75), some (yi s), some (yi (M 76 (5 * s))), some (yi (M 76 ((5 * s) + 2))), none, none]) (st' := [yi ((5 * s) + 4), yr 76]) (M' := M) (N' := N) rfl ?_
  refine r_iald (n := 50) f_140_29 (by decide) (by decide) (by decide) (by omega) ?_
  refine r_run 5 (pc' := 37) (ls' := [some (yr 75), some (yi s), some (yi (M 76 (5 * s))), some (yi (M 76 ((5 * s) + 2))), some (yi (M 76 ((5 * s) + 4))), some (yi (M 76 ((5 * s) + 2)))]) (st' := [yi 1, yi (M 76 (5 * s))]) (M' := M) (N' := N) rfl ?_
  refine r_icmp_eq (pc := 37) f_140_37 (by omega) (by omega) (fun h37 => ?_) (fun h37 => ?_)
  · refine r_run 5 (pc' := 51) (ls' := [some (yr 75), some (yi s), some (yi (M 76 (5 * s))), some (yi (M 76 ((5 * s) + 2))), some (yi (M 76 ((5 * s) + 4))), some (yi (M 76 ((5 * s) + 2)))]) (st' := [yi 3, yi (M 76 (5 * s)), yi ((M 76 ((5 * s) + 2)) - (M 76 ((5 * s) + 4)))]) (M' := M) (N' := N) rfl ?_
    refine r_icmp_ne (pc := 51) f_140_51 (by omega) (by omega) (fun h51 => ?_) (fun h51 => ?_)
    · refine r_run 5 (pc' := 67) (ls' := [some (yr 75), some (yi s), some (yi (M 76 (5 * s))), some (yi (M 76 ((5 * s) + 2))), some (yi (M 76 ((5 * s) + 4))), some (yi (((M 76 ((5 * s) + 2)) - (M 76 ((5 * s) + 4))) - 0))]) (st' := [yi 2, yi (M 76 (5 * s))]) (M' := M) (N' := N) rfl ?_
      refine r_icmp_eq (pc := 67) f_140_67 (by omega) (by omega) (fun h67 => ?_) (fun h67 => ?_)
      · refine r_run 2 (pc' := 77) (ls' := [some (yr 75), some (yi s), some (yi (M 76 (5 * s))), some (yi (M 76 ((5 * s) + 2))), some (yi (M 76 ((5 * s) + 4))), some (yi (((M 76 ((5 * s) + 2)) - (M 76 ((5 * s) + 4))) - 0))]) (st' := [yi s, yr 75]) (M' := M) (N' := N) rfl ?_
        refine r_virtual (mj := 139) (b := 75) (as := [yi s]) (rest := []) f_140_77 (by decide) rfl m_139 (by decide) (by decide) (by decide) rfl rfl (Nat.le_of_ble_eq_true rfl) (by omega) (m_isExact hs0 hs hy) ?_
        rintro _ _ _ ⟨v77, rfl, hv77, rfl, rfl⟩
        refine r_if_ne (pc := 80) f_140_80 (by omega) (fun h80 => ?_) (fun h80 => ?_)
        · refine r_run 2 (pc' := 97) (ls' := [some (yr 75), some (yi s), some (yi (M 76 (5 * s))), some (yi (M 76 ((5 * s) + 2))), some (yi (M 76 ((5 * s) + 4))), some (yi (((M 76 ((5 * s) + 2)) - (M 76 ((5 * s) + 4))) - 0))]) (st' := [yi s, yr 75]) (M' := M) (N' := N) rfl ?_
          refine r_virtual (mj := 138) (b := 75) (as := [yi s]) (rest := []) f_140_97 (by decide) rfl m_138 (by decide) (by decide) (by decide) rfl rfl (Nat.le_of_ble_eq_true rfl) (by omega) (m_middle hs0 hs) ?_
          rintro _ _ _ ⟨v97, rfl, hv97, rfl, rfl⟩
          refine r_run 5 (pc' := 115) (ls' := [some (yr 75), some (yi s), some (yi (M 76 (5 * s))), some (yi (M 76 ((5 * s) + 2))), some (yi (M 76 ((5 * s) + 4))), some (yi v97)]) (st' := [yi 999, yi 0, yi v97]) (M' := M) (N' := N) rfl ?_
          refine r_static (mj := 113) (as := [yi v97, yi 0, yi 999]) (rest := []) f_140_115 (by decide) rfl m_113 rfl rfl rfl (Nat.le_of_ble_eq_true rfl) (by omega) (m_within (by omega) (by omega) (by omega)) ?_
          rintro _ _ _ ⟨v115, rfl, hv115, rfl, rfl⟩
          refine r_iret m_140 rfl f_140_118 ?_
          exact ⟨_, rfl, by unfold sFrom; (repeat' split) <;> omega, rfl, rfl⟩
        · refine r_run 5 (pc' := 89) (ls' := [some (yr 75), some (yi s), some (yi (M 76 (5 * s))), some (yi (M 76 ((5 * s) + 2))), some (yi (M 76 ((5 * s) + 4))), some (yi (((M 76 ((5 * s) + 2)) - (M 76 ((5 * s) + 4))) - 0))]) (st' := [yi s, yr 75, yi ((M 76 ((5 * s) + 2)) + (M 76 ((5 * s) + 4)))]) (M' := M) (N' := N) rfl ?_
          refine r_virtual (mj := 138) (b := 75) (as := [yi s]) (rest := [yi ((M 76 ((5 * s) + 2)) + (M 76 ((5 * s) + 4)))]) f_140_89 (by decide) rfl m_138 (by decide) (by decide) (by decide) rfl rfl (Nat.le_of_ble_eq_true rfl) (by omega) (m_middle hs0 hs) ?_
          rintro _ _ _ ⟨v89, rfl, hv89, rfl, rfl⟩
          refine r_icmp_le (pc := 92) f_140_92 (by omega) (by omega) (fun h92 => ?_) (fun h92 => ?_)
          · refine r_run 7 (pc' := 115) (ls' := [some (yr 75), some (yi s), some (yi (M 76 (5 * s))), some (yi (M 76 ((5 * s) + 2))), some (yi (M 76 ((5 * s) + 4))), some (yi ((M 76 ((5 * s) + 2)) + (M 76 ((5 * s) + 4))))]) (st' := [yi 999, yi 0, yi ((M 76 ((5 * s) + 2)) + (M 76 ((5 * s) + 4)))]) (M' := M) (N' := N) rfl ?_
            refine r_static (mj := 113) (as := [yi ((M 76 ((5 * s) + 2)) + (M 76 ((5 * s) + 4))), yi 0, yi 999]) (rest := []) f_140_115 (by decide) rfl m_113 rfl rfl rfl (Nat.le_of_ble_eq_true rfl) (by omega) (m_within (by omega) (by omega) (by omega)) ?_
            rintro _ _ _ ⟨v115, rfl, hv115, rfl, rfl⟩
            refine r_iret m_140 rfl f_140_118 ?_
            exact ⟨_, rfl, by unfold sFrom; (repeat' split) <;> omega, rfl, rfl⟩
          · refine r_run 2 (pc' := 97) (ls' := [some (yr 75), some (yi s), some (yi (M 76 (5 * s))), some (yi (M 76 ((5 * s) + 2))), some (yi (M 76 ((5 * s) + 4))), some (yi (((M 76 ((5 * s) + 2)) - (M 76 ((5 * s) + 4))) - 0))]) (st' := [yi s, yr 75]) (M' := M) (N' := N) rfl ?_
            refine r_virtual (mj := 138) (b := 75) (as := [yi s]) (rest := []) f_140_97 (by decide) rfl m_138 (by decide) (by decide) (by decide) rfl rfl (Nat.le_of_ble_eq_true rfl) (by omega) (m_middle hs0 hs) ?_
            rintro _ _ _ ⟨v97, rfl, hv97, rfl, rfl⟩
            refine r_run 5 (pc' := 115) (ls' := [some (yr 75), some (yi s), some (yi (M 76 (5 * s))), some (yi (M 76 ((5 * s) + 2))), some (yi (M 76 ((5 * s) + 4))), some (yi v97)]) (st' := [yi 999, yi 0, yi v97]) (M' := M) (N' := N) rfl ?_
            refine r_static (mj := 113) (as := [yi v97, yi 0, yi 999]) (rest := []) f_140_115 (by decide) rfl m_113 rfl rfl rfl (Nat.le_of_ble_eq_true rfl) (by omega) (m_within (by omega) (by omega) (by omega)) ?_
            rintro _ _ _ ⟨v115, rfl, hv115, rfl, rfl⟩
            refine r_iret m_140 rfl f_140_118 ?_
            exact ⟨_, rfl, by unfold sFrom; (repeat' split) <;> omega, rfl, rfl⟩
      · refine r_run 2 (pc' := 72) (ls' := [some (yr 75), some (yi s), some (yi (M 76 (5 * s))), some (yi (M 76 ((5 * s) + 2))), some (yi (M 76 ((5 * s) + 4))), some (yi (((M 76 ((5 * s) + 2)) - (M 76 ((5 * s) + 4))) - 0))]) (st' := [yi 4, yi (M 76 (5 * s))]) (M' := M) (N' := N) rfl ?_
        refine r_icmp_ne (pc := 72) f_140_72 (by omega) (by omega) (fun h72 => ?_) (fun h72 => ?_)
        · refine r_run 3 (pc' := 115) (ls' := [some (yr 75), some (yi s), some (yi (M 76 (5 * s))), some (yi (M 76 ((5 * s) + 2))), some (yi (M 76 ((5 * s) + 4))), some (yi (((M 76 ((5 * s) + 2)) - (M 76 ((5 * s) + 4))) - 0))]) (st' := [yi 999, yi 0, yi (((M 76 ((5 * s) + 2)) - (M 76 ((5 * s) + 4))) - 0)]) (M' := M) (N' := N) rfl ?_
          refine r_static (mj := 113) (as := [yi (((M 76 ((5 * s) + 2)) - (M 76 ((5 * s) + 4))) - 0), yi 0, yi 999]) (rest := []) f_140_115 (by decide) rfl m_113 rfl rfl rfl (Nat.le_of_ble_eq_true rfl) (by omega) (m_within (by omega) (by omega) (by omega)) ?_
          rintro _ _ _ ⟨v115, rfl, hv115, rfl, rfl⟩
          refine r_iret m_140 rfl f_140_118 ?_
          exact ⟨_, rfl, by unfold sFrom; (repeat' split) <;> omega, rfl, rfl⟩
        · refine r_run 2 (pc' := 77) (ls' := [some (yr 75), some (yi s), some (yi (M 76 (5 * s))), some (yi (M 76 ((5 * s) + 2))), some (yi (M 76 ((5 * s) + 4))), some (yi (((M 76 ((5 * s) + 2)) - (M 76 ((5 * s) + 4))) - 0))]) (st' := [yi s, yr 75]) (M' := M) (N' := N) rfl ?_
          refine r_virtual (mj := 139) (b := 75) (as := [yi s]) (rest := []) f_140_77 (by decide) rfl m_139 (by decide) (by decide) (by decide) rfl rfl (Nat.le_of_ble_eq_true rfl) (by omega) (m_isExact hs0 hs hy) ?_
          rintro _ _ _ ⟨v77, rfl, hv77, rfl, rfl⟩
          refine r_if_ne (pc := 80) f_140_80 (by omega) (fun h80 => ?_) (fun h80 => ?_)
          · refine r_run 2 (pc' := 97) (ls' := [some (yr 75), some (yi s), some (yi (M 76 (5 * s))), some (yi (M 76 ((5 * s) + 2))), some (yi (M 76 ((5 * s) + 4))), some (yi (((M 76 ((5 * s) + 2)) - (M 76 ((5 * s) + 4))) - 0))]) (st' := [yi s, yr 75]) (M' := M) (N' := N) rfl ?_
            refine r_virtual (mj := 138) (b := 75) (as := [yi s]) (rest := []) f_140_97 (by decide) rfl m_138 (by decide) (by decide) (by decide) rfl rfl (Nat.le_of_ble_eq_true rfl) (by omega) (m_middle hs0 hs) ?_
            rintro _ _ _ ⟨v97, rfl, hv97, rfl, rfl⟩
            refine r_run 5 (pc' := 115) (ls' := [some (yr 75), some (yi s), some (yi (M 76 (5 * s))), some (yi (M 76 ((5 * s) + 2))), some (yi (M 76 ((5 * s) + 4))), some (yi v97)]) (st' := [yi 999, yi 0, yi v97]) (M' := M) (N' := N) rfl ?_
            refine r_static (mj := 113) (as := [yi v97, yi 0, yi 999]) (rest := []) f_140_115 (by decide) rfl m_113 rfl rfl rfl (Nat.le_of_ble_eq_true rfl) (by omega) (m_within (by omega) (by omega) (by omega)) ?_
            rintro _ _ _ ⟨v115, rfl, hv115, rfl, rfl⟩
            refine r_iret m_140 rfl f_140_118 ?_
            exact ⟨_, rfl, by unfold sFrom; (repeat' split) <;> omega, rfl, rfl⟩
          · refine r_run 5 (pc' := 89) (ls' := [some (yr 75), some (yi s), some (yi (M 76 (5 * s))), some (yi (M 76 ((5 * s) + 2))), some (yi (M 76 ((5 * s) + 4))), some (yi (((M 76 ((5 * s) + 2)) - (M 76 ((5 * s) + 4))) - 0))]) (st' := [yi s, yr 75, yi ((M 76 ((5 * s) + 2)) + (M 76 ((5 * s) + 4)))]) (M' := M) (N' := N) rfl ?_
            refine r_virtual (mj := 138) (b := 75) (as := [yi s]) (rest := [yi ((M 76 ((5 * s) + 2)) + (M 76 ((5 * s) + 4)))]) f_140_89 (by decide) rfl m_138 (by decide) (by decide) (by decide) rfl rfl (Nat.le_of_ble_eq_true rfl) (by omega) (m_middle hs0 hs) ?_
            rintro _ _ _ ⟨v89, rfl, hv89, rfl, rfl⟩
            refine r_icmp_le (pc := 92) f_140_92 (by omega) (by omega) (fun h92 => ?_) (fun h92 => ?_)
            · refine r_run 7 (pc' := 115) (ls' := [some (yr 75), some (yi s), some (yi (M 76 (5 * s))), some (yi (M 76 ((5 * s) + 2))), some (yi (M 76 ((5 * s) + 4))), some (yi ((M 76 ((5 * s) + 2)) + (M 76 ((5 * s) + 4))))]) (st' := [yi 999, yi 0, yi ((M 76 ((5 * s) + 2)) + (M 76 ((5 * s) + 4)))]) (M' := M) (N' := N) rfl ?_
              refine r_static (mj := 113) (as := [yi ((M 76 ((5 * s) + 2)) + (M 76 ((5 * s) + 4))), yi 0, yi 999]) (rest := []) f_140_115 (by decide) rfl m_113 rfl rfl rfl (Nat.le_of_ble_eq_true rfl) (by omega) (m_within (by omega) (by omega) (by omega)) ?_
              rintro _ _ _ ⟨v115, rfl, hv115, rfl, rfl⟩
              refine r_iret m_140 rfl f_140_118 ?_
              exact ⟨_, rfl, by unfold sFrom; (repeat' split) <;> omega, rfl, rfl⟩
            · refine r_run 2 (pc' := 97) (ls' := [some (yr 75), some (yi s), some (yi (M 76 (5 * s))), some (yi (M 76 ((5 * s) + 2))), some (yi (M 76 ((5 * s) + 4))), some (yi (((M 76 ((5 * s) + 2)) - (M 76 ((5 * s) + 4))) - 0))]) (st' := [yi s, yr 75]) (M' := M) (N' := N) rfl ?_
              refine r_virtual (mj := 138) (b := 75) (as := [yi s]) (rest := []) f_140_97 (by decide) rfl m_138 (by decide) (by decide) (by decide) rfl rfl (Nat.le_of_ble_eq_true rfl) (by omega) (m_middle hs0 hs) ?_
              rintro _ _ _ ⟨v97, rfl, hv97, rfl, rfl⟩
              refine r_run 5 (pc' := 115) (ls' := [some (yr 75), some (yi s), some (yi (M 76 (5 * s))), some (yi (M 76 ((5 * s) + 2))), some (yi (M 76 ((5 * s) + 4))), some (yi v97)]) (st' := [yi 999, yi 0, yi v97]) (M' := M) (N' := N) rfl ?_
              refine r_static (mj := 113) (as := [yi v97, yi 0, yi 999]) (rest := []) f_140_115 (by decide) rfl m_113 rfl rfl rfl (Nat.le_of_ble_eq_true rfl) (by omega) (m_within (by omega) (by omega) (by omega)) ?_
              rintro _ _ _ ⟨v115, rfl, hv115, rfl, rfl⟩
              refine r_iret m_140 rfl f_140_118 ?_
              exact ⟨_, rfl, by unfold sFrom; (repeat' split) <;> omega, rfl, rfl⟩
    · refine r_run 7 (pc' := 67) (ls' := [some (yr 75), some (yi s), some (yi (M 76 (5 * s))), some (yi (M 76 ((5 * s) + 2))), some (yi (M 76 ((5 * s) + 4))), some (yi (((M 76 ((5 * s) + 2)) - (M 76 ((5 * s) + 4))) - (M 75 4)))]) (st' := [yi 2, yi (M 76 (5 * s))]) (M' := M) (N' := N) rfl ?_
      refine r_icmp_eq (pc := 67) f_140_67 (by omega) (by omega) (fun h67 => ?_) (fun h67 => ?_)
      · refine r_run 2 (pc' := 77) (ls' := [some (yr 75), some (yi s), some (yi (M 76 (5 * s))), some (yi (M 76 ((5 * s) + 2))), some (yi (M 76 ((5 * s) + 4))), some (yi (((M 76 ((5 * s) + 2)) - (M 76 ((5 * s) + 4))) - (M 75 4)))]) (st' := [yi s, yr 75]) (M' := M) (N' := N) rfl ?_
        refine r_virtual (mj := 139) (b := 75) (as := [yi s]) (rest := []) f_140_77 (by decide) rfl m_139 (by decide) (by decide) (by decide) rfl rfl (Nat.le_of_ble_eq_true rfl) (by omega) (m_isExact hs0 hs hy) ?_
        rintro _ _ _ ⟨v77, rfl, hv77, rfl, rfl⟩
        refine r_if_ne (pc := 80) f_140_80 (by omega) (fun h80 => ?_) (fun h80 => ?_)
        · refine r_run 2 (pc' := 97) (ls' := [some (yr 75), some (yi s), some (yi (M 76 (5 * s))), some (yi (M 76 ((5 * s) + 2))), some (yi (M 76 ((5 * s) + 4))), some (yi (((M 76 ((5 * s) + 2)) - (M 76 ((5 * s) + 4))) - (M 75 4)))]) (st' := [yi s, yr 75]) (M' := M) (N' := N) rfl ?_
          refine r_virtual (mj := 138) (b := 75) (as := [yi s]) (rest := []) f_140_97 (by decide) rfl m_138 (by decide) (by decide) (by decide) rfl rfl (Nat.le_of_ble_eq_true rfl) (by omega) (m_middle hs0 hs) ?_
          rintro _ _ _ ⟨v97, rfl, hv97, rfl, rfl⟩
          refine r_run 5 (pc' := 115) (ls' := [some (yr 75), some (yi s), some (yi (M 76 (5 * s))), some (yi (M 76 ((5 * s) + 2))), some (yi (M 76 ((5 * s) + 4))), some (yi v97)]) (st' := [yi 999, yi 0, yi v97]) (M' := M) (N' := N) rfl ?_
          refine r_static (mj := 113) (as := [yi v97, yi 0, yi 999]) (rest := []) f_140_115 (by decide) rfl m_113 rfl rfl rfl (Nat.le_of_ble_eq_true rfl) (by omega) (m_within (by omega) (by omega) (by omega)) ?_
          rintro _ _ _ ⟨v115, rfl, hv115, rfl, rfl⟩
          refine r_iret m_140 rfl f_140_118 ?_
          exact ⟨_, rfl, by unfold sFrom; (repeat' split) <;> omega, rfl, rfl⟩
        · refine r_run 5 (pc' := 89) (ls' := [some (yr 75), some (yi s), some (yi (M 76 (5 * s))), some (yi (M 76 ((5 * s) + 2))), some (yi (M 76 ((5 * s) + 4))), some (yi (((M 76 ((5 * s) + 2)) - (M 76 ((5 * s) + 4))) - (M 75 4)))]) (st' := [yi s, yr 75, yi ((M 76 ((5 * s) + 2)) + (M 76 ((5 * s) + 4)))]) (M' := M) (N' := N) rfl ?_
          refine r_virtual (mj := 138) (b := 75) (as := [yi s]) (rest := [yi ((M 76 ((5 * s) + 2)) + (M 76 ((5 * s) + 4)))]) f_140_89 (by decide) rfl m_138 (by decide) (by decide) (by decide) rfl rfl (Nat.le_of_ble_eq_true rfl) (by omega) (m_middle hs0 hs) ?_
          rintro _ _ _ ⟨v89, rfl, hv89, rfl, rfl⟩
          refine r_icmp_le (pc := 92) f_140_92 (by omega) (by omega) (fun h92 => ?_) (fun h92 => ?_)
          · refine r_run 7 (pc' := 115) (ls' := [some (yr 75), some (yi s), some (yi (M 76 (5 * s))), some (yi (M 76 ((5 * s) + 2))), some (yi (M 76 ((5 * s) + 4))), some (yi ((M 76 ((5 * s) + 2)) + (M 76 ((5 * s) + 4))))]) (st' := [yi 999, yi 0, yi ((M 76 ((5 * s) + 2)) + (M 76 ((5 * s) + 4)))]) (M' := M) (N' := N) rfl ?_
            refine r_static (mj := 113) (as := [yi ((M 76 ((5 * s) + 2)) + (M 76 ((5 * s) + 4))), yi 0, yi 999]) (rest := []) f_140_115 (by decide) rfl m_113 rfl rfl rfl (Nat.le_of_ble_eq_true rfl) (by omega) (m_within (by omega) (by omega) (by omega)) ?_
            rintro _ _ _ ⟨v115, rfl, hv115, rfl, rfl⟩
            refine r_iret m_140 rfl f_140_118 ?_
            exact ⟨_, rfl, by unfold sFrom; (repeat' split) <;> omega, rfl, rfl⟩
          · refine r_run 2 (pc' := 97) (ls' := [some (yr 75), some (yi s), some (yi (M 76 (5 * s))), some (yi (M 76 ((5 * s) + 2))), some (yi (M 76 ((5 * s) + 4))), some (yi (((M 76 ((5 * s) + 2)) - (M 76 ((5 * s) + 4))) - (M 75 4)))]) (st' := [yi s, yr 75]) (M' := M) (N' := N) rfl ?_
            refine r_virtual (mj := 138) (b := 75) (as := [yi s]) (rest := []) f_140_97 (by decide) rfl m_138 (by decide) (by decide) (by decide) rfl rfl (Nat.le_of_ble_eq_true rfl) (by omega) (m_middle hs0 hs) ?_
            rintro _ _ _ ⟨v97, rfl, hv97, rfl, rfl⟩
            refine r_run 5 (pc' := 115) (ls' := [some (yr 75), some (yi s), some (yi (M 76 (5 * s))), some (yi (M 76 ((5 * s) + 2))), some (yi (M 76 ((5 * s) + 4))), some (yi v97)]) (st' := [yi 999, yi 0, yi v97]) (M' := M) (N' := N) rfl ?_
            refine r_static (mj := 113) (as := [yi v97, yi 0, yi 999]) (rest := []) f_140_115 (by decide) rfl m_113 rfl rfl rfl (Nat.le_of_ble_eq_true rfl) (by omega) (m_within (by omega) (by omega) (by omega)) ?_
            rintro _ _ _ ⟨v115, rfl, hv115, rfl, rfl⟩
            refine r_iret m_140 rfl f_140_118 ?_
            exact ⟨_, rfl, by unfold sFrom; (repeat' split) <;> omega, rfl, rfl⟩
      · refine r_run 2 (pc' := 72) (ls' := [some (yr 75), some (yi s), some (yi (M 76 (5 * s))), some (yi (M 76 ((5 * s) + 2))), some (yi (M 76 ((5 * s) + 4))), some (yi (((M 76 ((5 * s) + 2)) - (M 76 ((5 * s) + 4))) - (M 75 4)))]) (st' := [yi 4, yi (M 76 (5 * s))]) (M' := M) (N' := N) rfl ?_
        refine r_icmp_ne (pc := 72) f_140_72 (by omega) (by omega) (fun h72 => ?_) (fun h72 => ?_)
        · refine r_run 3 (pc' := 115) (ls' := [some (yr 75), some (yi s), some (yi (M 76 (5 * s))), some (yi (M 76 ((5 * s) + 2))), some (yi (M 76 ((5 * s) + 4))), some (yi (((M 76 ((5 * s) + 2)) - (M 76 ((5 * s) + 4))) - (M 75 4)))]) (st' := [yi 999, yi 0, yi (((M 76 ((5 * s) + 2)) - (M 76 ((5 * s) + 4))) - (M 75 4))]) (M' := M) (N' := N) rfl ?_
          refine r_static (mj := 113) (as := [yi (((M 76 ((5 * s) + 2)) - (M 76 ((5 * s) + 4))) - (M 75 4)), yi 0, yi 999]) (rest := []) f_140_115 (by decide) rfl m_113 rfl rfl rfl (Nat.le_of_ble_eq_true rfl) (by omega) (m_within (by omega) (by omega) (by omega)) ?_
          rintro _ _ _ ⟨v115, rfl, hv115, rfl, rfl⟩
          refine r_iret m_140 rfl f_140_118 ?_
          exact ⟨_, rfl, by unfold sFrom; (repeat' split) <;> omega, rfl, rfl⟩
        · refine r_run 2 (pc' := 77) (ls' := [some (yr 75), some (yi s), some (yi (M 76 (5 * s))), some (yi (M 76 ((5 * s) + 2))), some (yi (M 76 ((5 * s) + 4))), some (yi (((M 76 ((5 * s) + 2)) - (M 76 ((5 * s) + 4))) - (M 75 4)))]) (st' := [yi s, yr 75]) (M' := M) (N' := N) rfl ?_
          refine r_virtual (mj := 139) (b := 75) (as := [yi s]) (rest := []) f_140_77 (by decide) rfl m_139 (by decide) (by decide) (by decide) rfl rfl (Nat.le_of_ble_eq_true rfl) (by omega) (m_isExact hs0 hs hy) ?_
          rintro _ _ _ ⟨v77, rfl, hv77, rfl, rfl⟩
          refine r_if_ne (pc := 80) f_140_80 (by omega) (fun h80 => ?_) (fun h80 => ?_)
          · refine r_run 2 (pc' := 97) (ls' := [some (yr 75), some (yi s), some (yi (M 76 (5 * s))), some (yi (M 76 ((5 * s) + 2))), some (yi (M 76 ((5 * s) + 4))), some (yi (((M 76 ((5 * s) + 2)) - (M 76 ((5 * s) + 4))) - (M 75 4)))]) (st' := [yi s, yr 75]) (M' := M) (N' := N) rfl ?_
            refine r_virtual (mj := 138) (b := 75) (as := [yi s]) (rest := []) f_140_97 (by decide) rfl m_138 (by decide) (by decide) (by decide) rfl rfl (Nat.le_of_ble_eq_true rfl) (by omega) (m_middle hs0 hs) ?_
            rintro _ _ _ ⟨v97, rfl, hv97, rfl, rfl⟩
            refine r_run 5 (pc' := 115) (ls' := [some (yr 75), some (yi s), some (yi (M 76 (5 * s))), some (yi (M 76 ((5 * s) + 2))), some (yi (M 76 ((5 * s) + 4))), some (yi v97)]) (st' := [yi 999, yi 0, yi v97]) (M' := M) (N' := N) rfl ?_
            refine r_static (mj := 113) (as := [yi v97, yi 0, yi 999]) (rest := []) f_140_115 (by decide) rfl m_113 rfl rfl rfl (Nat.le_of_ble_eq_true rfl) (by omega) (m_within (by omega) (by omega) (by omega)) ?_
            rintro _ _ _ ⟨v115, rfl, hv115, rfl, rfl⟩
            refine r_iret m_140 rfl f_140_118 ?_
            exact ⟨_, rfl, by unfold sFrom; (repeat' split) <;> omega, rfl, rfl⟩
          · refine r_run 5 (pc' := 89) (ls' := [some (yr 75), some (yi s), some (yi (M 76 (5 * s))), some (yi (M 76 ((5 * s) + 2))), some (yi (M 76 ((5 * s) + 4))), some (yi (((M 76 ((5 * s) + 2)) - (M 76 ((5 * s) + 4))) - (M 75 4)))]) (st' := [yi s, yr 75, yi ((M 76 ((5 * s) + 2)) + (M 76 ((5 * s) + 4)))]) (M' := M) (N' := N) rfl ?_
            refine r_virtual (mj := 138) (b := 75) (as := [yi s]) (rest := [yi ((M 76 ((5 * s) + 2)) + (M 76 ((5 * s) + 4)))]) f_140_89 (by decide) rfl m_138 (by decide) (by decide) (by decide) rfl rfl (Nat.le_of_ble_eq_true rfl) (by omega) (m_middle hs0 hs) ?_
            rintro _ _ _ ⟨v89, rfl, hv89, rfl, rfl⟩
            refine r_icmp_le (pc := 92) f_140_92 (by omega) (by omega) (fun h92 => ?_) (fun h92 => ?_)
            · refine r_run 7 (pc' := 115) (ls' := [some (yr 75), some (yi s), some (yi (M 76 (5 * s))), some (yi (M 76 ((5 * s) + 2))), some (yi (M 76 ((5 * s) + 4))), some (yi ((M 76 ((5 * s) + 2)) + (M 76 ((5 * s) + 4))))]) (st' := [yi 999, yi 0, yi ((M 76 ((5 * s) + 2)) + (M 76 ((5 * s) + 4)))]) (M' := M) (N' := N) rfl ?_
              refine r_static (mj := 113) (as := [yi ((M 76 ((5 * s) + 2)) + (M 76 ((5 * s) + 4))), yi 0, yi 999]) (rest := []) f_140_115 (by decide) rfl m_113 rfl rfl rfl (Nat.le_of_ble_eq_true rfl) (by omega) (m_within (by omega) (by omega) (by omega)) ?_
              rintro _ _ _ ⟨v115, rfl, hv115, rfl, rfl⟩
              refine r_iret m_140 rfl f_140_118 ?_
              exact ⟨_, rfl, by unfold sFrom; (repeat' split) <;> omega, rfl, rfl⟩
            · refine r_run 2 (pc' := 97) (ls' := [some (yr 75), some (yi s), some (yi (M 76 (5 * s))), some (yi (M 76 ((5 * s) + 2))), some (yi (M 76 ((5 * s) + 4))), some (yi (((M 76 ((5 * s) + 2)) - (M 76 ((5 * s) + 4))) - (M 75 4)))]) (st' := [yi s, yr 75]) (M' := M) (N' := N) rfl ?_
              refine r_virtual (mj := 138) (b := 75) (as := [yi s]) (rest := []) f_140_97 (by decide) rfl m_138 (by decide) (by decide) (by decide) rfl rfl (Nat.le_of_ble_eq_true rfl) (by omega) (m_middle hs0 hs) ?_
              rintro _ _ _ ⟨v97, rfl, hv97, rfl, rfl⟩
              refine r_run 5 (pc' := 115) (ls' := [some (yr 75), some (yi s), some (yi (M 76 (5 * s))), some (yi (M 76 ((5 * s) + 2))), some (yi (M 76 ((5 * s) + 4))), some (yi v97)]) (st' := [yi 999, yi 0, yi v97]) (M' := M) (N' := N) rfl ?_
              refine r_static (mj := 113) (as := [yi v97, yi 0, yi 999]) (rest := []) f_140_115 (by decide) rfl m_113 rfl rfl rfl (Nat.le_of_ble_eq_true rfl) (by omega) (m_within (by omega) (by omega) (by omega)) ?_
              rintro _ _ _ ⟨v115, rfl, hv115, rfl, rfl⟩
              refine r_iret m_140 rfl f_140_118 ?_
              exact ⟨_, rfl, by unfold sFrom; (repeat' split) <;> omega, rfl, rfl⟩
  · refine r_run 2 (pc' := 42) (ls' := [some (yr 75), some (yi s), some (yi (M 76 (5 * s))), some (yi (M 76 ((5 * s) + 2))), some (yi (M 76 ((5 * s) + 4))), some (yi (M 76 ((5 * s) + 2)))]) (st' := [yi 3, yi (M 76 (5 * s))]) (M' := M) (N' := N) rfl ?_
    refine r_icmp_ne (pc := 42) f_140_42 (by omega) (by omega) (fun h42 => ?_) (fun h42 => ?_)
    · refine r_run 2 (pc' := 67) (ls' := [some (yr 75), some (yi s), some (yi (M 76 (5 * s))), some (yi (M 76 ((5 * s) + 2))), some (yi (M 76 ((5 * s) + 4))), some (yi (M 76 ((5 * s) + 2)))]) (st' := [yi 2, yi (M 76 (5 * s))]) (M' := M) (N' := N) rfl ?_
      refine r_icmp_eq (pc := 67) f_140_67 (by omega) (by omega) (fun h67 => ?_) (fun h67 => ?_)
      · refine r_run 2 (pc' := 77) (ls' := [some (yr 75), some (yi s), some (yi (M 76 (5 * s))), some (yi (M 76 ((5 * s) + 2))), some (yi (M 76 ((5 * s) + 4))), some (yi (M 76 ((5 * s) + 2)))]) (st' := [yi s, yr 75]) (M' := M) (N' := N) rfl ?_
        refine r_virtual (mj := 139) (b := 75) (as := [yi s]) (rest := []) f_140_77 (by decide) rfl m_139 (by decide) (by decide) (by decide) rfl rfl (Nat.le_of_ble_eq_true rfl) (by omega) (m_isExact hs0 hs hy) ?_
        rintro _ _ _ ⟨v77, rfl, hv77, rfl, rfl⟩
        refine r_if_ne (pc := 80) f_140_80 (by omega) (fun h80 => ?_) (fun h80 => ?_)
        · refine r_run 2 (pc' := 97) (ls' := [some (yr 75), some (yi s), some (yi (M 76 (5 * s))), some (yi (M 76 ((5 * s) + 2))), some (yi (M 76 ((5 * s) + 4))), some (yi (M 76 ((5 * s) + 2)))]) (st' := [yi s, yr 75]) (M' := M) (N' := N) rfl ?_
          refine r_virtual (mj := 138) (b := 75) (as := [yi s]) (rest := []) f_140_97 (by decide) rfl m_138 (by decide) (by decide) (by decide) rfl rfl (Nat.le_of_ble_eq_true rfl) (by omega) (m_middle hs0 hs) ?_
          rintro _ _ _ ⟨v97, rfl, hv97, rfl, rfl⟩
          refine r_run 5 (pc' := 115) (ls' := [some (yr 75), some (yi s), some (yi (M 76 (5 * s))), some (yi (M 76 ((5 * s) + 2))), some (yi (M 76 ((5 * s) + 4))), some (yi v97)]) (st' := [yi 999, yi 0, yi v97]) (M' := M) (N' := N) rfl ?_
          refine r_static (mj := 113) (as := [yi v97, yi 0, yi 999]) (rest := []) f_140_115 (by decide) rfl m_113 rfl rfl rfl (Nat.le_of_ble_eq_true rfl) (by omega) (m_within (by omega) (by omega) (by omega)) ?_
          rintro _ _ _ ⟨v115, rfl, hv115, rfl, rfl⟩
          refine r_iret m_140 rfl f_140_118 ?_
          exact ⟨_, rfl, by unfold sFrom; (repeat' split) <;> omega, rfl, rfl⟩
        · refine r_run 5 (pc' := 89) (ls' := [some (yr 75), some (yi s), some (yi (M 76 (5 * s))), some (yi (M 76 ((5 * s) + 2))), some (yi (M 76 ((5 * s) + 4))), some (yi (M 76 ((5 * s) + 2)))]) (st' := [yi s, yr 75, yi ((M 76 ((5 * s) + 2)) + (M 76 ((5 * s) + 4)))]) (M' := M) (N' := N) rfl ?_
          refine r_virtual (mj := 138) (b := 75) (as := [yi s]) (rest := [yi ((M 76 ((5 * s) + 2)) + (M 76 ((5 * s) + 4)))]) f_140_89 (by decide) rfl m_138 (by decide) (by decide) (by decide) rfl rfl (Nat.le_of_ble_eq_true rfl) (by omega) (m_middle hs0 hs) ?_
          rintro _ _ _ ⟨v89, rfl, hv89, rfl, rfl⟩
          refine r_icmp_le (pc := 92) f_140_92 (by omega) (by omega) (fun h92 => ?_) (fun h92 => ?_)
          · refine r_run 7 (pc' := 115) (ls' := [some (yr 75), some (yi s), some (yi (M 76 (5 * s))), some (yi (M 76 ((5 * s) + 2))), some (yi (M 76 ((5 * s) + 4))), some (yi ((M 76 ((5 * s) + 2)) + (M 76 ((5 * s) + 4))))]) (st' := [yi 999, yi 0, yi ((M 76 ((5 * s) + 2)) + (M 76 ((5 * s) + 4)))]) (M' := M) (N' := N) rfl ?_
            refine r_static (mj := 113) (as := [yi ((M 76 ((5 * s) + 2)) + (M 76 ((5 * s) + 4))), yi 0, yi 999]) (rest := []) f_140_115 (by decide) rfl m_113 rfl rfl rfl (Nat.le_of_ble_eq_true rfl) (by omega) (m_within (by omega) (by omega) (by omega)) ?_
            rintro _ _ _ ⟨v115, rfl, hv115, rfl, rfl⟩
            refine r_iret m_140 rfl f_140_118 ?_
            exact ⟨_, rfl, by unfold sFrom; (repeat' split) <;> omega, rfl, rfl⟩
          · refine r_run 2 (pc' := 97) (ls' := [some (yr 75), some (yi s), some (yi (M 76 (5 * s))), some (yi (M 76 ((5 * s) + 2))), some (yi (M 76 ((5 * s) + 4))), some (yi (M 76 ((5 * s) + 2)))]) (st' := [yi s, yr 75]) (M' := M) (N' := N) rfl ?_
            refine r_virtual (mj := 138) (b := 75) (as := [yi s]) (rest := []) f_140_97 (by decide) rfl m_138 (by decide) (by decide) (by decide) rfl rfl (Nat.le_of_ble_eq_true rfl) (by omega) (m_middle hs0 hs) ?_
            rintro _ _ _ ⟨v97, rfl, hv97, rfl, rfl⟩
            refine r_run 5 (pc' := 115) (ls' := [some (yr 75), some (yi s), some (yi (M 76 (5 * s))), some (yi (M 76 ((5 * s) + 2))), some (yi (M 76 ((5 * s) + 4))), some (yi v97)]) (st' := [yi 999, yi 0, yi v97]) (M' := M) (N' := N) rfl ?_
            refine r_static (mj := 113) (as := [yi v97, yi 0, yi 999]) (rest := []) f_140_115 (by decide) rfl m_113 rfl rfl rfl (Nat.le_of_ble_eq_true rfl) (by omega) (m_within (by omega) (by omega) (by omega)) ?_
            rintro _ _ _ ⟨v115, rfl, hv115, rfl, rfl⟩
            refine r_iret m_140 rfl f_140_118 ?_
            exact ⟨_, rfl, by unfold sFrom; (repeat' split) <;> omega, rfl, rfl⟩
      · refine r_run 2 (pc' := 72) (ls' := [some (yr 75), some (yi s), some (yi (M 76 (5 * s))), some (yi (M 76 ((5 * s) + 2))), some (yi (M 76 ((5 * s) + 4))), some (yi (M 76 ((5 * s) + 2)))]) (st' := [yi 4, yi (M 76 (5 * s))]) (M' := M) (N' := N) rfl ?_
        refine r_icmp_ne (pc := 72) f_140_72 (by omega) (by omega) (fun h72 => ?_) (fun h72 => ?_)
        · refine r_run 3 (pc' := 115) (ls' := [some (yr 75), some (yi s), some (yi (M 76 (5 * s))), some (yi (M 76 ((5 * s) + 2))), some (yi (M 76 ((5 * s) + 4))), some (yi (M 76 ((5 * s) + 2)))]) (st' := [yi 999, yi 0, yi (M 76 ((5 * s) + 2))]) (M' := M) (N' := N) rfl ?_
          refine r_static (mj := 113) (as := [yi (M 76 ((5 * s) + 2)), yi 0, yi 999]) (rest := []) f_140_115 (by decide) rfl m_113 rfl rfl rfl (Nat.le_of_ble_eq_true rfl) (by omega) (m_within (by omega) (by omega) (by omega)) ?_
          rintro _ _ _ ⟨v115, rfl, hv115, rfl, rfl⟩
          refine r_iret m_140 rfl f_140_118 ?_
          exact ⟨_, rfl, by unfold sFrom; (repeat' split) <;> omega, rfl, rfl⟩
        · refine r_run 2 (pc' := 77) (ls' := [some (yr 75), some (yi s), some (yi (M 76 (5 * s))), some (yi (M 76 ((5 * s) + 2))), some (yi (M 76 ((5 * s) + 4))), some (yi (M 76 ((5 * s) + 2)))]) (st' := [yi s, yr 75]) (M' := M) (N' := N) rfl ?_
          refine r_virtual (mj := 139) (b := 75) (as := [yi s]) (rest := []) f_140_77 (by decide) rfl m_139 (by decide) (by decide) (by decide) rfl rfl (Nat.le_of_ble_eq_true rfl) (by omega) (m_isExact hs0 hs hy) ?_
          rintro _ _ _ ⟨v77, rfl, hv77, rfl, rfl⟩
          refine r_if_ne (pc := 80) f_140_80 (by omega) (fun h80 => ?_) (fun h80 => ?_)
          · refine r_run 2 (pc' := 97) (ls' := [some (yr 75), some (yi s), some (yi (M 76 (5 * s))), some (yi (M 76 ((5 * s) + 2))), some (yi (M 76 ((5 * s) + 4))), some (yi (M 76 ((5 * s) + 2)))]) (st' := [yi s, yr 75]) (M' := M) (N' := N) rfl ?_
            refine r_virtual (mj := 138) (b := 75) (as := [yi s]) (rest := []) f_140_97 (by decide) rfl m_138 (by decide) (by decide) (by decide) rfl rfl (Nat.le_of_ble_eq_true rfl) (by omega) (m_middle hs0 hs) ?_
            rintro _ _ _ ⟨v97, rfl, hv97, rfl, rfl⟩
            refine r_run 5 (pc' := 115) (ls' := [some (yr 75), some (yi s), some (yi (M 76 (5 * s))), some (yi (M 76 ((5 * s) + 2))), some (yi (M 76 ((5 * s) + 4))), some (yi v97)]) (st' := [yi 999, yi 0, yi v97]) (M' := M) (N' := N) rfl ?_
            refine r_static (mj := 113) (as := [yi v97, yi 0, yi 999]) (rest := []) f_140_115 (by decide) rfl m_113 rfl rfl rfl (Nat.le_of_ble_eq_true rfl) (by omega) (m_within (by omega) (by omega) (by omega)) ?_
            rintro _ _ _ ⟨v115, rfl, hv115, rfl, rfl⟩
            refine r_iret m_140 rfl f_140_118 ?_
            exact ⟨_, rfl, by unfold sFrom; (repeat' split) <;> omega, rfl, rfl⟩
          · refine r_run 5 (pc' := 89) (ls' := [some (yr 75), some (yi s), some (yi (M 76 (5 * s))), some (yi (M 76 ((5 * s) + 2))), some (yi (M 76 ((5 * s) + 4))), some (yi (M 76 ((5 * s) + 2)))]) (st' := [yi s, yr 75, yi ((M 76 ((5 * s) + 2)) + (M 76 ((5 * s) + 4)))]) (M' := M) (N' := N) rfl ?_
            refine r_virtual (mj := 138) (b := 75) (as := [yi s]) (rest := [yi ((M 76 ((5 * s) + 2)) + (M 76 ((5 * s) + 4)))]) f_140_89 (by decide) rfl m_138 (by decide) (by decide) (by decide) rfl rfl (Nat.le_of_ble_eq_true rfl) (by omega) (m_middle hs0 hs) ?_
            rintro _ _ _ ⟨v89, rfl, hv89, rfl, rfl⟩
            refine r_icmp_le (pc := 92) f_140_92 (by omega) (by omega) (fun h92 => ?_) (fun h92 => ?_)
            · refine r_run 7 (pc' := 115) (ls' := [some (yr 75), some (yi s), some (yi (M 76 (5 * s))), some (yi (M 76 ((5 * s) + 2))), some (yi (M 76 ((5 * s) + 4))), some (yi ((M 76 ((5 * s) + 2)) + (M 76 ((5 * s) + 4))))]) (st' := [yi 999, yi 0, yi ((M 76 ((5 * s) + 2)) + (M 76 ((5 * s) + 4)))]) (M' := M) (N' := N) rfl ?_
              refine r_static (mj := 113) (as := [yi ((M 76 ((5 * s) + 2)) + (M 76 ((5 * s) + 4))), yi 0, yi 999]) (rest := []) f_140_115 (by decide) rfl m_113 rfl rfl rfl (Nat.le_of_ble_eq_true rfl) (by omega) (m_within (by omega) (by omega) (by omega)) ?_
              rintro _ _ _ ⟨v115, rfl, hv115, rfl, rfl⟩
              refine r_iret m_140 rfl f_140_118 ?_
              exact ⟨_, rfl, by unfold sFrom; (repeat' split) <;> omega, rfl, rfl⟩
            · refine r_run 2 (pc' := 97) (ls' := [some (yr 75), some (yi s), some (yi (M 76 (5 * s))), some (yi (M 76 ((5 * s) + 2))), some (yi (M 76 ((5 * s) + 4))), some (yi (M 76 ((5 * s) + 2)))]) (st' := [yi s, yr 75]) (M' := M) (N' := N) rfl ?_
              refine r_virtual (mj := 138) (b := 75) (as := [yi s]) (rest := []) f_140_97 (by decide) rfl m_138 (by decide) (by decide) (by decide) rfl rfl (Nat.le_of_ble_eq_true rfl) (by omega) (m_middle hs0 hs) ?_
              rintro _ _ _ ⟨v97, rfl, hv97, rfl, rfl⟩
              refine r_run 5 (pc' := 115) (ls' := [some (yr 75), some (yi s), some (yi (M 76 (5 * s))), some (yi (M 76 ((5 * s) + 2))), some (yi (M 76 ((5 * s) + 4))), some (yi v97)]) (st' := [yi 999, yi 0, yi v97]) (M' := M) (N' := N) rfl ?_
              refine r_static (mj := 113) (as := [yi v97, yi 0, yi 999]) (rest := []) f_140_115 (by decide) rfl m_113 rfl rfl rfl (Nat.le_of_ble_eq_true rfl) (by omega) (m_within (by omega) (by omega) (by omega)) ?_
              rintro _ _ _ ⟨v115, rfl, hv115, rfl, rfl⟩
              refine r_iret m_140 rfl f_140_118 ?_
              exact ⟨_, rfl, by unfold sFrom; (repeat' split) <;> omega, rfl, rfl⟩
    · refine r_run 5 (pc' := 51) (ls' := [some (yr 75), some (yi s), some (yi (M 76 (5 * s))), some (yi (M 76 ((5 * s) + 2))), some (yi (M 76 ((5 * s) + 4))), some (yi (M 76 ((5 * s) + 2)))]) (st' := [yi 3, yi (M 76 (5 * s)), yi ((M 76 ((5 * s) + 2)) - (M 76 ((5 * s) + 4)))]) (M' := M) (N' := N) rfl ?_
      refine r_icmp_ne (pc := 51) f_140_51 (by omega) (by omega) (fun h51 => ?_) (fun h51 => ?_)
      · refine r_run 5 (pc' := 67) (ls' := [some (yr 75), some (yi s), some (yi (M 76 (5 * s))), some (yi (M 76 ((5 * s) + 2))), some (yi (M 76 ((5 * s) + 4))), some (yi (((M 76 ((5 * s) + 2)) - (M 76 ((5 * s) + 4))) - 0))]) (st' := [yi 2, yi (M 76 (5 * s))]) (M' := M) (N' := N) rfl ?_
        refine r_icmp_eq (pc := 67) f_140_67 (by omega) (by omega) (fun h67 => ?_) (fun h67 => ?_)
        · refine r_run 2 (pc' := 77) (ls' := [some (yr 75), some (yi s), some (yi (M 76 (5 * s))), some (yi (M 76 ((5 * s) + 2))), some (yi (M 76 ((5 * s) + 4))), some (yi (((M 76 ((5 * s) + 2)) - (M 76 ((5 * s) + 4))) - 0))]) (st' := [yi s, yr 75]) (M' := M) (N' := N) rfl ?_
          refine r_virtual (mj := 139) (b := 75) (as := [yi s]) (rest := []) f_140_77 (by decide) rfl m_139 (by decide) (by decide) (by decide) rfl rfl (Nat.le_of_ble_eq_true rfl) (by omega) (m_isExact hs0 hs hy) ?_
          rintro _ _ _ ⟨v77, rfl, hv77, rfl, rfl⟩
          refine r_if_ne (pc := 80) f_140_80 (by omega) (fun h80 => ?_) (fun h80 => ?_)
          · refine r_run 2 (pc' := 97) (ls' := [some (yr 75), some (yi s), some (yi (M 76 (5 * s))), some (yi (M 76 ((5 * s) + 2))), some (yi (M 76 ((5 * s) + 4))), some (yi (((M 76 ((5 * s) + 2)) - (M 76 ((5 * s) + 4))) - 0))]) (st' := [yi s, yr 75]) (M' := M) (N' := N) rfl ?_
            refine r_virtual (mj := 138) (b := 75) (as := [yi s]) (rest := []) f_140_97 (by decide) rfl m_138 (by decide) (by decide) (by decide) rfl rfl (Nat.le_of_ble_eq_true rfl) (by omega) (m_middle hs0 hs) ?_
            rintro _ _ _ ⟨v97, rfl, hv97, rfl, rfl⟩
            refine r_run 5 (pc' := 115) (ls' := [some (yr 75), some (yi s), some (yi (M 76 (5 * s))), some (yi (M 76 ((5 * s) + 2))), some (yi (M 76 ((5 * s) + 4))), some (yi v97)]) (st' := [yi 999, yi 0, yi v97]) (M' := M) (N' := N) rfl ?_
            refine r_static (mj := 113) (as := [yi v97, yi 0, yi 999]) (rest := []) f_140_115 (by decide) rfl m_113 rfl rfl rfl (Nat.le_of_ble_eq_true rfl) (by omega) (m_within (by omega) (by omega) (by omega)) ?_
            rintro _ _ _ ⟨v115, rfl, hv115, rfl, rfl⟩
            refine r_iret m_140 rfl f_140_118 ?_
            exact ⟨_, rfl, by unfold sFrom; (repeat' split) <;> omega, rfl, rfl⟩
          · refine r_run 5 (pc' := 89) (ls' := [some (yr 75), some (yi s), some (yi (M 76 (5 * s))), some (yi (M 76 ((5 * s) + 2))), some (yi (M 76 ((5 * s) + 4))), some (yi (((M 76 ((5 * s) + 2)) - (M 76 ((5 * s) + 4))) - 0))]) (st' := [yi s, yr 75, yi ((M 76 ((5 * s) + 2)) + (M 76 ((5 * s) + 4)))]) (M' := M) (N' := N) rfl ?_
            refine r_virtual (mj := 138) (b := 75) (as := [yi s]) (rest := [yi ((M 76 ((5 * s) + 2)) + (M 76 ((5 * s) + 4)))]) f_140_89 (by decide) rfl m_138 (by decide) (by decide) (by decide) rfl rfl (Nat.le_of_ble_eq_true rfl) (by omega) (m_middle hs0 hs) ?_
            rintro _ _ _ ⟨v89, rfl, hv89, rfl, rfl⟩
            refine r_icmp_le (pc := 92) f_140_92 (by omega) (by omega) (fun h92 => ?_) (fun h92 => ?_)
            · refine r_run 7 (pc' := 115) (ls' := [some (yr 75), some (yi s), some (yi (M 76 (5 * s))), some (yi (M 76 ((5 * s) + 2))), some (yi (M 76 ((5 * s) + 4))), some (yi ((M 76 ((5 * s) + 2)) + (M 76 ((5 * s) + 4))))]) (st' := [yi 999, yi 0, yi ((M 76 ((5 * s) + 2)) + (M 76 ((5 * s) + 4)))]) (M' := M) (N' := N) rfl ?_
              refine r_static (mj := 113) (as := [yi ((M 76 ((5 * s) + 2)) + (M 76 ((5 * s) + 4))), yi 0, yi 999]) (rest := []) f_140_115 (by decide) rfl m_113 rfl rfl rfl (Nat.le_of_ble_eq_true rfl) (by omega) (m_within (by omega) (by omega) (by omega)) ?_
              rintro _ _ _ ⟨v115, rfl, hv115, rfl, rfl⟩
              refine r_iret m_140 rfl f_140_118 ?_
              exact ⟨_, rfl, by unfold sFrom; (repeat' split) <;> omega, rfl, rfl⟩
            · refine r_run 2 (pc' := 97) (ls' := [some (yr 75), some (yi s), some (yi (M 76 (5 * s))), some (yi (M 76 ((5 * s) + 2))), some (yi (M 76 ((5 * s) + 4))), some (yi (((M 76 ((5 * s) + 2)) - (M 76 ((5 * s) + 4))) - 0))]) (st' := [yi s, yr 75]) (M' := M) (N' := N) rfl ?_
              refine r_virtual (mj := 138) (b := 75) (as := [yi s]) (rest := []) f_140_97 (by decide) rfl m_138 (by decide) (by decide) (by decide) rfl rfl (Nat.le_of_ble_eq_true rfl) (by omega) (m_middle hs0 hs) ?_
              rintro _ _ _ ⟨v97, rfl, hv97, rfl, rfl⟩
              refine r_run 5 (pc' := 115) (ls' := [some (yr 75), some (yi s), some (yi (M 76 (5 * s))), some (yi (M 76 ((5 * s) + 2))), some (yi (M 76 ((5 * s) + 4))), some (yi v97)]) (st' := [yi 999, yi 0, yi v97]) (M' := M) (N' := N) rfl ?_
              refine r_static (mj := 113) (as := [yi v97, yi 0, yi 999]) (rest := []) f_140_115 (by decide) rfl m_113 rfl rfl rfl (Nat.le_of_ble_eq_true rfl) (by omega) (m_within (by omega) (by omega) (by omega)) ?_
              rintro _ _ _ ⟨v115, rfl, hv115, rfl, rfl⟩
              refine r_iret m_140 rfl f_140_118 ?_
              exact ⟨_, rfl, by unfold sFrom; (repeat' split) <;> omega, rfl, rfl⟩
        · refine r_run 2 (pc' := 72) (ls' := [some (yr 75), some (yi s), some (yi (M 76 (5 * s))), some (yi (M 76 ((5 * s) + 2))), some (yi (M 76 ((5 * s) + 4))), some (yi (((M 76 ((5 * s) + 2)) - (M 76 ((5 * s) + 4))) - 0))]) (st' := [yi 4, yi (M 76 (5 * s))]) (M' := M) (N' := N) rfl ?_
          refine r_icmp_ne (pc := 72) f_140_72 (by omega) (by omega) (fun h72 => ?_) (fun h72 => ?_)
          · refine r_run 3 (pc' := 115) (ls' := [some (yr 75), some (yi s), some (yi (M 76 (5 * s))), some (yi (M 76 ((5 * s) + 2))), some (yi (M 76 ((5 * s) + 4))), some (yi (((M 76 ((5 * s) + 2)) - (M 76 ((5 * s) + 4))) - 0))]) (st' := [yi 999, yi 0, yi (((M 76 ((5 * s) + 2)) - (M 76 ((5 * s) + 4))) - 0)]) (M' := M) (N' := N) rfl ?_
            refine r_static (mj := 113) (as := [yi (((M 76 ((5 * s) + 2)) - (M 76 ((5 * s) + 4))) - 0), yi 0, yi 999]) (rest := []) f_140_115 (by decide) rfl m_113 rfl rfl rfl (Nat.le_of_ble_eq_true rfl) (by omega) (m_within (by omega) (by omega) (by omega)) ?_
            rintro _ _ _ ⟨v115, rfl, hv115, rfl, rfl⟩
            refine r_iret m_140 rfl f_140_118 ?_
            exact ⟨_, rfl, by unfold sFrom; (repeat' split) <;> omega, rfl, rfl⟩
          · refine r_run 2 (pc' := 77) (ls' := [some (yr 75), some (yi s), some (yi (M 76 (5 * s))), some (yi (M 76 ((5 * s) + 2))), some (yi (M 76 ((5 * s) + 4))), some (yi (((M 76 ((5 * s) + 2)) - (M 76 ((5 * s) + 4))) - 0))]) (st' := [yi s, yr 75]) (M' := M) (N' := N) rfl ?_
            refine r_virtual (mj := 139) (b := 75) (as := [yi s]) (rest := []) f_140_77 (by decide) rfl m_139 (by decide) (by decide) (by decide) rfl rfl (Nat.le_of_ble_eq_true rfl) (by omega) (m_isExact hs0 hs hy) ?_
            rintro _ _ _ ⟨v77, rfl, hv77, rfl, rfl⟩
            refine r_if_ne (pc := 80) f_140_80 (by omega) (fun h80 => ?_) (fun h80 => ?_)
            · refine r_run 2 (pc' := 97) (ls' := [some (yr 75), some (yi s), some (yi (M 76 (5 * s))), some (yi (M 76 ((5 * s) + 2))), some (yi (M 76 ((5 * s) + 4))), some (yi (((M 76 ((5 * s) + 2)) - (M 76 ((5 * s) + 4))) - 0))]) (st' := [yi s, yr 75]) (M' := M) (N' := N) rfl ?_
              refine r_virtual (mj := 138) (b := 75) (as := [yi s]) (rest := []) f_140_97 (by decide) rfl m_138 (by decide) (by decide) (by decide) rfl rfl (Nat.le_of_ble_eq_true rfl) (by omega) (m_middle hs0 hs) ?_
              rintro _ _ _ ⟨v97, rfl, hv97, rfl, rfl⟩
              refine r_run 5 (pc' := 115) (ls' := [some (yr 75), some (yi s), some (yi (M 76 (5 * s))), some (yi (M 76 ((5 * s) + 2))), some (yi (M 76 ((5 * s) + 4))), some (yi v97)]) (st' := [yi 999, yi 0, yi v97]) (M' := M) (N' := N) rfl ?_
              refine r_static (mj := 113) (as := [yi v97, yi 0, yi 999]) (rest := []) f_140_115 (by decide) rfl m_113 rfl rfl rfl (Nat.le_of_ble_eq_true rfl) (by omega) (m_within (by omega) (by omega) (by omega)) ?_
              rintro _ _ _ ⟨v115, rfl, hv115, rfl, rfl⟩
              refine r_iret m_140 rfl f_140_118 ?_
              exact ⟨_, rfl, by unfold sFrom; (repeat' split) <;> omega, rfl, rfl⟩
            · refine r_run 5 (pc' := 89) (ls' := [some (yr 75), some (yi s), some (yi (M 76 (5 * s))), some (yi (M 76 ((5 * s) + 2))), some (yi (M 76 ((5 * s) + 4))), some (yi (((M 76 ((5 * s) + 2)) - (M 76 ((5 * s) + 4))) - 0))]) (st' := [yi s, yr 75, yi ((M 76 ((5 * s) + 2)) + (M 76 ((5 * s) + 4)))]) (M' := M) (N' := N) rfl ?_
              refine r_virtual (mj := 138) (b := 75) (as := [yi s]) (rest := [yi ((M 76 ((5 * s) + 2)) + (M 76 ((5 * s) + 4)))]) f_140_89 (by decide) rfl m_138 (by decide) (by decide) (by decide) rfl rfl (Nat.le_of_ble_eq_true rfl) (by omega) (m_middle hs0 hs) ?_
              rintro _ _ _ ⟨v89, rfl, hv89, rfl, rfl⟩
              refine r_icmp_le (pc := 92) f_140_92 (by omega) (by omega) (fun h92 => ?_) (fun h92 => ?_)
              · refine r_run 7 (pc' := 115) (ls' := [some (yr 75), some (yi s), some (yi (M 76 (5 * s))), some (yi (M 76 ((5 * s) + 2))), some (yi (M 76 ((5 * s) + 4))), some (yi ((M 76 ((5 * s) + 2)) + (M 76 ((5 * s) + 4))))]) (st' := [yi 999, yi 0, yi ((M 76 ((5 * s) + 2)) + (M 76 ((5 * s) + 4)))]) (M' := M) (N' := N) rfl ?_
                refine r_static (mj := 113) (as := [yi ((M 76 ((5 * s) + 2)) + (M 76 ((5 * s) + 4))), yi 0, yi 999]) (rest := []) f_140_115 (by decide) rfl m_113 rfl rfl rfl (Nat.le_of_ble_eq_true rfl) (by omega) (m_within (by omega) (by omega) (by omega)) ?_
                rintro _ _ _ ⟨v115, rfl, hv115, rfl, rfl⟩
                refine r_iret m_140 rfl f_140_118 ?_
                exact ⟨_, rfl, by unfold sFrom; (repeat' split) <;> omega, rfl, rfl⟩
              · refine r_run 2 (pc' := 97) (ls' := [some (yr 75), some (yi s), some (yi (M 76 (5 * s))), some (yi (M 76 ((5 * s) + 2))), some (yi (M 76 ((5 * s) + 4))), some (yi (((M 76 ((5 * s) + 2)) - (M 76 ((5 * s) + 4))) - 0))]) (st' := [yi s, yr 75]) (M' := M) (N' := N) rfl ?_
                refine r_virtual (mj := 138) (b := 75) (as := [yi s]) (rest := []) f_140_97 (by decide) rfl m_138 (by decide) (by decide) (by decide) rfl rfl (Nat.le_of_ble_eq_true rfl) (by omega) (m_middle hs0 hs) ?_
                rintro _ _ _ ⟨v97, rfl, hv97, rfl, rfl⟩
                refine r_run 5 (pc' := 115) (ls' := [some (yr 75), some (yi s), some (yi (M 76 (5 * s))), some (yi (M 76 ((5 * s) + 2))), some (yi (M 76 ((5 * s) + 4))), some (yi v97)]) (st' := [yi 999, yi 0, yi v97]) (M' := M) (N' := N) rfl ?_
                refine r_static (mj := 113) (as := [yi v97, yi 0, yi 999]) (rest := []) f_140_115 (by decide) rfl m_113 rfl rfl rfl (Nat.le_of_ble_eq_true rfl) (by omega) (m_within (by omega) (by omega) (by omega)) ?_
                rintro _ _ _ ⟨v115, rfl, hv115, rfl, rfl⟩
                refine r_iret m_140 rfl f_140_118 ?_
                exact ⟨_, rfl, by unfold sFrom; (repeat' split) <;> omega, rfl, rfl⟩
      · refine r_run 7 (pc' := 67) (ls' := [some (yr 75), some (yi s), some (yi (M 76 (5 * s))), some (yi (M 76 ((5 * s) + 2))), some (yi (M 76 ((5 * s) + 4))), some (yi (((M 76 ((5 * s) + 2)) - (M 76 ((5 * s) + 4))) - (M 75 4)))]) (st' := [yi 2, yi (M 76 (5 * s))]) (M' := M) (N' := N) rfl ?_
        refine r_icmp_eq (pc := 67) f_140_67 (by omega) (by omega) (fun h67 => ?_) (fun h67 => ?_)
        · refine r_run 2 (pc' := 77) (ls' := [some (yr 75), some (yi s), some (yi (M 76 (5 * s))), some (yi (M 76 ((5 * s) + 2))), some (yi (M 76 ((5 * s) + 4))), some (yi (((M 76 ((5 * s) + 2)) - (M 76 ((5 * s) + 4))) - (M 75 4)))]) (st' := [yi s, yr 75]) (M' := M) (N' := N) rfl ?_
          refine r_virtual (mj := 139) (b := 75) (as := [yi s]) (rest := []) f_140_77 (by decide) rfl m_139 (by decide) (by decide) (by decide) rfl rfl (Nat.le_of_ble_eq_true rfl) (by omega) (m_isExact hs0 hs hy) ?_
          rintro _ _ _ ⟨v77, rfl, hv77, rfl, rfl⟩
          refine r_if_ne (pc := 80) f_140_80 (by omega) (fun h80 => ?_) (fun h80 => ?_)
          · refine r_run 2 (pc' := 97) (ls' := [some (yr 75), some (yi s), some (yi (M 76 (5 * s))), some (yi (M 76 ((5 * s) + 2))), some (yi (M 76 ((5 * s) + 4))), some (yi (((M 76 ((5 * s) + 2)) - (M 76 ((5 * s) + 4))) - (M 75 4)))]) (st' := [yi s, yr 75]) (M' := M) (N' := N) rfl ?_
            refine r_virtual (mj := 138) (b := 75) (as := [yi s]) (rest := []) f_140_97 (by decide) rfl m_138 (by decide) (by decide) (by decide) rfl rfl (Nat.le_of_ble_eq_true rfl) (by omega) (m_middle hs0 hs) ?_
            rintro _ _ _ ⟨v97, rfl, hv97, rfl, rfl⟩
            refine r_run 5 (pc' := 115) (ls' := [some (yr 75), some (yi s), some (yi (M 76 (5 * s))), some (yi (M 76 ((5 * s) + 2))), some (yi (M 76 ((5 * s) + 4))), some (yi v97)]) (st' := [yi 999, yi 0, yi v97]) (M' := M) (N' := N) rfl ?_
            refine r_static (mj := 113) (as := [yi v97, yi 0, yi 999]) (rest := []) f_140_115 (by decide) rfl m_113 rfl rfl rfl (Nat.le_of_ble_eq_true rfl) (by omega) (m_within (by omega) (by omega) (by omega)) ?_
            rintro _ _ _ ⟨v115, rfl, hv115, rfl, rfl⟩
            refine r_iret m_140 rfl f_140_118 ?_
            exact ⟨_, rfl, by unfold sFrom; (repeat' split) <;> omega, rfl, rfl⟩
          · refine r_run 5 (pc' := 89) (ls' := [some (yr 75), some (yi s), some (yi (M 76 (5 * s))), some (yi (M 76 ((5 * s) + 2))), some (yi (M 76 ((5 * s) + 4))), some (yi (((M 76 ((5 * s) + 2)) - (M 76 ((5 * s) + 4))) - (M 75 4)))]) (st' := [yi s, yr 75, yi ((M 76 ((5 * s) + 2)) + (M 76 ((5 * s) + 4)))]) (M' := M) (N' := N) rfl ?_
            refine r_virtual (mj := 138) (b := 75) (as := [yi s]) (rest := [yi ((M 76 ((5 * s) + 2)) + (M 76 ((5 * s) + 4)))]) f_140_89 (by decide) rfl m_138 (by decide) (by decide) (by decide) rfl rfl (Nat.le_of_ble_eq_true rfl) (by omega) (m_middle hs0 hs) ?_
            rintro _ _ _ ⟨v89, rfl, hv89, rfl, rfl⟩
            refine r_icmp_le (pc := 92) f_140_92 (by omega) (by omega) (fun h92 => ?_) (fun h92 => ?_)
            · refine r_run 7 (pc' := 115) (ls' := [some (yr 75), some (yi s), some (yi (M 76 (5 * s))), some (yi (M 76 ((5 * s) + 2))), some (yi (M 76 ((5 * s) + 4))), some (yi ((M 76 ((5 * s) + 2)) + (M 76 ((5 * s) + 4))))]) (st' := [yi 999, yi 0, yi ((M 76 ((5 * s) + 2)) + (M 76 ((5 * s) + 4)))]) (M' := M) (N' := N) rfl ?_
              refine r_static (mj := 113) (as := [yi ((M 76 ((5 * s) + 2)) + (M 76 ((5 * s) + 4))), yi 0, yi 999]) (rest := []) f_140_115 (by decide) rfl m_113 rfl rfl rfl (Nat.le_of_ble_eq_true rfl) (by omega) (m_within (by omega) (by omega) (by omega)) ?_
              rintro _ _ _ ⟨v115, rfl, hv115, rfl, rfl⟩
              refine r_iret m_140 rfl f_140_118 ?_
              exact ⟨_, rfl, by unfold sFrom; (repeat' split) <;> omega, rfl, rfl⟩
            · refine r_run 2 (pc' := 97) (ls' := [some (yr 75), some (yi s), some (yi (M 76 (5 * s))), some (yi (M 76 ((5 * s) + 2))), some (yi (M 76 ((5 * s) + 4))), some (yi (((M 76 ((5 * s) + 2)) - (M 76 ((5 * s) + 4))) - (M 75 4)))]) (st' := [yi s, yr 75]) (M' := M) (N' := N) rfl ?_
              refine r_virtual (mj := 138) (b := 75) (as := [yi s]) (rest := []) f_140_97 (by decide) rfl m_138 (by decide) (by decide) (by decide) rfl rfl (Nat.le_of_ble_eq_true rfl) (by omega) (m_middle hs0 hs) ?_
              rintro _ _ _ ⟨v97, rfl, hv97, rfl, rfl⟩
              refine r_run 5 (pc' := 115) (ls' := [some (yr 75), some (yi s), some (yi (M 76 (5 * s))), some (yi (M 76 ((5 * s) + 2))), some (yi (M 76 ((5 * s) + 4))), some (yi v97)]) (st' := [yi 999, yi 0, yi v97]) (M' := M) (N' := N) rfl ?_
              refine r_static (mj := 113) (as := [yi v97, yi 0, yi 999]) (rest := []) f_140_115 (by decide) rfl m_113 rfl rfl rfl (Nat.le_of_ble_eq_true rfl) (by omega) (m_within (by omega) (by omega) (by omega)) ?_
              rintro _ _ _ ⟨v115, rfl, hv115, rfl, rfl⟩
              refine r_iret m_140 rfl f_140_118 ?_
              exact ⟨_, rfl, by unfold sFrom; (repeat' split) <;> omega, rfl, rfl⟩
        · refine r_run 2 (pc' := 72) (ls' := [some (yr 75), some (yi s), some (yi (M 76 (5 * s))), some (yi (M 76 ((5 * s) + 2))), some (yi (M 76 ((5 * s) + 4))), some (yi (((M 76 ((5 * s) + 2)) - (M 76 ((5 * s) + 4))) - (M 75 4)))]) (st' := [yi 4, yi (M 76 (5 * s))]) (M' := M) (N' := N) rfl ?_
          refine r_icmp_ne (pc := 72) f_140_72 (by omega) (by omega) (fun h72 => ?_) (fun h72 => ?_)
          · refine r_run 3 (pc' := 115) (ls' := [some (yr 75), some (yi s), some (yi (M 76 (5 * s))), some (yi (M 76 ((5 * s) + 2))), some (yi (M 76 ((5 * s) + 4))), some (yi (((M 76 ((5 * s) + 2)) - (M 76 ((5 * s) + 4))) - (M 75 4)))]) (st' := [yi 999, yi 0, yi (((M 76 ((5 * s) + 2)) - (M 76 ((5 * s) + 4))) - (M 75 4))]) (M' := M) (N' := N) rfl ?_
            refine r_static (mj := 113) (as := [yi (((M 76 ((5 * s) + 2)) - (M 76 ((5 * s) + 4))) - (M 75 4)), yi 0, yi 999]) (rest := []) f_140_115 (by decide) rfl m_113 rfl rfl rfl (Nat.le_of_ble_eq_true rfl) (by omega) (m_within (by omega) (by omega) (by omega)) ?_
            rintro _ _ _ ⟨v115, rfl, hv115, rfl, rfl⟩
            refine r_iret m_140 rfl f_140_118 ?_
            exact ⟨_, rfl, by unfold sFrom; (repeat' split) <;> omega, rfl, rfl⟩
          · refine r_run 2 (pc' := 77) (ls' := [some (yr 75), some (yi s), some (yi (M 76 (5 * s))), some (yi (M 76 ((5 * s) + 2))), some (yi (M 76 ((5 * s) + 4))), some (yi (((M 76 ((5 * s) + 2)) - (M 76 ((5 * s) + 4))) - (M 75 4)))]) (st' := [yi s, yr 75]) (M' := M) (N' := N) rfl ?_
            refine r_virtual (mj := 139) (b := 75) (as := [yi s]) (rest := []) f_140_77 (by decide) rfl m_139 (by decide) (by decide) (by decide) rfl rfl (Nat.le_of_ble_eq_true rfl) (by omega) (m_isExact hs0 hs hy) ?_
            rintro _ _ _ ⟨v77, rfl, hv77, rfl, rfl⟩
            refine r_if_ne (pc := 80) f_140_80 (by omega) (fun h80 => ?_) (fun h80 => ?_)
            · refine r_run 2 (pc' := 97) (ls' := [some (yr 75), some (yi s), some (yi (M 76 (5 * s))), some (yi (M 76 ((5 * s) + 2))), some (yi (M 76 ((5 * s) + 4))), some (yi (((M 76 ((5 * s) + 2)) - (M 76 ((5 * s) + 4))) - (M 75 4)))]) (st' := [yi s, yr 75]) (M' := M) (N' := N) rfl ?_
              refine r_virtual (mj := 138) (b := 75) (as := [yi s]) (rest := []) f_140_97 (by decide) rfl m_138 (by decide) (by decide) (by decide) rfl rfl (Nat.le_of_ble_eq_true rfl) (by omega) (m_middle hs0 hs) ?_
              rintro _ _ _ ⟨v97, rfl, hv97, rfl, rfl⟩
              refine r_run 5 (pc' := 115) (ls' := [some (yr 75), some (yi s), some (yi (M 76 (5 * s))), some (yi (M 76 ((5 * s) + 2))), some (yi (M 76 ((5 * s) + 4))), some (yi v97)]) (st' := [yi 999, yi 0, yi v97]) (M' := M) (N' := N) rfl ?_
              refine r_static (mj := 113) (as := [yi v97, yi 0, yi 999]) (rest := []) f_140_115 (by decide) rfl m_113 rfl rfl rfl (Nat.le_of_ble_eq_true rfl) (by omega) (m_within (by omega) (by omega) (by omega)) ?_
              rintro _ _ _ ⟨v115, rfl, hv115, rfl, rfl⟩
              refine r_iret m_140 rfl f_140_118 ?_
              exact ⟨_, rfl, by unfold sFrom; (repeat' split) <;> omega, rfl, rfl⟩
            · refine r_run 5 (pc' := 89) (ls' := [some (yr 75), some (yi s), some (yi (M 76 (5 * s))), some (yi (M 76 ((5 * s) + 2))), some (yi (M 76 ((5 * s) + 4))), some (yi (((M 76 ((5 * s) + 2)) - (M 76 ((5 * s) + 4))) - (M 75 4)))]) (st' := [yi s, yr 75, yi ((M 76 ((5 * s) + 2)) + (M 76 ((5 * s) + 4)))]) (M' := M) (N' := N) rfl ?_
              refine r_virtual (mj := 138) (b := 75) (as := [yi s]) (rest := [yi ((M 76 ((5 * s) + 2)) + (M 76 ((5 * s) + 4)))]) f_140_89 (by decide) rfl m_138 (by decide) (by decide) (by decide) rfl rfl (Nat.le_of_ble_eq_true rfl) (by omega) (m_middle hs0 hs) ?_
              rintro _ _ _ ⟨v89, rfl, hv89, rfl, rfl⟩
              refine r_icmp_le (pc := 92) f_140_92 (by omega) (by omega) (fun h92 => ?_) (fun h92 => ?_)
              · refine r_run 7 (pc' := 115) (ls' := [some (yr 75), some (yi s), some (yi (M 76 (5 * s))), some (yi (M 76 ((5 * s) + 2))), some (yi (M 76 ((5 * s) + 4))), some (yi ((M 76 ((5 * s) + 2)) + (M 76 ((5 * s) + 4))))]) (st' := [yi 999, yi 0, yi ((M 76 ((5 * s) + 2)) + (M 76 ((5 * s) + 4)))]) (M' := M) (N' := N) rfl ?_
                refine r_static (mj := 113) (as := [yi ((M 76 ((5 * s) + 2)) + (M 76 ((5 * s) + 4))), yi 0, yi 999]) (rest := []) f_140_115 (by decide) rfl m_113 rfl rfl rfl (Nat.le_of_ble_eq_true rfl) (by omega) (m_within (by omega) (by omega) (by omega)) ?_
                rintro _ _ _ ⟨v115, rfl, hv115, rfl, rfl⟩
                refine r_iret m_140 rfl f_140_118 ?_
                exact ⟨_, rfl, by unfold sFrom; (repeat' split) <;> omega, rfl, rfl⟩
              · refine r_run 2 (pc' := 97) (ls' := [some (yr 75), some (yi s), some (yi (M 76 (5 * s))), some (yi (M 76 ((5 * s) + 2))), some (yi (M 76 ((5 * s) + 4))), some (yi (((M 76 ((5 * s) + 2)) - (M 76 ((5 * s) + 4))) - (M 75 4)))]) (st' := [yi s, yr 75]) (M' := M) (N' := N) rfl ?_
                refine r_virtual (mj := 138) (b := 75) (as := [yi s]) (rest := []) f_140_97 (by decide) rfl m_138 (by decide) (by decide) (by decide) rfl rfl (Nat.le_of_ble_eq_true rfl) (by omega) (m_middle hs0 hs) ?_
                rintro _ _ _ ⟨v97, rfl, hv97, rfl, rfl⟩
                refine r_run 5 (pc' := 115) (ls' := [some (yr 75), some (yi s), some (yi (M 76 (5 * s))), some (yi (M 76 ((5 * s) + 2))), some (yi (M 76 ((5 * s) + 4))), some (yi v97)]) (st' := [yi 999, yi 0, yi v97]) (M' := M) (N' := N) rfl ?_
                refine r_static (mj := 113) (as := [yi v97, yi 0, yi 999]) (rest := []) f_140_115 (by decide) rfl m_113 rfl rfl rfl (Nat.le_of_ble_eq_true rfl) (by omega) (m_within (by omega) (by omega) (by omega)) ?_
                rintro _ _ _ ⟨v115, rfl, hv115, rfl, rfl⟩
                refine r_iret m_140 rfl f_140_118 ?_
                exact ⟨_, rfl, by unfold sFrom; (repeat' split) <;> omega, rfl, rfl⟩
theorem m_upTo {S : XS} {M N : YM} {s : Int} (hs0 : 0 ≤ s ∧ s < 10) (hs : sOk (M 76 (5 * s)) (M 76 (5 * s + 4)) (M 76 (5 * s + 2)) (M 76 (5 * s + 3))) (hy : 0 ≤ M 75 4 ∧ M 75 4 ≤ 99)  : rm S 1 141 [yr 75, yi s] M N (fun r M' N' => ∃ v : Int, some (yi v) = r ∧ (v = sUpTo (M 76 (5 * s)) (M 76 (5 * s + 4)) (M 76 (5 * s + 2)) (M 76 (5 * s + 3)) (M 75 4)) ∧ M = M' ∧ N = N') := by
  refine ⟨xe_141, m_141, Nat.le_of_ble_eq_true rfl, ?_⟩
  refine r_run 5 (pc' := 7) (ls' := [some (yr 75), some (yi s), none, none, none, none]) (st' := [yi (5 * s), yr 76]) (M' := M) (N' := N) rfl ?_
  refine r_iald (n := 50) f_141_7 (by decide) (by decide) (by decide) (by omega) ?_
  refine r_run 8 (pc' := 18) (ls' := [some (yr 75), some (yi s), some (yi (M 76 (5 * s))), none, none, none]) (st' := [yi ((5 * s) + 3), yr 76]) (M' := M) (N' := N) rfl ?_
  refine r_iald (n := 50) f_141_18 (by decide) (by decide) (by decide) (by omega) ?_
  refine r_run 8 (pc' := 29) (ls' := [some (yr 75), some (yi s), some (yi (M 76 (5 * s))), some (yi (M 76 ((5 * s) + 3))), none, none]) (st' := [yi ((5 * s) + 4), yr 76]) (M' := M) (N' := N) rfl ?_
  refine r_iald (n := 50) f_141_29 (by decide) (by decide) (by decide) (by omega) ?_
  refine r_run 3 (pc' := 34) (ls' := [some (yr 75), some (yi s), some (yi (M 76 (5 * s))), some (yi (M 76 ((5 * s) + 3))), some (yi (M 76 ((5 * s) + 4))), none]) (st' := [yi 5, yi (M 76 (5 * s))]) (M' := M) (N' := N) rfl ?_
  refine r_icmp_ne (pc := 34) f_141_34 (by omega) (by omega) (fun h34 => ?_) (fun h34 => ?_)
  · refine r_run 4 (pc' := 48) (ls' := [some (yr 75), some (yi s), some (yi (M 76 (5 * s))), some (yi (M 76 ((5 * s) + 3))), some (yi (M 76 ((5 * s) + 4))), some (yi (M 76 ((5 * s) + 3)))]) (st' := [yi 1, yi (M 76 (5 * s))]) (M' := M) (N' := N) rfl ?_
    refine r_icmp_eq (pc := 48) f_141_48 (by omega) (by omega) (fun h48 => ?_) (fun h48 => ?_)
    · refine r_run 5 (pc' := 62) (ls' := [some (yr 75), some (yi s), some (yi (M 76 (5 * s))), some (yi (M 76 ((5 * s) + 3))), some (yi (M 76 ((5 * s) + 4))), some (yi (M 76 ((5 * s) + 3)))]) (st' := [yi 3, yi (M 76 (5 * s)), yi ((M 76 ((5 * s) + 3)) + (M 76 ((5 * s) + 4)))]) (M' := M) (N' := N) rfl ?_
      refine r_icmp_ne (pc := 62) f_141_62 (by omega) (by omega) (fun h62 => ?_) (fun h62 => ?_)
      · refine r_run 5 (pc' := 78) (ls' := [some (yr 75), some (yi s), some (yi (M 76 (5 * s))), some (yi (M 76 ((5 * s) + 3))), some (yi (M 76 ((5 * s) + 4))), some (yi (((M 76 ((5 * s) + 3)) + (M 76 ((5 * s) + 4))) + 0))]) (st' := [yi 2, yi (M 76 (5 * s))]) (M' := M) (N' := N) rfl ?_
        refine r_icmp_eq (pc := 78) f_141_78 (by omega) (by omega) (fun h78 => ?_) (fun h78 => ?_)
        · refine r_run 2 (pc' := 88) (ls' := [some (yr 75), some (yi s), some (yi (M 76 (5 * s))), some (yi (M 76 ((5 * s) + 3))), some (yi (M 76 ((5 * s) + 4))), some (yi (((M 76 ((5 * s) + 3)) + (M 76 ((5 * s) + 4))) + 0))]) (st' := [yi s, yr 75]) (M' := M) (N' := N) rfl ?_
          refine r_virtual (mj := 139) (b := 75) (as := [yi s]) (rest := []) f_141_88 (by decide) rfl m_139 (by decide) (by decide) (by decide) rfl rfl (Nat.le_of_ble_eq_true rfl) (by omega) (m_isExact hs0 hs hy) ?_
          rintro _ _ _ ⟨v88, rfl, hv88, rfl, rfl⟩
          refine r_if_ne (pc := 91) f_141_91 (by omega) (fun h91 => ?_) (fun h91 => ?_)
          · refine r_run 2 (pc' := 108) (ls' := [some (yr 75), some (yi s), some (yi (M 76 (5 * s))), some (yi (M 76 ((5 * s) + 3))), some (yi (M 76 ((5 * s) + 4))), some (yi (((M 76 ((5 * s) + 3)) + (M 76 ((5 * s) + 4))) + 0))]) (st' := [yi s, yr 75]) (M' := M) (N' := N) rfl ?_
            refine r_virtual (mj := 138) (b := 75) (as := [yi s]) (rest := []) f_141_108 (by decide) rfl m_138 (by decide) (by decide) (by decide) rfl rfl (Nat.le_of_ble_eq_true rfl) (by omega) (m_middle hs0 hs) ?_
            rintro _ _ _ ⟨v108, rfl, hv108, rfl, rfl⟩
            refine r_run 5 (pc' := 126) (ls' := [some (yr 75), some (yi s), some (yi (M 76 (5 * s))), some (yi (M 76 ((5 * s) + 3))), some (yi (M 76 ((5 * s) + 4))), some (yi v108)]) (st' := [yi 999, yi 0, yi v108]) (M' := M) (N' := N) rfl ?_
            refine r_static (mj := 113) (as := [yi v108, yi 0, yi 999]) (rest := []) f_141_126 (by decide) rfl m_113 rfl rfl rfl (Nat.le_of_ble_eq_true rfl) (by omega) (m_within (by omega) (by omega) (by omega)) ?_
            rintro _ _ _ ⟨v126, rfl, hv126, rfl, rfl⟩
            refine r_iret m_141 rfl f_141_129 ?_
            exact ⟨_, rfl, by unfold sUpTo; (repeat' split) <;> omega, rfl, rfl⟩
          · refine r_run 5 (pc' := 100) (ls' := [some (yr 75), some (yi s), some (yi (M 76 (5 * s))), some (yi (M 76 ((5 * s) + 3))), some (yi (M 76 ((5 * s) + 4))), some (yi (((M 76 ((5 * s) + 3)) + (M 76 ((5 * s) + 4))) + 0))]) (st' := [yi s, yr 75, yi ((M 76 ((5 * s) + 3)) - (M 76 ((5 * s) + 4)))]) (M' := M) (N' := N) rfl ?_
            refine r_virtual (mj := 138) (b := 75) (as := [yi s]) (rest := [yi ((M 76 ((5 * s) + 3)) - (M 76 ((5 * s) + 4)))]) f_141_100 (by decide) rfl m_138 (by decide) (by decide) (by decide) rfl rfl (Nat.le_of_ble_eq_true rfl) (by omega) (m_middle hs0 hs) ?_
            rintro _ _ _ ⟨v100, rfl, hv100, rfl, rfl⟩
            refine r_icmp_ge (pc := 103) f_141_103 (by omega) (by omega) (fun h103 => ?_) (fun h103 => ?_)
            · refine r_run 7 (pc' := 126) (ls' := [some (yr 75), some (yi s), some (yi (M 76 (5 * s))), some (yi (M 76 ((5 * s) + 3))), some (yi (M 76 ((5 * s) + 4))), some (yi ((M 76 ((5 * s) + 3)) - (M 76 ((5 * s) + 4))))]) (st' := [yi 999, yi 0, yi ((M 76 ((5 * s) + 3)) - (M 76 ((5 * s) + 4)))]) (M' := M) (N' := N) rfl ?_
              refine r_static (mj := 113) (as := [yi ((M 76 ((5 * s) + 3)) - (M 76 ((5 * s) + 4))), yi 0, yi 999]) (rest := []) f_141_126 (by decide) rfl m_113 rfl rfl rfl (Nat.le_of_ble_eq_true rfl) (by omega) (m_within (by omega) (by omega) (by omega)) ?_
              rintro _ _ _ ⟨v126, rfl, hv126, rfl, rfl⟩
              refine r_iret m_141 rfl f_141_129 ?_
              exact ⟨_, rfl, by unfold sUpTo; (repeat' split) <;> omega, rfl, rfl⟩
            · refine r_run 2 (pc' := 108) (ls' := [some (yr 75), some (yi s), some (yi (M 76 (5 * s))), some (yi (M 76 ((5 * s) + 3))), some (yi (M 76 ((5 * s) + 4))), some (yi (((M 76 ((5 * s) + 3)) + (M 76 ((5 * s) + 4))) + 0))]) (st' := [yi s, yr 75]) (M' := M) (N' := N) rfl ?_
              refine r_virtual (mj := 138) (b := 75) (as := [yi s]) (rest := []) f_141_108 (by decide) rfl m_138 (by decide) (by decide) (by decide) rfl rfl (Nat.le_of_ble_eq_true rfl) (by omega) (m_middle hs0 hs) ?_
              rintro _ _ _ ⟨v108, rfl, hv108, rfl, rfl⟩
              refine r_run 5 (pc' := 126) (ls' := [some (yr 75), some (yi s), some (yi (M 76 (5 * s))), some (yi (M 76 ((5 * s) + 3))), some (yi (M 76 ((5 * s) + 4))), some (yi v108)]) (st' := [yi 999, yi 0, yi v108]) (M' := M) (N' := N) rfl ?_
              refine r_static (mj := 113) (as := [yi v108, yi 0, yi 999]) (rest := []) f_141_126 (by decide) rfl m_113 rfl rfl rfl (Nat.le_of_ble_eq_true rfl) (by omega) (m_within (by omega) (by omega) (by omega)) ?_
              rintro _ _ _ ⟨v126, rfl, hv126, rfl, rfl⟩
              refine r_iret m_141 rfl f_141_129 ?_
              exact ⟨_, rfl, by unfold sUpTo; (repeat' split) <;> omega, rfl, rfl⟩
        · refine r_run 2 (pc' := 83) (ls' := [some (yr 75), some (yi s), some (yi (M 76 (5 * s))), some (yi (M 76 ((5 * s) + 3))), some (yi (M 76 ((5 * s) + 4))), some (yi (((M 76 ((5 * s) + 3)) + (M 76 ((5 * s) + 4))) + 0))]) (st' := [yi 4, yi (M 76 (5 * s))]) (M' := M) (N' := N) rfl ?_
          refine r_icmp_ne (pc := 83) f_141_83 (by omega) (by omega) (fun h83 => ?_) (fun h83 => ?_)
          · refine r_run 3 (pc' := 126) (ls' := [some (yr 75), some (yi s), some (yi (M 76 (5 * s))), some (yi (M 76 ((5 * s) + 3))), some (yi (M 76 ((5 * s) + 4))), some (yi (((M 76 ((5 * s) + 3)) + (M 76 ((5 * s) + 4))) + 0))]) (st' := [yi 999, yi 0, yi (((M 76 ((5 * s) + 3)) + (M 76 ((5 * s) + 4))) + 0)]) (M' := M) (N' := N) rfl ?_
            refine r_static (mj := 113) (as := [yi (((M 76 ((5 * s) + 3)) + (M 76 ((5 * s) + 4))) + 0), yi 0, yi 999]) (rest := []) f_141_126 (by decide) rfl m_113 rfl rfl rfl (Nat.le_of_ble_eq_true rfl) (by omega) (m_within (by omega) (by omega) (by omega)) ?_
            rintro _ _ _ ⟨v126, rfl, hv126, rfl, rfl⟩
            refine r_iret m_141 rfl f_141_129 ?_
            exact ⟨_, rfl, by unfold sUpTo; (repeat' split) <;> omega, rfl, rfl⟩
          · refine r_run 2 (pc' := 88) (ls' := [some (yr 75), some (yi s), some (yi (M 76 (5 * s))), some (yi (M 76 ((5 * s) + 3))), some (yi (M 76 ((5 * s) + 4))), some (yi (((M 76 ((5 * s) + 3)) + (M 76 ((5 * s) + 4))) + 0))]) (st' := [yi s, yr 75]) (M' := M) (N' := N) rfl ?_
            refine r_virtual (mj := 139) (b := 75) (as := [yi s]) (rest := []) f_141_88 (by decide) rfl m_139 (by decide) (by decide) (by decide) rfl rfl (Nat.le_of_ble_eq_true rfl) (by omega) (m_isExact hs0 hs hy) ?_
            rintro _ _ _ ⟨v88, rfl, hv88, rfl, rfl⟩
            refine r_if_ne (pc := 91) f_141_91 (by omega) (fun h91 => ?_) (fun h91 => ?_)
            · refine r_run 2 (pc' := 108) (ls' := [some (yr 75), some (yi s), some (yi (M 76 (5 * s))), some (yi (M 76 ((5 * s) + 3))), some (yi (M 76 ((5 * s) + 4))), some (yi (((M 76 ((5 * s) + 3)) + (M 76 ((5 * s) + 4))) + 0))]) (st' := [yi s, yr 75]) (M' := M) (N' := N) rfl ?_
              refine r_virtual (mj := 138) (b := 75) (as := [yi s]) (rest := []) f_141_108 (by decide) rfl m_138 (by decide) (by decide) (by decide) rfl rfl (Nat.le_of_ble_eq_true rfl) (by omega) (m_middle hs0 hs) ?_
              rintro _ _ _ ⟨v108, rfl, hv108, rfl, rfl⟩
              refine r_run 5 (pc' := 126) (ls' := [some (yr 75), some (yi s), some (yi (M 76 (5 * s))), some (yi (M 76 ((5 * s) + 3))), some (yi (M 76 ((5 * s) + 4))), some (yi v108)]) (st' := [yi 999, yi 0, yi v108]) (M' := M) (N' := N) rfl ?_
              refine r_static (mj := 113) (as := [yi v108, yi 0, yi 999]) (rest := []) f_141_126 (by decide) rfl m_113 rfl rfl rfl (Nat.le_of_ble_eq_true rfl) (by omega) (m_within (by omega) (by omega) (by omega)) ?_
              rintro _ _ _ ⟨v126, rfl, hv126, rfl, rfl⟩
              refine r_iret m_141 rfl f_141_129 ?_
              exact ⟨_, rfl, by unfold sUpTo; (repeat' split) <;> omega, rfl, rfl⟩
            · refine r_run 5 (pc' := 100) (ls' := [some (yr 75), some (yi s), some (yi (M 76 (5 * s))), some (yi (M 76 ((5 * s) + 3))), some (yi (M 76 ((5 * s) + 4))), some (yi (((M 76 ((5 * s) + 3)) + (M 76 ((5 * s) + 4))) + 0))]) (st' := [yi s, yr 75, yi ((M 76 ((5 * s) + 3)) - (M 76 ((5 * s) + 4)))]) (M' := M) (N' := N) rfl ?_
              refine r_virtual (mj := 138) (b := 75) (as := [yi s]) (rest := [yi ((M 76 ((5 * s) + 3)) - (M 76 ((5 * s) + 4)))]) f_141_100 (by decide) rfl m_138 (by decide) (by decide) (by decide) rfl rfl (Nat.le_of_ble_eq_true rfl) (by omega) (m_middle hs0 hs) ?_
              rintro _ _ _ ⟨v100, rfl, hv100, rfl, rfl⟩
              refine r_icmp_ge (pc := 103) f_141_103 (by omega) (by omega) (fun h103 => ?_) (fun h103 => ?_)
              · refine r_run 7 (pc' := 126) (ls' := [some (yr 75), some (yi s), some (yi (M 76 (5 * s))), some (yi (M 76 ((5 * s) + 3))), some (yi (M 76 ((5 * s) + 4))), some (yi ((M 76 ((5 * s) + 3)) - (M 76 ((5 * s) + 4))))]) (st' := [yi 999, yi 0, yi ((M 76 ((5 * s) + 3)) - (M 76 ((5 * s) + 4)))]) (M' := M) (N' := N) rfl ?_
                refine r_static (mj := 113) (as := [yi ((M 76 ((5 * s) + 3)) - (M 76 ((5 * s) + 4))), yi 0, yi 999]) (rest := []) f_141_126 (by decide) rfl m_113 rfl rfl rfl (Nat.le_of_ble_eq_true rfl) (by omega) (m_within (by omega) (by omega) (by omega)) ?_
                rintro _ _ _ ⟨v126, rfl, hv126, rfl, rfl⟩
                refine r_iret m_141 rfl f_141_129 ?_
                exact ⟨_, rfl, by unfold sUpTo; (repeat' split) <;> omega, rfl, rfl⟩
              · refine r_run 2 (pc' := 108) (ls' := [some (yr 75), some (yi s), some (yi (M 76 (5 * s))), some (yi (M 76 ((5 * s) + 3))), some (yi (M 76 ((5 * s) + 4))), some (yi (((M 76 ((5 * s) + 3)) + (M 76 ((5 * s) + 4))) + 0))]) (st' := [yi s, yr 75]) (M' := M) (N' := N) rfl ?_
                refine r_virtual (mj := 138) (b := 75) (as := [yi s]) (rest := []) f_141_108 (by decide) rfl m_138 (by decide) (by decide) (by decide) rfl rfl (Nat.le_of_ble_eq_true rfl) (by omega) (m_middle hs0 hs) ?_
                rintro _ _ _ ⟨v108, rfl, hv108, rfl, rfl⟩
                refine r_run 5 (pc' := 126) (ls' := [some (yr 75), some (yi s), some (yi (M 76 (5 * s))), some (yi (M 76 ((5 * s) + 3))), some (yi (M 76 ((5 * s) + 4))), some (yi v108)]) (st' := [yi 999, yi 0, yi v108]) (M' := M) (N' := N) rfl ?_
                refine r_static (mj := 113) (as := [yi v108, yi 0, yi 999]) (rest := []) f_141_126 (by decide) rfl m_113 rfl rfl rfl (Nat.le_of_ble_eq_true rfl) (by omega) (m_within (by omega) (by omega) (by omega)) ?_
                rintro _ _ _ ⟨v126, rfl, hv126, rfl, rfl⟩
                refine r_iret m_141 rfl f_141_129 ?_
                exact ⟨_, rfl, by unfold sUpTo; (repeat' split) <;> omega, rfl, rfl⟩
      · refine r_run 7 (pc' := 78) (ls' := [some (yr 75), some (yi s), some (yi (M 76 (5 * s))), some (yi (M 76 ((5 * s) + 3))), some (yi (M 76 ((5 * s) + 4))), some (yi (((M 76 ((5 * s) + 3)) + (M 76 ((5 * s) + 4))) + (M 75 4)))]) (st' := [yi 2, yi (M 76 (5 * s))]) (M' := M) (N' := N) rfl ?_
        refine r_icmp_eq (pc := 78) f_141_78 (by omega) (by omega) (fun h78 => ?_) (fun h78 => ?_)
        · refine r_run 2 (pc' := 88) (ls' := [some (yr 75), some (yi s), some (yi (M 76 (5 * s))), some (yi (M 76 ((5 * s) + 3))), some (yi (M 76 ((5 * s) + 4))), some (yi (((M 76 ((5 * s) + 3)) + (M 76 ((5 * s) + 4))) + (M 75 4)))]) (st' := [yi s, yr 75]) (M' := M) (N' := N) rfl ?_
          refine r_virtual (mj := 139) (b := 75) (as := [yi s]) (rest := []) f_141_88 (by decide) rfl m_139 (by decide) (by decide) (by decide) rfl rfl (Nat.le_of_ble_eq_true rfl) (by omega) (m_isExact hs0 hs hy) ?_
          rintro _ _ _ ⟨v88, rfl, hv88, rfl, rfl⟩
          refine r_if_ne (pc := 91) f_141_91 (by omega) (fun h91 => ?_) (fun h91 => ?_)
          · refine r_run 2 (pc' := 108) (ls' := [some (yr 75), some (yi s), some (yi (M 76 (5 * s))), some (yi (M 76 ((5 * s) + 3))), some (yi (M 76 ((5 * s) + 4))), some (yi (((M 76 ((5 * s) + 3)) + (M 76 ((5 * s) + 4))) + (M 75 4)))]) (st' := [yi s, yr 75]) (M' := M) (N' := N) rfl ?_
            refine r_virtual (mj := 138) (b := 75) (as := [yi s]) (rest := []) f_141_108 (by decide) rfl m_138 (by decide) (by decide) (by decide) rfl rfl (Nat.le_of_ble_eq_true rfl) (by omega) (m_middle hs0 hs) ?_
            rintro _ _ _ ⟨v108, rfl, hv108, rfl, rfl⟩
            refine r_run 5 (pc' := 126) (ls' := [some (yr 75), some (yi s), some (yi (M 76 (5 * s))), some (yi (M 76 ((5 * s) + 3))), some (yi (M 76 ((5 * s) + 4))), some (yi v108)]) (st' := [yi 999, yi 0, yi v108]) (M' := M) (N' := N) rfl ?_
            refine r_static (mj := 113) (as := [yi v108, yi 0, yi 999]) (rest := []) f_141_126 (by decide) rfl m_113 rfl rfl rfl (Nat.le_of_ble_eq_true rfl) (by omega) (m_within (by omega) (by omega) (by omega)) ?_
            rintro _ _ _ ⟨v126, rfl, hv126, rfl, rfl⟩
            refine r_iret m_141 rfl f_141_129 ?_
            exact ⟨_, rfl, by unfold sUpTo; (repeat' split) <;> omega, rfl, rfl⟩
          · refine r_run 5 (pc' := 100) (ls' := [some (yr 75), some (yi s), some (yi (M 76 (5 * s))), some (yi (M 76 ((5 * s) + 3))), some (yi (M 76 ((5 * s) + 4))), some (yi (((M 76 ((5 * s) + 3)) + (M 76 ((5 * s) + 4))) + (M 75 4)))]) (st' := [yi s, yr 75, yi ((M 76 ((5 * s) + 3)) - (M 76 ((5 * s) + 4)))]) (M' := M) (N' := N) rfl ?_
            refine r_virtual (mj := 138) (b := 75) (as := [yi s]) (rest := [yi ((M 76 ((5 * s) + 3)) - (M 76 ((5 * s) + 4)))]) f_141_100 (by decide) rfl m_138 (by decide) (by decide) (by decide) rfl rfl (Nat.le_of_ble_eq_true rfl) (by omega) (m_middle hs0 hs) ?_
            rintro _ _ _ ⟨v100, rfl, hv100, rfl, rfl⟩
            refine r_icmp_ge (pc := 103) f_141_103 (by omega) (by omega) (fun h103 => ?_) (fun h103 => ?_)
            · refine r_run 7 (pc' := 126) (ls' := [some (yr 75), some (yi s), some (yi (M 76 (5 * s))), some (yi (M 76 ((5 * s) + 3))), some (yi (M 76 ((5 * s) + 4))), some (yi ((M 76 ((5 * s) + 3)) - (M 76 ((5 * s) + 4))))]) (st' := [yi 999, yi 0, yi ((M 76 ((5 * s) + 3)) - (M 76 ((5 * s) + 4)))]) (M' := M) (N' := N) rfl ?_
              refine r_static (mj := 113) (as := [yi ((M 76 ((5 * s) + 3)) - (M 76 ((5 * s) + 4))), yi 0, yi 999]) (rest := []) f_141_126 (by decide) rfl m_113 rfl rfl rfl (Nat.le_of_ble_eq_true rfl) (by omega) (m_within (by omega) (by omega) (by omega)) ?_
              rintro _ _ _ ⟨v126, rfl, hv126, rfl, rfl⟩
              refine r_iret m_141 rfl f_141_129 ?_
              exact ⟨_, rfl, by unfold sUpTo; (repeat' split) <;> omega, rfl, rfl⟩
            · refine r_run 2 (pc' := 108) (ls' := [some (yr 75), some (yi s), some (yi (M 76 (5 * s))), some (yi (M 76 ((5 * s) + 3))), some (yi (M 76 ((5 * s) + 4))), some (yi (((M 76 ((5 * s) + 3)) + (M 76 ((5 * s) + 4))) + (M 75 4)))]) (st' := [yi s, yr 75]) (M' := M) (N' := N) rfl ?_
              refine r_virtual (mj := 138) (b := 75) (as := [yi s]) (rest := []) f_141_108 (by decide) rfl m_138 (by decide) (by decide) (by decide) rfl rfl (Nat.le_of_ble_eq_true rfl) (by omega) (m_middle hs0 hs) ?_
              rintro _ _ _ ⟨v108, rfl, hv108, rfl, rfl⟩
              refine r_run 5 (pc' := 126) (ls' := [some (yr 75), some (yi s), some (yi (M 76 (5 * s))), some (yi (M 76 ((5 * s) + 3))), some (yi (M 76 ((5 * s) + 4))), some (yi v108)]) (st' := [yi 999, yi 0, yi v108]) (M' := M) (N' := N) rfl ?_
              refine r_static (mj := 113) (as := [yi v108, yi 0, yi 999]) (rest := []) f_141_126 (by decide) rfl m_113 rfl rfl rfl (Nat.le_of_ble_eq_true rfl) (by omega) (m_within (by omega) (by omega) (by omega)) ?_
              rintro _ _ _ ⟨v126, rfl, hv126, rfl, rfl⟩
              refine r_iret m_141 rfl f_141_129 ?_
              exact ⟨_, rfl, by unfold sUpTo; (repeat' split) <;> omega, rfl, rfl⟩
        · refine r_run 2 (pc' := 83) (ls' := [some (yr 75), some (yi s), some (yi (M 76 (5 * s))), some (yi (M 76 ((5 * s) + 3))), some (yi (M 76 ((5 * s) + 4))), some (yi (((M 76 ((5 * s) + 3)) + (M 76 ((5 * s) + 4))) + (M 75 4)))]) (st' := [yi 4, yi (M 76 (5 * s))]) (M' := M) (N' := N) rfl ?_
          refine r_icmp_ne (pc := 83) f_141_83 (by omega) (by omega) (fun h83 => ?_) (fun h83 => ?_)
          · refine r_run 3 (pc' := 126) (ls' := [some (yr 75), some (yi s), some (yi (M 76 (5 * s))), some (yi (M 76 ((5 * s) + 3))), some (yi (M 76 ((5 * s) + 4))), some (yi (((M 76 ((5 * s) + 3)) + (M 76 ((5 * s) + 4))) + (M 75 4)))]) (st' := [yi 999, yi 0, yi (((M 76 ((5 * s) + 3)) + (M 76 ((5 * s) + 4))) + (M 75 4))]) (M' := M) (N' := N) rfl ?_
            refine r_static (mj := 113) (as := [yi (((M 76 ((5 * s) + 3)) + (M 76 ((5 * s) + 4))) + (M 75 4)), yi 0, yi 999]) (rest := []) f_141_126 (by decide) rfl m_113 rfl rfl rfl (Nat.le_of_ble_eq_true rfl) (by omega) (m_within (by omega) (by omega) (by omega)) ?_
            rintro _ _ _ ⟨v126, rfl, hv126, rfl, rfl⟩
            refine r_iret m_141 rfl f_141_129 ?_
            exact ⟨_, rfl, by unfold sUpTo; (repeat' split) <;> omega, rfl, rfl⟩
          · refine r_run 2 (pc' := 88) (ls' := [some (yr 75), some (yi s), some (yi (M 76 (5 * s))), some (yi (M 76 ((5 * s) + 3))), some (yi (M 76 ((5 * s) + 4))), some (yi (((M 76 ((5 * s) + 3)) + (M 76 ((5 * s) + 4))) + (M 75 4)))]) (st' := [yi s, yr 75]) (M' := M) (N' := N) rfl ?_
            refine r_virtual (mj := 139) (b := 75) (as := [yi s]) (rest := []) f_141_88 (by decide) rfl m_139 (by decide) (by decide) (by decide) rfl rfl (Nat.le_of_ble_eq_true rfl) (by omega) (m_isExact hs0 hs hy) ?_
            rintro _ _ _ ⟨v88, rfl, hv88, rfl, rfl⟩
            refine r_if_ne (pc := 91) f_141_91 (by omega) (fun h91 => ?_) (fun h91 => ?_)
            · refine r_run 2 (pc' := 108) (ls' := [some (yr 75), some (yi s), some (yi (M 76 (5 * s))), some (yi (M 76 ((5 * s) + 3))), some (yi (M 76 ((5 * s) + 4))), some (yi (((M 76 ((5 * s) + 3)) + (M 76 ((5 * s) + 4))) + (M 75 4)))]) (st' := [yi s, yr 75]) (M' := M) (N' := N) rfl ?_
              refine r_virtual (mj := 138) (b := 75) (as := [yi s]) (rest := []) f_141_108 (by decide) rfl m_138 (by decide) (by decide) (by decide) rfl rfl (Nat.le_of_ble_eq_true rfl) (by omega) (m_middle hs0 hs) ?_
              rintro _ _ _ ⟨v108, rfl, hv108, rfl, rfl⟩
              refine r_run 5 (pc' := 126) (ls' := [some (yr 75), some (yi s), some (yi (M 76 (5 * s))), some (yi (M 76 ((5 * s) + 3))), some (yi (M 76 ((5 * s) + 4))), some (yi v108)]) (st' := [yi 999, yi 0, yi v108]) (M' := M) (N' := N) rfl ?_
              refine r_static (mj := 113) (as := [yi v108, yi 0, yi 999]) (rest := []) f_141_126 (by decide) rfl m_113 rfl rfl rfl (Nat.le_of_ble_eq_true rfl) (by omega) (m_within (by omega) (by omega) (by omega)) ?_
              rintro _ _ _ ⟨v126, rfl, hv126, rfl, rfl⟩
              refine r_iret m_141 rfl f_141_129 ?_
              exact ⟨_, rfl, by unfold sUpTo; (repeat' split) <;> omega, rfl, rfl⟩
            · refine r_run 5 (pc' := 100) (ls' := [some (yr 75), some (yi s), some (yi (M 76 (5 * s))), some (yi (M 76 ((5 * s) + 3))), some (yi (M 76 ((5 * s) + 4))), some (yi (((M 76 ((5 * s) + 3)) + (M 76 ((5 * s) + 4))) + (M 75 4)))]) (st' := [yi s, yr 75, yi ((M 76 ((5 * s) + 3)) - (M 76 ((5 * s) + 4)))]) (M' := M) (N' := N) rfl ?_
              refine r_virtual (mj := 138) (b := 75) (as := [yi s]) (rest := [yi ((M 76 ((5 * s) + 3)) - (M 76 ((5 * s) + 4)))]) f_141_100 (by decide) rfl m_138 (by decide) (by decide) (by decide) rfl rfl (Nat.le_of_ble_eq_true rfl) (by omega) (m_middle hs0 hs) ?_
              rintro _ _ _ ⟨v100, rfl, hv100, rfl, rfl⟩
              refine r_icmp_ge (pc := 103) f_141_103 (by omega) (by omega) (fun h103 => ?_) (fun h103 => ?_)
              · refine r_run 7 (pc' := 126) (ls' := [some (yr 75), some (yi s), some (yi (M 76 (5 * s))), some (yi (M 76 ((5 * s) + 3))), some (yi (M 76 ((5 * s) + 4))), some (yi ((M 76 ((5 * s) + 3)) - (M 76 ((5 * s) + 4))))]) (st' := [yi 999, yi 0, yi ((M 76 ((5 * s) + 3)) - (M 76 ((5 * s) + 4)))]) (M' := M) (N' := N) rfl ?_
                refine r_static (mj := 113) (as := [yi ((M 76 ((5 * s) + 3)) - (M 76 ((5 * s) + 4))), yi 0, yi 999]) (rest := []) f_141_126 (by decide) rfl m_113 rfl rfl rfl (Nat.le_of_ble_eq_true rfl) (by omega) (m_within (by omega) (by omega) (by omega)) ?_
                rintro _ _ _ ⟨v126, rfl, hv126, rfl, rfl⟩
                refine r_iret m_141 rfl f_141_129 ?_
                exact ⟨_, rfl, by unfold sUpTo; (repeat' split) <;> omega, rfl, rfl⟩
              · refine r_run 2 (pc' := 108) (ls' := [some (yr 75), some (yi s), some (yi (M 76 (5 * s))), some (yi (M 76 ((5 * s) + 3))), some (yi (M 76 ((5 * s) + 4))), some (yi (((M 76 ((5 * s) + 3)) + (M 76 ((5 * s) + 4))) + (M 75 4)))]) (st' := [yi s, yr 75]) (M' := M) (N' := N) rfl ?_
                refine r_virtual (mj := 138) (b := 75) (as := [yi s]) (rest := []) f_141_108 (by decide) rfl m_138 (by decide) (by decide) (by decide) rfl rfl (Nat.le_of_ble_eq_true rfl) (by omega) (m_middle hs0 hs) ?_
                rintro _ _ _ ⟨v108, rfl, hv108, rfl, rfl⟩
                refine r_run 5 (pc' := 126) (ls' := [some (yr 75), some (yi s), some (yi (M 76 (5 * s))), some (yi (M 76 ((5 * s) + 3))), some (yi (M 76 ((5 * s) + 4))), some (yi v108)]) (st' := [yi 999, yi 0, yi v108]) (M' := M) (N' := N) rfl ?_
                refine r_static (mj := 113) (as := [yi v108, yi 0, yi 999]) (rest := []) f_141_126 (by decide) rfl m_113 rfl rfl rfl (Nat.le_of_ble_eq_true rfl) (by omega) (m_within (by omega) (by omega) (by omega)) ?_
                rintro _ _ _ ⟨v126, rfl, hv126, rfl, rfl⟩
                refine r_iret m_141 rfl f_141_129 ?_
                exact ⟨_, rfl, by unfold sUpTo; (repeat' split) <;> omega, rfl, rfl⟩
    · refine r_run 2 (pc' := 53) (ls' := [some (yr 75), some (yi s), some (yi (M 76 (5 * s))), some (yi (M 76 ((5 * s) + 3))), some (yi (M 76 ((5 * s) + 4))), some (yi (M 76 ((5 * s) + 3)))]) (st' := [yi 3, yi (M 76 (5 * s))]) (M' := M) (N' := N) rfl ?_
      refine r_icmp_ne (pc := 53) f_141_53 (by omega) (by omega) (fun h53 => ?_) (fun h53 => ?_)
      · refine r_run 2 (pc' := 78) (ls' := [some (yr 75), some (yi s), some (yi (M 76 (5 * s))), some (yi (M 76 ((5 * s) + 3))), some (yi (M 76 ((5 * s) + 4))), some (yi (M 76 ((5 * s) + 3)))]) (st' := [yi 2, yi (M 76 (5 * s))]) (M' := M) (N' := N) rfl ?_
        refine r_icmp_eq (pc := 78) f_141_78 (by omega) (by omega) (fun h78 => ?_) (fun h78 => ?_)
        · refine r_run 2 (pc' := 88) (ls' := [some (yr 75), some (yi s), some (yi (M 76 (5 * s))), some (yi (M 76 ((5 * s) + 3))), some (yi (M 76 ((5 * s) + 4))), some (yi (M 76 ((5 * s) + 3)))]) (st' := [yi s, yr 75]) (M' := M) (N' := N) rfl ?_
          refine r_virtual (mj := 139) (b := 75) (as := [yi s]) (rest := []) f_141_88 (by decide) rfl m_139 (by decide) (by decide) (by decide) rfl rfl (Nat.le_of_ble_eq_true rfl) (by omega) (m_isExact hs0 hs hy) ?_
          rintro _ _ _ ⟨v88, rfl, hv88, rfl, rfl⟩
          refine r_if_ne (pc := 91) f_141_91 (by omega) (fun h91 => ?_) (fun h91 => ?_)
          · refine r_run 2 (pc' := 108) (ls' := [some (yr 75), some (yi s), some (yi (M 76 (5 * s))), some (yi (M 76 ((5 * s) + 3))), some (yi (M 76 ((5 * s) + 4))), some (yi (M 76 ((5 * s) + 3)))]) (st' := [yi s, yr 75]) (M' := M) (N' := N) rfl ?_
            refine r_virtual (mj := 138) (b := 75) (as := [yi s]) (rest := []) f_141_108 (by decide) rfl m_138 (by decide) (by decide) (by decide) rfl rfl (Nat.le_of_ble_eq_true rfl) (by omega) (m_middle hs0 hs) ?_
            rintro _ _ _ ⟨v108, rfl, hv108, rfl, rfl⟩
            refine r_run 5 (pc' := 126) (ls' := [some (yr 75), some (yi s), some (yi (M 76 (5 * s))), some (yi (M 76 ((5 * s) + 3))), some (yi (M 76 ((5 * s) + 4))), some (yi v108)]) (st' := [yi 999, yi 0, yi v108]) (M' := M) (N' := N) rfl ?_
            refine r_static (mj := 113) (as := [yi v108, yi 0, yi 999]) (rest := []) f_141_126 (by decide) rfl m_113 rfl rfl rfl (Nat.le_of_ble_eq_true rfl) (by omega) (m_within (by omega) (by omega) (by omega)) ?_
            rintro _ _ _ ⟨v126, rfl, hv126, rfl, rfl⟩
            refine r_iret m_141 rfl f_141_129 ?_
            exact ⟨_, rfl, by unfold sUpTo; (repeat' split) <;> omega, rfl, rfl⟩
          · refine r_run 5 (pc' := 100) (ls' := [some (yr 75), some (yi s), some (yi (M 76 (5 * s))), some (yi (M 76 ((5 * s) + 3))), some (yi (M 76 ((5 * s) + 4))), some (yi (M 76 ((5 * s) + 3)))]) (st' := [yi s, yr 75, yi ((M 76 ((5 * s) + 3)) - (M 76 ((5 * s) + 4)))]) (M' := M) (N' := N) rfl ?_
            refine r_virtual (mj := 138) (b := 75) (as := [yi s]) (rest := [yi ((M 76 ((5 * s) + 3)) - (M 76 ((5 * s) + 4)))]) f_141_100 (by decide) rfl m_138 (by decide) (by decide) (by decide) rfl rfl (Nat.le_of_ble_eq_true rfl) (by omega) (m_middle hs0 hs) ?_
            rintro _ _ _ ⟨v100, rfl, hv100, rfl, rfl⟩
            refine r_icmp_ge (pc := 103) f_141_103 (by omega) (by omega) (fun h103 => ?_) (fun h103 => ?_)
            · refine r_run 7 (pc' := 126) (ls' := [some (yr 75), some (yi s), some (yi (M 76 (5 * s))), some (yi (M 76 ((5 * s) + 3))), some (yi (M 76 ((5 * s) + 4))), some (yi ((M 76 ((5 * s) + 3)) - (M 76 ((5 * s) + 4))))]) (st' := [yi 999, yi 0, yi ((M 76 ((5 * s) + 3)) - (M 76 ((5 * s) + 4)))]) (M' := M) (N' := N) rfl ?_
              refine r_static (mj := 113) (as := [yi ((M 76 ((5 * s) + 3)) - (M 76 ((5 * s) + 4))), yi 0, yi 999]) (rest := []) f_141_126 (by decide) rfl m_113 rfl rfl rfl (Nat.le_of_ble_eq_true rfl) (by omega) (m_within (by omega) (by omega) (by omega)) ?_
              rintro _ _ _ ⟨v126, rfl, hv126, rfl, rfl⟩
              refine r_iret m_141 rfl f_141_129 ?_
              exact ⟨_, rfl, by unfold sUpTo; (repeat' split) <;> omega, rfl, rfl⟩
            · refine r_run 2 (pc' := 108) (ls' := [some (yr 75), some (yi s), some (yi (M 76 (5 * s))), some (yi (M 76 ((5 * s) + 3))), some (yi (M 76 ((5 * s) + 4))), some (yi (M 76 ((5 * s) + 3)))]) (st' := [yi s, yr 75]) (M' := M) (N' := N) rfl ?_
              refine r_virtual (mj := 138) (b := 75) (as := [yi s]) (rest := []) f_141_108 (by decide) rfl m_138 (by decide) (by decide) (by decide) rfl rfl (Nat.le_of_ble_eq_true rfl) (by omega) (m_middle hs0 hs) ?_
              rintro _ _ _ ⟨v108, rfl, hv108, rfl, rfl⟩
              refine r_run 5 (pc' := 126) (ls' := [some (yr 75), some (yi s), some (yi (M 76 (5 * s))), some (yi (M 76 ((5 * s) + 3))), some (yi (M 76 ((5 * s) + 4))), some (yi v108)]) (st' := [yi 999, yi 0, yi v108]) (M' := M) (N' := N) rfl ?_
              refine r_static (mj := 113) (as := [yi v108, yi 0, yi 999]) (rest := []) f_141_126 (by decide) rfl m_113 rfl rfl rfl (Nat.le_of_ble_eq_true rfl) (by omega) (m_within (by omega) (by omega) (by omega)) ?_
              rintro _ _ _ ⟨v126, rfl, hv126, rfl, rfl⟩
              refine r_iret m_141 rfl f_141_129 ?_
              exact ⟨_, rfl, by unfold sUpTo; (repeat' split) <;> omega, rfl, rfl⟩
        · refine r_run 2 (pc' := 83) (ls' := [some (yr 75), some (yi s), some (yi (M 76 (5 * s))), some (yi (M 76 ((5 * s) + 3))), some (yi (M 76 ((5 * s) + 4))), some (yi (M 76 ((5 * s) + 3)))]) (st' := [yi 4, yi (M 76 (5 * s))]) (M' := M) (N' := N) rfl ?_
          refine r_icmp_ne (pc := 83) f_141_83 (by omega) (by omega) (fun h83 => ?_) (fun h83 => ?_)
          · refine r_run 3 (pc' := 126) (ls' := [some (yr 75), some (yi s), some (yi (M 76 (5 * s))), some (yi (M 76 ((5 * s) + 3))), some (yi (M 76 ((5 * s) + 4))), some (yi (M 76 ((5 * s) + 3)))]) (st' := [yi 999, yi 0, yi (M 76 ((5 * s) + 3))]) (M' := M) (N' := N) rfl ?_
            refine r_static (mj := 113) (as := [yi (M 76 ((5 * s) + 3)), yi 0, yi 999]) (rest := []) f_141_126 (by decide) rfl m_113 rfl rfl rfl (Nat.le_of_ble_eq_true rfl) (by omega) (m_within (by omega) (by omega) (by omega)) ?_
            rintro _ _ _ ⟨v126, rfl, hv126, rfl, rfl⟩
            refine r_iret m_141 rfl f_141_129 ?_
            exact ⟨_, rfl, by unfold sUpTo; (repeat' split) <;> omega, rfl, rfl⟩
          · refine r_run 2 (pc' := 88) (ls' := [some (yr 75), some (yi s), some (yi (M 76 (5 * s))), some (yi (M 76 ((5 * s) + 3))), some (yi (M 76 ((5 * s) + 4))), some (yi (M 76 ((5 * s) + 3)))]) (st' := [yi s, yr 75]) (M' := M) (N' := N) rfl ?_
            refine r_virtual (mj := 139) (b := 75) (as := [yi s]) (rest := []) f_141_88 (by decide) rfl m_139 (by decide) (by decide) (by decide) rfl rfl (Nat.le_of_ble_eq_true rfl) (by omega) (m_isExact hs0 hs hy) ?_
            rintro _ _ _ ⟨v88, rfl, hv88, rfl, rfl⟩
            refine r_if_ne (pc := 91) f_141_91 (by omega) (fun h91 => ?_) (fun h91 => ?_)
            · refine r_run 2 (pc' := 108) (ls' := [some (yr 75), some (yi s), some (yi (M 76 (5 * s))), some (yi (M 76 ((5 * s) + 3))), some (yi (M 76 ((5 * s) + 4))), some (yi (M 76 ((5 * s) + 3)))]) (st' := [yi s, yr 75]) (M' := M) (N' := N) rfl ?_
              refine r_virtual (mj := 138) (b := 75) (as := [yi s]) (rest := []) f_141_108 (by decide) rfl m_138 (by decide) (by decide) (by decide) rfl rfl (Nat.le_of_ble_eq_true rfl) (by omega) (m_middle hs0 hs) ?_
              rintro _ _ _ ⟨v108, rfl, hv108, rfl, rfl⟩
              refine r_run 5 (pc' := 126) (ls' := [some (yr 75), some (yi s), some (yi (M 76 (5 * s))), some (yi (M 76 ((5 * s) + 3))), some (yi (M 76 ((5 * s) + 4))), some (yi v108)]) (st' := [yi 999, yi 0, yi v108]) (M' := M) (N' := N) rfl ?_
              refine r_static (mj := 113) (as := [yi v108, yi 0, yi 999]) (rest := []) f_141_126 (by decide) rfl m_113 rfl rfl rfl (Nat.le_of_ble_eq_true rfl) (by omega) (m_within (by omega) (by omega) (by omega)) ?_
              rintro _ _ _ ⟨v126, rfl, hv126, rfl, rfl⟩
              refine r_iret m_141 rfl f_141_129 ?_
              exact ⟨_, rfl, by unfold sUpTo; (repeat' split) <;> omega, rfl, rfl⟩
            · refine r_run 5 (pc' := 100) (ls' := [some (yr 75), some (yi s), some (yi (M 76 (5 * s))), some (yi (M 76 ((5 * s) + 3))), some (yi (M 76 ((5 * s) + 4))), some (yi (M 76 ((5 * s) + 3)))]) (st' := [yi s, yr 75, yi ((M 76 ((5 * s) + 3)) - (M 76 ((5 * s) + 4)))]) (M' := M) (N' := N) rfl ?_
              refine r_virtual (mj := 138) (b := 75) (as := [yi s]) (rest := [yi ((M 76 ((5 * s) + 3)) - (M 76 ((5 * s) + 4)))]) f_141_100 (by decide) rfl m_138 (by decide) (by decide) (by decide) rfl rfl (Nat.le_of_ble_eq_true rfl) (by omega) (m_middle hs0 hs) ?_
              rintro _ _ _ ⟨v100, rfl, hv100, rfl, rfl⟩
              refine r_icmp_ge (pc := 103) f_141_103 (by omega) (by omega) (fun h103 => ?_) (fun h103 => ?_)
              · refine r_run 7 (pc' := 126) (ls' := [some (yr 75), some (yi s), some (yi (M 76 (5 * s))), some (yi (M 76 ((5 * s) + 3))), some (yi (M 76 ((5 * s) + 4))), some (yi ((M 76 ((5 * s) + 3)) - (M 76 ((5 * s) + 4))))]) (st' := [yi 999, yi 0, yi ((M 76 ((5 * s) + 3)) - (M 76 ((5 * s) + 4)))]) (M' := M) (N' := N) rfl ?_
                refine r_static (mj := 113) (as := [yi ((M 76 ((5 * s) + 3)) - (M 76 ((5 * s) + 4))), yi 0, yi 999]) (rest := []) f_141_126 (by decide) rfl m_113 rfl rfl rfl (Nat.le_of_ble_eq_true rfl) (by omega) (m_within (by omega) (by omega) (by omega)) ?_
                rintro _ _ _ ⟨v126, rfl, hv126, rfl, rfl⟩
                refine r_iret m_141 rfl f_141_129 ?_
                exact ⟨_, rfl, by unfold sUpTo; (repeat' split) <;> omega, rfl, rfl⟩
              · refine r_run 2 (pc' := 108) (ls' := [some (yr 75), some (yi s), some (yi (M 76 (5 * s))), some (yi (M 76 ((5 * s) + 3))), some (yi (M 76 ((5 * s) + 4))), some (yi (M 76 ((5 * s) + 3)))]) (st' := [yi s, yr 75]) (M' := M) (N' := N) rfl ?_
                refine r_virtual (mj := 138) (b := 75) (as := [yi s]) (rest := []) f_141_108 (by decide) rfl m_138 (by decide) (by decide) (by decide) rfl rfl (Nat.le_of_ble_eq_true rfl) (by omega) (m_middle hs0 hs) ?_
                rintro _ _ _ ⟨v108, rfl, hv108, rfl, rfl⟩
                refine r_run 5 (pc' := 126) (ls' := [some (yr 75), some (yi s), some (yi (M 76 (5 * s))), some (yi (M 76 ((5 * s) + 3))), some (yi (M 76 ((5 * s) + 4))), some (yi v108)]) (st' := [yi 999, yi 0, yi v108]) (M' := M) (N' := N) rfl ?_
                refine r_static (mj := 113) (as := [yi v108, yi 0, yi 999]) (rest := []) f_141_126 (by decide) rfl m_113 rfl rfl rfl (Nat.le_of_ble_eq_true rfl) (by omega) (m_within (by omega) (by omega) (by omega)) ?_
                rintro _ _ _ ⟨v126, rfl, hv126, rfl, rfl⟩
                refine r_iret m_141 rfl f_141_129 ?_
                exact ⟨_, rfl, by unfold sUpTo; (repeat' split) <;> omega, rfl, rfl⟩
      · refine r_run 5 (pc' := 62) (ls' := [some (yr 75), some (yi s), some (yi (M 76 (5 * s))), some (yi (M 76 ((5 * s) + 3))), some (yi (M 76 ((5 * s) + 4))), some (yi (M 76 ((5 * s) + 3)))]) (st' := [yi 3, yi (M 76 (5 * s)), yi ((M 76 ((5 * s) + 3)) + (M 76 ((5 * s) + 4)))]) (M' := M) (N' := N) rfl ?_
        refine r_icmp_ne (pc := 62) f_141_62 (by omega) (by omega) (fun h62 => ?_) (fun h62 => ?_)
        · refine r_run 5 (pc' := 78) (ls' := [some (yr 75), some (yi s), some (yi (M 76 (5 * s))), some (yi (M 76 ((5 * s) + 3))), some (yi (M 76 ((5 * s) + 4))), some (yi (((M 76 ((5 * s) + 3)) + (M 76 ((5 * s) + 4))) + 0))]) (st' := [yi 2, yi (M 76 (5 * s))]) (M' := M) (N' := N) rfl ?_
          refine r_icmp_eq (pc := 78) f_141_78 (by omega) (by omega) (fun h78 => ?_) (fun h78 => ?_)
          · refine r_run 2 (pc' := 88) (ls' := [some (yr 75), some (yi s), some (yi (M 76 (5 * s))), some (yi (M 76 ((5 * s) + 3))), some (yi (M 76 ((5 * s) + 4))), some (yi (((M 76 ((5 * s) + 3)) + (M 76 ((5 * s) + 4))) + 0))]) (st' := [yi s, yr 75]) (M' := M) (N' := N) rfl ?_
            refine r_virtual (mj := 139) (b := 75) (as := [yi s]) (rest := []) f_141_88 (by decide) rfl m_139 (by decide) (by decide) (by decide) rfl rfl (Nat.le_of_ble_eq_true rfl) (by omega) (m_isExact hs0 hs hy) ?_
            rintro _ _ _ ⟨v88, rfl, hv88, rfl, rfl⟩
            refine r_if_ne (pc := 91) f_141_91 (by omega) (fun h91 => ?_) (fun h91 => ?_)
            · refine r_run 2 (pc' := 108) (ls' := [some (yr 75), some (yi s), some (yi (M 76 (5 * s))), some (yi (M 76 ((5 * s) + 3))), some (yi (M 76 ((5 * s) + 4))), some (yi (((M 76 ((5 * s) + 3)) + (M 76 ((5 * s) + 4))) + 0))]) (st' := [yi s, yr 75]) (M' := M) (N' := N) rfl ?_
              refine r_virtual (mj := 138) (b := 75) (as := [yi s]) (rest := []) f_141_108 (by decide) rfl m_138 (by decide) (by decide) (by decide) rfl rfl (Nat.le_of_ble_eq_true rfl) (by omega) (m_middle hs0 hs) ?_
              rintro _ _ _ ⟨v108, rfl, hv108, rfl, rfl⟩
              refine r_run 5 (pc' := 126) (ls' := [some (yr 75), some (yi s), some (yi (M 76 (5 * s))), some (yi (M 76 ((5 * s) + 3))), some (yi (M 76 ((5 * s) + 4))), some (yi v108)]) (st' := [yi 999, yi 0, yi v108]) (M' := M) (N' := N) rfl ?_
              refine r_static (mj := 113) (as := [yi v108, yi 0, yi 999]) (rest := []) f_141_126 (by decide) rfl m_113 rfl rfl rfl (Nat.le_of_ble_eq_true rfl) (by omega) (m_within (by omega) (by omega) (by omega)) ?_
              rintro _ _ _ ⟨v126, rfl, hv126, rfl, rfl⟩
              refine r_iret m_141 rfl f_141_129 ?_
              exact ⟨_, rfl, by unfold sUpTo; (repeat' split) <;> omega, rfl, rfl⟩
            · refine r_run 5 (pc' := 100) (ls' := [some (yr 75), some (yi s), some (yi (M 76 (5 * s))), some (yi (M 76 ((5 * s) + 3))), some (yi (M 76 ((5 * s) + 4))), some (yi (((M 76 ((5 * s) + 3)) + (M 76 ((5 * s) + 4))) + 0))]) (st' := [yi s, yr 75, yi ((M 76 ((5 * s) + 3)) - (M 76 ((5 * s) + 4)))]) (M' := M) (N' := N) rfl ?_
              refine r_virtual (mj := 138) (b := 75) (as := [yi s]) (rest := [yi ((M 76 ((5 * s) + 3)) - (M 76 ((5 * s) + 4)))]) f_141_100 (by decide) rfl m_138 (by decide) (by decide) (by decide) rfl rfl (Nat.le_of_ble_eq_true rfl) (by omega) (m_middle hs0 hs) ?_
              rintro _ _ _ ⟨v100, rfl, hv100, rfl, rfl⟩
              refine r_icmp_ge (pc := 103) f_141_103 (by omega) (by omega) (fun h103 => ?_) (fun h103 => ?_)
              · refine r_run 7 (pc' := 126) (ls' := [some (yr 75), some (yi s), some (yi (M 76 (5 * s))), some (yi (M 76 ((5 * s) + 3))), some (yi (M 76 ((5 * s) + 4))), some (yi ((M 76 ((5 * s) + 3)) - (M 76 ((5 * s) + 4))))]) (st' := [yi 999, yi 0, yi ((M 76 ((5 * s) + 3)) - (M 76 ((5 * s) + 4)))]) (M' := M) (N' := N) rfl ?_
                refine r_static (mj := 113) (as := [yi ((M 76 ((5 * s) + 3)) - (M 76 ((5 * s) + 4))), yi 0, yi 999]) (rest := []) f_141_126 (by decide) rfl m_113 rfl rfl rfl (Nat.le_of_ble_eq_true rfl) (by omega) (m_within (by omega) (by omega) (by omega)) ?_
                rintro _ _ _ ⟨v126, rfl, hv126, rfl, rfl⟩
                refine r_iret m_141 rfl f_141_129 ?_
                exact ⟨_, rfl, by unfold sUpTo; (repeat' split) <;> omega, rfl, rfl⟩
              · refine r_run 2 (pc' := 108) (ls' := [some (yr 75), some (yi s), some (yi (M 76 (5 * s))), some (yi (M 76 ((5 * s) + 3))), some (yi (M 76 ((5 * s) + 4))), some (yi (((M 76 ((5 * s) + 3)) + (M 76 ((5 * s) + 4))) + 0))]) (st' := [yi s, yr 75]) (M' := M) (N' := N) rfl ?_
                refine r_virtual (mj := 138) (b := 75) (as := [yi s]) (rest := []) f_141_108 (by decide) rfl m_138 (by decide) (by decide) (by decide) rfl rfl (Nat.le_of_ble_eq_true rfl) (by omega) (m_middle hs0 hs) ?_
                rintro _ _ _ ⟨v108, rfl, hv108, rfl, rfl⟩
                refine r_run 5 (pc' := 126) (ls' := [some (yr 75), some (yi s), some (yi (M 76 (5 * s))), some (yi (M 76 ((5 * s) + 3))), some (yi (M 76 ((5 * s) + 4))), some (yi v108)]) (st' := [yi 999, yi 0, yi v108]) (M' := M) (N' := N) rfl ?_
                refine r_static (mj := 113) (as := [yi v108, yi 0, yi 999]) (rest := []) f_141_126 (by decide) rfl m_113 rfl rfl rfl (Nat.le_of_ble_eq_true rfl) (by omega) (m_within (by omega) (by omega) (by omega)) ?_
                rintro _ _ _ ⟨v126, rfl, hv126, rfl, rfl⟩
                refine r_iret m_141 rfl f_141_129 ?_
                exact ⟨_, rfl, by unfold sUpTo; (repeat' split) <;> omega, rfl, rfl⟩
          · refine r_run 2 (pc' := 83) (ls' := [some (yr 75), some (yi s), some (yi (M 76 (5 * s))), some (yi (M 76 ((5 * s) + 3))), some (yi (M 76 ((5 * s) + 4))), some (yi (((M 76 ((5 * s) + 3)) + (M 76 ((5 * s) + 4))) + 0))]) (st' := [yi 4, yi (M 76 (5 * s))]) (M' := M) (N' := N) rfl ?_
            refine r_icmp_ne (pc := 83) f_141_83 (by omega) (by omega) (fun h83 => ?_) (fun h83 => ?_)
            · refine r_run 3 (pc' := 126) (ls' := [some (yr 75), some (yi s), some (yi (M 76 (5 * s))), some (yi (M 76 ((5 * s) + 3))), some (yi (M 76 ((5 * s) + 4))), some (yi (((M 76 ((5 * s) + 3)) + (M 76 ((5 * s) + 4))) + 0))]) (st' := [yi 999, yi 0, yi (((M 76 ((5 * s) + 3)) + (M 76 ((5 * s) + 4))) + 0)]) (M' := M) (N' := N) rfl ?_
              refine r_static (mj := 113) (as := [yi (((M 76 ((5 * s) + 3)) + (M 76 ((5 * s) + 4))) + 0), yi 0, yi 999]) (rest := []) f_141_126 (by decide) rfl m_113 rfl rfl rfl (Nat.le_of_ble_eq_true rfl) (by omega) (m_within (by omega) (by omega) (by omega)) ?_
              rintro _ _ _ ⟨v126, rfl, hv126, rfl, rfl⟩
              refine r_iret m_141 rfl f_141_129 ?_
              exact ⟨_, rfl, by unfold sUpTo; (repeat' split) <;> omega, rfl, rfl⟩
            · refine r_run 2 (pc' := 88) (ls' := [some (yr 75), some (yi s), some (yi (M 76 (5 * s))), some (yi (M 76 ((5 * s) + 3))), some (yi (M 76 ((5 * s) + 4))), some (yi (((M 76 ((5 * s) + 3)) + (M 76 ((5 * s) + 4))) + 0))]) (st' := [yi s, yr 75]) (M' := M) (N' := N) rfl ?_
              refine r_virtual (mj := 139) (b := 75) (as := [yi s]) (rest := []) f_141_88 (by decide) rfl m_139 (by decide) (by decide) (by decide) rfl rfl (Nat.le_of_ble_eq_true rfl) (by omega) (m_isExact hs0 hs hy) ?_
              rintro _ _ _ ⟨v88, rfl, hv88, rfl, rfl⟩
              refine r_if_ne (pc := 91) f_141_91 (by omega) (fun h91 => ?_) (fun h91 => ?_)
              · refine r_run 2 (pc' := 108) (ls' := [some (yr 75), some (yi s), some (yi (M 76 (5 * s))), some (yi (M 76 ((5 * s) + 3))), some (yi (M 76 ((5 * s) + 4))), some (yi (((M 76 ((5 * s) + 3)) + (M 76 ((5 * s) + 4))) + 0))]) (st' := [yi s, yr 75]) (M' := M) (N' := N) rfl ?_
                refine r_virtual (mj := 138) (b := 75) (as := [yi s]) (rest := []) f_141_108 (by decide) rfl m_138 (by decide) (by decide) (by decide) rfl rfl (Nat.le_of_ble_eq_true rfl) (by omega) (m_middle hs0 hs) ?_
                rintro _ _ _ ⟨v108, rfl, hv108, rfl, rfl⟩
                refine r_run 5 (pc' := 126) (ls' := [some (yr 75), some (yi s), some (yi (M 76 (5 * s))), some (yi (M 76 ((5 * s) + 3))), some (yi (M 76 ((5 * s) + 4))), some (yi v108)]) (st' := [yi 999, yi 0, yi v108]) (M' := M) (N' := N) rfl ?_
                refine r_static (mj := 113) (as := [yi v108, yi 0, yi 999]) (rest := []) f_141_126 (by decide) rfl m_113 rfl rfl rfl (Nat.le_of_ble_eq_true rfl) (by omega) (m_within (by omega) (by omega) (by omega)) ?_
                rintro _ _ _ ⟨v126, rfl, hv126, rfl, rfl⟩
                refine r_iret m_141 rfl f_141_129 ?_
                exact ⟨_, rfl, by unfold sUpTo; (repeat' split) <;> omega, rfl, rfl⟩
              · refine r_run 5 (pc' := 100) (ls' := [some (yr 75), some (yi s), some (yi (M 76 (5 * s))), some (yi (M 76 ((5 * s) + 3))), some (yi (M 76 ((5 * s) + 4))), some (yi (((M 76 ((5 * s) + 3)) + (M 76 ((5 * s) + 4))) + 0))]) (st' := [yi s, yr 75, yi ((M 76 ((5 * s) + 3)) - (M 76 ((5 * s) + 4)))]) (M' := M) (N' := N) rfl ?_
                refine r_virtual (mj := 138) (b := 75) (as := [yi s]) (rest := [yi ((M 76 ((5 * s) + 3)) - (M 76 ((5 * s) + 4)))]) f_141_100 (by decide) rfl m_138 (by decide) (by decide) (by decide) rfl rfl (Nat.le_of_ble_eq_true rfl) (by omega) (m_middle hs0 hs) ?_
                rintro _ _ _ ⟨v100, rfl, hv100, rfl, rfl⟩
                refine r_icmp_ge (pc := 103) f_141_103 (by omega) (by omega) (fun h103 => ?_) (fun h103 => ?_)
                · refine r_run 7 (pc' := 126) (ls' := [some (yr 75), some (yi s), some (yi (M 76 (5 * s))), some (yi (M 76 ((5 * s) + 3))), some (yi (M 76 ((5 * s) + 4))), some (yi ((M 76 ((5 * s) + 3)) - (M 76 ((5 * s) + 4))))]) (st' := [yi 999, yi 0, yi ((M 76 ((5 * s) + 3)) - (M 76 ((5 * s) + 4)))]) (M' := M) (N' := N) rfl ?_
                  refine r_static (mj := 113) (as := [yi ((M 76 ((5 * s) + 3)) - (M 76 ((5 * s) + 4))), yi 0, yi 999]) (rest := []) f_141_126 (by decide) rfl m_113 rfl rfl rfl (Nat.le_of_ble_eq_true rfl) (by omega) (m_within (by omega) (by omega) (by omega)) ?_
                  rintro _ _ _ ⟨v126, rfl, hv126, rfl, rfl⟩
                  refine r_iret m_141 rfl f_141_129 ?_
                  exact ⟨_, rfl, by unfold sUpTo; (repeat' split) <;> omega, rfl, rfl⟩
                · refine r_run 2 (pc' := 108) (ls' := [some (yr 75), some (yi s), some (yi (M 76 (5 * s))), some (yi (M 76 ((5 * s) + 3))), some (yi (M 76 ((5 * s) + 4))), some (yi (((M 76 ((5 * s) + 3)) + (M 76 ((5 * s) + 4))) + 0))]) (st' := [yi s, yr 75]) (M' := M) (N' := N) rfl ?_
                  refine r_virtual (mj := 138) (b := 75) (as := [yi s]) (rest := []) f_141_108 (by decide) rfl m_138 (by decide) (by decide) (by decide) rfl rfl (Nat.le_of_ble_eq_true rfl) (by omega) (m_middle hs0 hs) ?_
                  rintro _ _ _ ⟨v108, rfl, hv108, rfl, rfl⟩
                  refine r_run 5 (pc' := 126) (ls' := [some (yr 75), some (yi s), some (yi (M 76 (5 * s))), some (yi (M 76 ((5 * s) + 3))), some (yi (M 76 ((5 * s) + 4))), some (yi v108)]) (st' := [yi 999, yi 0, yi v108]) (M' := M) (N' := N) rfl ?_
                  refine r_static (mj := 113) (as := [yi v108, yi 0, yi 999]) (rest := []) f_141_126 (by decide) rfl m_113 rfl rfl rfl (Nat.le_of_ble_eq_true rfl) (by omega) (m_within (by omega) (by omega) (by omega)) ?_
                  rintro _ _ _ ⟨v126, rfl, hv126, rfl, rfl⟩
                  refine r_iret m_141 rfl f_141_129 ?_
                  exact ⟨_, rfl, by unfold sUpTo; (repeat' split) <;> omega, rfl, rfl⟩
        · refine r_run 7 (pc' := 78) (ls' := [some (yr 75), some (yi s), some (yi (M 76 (5 * s))), some (yi (M 76 ((5 * s) + 3))), some (yi (M 76 ((5 * s) + 4))), some (yi (((M 76 ((5 * s) + 3)) + (M 76 ((5 * s) + 4))) + (M 75 4)))]) (st' := [yi 2, yi (M 76 (5 * s))]) (M' := M) (N' := N) rfl ?_
          refine r_icmp_eq (pc := 78) f_141_78 (by omega) (by omega) (fun h78 => ?_) (fun h78 => ?_)
          · refine r_run 2 (pc' := 88) (ls' := [some (yr 75), some (yi s), some (yi (M 76 (5 * s))), some (yi (M 76 ((5 * s) + 3))), some (yi (M 76 ((5 * s) + 4))), some (yi (((M 76 ((5 * s) + 3)) + (M 76 ((5 * s) + 4))) + (M 75 4)))]) (st' := [yi s, yr 75]) (M' := M) (N' := N) rfl ?_
            refine r_virtual (mj := 139) (b := 75) (as := [yi s]) (rest := []) f_141_88 (by decide) rfl m_139 (by decide) (by decide) (by decide) rfl rfl (Nat.le_of_ble_eq_true rfl) (by omega) (m_isExact hs0 hs hy) ?_
            rintro _ _ _ ⟨v88, rfl, hv88, rfl, rfl⟩
            refine r_if_ne (pc := 91) f_141_91 (by omega) (fun h91 => ?_) (fun h91 => ?_)
            · refine r_run 2 (pc' := 108) (ls' := [some (yr 75), some (yi s), some (yi (M 76 (5 * s))), some (yi (M 76 ((5 * s) + 3))), some (yi (M 76 ((5 * s) + 4))), some (yi (((M 76 ((5 * s) + 3)) + (M 76 ((5 * s) + 4))) + (M 75 4)))]) (st' := [yi s, yr 75]) (M' := M) (N' := N) rfl ?_
              refine r_virtual (mj := 138) (b := 75) (as := [yi s]) (rest := []) f_141_108 (by decide) rfl m_138 (by decide) (by decide) (by decide) rfl rfl (Nat.le_of_ble_eq_true rfl) (by omega) (m_middle hs0 hs) ?_
              rintro _ _ _ ⟨v108, rfl, hv108, rfl, rfl⟩
              refine r_run 5 (pc' := 126) (ls' := [some (yr 75), some (yi s), some (yi (M 76 (5 * s))), some (yi (M 76 ((5 * s) + 3))), some (yi (M 76 ((5 * s) + 4))), some (yi v108)]) (st' := [yi 999, yi 0, yi v108]) (M' := M) (N' := N) rfl ?_
              refine r_static (mj := 113) (as := [yi v108, yi 0, yi 999]) (rest := []) f_141_126 (by decide) rfl m_113 rfl rfl rfl (Nat.le_of_ble_eq_true rfl) (by omega) (m_within (by omega) (by omega) (by omega)) ?_
              rintro _ _ _ ⟨v126, rfl, hv126, rfl, rfl⟩
              refine r_iret m_141 rfl f_141_129 ?_
              exact ⟨_, rfl, by unfold sUpTo; (repeat' split) <;> omega, rfl, rfl⟩
            · refine r_run 5 (pc' := 100) (ls' := [some (yr 75), some (yi s), some (yi (M 76 (5 * s))), some (yi (M 76 ((5 * s) + 3))), some (yi (M 76 ((5 * s) + 4))), some (yi (((M 76 ((5 * s) + 3)) + (M 76 ((5 * s) + 4))) + (M 75 4)))]) (st' := [yi s, yr 75, yi ((M 76 ((5 * s) + 3)) - (M 76 ((5 * s) + 4)))]) (M' := M) (N' := N) rfl ?_
              refine r_virtual (mj := 138) (b := 75) (as := [yi s]) (rest := [yi ((M 76 ((5 * s) + 3)) - (M 76 ((5 * s) + 4)))]) f_141_100 (by decide) rfl m_138 (by decide) (by decide) (by decide) rfl rfl (Nat.le_of_ble_eq_true rfl) (by omega) (m_middle hs0 hs) ?_
              rintro _ _ _ ⟨v100, rfl, hv100, rfl, rfl⟩
              refine r_icmp_ge (pc := 103) f_141_103 (by omega) (by omega) (fun h103 => ?_) (fun h103 => ?_)
              · refine r_run 7 (pc' := 126) (ls' := [some (yr 75), some (yi s), some (yi (M 76 (5 * s))), some (yi (M 76 ((5 * s) + 3))), some (yi (M 76 ((5 * s) + 4))), some (yi ((M 76 ((5 * s) + 3)) - (M 76 ((5 * s) + 4))))]) (st' := [yi 999, yi 0, yi ((M 76 ((5 * s) + 3)) - (M 76 ((5 * s) + 4)))]) (M' := M) (N' := N) rfl ?_
                refine r_static (mj := 113) (as := [yi ((M 76 ((5 * s) + 3)) - (M 76 ((5 * s) + 4))), yi 0, yi 999]) (rest := []) f_141_126 (by decide) rfl m_113 rfl rfl rfl (Nat.le_of_ble_eq_true rfl) (by omega) (m_within (by omega) (by omega) (by omega)) ?_
                rintro _ _ _ ⟨v126, rfl, hv126, rfl, rfl⟩
                refine r_iret m_141 rfl f_141_129 ?_
                exact ⟨_, rfl, by unfold sUpTo; (repeat' split) <;> omega, rfl, rfl⟩
              · refine r_run 2 (pc' := 108) (ls' := [some (yr 75), some (yi s), some (yi (M 76 (5 * s))), some (yi (M 76 ((5 * s) + 3))), some (yi (M 76 ((5 * s) + 4))), some (yi (((M 76 ((5 * s) + 3)) + (M 76 ((5 * s) + 4))) + (M 75 4)))]) (st' := [yi s, yr 75]) (M' := M) (N' := N) rfl ?_
                refine r_virtual (mj := 138) (b := 75) (as := [yi s]) (rest := []) f_141_108 (by decide) rfl m_138 (by decide) (by decide) (by decide) rfl rfl (Nat.le_of_ble_eq_true rfl) (by omega) (m_middle hs0 hs) ?_
                rintro _ _ _ ⟨v108, rfl, hv108, rfl, rfl⟩
                refine r_run 5 (pc' := 126) (ls' := [some (yr 75), some (yi s), some (yi (M 76 (5 * s))), some (yi (M 76 ((5 * s) + 3))), some (yi (M 76 ((5 * s) + 4))), some (yi v108)]) (st' := [yi 999, yi 0, yi v108]) (M' := M) (N' := N) rfl ?_
                refine r_static (mj := 113) (as := [yi v108, yi 0, yi 999]) (rest := []) f_141_126 (by decide) rfl m_113 rfl rfl rfl (Nat.le_of_ble_eq_true rfl) (by omega) (m_within (by omega) (by omega) (by omega)) ?_
                rintro _ _ _ ⟨v126, rfl, hv126, rfl, rfl⟩
                refine r_iret m_141 rfl f_141_129 ?_
                exact ⟨_, rfl, by unfold sUpTo; (repeat' split) <;> omega, rfl, rfl⟩
          · refine r_run 2 (pc' := 83) (ls' := [some (yr 75), some (yi s), some (yi (M 76 (5 * s))), some (yi (M 76 ((5 * s) + 3))), some (yi (M 76 ((5 * s) + 4))), some (yi (((M 76 ((5 * s) + 3)) + (M 76 ((5 * s) + 4))) + (M 75 4)))]) (st' := [yi 4, yi (M 76 (5 * s))]) (M' := M) (N' := N) rfl ?_
            refine r_icmp_ne (pc := 83) f_141_83 (by omega) (by omega) (fun h83 => ?_) (fun h83 => ?_)
            · refine r_run 3 (pc' := 126) (ls' := [some (yr 75), some (yi s), some (yi (M 76 (5 * s))), some (yi (M 76 ((5 * s) + 3))), some (yi (M 76 ((5 * s) + 4))), some (yi (((M 76 ((5 * s) + 3)) + (M 76 ((5 * s) + 4))) + (M 75 4)))]) (st' := [yi 999, yi 0, yi (((M 76 ((5 * s) + 3)) + (M 76 ((5 * s) + 4))) + (M 75 4))]) (M' := M) (N' := N) rfl ?_
              refine r_static (mj := 113) (as := [yi (((M 76 ((5 * s) + 3)) + (M 76 ((5 * s) + 4))) + (M 75 4)), yi 0, yi 999]) (rest := []) f_141_126 (by decide) rfl m_113 rfl rfl rfl (Nat.le_of_ble_eq_true rfl) (by omega) (m_within (by omega) (by omega) (by omega)) ?_
              rintro _ _ _ ⟨v126, rfl, hv126, rfl, rfl⟩
              refine r_iret m_141 rfl f_141_129 ?_
              exact ⟨_, rfl, by unfold sUpTo; (repeat' split) <;> omega, rfl, rfl⟩
            · refine r_run 2 (pc' := 88) (ls' := [some (yr 75), some (yi s), some (yi (M 76 (5 * s))), some (yi (M 76 ((5 * s) + 3))), some (yi (M 76 ((5 * s) + 4))), some (yi (((M 76 ((5 * s) + 3)) + (M 76 ((5 * s) + 4))) + (M 75 4)))]) (st' := [yi s, yr 75]) (M' := M) (N' := N) rfl ?_
              refine r_virtual (mj := 139) (b := 75) (as := [yi s]) (rest := []) f_141_88 (by decide) rfl m_139 (by decide) (by decide) (by decide) rfl rfl (Nat.le_of_ble_eq_true rfl) (by omega) (m_isExact hs0 hs hy) ?_
              rintro _ _ _ ⟨v88, rfl, hv88, rfl, rfl⟩
              refine r_if_ne (pc := 91) f_141_91 (by omega) (fun h91 => ?_) (fun h91 => ?_)
              · refine r_run 2 (pc' := 108) (ls' := [some (yr 75), some (yi s), some (yi (M 76 (5 * s))), some (yi (M 76 ((5 * s) + 3))), some (yi (M 76 ((5 * s) + 4))), some (yi (((M 76 ((5 * s) + 3)) + (M 76 ((5 * s) + 4))) + (M 75 4)))]) (st' := [yi s, yr 75]) (M' := M) (N' := N) rfl ?_
                refine r_virtual (mj := 138) (b := 75) (as := [yi s]) (rest := []) f_141_108 (by decide) rfl m_138 (by decide) (by decide) (by decide) rfl rfl (Nat.le_of_ble_eq_true rfl) (by omega) (m_middle hs0 hs) ?_
                rintro _ _ _ ⟨v108, rfl, hv108, rfl, rfl⟩
                refine r_run 5 (pc' := 126) (ls' := [some (yr 75), some (yi s), some (yi (M 76 (5 * s))), some (yi (M 76 ((5 * s) + 3))), some (yi (M 76 ((5 * s) + 4))), some (yi v108)]) (st' := [yi 999, yi 0, yi v108]) (M' := M) (N' := N) rfl ?_
                refine r_static (mj := 113) (as := [yi v108, yi 0, yi 999]) (rest := []) f_141_126 (by decide) rfl m_113 rfl rfl rfl (Nat.le_of_ble_eq_true rfl) (by omega) (m_within (by omega) (by omega) (by omega)) ?_
                rintro _ _ _ ⟨v126, rfl, hv126, rfl, rfl⟩
                refine r_iret m_141 rfl f_141_129 ?_
                exact ⟨_, rfl, by unfold sUpTo; (repeat' split) <;> omega, rfl, rfl⟩
              · refine r_run 5 (pc' := 100) (ls' := [some (yr 75), some (yi s), some (yi (M 76 (5 * s))), some (yi (M 76 ((5 * s) + 3))), some (yi (M 76 ((5 * s) + 4))), some (yi (((M 76 ((5 * s) + 3)) + (M 76 ((5 * s) + 4))) + (M 75 4)))]) (st' := [yi s, yr 75, yi ((M 76 ((5 * s) + 3)) - (M 76 ((5 * s) + 4)))]) (M' := M) (N' := N) rfl ?_
                refine r_virtual (mj := 138) (b := 75) (as := [yi s]) (rest := [yi ((M 76 ((5 * s) + 3)) - (M 76 ((5 * s) + 4)))]) f_141_100 (by decide) rfl m_138 (by decide) (by decide) (by decide) rfl rfl (Nat.le_of_ble_eq_true rfl) (by omega) (m_middle hs0 hs) ?_
                rintro _ _ _ ⟨v100, rfl, hv100, rfl, rfl⟩
                refine r_icmp_ge (pc := 103) f_141_103 (by omega) (by omega) (fun h103 => ?_) (fun h103 => ?_)
                · refine r_run 7 (pc' := 126) (ls' := [some (yr 75), some (yi s), some (yi (M 76 (5 * s))), some (yi (M 76 ((5 * s) + 3))), some (yi (M 76 ((5 * s) + 4))), some (yi ((M 76 ((5 * s) + 3)) - (M 76 ((5 * s) + 4))))]) (st' := [yi 999, yi 0, yi ((M 76 ((5 * s) + 3)) - (M 76 ((5 * s) + 4)))]) (M' := M) (N' := N) rfl ?_
                  refine r_static (mj := 113) (as := [yi ((M 76 ((5 * s) + 3)) - (M 76 ((5 * s) + 4))), yi 0, yi 999]) (rest := []) f_141_126 (by decide) rfl m_113 rfl rfl rfl (Nat.le_of_ble_eq_true rfl) (by omega) (m_within (by omega) (by omega) (by omega)) ?_
                  rintro _ _ _ ⟨v126, rfl, hv126, rfl, rfl⟩
                  refine r_iret m_141 rfl f_141_129 ?_
                  exact ⟨_, rfl, by unfold sUpTo; (repeat' split) <;> omega, rfl, rfl⟩
                · refine r_run 2 (pc' := 108) (ls' := [some (yr 75), some (yi s), some (yi (M 76 (5 * s))), some (yi (M 76 ((5 * s) + 3))), some (yi (M 76 ((5 * s) + 4))), some (yi (((M 76 ((5 * s) + 3)) + (M 76 ((5 * s) + 4))) + (M 75 4)))]) (st' := [yi s, yr 75]) (M' := M) (N' := N) rfl ?_
                  refine r_virtual (mj := 138) (b := 75) (as := [yi s]) (rest := []) f_141_108 (by decide) rfl m_138 (by decide) (by decide) (by decide) rfl rfl (Nat.le_of_ble_eq_true rfl) (by omega) (m_middle hs0 hs) ?_
                  rintro _ _ _ ⟨v108, rfl, hv108, rfl, rfl⟩
                  refine r_run 5 (pc' := 126) (ls' := [some (yr 75), some (yi s), some (yi (M 76 (5 * s))), some (yi (M 76 ((5 * s) + 3))), some (yi (M 76 ((5 * s) + 4))), some (yi v108)]) (st' := [yi 999, yi 0, yi v108]) (M' := M) (N' := N) rfl ?_
                  refine r_static (mj := 113) (as := [yi v108, yi 0, yi 999]) (rest := []) f_141_126 (by decide) rfl m_113 rfl rfl rfl (Nat.le_of_ble_eq_true rfl) (by omega) (m_within (by omega) (by omega) (by omega)) ?_
                  rintro _ _ _ ⟨v126, rfl, hv126, rfl, rfl⟩
                  refine r_iret m_141 rfl f_141_129 ?_
                  exact ⟨_, rfl, by unfold sUpTo; (repeat' split) <;> omega, rfl, rfl⟩
  · refine r_run 5 (pc' := 48) (ls' := [some (yr 75), some (yi s), some (yi (M 76 (5 * s))), some (yi (M 76 ((5 * s) + 3))), some (yi (M 76 ((5 * s) + 4))), some (yi 999)]) (st' := [yi 1, yi (M 76 (5 * s))]) (M' := M) (N' := N) rfl ?_
    refine r_icmp_eq (pc := 48) f_141_48 (by omega) (by omega) (fun h48 => ?_) (fun h48 => ?_)
    · refine r_run 5 (pc' := 62) (ls' := [some (yr 75), some (yi s), some (yi (M 76 (5 * s))), some (yi (M 76 ((5 * s) + 3))), some (yi (M 76 ((5 * s) + 4))), some (yi 999)]) (st' := [yi 3, yi (M 76 (5 * s)), yi ((M 76 ((5 * s) + 3)) + (M 76 ((5 * s) + 4)))]) (M' := M) (N' := N) rfl ?_
      refine r_icmp_ne (pc := 62) f_141_62 (by omega) (by omega) (fun h62 => ?_) (fun h62 => ?_)
      · refine r_run 5 (pc' := 78) (ls' := [some (yr 75), some (yi s), some (yi (M 76 (5 * s))), some (yi (M 76 ((5 * s) + 3))), some (yi (M 76 ((5 * s) + 4))), some (yi (((M 76 ((5 * s) + 3)) + (M 76 ((5 * s) + 4))) + 0))]) (st' := [yi 2, yi (M 76 (5 * s))]) (M' := M) (N' := N) rfl ?_
        refine r_icmp_eq (pc := 78) f_141_78 (by omega) (by omega) (fun h78 => ?_) (fun h78 => ?_)
        · refine r_run 2 (pc' := 88) (ls' := [some (yr 75), some (yi s), some (yi (M 76 (5 * s))), some (yi (M 76 ((5 * s) + 3))), some (yi (M 76 ((5 * s) + 4))), some (yi (((M 76 ((5 * s) + 3)) + (M 76 ((5 * s) + 4))) + 0))]) (st' := [yi s, yr 75]) (M' := M) (N' := N) rfl ?_
          refine r_virtual (mj := 139) (b := 75) (as := [yi s]) (rest := []) f_141_88 (by decide) rfl m_139 (by decide) (by decide) (by decide) rfl rfl (Nat.le_of_ble_eq_true rfl) (by omega) (m_isExact hs0 hs hy) ?_
          rintro _ _ _ ⟨v88, rfl, hv88, rfl, rfl⟩
          refine r_if_ne (pc := 91) f_141_91 (by omega) (fun h91 => ?_) (fun h91 => ?_)
          · refine r_run 2 (pc' := 108) (ls' := [some (yr 75), some (yi s), some (yi (M 76 (5 * s))), some (yi (M 76 ((5 * s) + 3))), some (yi (M 76 ((5 * s) + 4))), some (yi (((M 76 ((5 * s) + 3)) + (M 76 ((5 * s) + 4))) + 0))]) (st' := [yi s, yr 75]) (M' := M) (N' := N) rfl ?_
            refine r_virtual (mj := 138) (b := 75) (as := [yi s]) (rest := []) f_141_108 (by decide) rfl m_138 (by decide) (by decide) (by decide) rfl rfl (Nat.le_of_ble_eq_true rfl) (by omega) (m_middle hs0 hs) ?_
            rintro _ _ _ ⟨v108, rfl, hv108, rfl, rfl⟩
            refine r_run 5 (pc' := 126) (ls' := [some (yr 75), some (yi s), some (yi (M 76 (5 * s))), some (yi (M 76 ((5 * s) + 3))), some (yi (M 76 ((5 * s) + 4))), some (yi v108)]) (st' := [yi 999, yi 0, yi v108]) (M' := M) (N' := N) rfl ?_
            refine r_static (mj := 113) (as := [yi v108, yi 0, yi 999]) (rest := []) f_141_126 (by decide) rfl m_113 rfl rfl rfl (Nat.le_of_ble_eq_true rfl) (by omega) (m_within (by omega) (by omega) (by omega)) ?_
            rintro _ _ _ ⟨v126, rfl, hv126, rfl, rfl⟩
            refine r_iret m_141 rfl f_141_129 ?_
            exact ⟨_, rfl, by unfold sUpTo; (repeat' split) <;> omega, rfl, rfl⟩
          · refine r_run 5 (pc' := 100) (ls' := [some (yr 75), some (yi s), some (yi (M 76 (5 * s))), some (yi (M 76 ((5 * s) + 3))), some (yi (M 76 ((5 * s) + 4))), some (yi (((M 76 ((5 * s) + 3)) + (M 76 ((5 * s) + 4))) + 0))]) (st' := [yi s, yr 75, yi ((M 76 ((5 * s) + 3)) - (M 76 ((5 * s) + 4)))]) (M' := M) (N' := N) rfl ?_
            refine r_virtual (mj := 138) (b := 75) (as := [yi s]) (rest := [yi ((M 76 ((5 * s) + 3)) - (M 76 ((5 * s) + 4)))]) f_141_100 (by decide) rfl m_138 (by decide) (by decide) (by decide) rfl rfl (Nat.le_of_ble_eq_true rfl) (by omega) (m_middle hs0 hs) ?_
            rintro _ _ _ ⟨v100, rfl, hv100, rfl, rfl⟩
            refine r_icmp_ge (pc := 103) f_141_103 (by omega) (by omega) (fun h103 => ?_) (fun h103 => ?_)
            · refine r_run 7 (pc' := 126) (ls' := [some (yr 75), some (yi s), some (yi (M 76 (5 * s))), some (yi (M 76 ((5 * s) + 3))), some (yi (M 76 ((5 * s) + 4))), some (yi ((M 76 ((5 * s) + 3)) - (M 76 ((5 * s) + 4))))]) (st' := [yi 999, yi 0, yi ((M 76 ((5 * s) + 3)) - (M 76 ((5 * s) + 4)))]) (M' := M) (N' := N) rfl ?_
              refine r_static (mj := 113) (as := [yi ((M 76 ((5 * s) + 3)) - (M 76 ((5 * s) + 4))), yi 0, yi 999]) (rest := []) f_141_126 (by decide) rfl m_113 rfl rfl rfl (Nat.le_of_ble_eq_true rfl) (by omega) (m_within (by omega) (by omega) (by omega)) ?_
              rintro _ _ _ ⟨v126, rfl, hv126, rfl, rfl⟩
              refine r_iret m_141 rfl f_141_129 ?_
              exact ⟨_, rfl, by unfold sUpTo; (repeat' split) <;> omega, rfl, rfl⟩
            · refine r_run 2 (pc' := 108) (ls' := [some (yr 75), some (yi s), some (yi (M 76 (5 * s))), some (yi (M 76 ((5 * s) + 3))), some (yi (M 76 ((5 * s) + 4))), some (yi (((M 76 ((5 * s) + 3)) + (M 76 ((5 * s) + 4))) + 0))]) (st' := [yi s, yr 75]) (M' := M) (N' := N) rfl ?_
              refine r_virtual (mj := 138) (b := 75) (as := [yi s]) (rest := []) f_141_108 (by decide) rfl m_138 (by decide) (by decide) (by decide) rfl rfl (Nat.le_of_ble_eq_true rfl) (by omega) (m_middle hs0 hs) ?_
              rintro _ _ _ ⟨v108, rfl, hv108, rfl, rfl⟩
              refine r_run 5 (pc' := 126) (ls' := [some (yr 75), some (yi s), some (yi (M 76 (5 * s))), some (yi (M 76 ((5 * s) + 3))), some (yi (M 76 ((5 * s) + 4))), some (yi v108)]) (st' := [yi 999, yi 0, yi v108]) (M' := M) (N' := N) rfl ?_
              refine r_static (mj := 113) (as := [yi v108, yi 0, yi 999]) (rest := []) f_141_126 (by decide) rfl m_113 rfl rfl rfl (Nat.le_of_ble_eq_true rfl) (by omega) (m_within (by omega) (by omega) (by omega)) ?_
              rintro _ _ _ ⟨v126, rfl, hv126, rfl, rfl⟩
              refine r_iret m_141 rfl f_141_129 ?_
              exact ⟨_, rfl, by unfold sUpTo; (repeat' split) <;> omega, rfl, rfl⟩
        · refine r_run 2 (pc' := 83) (ls' := [some (yr 75), some (yi s), some (yi (M 76 (5 * s))), some (yi (M 76 ((5 * s) + 3))), some (yi (M 76 ((5 * s) + 4))), some (yi (((M 76 ((5 * s) + 3)) + (M 76 ((5 * s) + 4))) + 0))]) (st' := [yi 4, yi (M 76 (5 * s))]) (M' := M) (N' := N) rfl ?_
          refine r_icmp_ne (pc := 83) f_141_83 (by omega) (by omega) (fun h83 => ?_) (fun h83 => ?_)
          · refine r_run 3 (pc' := 126) (ls' := [some (yr 75), some (yi s), some (yi (M 76 (5 * s))), some (yi (M 76 ((5 * s) + 3))), some (yi (M 76 ((5 * s) + 4))), some (yi (((M 76 ((5 * s) + 3)) + (M 76 ((5 * s) + 4))) + 0))]) (st' := [yi 999, yi 0, yi (((M 76 ((5 * s) + 3)) + (M 76 ((5 * s) + 4))) + 0)]) (M' := M) (N' := N) rfl ?_
            refine r_static (mj := 113) (as := [yi (((M 76 ((5 * s) + 3)) + (M 76 ((5 * s) + 4))) + 0), yi 0, yi 999]) (rest := []) f_141_126 (by decide) rfl m_113 rfl rfl rfl (Nat.le_of_ble_eq_true rfl) (by omega) (m_within (by omega) (by omega) (by omega)) ?_
            rintro _ _ _ ⟨v126, rfl, hv126, rfl, rfl⟩
            refine r_iret m_141 rfl f_141_129 ?_
            exact ⟨_, rfl, by unfold sUpTo; (repeat' split) <;> omega, rfl, rfl⟩
          · refine r_run 2 (pc' := 88) (ls' := [some (yr 75), some (yi s), some (yi (M 76 (5 * s))), some (yi (M 76 ((5 * s) + 3))), some (yi (M 76 ((5 * s) + 4))), some (yi (((M 76 ((5 * s) + 3)) + (M 76 ((5 * s) + 4))) + 0))]) (st' := [yi s, yr 75]) (M' := M) (N' := N) rfl ?_
            refine r_virtual (mj := 139) (b := 75) (as := [yi s]) (rest := []) f_141_88 (by decide) rfl m_139 (by decide) (by decide) (by decide) rfl rfl (Nat.le_of_ble_eq_true rfl) (by omega) (m_isExact hs0 hs hy) ?_
            rintro _ _ _ ⟨v88, rfl, hv88, rfl, rfl⟩
            refine r_if_ne (pc := 91) f_141_91 (by omega) (fun h91 => ?_) (fun h91 => ?_)
            · refine r_run 2 (pc' := 108) (ls' := [some (yr 75), some (yi s), some (yi (M 76 (5 * s))), some (yi (M 76 ((5 * s) + 3))), some (yi (M 76 ((5 * s) + 4))), some (yi (((M 76 ((5 * s) + 3)) + (M 76 ((5 * s) + 4))) + 0))]) (st' := [yi s, yr 75]) (M' := M) (N' := N) rfl ?_
              refine r_virtual (mj := 138) (b := 75) (as := [yi s]) (rest := []) f_141_108 (by decide) rfl m_138 (by decide) (by decide) (by decide) rfl rfl (Nat.le_of_ble_eq_true rfl) (by omega) (m_middle hs0 hs) ?_
              rintro _ _ _ ⟨v108, rfl, hv108, rfl, rfl⟩
              refine r_run 5 (pc' := 126) (ls' := [some (yr 75), some (yi s), some (yi (M 76 (5 * s))), some (yi (M 76 ((5 * s) + 3))), some (yi (M 76 ((5 * s) + 4))), some (yi v108)]) (st' := [yi 999, yi 0, yi v108]) (M' := M) (N' := N) rfl ?_
              refine r_static (mj := 113) (as := [yi v108, yi 0, yi 999]) (rest := []) f_141_126 (by decide) rfl m_113 rfl rfl rfl (Nat.le_of_ble_eq_true rfl) (by omega) (m_within (by omega) (by omega) (by omega)) ?_
              rintro _ _ _ ⟨v126, rfl, hv126, rfl, rfl⟩
              refine r_iret m_141 rfl f_141_129 ?_
              exact ⟨_, rfl, by unfold sUpTo; (repeat' split) <;> omega, rfl, rfl⟩
            · refine r_run 5 (pc' := 100) (ls' := [some (yr 75), some (yi s), some (yi (M 76 (5 * s))), some (yi (M 76 ((5 * s) + 3))), some (yi (M 76 ((5 * s) + 4))), some (yi (((M 76 ((5 * s) + 3)) + (M 76 ((5 * s) + 4))) + 0))]) (st' := [yi s, yr 75, yi ((M 76 ((5 * s) + 3)) - (M 76 ((5 * s) + 4)))]) (M' := M) (N' := N) rfl ?_
              refine r_virtual (mj := 138) (b := 75) (as := [yi s]) (rest := [yi ((M 76 ((5 * s) + 3)) - (M 76 ((5 * s) + 4)))]) f_141_100 (by decide) rfl m_138 (by decide) (by decide) (by decide) rfl rfl (Nat.le_of_ble_eq_true rfl) (by omega) (m_middle hs0 hs) ?_
              rintro _ _ _ ⟨v100, rfl, hv100, rfl, rfl⟩
              refine r_icmp_ge (pc := 103) f_141_103 (by omega) (by omega) (fun h103 => ?_) (fun h103 => ?_)
              · refine r_run 7 (pc' := 126) (ls' := [some (yr 75), some (yi s), some (yi (M 76 (5 * s))), some (yi (M 76 ((5 * s) + 3))), some (yi (M 76 ((5 * s) + 4))), some (yi ((M 76 ((5 * s) + 3)) - (M 76 ((5 * s) + 4))))]) (st' := [yi 999, yi 0, yi ((M 76 ((5 * s) + 3)) - (M 76 ((5 * s) + 4)))]) (M' := M) (N' := N) rfl ?_
                refine r_static (mj := 113) (as := [yi ((M 76 ((5 * s) + 3)) - (M 76 ((5 * s) + 4))), yi 0, yi 999]) (rest := []) f_141_126 (by decide) rfl m_113 rfl rfl rfl (Nat.le_of_ble_eq_true rfl) (by omega) (m_within (by omega) (by omega) (by omega)) ?_
                rintro _ _ _ ⟨v126, rfl, hv126, rfl, rfl⟩
                refine r_iret m_141 rfl f_141_129 ?_
                exact ⟨_, rfl, by unfold sUpTo; (repeat' split) <;> omega, rfl, rfl⟩
              · refine r_run 2 (pc' := 108) (ls' := [some (yr 75), some (yi s), some (yi (M 76 (5 * s))), some (yi (M 76 ((5 * s) + 3))), some (yi (M 76 ((5 * s) + 4))), some (yi (((M 76 ((5 * s) + 3)) + (M 76 ((5 * s) + 4))) + 0))]) (st' := [yi s, yr 75]) (M' := M) (N' := N) rfl ?_
                refine r_virtual (mj := 138) (b := 75) (as := [yi s]) (rest := []) f_141_108 (by decide) rfl m_138 (by decide) (by decide) (by decide) rfl rfl (Nat.le_of_ble_eq_true rfl) (by omega) (m_middle hs0 hs) ?_
                rintro _ _ _ ⟨v108, rfl, hv108, rfl, rfl⟩
                refine r_run 5 (pc' := 126) (ls' := [some (yr 75), some (yi s), some (yi (M 76 (5 * s))), some (yi (M 76 ((5 * s) + 3))), some (yi (M 76 ((5 * s) + 4))), some (yi v108)]) (st' := [yi 999, yi 0, yi v108]) (M' := M) (N' := N) rfl ?_
                refine r_static (mj := 113) (as := [yi v108, yi 0, yi 999]) (rest := []) f_141_126 (by decide) rfl m_113 rfl rfl rfl (Nat.le_of_ble_eq_true rfl) (by omega) (m_within (by omega) (by omega) (by omega)) ?_
                rintro _ _ _ ⟨v126, rfl, hv126, rfl, rfl⟩
                refine r_iret m_141 rfl f_141_129 ?_
                exact ⟨_, rfl, by unfold sUpTo; (repeat' split) <;> omega, rfl, rfl⟩
      · refine r_run 7 (pc' := 78) (ls' := [some (yr 75), some (yi s), some (yi (M 76 (5 * s))), some (yi (M 76 ((5 * s) + 3))), some (yi (M 76 ((5 * s) + 4))), some (yi (((M 76 ((5 * s) + 3)) + (M 76 ((5 * s) + 4))) + (M 75 4)))]) (st' := [yi 2, yi (M 76 (5 * s))]) (M' := M) (N' := N) rfl ?_
        refine r_icmp_eq (pc := 78) f_141_78 (by omega) (by omega) (fun h78 => ?_) (fun h78 => ?_)
        · refine r_run 2 (pc' := 88) (ls' := [some (yr 75), some (yi s), some (yi (M 76 (5 * s))), some (yi (M 76 ((5 * s) + 3))), some (yi (M 76 ((5 * s) + 4))), some (yi (((M 76 ((5 * s) + 3)) + (M 76 ((5 * s) + 4))) + (M 75 4)))]) (st' := [yi s, yr 75]) (M' := M) (N' := N) rfl ?_
          refine r_virtual (mj := 139) (b := 75) (as := [yi s]) (rest := []) f_141_88 (by decide) rfl m_139 (by decide) (by decide) (by decide) rfl rfl (Nat.le_of_ble_eq_true rfl) (by omega) (m_isExact hs0 hs hy) ?_
          rintro _ _ _ ⟨v88, rfl, hv88, rfl, rfl⟩
          refine r_if_ne (pc := 91) f_141_91 (by omega) (fun h91 => ?_) (fun h91 => ?_)
          · refine r_run 2 (pc' := 108) (ls' := [some (yr 75), some (yi s), some (yi (M 76 (5 * s))), some (yi (M 76 ((5 * s) + 3))), some (yi (M 76 ((5 * s) + 4))), some (yi (((M 76 ((5 * s) + 3)) + (M 76 ((5 * s) + 4))) + (M 75 4)))]) (st' := [yi s, yr 75]) (M' := M) (N' := N) rfl ?_
            refine r_virtual (mj := 138) (b := 75) (as := [yi s]) (rest := []) f_141_108 (by decide) rfl m_138 (by decide) (by decide) (by decide) rfl rfl (Nat.le_of_ble_eq_true rfl) (by omega) (m_middle hs0 hs) ?_
            rintro _ _ _ ⟨v108, rfl, hv108, rfl, rfl⟩
            refine r_run 5 (pc' := 126) (ls' := [some (yr 75), some (yi s), some (yi (M 76 (5 * s))), some (yi (M 76 ((5 * s) + 3))), some (yi (M 76 ((5 * s) + 4))), some (yi v108)]) (st' := [yi 999, yi 0, yi v108]) (M' := M) (N' := N) rfl ?_
            refine r_static (mj := 113) (as := [yi v108, yi 0, yi 999]) (rest := []) f_141_126 (by decide) rfl m_113 rfl rfl rfl (Nat.le_of_ble_eq_true rfl) (by omega) (m_within (by omega) (by omega) (by omega)) ?_
            rintro _ _ _ ⟨v126, rfl, hv126, rfl, rfl⟩
            refine r_iret m_141 rfl f_141_129 ?_
            exact ⟨_, rfl, by unfold sUpTo; (repeat' split) <;> omega, rfl, rfl⟩
          · refine r_run 5 (pc' := 100) (ls' := [some (yr 75), some (yi s), some (yi (M 76 (5 * s))), some (yi (M 76 ((5 * s) + 3))), some (yi (M 76 ((5 * s) + 4))), some (yi (((M 76 ((5 * s) + 3)) + (M 76 ((5 * s) + 4))) + (M 75 4)))]) (st' := [yi s, yr 75, yi ((M 76 ((5 * s) + 3)) - (M 76 ((5 * s) + 4)))]) (M' := M) (N' := N) rfl ?_
            refine r_virtual (mj := 138) (b := 75) (as := [yi s]) (rest := [yi ((M 76 ((5 * s) + 3)) - (M 76 ((5 * s) + 4)))]) f_141_100 (by decide) rfl m_138 (by decide) (by decide) (by decide) rfl rfl (Nat.le_of_ble_eq_true rfl) (by omega) (m_middle hs0 hs) ?_
            rintro _ _ _ ⟨v100, rfl, hv100, rfl, rfl⟩
            refine r_icmp_ge (pc := 103) f_141_103 (by omega) (by omega) (fun h103 => ?_) (fun h103 => ?_)
            · refine r_run 7 (pc' := 126) (ls' := [some (yr 75), some (yi s), some (yi (M 76 (5 * s))), some (yi (M 76 ((5 * s) + 3))), some (yi (M 76 ((5 * s) + 4))), some (yi ((M 76 ((5 * s) + 3)) - (M 76 ((5 * s) + 4))))]) (st' := [yi 999, yi 0, yi ((M 76 ((5 * s) + 3)) - (M 76 ((5 * s) + 4)))]) (M' := M) (N' := N) rfl ?_
              refine r_static (mj := 113) (as := [yi ((M 76 ((5 * s) + 3)) - (M 76 ((5 * s) + 4))), yi 0, yi 999]) (rest := []) f_141_126 (by decide) rfl m_113 rfl rfl rfl (Nat.le_of_ble_eq_true rfl) (by omega) (m_within (by omega) (by omega) (by omega)) ?_
              rintro _ _ _ ⟨v126, rfl, hv126, rfl, rfl⟩
              refine r_iret m_141 rfl f_141_129 ?_
              exact ⟨_, rfl, by unfold sUpTo; (repeat' split) <;> omega, rfl, rfl⟩
            · refine r_run 2 (pc' := 108) (ls' := [some (yr 75), some (yi s), some (yi (M 76 (5 * s))), some (yi (M 76 ((5 * s) + 3))), some (yi (M 76 ((5 * s) + 4))), some (yi (((M 76 ((5 * s) + 3)) + (M 76 ((5 * s) + 4))) + (M 75 4)))]) (st' := [yi s, yr 75]) (M' := M) (N' := N) rfl ?_
              refine r_virtual (mj := 138) (b := 75) (as := [yi s]) (rest := []) f_141_108 (by decide) rfl m_138 (by decide) (by decide) (by decide) rfl rfl (Nat.le_of_ble_eq_true rfl) (by omega) (m_middle hs0 hs) ?_
              rintro _ _ _ ⟨v108, rfl, hv108, rfl, rfl⟩
              refine r_run 5 (pc' := 126) (ls' := [some (yr 75), some (yi s), some (yi (M 76 (5 * s))), some (yi (M 76 ((5 * s) + 3))), some (yi (M 76 ((5 * s) + 4))), some (yi v108)]) (st' := [yi 999, yi 0, yi v108]) (M' := M) (N' := N) rfl ?_
              refine r_static (mj := 113) (as := [yi v108, yi 0, yi 999]) (rest := []) f_141_126 (by decide) rfl m_113 rfl rfl rfl (Nat.le_of_ble_eq_true rfl) (by omega) (m_within (by omega) (by omega) (by omega)) ?_
              rintro _ _ _ ⟨v126, rfl, hv126, rfl, rfl⟩
              refine r_iret m_141 rfl f_141_129 ?_
              exact ⟨_, rfl, by unfold sUpTo; (repeat' split) <;> omega, rfl, rfl⟩
        · refine r_run 2 (pc' := 83) (ls' := [some (yr 75), some (yi s), some (yi (M 76 (5 * s))), some (yi (M 76 ((5 * s) + 3))), some (yi (M 76 ((5 * s) + 4))), some (yi (((M 76 ((5 * s) + 3)) + (M 76 ((5 * s) + 4))) + (M 75 4)))]) (st' := [yi 4, yi (M 76 (5 * s))]) (M' := M) (N' := N) rfl ?_
          refine r_icmp_ne (pc := 83) f_141_83 (by omega) (by omega) (fun h83 => ?_) (fun h83 => ?_)
          · refine r_run 3 (pc' := 126) (ls' := [some (yr 75), some (yi s), some (yi (M 76 (5 * s))), some (yi (M 76 ((5 * s) + 3))), some (yi (M 76 ((5 * s) + 4))), some (yi (((M 76 ((5 * s) + 3)) + (M 76 ((5 * s) + 4))) + (M 75 4)))]) (st' := [yi 999, yi 0, yi (((M 76 ((5 * s) + 3)) + (M 76 ((5 * s) + 4))) + (M 75 4))]) (M' := M) (N' := N) rfl ?_
            refine r_static (mj := 113) (as := [yi (((M 76 ((5 * s) + 3)) + (M 76 ((5 * s) + 4))) + (M 75 4)), yi 0, yi 999]) (rest := []) f_141_126 (by decide) rfl m_113 rfl rfl rfl (Nat.le_of_ble_eq_true rfl) (by omega) (m_within (by omega) (by omega) (by omega)) ?_
            rintro _ _ _ ⟨v126, rfl, hv126, rfl, rfl⟩
            refine r_iret m_141 rfl f_141_129 ?_
            exact ⟨_, rfl, by unfold sUpTo; (repeat' split) <;> omega, rfl, rfl⟩
          · refine r_run 2 (pc' := 88) (ls' := [some (yr 75), some (yi s), some (yi (M 76 (5 * s))), some (yi (M 76 ((5 * s) + 3))), some (yi (M 76 ((5 * s) + 4))), some (yi (((M 76 ((5 * s) + 3)) + (M 76 ((5 * s) + 4))) + (M 75 4)))]) (st' := [yi s, yr 75]) (M' := M) (N' := N) rfl ?_
            refine r_virtual (mj := 139) (b := 75) (as := [yi s]) (rest := []) f_141_88 (by decide) rfl m_139 (by decide) (by decide) (by decide) rfl rfl (Nat.le_of_ble_eq_true rfl) (by omega) (m_isExact hs0 hs hy) ?_
            rintro _ _ _ ⟨v88, rfl, hv88, rfl, rfl⟩
            refine r_if_ne (pc := 91) f_141_91 (by omega) (fun h91 => ?_) (fun h91 => ?_)
            · refine r_run 2 (pc' := 108) (ls' := [some (yr 75), some (yi s), some (yi (M 76 (5 * s))), some (yi (M 76 ((5 * s) + 3))), some (yi (M 76 ((5 * s) + 4))), some (yi (((M 76 ((5 * s) + 3)) + (M 76 ((5 * s) + 4))) + (M 75 4)))]) (st' := [yi s, yr 75]) (M' := M) (N' := N) rfl ?_
              refine r_virtual (mj := 138) (b := 75) (as := [yi s]) (rest := []) f_141_108 (by decide) rfl m_138 (by decide) (by decide) (by decide) rfl rfl (Nat.le_of_ble_eq_true rfl) (by omega) (m_middle hs0 hs) ?_
              rintro _ _ _ ⟨v108, rfl, hv108, rfl, rfl⟩
              refine r_run 5 (pc' := 126) (ls' := [some (yr 75), some (yi s), some (yi (M 76 (5 * s))), some (yi (M 76 ((5 * s) + 3))), some (yi (M 76 ((5 * s) + 4))), some (yi v108)]) (st' := [yi 999, yi 0, yi v108]) (M' := M) (N' := N) rfl ?_
              refine r_static (mj := 113) (as := [yi v108, yi 0, yi 999]) (rest := []) f_141_126 (by decide) rfl m_113 rfl rfl rfl (Nat.le_of_ble_eq_true rfl) (by omega) (m_within (by omega) (by omega) (by omega)) ?_
              rintro _ _ _ ⟨v126, rfl, hv126, rfl, rfl⟩
              refine r_iret m_141 rfl f_141_129 ?_
              exact ⟨_, rfl, by unfold sUpTo; (repeat' split) <;> omega, rfl, rfl⟩
            · refine r_run 5 (pc' := 100) (ls' := [some (yr 75), some (yi s), some (yi (M 76 (5 * s))), some (yi (M 76 ((5 * s) + 3))), some (yi (M 76 ((5 * s) + 4))), some (yi (((M 76 ((5 * s) + 3)) + (M 76 ((5 * s) + 4))) + (M 75 4)))]) (st' := [yi s, yr 75, yi ((M 76 ((5 * s) + 3)) - (M 76 ((5 * s) + 4)))]) (M' := M) (N' := N) rfl ?_
              refine r_virtual (mj := 138) (b := 75) (as := [yi s]) (rest := [yi ((M 76 ((5 * s) + 3)) - (M 76 ((5 * s) + 4)))]) f_141_100 (by decide) rfl m_138 (by decide) (by decide) (by decide) rfl rfl (Nat.le_of_ble_eq_true rfl) (by omega) (m_middle hs0 hs) ?_
              rintro _ _ _ ⟨v100, rfl, hv100, rfl, rfl⟩
              refine r_icmp_ge (pc := 103) f_141_103 (by omega) (by omega) (fun h103 => ?_) (fun h103 => ?_)
              · refine r_run 7 (pc' := 126) (ls' := [some (yr 75), some (yi s), some (yi (M 76 (5 * s))), some (yi (M 76 ((5 * s) + 3))), some (yi (M 76 ((5 * s) + 4))), some (yi ((M 76 ((5 * s) + 3)) - (M 76 ((5 * s) + 4))))]) (st' := [yi 999, yi 0, yi ((M 76 ((5 * s) + 3)) - (M 76 ((5 * s) + 4)))]) (M' := M) (N' := N) rfl ?_
                refine r_static (mj := 113) (as := [yi ((M 76 ((5 * s) + 3)) - (M 76 ((5 * s) + 4))), yi 0, yi 999]) (rest := []) f_141_126 (by decide) rfl m_113 rfl rfl rfl (Nat.le_of_ble_eq_true rfl) (by omega) (m_within (by omega) (by omega) (by omega)) ?_
                rintro _ _ _ ⟨v126, rfl, hv126, rfl, rfl⟩
                refine r_iret m_141 rfl f_141_129 ?_
                exact ⟨_, rfl, by unfold sUpTo; (repeat' split) <;> omega, rfl, rfl⟩
              · refine r_run 2 (pc' := 108) (ls' := [some (yr 75), some (yi s), some (yi (M 76 (5 * s))), some (yi (M 76 ((5 * s) + 3))), some (yi (M 76 ((5 * s) + 4))), some (yi (((M 76 ((5 * s) + 3)) + (M 76 ((5 * s) + 4))) + (M 75 4)))]) (st' := [yi s, yr 75]) (M' := M) (N' := N) rfl ?_
                refine r_virtual (mj := 138) (b := 75) (as := [yi s]) (rest := []) f_141_108 (by decide) rfl m_138 (by decide) (by decide) (by decide) rfl rfl (Nat.le_of_ble_eq_true rfl) (by omega) (m_middle hs0 hs) ?_
                rintro _ _ _ ⟨v108, rfl, hv108, rfl, rfl⟩
                refine r_run 5 (pc' := 126) (ls' := [some (yr 75), some (yi s), some (yi (M 76 (5 * s))), some (yi (M 76 ((5 * s) + 3))), some (yi (M 76 ((5 * s) + 4))), some (yi v108)]) (st' := [yi 999, yi 0, yi v108]) (M' := M) (N' := N) rfl ?_
                refine r_static (mj := 113) (as := [yi v108, yi 0, yi 999]) (rest := []) f_141_126 (by decide) rfl m_113 rfl rfl rfl (Nat.le_of_ble_eq_true rfl) (by omega) (m_within (by omega) (by omega) (by omega)) ?_
                rintro _ _ _ ⟨v126, rfl, hv126, rfl, rfl⟩
                refine r_iret m_141 rfl f_141_129 ?_
                exact ⟨_, rfl, by unfold sUpTo; (repeat' split) <;> omega, rfl, rfl⟩
    · refine r_run 2 (pc' := 53) (ls' := [some (yr 75), some (yi s), some (yi (M 76 (5 * s))), some (yi (M 76 ((5 * s) + 3))), some (yi (M 76 ((5 * s) + 4))), some (yi 999)]) (st' := [yi 3, yi (M 76 (5 * s))]) (M' := M) (N' := N) rfl ?_
      refine r_icmp_ne (pc := 53) f_141_53 (by omega) (by omega) (fun h53 => ?_) (fun h53 => ?_)
      · refine r_run 2 (pc' := 78) (ls' := [some (yr 75), some (yi s), some (yi (M 76 (5 * s))), some (yi (M 76 ((5 * s) + 3))), some (yi (M 76 ((5 * s) + 4))), some (yi 999)]) (st' := [yi 2, yi (M 76 (5 * s))]) (M' := M) (N' := N) rfl ?_
        refine r_icmp_eq (pc := 78) f_141_78 (by omega) (by omega) (fun h78 => ?_) (fun h78 => ?_)
        · refine r_run 2 (pc' := 88) (ls' := [some (yr 75), some (yi s), some (yi (M 76 (5 * s))), some (yi (M 76 ((5 * s) + 3))), some (yi (M 76 ((5 * s) + 4))), some (yi 999)]) (st' := [yi s, yr 75]) (M' := M) (N' := N) rfl ?_
          refine r_virtual (mj := 139) (b := 75) (as := [yi s]) (rest := []) f_141_88 (by decide) rfl m_139 (by decide) (by decide) (by decide) rfl rfl (Nat.le_of_ble_eq_true rfl) (by omega) (m_isExact hs0 hs hy) ?_
          rintro _ _ _ ⟨v88, rfl, hv88, rfl, rfl⟩
          refine r_if_ne (pc := 91) f_141_91 (by omega) (fun h91 => ?_) (fun h91 => ?_)
          · refine r_run 2 (pc' := 108) (ls' := [some (yr 75), some (yi s), some (yi (M 76 (5 * s))), some (yi (M 76 ((5 * s) + 3))), some (yi (M 76 ((5 * s) + 4))), some (yi 999)]) (st' := [yi s, yr 75]) (M' := M) (N' := N) rfl ?_
            refine r_virtual (mj := 138) (b := 75) (as := [yi s]) (rest := []) f_141_108 (by decide) rfl m_138 (by decide) (by decide) (by decide) rfl rfl (Nat.le_of_ble_eq_true rfl) (by omega) (m_middle hs0 hs) ?_
            rintro _ _ _ ⟨v108, rfl, hv108, rfl, rfl⟩
            refine r_run 5 (pc' := 126) (ls' := [some (yr 75), some (yi s), some (yi (M 76 (5 * s))), some (yi (M 76 ((5 * s) + 3))), some (yi (M 76 ((5 * s) + 4))), some (yi v108)]) (st' := [yi 999, yi 0, yi v108]) (M' := M) (N' := N) rfl ?_
            refine r_static (mj := 113) (as := [yi v108, yi 0, yi 999]) (rest := []) f_141_126 (by decide) rfl m_113 rfl rfl rfl (Nat.le_of_ble_eq_true rfl) (by omega) (m_within (by omega) (by omega) (by omega)) ?_
            rintro _ _ _ ⟨v126, rfl, hv126, rfl, rfl⟩
            refine r_iret m_141 rfl f_141_129 ?_
            exact ⟨_, rfl, by unfold sUpTo; (repeat' split) <;> omega, rfl, rfl⟩
          · refine r_run 5 (pc' := 100) (ls' := [some (yr 75), some (yi s), some (yi (M 76 (5 * s))), some (yi (M 76 ((5 * s) + 3))), some (yi (M 76 ((5 * s) + 4))), some (yi 999)]) (st' := [yi s, yr 75, yi ((M 76 ((5 * s) + 3)) - (M 76 ((5 * s) + 4)))]) (M' := M) (N' := N) rfl ?_
            refine r_virtual (mj := 138) (b := 75) (as := [yi s]) (rest := [yi ((M 76 ((5 * s) + 3)) - (M 76 ((5 * s) + 4)))]) f_141_100 (by decide) rfl m_138 (by decide) (by decide) (by decide) rfl rfl (Nat.le_of_ble_eq_true rfl) (by omega) (m_middle hs0 hs) ?_
            rintro _ _ _ ⟨v100, rfl, hv100, rfl, rfl⟩
            refine r_icmp_ge (pc := 103) f_141_103 (by omega) (by omega) (fun h103 => ?_) (fun h103 => ?_)
            · refine r_run 7 (pc' := 126) (ls' := [some (yr 75), some (yi s), some (yi (M 76 (5 * s))), some (yi (M 76 ((5 * s) + 3))), some (yi (M 76 ((5 * s) + 4))), some (yi ((M 76 ((5 * s) + 3)) - (M 76 ((5 * s) + 4))))]) (st' := [yi 999, yi 0, yi ((M 76 ((5 * s) + 3)) - (M 76 ((5 * s) + 4)))]) (M' := M) (N' := N) rfl ?_
              refine r_static (mj := 113) (as := [yi ((M 76 ((5 * s) + 3)) - (M 76 ((5 * s) + 4))), yi 0, yi 999]) (rest := []) f_141_126 (by decide) rfl m_113 rfl rfl rfl (Nat.le_of_ble_eq_true rfl) (by omega) (m_within (by omega) (by omega) (by omega)) ?_
              rintro _ _ _ ⟨v126, rfl, hv126, rfl, rfl⟩
              refine r_iret m_141 rfl f_141_129 ?_
              exact ⟨_, rfl, by unfold sUpTo; (repeat' split) <;> omega, rfl, rfl⟩
            · refine r_run 2 (pc' := 108) (ls' := [some (yr 75), some (yi s), some (yi (M 76 (5 * s))), some (yi (M 76 ((5 * s) + 3))), some (yi (M 76 ((5 * s) + 4))), some (yi 999)]) (st' := [yi s, yr 75]) (M' := M) (N' := N) rfl ?_
              refine r_virtual (mj := 138) (b := 75) (as := [yi s]) (rest := []) f_141_108 (by decide) rfl m_138 (by decide) (by decide) (by decide) rfl rfl (Nat.le_of_ble_eq_true rfl) (by omega) (m_middle hs0 hs) ?_
              rintro _ _ _ ⟨v108, rfl, hv108, rfl, rfl⟩
              refine r_run 5 (pc' := 126) (ls' := [some (yr 75), some (yi s), some (yi (M 76 (5 * s))), some (yi (M 76 ((5 * s) + 3))), some (yi (M 76 ((5 * s) + 4))), some (yi v108)]) (st' := [yi 999, yi 0, yi v108]) (M' := M) (N' := N) rfl ?_
              refine r_static (mj := 113) (as := [yi v108, yi 0, yi 999]) (rest := []) f_141_126 (by decide) rfl m_113 rfl rfl rfl (Nat.le_of_ble_eq_true rfl) (by omega) (m_within (by omega) (by omega) (by omega)) ?_
              rintro _ _ _ ⟨v126, rfl, hv126, rfl, rfl⟩
              refine r_iret m_141 rfl f_141_129 ?_
              exact ⟨_, rfl, by unfold sUpTo; (repeat' split) <;> omega, rfl, rfl⟩
        · refine r_run 2 (pc' := 83) (ls' := [some (yr 75), some (yi s), some (yi (M 76 (5 * s))), some (yi (M 76 ((5 * s) + 3))), some (yi (M 76 ((5 * s) + 4))), some (yi 999)]) (st' := [yi 4, yi (M 76 (5 * s))]) (M' := M) (N' := N) rfl ?_
          refine r_icmp_ne (pc := 83) f_141_83 (by omega) (by omega) (fun h83 => ?_) (fun h83 => ?_)
          · refine r_run 3 (pc' := 126) (ls' := [some (yr 75), some (yi s), some (yi (M 76 (5 * s))), some (yi (M 76 ((5 * s) + 3))), some (yi (M 76 ((5 * s) + 4))), some (yi 999)]) (st' := [yi 999, yi 0, yi 999]) (M' := M) (N' := N) rfl ?_
            refine r_static (mj := 113) (as := [yi 999, yi 0, yi 999]) (rest := []) f_141_126 (by decide) rfl m_113 rfl rfl rfl (Nat.le_of_ble_eq_true rfl) (by omega) (m_within (by omega) (by omega) (by omega)) ?_
            rintro _ _ _ ⟨v126, rfl, hv126, rfl, rfl⟩
            refine r_iret m_141 rfl f_141_129 ?_
            exact ⟨_, rfl, by unfold sUpTo; (repeat' split) <;> omega, rfl, rfl⟩
          · refine r_run 2 (pc' := 88) (ls' := [some (yr 75), some (yi s), some (yi (M 76 (5 * s))), some (yi (M 76 ((5 * s) + 3))), some (yi (M 76 ((5 * s) + 4))), some (yi 999)]) (st' := [yi s, yr 75]) (M' := M) (N' := N) rfl ?_
            refine r_virtual (mj := 139) (b := 75) (as := [yi s]) (rest := []) f_141_88 (by decide) rfl m_139 (by decide) (by decide) (by decide) rfl rfl (Nat.le_of_ble_eq_true rfl) (by omega) (m_isExact hs0 hs hy) ?_
            rintro _ _ _ ⟨v88, rfl, hv88, rfl, rfl⟩
            refine r_if_ne (pc := 91) f_141_91 (by omega) (fun h91 => ?_) (fun h91 => ?_)
            · refine r_run 2 (pc' := 108) (ls' := [some (yr 75), some (yi s), some (yi (M 76 (5 * s))), some (yi (M 76 ((5 * s) + 3))), some (yi (M 76 ((5 * s) + 4))), some (yi 999)]) (st' := [yi s, yr 75]) (M' := M) (N' := N) rfl ?_
              refine r_virtual (mj := 138) (b := 75) (as := [yi s]) (rest := []) f_141_108 (by decide) rfl m_138 (by decide) (by decide) (by decide) rfl rfl (Nat.le_of_ble_eq_true rfl) (by omega) (m_middle hs0 hs) ?_
              rintro _ _ _ ⟨v108, rfl, hv108, rfl, rfl⟩
              refine r_run 5 (pc' := 126) (ls' := [some (yr 75), some (yi s), some (yi (M 76 (5 * s))), some (yi (M 76 ((5 * s) + 3))), some (yi (M 76 ((5 * s) + 4))), some (yi v108)]) (st' := [yi 999, yi 0, yi v108]) (M' := M) (N' := N) rfl ?_
              refine r_static (mj := 113) (as := [yi v108, yi 0, yi 999]) (rest := []) f_141_126 (by decide) rfl m_113 rfl rfl rfl (Nat.le_of_ble_eq_true rfl) (by omega) (m_within (by omega) (by omega) (by omega)) ?_
              rintro _ _ _ ⟨v126, rfl, hv126, rfl, rfl⟩
              refine r_iret m_141 rfl f_141_129 ?_
              exact ⟨_, rfl, by unfold sUpTo; (repeat' split) <;> omega, rfl, rfl⟩
            · refine r_run 5 (pc' := 100) (ls' := [some (yr 75), some (yi s), some (yi (M 76 (5 * s))), some (yi (M 76 ((5 * s) + 3))), some (yi (M 76 ((5 * s) + 4))), some (yi 999)]) (st' := [yi s, yr 75, yi ((M 76 ((5 * s) + 3)) - (M 76 ((5 * s) + 4)))]) (M' := M) (N' := N) rfl ?_
              refine r_virtual (mj := 138) (b := 75) (as := [yi s]) (rest := [yi ((M 76 ((5 * s) + 3)) - (M 76 ((5 * s) + 4)))]) f_141_100 (by decide) rfl m_138 (by decide) (by decide) (by decide) rfl rfl (Nat.le_of_ble_eq_true rfl) (by omega) (m_middle hs0 hs) ?_
              rintro _ _ _ ⟨v100, rfl, hv100, rfl, rfl⟩
              refine r_icmp_ge (pc := 103) f_141_103 (by omega) (by omega) (fun h103 => ?_) (fun h103 => ?_)
              · refine r_run 7 (pc' := 126) (ls' := [some (yr 75), some (yi s), some (yi (M 76 (5 * s))), some (yi (M 76 ((5 * s) + 3))), some (yi (M 76 ((5 * s) + 4))), some (yi ((M 76 ((5 * s) + 3)) - (M 76 ((5 * s) + 4))))]) (st' := [yi 999, yi 0, yi ((M 76 ((5 * s) + 3)) - (M 76 ((5 * s) + 4)))]) (M' := M) (N' := N) rfl ?_
                refine r_static (mj := 113) (as := [yi ((M 76 ((5 * s) + 3)) - (M 76 ((5 * s) + 4))), yi 0, yi 999]) (rest := []) f_141_126 (by decide) rfl m_113 rfl rfl rfl (Nat.le_of_ble_eq_true rfl) (by omega) (m_within (by omega) (by omega) (by omega)) ?_
                rintro _ _ _ ⟨v126, rfl, hv126, rfl, rfl⟩
                refine r_iret m_141 rfl f_141_129 ?_
                exact ⟨_, rfl, by unfold sUpTo; (repeat' split) <;> omega, rfl, rfl⟩
              · refine r_run 2 (pc' := 108) (ls' := [some (yr 75), some (yi s), some (yi (M 76 (5 * s))), some (yi (M 76 ((5 * s) + 3))), some (yi (M 76 ((5 * s) + 4))), some (yi 999)]) (st' := [yi s, yr 75]) (M' := M) (N' := N) rfl ?_
                refine r_virtual (mj := 138) (b := 75) (as := [yi s]) (rest := []) f_141_108 (by decide) rfl m_138 (by decide) (by decide) (by decide) rfl rfl (Nat.le_of_ble_eq_true rfl) (by omega) (m_middle hs0 hs) ?_
                rintro _ _ _ ⟨v108, rfl, hv108, rfl, rfl⟩
                refine r_run 5 (pc' := 126) (ls' := [some (yr 75), some (yi s), some (yi (M 76 (5 * s))), some (yi (M 76 ((5 * s) + 3))), some (yi (M 76 ((5 * s) + 4))), some (yi v108)]) (st' := [yi 999, yi 0, yi v108]) (M' := M) (N' := N) rfl ?_
                refine r_static (mj := 113) (as := [yi v108, yi 0, yi 999]) (rest := []) f_141_126 (by decide) rfl m_113 rfl rfl rfl (Nat.le_of_ble_eq_true rfl) (by omega) (m_within (by omega) (by omega) (by omega)) ?_
                rintro _ _ _ ⟨v126, rfl, hv126, rfl, rfl⟩
                refine r_iret m_141 rfl f_141_129 ?_
                exact ⟨_, rfl, by unfold sUpTo; (repeat' split) <;> omega, rfl, rfl⟩
      · refine r_run 5 (pc' := 62) (ls' := [some (yr 75), some (yi s), some (yi (M 76 (5 * s))), some (yi (M 76 ((5 * s) + 3))), some (yi (M 76 ((5 * s) + 4))), some (yi 999)]) (st' := [yi 3, yi (M 76 (5 * s)), yi ((M 76 ((5 * s) + 3)) + (M 76 ((5 * s) + 4)))]) (M' := M) (N' := N) rfl ?_
        refine r_icmp_ne (pc := 62) f_141_62 (by omega) (by omega) (fun h62 => ?_) (fun h62 => ?_)
        · refine r_run 5 (pc' := 78) (ls' := [some (yr 75), some (yi s), some (yi (M 76 (5 * s))), some (yi (M 76 ((5 * s) + 3))), some (yi (M 76 ((5 * s) + 4))), some (yi (((M 76 ((5 * s) + 3)) + (M 76 ((5 * s) + 4))) + 0))]) (st' := [yi 2, yi (M 76 (5 * s))]) (M' := M) (N' := N) rfl ?_
          refine r_icmp_eq (pc := 78) f_141_78 (by omega) (by omega) (fun h78 => ?_) (fun h78 => ?_)
          · refine r_run 2 (pc' := 88) (ls' := [some (yr 75), some (yi s), some (yi (M 76 (5 * s))), some (yi (M 76 ((5 * s) + 3))), some (yi (M 76 ((5 * s) + 4))), some (yi (((M 76 ((5 * s) + 3)) + (M 76 ((5 * s) + 4))) + 0))]) (st' := [yi s, yr 75]) (M' := M) (N' := N) rfl ?_
            refine r_virtual (mj := 139) (b := 75) (as := [yi s]) (rest := []) f_141_88 (by decide) rfl m_139 (by decide) (by decide) (by decide) rfl rfl (Nat.le_of_ble_eq_true rfl) (by omega) (m_isExact hs0 hs hy) ?_
            rintro _ _ _ ⟨v88, rfl, hv88, rfl, rfl⟩
            refine r_if_ne (pc := 91) f_141_91 (by omega) (fun h91 => ?_) (fun h91 => ?_)
            · refine r_run 2 (pc' := 108) (ls' := [some (yr 75), some (yi s), some (yi (M 76 (5 * s))), some (yi (M 76 ((5 * s) + 3))), some (yi (M 76 ((5 * s) + 4))), some (yi (((M 76 ((5 * s) + 3)) + (M 76 ((5 * s) + 4))) + 0))]) (st' := [yi s, yr 75]) (M' := M) (N' := N) rfl ?_
              refine r_virtual (mj := 138) (b := 75) (as := [yi s]) (rest := []) f_141_108 (by decide) rfl m_138 (by decide) (by decide) (by decide) rfl rfl (Nat.le_of_ble_eq_true rfl) (by omega) (m_middle hs0 hs) ?_
              rintro _ _ _ ⟨v108, rfl, hv108, rfl, rfl⟩
              refine r_run 5 (pc' := 126) (ls' := [some (yr 75), some (yi s), some (yi (M 76 (5 * s))), some (yi (M 76 ((5 * s) + 3))), some (yi (M 76 ((5 * s) + 4))), some (yi v108)]) (st' := [yi 999, yi 0, yi v108]) (M' := M) (N' := N) rfl ?_
              refine r_static (mj := 113) (as := [yi v108, yi 0, yi 999]) (rest := []) f_141_126 (by decide) rfl m_113 rfl rfl rfl (Nat.le_of_ble_eq_true rfl) (by omega) (m_within (by omega) (by omega) (by omega)) ?_
              rintro _ _ _ ⟨v126, rfl, hv126, rfl, rfl⟩
              refine r_iret m_141 rfl f_141_129 ?_
              exact ⟨_, rfl, by unfold sUpTo; (repeat' split) <;> omega, rfl, rfl⟩
            · refine r_run 5 (pc' := 100) (ls' := [some (yr 75), some (yi s), some (yi (M 76 (5 * s))), some (yi (M 76 ((5 * s) + 3))), some (yi (M 76 ((5 * s) + 4))), some (yi (((M 76 ((5 * s) + 3)) + (M 76 ((5 * s) + 4))) + 0))]) (st' := [yi s, yr 75, yi ((M 76 ((5 * s) + 3)) - (M 76 ((5 * s) + 4)))]) (M' := M) (N' := N) rfl ?_
              refine r_virtual (mj := 138) (b := 75) (as := [yi s]) (rest := [yi ((M 76 ((5 * s) + 3)) - (M 76 ((5 * s) + 4)))]) f_141_100 (by decide) rfl m_138 (by decide) (by decide) (by decide) rfl rfl (Nat.le_of_ble_eq_true rfl) (by omega) (m_middle hs0 hs) ?_
              rintro _ _ _ ⟨v100, rfl, hv100, rfl, rfl⟩
              refine r_icmp_ge (pc := 103) f_141_103 (by omega) (by omega) (fun h103 => ?_) (fun h103 => ?_)
              · refine r_run 7 (pc' := 126) (ls' := [some (yr 75), some (yi s), some (yi (M 76 (5 * s))), some (yi (M 76 ((5 * s) + 3))), some (yi (M 76 ((5 * s) + 4))), some (yi ((M 76 ((5 * s) + 3)) - (M 76 ((5 * s) + 4))))]) (st' := [yi 999, yi 0, yi ((M 76 ((5 * s) + 3)) - (M 76 ((5 * s) + 4)))]) (M' := M) (N' := N) rfl ?_
                refine r_static (mj := 113) (as := [yi ((M 76 ((5 * s) + 3)) - (M 76 ((5 * s) + 4))), yi 0, yi 999]) (rest := []) f_141_126 (by decide) rfl m_113 rfl rfl rfl (Nat.le_of_ble_eq_true rfl) (by omega) (m_within (by omega) (by omega) (by omega)) ?_
                rintro _ _ _ ⟨v126, rfl, hv126, rfl, rfl⟩
                refine r_iret m_141 rfl f_141_129 ?_
                exact ⟨_, rfl, by unfold sUpTo; (repeat' split) <;> omega, rfl, rfl⟩
              · refine r_run 2 (pc' := 108) (ls' := [some (yr 75), some (yi s), some (yi (M 76 (5 * s))), some (yi (M 76 ((5 * s) + 3))), some (yi (M 76 ((5 * s) + 4))), some (yi (((M 76 ((5 * s) + 3)) + (M 76 ((5 * s) + 4))) + 0))]) (st' := [yi s, yr 75]) (M' := M) (N' := N) rfl ?_
                refine r_virtual (mj := 138) (b := 75) (as := [yi s]) (rest := []) f_141_108 (by decide) rfl m_138 (by decide) (by decide) (by decide) rfl rfl (Nat.le_of_ble_eq_true rfl) (by omega) (m_middle hs0 hs) ?_
                rintro _ _ _ ⟨v108, rfl, hv108, rfl, rfl⟩
                refine r_run 5 (pc' := 126) (ls' := [some (yr 75), some (yi s), some (yi (M 76 (5 * s))), some (yi (M 76 ((5 * s) + 3))), some (yi (M 76 ((5 * s) + 4))), some (yi v108)]) (st' := [yi 999, yi 0, yi v108]) (M' := M) (N' := N) rfl ?_
                refine r_static (mj := 113) (as := [yi v108, yi 0, yi 999]) (rest := []) f_141_126 (by decide) rfl m_113 rfl rfl rfl (Nat.le_of_ble_eq_true rfl) (by omega) (m_within (by omega) (by omega) (by omega)) ?_
                rintro _ _ _ ⟨v126, rfl, hv126, rfl, rfl⟩
                refine r_iret m_141 rfl f_141_129 ?_
                exact ⟨_, rfl, by unfold sUpTo; (repeat' split) <;> omega, rfl, rfl⟩
          · refine r_run 2 (pc' := 83) (ls' := [some (yr 75), some (yi s), some (yi (M 76 (5 * s))), some (yi (M 76 ((5 * s) + 3))), some (yi (M 76 ((5 * s) + 4))), some (yi (((M 76 ((5 * s) + 3)) + (M 76 ((5 * s) + 4))) + 0))]) (st' := [yi 4, yi (M 76 (5 * s))]) (M' := M) (N' := N) rfl ?_
            refine r_icmp_ne (pc := 83) f_141_83 (by omega) (by omega) (fun h83 => ?_) (fun h83 => ?_)
            · refine r_run 3 (pc' := 126) (ls' := [some (yr 75), some (yi s), some (yi (M 76 (5 * s))), some (yi (M 76 ((5 * s) + 3))), some (yi (M 76 ((5 * s) + 4))), some (yi (((M 76 ((5 * s) + 3)) + (M 76 ((5 * s) + 4))) + 0))]) (st' := [yi 999, yi 0, yi (((M 76 ((5 * s) + 3)) + (M 76 ((5 * s) + 4))) + 0)]) (M' := M) (N' := N) rfl ?_
              refine r_static (mj := 113) (as := [yi (((M 76 ((5 * s) + 3)) + (M 76 ((5 * s) + 4))) + 0), yi 0, yi 999]) (rest := []) f_141_126 (by decide) rfl m_113 rfl rfl rfl (Nat.le_of_ble_eq_true rfl) (by omega) (m_within (by omega) (by omega) (by omega)) ?_
              rintro _ _ _ ⟨v126, rfl, hv126, rfl, rfl⟩
              refine r_iret m_141 rfl f_141_129 ?_
              exact ⟨_, rfl, by unfold sUpTo; (repeat' split) <;> omega, rfl, rfl⟩
            · refine r_run 2 (pc' := 88) (ls' := [some (yr 75), some (yi s), some (yi (M 76 (5 * s))), some (yi (M 76 ((5 * s) + 3))), some (yi (M 76 ((5 * s) + 4))), some (yi (((M 76 ((5 * s) + 3)) + (M 76 ((5 * s) + 4))) + 0))]) (st' := [yi s, yr 75]) (M' := M) (N' := N) rfl ?_
              refine r_virtual (mj := 139) (b := 75) (as := [yi s]) (rest := []) f_141_88 (by decide) rfl m_139 (by decide) (by decide) (by decide) rfl rfl (Nat.le_of_ble_eq_true rfl) (by omega) (m_isExact hs0 hs hy) ?_
              rintro _ _ _ ⟨v88, rfl, hv88, rfl, rfl⟩
              refine r_if_ne (pc := 91) f_141_91 (by omega) (fun h91 => ?_) (fun h91 => ?_)
              · refine r_run 2 (pc' := 108) (ls' := [some (yr 75), some (yi s), some (yi (M 76 (5 * s))), some (yi (M 76 ((5 * s) + 3))), some (yi (M 76 ((5 * s) + 4))), some (yi (((M 76 ((5 * s) + 3)) + (M 76 ((5 * s) + 4))) + 0))]) (st' := [yi s, yr 75]) (M' := M) (N' := N) rfl ?_
                refine r_virtual (mj := 138) (b := 75) (as := [yi s]) (rest := []) f_141_108 (by decide) rfl m_138 (by decide) (by decide) (by decide) rfl rfl (Nat.le_of_ble_eq_true rfl) (by omega) (m_middle hs0 hs) ?_
                rintro _ _ _ ⟨v108, rfl, hv108, rfl, rfl⟩
                refine r_run 5 (pc' := 126) (ls' := [some (yr 75), some (yi s), some (yi (M 76 (5 * s))), some (yi (M 76 ((5 * s) + 3))), some (yi (M 76 ((5 * s) + 4))), some (yi v108)]) (st' := [yi 999, yi 0, yi v108]) (M' := M) (N' := N) rfl ?_
                refine r_static (mj := 113) (as := [yi v108, yi 0, yi 999]) (rest := []) f_141_126 (by decide) rfl m_113 rfl rfl rfl (Nat.le_of_ble_eq_true rfl) (by omega) (m_within (by omega) (by omega) (by omega)) ?_
                rintro _ _ _ ⟨v126, rfl, hv126, rfl, rfl⟩
                refine r_iret m_141 rfl f_141_129 ?_
                exact ⟨_, rfl, by unfold sUpTo; (repeat' split) <;> omega, rfl, rfl⟩
              · refine r_run 5 (pc' := 100) (ls' := [some (yr 75), some (yi s), some (yi (M 76 (5 * s))), some (yi (M 76 ((5 * s) + 3))), some (yi (M 76 ((5 * s) + 4))), some (yi (((M 76 ((5 * s) + 3)) + (M 76 ((5 * s) + 4))) + 0))]) (st' := [yi s, yr 75, yi ((M 76 ((5 * s) + 3)) - (M 76 ((5 * s) + 4)))]) (M' := M) (N' := N) rfl ?_
                refine r_virtual (mj := 138) (b := 75) (as := [yi s]) (rest := [yi ((M 76 ((5 * s) + 3)) - (M 76 ((5 * s) + 4)))]) f_141_100 (by decide) rfl m_138 (by decide) (by decide) (by decide) rfl rfl (Nat.le_of_ble_eq_true rfl) (by omega) (m_middle hs0 hs) ?_
                rintro _ _ _ ⟨v100, rfl, hv100, rfl, rfl⟩
                refine r_icmp_ge (pc := 103) f_141_103 (by omega) (by omega) (fun h103 => ?_) (fun h103 => ?_)
                · refine r_run 7 (pc' := 126) (ls' := [some (yr 75), some (yi s), some (yi (M 76 (5 * s))), some (yi (M 76 ((5 * s) + 3))), some (yi (M 76 ((5 * s) + 4))), some (yi ((M 76 ((5 * s) + 3)) - (M 76 ((5 * s) + 4))))]) (st' := [yi 999, yi 0, yi ((M 76 ((5 * s) + 3)) - (M 76 ((5 * s) + 4)))]) (M' := M) (N' := N) rfl ?_
                  refine r_static (mj := 113) (as := [yi ((M 76 ((5 * s) + 3)) - (M 76 ((5 * s) + 4))), yi 0, yi 999]) (rest := []) f_141_126 (by decide) rfl m_113 rfl rfl rfl (Nat.le_of_ble_eq_true rfl) (by omega) (m_within (by omega) (by omega) (by omega)) ?_
                  rintro _ _ _ ⟨v126, rfl, hv126, rfl, rfl⟩
                  refine r_iret m_141 rfl f_141_129 ?_
                  exact ⟨_, rfl, by unfold sUpTo; (repeat' split) <;> omega, rfl, rfl⟩
                · refine r_run 2 (pc' := 108) (ls' := [some (yr 75), some (yi s), some (yi (M 76 (5 * s))), some (yi (M 76 ((5 * s) + 3))), some (yi (M 76 ((5 * s) + 4))), some (yi (((M 76 ((5 * s) + 3)) + (M 76 ((5 * s) + 4))) + 0))]) (st' := [yi s, yr 75]) (M' := M) (N' := N) rfl ?_
                  refine r_virtual (mj := 138) (b := 75) (as := [yi s]) (rest := []) f_141_108 (by decide) rfl m_138 (by decide) (by decide) (by decide) rfl rfl (Nat.le_of_ble_eq_true rfl) (by omega) (m_middle hs0 hs) ?_
                  rintro _ _ _ ⟨v108, rfl, hv108, rfl, rfl⟩
                  refine r_run 5 (pc' := 126) (ls' := [some (yr 75), some (yi s), some (yi (M 76 (5 * s))), some (yi (M 76 ((5 * s) + 3))), some (yi (M 76 ((5 * s) + 4))), some (yi v108)]) (st' := [yi 999, yi 0, yi v108]) (M' := M) (N' := N) rfl ?_
                  refine r_static (mj := 113) (as := [yi v108, yi 0, yi 999]) (rest := []) f_141_126 (by decide) rfl m_113 rfl rfl rfl (Nat.le_of_ble_eq_true rfl) (by omega) (m_within (by omega) (by omega) (by omega)) ?_
                  rintro _ _ _ ⟨v126, rfl, hv126, rfl, rfl⟩
                  refine r_iret m_141 rfl f_141_129 ?_
                  exact ⟨_, rfl, by unfold sUpTo; (repeat' split) <;> omega, rfl, rfl⟩
        · refine r_run 7 (pc' := 78) (ls' := [some (yr 75), some (yi s), some (yi (M 76 (5 * s))), some (yi (M 76 ((5 * s) + 3))), some (yi (M 76 ((5 * s) + 4))), some (yi (((M 76 ((5 * s) + 3)) + (M 76 ((5 * s) + 4))) + (M 75 4)))]) (st' := [yi 2, yi (M 76 (5 * s))]) (M' := M) (N' := N) rfl ?_
          refine r_icmp_eq (pc := 78) f_141_78 (by omega) (by omega) (fun h78 => ?_) (fun h78 => ?_)
          · refine r_run 2 (pc' := 88) (ls' := [some (yr 75), some (yi s), some (yi (M 76 (5 * s))), some (yi (M 76 ((5 * s) + 3))), some (yi (M 76 ((5 * s) + 4))), some (yi (((M 76 ((5 * s) + 3)) + (M 76 ((5 * s) + 4))) + (M 75 4)))]) (st' := [yi s, yr 75]) (M' := M) (N' := N) rfl ?_
            refine r_virtual (mj := 139) (b := 75) (as := [yi s]) (rest := []) f_141_88 (by decide) rfl m_139 (by decide) (by decide) (by decide) rfl rfl (Nat.le_of_ble_eq_true rfl) (by omega) (m_isExact hs0 hs hy) ?_
            rintro _ _ _ ⟨v88, rfl, hv88, rfl, rfl⟩
            refine r_if_ne (pc := 91) f_141_91 (by omega) (fun h91 => ?_) (fun h91 => ?_)
            · refine r_run 2 (pc' := 108) (ls' := [some (yr 75), some (yi s), some (yi (M 76 (5 * s))), some (yi (M 76 ((5 * s) + 3))), some (yi (M 76 ((5 * s) + 4))), some (yi (((M 76 ((5 * s) + 3)) + (M 76 ((5 * s) + 4))) + (M 75 4)))]) (st' := [yi s, yr 75]) (M' := M) (N' := N) rfl ?_
              refine r_virtual (mj := 138) (b := 75) (as := [yi s]) (rest := []) f_141_108 (by decide) rfl m_138 (by decide) (by decide) (by decide) rfl rfl (Nat.le_of_ble_eq_true rfl) (by omega) (m_middle hs0 hs) ?_
              rintro _ _ _ ⟨v108, rfl, hv108, rfl, rfl⟩
              refine r_run 5 (pc' := 126) (ls' := [some (yr 75), some (yi s), some (yi (M 76 (5 * s))), some (yi (M 76 ((5 * s) + 3))), some (yi (M 76 ((5 * s) + 4))), some (yi v108)]) (st' := [yi 999, yi 0, yi v108]) (M' := M) (N' := N) rfl ?_
              refine r_static (mj := 113) (as := [yi v108, yi 0, yi 999]) (rest := []) f_141_126 (by decide) rfl m_113 rfl rfl rfl (Nat.le_of_ble_eq_true rfl) (by omega) (m_within (by omega) (by omega) (by omega)) ?_
              rintro _ _ _ ⟨v126, rfl, hv126, rfl, rfl⟩
              refine r_iret m_141 rfl f_141_129 ?_
              exact ⟨_, rfl, by unfold sUpTo; (repeat' split) <;> omega, rfl, rfl⟩
            · refine r_run 5 (pc' := 100) (ls' := [some (yr 75), some (yi s), some (yi (M 76 (5 * s))), some (yi (M 76 ((5 * s) + 3))), some (yi (M 76 ((5 * s) + 4))), some (yi (((M 76 ((5 * s) + 3)) + (M 76 ((5 * s) + 4))) + (M 75 4)))]) (st' := [yi s, yr 75, yi ((M 76 ((5 * s) + 3)) - (M 76 ((5 * s) + 4)))]) (M' := M) (N' := N) rfl ?_
              refine r_virtual (mj := 138) (b := 75) (as := [yi s]) (rest := [yi ((M 76 ((5 * s) + 3)) - (M 76 ((5 * s) + 4)))]) f_141_100 (by decide) rfl m_138 (by decide) (by decide) (by decide) rfl rfl (Nat.le_of_ble_eq_true rfl) (by omega) (m_middle hs0 hs) ?_
              rintro _ _ _ ⟨v100, rfl, hv100, rfl, rfl⟩
              refine r_icmp_ge (pc := 103) f_141_103 (by omega) (by omega) (fun h103 => ?_) (fun h103 => ?_)
              · refine r_run 7 (pc' := 126) (ls' := [some (yr 75), some (yi s), some (yi (M 76 (5 * s))), some (yi (M 76 ((5 * s) + 3))), some (yi (M 76 ((5 * s) + 4))), some (yi ((M 76 ((5 * s) + 3)) - (M 76 ((5 * s) + 4))))]) (st' := [yi 999, yi 0, yi ((M 76 ((5 * s) + 3)) - (M 76 ((5 * s) + 4)))]) (M' := M) (N' := N) rfl ?_
                refine r_static (mj := 113) (as := [yi ((M 76 ((5 * s) + 3)) - (M 76 ((5 * s) + 4))), yi 0, yi 999]) (rest := []) f_141_126 (by decide) rfl m_113 rfl rfl rfl (Nat.le_of_ble_eq_true rfl) (by omega) (m_within (by omega) (by omega) (by omega)) ?_
                rintro _ _ _ ⟨v126, rfl, hv126, rfl, rfl⟩
                refine r_iret m_141 rfl f_141_129 ?_
                exact ⟨_, rfl, by unfold sUpTo; (repeat' split) <;> omega, rfl, rfl⟩
              · refine r_run 2 (pc' := 108) (ls' := [some (yr 75), some (yi s), some (yi (M 76 (5 * s))), some (yi (M 76 ((5 * s) + 3))), some (yi (M 76 ((5 * s) + 4))), some (yi (((M 76 ((5 * s) + 3)) + (M 76 ((5 * s) + 4))) + (M 75 4)))]) (st' := [yi s, yr 75]) (M' := M) (N' := N) rfl ?_
                refine r_virtual (mj := 138) (b := 75) (as := [yi s]) (rest := []) f_141_108 (by decide) rfl m_138 (by decide) (by decide) (by decide) rfl rfl (Nat.le_of_ble_eq_true rfl) (by omega) (m_middle hs0 hs) ?_
                rintro _ _ _ ⟨v108, rfl, hv108, rfl, rfl⟩
                refine r_run 5 (pc' := 126) (ls' := [some (yr 75), some (yi s), some (yi (M 76 (5 * s))), some (yi (M 76 ((5 * s) + 3))), some (yi (M 76 ((5 * s) + 4))), some (yi v108)]) (st' := [yi 999, yi 0, yi v108]) (M' := M) (N' := N) rfl ?_
                refine r_static (mj := 113) (as := [yi v108, yi 0, yi 999]) (rest := []) f_141_126 (by decide) rfl m_113 rfl rfl rfl (Nat.le_of_ble_eq_true rfl) (by omega) (m_within (by omega) (by omega) (by omega)) ?_
                rintro _ _ _ ⟨v126, rfl, hv126, rfl, rfl⟩
                refine r_iret m_141 rfl f_141_129 ?_
                exact ⟨_, rfl, by unfold sUpTo; (repeat' split) <;> omega, rfl, rfl⟩
          · refine r_run 2 (pc' := 83) (ls' := [some (yr 75), some (yi s), some (yi (M 76 (5 * s))), some (yi (M 76 ((5 * s) + 3))), some (yi (M 76 ((5 * s) + 4))), some (yi (((M 76 ((5 * s) + 3)) + (M 76 ((5 * s) + 4))) + (M 75 4)))]) (st' := [yi 4, yi (M 76 (5 * s))]) (M' := M) (N' := N) rfl ?_
            refine r_icmp_ne (pc := 83) f_141_83 (by omega) (by omega) (fun h83 => ?_) (fun h83 => ?_)
            · refine r_run 3 (pc' := 126) (ls' := [some (yr 75), some (yi s), some (yi (M 76 (5 * s))), some (yi (M 76 ((5 * s) + 3))), some (yi (M 76 ((5 * s) + 4))), some (yi (((M 76 ((5 * s) + 3)) + (M 76 ((5 * s) + 4))) + (M 75 4)))]) (st' := [yi 999, yi 0, yi (((M 76 ((5 * s) + 3)) + (M 76 ((5 * s) + 4))) + (M 75 4))]) (M' := M) (N' := N) rfl ?_
              refine r_static (mj := 113) (as := [yi (((M 76 ((5 * s) + 3)) + (M 76 ((5 * s) + 4))) + (M 75 4)), yi 0, yi 999]) (rest := []) f_141_126 (by decide) rfl m_113 rfl rfl rfl (Nat.le_of_ble_eq_true rfl) (by omega) (m_within (by omega) (by omega) (by omega)) ?_
              rintro _ _ _ ⟨v126, rfl, hv126, rfl, rfl⟩
              refine r_iret m_141 rfl f_141_129 ?_
              exact ⟨_, rfl, by unfold sUpTo; (repeat' split) <;> omega, rfl, rfl⟩
            · refine r_run 2 (pc' := 88) (ls' := [some (yr 75), some (yi s), some (yi (M 76 (5 * s))), some (yi (M 76 ((5 * s) + 3))), some (yi (M 76 ((5 * s) + 4))), some (yi (((M 76 ((5 * s) + 3)) + (M 76 ((5 * s) + 4))) + (M 75 4)))]) (st' := [yi s, yr 75]) (M' := M) (N' := N) rfl ?_
              refine r_virtual (mj := 139) (b := 75) (as := [yi s]) (rest := []) f_141_88 (by decide) rfl m_139 (by decide) (by decide) (by decide) rfl rfl (Nat.le_of_ble_eq_true rfl) (by omega) (m_isExact hs0 hs hy) ?_
              rintro _ _ _ ⟨v88, rfl, hv88, rfl, rfl⟩
              refine r_if_ne (pc := 91) f_141_91 (by omega) (fun h91 => ?_) (fun h91 => ?_)
              · refine r_run 2 (pc' := 108) (ls' := [some (yr 75), some (yi s), some (yi (M 76 (5 * s))), some (yi (M 76 ((5 * s) + 3))), some (yi (M 76 ((5 * s) + 4))), some (yi (((M 76 ((5 * s) + 3)) + (M 76 ((5 * s) + 4))) + (M 75 4)))]) (st' := [yi s, yr 75]) (M' := M) (N' := N) rfl ?_
                refine r_virtual (mj := 138) (b := 75) (as := [yi s]) (rest := []) f_141_108 (by decide) rfl m_138 (by decide) (by decide) (by decide) rfl rfl (Nat.le_of_ble_eq_true rfl) (by omega) (m_middle hs0 hs) ?_
                rintro _ _ _ ⟨v108, rfl, hv108, rfl, rfl⟩
                refine r_run 5 (pc' := 126) (ls' := [some (yr 75), some (yi s), some (yi (M 76 (5 * s))), some (yi (M 76 ((5 * s) + 3))), some (yi (M 76 ((5 * s) + 4))), some (yi v108)]) (st' := [yi 999, yi 0, yi v108]) (M' := M) (N' := N) rfl ?_
                refine r_static (mj := 113) (as := [yi v108, yi 0, yi 999]) (rest := []) f_141_126 (by decide) rfl m_113 rfl rfl rfl (Nat.le_of_ble_eq_true rfl) (by omega) (m_within (by omega) (by omega) (by omega)) ?_
                rintro _ _ _ ⟨v126, rfl, hv126, rfl, rfl⟩
                refine r_iret m_141 rfl f_141_129 ?_
                exact ⟨_, rfl, by unfold sUpTo; (repeat' split) <;> omega, rfl, rfl⟩
              · refine r_run 5 (pc' := 100) (ls' := [some (yr 75), some (yi s), some (yi (M 76 (5 * s))), some (yi (M 76 ((5 * s) + 3))), some (yi (M 76 ((5 * s) + 4))), some (yi (((M 76 ((5 * s) + 3)) + (M 76 ((5 * s) + 4))) + (M 75 4)))]) (st' := [yi s, yr 75, yi ((M 76 ((5 * s) + 3)) - (M 76 ((5 * s) + 4)))]) (M' := M) (N' := N) rfl ?_
                refine r_virtual (mj := 138) (b := 75) (as := [yi s]) (rest := [yi ((M 76 ((5 * s) + 3)) - (M 76 ((5 * s) + 4)))]) f_141_100 (by decide) rfl m_138 (by decide) (by decide) (by decide) rfl rfl (Nat.le_of_ble_eq_true rfl) (by omega) (m_middle hs0 hs) ?_
                rintro _ _ _ ⟨v100, rfl, hv100, rfl, rfl⟩
                refine r_icmp_ge (pc := 103) f_141_103 (by omega) (by omega) (fun h103 => ?_) (fun h103 => ?_)
                · refine r_run 7 (pc' := 126) (ls' := [some (yr 75), some (yi s), some (yi (M 76 (5 * s))), some (yi (M 76 ((5 * s) + 3))), some (yi (M 76 ((5 * s) + 4))), some (yi ((M 76 ((5 * s) + 3)) - (M 76 ((5 * s) + 4))))]) (st' := [yi 999, yi 0, yi ((M 76 ((5 * s) + 3)) - (M 76 ((5 * s) + 4)))]) (M' := M) (N' := N) rfl ?_
                  refine r_static (mj := 113) (as := [yi ((M 76 ((5 * s) + 3)) - (M 76 ((5 * s) + 4))), yi 0, yi 999]) (rest := []) f_141_126 (by decide) rfl m_113 rfl rfl rfl (Nat.le_of_ble_eq_true rfl) (by omega) (m_within (by omega) (by omega) (by omega)) ?_
                  rintro _ _ _ ⟨v126, rfl, hv126, rfl, rfl⟩
                  refine r_iret m_141 rfl f_141_129 ?_
                  exact ⟨_, rfl, by unfold sUpTo; (repeat' split) <;> omega, rfl, rfl⟩
                · refine r_run 2 (pc' := 108) (ls' := [some (yr 75), some (yi s), some (yi (M 76 (5 * s))), some (yi (M 76 ((5 * s) + 3))), some (yi (M 76 ((5 * s) + 4))), some (yi (((M 76 ((5 * s) + 3)) + (M 76 ((5 * s) + 4))) + (M 75 4)))]) (st' := [yi s, yr 75]) (M' := M) (N' := N) rfl ?_
                  refine r_virtual (mj := 138) (b := 75) (as := [yi s]) (rest := []) f_141_108 (by decide) rfl m_138 (by decide) (by decide) (by decide) rfl rfl (Nat.le_of_ble_eq_true rfl) (by omega) (m_middle hs0 hs) ?_
                  rintro _ _ _ ⟨v108, rfl, hv108, rfl, rfl⟩
                  refine r_run 5 (pc' := 126) (ls' := [some (yr 75), some (yi s), some (yi (M 76 (5 * s))), some (yi (M 76 ((5 * s) + 3))), some (yi (M 76 ((5 * s) + 4))), some (yi v108)]) (st' := [yi 999, yi 0, yi v108]) (M' := M) (N' := N) rfl ?_
                  refine r_static (mj := 113) (as := [yi v108, yi 0, yi 999]) (rest := []) f_141_126 (by decide) rfl m_113 rfl rfl rfl (Nat.le_of_ble_eq_true rfl) (by omega) (m_within (by omega) (by omega) (by omega)) ?_
                  rintro _ _ _ ⟨v126, rfl, hv126, rfl, rfl⟩
                  refine r_iret m_141 rfl f_141_129 ?_
                  exact ⟨_, rfl, by unfold sUpTo; (repeat' split) <;> omega, rfl, rfl⟩
end
