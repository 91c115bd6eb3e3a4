-- ===== PART A: goes FIRST, ahead of the names: the tables' words, and 'selects' of the private methods out of them =====
/-- a private method of a class that the tables say can be made, by its rows of tables_1 -/
def lw_okq (q : MethodName × Nat) : Prop := (q.1.cls ≠ "java/lang/invoke/MethodHandle" ∧ q.1.cls ≠ "java/lang/invoke/VarHandle") ∧ Cond.instantiable q.1.cls q.2 ∈ tables_1 ∧ Cond.privateMethod q.1 ∈ tables_1 ∧ Cond.instanceMethod q.1 ∈ tables_1
theorem lw_p0 : lw_okq (⟨"QueryDesk", "beginQuestion", "()V"⟩, 5) := ⟨⟨by decide +kernel, by decide +kernel⟩, List.mem_of_getElem? (i := 19) (by decide +kernel), List.mem_of_getElem? (i := 299) (by decide +kernel), List.mem_of_getElem? (i := 300) (by decide +kernel)⟩
theorem lw_p1 : lw_okq (⟨"QueryDesk", "hasColumn", "(II)Z"⟩, 5) := ⟨⟨by decide +kernel, by decide +kernel⟩, List.mem_of_getElem? (i := 19) (by decide +kernel), List.mem_of_getElem? (i := 315) (by decide +kernel), List.mem_of_getElem? (i := 316) (by decide +kernel)⟩
theorem lw_p2 : lw_okq (⟨"QueryDesk", "hasTable", "(I)Z"⟩, 5) := ⟨⟨by decide +kernel, by decide +kernel⟩, List.mem_of_getElem? (i := 19) (by decide +kernel), List.mem_of_getElem? (i := 319) (by decide +kernel), List.mem_of_getElem? (i := 320) (by decide +kernel)⟩
theorem lw_p3 : lw_okq (⟨"QueryDesk", "endQuestion", "()V"⟩, 5) := ⟨⟨by decide +kernel, by decide +kernel⟩, List.mem_of_getElem? (i := 19) (by decide +kernel), List.mem_of_getElem? (i := 334) (by decide +kernel), List.mem_of_getElem? (i := 335) (by decide +kernel)⟩
theorem lw_p4 : lw_okq (⟨"QueryDesk$Work", "passes", "(LQueryDesk$Question;LQueryDesk$Plan;)Z"⟩, 9) := ⟨⟨by decide +kernel, by decide +kernel⟩, List.mem_of_getElem? (i := 239) (by decide +kernel), List.mem_of_getElem? (i := 415) (by decide +kernel), List.mem_of_getElem? (i := 416) (by decide +kernel)⟩
theorem lw_p5 : lw_okq (⟨"QueryDesk$Work", "readValue", "(LQueryDesk$Question;II)I"⟩, 9) := ⟨⟨by decide +kernel, by decide +kernel⟩, List.mem_of_getElem? (i := 239) (by decide +kernel), List.mem_of_getElem? (i := 419) (by decide +kernel), List.mem_of_getElem? (i := 420) (by decide +kernel)⟩
theorem lw_p6 : lw_okq (⟨"QueryDesk$Plan", "isBefore", "(II)Z"⟩, 8) := ⟨⟨by decide +kernel, by decide +kernel⟩, List.mem_of_getElem? (i := 199) (by decide +kernel), List.mem_of_getElem? (i := 443) (by decide +kernel), List.mem_of_getElem? (i := 444) (by decide +kernel)⟩
theorem lw_p7 : lw_okq (⟨"QueryDesk$Work", "keepAnswer", "(LQueryDesk$Question;)V"⟩, 9) := ⟨⟨by decide +kernel, by decide +kernel⟩, List.mem_of_getElem? (i := 239) (by decide +kernel), List.mem_of_getElem? (i := 447) (by decide +kernel), List.mem_of_getElem? (i := 448) (by decide +kernel)⟩
theorem lw_p8 : lw_okq (⟨"QueryDesk$Work", "goesBefore", "(LQueryDesk$Question;II)Z"⟩, 9) := ⟨⟨by decide +kernel, by decide +kernel⟩, List.mem_of_getElem? (i := 239) (by decide +kernel), List.mem_of_getElem? (i := 452) (by decide +kernel), List.mem_of_getElem? (i := 453) (by decide +kernel)⟩
theorem lw_p9 : lw_okq (⟨"QueryDesk$Work", "openSource", "(LQueryDesk$Question;LQueryDesk$Plan;I)V"⟩, 9) := ⟨⟨by decide +kernel, by decide +kernel⟩, List.mem_of_getElem? (i := 239) (by decide +kernel), List.mem_of_getElem? (i := 456) (by decide +kernel), List.mem_of_getElem? (i := 457) (by decide +kernel)⟩
theorem lw_p10 : lw_okq (⟨"QueryDesk$Work", "openByCondition", "(LQueryDesk$Table;LQueryDesk$Condition;ZI)V"⟩, 9) := ⟨⟨by decide +kernel, by decide +kernel⟩, List.mem_of_getElem? (i := 239) (by decide +kernel), List.mem_of_getElem? (i := 460) (by decide +kernel), List.mem_of_getElem? (i := 461) (by decide +kernel)⟩
theorem lw_p11 : lw_okq (⟨"QueryDesk$Work", "addPlace", "(I)V"⟩, 9) := ⟨⟨by decide +kernel, by decide +kernel⟩, List.mem_of_getElem? (i := 239) (by decide +kernel), List.mem_of_getElem? (i := 464) (by decide +kernel), List.mem_of_getElem? (i := 465) (by decide +kernel)⟩
theorem lw_p12 : lw_okq (⟨"QueryDesk$Work", "sinkLastPlace", "(LQueryDesk$Table;I)V"⟩, 9) := ⟨⟨by decide +kernel, by decide +kernel⟩, List.mem_of_getElem? (i := 239) (by decide +kernel), List.mem_of_getElem? (i := 468) (by decide +kernel), List.mem_of_getElem? (i := 469) (by decide +kernel)⟩
theorem lw_p13 : lw_okq (⟨"QueryDesk$Work", "openByJoin", "(LQueryDesk$Question;LQueryDesk$Join;II)V"⟩, 9) := ⟨⟨by decide +kernel, by decide +kernel⟩, List.mem_of_getElem? (i := 239) (by decide +kernel), List.mem_of_getElem? (i := 472) (by decide +kernel), List.mem_of_getElem? (i := 473) (by decide +kernel)⟩
theorem lw_p14 : lw_okq (⟨"QueryDesk$Work", "leaveFinishedSources", "()V"⟩, 9) := ⟨⟨by decide +kernel, by decide +kernel⟩, List.mem_of_getElem? (i := 239) (by decide +kernel), List.mem_of_getElem? (i := 481) (by decide +kernel), List.mem_of_getElem? (i := 482) (by decide +kernel)⟩
theorem lw_p15 : lw_okq (⟨"QueryDesk", "givenAnswers", "()I"⟩, 5) := ⟨⟨by decide +kernel, by decide +kernel⟩, List.mem_of_getElem? (i := 19) (by decide +kernel), List.mem_of_getElem? (i := 489) (by decide +kernel), List.mem_of_getElem? (i := 490) (by decide +kernel)⟩
def lw_privs_1 : List (MethodName × Nat) := [(⟨"QueryDesk", "beginQuestion", "()V"⟩, 5), (⟨"QueryDesk", "hasColumn", "(II)Z"⟩, 5), (⟨"QueryDesk", "hasTable", "(I)Z"⟩, 5), (⟨"QueryDesk", "endQuestion", "()V"⟩, 5), (⟨"QueryDesk$Work", "passes", "(LQueryDesk$Question;LQueryDesk$Plan;)Z"⟩, 9), (⟨"QueryDesk$Work", "readValue", "(LQueryDesk$Question;II)I"⟩, 9), (⟨"QueryDesk$Plan", "isBefore", "(II)Z"⟩, 8), (⟨"QueryDesk$Work", "keepAnswer", "(LQueryDesk$Question;)V"⟩, 9), (⟨"QueryDesk$Work", "goesBefore", "(LQueryDesk$Question;II)Z"⟩, 9), (⟨"QueryDesk$Work", "openSource", "(LQueryDesk$Question;LQueryDesk$Plan;I)V"⟩, 9), (⟨"QueryDesk$Work", "openByCondition", "(LQueryDesk$Table;LQueryDesk$Condition;ZI)V"⟩, 9), (⟨"QueryDesk$Work", "addPlace", "(I)V"⟩, 9), (⟨"QueryDesk$Work", "sinkLastPlace", "(LQueryDesk$Table;I)V"⟩, 9), (⟨"QueryDesk$Work", "openByJoin", "(LQueryDesk$Question;LQueryDesk$Join;II)V"⟩, 9), (⟨"QueryDesk$Work", "leaveFinishedSources", "()V"⟩, 9), (⟨"QueryDesk", "givenAnswers", "()I"⟩, 5)]
theorem lw_r1 : ∀ q ∈ lw_privs_1, lw_okq q := List.forall_mem_cons.mpr ⟨lw_p0, List.forall_mem_cons.mpr ⟨lw_p1, List.forall_mem_cons.mpr ⟨lw_p2, List.forall_mem_cons.mpr ⟨lw_p3, List.forall_mem_cons.mpr ⟨lw_p4, List.forall_mem_cons.mpr ⟨lw_p5, List.forall_mem_cons.mpr ⟨lw_p6, List.forall_mem_cons.mpr ⟨lw_p7, List.forall_mem_cons.mpr ⟨lw_p8, List.forall_mem_cons.mpr ⟨lw_p9, List.forall_mem_cons.mpr ⟨lw_p10, List.forall_mem_cons.mpr ⟨lw_p11, List.forall_mem_cons.mpr ⟨lw_p12, List.forall_mem_cons.mpr ⟨lw_p13, List.forall_mem_cons.mpr ⟨lw_p14, List.forall_mem_cons.mpr ⟨lw_p15, fun _ h => absurd h List.not_mem_nil⟩⟩⟩⟩⟩⟩⟩⟩⟩⟩⟩⟩⟩⟩⟩⟩
theorem lw_p16 : lw_okq (⟨"java/lang/Throwable", "fillInStackTrace", "(I)Ljava/lang/Throwable;"⟩, 6) := ⟨⟨by decide +kernel, by decide +kernel⟩, List.mem_of_getElem? (i := 543) (by decide +kernel), List.mem_of_getElem? (i := 541) (by decide +kernel), List.mem_of_getElem? (i := 542) (by decide +kernel)⟩
theorem lw_p17 : lw_okq (⟨"QueryDesk", "hasRow", "(II)Z"⟩, 5) := ⟨⟨by decide +kernel, by decide +kernel⟩, List.mem_of_getElem? (i := 19) (by decide +kernel), List.mem_of_getElem? (i := 604) (by decide +kernel), List.mem_of_getElem? (i := 605) (by decide +kernel)⟩
theorem lw_p18 : lw_okq (⟨"QueryDesk$Plan", "measureShares", "(LQueryDesk$Question;)V"⟩, 8) := ⟨⟨by decide +kernel, by decide +kernel⟩, List.mem_of_getElem? (i := 199) (by decide +kernel), List.mem_of_getElem? (i := 652) (by decide +kernel), List.mem_of_getElem? (i := 653) (by decide +kernel)⟩
theorem lw_p19 : lw_okq (⟨"QueryDesk$Table", "standsBefore", "(II)Z"⟩, 6) := ⟨⟨by decide +kernel, by decide +kernel⟩, List.mem_of_getElem? (i := 28) (by decide +kernel), List.mem_of_getElem? (i := 666) (by decide +kernel), List.mem_of_getElem? (i := 667) (by decide +kernel)⟩
theorem lw_p20 : lw_okq (⟨"QueryDesk$Plan", "tryOrder", "(LQueryDesk$Question;[II)F"⟩, 8) := ⟨⟨by decide +kernel, by decide +kernel⟩, List.mem_of_getElem? (i := 199) (by decide +kernel), List.mem_of_getElem? (i := 695) (by decide +kernel), List.mem_of_getElem? (i := 696) (by decide +kernel)⟩
theorem lw_p21 : lw_okq (⟨"QueryDesk$Plan", "takeBestWay", "(LQueryDesk$Question;I)V"⟩, 8) := ⟨⟨by decide +kernel, by decide +kernel⟩, List.mem_of_getElem? (i := 199) (by decide +kernel), List.mem_of_getElem? (i := 699) (by decide +kernel), List.mem_of_getElem? (i := 700) (by decide +kernel)⟩
theorem lw_p22 : lw_okq (⟨"QueryDesk$Plan", "takeWay", "(IIII)V"⟩, 8) := ⟨⟨by decide +kernel, by decide +kernel⟩, List.mem_of_getElem? (i := 199) (by decide +kernel), List.mem_of_getElem? (i := 703) (by decide +kernel), List.mem_of_getElem? (i := 704) (by decide +kernel)⟩
theorem lw_p23 : lw_okq (⟨"QueryDesk$Plan", "considerCondition", "(LQueryDesk$Question;II)V"⟩, 8) := ⟨⟨by decide +kernel, by decide +kernel⟩, List.mem_of_getElem? (i := 199) (by decide +kernel), List.mem_of_getElem? (i := 707) (by decide +kernel), List.mem_of_getElem? (i := 708) (by decide +kernel)⟩
theorem lw_p24 : lw_okq (⟨"QueryDesk$Plan", "considerWay", "(FIIII)V"⟩, 8) := ⟨⟨by decide +kernel, by decide +kernel⟩, List.mem_of_getElem? (i := 199) (by decide +kernel), List.mem_of_getElem? (i := 712) (by decide +kernel), List.mem_of_getElem? (i := 713) (by decide +kernel)⟩
theorem lw_p25 : lw_okq (⟨"QueryDesk$Plan", "considerJoin", "(LQueryDesk$Question;II)V"⟩, 8) := ⟨⟨by decide +kernel, by decide +kernel⟩, List.mem_of_getElem? (i := 199) (by decide +kernel), List.mem_of_getElem? (i := 717) (by decide +kernel), List.mem_of_getElem? (i := 718) (by decide +kernel)⟩
theorem lw_p26 : lw_okq (⟨"QueryDesk$Plan", "joinShare", "(LQueryDesk$Join;II)F"⟩, 8) := ⟨⟨by decide +kernel, by decide +kernel⟩, List.mem_of_getElem? (i := 199) (by decide +kernel), List.mem_of_getElem? (i := 722) (by decide +kernel), List.mem_of_getElem? (i := 723) (by decide +kernel)⟩
theorem lw_p27 : lw_okq (⟨"QueryDesk$Plan", "countBehind", "(LQueryDesk$Question;IF)F"⟩, 8) := ⟨⟨by decide +kernel, by decide +kernel⟩, List.mem_of_getElem? (i := 199) (by decide +kernel), List.mem_of_getElem? (i := 726) (by decide +kernel), List.mem_of_getElem? (i := 727) (by decide +kernel)⟩
theorem lw_p28 : lw_okq (⟨"QueryDeskModel", "empty", "()V"⟩, 30) := ⟨⟨by decide +kernel, by decide +kernel⟩, List.mem_of_getElem? (i := 775) (by decide +kernel), List.mem_of_getElem? (i := 781) (by decide +kernel), List.mem_of_getElem? (i := 782) (by decide +kernel)⟩
theorem lw_p29 : lw_okq (⟨"QueryDeskModel", "isTable", "(I)Z"⟩, 30) := ⟨⟨by decide +kernel, by decide +kernel⟩, List.mem_of_getElem? (i := 775) (by decide +kernel), List.mem_of_getElem? (i := 891) (by decide +kernel), List.mem_of_getElem? (i := 892) (by decide +kernel)⟩
theorem lw_p30 : lw_okq (⟨"QueryDeskModel", "rowsOf", "(I)I"⟩, 30) := ⟨⟨by decide +kernel, by decide +kernel⟩, List.mem_of_getElem? (i := 775) (by decide +kernel), List.mem_of_getElem? (i := 895) (by decide +kernel), List.mem_of_getElem? (i := 896) (by decide +kernel)⟩
theorem lw_p31 : lw_okq (⟨"QueryDeskModel", "changed", "()V"⟩, 30) := ⟨⟨by decide +kernel, by decide +kernel⟩, List.mem_of_getElem? (i := 775) (by decide +kernel), List.mem_of_getElem? (i := 899) (by decide +kernel), List.mem_of_getElem? (i := 900) (by decide +kernel)⟩
def lw_privs_2 : List (MethodName × Nat) := [(⟨"java/lang/Throwable", "fillInStackTrace", "(I)Ljava/lang/Throwable;"⟩, 6), (⟨"QueryDesk", "hasRow", "(II)Z"⟩, 5), (⟨"QueryDesk$Plan", "measureShares", "(LQueryDesk$Question;)V"⟩, 8), (⟨"QueryDesk$Table", "standsBefore", "(II)Z"⟩, 6), (⟨"QueryDesk$Plan", "tryOrder", "(LQueryDesk$Question;[II)F"⟩, 8), (⟨"QueryDesk$Plan", "takeBestWay", "(LQueryDesk$Question;I)V"⟩, 8), (⟨"QueryDesk$Plan", "takeWay", "(IIII)V"⟩, 8), (⟨"QueryDesk$Plan", "considerCondition", "(LQueryDesk$Question;II)V"⟩, 8), (⟨"QueryDesk$Plan", "considerWay", "(FIIII)V"⟩, 8), (⟨"QueryDesk$Plan", "considerJoin", "(LQueryDesk$Question;II)V"⟩, 8), (⟨"QueryDesk$Plan", "joinShare", "(LQueryDesk$Join;II)F"⟩, 8), (⟨"QueryDesk$Plan", "countBehind", "(LQueryDesk$Question;IF)F"⟩, 8), (⟨"QueryDeskModel", "empty", "()V"⟩, 30), (⟨"QueryDeskModel", "isTable", "(I)Z"⟩, 30), (⟨"QueryDeskModel", "rowsOf", "(I)I"⟩, 30), (⟨"QueryDeskModel", "changed", "()V"⟩, 30)]
theorem lw_r2 : ∀ q ∈ lw_privs_2, lw_okq q := List.forall_mem_cons.mpr ⟨lw_p16, List.forall_mem_cons.mpr ⟨lw_p17, List.forall_mem_cons.mpr ⟨lw_p18, List.forall_mem_cons.mpr ⟨lw_p19, List.forall_mem_cons.mpr ⟨lw_p20, List.forall_mem_cons.mpr ⟨lw_p21, List.forall_mem_cons.mpr ⟨lw_p22, List.forall_mem_cons.mpr ⟨lw_p23, List.forall_mem_cons.mpr ⟨lw_p24, List.forall_mem_cons.mpr ⟨lw_p25, List.forall_mem_cons.mpr ⟨lw_p26, List.forall_mem_cons.mpr ⟨lw_p27, List.forall_mem_cons.mpr ⟨lw_p28, List.forall_mem_cons.mpr ⟨lw_p29, List.forall_mem_cons.mpr ⟨lw_p30, List.forall_mem_cons.mpr ⟨lw_p31, fun _ h => absurd h List.not_mem_nil⟩⟩⟩⟩⟩⟩⟩⟩⟩⟩⟩⟩⟩⟩⟩⟩
theorem lw_p32 : lw_okq (⟨"QueryDeskModel", "isRow", "(II)Z"⟩, 30) := ⟨⟨by decide +kernel, by decide +kernel⟩, List.mem_of_getElem? (i := 775) (by decide +kernel), List.mem_of_getElem? (i := 907) (by decide +kernel), List.mem_of_getElem? (i := 908) (by decide +kernel)⟩
theorem lw_p33 : lw_okq (⟨"QueryDeskModel", "isColumn", "(II)Z"⟩, 30) := ⟨⟨by decide +kernel, by decide +kernel⟩, List.mem_of_getElem? (i := 775) (by decide +kernel), List.mem_of_getElem? (i := 915) (by decide +kernel), List.mem_of_getElem? (i := 916) (by decide +kernel)⟩
theorem lw_p34 : lw_okq (⟨"QueryDeskModel", "get", "(III)I"⟩, 30) := ⟨⟨by decide +kernel, by decide +kernel⟩, List.mem_of_getElem? (i := 775) (by decide +kernel), List.mem_of_getElem? (i := 923) (by decide +kernel), List.mem_of_getElem? (i := 924) (by decide +kernel)⟩
theorem lw_p35 : lw_okq (⟨"QueryDeskModel", "setIndex", "(IIIZ)Z"⟩, 30) := ⟨⟨by decide +kernel, by decide +kernel⟩, List.mem_of_getElem? (i := 775) (by decide +kernel), List.mem_of_getElem? (i := 931) (by decide +kernel), List.mem_of_getElem? (i := 932) (by decide +kernel)⟩
theorem lw_p36 : lw_okq (⟨"QueryDeskModel", "has", "(II)Z"⟩, 30) := ⟨⟨by decide +kernel, by decide +kernel⟩, List.mem_of_getElem? (i := 775) (by decide +kernel), List.mem_of_getElem? (i := 951) (by decide +kernel), List.mem_of_getElem? (i := 952) (by decide +kernel)⟩
theorem lw_p37 : lw_okq (⟨"QueryDeskModel", "cost", "(I)F"⟩, 30) := ⟨⟨by decide +kernel, by decide +kernel⟩, List.mem_of_getElem? (i := 775) (by decide +kernel), List.mem_of_getElem? (i := 975) (by decide +kernel), List.mem_of_getElem? (i := 976) (by decide +kernel)⟩
theorem lw_p38 : lw_okq (⟨"QueryDeskModel", "fewest", "(II)F"⟩, 30) := ⟨⟨by decide +kernel, by decide +kernel⟩, List.mem_of_getElem? (i := 775) (by decide +kernel), List.mem_of_getElem? (i := 982) (by decide +kernel), List.mem_of_getElem? (i := 983) (by decide +kernel)⟩
theorem lw_p39 : lw_okq (⟨"QueryDeskModel", "share", "(IIII)F"⟩, 30) := ⟨⟨by decide +kernel, by decide +kernel⟩, List.mem_of_getElem? (i := 775) (by decide +kernel), List.mem_of_getElem? (i := 986) (by decide +kernel), List.mem_of_getElem? (i := 987) (by decide +kernel)⟩
theorem lw_p40 : lw_okq (⟨"QueryDeskModel", "bettered", "(FFIII)F"⟩, 30) := ⟨⟨by decide +kernel, by decide +kernel⟩, List.mem_of_getElem? (i := 775) (by decide +kernel), List.mem_of_getElem? (i := 990) (by decide +kernel), List.mem_of_getElem? (i := 991) (by decide +kernel)⟩
theorem lw_p41 : lw_okq (⟨"QueryDeskModel", "sideOf", "(III)I"⟩, 30) := ⟨⟨by decide +kernel, by decide +kernel⟩, List.mem_of_getElem? (i := 775) (by decide +kernel), List.mem_of_getElem? (i := 994) (by decide +kernel), List.mem_of_getElem? (i := 995) (by decide +kernel)⟩
theorem lw_p42 : lw_okq (⟨"QueryDeskModel", "lessened", "(FII)F"⟩, 30) := ⟨⟨by decide +kernel, by decide +kernel⟩, List.mem_of_getElem? (i := 775) (by decide +kernel), List.mem_of_getElem? (i := 998) (by decide +kernel), List.mem_of_getElem? (i := 999) (by decide +kernel)⟩
theorem lw_p43 : lw_okq (⟨"QueryDeskModel", "following", "(I)I"⟩, 30) := ⟨⟨by decide +kernel, by decide +kernel⟩, List.mem_of_getElem? (i := 775) (by decide +kernel), List.mem_of_getElem? (i := 1010) (by decide +kernel), List.mem_of_getElem? (i := 1011) (by decide +kernel)⟩
theorem lw_p44 : lw_okq (⟨"QueryDeskModel", "wanted", "(II)I"⟩, 30) := ⟨⟨by decide +kernel, by decide +kernel⟩, List.mem_of_getElem? (i := 775) (by decide +kernel), List.mem_of_getElem? (i := 1014) (by decide +kernel), List.mem_of_getElem? (i := 1015) (by decide +kernel)⟩
theorem lw_p45 : lw_okq (⟨"QueryDeskModel", "rowAt", "(I)I"⟩, 30) := ⟨⟨by decide +kernel, by decide +kernel⟩, List.mem_of_getElem? (i := 775) (by decide +kernel), List.mem_of_getElem? (i := 1018) (by decide +kernel), List.mem_of_getElem? (i := 1019) (by decide +kernel)⟩
theorem lw_p46 : lw_okq (⟨"QueryDeskModel", "before", "(IIIII)Z"⟩, 30) := ⟨⟨by decide +kernel, by decide +kernel⟩, List.mem_of_getElem? (i := 775) (by decide +kernel), List.mem_of_getElem? (i := 1025) (by decide +kernel), List.mem_of_getElem? (i := 1026) (by decide +kernel)⟩
theorem lw_p47 : lw_okq (⟨"QueryDeskModel", "finish", "()V"⟩, 30) := ⟨⟨by decide +kernel, by decide +kernel⟩, List.mem_of_getElem? (i := 775) (by decide +kernel), List.mem_of_getElem? (i := 1029) (by decide +kernel), List.mem_of_getElem? (i := 1030) (by decide +kernel)⟩
def lw_privs_3 : List (MethodName × Nat) := [(⟨"QueryDeskModel", "isRow", "(II)Z"⟩, 30), (⟨"QueryDeskModel", "isColumn", "(II)Z"⟩, 30), (⟨"QueryDeskModel", "get", "(III)I"⟩, 30), (⟨"QueryDeskModel", "setIndex", "(IIIZ)Z"⟩, 30), (⟨"QueryDeskModel", "has", "(II)Z"⟩, 30), (⟨"QueryDeskModel", "cost", "(I)F"⟩, 30), (⟨"QueryDeskModel", "fewest", "(II)F"⟩, 30), (⟨"QueryDeskModel", "share", "(IIII)F"⟩, 30), (⟨"QueryDeskModel", "bettered", "(FFIII)F"⟩, 30), (⟨"QueryDeskModel", "sideOf", "(III)I"⟩, 30), (⟨"QueryDeskModel", "lessened", "(FII)F"⟩, 30), (⟨"QueryDeskModel", "following", "(I)I"⟩, 30), (⟨"QueryDeskModel", "wanted", "(II)I"⟩, 30), (⟨"QueryDeskModel", "rowAt", "(I)I"⟩, 30), (⟨"QueryDeskModel", "before", "(IIIII)Z"⟩, 30), (⟨"QueryDeskModel", "finish", "()V"⟩, 30)]
theorem lw_r3 : ∀ q ∈ lw_privs_3, lw_okq q := List.forall_mem_cons.mpr ⟨lw_p32, List.forall_mem_cons.mpr ⟨lw_p33, List.forall_mem_cons.mpr ⟨lw_p34, List.forall_mem_cons.mpr ⟨lw_p35, List.forall_mem_cons.mpr ⟨lw_p36, List.forall_mem_cons.mpr ⟨lw_p37, List.forall_mem_cons.mpr ⟨lw_p38, List.forall_mem_cons.mpr ⟨lw_p39, List.forall_mem_cons.mpr ⟨lw_p40, List.forall_mem_cons.mpr ⟨lw_p41, List.forall_mem_cons.mpr ⟨lw_p42, List.forall_mem_cons.mpr ⟨lw_p43, List.forall_mem_cons.mpr ⟨lw_p44, List.forall_mem_cons.mpr ⟨lw_p45, List.forall_mem_cons.mpr ⟨lw_p46, List.forall_mem_cons.mpr ⟨lw_p47, fun _ h => absurd h List.not_mem_nil⟩⟩⟩⟩⟩⟩⟩⟩⟩⟩⟩⟩⟩⟩⟩⟩
theorem lw_p48 : lw_okq (⟨"QueryDeskModel", "swapped", "(I)Z"⟩, 30) := ⟨⟨by decide +kernel, by decide +kernel⟩, List.mem_of_getElem? (i := 775) (by decide +kernel), List.mem_of_getElem? (i := 1033) (by decide +kernel), List.mem_of_getElem? (i := 1034) (by decide +kernel)⟩
theorem lw_p49 : lw_okq (⟨"QueryDeskModel", "step", "()V"⟩, 30) := ⟨⟨by decide +kernel, by decide +kernel⟩, List.mem_of_getElem? (i := 775) (by decide +kernel), List.mem_of_getElem? (i := 1037) (by decide +kernel), List.mem_of_getElem? (i := 1038) (by decide +kernel)⟩
theorem lw_p50 : lw_okq (⟨"QueryDeskModel", "passes", "(I)Z"⟩, 30) := ⟨⟨by decide +kernel, by decide +kernel⟩, List.mem_of_getElem? (i := 775) (by decide +kernel), List.mem_of_getElem? (i := 1041) (by decide +kernel), List.mem_of_getElem? (i := 1042) (by decide +kernel)⟩
theorem lw_p51 : lw_okq (⟨"QueryDeskModel", "give", "()V"⟩, 30) := ⟨⟨by decide +kernel, by decide +kernel⟩, List.mem_of_getElem? (i := 775) (by decide +kernel), List.mem_of_getElem? (i := 1045) (by decide +kernel), List.mem_of_getElem? (i := 1046) (by decide +kernel)⟩
def lw_privs_4 : List (MethodName × Nat) := [(⟨"QueryDeskModel", "swapped", "(I)Z"⟩, 30), (⟨"QueryDeskModel", "step", "()V"⟩, 30), (⟨"QueryDeskModel", "passes", "(I)Z"⟩, 30), (⟨"QueryDeskModel", "give", "()V"⟩, 30)]
theorem lw_r4 : ∀ q ∈ lw_privs_4, lw_okq q := List.forall_mem_cons.mpr ⟨lw_p48, List.forall_mem_cons.mpr ⟨lw_p49, List.forall_mem_cons.mpr ⟨lw_p50, List.forall_mem_cons.mpr ⟨lw_p51, fun _ h => absurd h List.not_mem_nil⟩⟩⟩⟩
def lw_privs : List (MethodName × Nat) := lw_privs_1 ++ (lw_privs_2 ++ (lw_privs_3 ++ (lw_privs_4)))
def lw_tbl : List Cond := k2_sels lw_privs ++ tables_1
theorem lw_privs_ok : ∀ q ∈ lw_privs, lw_okq q := by
  show ∀ q ∈ lw_privs_1 ++ (lw_privs_2 ++ (lw_privs_3 ++ (lw_privs_4))), lw_okq q
  exact List.forall_mem_append.mpr ⟨lw_r1, List.forall_mem_append.mpr ⟨lw_r2, List.forall_mem_append.mpr ⟨lw_r3, lw_r4⟩⟩⟩
def RX0 : String := "QueryDesk$Condition"
def TX0 : u_T := fun k => match k with
  | 0 => ("QueryDesk$Condition", "source", "I", false)
  | 1 => ("QueryDesk$Condition", "column", "I", false)
  | 2 => ("QueryDesk$Condition", "operator", "I", false)
  | _ => ("QueryDesk$Condition", "number", "I", false)
def tyX0 : Nat → FieldType := fun k => match k with
  | 0 => .int
  | 1 => .int
  | 2 => .int
  | _ => .int
abbrev wsX00 : List Cond := u_ws RX0 TX0 4
theorem nmX0 : ∀ a, a < 4 → ∀ b, b < 4 → a ≠ b → (TX0 a).2.1 ≠ (TX0 b).2.1 := by decide +kernel
theorem tyX0_ok : ∀ k, k < 4 → parseFieldDescriptor (TX0 k).2.2.1 = some (tyX0 k) := by decide +kernel
abbrev cX0_init : ByteArray := prog_2_method_1_code
def yX0_init : MethodName := ⟨RX0, "<init>", "()V"⟩
abbrev cX0_holds : ByteArray := prog_2_method_2_code
def yX0_holds : MethodName := ⟨RX0, "holds", "(I)Z"⟩
def RX1 : String := "QueryDesk$Join"
def TX1 : u_T := fun k => match k with
  | 0 => ("QueryDesk$Join", "first", "I", false)
  | 1 => ("QueryDesk$Join", "firstColumn", "I", false)
  | 2 => ("QueryDesk$Join", "second", "I", false)
  | _ => ("QueryDesk$Join", "secondColumn", "I", false)
def tyX1 : Nat → FieldType := fun k => match k with
  | 0 => .int
  | 1 => .int
  | 2 => .int
  | _ => .int
abbrev wsX10 : List Cond := u_ws RX1 TX1 4
theorem nmX1 : ∀ a, a < 4 → ∀ b, b < 4 → a ≠ b → (TX1 a).2.1 ≠ (TX1 b).2.1 := by decide +kernel
theorem tyX1_ok : ∀ k, k < 4 → parseFieldDescriptor (TX1 k).2.2.1 = some (tyX1 k) := by decide +kernel
abbrev cX1_init : ByteArray := prog_3_method_1_code
def yX1_init : MethodName := ⟨RX1, "<init>", "()V"⟩
abbrev cX1_ties : ByteArray := prog_3_method_2_code
def yX1_ties : MethodName := ⟨RX1, "ties", "(I)Z"⟩
abbrev cX1_partnerOf : ByteArray := prog_3_method_3_code
def yX1_partnerOf : MethodName := ⟨RX1, "partnerOf", "(I)I"⟩
abbrev cX1_columnOf : ByteArray := prog_3_method_4_code
def yX1_columnOf : MethodName := ⟨RX1, "columnOf", "(I)I"⟩
def RX2 : String := "QueryDesk$Output"
def TX2 : u_T := fun k => match k with
  | 0 => ("QueryDesk$Output", "source", "I", false)
  | _ => ("QueryDesk$Output", "column", "I", false)
def tyX2 : Nat → FieldType := fun k => match k with
  | 0 => .int
  | _ => .int
abbrev wsX20 : List Cond := u_ws RX2 TX2 2
theorem nmX2 : ∀ a, a < 2 → ∀ b, b < 2 → a ≠ b → (TX2 a).2.1 ≠ (TX2 b).2.1 := by decide +kernel
theorem tyX2_ok : ∀ k, k < 2 → parseFieldDescriptor (TX2 k).2.2.1 = some (tyX2 k) := by decide +kernel
abbrev cX2_init : ByteArray := prog_4_method_1_code
def yX2_init : MethodName := ⟨RX2, "<init>", "()V"⟩
def RX3 : String := "QueryDesk$Plan"
def TX3 : u_T := fun k => match k with
  | 0 => ("QueryDesk$Plan", "conditionShares", "[F", true)
  | 1 => ("QueryDesk$Plan", "firstShares", "[F", true)
  | 2 => ("QueryDesk$Plan", "secondShares", "[F", true)
  | 3 => ("QueryDesk$Plan", "order", "[I", true)
  | 4 => ("QueryDesk$Plan", "ways", "[I", true)
  | 5 => ("QueryDesk$Plan", "wayConditions", "[I", true)
  | 6 => ("QueryDesk$Plan", "wayJoins", "[I", true)
  | _ => ("QueryDesk$Plan", "fewestRows", "F", false)
def tyX3 : Nat → FieldType := fun k => match k with
  | 0 => .array .float
  | 1 => .array .float
  | 2 => .array .float
  | 3 => .array .int
  | 4 => .array .int
  | 5 => .array .int
  | 6 => .array .int
  | _ => .float
abbrev wsX30 : List Cond := u_ws RX3 TX3 8
theorem nmX3 : ∀ a, a < 8 → ∀ b, b < 8 → a ≠ b → (TX3 a).2.1 ≠ (TX3 b).2.1 := by decide +kernel
theorem tyX3_ok : ∀ k, k < 8 → parseFieldDescriptor (TX3 k).2.2.1 = some (tyX3 k) := by decide +kernel
abbrev cX3_init : ByteArray := prog_5_method_1_code
def yX3_init : MethodName := ⟨RX3, "<init>", "()V"⟩
abbrev cX3_choose : ByteArray := prog_5_method_2_code
def yX3_choose : MethodName := ⟨RX3, "choose", "(LQueryDesk$Question;)F"⟩
abbrev cX3_tiesBack : ByteArray := prog_5_method_3_code
def yX3_tiesBack : MethodName := ⟨RX3, "tiesBack", "(LQueryDesk$Join;I)Z"⟩
abbrev cX3_isBefore : ByteArray := prog_5_method_4_code
def yX3_isBefore : MethodName := ⟨RX3, "isBefore", "(II)Z"⟩
abbrev cX3_ordersOf : ByteArray := prog_5_method_5_code
def yX3_ordersOf : MethodName := ⟨RX3, "ordersOf", "(I)[I"⟩
abbrev cX3_orderCountOf : ByteArray := prog_5_method_6_code
def yX3_orderCountOf : MethodName := ⟨RX3, "orderCountOf", "(I)I"⟩
abbrev cX3_measureShares : ByteArray := prog_5_method_7_code
def yX3_measureShares : MethodName := ⟨RX3, "measureShares", "(LQueryDesk$Question;)V"⟩
abbrev cX3_shareOf : ByteArray := prog_5_method_8_code
def yX3_shareOf : MethodName := ⟨RX3, "shareOf", "(LQueryDesk$Condition;LQueryDesk$Table;)F"⟩
abbrev cX3_shareOfOneValue : ByteArray := prog_5_method_9_code
def yX3_shareOfOneValue : MethodName := ⟨RX3, "shareOfOneValue", "(LQueryDesk$Table;I)F"⟩
abbrev cX3_shareOfSpan : ByteArray := prog_5_method_10_code
def yX3_shareOfSpan : MethodName := ⟨RX3, "shareOfSpan", "(JLQueryDesk$Table;I)F"⟩
abbrev cX3_joinShare : ByteArray := prog_5_method_11_code
def yX3_joinShare : MethodName := ⟨RX3, "joinShare", "(LQueryDesk$Join;II)F"⟩
abbrev cX3_tryOrder : ByteArray := prog_5_method_12_code
def yX3_tryOrder : MethodName := ⟨RX3, "tryOrder", "(LQueryDesk$Question;[II)F"⟩
abbrev cX3_countBehind : ByteArray := prog_5_method_13_code
def yX3_countBehind : MethodName := ⟨RX3, "countBehind", "(LQueryDesk$Question;IF)F"⟩
abbrev cX3_takeBestWay : ByteArray := prog_5_method_14_code
def yX3_takeBestWay : MethodName := ⟨RX3, "takeBestWay", "(LQueryDesk$Question;I)V"⟩
abbrev cX3_considerCondition : ByteArray := prog_5_method_15_code
def yX3_considerCondition : MethodName := ⟨RX3, "considerCondition", "(LQueryDesk$Question;II)V"⟩
abbrev cX3_considerJoin : ByteArray := prog_5_method_16_code
def yX3_considerJoin : MethodName := ⟨RX3, "considerJoin", "(LQueryDesk$Question;II)V"⟩
abbrev cX3_considerWay : ByteArray := prog_5_method_17_code
def yX3_considerWay : MethodName := ⟨RX3, "considerWay", "(FIIII)V"⟩
abbrev cX3_takeWay : ByteArray := prog_5_method_18_code
def yX3_takeWay : MethodName := ⟨RX3, "takeWay", "(IIII)V"⟩
def RX4 : String := "QueryDesk$Question"
def TX4 : u_T := fun k => match k with
  | 0 => ("QueryDesk$Question", "tables", "[LQueryDesk$Table;", true)
  | 1 => ("QueryDesk$Question", "conditions", "[LQueryDesk$Condition;", true)
  | 2 => ("QueryDesk$Question", "joins", "[LQueryDesk$Join;", true)
  | 3 => ("QueryDesk$Question", "outputs", "[LQueryDesk$Output;", true)
  | 4 => ("QueryDesk$Question", "sources", "I", false)
  | 5 => ("QueryDesk$Question", "conditionCount", "I", false)
  | 6 => ("QueryDesk$Question", "joinCount", "I", false)
  | 7 => ("QueryDesk$Question", "outputCount", "I", false)
  | 8 => ("QueryDesk$Question", "orderOutput", "I", false)
  | 9 => ("QueryDesk$Question", "falling", "Z", false)
  | _ => ("QueryDesk$Question", "limit", "I", false)
def tyX4 : Nat → FieldType := fun k => match k with
  | 0 => .array (.object "QueryDesk$Table")
  | 1 => .array (.object "QueryDesk$Condition")
  | 2 => .array (.object "QueryDesk$Join")
  | 3 => .array (.object "QueryDesk$Output")
  | 4 => .int
  | 5 => .int
  | 6 => .int
  | 7 => .int
  | 8 => .int
  | 9 => .boolean
  | _ => .int
abbrev wsX40 : List Cond := u_ws RX4 TX4 11
theorem nmX4 : ∀ a, a < 11 → ∀ b, b < 11 → a ≠ b → (TX4 a).2.1 ≠ (TX4 b).2.1 := by decide +kernel
theorem tyX4_ok : ∀ k, k < 11 → parseFieldDescriptor (TX4 k).2.2.1 = some (tyX4 k) := by decide +kernel
abbrev cX4_init : ByteArray := prog_6_method_1_code
def yX4_init : MethodName := ⟨RX4, "<init>", "()V"⟩
abbrev cX4_clear : ByteArray := prog_6_method_2_code
def yX4_clear : MethodName := ⟨RX4, "clear", "()V"⟩
abbrev cX4_hasColumn : ByteArray := prog_6_method_3_code
def yX4_hasColumn : MethodName := ⟨RX4, "hasColumn", "(II)Z"⟩
abbrev cX4_addSource : ByteArray := prog_6_method_4_code
def yX4_addSource : MethodName := ⟨RX4, "addSource", "(LQueryDesk$Table;)I"⟩
abbrev cX4_addCondition : ByteArray := prog_6_method_5_code
def yX4_addCondition : MethodName := ⟨RX4, "addCondition", "(IIII)V"⟩
abbrev cX4_addJoin : ByteArray := prog_6_method_6_code
def yX4_addJoin : MethodName := ⟨RX4, "addJoin", "(IIII)V"⟩
abbrev cX4_addOutput : ByteArray := prog_6_method_7_code
def yX4_addOutput : MethodName := ⟨RX4, "addOutput", "(II)I"⟩
abbrev cX4_isOrdered : ByteArray := prog_6_method_8_code
def yX4_isOrdered : MethodName := ⟨RX4, "isOrdered", "()Z"⟩
abbrev cX4_enoughAnswers : ByteArray := prog_6_method_9_code
def yX4_enoughAnswers : MethodName := ⟨RX4, "enoughAnswers", "()I"⟩
def RX5 : String := "QueryDesk$Table"
def TX5 : u_T := fun k => match k with
  | 0 => ("QueryDesk$Table", "numbers", "[I", true)
  | 1 => ("QueryDesk$Table", "cells", "[I", true)
  | 2 => ("QueryDesk$Table", "indices", "[Z", true)
  | 3 => ("QueryDesk$Table", "columns", "I", false)
  | 4 => ("QueryDesk$Table", "rows", "I", false)
  | _ => ("QueryDesk$Table", "numbersGiven", "I", false)
def tyX5 : Nat → FieldType := fun k => match k with
  | 0 => .array .int
  | 1 => .array .int
  | 2 => .array .boolean
  | 3 => .int
  | 4 => .int
  | _ => .int
abbrev wsX50 : List Cond := u_ws RX5 TX5 6
theorem nmX5 : ∀ a, a < 6 → ∀ b, b < 6 → a ≠ b → (TX5 a).2.1 ≠ (TX5 b).2.1 := by decide +kernel
theorem tyX5_ok : ∀ k, k < 6 → parseFieldDescriptor (TX5 k).2.2.1 = some (tyX5 k) := by decide +kernel
abbrev cX5_init : ByteArray := prog_7_method_1_code
def yX5_init : MethodName := ⟨RX5, "<init>", "()V"⟩
abbrev cX5_makeAnew : ByteArray := prog_7_method_2_code
def yX5_makeAnew : MethodName := ⟨RX5, "makeAnew", "(I)V"⟩
abbrev cX5_isFull : ByteArray := prog_7_method_3_code
def yX5_isFull : MethodName := ⟨RX5, "isFull", "()Z"⟩
abbrev cX5_add : ByteArray := prog_7_method_4_code
def yX5_add : MethodName := ⟨RX5, "add", "(IIII)I"⟩
abbrev cX5_remove : ByteArray := prog_7_method_5_code
def yX5_remove : MethodName := ⟨RX5, "remove", "(I)V"⟩
abbrev cX5_placeOf : ByteArray := prog_7_method_6_code
def yX5_placeOf : MethodName := ⟨RX5, "placeOf", "(I)I"⟩
abbrev cX5_hasColumn : ByteArray := prog_7_method_7_code
def yX5_hasColumn : MethodName := ⟨RX5, "hasColumn", "(I)Z"⟩
abbrev cX5_value : ByteArray := prog_7_method_8_code
def yX5_value : MethodName := ⟨RX5, "value", "(II)I"⟩
abbrev cX5_put : ByteArray := prog_7_method_9_code
def yX5_put : MethodName := ⟨RX5, "put", "(III)V"⟩
abbrev cX5_hasIndex : ByteArray := prog_7_method_10_code
def yX5_hasIndex : MethodName := ⟨RX5, "hasIndex", "(II)Z"⟩
abbrev cX5_setIndex : ByteArray := prog_7_method_11_code
def yX5_setIndex : MethodName := ⟨RX5, "setIndex", "(IIZ)V"⟩
abbrev cX5_differentValues : ByteArray := prog_7_method_12_code
def yX5_differentValues : MethodName := ⟨RX5, "differentValues", "(I)I"⟩
abbrev cX5_standsBefore : ByteArray := prog_7_method_13_code
def yX5_standsBefore : MethodName := ⟨RX5, "standsBefore", "(II)Z"⟩
abbrev cX5_least : ByteArray := prog_7_method_14_code
def yX5_least : MethodName := ⟨RX5, "least", "(I)I"⟩
abbrev cX5_greatest : ByteArray := prog_7_method_15_code
def yX5_greatest : MethodName := ⟨RX5, "greatest", "(I)I"⟩
def RX6 : String := "QueryDesk$Work"
def TX6 : u_T := fun k => match k with
  | 0 => ("QueryDesk$Work", "places", "[I", true)
  | 1 => ("QueryDesk$Work", "placeCounts", "[I", true)
  | 2 => ("QueryDesk$Work", "nextPlaces", "[I", true)
  | 3 => ("QueryDesk$Work", "readPlaces", "[I", true)
  | 4 => ("QueryDesk$Work", "found", "[I", true)
  | 5 => ("QueryDesk$Work", "ranks", "[I", true)
  | 6 => ("QueryDesk$Work", "answers", "I", false)
  | 7 => ("QueryDesk$Work", "steps", "I", false)
  | _ => ("QueryDesk$Work", "depth", "I", false)
def tyX6 : Nat → FieldType := fun k => match k with
  | 0 => .array .int
  | 1 => .array .int
  | 2 => .array .int
  | 3 => .array .int
  | 4 => .array .int
  | 5 => .array .int
  | 6 => .int
  | 7 => .int
  | _ => .int
abbrev wsX60 : List Cond := u_ws RX6 TX6 9
theorem nmX6 : ∀ a, a < 9 → ∀ b, b < 9 → a ≠ b → (TX6 a).2.1 ≠ (TX6 b).2.1 := by decide +kernel
theorem tyX6_ok : ∀ k, k < 9 → parseFieldDescriptor (TX6 k).2.2.1 = some (tyX6 k) := by decide +kernel
abbrev cX6_init : ByteArray := prog_8_method_1_code
def yX6_init : MethodName := ⟨RX6, "<init>", "()V"⟩
abbrev cX6_clear : ByteArray := prog_8_method_2_code
def yX6_clear : MethodName := ⟨RX6, "clear", "()V"⟩
abbrev cX6_begin : ByteArray := prog_8_method_3_code
def yX6_begin : MethodName := ⟨RX6, "begin", "(LQueryDesk$Question;LQueryDesk$Plan;)V"⟩
abbrev cX6_isDone : ByteArray := prog_8_method_4_code
def yX6_isDone : MethodName := ⟨RX6, "isDone", "(LQueryDesk$Question;)Z"⟩
abbrev cX6_makeStep : ByteArray := prog_8_method_5_code
def yX6_makeStep : MethodName := ⟨RX6, "makeStep", "(LQueryDesk$Question;LQueryDesk$Plan;)V"⟩
abbrev cX6_valueOf : ByteArray := prog_8_method_6_code
def yX6_valueOf : MethodName := ⟨RX6, "valueOf", "(II)I"⟩
abbrev cX6_leaveFinishedSources : ByteArray := prog_8_method_7_code
def yX6_leaveFinishedSources : MethodName := ⟨RX6, "leaveFinishedSources", "()V"⟩
abbrev cX6_passes : ByteArray := prog_8_method_8_code
def yX6_passes : MethodName := ⟨RX6, "passes", "(LQueryDesk$Question;LQueryDesk$Plan;)Z"⟩
abbrev cX6_readValue : ByteArray := prog_8_method_9_code
def yX6_readValue : MethodName := ⟨RX6, "readValue", "(LQueryDesk$Question;II)I"⟩
abbrev cX6_openSource : ByteArray := prog_8_method_10_code
def yX6_openSource : MethodName := ⟨RX6, "openSource", "(LQueryDesk$Question;LQueryDesk$Plan;I)V"⟩
abbrev cX6_openByCondition : ByteArray := prog_8_method_11_code
def yX6_openByCondition : MethodName := ⟨RX6, "openByCondition", "(LQueryDesk$Table;LQueryDesk$Condition;ZI)V"⟩
abbrev cX6_openByJoin : ByteArray := prog_8_method_12_code
def yX6_openByJoin : MethodName := ⟨RX6, "openByJoin", "(LQueryDesk$Question;LQueryDesk$Join;II)V"⟩
abbrev cX6_addPlace : ByteArray := prog_8_method_13_code
def yX6_addPlace : MethodName := ⟨RX6, "addPlace", "(I)V"⟩
abbrev cX6_sinkLastPlace : ByteArray := prog_8_method_14_code
def yX6_sinkLastPlace : MethodName := ⟨RX6, "sinkLastPlace", "(LQueryDesk$Table;I)V"⟩
abbrev cX6_keepAnswer : ByteArray := prog_8_method_15_code
def yX6_keepAnswer : MethodName := ⟨RX6, "keepAnswer", "(LQueryDesk$Question;)V"⟩
abbrev cX6_goesBefore : ByteArray := prog_8_method_16_code
def yX6_goesBefore : MethodName := ⟨RX6, "goesBefore", "(LQueryDesk$Question;II)Z"⟩
def RX7 : String := "QueryDesk"
def TX7 : u_T := fun k => match k with
  | 0 => ("QueryDesk", "tables", "[LQueryDesk$Table;", true)
  | 1 => ("QueryDesk", "question", "LQueryDesk$Question;", true)
  | 2 => ("QueryDesk", "chosen", "LQueryDesk$Plan;", true)
  | 3 => ("QueryDesk", "work", "LQueryDesk$Work;", true)
  | _ => ("QueryDesk", "state", "I", false)
def tyX7 : Nat → FieldType := fun k => match k with
  | 0 => .array (.object "QueryDesk$Table")
  | 1 => .object "QueryDesk$Question"
  | 2 => .object "QueryDesk$Plan"
  | 3 => .object "QueryDesk$Work"
  | _ => .int
abbrev wsX70 : List Cond := u_ws RX7 TX7 5
theorem nmX7 : ∀ a, a < 5 → ∀ b, b < 5 → a ≠ b → (TX7 a).2.1 ≠ (TX7 b).2.1 := by decide +kernel
theorem tyX7_ok : ∀ k, k < 5 → parseFieldDescriptor (TX7 k).2.2.1 = some (tyX7 k) := by decide +kernel
abbrev cX7_init : ByteArray := prog_1_method_1_code
def yX7_init : MethodName := ⟨RX7, "<init>", "()V"⟩
abbrev cX7_create : ByteArray := prog_1_method_2_code
def yX7_create : MethodName := ⟨RX7, "create", "(II)Z"⟩
abbrev cX7_insert : ByteArray := prog_1_method_3_code
def yX7_insert : MethodName := ⟨RX7, "insert", "(IIIII)I"⟩
abbrev cX7_delete : ByteArray := prog_1_method_4_code
def yX7_delete : MethodName := ⟨RX7, "delete", "(II)V"⟩
abbrev cX7_update : ByteArray := prog_1_method_5_code
def yX7_update : MethodName := ⟨RX7, "update", "(IIII)V"⟩
abbrev cX7_cell : ByteArray := prog_1_method_6_code
def yX7_cell : MethodName := ⟨RX7, "cell", "(III)I"⟩
abbrev cX7_index : ByteArray := prog_1_method_7_code
def yX7_index : MethodName := ⟨RX7, "index", "(III)Z"⟩
abbrev cX7_drop : ByteArray := prog_1_method_8_code
def yX7_drop : MethodName := ⟨RX7, "drop", "(III)Z"⟩
abbrev cX7_ask : ByteArray := prog_1_method_9_code
def yX7_ask : MethodName := ⟨RX7, "ask", "()V"⟩
abbrev cX7_from : ByteArray := prog_1_method_10_code
def yX7_from : MethodName := ⟨RX7, "from", "(I)I"⟩
abbrev cX7_where : ByteArray := prog_1_method_11_code
def yX7_where : MethodName := ⟨RX7, "where", "(IIII)Z"⟩
abbrev cX7_join : ByteArray := prog_1_method_12_code
def yX7_join : MethodName := ⟨RX7, "join", "(IIII)Z"⟩
abbrev cX7_select : ByteArray := prog_1_method_13_code
def yX7_select : MethodName := ⟨RX7, "select", "(II)I"⟩
abbrev cX7_order : ByteArray := prog_1_method_14_code
def yX7_order : MethodName := ⟨RX7, "order", "(IZ)Z"⟩
abbrev cX7_limit : ByteArray := prog_1_method_15_code
def yX7_limit : MethodName := ⟨RX7, "limit", "(I)Z"⟩
abbrev cX7_plan : ByteArray := prog_1_method_16_code
def yX7_plan : MethodName := ⟨RX7, "plan", "()F"⟩
abbrev cX7_explain : ByteArray := prog_1_method_17_code
def yX7_explain : MethodName := ⟨RX7, "explain", "(II)I"⟩
abbrev cX7_run : ByteArray := prog_1_method_18_code
def yX7_run : MethodName := ⟨RX7, "run", "(I)I"⟩
abbrev cX7_look : ByteArray := prog_1_method_19_code
def yX7_look : MethodName := ⟨RX7, "look", "(I)I"⟩
abbrev cX7_answer : ByteArray := prog_1_method_20_code
def yX7_answer : MethodName := ⟨RX7, "answer", "(II)I"⟩
abbrev cX7_hasTable : ByteArray := prog_1_method_21_code
def yX7_hasTable : MethodName := ⟨RX7, "hasTable", "(I)Z"⟩
abbrev cX7_hasRow : ByteArray := prog_1_method_22_code
def yX7_hasRow : MethodName := ⟨RX7, "hasRow", "(II)Z"⟩
abbrev cX7_hasColumn : ByteArray := prog_1_method_23_code
def yX7_hasColumn : MethodName := ⟨RX7, "hasColumn", "(II)Z"⟩
abbrev cX7_isKind : ByteArray := prog_1_method_24_code
def yX7_isKind : MethodName := ⟨RX7, "isKind", "(I)Z"⟩
abbrev cX7_beginQuestion : ByteArray := prog_1_method_25_code
def yX7_beginQuestion : MethodName := ⟨RX7, "beginQuestion", "()V"⟩
abbrev cX7_endQuestion : ByteArray := prog_1_method_26_code
def yX7_endQuestion : MethodName := ⟨RX7, "endQuestion", "()V"⟩
abbrev cX7_givenAnswers : ByteArray := prog_1_method_27_code
def yX7_givenAnswers : MethodName := ⟨RX7, "givenAnswers", "()I"⟩
def RX8 : String := "QueryDeskModel"
def TX8 : u_T := fun k => match k with
  | 0 => ("QueryDeskModel", "thrown", "I", false)
  | 1 => ("QueryDeskModel", "columns", "[I", true)
  | 2 => ("QueryDeskModel", "made", "[I", true)
  | 3 => ("QueryDeskModel", "there", "[Z", true)
  | 4 => ("QueryDeskModel", "cell", "[I", true)
  | 5 => ("QueryDeskModel", "indexed", "[Z", true)
  | 6 => ("QueryDeskModel", "state", "I", false)
  | 7 => ("QueryDeskModel", "sources", "I", false)
  | 8 => ("QueryDeskModel", "source", "[I", true)
  | 9 => ("QueryDeskModel", "conditions", "I", false)
  | 10 => ("QueryDeskModel", "condition", "[I", true)
  | 11 => ("QueryDeskModel", "joins", "I", false)
  | 12 => ("QueryDeskModel", "join", "[I", true)
  | 13 => ("QueryDeskModel", "outputs", "I", false)
  | 14 => ("QueryDeskModel", "output", "[I", true)
  | 15 => ("QueryDeskModel", "sorts", "I", false)
  | 16 => ("QueryDeskModel", "falling", "Z", false)
  | 17 => ("QueryDeskModel", "most", "I", false)
  | 18 => ("QueryDeskModel", "plan", "[I", true)
  | 19 => ("QueryDeskModel", "way", "[I", true)
  | 20 => ("QueryDeskModel", "byCondition", "[I", true)
  | 21 => ("QueryDeskModel", "byJoin", "[I", true)
  | 22 => ("QueryDeskModel", "newWay", "I", false)
  | 23 => ("QueryDeskModel", "newCondition", "I", false)
  | 24 => ("QueryDeskModel", "newJoin", "I", false)
  | 25 => ("QueryDeskModel", "at", "[I", true)
  | 26 => ("QueryDeskModel", "deep", "I", false)
  | 27 => ("QueryDeskModel", "steps", "I", false)
  | 28 => ("QueryDeskModel", "found", "I", false)
  | _ => ("QueryDeskModel", "answers", "[I", true)
def tyX8 : Nat → FieldType := fun k => match k with
  | 0 => .int
  | 1 => .array .int
  | 2 => .array .int
  | 3 => .array .boolean
  | 4 => .array .int
  | 5 => .array .boolean
  | 6 => .int
  | 7 => .int
  | 8 => .array .int
  | 9 => .int
  | 10 => .array .int
  | 11 => .int
  | 12 => .array .int
  | 13 => .int
  | 14 => .array .int
  | 15 => .int
  | 16 => .boolean
  | 17 => .int
  | 18 => .array .int
  | 19 => .array .int
  | 20 => .array .int
  | 21 => .array .int
  | 22 => .int
  | 23 => .int
  | 24 => .int
  | 25 => .array .int
  | 26 => .int
  | 27 => .int
  | 28 => .int
  | _ => .array .int
abbrev wsX80 : List Cond := u_ws RX8 TX8 30
theorem nmX8 : ∀ a, a < 30 → ∀ b, b < 30 → a ≠ b → (TX8 a).2.1 ≠ (TX8 b).2.1 := by decide +kernel
theorem tyX8_ok : ∀ k, k < 30 → parseFieldDescriptor (TX8 k).2.2.1 = some (tyX8 k) := by decide +kernel
abbrev cX8_init : ByteArray := prog_10_method_1_code
def yX8_init : MethodName := ⟨RX8, "<init>", "()V"⟩
abbrev cX8_thrown : ByteArray := prog_10_method_2_code
def yX8_thrown : MethodName := ⟨RX8, "thrown", "()I"⟩
abbrev cX8_in : ByteArray := prog_10_method_3_code
def yX8_in : MethodName := ⟨RX8, "in", "(III)Z"⟩
abbrev cX8_isTable : ByteArray := prog_10_method_4_code
def yX8_isTable : MethodName := ⟨RX8, "isTable", "(I)Z"⟩
abbrev cX8_isRow : ByteArray := prog_10_method_5_code
def yX8_isRow : MethodName := ⟨RX8, "isRow", "(II)Z"⟩
abbrev cX8_isColumn : ByteArray := prog_10_method_6_code
def yX8_isColumn : MethodName := ⟨RX8, "isColumn", "(II)Z"⟩
abbrev cX8_rowsOf : ByteArray := prog_10_method_7_code
def yX8_rowsOf : MethodName := ⟨RX8, "rowsOf", "(I)I"⟩
abbrev cX8_get : ByteArray := prog_10_method_8_code
def yX8_get : MethodName := ⟨RX8, "get", "(III)I"⟩
abbrev cX8_changed : ByteArray := prog_10_method_9_code
def yX8_changed : MethodName := ⟨RX8, "changed", "()V"⟩
abbrev cX8_create : ByteArray := prog_10_method_10_code
def yX8_create : MethodName := ⟨RX8, "create", "(II)Z"⟩
abbrev cX8_insert : ByteArray := prog_10_method_11_code
def yX8_insert : MethodName := ⟨RX8, "insert", "(IIIII)I"⟩
abbrev cX8_delete : ByteArray := prog_10_method_12_code
def yX8_delete : MethodName := ⟨RX8, "delete", "(II)V"⟩
abbrev cX8_update : ByteArray := prog_10_method_13_code
def yX8_update : MethodName := ⟨RX8, "update", "(IIII)V"⟩
abbrev cX8_cell : ByteArray := prog_10_method_14_code
def yX8_cell : MethodName := ⟨RX8, "cell", "(III)I"⟩
abbrev cX8_setIndex : ByteArray := prog_10_method_15_code
def yX8_setIndex : MethodName := ⟨RX8, "setIndex", "(IIIZ)Z"⟩
abbrev cX8_index : ByteArray := prog_10_method_16_code
def yX8_index : MethodName := ⟨RX8, "index", "(III)Z"⟩
abbrev cX8_drop : ByteArray := prog_10_method_17_code
def yX8_drop : MethodName := ⟨RX8, "drop", "(III)Z"⟩
abbrev cX8_empty : ByteArray := prog_10_method_18_code
def yX8_empty : MethodName := ⟨RX8, "empty", "()V"⟩
abbrev cX8_ask : ByteArray := prog_10_method_19_code
def yX8_ask : MethodName := ⟨RX8, "ask", "()V"⟩
abbrev cX8_from : ByteArray := prog_10_method_20_code
def yX8_from : MethodName := ⟨RX8, "from", "(I)I"⟩
abbrev cX8_has : ByteArray := prog_10_method_21_code
def yX8_has : MethodName := ⟨RX8, "has", "(II)Z"⟩
abbrev cX8_where : ByteArray := prog_10_method_22_code
def yX8_where : MethodName := ⟨RX8, "where", "(IIII)Z"⟩
abbrev cX8_join : ByteArray := prog_10_method_23_code
def yX8_join : MethodName := ⟨RX8, "join", "(IIII)Z"⟩
abbrev cX8_select : ByteArray := prog_10_method_24_code
def yX8_select : MethodName := ⟨RX8, "select", "(II)I"⟩
abbrev cX8_order : ByteArray := prog_10_method_25_code
def yX8_order : MethodName := ⟨RX8, "order", "(IZ)Z"⟩
abbrev cX8_limit : ByteArray := prog_10_method_26_code
def yX8_limit : MethodName := ⟨RX8, "limit", "(I)Z"⟩
abbrev cX8_share : ByteArray := prog_10_method_27_code
def yX8_share : MethodName := ⟨RX8, "share", "(IIII)F"⟩
abbrev cX8_sideOf : ByteArray := prog_10_method_28_code
def yX8_sideOf : MethodName := ⟨RX8, "sideOf", "(III)I"⟩
abbrev cX8_bettered : ByteArray := prog_10_method_29_code
def yX8_bettered : MethodName := ⟨RX8, "bettered", "(FFIII)F"⟩
abbrev cX8_fewest : ByteArray := prog_10_method_30_code
def yX8_fewest : MethodName := ⟨RX8, "fewest", "(II)F"⟩
abbrev cX8_lessened : ByteArray := prog_10_method_31_code
def yX8_lessened : MethodName := ⟨RX8, "lessened", "(FII)F"⟩
abbrev cX8_ordered : ByteArray := prog_10_method_32_code
def yX8_ordered : MethodName := ⟨RX8, "ordered", "(II)I"⟩
abbrev cX8_cost : ByteArray := prog_10_method_33_code
def yX8_cost : MethodName := ⟨RX8, "cost", "(I)F"⟩
abbrev cX8_plan : ByteArray := prog_10_method_34_code
def yX8_plan : MethodName := ⟨RX8, "plan", "()F"⟩
abbrev cX8_explain : ByteArray := prog_10_method_35_code
def yX8_explain : MethodName := ⟨RX8, "explain", "(II)I"⟩
abbrev cX8_holds : ByteArray := prog_10_method_36_code
def yX8_holds : MethodName := ⟨RX8, "holds", "(III)Z"⟩
abbrev cX8_rowAt : ByteArray := prog_10_method_37_code
def yX8_rowAt : MethodName := ⟨RX8, "rowAt", "(I)I"⟩
abbrev cX8_wanted : ByteArray := prog_10_method_38_code
def yX8_wanted : MethodName := ⟨RX8, "wanted", "(II)I"⟩
abbrev cX8_following : ByteArray := prog_10_method_39_code
def yX8_following : MethodName := ⟨RX8, "following", "(I)I"⟩
abbrev cX8_before : ByteArray := prog_10_method_40_code
def yX8_before : MethodName := ⟨RX8, "before", "(IIIII)Z"⟩
abbrev cX8_passes : ByteArray := prog_10_method_41_code
def yX8_passes : MethodName := ⟨RX8, "passes", "(I)Z"⟩
abbrev cX8_give : ByteArray := prog_10_method_42_code
def yX8_give : MethodName := ⟨RX8, "give", "()V"⟩
abbrev cX8_swapped : ByteArray := prog_10_method_43_code
def yX8_swapped : MethodName := ⟨RX8, "swapped", "(I)Z"⟩
abbrev cX8_finish : ByteArray := prog_10_method_44_code
def yX8_finish : MethodName := ⟨RX8, "finish", "()V"⟩
abbrev cX8_run : ByteArray := prog_10_method_45_code
def yX8_run : MethodName := ⟨RX8, "run", "(I)I"⟩
abbrev cX8_step : ByteArray := prog_10_method_46_code
def yX8_step : MethodName := ⟨RX8, "step", "()V"⟩
abbrev cX8_look : ByteArray := prog_10_method_47_code
def yX8_look : MethodName := ⟨RX8, "look", "(I)I"⟩
abbrev cX8_answer : ByteArray := prog_10_method_48_code
def yX8_answer : MethodName := ⟨RX8, "answer", "(II)I"⟩
def RJ9 : String := "java/lang/Math"
def TJ9 : u_T := fun k => match k with
  | _ => ("", "", "", false)
def tyJ9 : Nat → FieldType := fun k => match k with
  | _ => .int
abbrev wsJ90 : List Cond := u_ws RJ9 TJ9 0
theorem nmJ9 : ∀ a, a < 0 → ∀ b, b < 0 → a ≠ b → (TJ9 a).2.1 ≠ (TJ9 b).2.1 := by decide +kernel
theorem tyJ9_ok : ∀ k, k < 0 → parseFieldDescriptor (TJ9 k).2.2.1 = some (tyJ9 k) := by decide +kernel
abbrev cJ9_max_7cf53 : ByteArray := prog_14_method_65_code
def yJ9_max_7cf53 : MethodName := ⟨RJ9, "max", "(II)I"⟩
abbrev cJ9_min_7cf53 : ByteArray := prog_14_method_69_code
def yJ9_min_7cf53 : MethodName := ⟨RJ9, "min", "(II)I"⟩
def RJ0 : String := "java/lang/String"
def TJ0 : u_T := fun k => match k with
  | _ => ("", "", "", false)
def tyJ0 : Nat → FieldType := fun k => match k with
  | _ => .int
abbrev wsJ00 : List Cond := u_ws RJ0 TJ0 0
theorem nmJ0 : ∀ a, a < 0 → ∀ b, b < 0 → a ≠ b → (TJ0 a).2.1 ≠ (TJ0 b).2.1 := by decide +kernel
theorem tyJ0_ok : ∀ k, k < 0 → parseFieldDescriptor (TJ0 k).2.2.1 = some (tyJ0 k) := by decide +kernel
def RJ10 : String := "java/lang/System"
def TJ10 : u_T := fun k => match k with
  | _ => ("", "", "", false)
def tyJ10 : Nat → FieldType := fun k => match k with
  | _ => .int
abbrev wsJ100 : List Cond := u_ws RJ10 TJ10 0
theorem nmJ10 : ∀ a, a < 0 → ∀ b, b < 0 → a ≠ b → (TJ10 a).2.1 ≠ (TJ10 b).2.1 := by decide +kernel
theorem tyJ10_ok : ∀ k, k < 0 → parseFieldDescriptor (TJ10 k).2.2.1 = some (tyJ10 k) := by decide +kernel
def RL : String := "QueryDeskLaw"
abbrev cL_insert : ByteArray := method_3_code
def yL_insert : MethodName := ⟨RL, "insert", "(LQueryDesk;IIIII[J)I"⟩
abbrev cL_delete : ByteArray := method_4_code
def yL_delete : MethodName := ⟨RL, "delete", "(LQueryDesk;II)I"⟩
abbrev cL_update : ByteArray := method_5_code
def yL_update : MethodName := ⟨RL, "update", "(LQueryDesk;IIII)I"⟩
abbrev cL_cell : ByteArray := method_6_code
def yL_cell : MethodName := ⟨RL, "cell", "(LQueryDesk;III[J)I"⟩
abbrev cL_plan : ByteArray := method_7_code
def yL_plan : MethodName := ⟨RL, "plan", "(LQueryDesk;[D)I"⟩
abbrev cL_explain : ByteArray := method_8_code
def yL_explain : MethodName := ⟨RL, "explain", "(LQueryDesk;II[J)I"⟩
abbrev cL_answer : ByteArray := method_9_code
def yL_answer : MethodName := ⟨RL, "answer", "(LQueryDesk;II[J)I"⟩
abbrev cL_law : ByteArray := code
def yL_law : MethodName := ⟨RL, "law", "([I)Z"⟩
abbrev vwCl : List vw_C := [(RX0, TX0, 4), (RX1, TX1, 4), (RX2, TX2, 2), (RX3, TX3, 8), (RX4, TX4, 11), (RX5, TX5, 6), (RX6, TX6, 9), (RX7, TX7, 5), (RX8, TX8, 30)]
