section
-- ===== PART A: goes FIRST, ahead of the names: the tables' words, and 'selects' of the private methods out of them =====
/-- a private method of a class that the tables say can be made, by its rows of tables_1 -/
def lw_okq (q : MethodName × Nat) : Prop := (q.1.cls ≠ "java/lang/invoke/MethodHandle" ∧ q.1.cls ≠ "java/lang/invoke/VarHandle") ∧ Cond.instantiable q.1.cls q.2 ∈ tables_1 ∧ Cond.privateMethod q.1 ∈ tables_1 ∧ Cond.instanceMethod q.1 ∈ tables_1
theorem lw_p0 : lw_okq (⟨"QueryDesk", "beginQuestion", "()V"⟩, 5) := ⟨⟨by decide +kernel, by decide +kernel⟩, List.mem_of_getElem? (i := 19) (by decide +kernel), List.mem_of_getElem? (i := 299) (by decide +kernel), List.mem_of_getElem? (i := 300) (by decide +kernel)⟩
theorem lw_p1 : lw_okq (⟨"QueryDesk", "hasColumn", "(II)Z"⟩, 5) := ⟨⟨by decide +kernel, by decide +kernel⟩, List.mem_of_getElem? (i := 19) (by decide +kernel), List.mem_of_getElem? (i := 315) (by decide +kernel), List.mem_of_getElem? (i := 316) (by decide +kernel)⟩
theorem lw_p2 : lw_okq (⟨"QueryDesk", "hasTable", "(I)Z"⟩, 5) := ⟨⟨by decide +kernel, by decide +kernel⟩, List.mem_of_getElem? (i := 19) (by decide +kernel), List.mem_of_getElem? (i := 319) (by decide +kernel), List.mem_of_getElem? (i := 320) (by decide +kernel)⟩
theorem lw_p3 : lw_okq (⟨"QueryDesk", "endQuestion", "()V"⟩, 5) := ⟨⟨by decide +kernel, by decide +kernel⟩, List.mem_of_getElem? (i := 19) (by decide +kernel), List.mem_of_getElem? (i := 334) (by decide +kernel), List.mem_of_getElem? (i := 335) (by decide +kernel)⟩
theorem lw_p4 : lw_okq (⟨"QueryDesk$Work", "passes", "(LQueryDesk$Question;LQueryDesk$Plan;)Z"⟩, 9) := ⟨⟨by decide +kernel, by decide +kernel⟩, List.mem_of_getElem? (i := 239) (by decide +kernel), List.mem_of_getElem? (i := 415) (by decide +kernel), List.mem_of_getElem? (i := 416) (by decide +kernel)⟩
theorem lw_p5 : lw_okq (⟨"QueryDesk$Work", "readValue", "(LQueryDesk$Question;II)I"⟩, 9) := ⟨⟨by decide +kernel, by decide +kernel⟩, List.mem_of_getElem? (i := 239) (by decide +kernel), List.mem_of_getElem? (i := 419) (by decide +kernel), List.mem_of_getElem? (i := 420) (by decide +kernel)⟩
theorem lw_p6 : lw_okq (⟨"QueryDesk$Plan", "isBefore", "(II)Z"⟩, 8) := ⟨⟨by decide +kernel, by decide +kernel⟩, List.mem_of_getElem? (i := 199) (by decide +kernel), List.mem_of_getElem? (i := 443) (by decide +kernel), List.mem_of_getElem? (i := 444) (by decide +kernel)⟩
theorem lw_p7 : lw_okq (⟨"QueryDesk$Work", "keepAnswer", "(LQueryDesk$Question;)V"⟩, 9) := ⟨⟨by decide +kernel, by decide +kernel⟩, List.mem_of_getElem? (i := 239) (by decide +kernel), List.mem_of_getElem? (i := 447) (by decide +kernel), List.mem_of_getElem? (i := 448) (by decide +kernel)⟩
theorem lw_p8 : lw_okq (⟨"QueryDesk$Work", "goesBefore", "(LQueryDesk$Question;II)Z"⟩, 9) := ⟨⟨by decide +kernel, by decide +kernel⟩, List.mem_of_getElem? (i := 239) (by decide +kernel), List.mem_of_getElem? (i := 452) (by decide +kernel), List.mem_of_getElem? (i := 453) (by decide +kernel)⟩
theorem lw_p9 : lw_okq (⟨"QueryDesk$Work", "openSource", "(LQueryDesk$Question;LQueryDesk$Plan;I)V"⟩, 9) := ⟨⟨by decide +kernel, by decide +kernel⟩, List.mem_of_getElem? (i := 239) (by decide +kernel), List.mem_of_getElem? (i := 456) (by decide +kernel), List.mem_of_getElem? (i := 457) (by decide +kernel)⟩
theorem lw_p10 : lw_okq (⟨"QueryDesk$Work", "openByCondition", "(LQueryDesk$Table;LQueryDesk$Condition;ZI)V"⟩, 9) := ⟨⟨by decide +kernel, by decide +kernel⟩, List.mem_of_getElem? (i := 239) (by decide +kernel), List.mem_of_getElem? (i := 460) (by decide +kernel), List.mem_of_getElem? (i := 461) (by decide +kernel)⟩
theorem lw_p11 : lw_okq (⟨"QueryDesk$Work", "addPlace", "(I)V"⟩, 9) := ⟨⟨by decide +kernel, by decide +kernel⟩, List.mem_of_getElem? (i := 239) (by decide +kernel), List.mem_of_getElem? (i := 464) (by decide +kernel), List.mem_of_getElem? (i := 465) (by decide +kernel)⟩
theorem lw_p12 : lw_okq (⟨"QueryDesk$Work", "sinkLastPlace", "(LQueryDesk$Table;I)V"⟩, 9) := ⟨⟨by decide +kernel, by decide +kernel⟩, List.mem_of_getElem? (i := 239) (by decide +kernel), List.mem_of_getElem? (i := 468) (by decide +kernel), List.mem_of_getElem? (i := 469) (by decide +kernel)⟩
theorem lw_p13 : lw_okq (⟨"QueryDesk$Work", "openByJoin", "(LQueryDesk$Question;LQueryDesk$Join;II)V"⟩, 9) := ⟨⟨by decide +kernel, by decide +kernel⟩, List.mem_of_getElem? (i := 239) (by decide +kernel), List.mem_of_getElem? (i := 472) (by decide +kernel), List.mem_of_getElem? (i := 473) (by decide +kernel)⟩
theorem lw_p14 : lw_okq (⟨"QueryDesk$Work", "leaveFinishedSources", "()V"⟩, 9) := ⟨⟨by decide +kernel, by decide +kernel⟩, List.mem_of_getElem? (i := 239) (by decide +kernel), List.mem_of_getElem? (i := 481) (by decide +kernel), List.mem_of_getElem? (i := 482) (by decide +kernel)⟩
theorem lw_p15 : lw_okq (⟨"QueryDesk", "givenAnswers", "()I"⟩, 5) := ⟨⟨by decide +kernel, by decide +kernel⟩, List.mem_of_getElem? (i := 19) (by decide +kernel), List.mem_of_getElem? (i := 489) (by decide +kernel), List.mem_of_getElem? (i := 490) (by decide +kernel)⟩
def lw_privs_1 : List (MethodName × Nat) := [(⟨"QueryDesk", "beginQuestion", "()V"⟩, 5), (⟨"QueryDesk", "hasColumn", "(II)Z"⟩, 5), (⟨"QueryDesk", "hasTable", "(I)Z"⟩, 5), (⟨"QueryDesk", "endQuestion", "()V"⟩, 5), (⟨"QueryDesk$Work", "passes", "(LQueryDesk$Question;LQueryDesk$Plan;)Z"⟩, 9), (⟨"QueryDesk$Work", "readValue", "(LQueryDesk$Question;II)I"⟩, 9), (⟨"QueryDesk$Plan", "isBefore", "(II)Z"⟩, 8), (⟨"QueryDesk$Work", "keepAnswer", "(LQueryDesk$Question;)V"⟩, 9), (⟨"QueryDesk$Work", "goesBefore", "(LQueryDesk$Question;II)Z"⟩, 9), (⟨"QueryDesk$Work", "openSource", "(LQueryDesk$Question;LQueryDesk$Plan;I)V"⟩, 9), (⟨"QueryDesk$Work", "openByCondition", "(LQueryDesk$Table;LQueryDesk$Condition;ZI)V"⟩, 9), (⟨"QueryDesk$Work", "addPlace", "(I)V"⟩, 9), (⟨"QueryDesk$Work", "sinkLastPlace", "(LQueryDesk$Table;I)V"⟩, 9), (⟨"QueryDesk$Work", "openByJoin", "(LQueryDesk$Question;LQueryDesk$Join;II)V"⟩, 9), (⟨"QueryDesk$Work", "leaveFinishedSources", "()V"⟩, 9), (⟨"QueryDesk", "givenAnswers", "()I"⟩, 5)]
theorem lw_r1 : ∀ q ∈ lw_privs_1, lw_okq q := List.forall_mem_cons.mpr ⟨lw_p0, List.forall_mem_cons.mpr ⟨lw_p1, List.forall_mem_cons.mpr ⟨lw_p2, List.forall_mem_cons.mpr ⟨lw_p3, List.forall_mem_cons.mpr ⟨lw_p4, List.forall_mem_cons.mpr ⟨lw_p5, List.forall_mem_cons.mpr ⟨lw_p6, List.forall_mem_cons.mpr ⟨lw_p7, List.forall_mem_cons.mpr ⟨lw_p8, List.forall_mem_cons.mpr ⟨lw_p9, List.forall_mem_cons.mpr ⟨lw_p10, List.forall_mem_cons.mpr ⟨lw_p11, List.forall_mem_cons.mpr ⟨lw_p12, List.forall_mem_cons.mpr ⟨lw_p13, List.forall_mem_cons.mpr ⟨lw_p14, List.forall_mem_cons.mpr ⟨lw_p15, fun _ h => absurd h List.not_mem_nil⟩⟩⟩⟩⟩⟩⟩⟩⟩⟩⟩⟩⟩⟩⟩⟩
theorem lw_p16 : lw_okq (⟨"java/lang/Throwable", "fillInStackTrace", "(I)Ljava/lang/Throwable;"⟩, 6) := ⟨⟨by decide +kernel, by decide +kernel⟩, List.mem_of_getElem? (i := 543) (by decide +kernel), List.mem_of_getElem? (i := 541) (by decide +kernel), List.mem_of_getElem? (i := 542) (by decide +kernel)⟩
theorem lw_p17 : lw_okq (⟨"QueryDesk", "hasRow", "(II)Z"⟩, 5) := ⟨⟨by decide +kernel, by decide +kernel⟩, List.mem_of_getElem? (i := 19) (by decide +kernel), List.mem_of_getElem? (i := 604) (by decide +kernel), List.mem_of_getElem? (i := 605) (by decide +kernel)⟩
theorem lw_p18 : lw_okq (⟨"QueryDesk$Plan", "measureShares", "(LQueryDesk$Question;)V"⟩, 8) := ⟨⟨by decide +kernel, by decide +kernel⟩, List.mem_of_getElem? (i := 199) (by decide +kernel), List.mem_of_getElem? (i := 652) (by decide +kernel), List.mem_of_getElem? (i := 653) (by decide +kernel)⟩
theorem lw_p19 : lw_okq (⟨"QueryDesk$Table", "standsBefore", "(II)Z"⟩, 6) := ⟨⟨by decide +kernel, by decide +kernel⟩, List.mem_of_getElem? (i := 28) (by decide +kernel), List.mem_of_getElem? (i := 666) (by decide +kernel), List.mem_of_getElem? (i := 667) (by decide +kernel)⟩
theorem lw_p20 : lw_okq (⟨"QueryDesk$Plan", "tryOrder", "(LQueryDesk$Question;[II)F"⟩, 8) := ⟨⟨by decide +kernel, by decide +kernel⟩, List.mem_of_getElem? (i := 199) (by decide +kernel), List.mem_of_getElem? (i := 695) (by decide +kernel), List.mem_of_getElem? (i := 696) (by decide +kernel)⟩
theorem lw_p21 : lw_okq (⟨"QueryDesk$Plan", "takeBestWay", "(LQueryDesk$Question;I)V"⟩, 8) := ⟨⟨by decide +kernel, by decide +kernel⟩, List.mem_of_getElem? (i := 199) (by decide +kernel), List.mem_of_getElem? (i := 699) (by decide +kernel), List.mem_of_getElem? (i := 700) (by decide +kernel)⟩
theorem lw_p22 : lw_okq (⟨"QueryDesk$Plan", "takeWay", "(IIII)V"⟩, 8) := ⟨⟨by decide +kernel, by decide +kernel⟩, List.mem_of_getElem? (i := 199) (by decide +kernel), List.mem_of_getElem? (i := 703) (by decide +kernel), List.mem_of_getElem? (i := 704) (by decide +kernel)⟩
theorem lw_p23 : lw_okq (⟨"QueryDesk$Plan", "considerCondition", "(LQueryDesk$Question;II)V"⟩, 8) := ⟨⟨by decide +kernel, by decide +kernel⟩, List.mem_of_getElem? (i := 199) (by decide +kernel), List.mem_of_getElem? (i := 707) (by decide +kernel), List.mem_of_getElem? (i := 708) (by decide +kernel)⟩
theorem lw_p24 : lw_okq (⟨"QueryDesk$Plan", "considerWay", "(FIIII)V"⟩, 8) := ⟨⟨by decide +kernel, by decide +kernel⟩, List.mem_of_getElem? (i := 199) (by decide +kernel), List.mem_of_getElem? (i := 712) (by decide +kernel), List.mem_of_getElem? (i := 713) (by decide +kernel)⟩
theorem lw_p25 : lw_okq (⟨"QueryDesk$Plan", "considerJoin", "(LQueryDesk$Question;II)V"⟩, 8) := ⟨⟨by decide +kernel, by decide +kernel⟩, List.mem_of_getElem? (i := 199) (by decide +kernel), List.mem_of_getElem? (i := 717) (by decide +kernel), List.mem_of_getElem? (i := 718) (by decide +kernel)⟩
theorem lw_p26 : lw_okq (⟨"QueryDesk$Plan", "joinShare", "(LQueryDesk$Join;II)F"⟩, 8) := ⟨⟨by decide +kernel, by decide +kernel⟩, List.mem_of_getElem? (i := 199) (by decide +kernel), List.mem_of_getElem? (i := 722) (by decide +kernel), List.mem_of_getElem? (i := 723) (by decide +kernel)⟩
theorem lw_p27 : lw_okq (⟨"QueryDesk$Plan", "countBehind", "(LQueryDesk$Question;IF)F"⟩, 8) := ⟨⟨by decide +kernel, by decide +kernel⟩, List.mem_of_getElem? (i := 199) (by decide +kernel), List.mem_of_getElem? (i := 726) (by decide +kernel), List.mem_of_getElem? (i := 727) (by decide +kernel)⟩
theorem lw_p28 : lw_okq (⟨"QueryDeskModel", "empty", "()V"⟩, 30) := ⟨⟨by decide +kernel, by decide +kernel⟩, List.mem_of_getElem? (i := 775) (by decide +kernel), List.mem_of_getElem? (i := 781) (by decide +kernel), List.mem_of_getElem? (i := 782) (by decide +kernel)⟩
theorem lw_p29 : lw_okq (⟨"QueryDeskModel", "isTable", "(I)Z"⟩, 30) := ⟨⟨by decide +kernel, by decide +kernel⟩, List.mem_of_getElem? (i := 775) (by decide +kernel), List.mem_of_getElem? (i := 891) (by decide +kernel), List.mem_of_getElem? (i := 892) (by decide +kernel)⟩
theorem lw_p30 : lw_okq (⟨"QueryDeskModel", "rowsOf", "(I)I"⟩, 30) := ⟨⟨by decide +kernel, by decide +kernel⟩, List.mem_of_getElem? (i := 775) (by decide +kernel), List.mem_of_getElem? (i := 895) (by decide +kernel), List.mem_of_getElem? (i := 896) (by decide +kernel)⟩
theorem lw_p31 : lw_okq (⟨"QueryDeskModel", "changed", "()V"⟩, 30) := ⟨⟨by decide +kernel, by decide +kernel⟩, List.mem_of_getElem? (i := 775) (by decide +kernel), List.mem_of_getElem? (i := 899) (by decide +kernel), List.mem_of_getElem? (i := 900) (by decide +kernel)⟩
def lw_privs_2 : List (MethodName × Nat) := [(⟨"java/lang/Throwable", "fillInStackTrace", "(I)Ljava/lang/Throwable;"⟩, 6), (⟨"QueryDesk", "hasRow", "(II)Z"⟩, 5), (⟨"QueryDesk$Plan", "measureShares", "(LQueryDesk$Question;)V"⟩, 8), (⟨"QueryDesk$Table", "standsBefore", "(II)Z"⟩, 6), (⟨"QueryDesk$Plan", "tryOrder", "(LQueryDesk$Question;[II)F"⟩, 8), (⟨"QueryDesk$Plan", "takeBestWay", "(LQueryDesk$Question;I)V"⟩, 8), (⟨"QueryDesk$Plan", "takeWay", "(IIII)V"⟩, 8), (⟨"QueryDesk$Plan", "considerCondition", "(LQueryDesk$Question;II)V"⟩, 8), (⟨"QueryDesk$Plan", "considerWay", "(FIIII)V"⟩, 8), (⟨"QueryDesk$Plan", "considerJoin", "(LQueryDesk$Question;II)V"⟩, 8), (⟨"QueryDesk$Plan", "joinShare", "(LQueryDesk$Join;II)F"⟩, 8), (⟨"QueryDesk$Plan", "countBehind", "(LQueryDesk$Question;IF)F"⟩, 8), (⟨"QueryDeskModel", "empty", "()V"⟩, 30), (⟨"QueryDeskModel", "isTable", "(I)Z"⟩, 30), (⟨"QueryDeskModel", "rowsOf", "(I)I"⟩, 30), (⟨"QueryDeskModel", "changed", "()V"⟩, 30)]
theorem lw_r2 : ∀ q ∈ lw_privs_2, lw_okq q := List.forall_mem_cons.mpr ⟨lw_p16, List.forall_mem_cons.mpr ⟨lw_p17, List.forall_mem_cons.mpr ⟨lw_p18, List.forall_mem_cons.mpr ⟨lw_p19, List.forall_mem_cons.mpr ⟨lw_p20, List.forall_mem_cons.mpr ⟨lw_p21, List.forall_mem_cons.mpr ⟨lw_p22, List.forall_mem_cons.mpr ⟨lw_p23, List.forall_mem_cons.mpr ⟨lw_p24, List.forall_mem_cons.mpr ⟨lw_p25, List.forall_mem_cons.mpr ⟨lw_p26, List.forall_mem_cons.mpr ⟨lw_p27, List.forall_mem_cons.mpr ⟨lw_p28, List.forall_mem_cons.mpr ⟨lw_p29, List.forall_mem_cons.mpr ⟨lw_p30, List.forall_mem_cons.mpr ⟨lw_p31, fun _ h => absurd h List.not_mem_nil⟩⟩⟩⟩⟩⟩⟩⟩⟩⟩⟩⟩⟩⟩⟩⟩
theorem lw_p32 : lw_okq (⟨"QueryDeskModel", "isRow", "(II)Z"⟩, 30) := ⟨⟨by decide +kernel, by decide +kernel⟩, List.mem_of_getElem? (i := 775) (by decide +kernel), List.mem_of_getElem? (i := 907) (by decide +kernel), List.mem_of_getElem? (i := 908) (by decide +kernel)⟩
theorem lw_p33 : lw_okq (⟨"QueryDeskModel", "isColumn", "(II)Z"⟩, 30) := ⟨⟨by decide +kernel, by decide +kernel⟩, List.mem_of_getElem? (i := 775) (by decide +kernel), List.mem_of_getElem? (i := 915) (by decide +kernel), List.mem_of_getElem? (i := 916) (by decide +kernel)⟩
theorem lw_p34 : lw_okq (⟨"QueryDeskModel", "get", "(III)I"⟩, 30) := ⟨⟨by decide +kernel, by decide +kernel⟩, List.mem_of_getElem? (i := 775) (by decide +kernel), List.mem_of_getElem? (i := 923) (by decide +kernel), List.mem_of_getElem? (i := 924) (by decide +kernel)⟩
theorem lw_p35 : lw_okq (⟨"QueryDeskModel", "setIndex", "(IIIZ)Z"⟩, 30) := ⟨⟨by decide +kernel, by decide +kernel⟩, List.mem_of_getElem? (i := 775) (by decide +kernel), List.mem_of_getElem? (i := 931) (by decide +kernel), List.mem_of_getElem? (i := 932) (by decide +kernel)⟩
theorem lw_p36 : lw_okq (⟨"QueryDeskModel", "has", "(II)Z"⟩, 30) := ⟨⟨by decide +kernel, by decide +kernel⟩, List.mem_of_getElem? (i := 775) (by decide +kernel), List.mem_of_getElem? (i := 951) (by decide +kernel), List.mem_of_getElem? (i := 952) (by decide +kernel)⟩
theorem lw_p37 : lw_okq (⟨"QueryDeskModel", "cost", "(I)F"⟩, 30) := ⟨⟨by decide +kernel, by decide +kernel⟩, List.mem_of_getElem? (i := 775) (by decide +kernel), List.mem_of_getElem? (i := 975) (by decide +kernel), List.mem_of_getElem? (i := 976) (by decide +kernel)⟩
theorem lw_p38 : lw_okq (⟨"QueryDeskModel", "fewest", "(II)F"⟩, 30) := ⟨⟨by decide +kernel, by decide +kernel⟩, List.mem_of_getElem? (i := 775) (by decide +kernel), List.mem_of_getElem? (i := 982) (by decide +kernel), List.mem_of_getElem? (i := 983) (by decide +kernel)⟩
theorem lw_p39 : lw_okq (⟨"QueryDeskModel", "share", "(IIII)F"⟩, 30) := ⟨⟨by decide +kernel, by decide +kernel⟩, List.mem_of_getElem? (i := 775) (by decide +kernel), List.mem_of_getElem? (i := 986) (by decide +kernel), List.mem_of_getElem? (i := 987) (by decide +kernel)⟩
theorem lw_p40 : lw_okq (⟨"QueryDeskModel", "bettered", "(FFIII)F"⟩, 30) := ⟨⟨by decide +kernel, by decide +kernel⟩, List.mem_of_getElem? (i := 775) (by decide +kernel), List.mem_of_getElem? (i := 990) (by decide +kernel), List.mem_of_getElem? (i := 991) (by decide +kernel)⟩
theorem lw_p41 : lw_okq (⟨"QueryDeskModel", "sideOf", "(III)I"⟩, 30) := ⟨⟨by decide +kernel, by decide +kernel⟩, List.mem_of_getElem? (i := 775) (by decide +kernel), List.mem_of_getElem? (i := 994) (by decide +kernel), List.mem_of_getElem? (i := 995) (by decide +kernel)⟩
theorem lw_p42 : lw_okq (⟨"QueryDeskModel", "lessened", "(FII)F"⟩, 30) := ⟨⟨by decide +kernel, by decide +kernel⟩, List.mem_of_getElem? (i := 775) (by decide +kernel), List.mem_of_getElem? (i := 998) (by decide +kernel), List.mem_of_getElem? (i := 999) (by decide +kernel)⟩
theorem lw_p43 : lw_okq (⟨"QueryDeskModel", "following", "(I)I"⟩, 30) := ⟨⟨by decide +kernel, by decide +kernel⟩, List.mem_of_getElem? (i := 775) (by decide +kernel), List.mem_of_getElem? (i := 1010) (by decide +kernel), List.mem_of_getElem? (i := 1011) (by decide +kernel)⟩
theorem lw_p44 : lw_okq (⟨"QueryDeskModel", "wanted", "(II)I"⟩, 30) := ⟨⟨by decide +kernel, by decide +kernel⟩, List.mem_of_getElem? (i := 775) (by decide +kernel), List.mem_of_getElem? (i := 1014) (by decide +kernel), List.mem_of_getElem? (i := 1015) (by decide +kernel)⟩
theorem lw_p45 : lw_okq (⟨"QueryDeskModel", "rowAt", "(I)I"⟩, 30) := ⟨⟨by decide +kernel, by decide +kernel⟩, List.mem_of_getElem? (i := 775) (by decide +kernel), List.mem_of_getElem? (i := 1018) (by decide +kernel), List.mem_of_getElem? (i := 1019) (by decide +kernel)⟩
theorem lw_p46 : lw_okq (⟨"QueryDeskModel", "before", "(IIIII)Z"⟩, 30) := ⟨⟨by decide +kernel, by decide +kernel⟩, List.mem_of_getElem? (i := 775) (by decide +kernel), List.mem_of_getElem? (i := 1025) (by decide +kernel), List.mem_of_getElem? (i := 1026) (by decide +kernel)⟩
theorem lw_p47 : lw_okq (⟨"QueryDeskModel", "finish", "()V"⟩, 30) := ⟨⟨by decide +kernel, by decide +kernel⟩, List.mem_of_getElem? (i := 775) (by decide +kernel), List.mem_of_getElem? (i := 1029) (by decide +kernel), List.mem_of_getElem? (i := 1030) (by decide +kernel)⟩
def lw_privs_3 : List (MethodName × Nat) := [(⟨"QueryDeskModel", "isRow", "(II)Z"⟩, 30), (⟨"QueryDeskModel", "isColumn", "(II)Z"⟩, 30), (⟨"QueryDeskModel", "get", "(III)I"⟩, 30), (⟨"QueryDeskModel", "setIndex", "(IIIZ)Z"⟩, 30), (⟨"QueryDeskModel", "has", "(II)Z"⟩, 30), (⟨"QueryDeskModel", "cost", "(I)F"⟩, 30), (⟨"QueryDeskModel", "fewest", "(II)F"⟩, 30), (⟨"QueryDeskModel", "share", "(IIII)F"⟩, 30), (⟨"QueryDeskModel", "bettered", "(FFIII)F"⟩, 30), (⟨"QueryDeskModel", "sideOf", "(III)I"⟩, 30), (⟨"QueryDeskModel", "lessened", "(FII)F"⟩, 30), (⟨"QueryDeskModel", "following", "(I)I"⟩, 30), (⟨"QueryDeskModel", "wanted", "(II)I"⟩, 30), (⟨"QueryDeskModel", "rowAt", "(I)I"⟩, 30), (⟨"QueryDeskModel", "before", "(IIIII)Z"⟩, 30), (⟨"QueryDeskModel", "finish", "()V"⟩, 30)]
theorem lw_r3 : ∀ q ∈ lw_privs_3, lw_okq q := List.forall_mem_cons.mpr ⟨lw_p32, List.forall_mem_cons.mpr ⟨lw_p33, List.forall_mem_cons.mpr ⟨lw_p34, List.forall_mem_cons.mpr ⟨lw_p35, List.forall_mem_cons.mpr ⟨lw_p36, List.forall_mem_cons.mpr ⟨lw_p37, List.forall_mem_cons.mpr ⟨lw_p38, List.forall_mem_cons.mpr ⟨lw_p39, List.forall_mem_cons.mpr ⟨lw_p40, List.forall_mem_cons.mpr ⟨lw_p41, List.forall_mem_cons.mpr ⟨lw_p42, List.forall_mem_cons.mpr ⟨lw_p43, List.forall_mem_cons.mpr ⟨lw_p44, List.forall_mem_cons.mpr ⟨lw_p45, List.forall_mem_cons.mpr ⟨lw_p46, List.forall_mem_cons.mpr ⟨lw_p47, fun _ h => absurd h List.not_mem_nil⟩⟩⟩⟩⟩⟩⟩⟩⟩⟩⟩⟩⟩⟩⟩⟩
theorem lw_p48 : lw_okq (⟨"QueryDeskModel", "swapped", "(I)Z"⟩, 30) := ⟨⟨by decide +kernel, by decide +kernel⟩, List.mem_of_getElem? (i := 775) (by decide +kernel), List.mem_of_getElem? (i := 1033) (by decide +kernel), List.mem_of_getElem? (i := 1034) (by decide +kernel)⟩
theorem lw_p49 : lw_okq (⟨"QueryDeskModel", "step", "()V"⟩, 30) := ⟨⟨by decide +kernel, by decide +kernel⟩, List.mem_of_getElem? (i := 775) (by decide +kernel), List.mem_of_getElem? (i := 1037) (by decide +kernel), List.mem_of_getElem? (i := 1038) (by decide +kernel)⟩
theorem lw_p50 : lw_okq (⟨"QueryDeskModel", "passes", "(I)Z"⟩, 30) := ⟨⟨by decide +kernel, by decide +kernel⟩, List.mem_of_getElem? (i := 775) (by decide +kernel), List.mem_of_getElem? (i := 1041) (by decide +kernel), List.mem_of_getElem? (i := 1042) (by decide +kernel)⟩
theorem lw_p51 : lw_okq (⟨"QueryDeskModel", "give", "()V"⟩, 30) := ⟨⟨by decide +kernel, by decide +kernel⟩, List.mem_of_getElem? (i := 775) (by decide +kernel), List.mem_of_getElem? (i := 1045) (by decide +kernel), List.mem_of_getElem? (i := 1046) (by decide +kernel)⟩
def lw_privs_4 : List (MethodName × Nat) := [(⟨"QueryDeskModel", "swapped", "(I)Z"⟩, 30), (⟨"QueryDeskModel", "step", "()V"⟩, 30), (⟨"QueryDeskModel", "passes", "(I)Z"⟩, 30), (⟨"QueryDeskModel", "give", "()V"⟩, 30)]
theorem lw_r4 : ∀ q ∈ lw_privs_4, lw_okq q := List.forall_mem_cons.mpr ⟨lw_p48, List.forall_mem_cons.mpr ⟨lw_p49, List.forall_mem_cons.mpr ⟨lw_p50, List.forall_mem_cons.mpr ⟨lw_p51, fun _ h => absurd h List.not_mem_nil⟩⟩⟩⟩
def lw_privs : List (MethodName × Nat) := lw_privs_1 ++ (lw_privs_2 ++ (lw_privs_3 ++ (lw_privs_4)))
def lw_tbl : List Cond := k2_sels lw_privs ++ tables_1
theorem lw_privs_ok : ∀ q ∈ lw_privs, lw_okq q := by
  show ∀ q ∈ lw_privs_1 ++ (lw_privs_2 ++ (lw_privs_3 ++ (lw_privs_4))), lw_okq q
  exact List.forall_mem_append.mpr ⟨lw_r1, List.forall_mem_append.mpr ⟨lw_r2, List.forall_mem_append.mpr ⟨lw_r3, lw_r4⟩⟩⟩
def RX0 : String := "QueryDesk$Condition"
def TX0 : u_T := fun k => match k with
  | 0 => ("QueryDesk$Condition", "source", "I", false)
  | 1 => ("QueryDesk$Condition", "column", "I", false)
  | 2 => ("QueryDesk$Condition", "operator", "I", false)
  | _ => ("QueryDesk$Condition", "number", "I", false)
def tyX0 : Nat → FieldType := fun k => match k with
  | 0 => .int
  | 1 => .int
  | 2 => .int
  | _ => .int
abbrev wsX00 : List Cond := u_ws RX0 TX0 4
theorem nmX0 : ∀ a, a < 4 → ∀ b, b < 4 → a ≠ b → (TX0 a).2.1 ≠ (TX0 b).2.1 := by decide +kernel
theorem tyX0_ok : ∀ k, k < 4 → parseFieldDescriptor (TX0 k).2.2.1 = some (tyX0 k) := by decide +kernel
abbrev cX0_init : ByteArray := prog_2_method_1_code
def yX0_init : MethodName := ⟨RX0, "<init>", "()V"⟩
abbrev cX0_holds : ByteArray := prog_2_method_2_code
def yX0_holds : MethodName := ⟨RX0, "holds", "(I)Z"⟩
def RX1 : String := "QueryDesk$Join"
def TX1 : u_T := fun k => match k with
  | 0 => ("QueryDesk$Join", "first", "I", false)
  | 1 => ("QueryDesk$Join", "firstColumn", "I", false)
  | 2 => ("QueryDesk$Join", "second", "I", false)
  | _ => ("QueryDesk$Join", "secondColumn", "I", false)
def tyX1 : Nat → FieldType := fun k => match k with
  | 0 => .int
  | 1 => .int
  | 2 => .int
  | _ => .int
abbrev wsX10 : List Cond := u_ws RX1 TX1 4
theorem nmX1 : ∀ a, a < 4 → ∀ b, b < 4 → a ≠ b → (TX1 a).2.1 ≠ (TX1 b).2.1 := by decide +kernel
theorem tyX1_ok : ∀ k, k < 4 → parseFieldDescriptor (TX1 k).2.2.1 = some (tyX1 k) := by decide +kernel
abbrev cX1_init : ByteArray := prog_3_method_1_code
def yX1_init : MethodName := ⟨RX1, "<init>", "()V"⟩
abbrev cX1_ties : ByteArray := prog_3_method_2_code
def yX1_ties : MethodName := ⟨RX1, "ties", "(I)Z"⟩
abbrev cX1_partnerOf : ByteArray := prog_3_method_3_code
def yX1_partnerOf : MethodName := ⟨RX1, "partnerOf", "(I)I"⟩
abbrev cX1_columnOf : ByteArray := prog_3_method_4_code
def yX1_columnOf : MethodName := ⟨RX1, "columnOf", "(I)I"⟩
def RX2 : String := "QueryDesk$Output"
def TX2 : u_T := fun k => match k with
  | 0 => ("QueryDesk$Output", "source", "I", false)
  | _ => ("QueryDesk$Output", "column", "I", false)
def tyX2 : Nat → FieldType := fun k => match k with
  | 0 => .int
  | _ => .int
abbrev wsX20 : List Cond := u_ws RX2 TX2 2
theorem nmX2 : ∀ a, a < 2 → ∀ b, b < 2 → a ≠ b → (TX2 a).2.1 ≠ (TX2 b).2.1 := by decide +kernel
theorem tyX2_ok : ∀ k, k < 2 → parseFieldDescriptor (TX2 k).2.2.1 = some (tyX2 k) := by decide +kernel
abbrev cX2_init : ByteArray := prog_4_method_1_code
def yX2_init : MethodName := ⟨RX2, "<init>", "()V"⟩
def RX3 : String := "QueryDesk$Plan"
def TX3 : u_T := fun k => match k with
  | 0 => ("QueryDesk$Plan", "conditionShares", "[F", true)
  | 1 => ("QueryDesk$Plan", "firstShares", "[F", true)
  | 2 => ("QueryDesk$Plan", "secondShares", "[F", true)
  | 3 => ("QueryDesk$Plan", "order", "[I", true)
  | 4 => ("QueryDesk$Plan", "ways", "[I", true)
  | 5 => ("QueryDesk$Plan", "wayConditions", "[I", true)
  | 6 => ("QueryDesk$Plan", "wayJoins", "[I", true)
  | _ => ("QueryDesk$Plan", "fewestRows", "F", false)
def tyX3 : Nat → FieldType := fun k => match k with
  | 0 => .array .float
  | 1 => .array .float
  | 2 => .array .float
  | 3 => .array .int
  | 4 => .array .int
  | 5 => .array .int
  | 6 => .array .int
  | _ => .float
abbrev wsX30 : List Cond := u_ws RX3 TX3 8
theorem nmX3 : ∀ a, a < 8 → ∀ b, b < 8 → a ≠ b → (TX3 a).2.1 ≠ (TX3 b).2.1 := by decide +kernel
theorem tyX3_ok : ∀ k, k < 8 → parseFieldDescriptor (TX3 k).2.2.1 = some (tyX3 k) := by decide +kernel
abbrev cX3_init : ByteArray := prog_5_method_1_code
def yX3_init : MethodName := ⟨RX3, "<init>", "()V"⟩
abbrev cX3_choose : ByteArray := prog_5_method_2_code
def yX3_choose : MethodName := ⟨RX3, "choose", "(LQueryDesk$Question;)F"⟩
abbrev cX3_tiesBack : ByteArray := prog_5_method_3_code
def yX3_tiesBack : MethodName := ⟨RX3, "tiesBack", "(LQueryDesk$Join;I)Z"⟩
abbrev cX3_isBefore : ByteArray := prog_5_method_4_code
def yX3_isBefore : MethodName := ⟨RX3, "isBefore", "(II)Z"⟩
abbrev cX3_ordersOf : ByteArray := prog_5_method_5_code
def yX3_ordersOf : MethodName := ⟨RX3, "ordersOf", "(I)[I"⟩
abbrev cX3_orderCountOf : ByteArray := prog_5_method_6_code
def yX3_orderCountOf : MethodName := ⟨RX3, "orderCountOf", "(I)I"⟩
abbrev cX3_measureShares : ByteArray := prog_5_method_7_code
def yX3_measureShares : MethodName := ⟨RX3, "measureShares", "(LQueryDesk$Question;)V"⟩
abbrev cX3_shareOf : ByteArray := prog_5_method_8_code
def yX3_shareOf : MethodName := ⟨RX3, "shareOf", "(LQueryDesk$Condition;LQueryDesk$Table;)F"⟩
abbrev cX3_shareOfOneValue : ByteArray := prog_5_method_9_code
def yX3_shareOfOneValue : MethodName := ⟨RX3, "shareOfOneValue", "(LQueryDesk$Table;I)F"⟩
abbrev cX3_shareOfSpan : ByteArray := prog_5_method_10_code
def yX3_shareOfSpan : MethodName := ⟨RX3, "shareOfSpan", "(JLQueryDesk$Table;I)F"⟩
abbrev cX3_joinShare : ByteArray := prog_5_method_11_code
def yX3_joinShare : MethodName := ⟨RX3, "joinShare", "(LQueryDesk$Join;II)F"⟩
abbrev cX3_tryOrder : ByteArray := prog_5_method_12_code
def yX3_tryOrder : MethodName := ⟨RX3, "tryOrder", "(LQueryDesk$Question;[II)F"⟩
abbrev cX3_countBehind : ByteArray := prog_5_method_13_code
def yX3_countBehind : MethodName := ⟨RX3, "countBehind", "(LQueryDesk$Question;IF)F"⟩
abbrev cX3_takeBestWay : ByteArray := prog_5_method_14_code
def yX3_takeBestWay : MethodName := ⟨RX3, "takeBestWay", "(LQueryDesk$Question;I)V"⟩
abbrev cX3_considerCondition : ByteArray := prog_5_method_15_code
def yX3_considerCondition : MethodName := ⟨RX3, "considerCondition", "(LQueryDesk$Question;II)V"⟩
abbrev cX3_considerJoin : ByteArray := prog_5_method_16_code
def yX3_considerJoin : MethodName := ⟨RX3, "considerJoin", "(LQueryDesk$Question;II)V"⟩
abbrev cX3_considerWay : ByteArray := prog_5_method_17_code
def yX3_considerWay : MethodName := ⟨RX3, "considerWay", "(FIIII)V"⟩
abbrev cX3_takeWay : ByteArray := prog_5_method_18_code
def yX3_takeWay : MethodName := ⟨RX3, "takeWay", "(IIII)V"⟩
def RX4 : String := "QueryDesk$Question"
def TX4 : u_T := fun k => match k with
  | 0 => ("QueryDesk$Question", "tables", "[LQueryDesk$Table;", true)
  | 1 => ("QueryDesk$Question", "conditions", "[LQueryDesk$Condition;", true)
  | 2 => ("QueryDesk$Question", "joins", "[LQueryDesk$Join;", true)
  | 3 => ("QueryDesk$Question", "outputs", "[LQueryDesk$Output;", true)
  | 4 => ("QueryDesk$Question", "sources", "I", false)
  | 5 => ("QueryDesk$Question", "conditionCount", "I", false)
  | 6 => ("QueryDesk$Question", "joinCount", "I", false)
  | 7 => ("QueryDesk$Question", "outputCount", "I", false)
  | 8 => ("QueryDesk$Question", "orderOutput", "I", false)
  | 9 => ("QueryDesk$Question", "falling", "Z", false)
  | _ => ("QueryDesk$Question", "limit", "I", false)
def tyX4 : Nat → FieldType := fun k => match k with
  | 0 => .array (.object "QueryDesk$Table")
  | 1 => .array (.object "QueryDesk$Condition")
  | 2 => .array (.object "QueryDesk$Join")
  | 3 => .array (.object "QueryDesk$Output")
  | 4 => .int
  | 5 => .int
  | 6 => .int
  | 7 => .int
  | 8 => .int
  | 9 => .boolean
  | _ => .int
abbrev wsX40 : List Cond := u_ws RX4 TX4 11
theorem nmX4 : ∀ a, a < 11 → ∀ b, b < 11 → a ≠ b → (TX4 a).2.1 ≠ (TX4 b).2.1 := by decide +kernel
theorem tyX4_ok : ∀ k, k < 11 → parseFieldDescriptor (TX4 k).2.2.1 = some (tyX4 k) := by decide +kernel
abbrev cX4_init : ByteArray := prog_6_method_1_code
def yX4_init : MethodName := ⟨RX4, "<init>", "()V"⟩
abbrev cX4_clear : ByteArray := prog_6_method_2_code
def yX4_clear : MethodName := ⟨RX4, "clear", "()V"⟩
abbrev cX4_hasColumn : ByteArray := prog_6_method_3_code
def yX4_hasColumn : MethodName := ⟨RX4, "hasColumn", "(II)Z"⟩
abbrev cX4_addSource : ByteArray := prog_6_method_4_code
def yX4_addSource : MethodName := ⟨RX4, "addSource", "(LQueryDesk$Table;)I"⟩
abbrev cX4_addCondition : ByteArray := prog_6_method_5_code
def yX4_addCondition : MethodName := ⟨RX4, "addCondition", "(IIII)V"⟩
abbrev cX4_addJoin : ByteArray := prog_6_method_6_code
def yX4_addJoin : MethodName := ⟨RX4, "addJoin", "(IIII)V"⟩
abbrev cX4_addOutput : ByteArray := prog_6_method_7_code
def yX4_addOutput : MethodName := ⟨RX4, "addOutput", "(II)I"⟩
abbrev cX4_isOrdered : ByteArray := prog_6_method_8_code
def yX4_isOrdered : MethodName := ⟨RX4, "isOrdered", "()Z"⟩
abbrev cX4_enoughAnswers : ByteArray := prog_6_method_9_code
def yX4_enoughAnswers : MethodName := ⟨RX4, "enoughAnswers", "()I"⟩
def RX5 : String := "QueryDesk$Table"
def TX5 : u_T := fun k => match k with
  | 0 => ("QueryDesk$Table", "numbers", "[I", true)
  | 1 => ("QueryDesk$Table", "cells", "[I", true)
  | 2 => ("QueryDesk$Table", "indices", "[Z", true)
  | 3 => ("QueryDesk$Table", "columns", "I", false)
  | 4 => ("QueryDesk$Table", "rows", "I", false)
  | _ => ("QueryDesk$Table", "numbersGiven", "I", false)
def tyX5 : Nat → FieldType := fun k => match k with
  | 0 => .array .int
  | 1 => .array .int
  | 2 => .array .boolean
  | 3 => .int
  | 4 => .int
  | _ => .int
abbrev wsX50 : List Cond := u_ws RX5 TX5 6
theorem nmX5 : ∀ a, a < 6 → ∀ b, b < 6 → a ≠ b → (TX5 a).2.1 ≠ (TX5 b).2.1 := by decide +kernel
theorem tyX5_ok : ∀ k, k < 6 → parseFieldDescriptor (TX5 k).2.2.1 = some (tyX5 k) := by decide +kernel
abbrev cX5_init : ByteArray := prog_7_method_1_code
def yX5_init : MethodName := ⟨RX5, "<init>", "()V"⟩
abbrev cX5_makeAnew : ByteArray := prog_7_method_2_code
def yX5_makeAnew : MethodName := ⟨RX5, "makeAnew", "(I)V"⟩
abbrev cX5_isFull : ByteArray := prog_7_method_3_code
def yX5_isFull : MethodName := ⟨RX5, "isFull", "()Z"⟩
abbrev cX5_add : ByteArray := prog_7_method_4_code
def yX5_add : MethodName := ⟨RX5, "add", "(IIII)I"⟩
abbrev cX5_remove : ByteArray := prog_7_method_5_code
def yX5_remove : MethodName := ⟨RX5, "remove", "(I)V"⟩
abbrev cX5_placeOf : ByteArray := prog_7_method_6_code
def yX5_placeOf : MethodName := ⟨RX5, "placeOf", "(I)I"⟩
abbrev cX5_hasColumn : ByteArray := prog_7_method_7_code
def yX5_hasColumn : MethodName := ⟨RX5, "hasColumn", "(I)Z"⟩
abbrev cX5_value : ByteArray := prog_7_method_8_code
def yX5_value : MethodName := ⟨RX5, "value", "(II)I"⟩
abbrev cX5_put : ByteArray := prog_7_method_9_code
def yX5_put : MethodName := ⟨RX5, "put", "(III)V"⟩
abbrev cX5_hasIndex : ByteArray := prog_7_method_10_code
def yX5_hasIndex : MethodName := ⟨RX5, "hasIndex", "(II)Z"⟩
abbrev cX5_setIndex : ByteArray := prog_7_method_11_code
def yX5_setIndex : MethodName := ⟨RX5, "setIndex", "(IIZ)V"⟩
abbrev cX5_differentValues : ByteArray := prog_7_method_12_code
def yX5_differentValues : MethodName := ⟨RX5, "differentValues", "(I)I"⟩
abbrev cX5_standsBefore : ByteArray := prog_7_method_13_code
def yX5_standsBefore : MethodName := ⟨RX5, "standsBefore", "(II)Z"⟩
abbrev cX5_least : ByteArray := prog_7_method_14_code
def yX5_least : MethodName := ⟨RX5, "least", "(I)I"⟩
abbrev cX5_greatest : ByteArray := prog_7_method_15_code
def yX5_greatest : MethodName := ⟨RX5, "greatest", "(I)I"⟩
def RX6 : String := "QueryDesk$Work"
def TX6 : u_T := fun k => match k with
  | 0 => ("QueryDesk$Work", "places", "[I", true)
  | 1 => ("QueryDesk$Work", "placeCounts", "[I", true)
  | 2 => ("QueryDesk$Work", "nextPlaces", "[I", true)
  | 3 => ("QueryDesk$Work", "readPlaces", "[I", true)
  | 4 => ("QueryDesk$Work", "found", "[I", true)
  | 5 => ("QueryDesk$Work", "ranks", "[I", true)
  | 6 => ("QueryDesk$Work", "answers", "I", false)
  | 7 => ("QueryDesk$Work", "steps", "I", false)
  | _ => ("QueryDesk$Work", "depth", "I", false)
def tyX6 : Nat → FieldType := fun k => match k with
  | 0 => .array .int
  | 1 => .array .int
  | 2 => .array .int
  | 3 => .array .int
  | 4 => .array .int
  | 5 => .array .int
  | 6 => .int
  | 7 => .int
  | _ => .int
abbrev wsX60 : List Cond := u_ws RX6 TX6 9
theorem nmX6 : ∀ a, a < 9 → ∀ b, b < 9 → a ≠ b → (TX6 a).2.1 ≠ (TX6 b).2.1 := by decide +kernel
theorem tyX6_ok : ∀ k, k < 9 → parseFieldDescriptor (TX6 k).2.2.1 = some (tyX6 k) := by decide +kernel
abbrev cX6_init : ByteArray := prog_8_method_1_code
def yX6_init : MethodName := ⟨RX6, "<init>", "()V"⟩
abbrev cX6_clear : ByteArray := prog_8_method_2_code
def yX6_clear : MethodName := ⟨RX6, "clear", "()V"⟩
abbrev cX6_begin : ByteArray := prog_8_method_3_code
def yX6_begin : MethodName := ⟨RX6, "begin", "(LQueryDesk$Question;LQueryDesk$Plan;)V"⟩
abbrev cX6_isDone : ByteArray := prog_8_method_4_code
def yX6_isDone : MethodName := ⟨RX6, "isDone", "(LQueryDesk$Question;)Z"⟩
abbrev cX6_makeStep : ByteArray := prog_8_method_5_code
def yX6_makeStep : MethodName := ⟨RX6, "makeStep", "(LQueryDesk$Question;LQueryDesk$Plan;)V"⟩
abbrev cX6_valueOf : ByteArray := prog_8_method_6_code
def yX6_valueOf : MethodName := ⟨RX6, "valueOf", "(II)I"⟩
abbrev cX6_leaveFinishedSources : ByteArray := prog_8_method_7_code
def yX6_leaveFinishedSources : MethodName := ⟨RX6, "leaveFinishedSources", "()V"⟩
abbrev cX6_passes : ByteArray := prog_8_method_8_code
def yX6_passes : MethodName := ⟨RX6, "passes", "(LQueryDesk$Question;LQueryDesk$Plan;)Z"⟩
abbrev cX6_readValue : ByteArray := prog_8_method_9_code
def yX6_readValue : MethodName := ⟨RX6, "readValue", "(LQueryDesk$Question;II)I"⟩
abbrev cX6_openSource : ByteArray := prog_8_method_10_code
def yX6_openSource : MethodName := ⟨RX6, "openSource", "(LQueryDesk$Question;LQueryDesk$Plan;I)V"⟩
abbrev cX6_openByCondition : ByteArray := prog_8_method_11_code
def yX6_openByCondition : MethodName := ⟨RX6, "openByCondition", "(LQueryDesk$Table;LQueryDesk$Condition;ZI)V"⟩
abbrev cX6_openByJoin : ByteArray := prog_8_method_12_code
def yX6_openByJoin : MethodName := ⟨RX6, "openByJoin", "(LQueryDesk$Question;LQueryDesk$Join;II)V"⟩
abbrev cX6_addPlace : ByteArray := prog_8_method_13_code
def yX6_addPlace : MethodName := ⟨RX6, "addPlace", "(I)V"⟩
abbrev cX6_sinkLastPlace : ByteArray := prog_8_method_14_code
def yX6_sinkLastPlace : MethodName := ⟨RX6, "sinkLastPlace", "(LQueryDesk$Table;I)V"⟩
abbrev cX6_keepAnswer : ByteArray := prog_8_method_15_code
def yX6_keepAnswer : MethodName := ⟨RX6, "keepAnswer", "(LQueryDesk$Question;)V"⟩
abbrev cX6_goesBefore : ByteArray := prog_8_method_16_code
def yX6_goesBefore : MethodName := ⟨RX6, "goesBefore", "(LQueryDesk$Question;II)Z"⟩
def RX7 : String := "QueryDesk"
def TX7 : u_T := fun k => match k with
  | 0 => ("QueryDesk", "tables", "[LQueryDesk$Table;", true)
  | 1 => ("QueryDesk", "question", "LQueryDesk$Question;", true)
  | 2 => ("QueryDesk", "chosen", "LQueryDesk$Plan;", true)
  | 3 => ("QueryDesk", "work", "LQueryDesk$Work;", true)
  | _ => ("QueryDesk", "state", "I", false)
def tyX7 : Nat → FieldType := fun k => match k with
  | 0 => .array (.object "QueryDesk$Table")
  | 1 => .object "QueryDesk$Question"
  | 2 => .object "QueryDesk$Plan"
  | 3 => .object "QueryDesk$Work"
  | _ => .int
abbrev wsX70 : List Cond := u_ws RX7 TX7 5
theorem nmX7 : ∀ a, a < 5 → ∀ b, b < 5 → a ≠ b → (TX7 a).2.1 ≠ (TX7 b).2.1 := by decide +kernel
theorem tyX7_ok : ∀ k, k < 5 → parseFieldDescriptor (TX7 k).2.2.1 = some (tyX7 k) := by decide +kernel
abbrev cX7_init : ByteArray := prog_1_method_1_code
def yX7_init : MethodName := ⟨RX7, "<init>", "()V"⟩
abbrev cX7_create : ByteArray := prog_1_method_2_code
def yX7_create : MethodName := ⟨RX7, "create", "(II)Z"⟩
abbrev cX7_insert : ByteArray := prog_1_method_3_code
def yX7_insert : MethodName := ⟨RX7, "insert", "(IIIII)I"⟩
abbrev cX7_delete : ByteArray := prog_1_method_4_code
def yX7_delete : MethodName := ⟨RX7, "delete", "(II)V"⟩
abbrev cX7_update : ByteArray := prog_1_method_5_code
def yX7_update : MethodName := ⟨RX7, "update", "(IIII)V"⟩
abbrev cX7_cell : ByteArray := prog_1_method_6_code
def yX7_cell : MethodName := ⟨RX7, "cell", "(III)I"⟩
abbrev cX7_index : ByteArray := prog_1_method_7_code
def yX7_index : MethodName := ⟨RX7, "index", "(III)Z"⟩
abbrev cX7_drop : ByteArray := prog_1_method_8_code
def yX7_drop : MethodName := ⟨RX7, "drop", "(III)Z"⟩
abbrev cX7_ask : ByteArray := prog_1_method_9_code
def yX7_ask : MethodName := ⟨RX7, "ask", "()V"⟩
abbrev cX7_from : ByteArray := prog_1_method_10_code
def yX7_from : MethodName := ⟨RX7, "from", "(I)I"⟩
abbrev cX7_where : ByteArray := prog_1_method_11_code
def yX7_where : MethodName := ⟨RX7, "where", "(IIII)Z"⟩
abbrev cX7_join : ByteArray := prog_1_method_12_code
def yX7_join : MethodName := ⟨RX7, "join", "(IIII)Z"⟩
abbrev cX7_select : ByteArray := prog_1_method_13_code
def yX7_select : MethodName := ⟨RX7, "select", "(II)I"⟩
abbrev cX7_order : ByteArray := prog_1_method_14_code
def yX7_order : MethodName := ⟨RX7, "order", "(IZ)Z"⟩
abbrev cX7_limit : ByteArray := prog_1_method_15_code
def yX7_limit : MethodName := ⟨RX7, "limit", "(I)Z"⟩
abbrev cX7_plan : ByteArray := prog_1_method_16_code
def yX7_plan : MethodName := ⟨RX7, "plan", "()F"⟩
abbrev cX7_explain : ByteArray := prog_1_method_17_code
def yX7_explain : MethodName := ⟨RX7, "explain", "(II)I"⟩
abbrev cX7_run : ByteArray := prog_1_method_18_code
def yX7_run : MethodName := ⟨RX7, "run", "(I)I"⟩
abbrev cX7_look : ByteArray := prog_1_method_19_code
def yX7_look : MethodName := ⟨RX7, "look", "(I)I"⟩
abbrev cX7_answer : ByteArray := prog_1_method_20_code
def yX7_answer : MethodName := ⟨RX7, "answer", "(II)I"⟩
abbrev cX7_hasTable : ByteArray := prog_1_method_21_code
def yX7_hasTable : MethodName := ⟨RX7, "hasTable", "(I)Z"⟩
abbrev cX7_hasRow : ByteArray := prog_1_method_22_code
def yX7_hasRow : MethodName := ⟨RX7, "hasRow", "(II)Z"⟩
abbrev cX7_hasColumn : ByteArray := prog_1_method_23_code
def yX7_hasColumn : MethodName := ⟨RX7, "hasColumn", "(II)Z"⟩
abbrev cX7_isKind : ByteArray := prog_1_method_24_code
def yX7_isKind : MethodName := ⟨RX7, "isKind", "(I)Z"⟩
abbrev cX7_beginQuestion : ByteArray := prog_1_method_25_code
def yX7_beginQuestion : MethodName := ⟨RX7, "beginQuestion", "()V"⟩
abbrev cX7_endQuestion : ByteArray := prog_1_method_26_code
def yX7_endQuestion : MethodName := ⟨RX7, "endQuestion", "()V"⟩
abbrev cX7_givenAnswers : ByteArray := prog_1_method_27_code
def yX7_givenAnswers : MethodName := ⟨RX7, "givenAnswers", "()I"⟩
def RX8 : String := "QueryDeskModel"
def TX8 : u_T := fun k => match k with
  | 0 => ("QueryDeskModel", "thrown", "I", false)
  | 1 => ("QueryDeskModel", "columns", "[I", true)
  | 2 => ("QueryDeskModel", "made", "[I", true)
  | 3 => ("QueryDeskModel", "there", "[Z", true)
  | 4 => ("QueryDeskModel", "cell", "[I", true)
  | 5 => ("QueryDeskModel", "indexed", "[Z", true)
  | 6 => ("QueryDeskModel", "state", "I", false)
  | 7 => ("QueryDeskModel", "sources", "I", false)
  | 8 => ("QueryDeskModel", "source", "[I", true)
  | 9 => ("QueryDeskModel", "conditions", "I", false)
  | 10 => ("QueryDeskModel", "condition", "[I", true)
  | 11 => ("QueryDeskModel", "joins", "I", false)
  | 12 => ("QueryDeskModel", "join", "[I", true)
  | 13 => ("QueryDeskModel", "outputs", "I", false)
  | 14 => ("QueryDeskModel", "output", "[I", true)
  | 15 => ("QueryDeskModel", "sorts", "I", false)
  | 16 => ("QueryDeskModel", "falling", "Z", false)
  | 17 => ("QueryDeskModel", "most", "I", false)
  | 18 => ("QueryDeskModel", "plan", "[I", true)
  | 19 => ("QueryDeskModel", "way", "[I", true)
  | 20 => ("QueryDeskModel", "byCondition", "[I", true)
  | 21 => ("QueryDeskModel", "byJoin", "[I", true)
  | 22 => ("QueryDeskModel", "newWay", "I", false)
  | 23 => ("QueryDeskModel", "newCondition", "I", false)
  | 24 => ("QueryDeskModel", "newJoin", "I", false)
  | 25 => ("QueryDeskModel", "at", "[I", true)
  | 26 => ("QueryDeskModel", "deep", "I", false)
  | 27 => ("QueryDeskModel", "steps", "I", false)
  | 28 => ("QueryDeskModel", "found", "I", false)
  | _ => ("QueryDeskModel", "answers", "[I", true)
def tyX8 : Nat → FieldType := fun k => match k with
  | 0 => .int
  | 1 => .array .int
  | 2 => .array .int
  | 3 => .array .boolean
  | 4 => .array .int
  | 5 => .array .boolean
  | 6 => .int
  | 7 => .int
  | 8 => .array .int
  | 9 => .int
  | 10 => .array .int
  | 11 => .int
  | 12 => .array .int
  | 13 => .int
  | 14 => .array .int
  | 15 => .int
  | 16 => .boolean
  | 17 => .int
  | 18 => .array .int
  | 19 => .array .int
  | 20 => .array .int
  | 21 => .array .int
  | 22 => .int
  | 23 => .int
  | 24 => .int
  | 25 => .array .int
  | 26 => .int
  | 27 => .int
  | 28 => .int
  | _ => .array .int
abbrev wsX80 : List Cond := u_ws RX8 TX8 30
theorem nmX8 : ∀ a, a < 30 → ∀ b, b < 30 → a ≠ b → (TX8 a).2.1 ≠ (TX8 b).2.1 := by decide +kernel
theorem tyX8_ok : ∀ k, k < 30 → parseFieldDescriptor (TX8 k).2.2.1 = some (tyX8 k) := by decide +kernel
abbrev cX8_init : ByteArray := prog_10_method_1_code
def yX8_init : MethodName := ⟨RX8, "<init>", "()V"⟩
abbrev cX8_thrown : ByteArray := prog_10_method_2_code
def yX8_thrown : MethodName := ⟨RX8, "thrown", "()I"⟩
abbrev cX8_in : ByteArray := prog_10_method_3_code
def yX8_in : MethodName := ⟨RX8, "in", "(III)Z"⟩
abbrev cX8_isTable : ByteArray := prog_10_method_4_code
def yX8_isTable : MethodName := ⟨RX8, "isTable", "(I)Z"⟩
abbrev cX8_isRow : ByteArray := prog_10_method_5_code
def yX8_isRow : MethodName := ⟨RX8, "isRow", "(II)Z"⟩
abbrev cX8_isColumn : ByteArray := prog_10_method_6_code
def yX8_isColumn : MethodName := ⟨RX8, "isColumn", "(II)Z"⟩
abbrev cX8_rowsOf : ByteArray := prog_10_method_7_code
def yX8_rowsOf : MethodName := ⟨RX8, "rowsOf", "(I)I"⟩
abbrev cX8_get : ByteArray := prog_10_method_8_code
def yX8_get : MethodName := ⟨RX8, "get", "(III)I"⟩
abbrev cX8_changed : ByteArray := prog_10_method_9_code
def yX8_changed : MethodName := ⟨RX8, "changed", "()V"⟩
abbrev cX8_create : ByteArray := prog_10_method_10_code
def yX8_create : MethodName := ⟨RX8, "create", "(II)Z"⟩
abbrev cX8_insert : ByteArray := prog_10_method_11_code
def yX8_insert : MethodName := ⟨RX8, "insert", "(IIIII)I"⟩
abbrev cX8_delete : ByteArray := prog_10_method_12_code
def yX8_delete : MethodName := ⟨RX8, "delete", "(II)V"⟩
abbrev cX8_update : ByteArray := prog_10_method_13_code
def yX8_update : MethodName := ⟨RX8, "update", "(IIII)V"⟩
abbrev cX8_cell : ByteArray := prog_10_method_14_code
def yX8_cell : MethodName := ⟨RX8, "cell", "(III)I"⟩
abbrev cX8_setIndex : ByteArray := prog_10_method_15_code
def yX8_setIndex : MethodName := ⟨RX8, "setIndex", "(IIIZ)Z"⟩
abbrev cX8_index : ByteArray := prog_10_method_16_code
def yX8_index : MethodName := ⟨RX8, "index", "(III)Z"⟩
abbrev cX8_drop : ByteArray := prog_10_method_17_code
def yX8_drop : MethodName := ⟨RX8, "drop", "(III)Z"⟩
abbrev cX8_empty : ByteArray := prog_10_method_18_code
def yX8_empty : MethodName := ⟨RX8, "empty", "()V"⟩
abbrev cX8_ask : ByteArray := prog_10_method_19_code
def yX8_ask : MethodName := ⟨RX8, "ask", "()V"⟩
abbrev cX8_from : ByteArray := prog_10_method_20_code
def yX8_from : MethodName := ⟨RX8, "from", "(I)I"⟩
abbrev cX8_has : ByteArray := prog_10_method_21_code
def yX8_has : MethodName := ⟨RX8, "has", "(II)Z"⟩
abbrev cX8_where : ByteArray := prog_10_method_22_code
def yX8_where : MethodName := ⟨RX8, "where", "(IIII)Z"⟩
abbrev cX8_join : ByteArray := prog_10_method_23_code
def yX8_join : MethodName := ⟨RX8, "join", "(IIII)Z"⟩
abbrev cX8_select : ByteArray := prog_10_method_24_code
def yX8_select : MethodName := ⟨RX8, "select", "(II)I"⟩
abbrev cX8_order : ByteArray := prog_10_method_25_code
def yX8_order : MethodName := ⟨RX8, "order", "(IZ)Z"⟩
abbrev cX8_limit : ByteArray := prog_10_method_26_code
def yX8_limit : MethodName := ⟨RX8, "limit", "(I)Z"⟩
abbrev cX8_share : ByteArray := prog_10_method_27_code
def yX8_share : MethodName := ⟨RX8, "share", "(IIII)F"⟩
abbrev cX8_sideOf : ByteArray := prog_10_method_28_code
def yX8_sideOf : MethodName := ⟨RX8, "sideOf", "(III)I"⟩
abbrev cX8_bettered : ByteArray := prog_10_method_29_code
def yX8_bettered : MethodName := ⟨RX8, "bettered", "(FFIII)F"⟩
abbrev cX8_fewest : ByteArray := prog_10_method_30_code
def yX8_fewest : MethodName := ⟨RX8, "fewest", "(II)F"⟩
abbrev cX8_lessened : ByteArray := prog_10_method_31_code
def yX8_lessened : MethodName := ⟨RX8, "lessened", "(FII)F"⟩
abbrev cX8_ordered : ByteArray := prog_10_method_32_code
def yX8_ordered : MethodName := ⟨RX8, "ordered", "(II)I"⟩
abbrev cX8_cost : ByteArray := prog_10_method_33_code
def yX8_cost : MethodName := ⟨RX8, "cost", "(I)F"⟩
abbrev cX8_plan : ByteArray := prog_10_method_34_code
def yX8_plan : MethodName := ⟨RX8, "plan", "()F"⟩
abbrev cX8_explain : ByteArray := prog_10_method_35_code
def yX8_explain : MethodName := ⟨RX8, "explain", "(II)I"⟩
abbrev cX8_holds : ByteArray := prog_10_method_36_code
def yX8_holds : MethodName := ⟨RX8, "holds", "(III)Z"⟩
abbrev cX8_rowAt : ByteArray := prog_10_method_37_code
def yX8_rowAt : MethodName := ⟨RX8, "rowAt", "(I)I"⟩
abbrev cX8_wanted : ByteArray := prog_10_method_38_code
def yX8_wanted : MethodName := ⟨RX8, "wanted", "(II)I"⟩
abbrev cX8_following : ByteArray := prog_10_method_39_code
def yX8_following : MethodName := ⟨RX8, "following", "(I)I"⟩
abbrev cX8_before : ByteArray := prog_10_method_40_code
def yX8_before : MethodName := ⟨RX8, "before", "(IIIII)Z"⟩
abbrev cX8_passes : ByteArray := prog_10_method_41_code
def yX8_passes : MethodName := ⟨RX8, "passes", "(I)Z"⟩
abbrev cX8_give : ByteArray := prog_10_method_42_code
def yX8_give : MethodName := ⟨RX8, "give", "()V"⟩
abbrev cX8_swapped : ByteArray := prog_10_method_43_code
def yX8_swapped : MethodName := ⟨RX8, "swapped", "(I)Z"⟩
abbrev cX8_finish : ByteArray := prog_10_method_44_code
def yX8_finish : MethodName := ⟨RX8, "finish", "()V"⟩
abbrev cX8_run : ByteArray := prog_10_method_45_code
def yX8_run : MethodName := ⟨RX8, "run", "(I)I"⟩
abbrev cX8_step : ByteArray := prog_10_method_46_code
def yX8_step : MethodName := ⟨RX8, "step", "()V"⟩
abbrev cX8_look : ByteArray := prog_10_method_47_code
def yX8_look : MethodName := ⟨RX8, "look", "(I)I"⟩
abbrev cX8_answer : ByteArray := prog_10_method_48_code
def yX8_answer : MethodName := ⟨RX8, "answer", "(II)I"⟩
def RJ9 : String := "java/lang/Math"
def TJ9 : u_T := fun k => match k with
  | _ => ("", "", "", false)
def tyJ9 : Nat → FieldType := fun k => match k with
  | _ => .int
abbrev wsJ90 : List Cond := u_ws RJ9 TJ9 0
theorem nmJ9 : ∀ a, a < 0 → ∀ b, b < 0 → a ≠ b → (TJ9 a).2.1 ≠ (TJ9 b).2.1 := by decide +kernel
theorem tyJ9_ok : ∀ k, k < 0 → parseFieldDescriptor (TJ9 k).2.2.1 = some (tyJ9 k) := by decide +kernel
abbrev cJ9_max_7cf53 : ByteArray := prog_14_method_65_code
def yJ9_max_7cf53 : MethodName := ⟨RJ9, "max", "(II)I"⟩
abbrev cJ9_min_7cf53 : ByteArray := prog_14_method_69_code
def yJ9_min_7cf53 : MethodName := ⟨RJ9, "min", "(II)I"⟩
def RJ0 : String := "java/lang/String"
def TJ0 : u_T := fun k => match k with
  | _ => ("", "", "", false)
def tyJ0 : Nat → FieldType := fun k => match k with
  | _ => .int
abbrev wsJ00 : List Cond := u_ws RJ0 TJ0 0
theorem nmJ0 : ∀ a, a < 0 → ∀ b, b < 0 → a ≠ b → (TJ0 a).2.1 ≠ (TJ0 b).2.1 := by decide +kernel
theorem tyJ0_ok : ∀ k, k < 0 → parseFieldDescriptor (TJ0 k).2.2.1 = some (tyJ0 k) := by decide +kernel
def RJ10 : String := "java/lang/System"
def TJ10 : u_T := fun k => match k with
  | _ => ("", "", "", false)
def tyJ10 : Nat → FieldType := fun k => match k with
  | _ => .int
abbrev wsJ100 : List Cond := u_ws RJ10 TJ10 0
theorem nmJ10 : ∀ a, a < 0 → ∀ b, b < 0 → a ≠ b → (TJ10 a).2.1 ≠ (TJ10 b).2.1 := by decide +kernel
theorem tyJ10_ok : ∀ k, k < 0 → parseFieldDescriptor (TJ10 k).2.2.1 = some (tyJ10 k) := by decide +kernel
def RL : String := "QueryDeskLaw"
abbrev cL_insert : ByteArray := method_3_code
def yL_insert : MethodName := ⟨RL, "insert", "(LQueryDesk;IIIII[J)I"⟩
abbrev cL_delete : ByteArray := method_4_code
def yL_delete : MethodName := ⟨RL, "delete", "(LQueryDesk;II)I"⟩
abbrev cL_update : ByteArray := method_5_code
def yL_update : MethodName := ⟨RL, "update", "(LQueryDesk;IIII)I"⟩
abbrev cL_cell : ByteArray := method_6_code
def yL_cell : MethodName := ⟨RL, "cell", "(LQueryDesk;III[J)I"⟩
abbrev cL_plan : ByteArray := method_7_code
def yL_plan : MethodName := ⟨RL, "plan", "(LQueryDesk;[D)I"⟩
abbrev cL_explain : ByteArray := method_8_code
def yL_explain : MethodName := ⟨RL, "explain", "(LQueryDesk;II[J)I"⟩
abbrev cL_answer : ByteArray := method_9_code
def yL_answer : MethodName := ⟨RL, "answer", "(LQueryDesk;II[J)I"⟩
abbrev cL_law : ByteArray := code
def yL_law : MethodName := ⟨RL, "law", "([I)Z"⟩
abbrev vwCl : List vw_C := [(RX0, TX0, 4), (RX1, TX1, 4), (RX2, TX2, 2), (RX3, TX3, 8), (RX4, TX4, 11), (RX5, TX5, 6), (RX6, TX6, 9), (RX7, TX7, 5), (RX8, TX8, 30)]
end
section
/-! ===== THE DESK LAYER: the machine over an abstract heap of numbered cells ===== -/
def dk_tbl : List Cond := lw_tbl.filter (fun w => goodWord w)
theorem dk_goodIn {ws : List Cond} (h : ∀ w ∈ ws, w ∈ dk_tbl) : GoodIn dk_tbl ws := fun w hw => ⟨h w hw, good_of_word (List.mem_filter.mp (h w hw)).2⟩
theorem dk_sub {w : Cond} (h : w ∈ dk_tbl) : w ∈ lw_tbl := (List.mem_filter.mp h).1
/-- the abstract heap: ints, floats, references, longs, doubles of a cell, by slot -/
abbrev dk_H : Type := (Nat → Nat → Int32) × (Nat → Nat → UInt32) × (Nat → Nat → Option Nat) × (Nat → Nat → Int64) × (Nat → Nat → UInt64)
/-- launch, class ids, slots of fields, ids of array classes, the heap before the first cell, old addresses, whether nothing else was made -/
abbrev dk_G : Type := Launch × (Nat → ClassId) × (Nat → Nat → Nat) × (Nat → ClassId) × Heap × (Nat → Nat) × Bool
abbrev dk_H0 (G : dk_G) : Heap := G.2.2.2.2.1
abbrev dk_b (G : dk_G) : Nat := G.2.2.2.2.1.size
abbrev dk_sa (G : dk_G) : Nat → Nat := G.2.2.2.2.2.1
abbrev dk_cT (G : dk_G) : Nat → ClassId := G.2.2.2.1
def dk_rv (G : dk_G) (v : Value) : Value := match v with
  | .ref i => .ref (dk_b G + i)
  | .retAddr j => .ref (dk_sa G j)
  | .int x => .int x
  | .long x => .long x
  | .float x => .float x
  | .double x => .double x
  | .null => .null
theorem dk_rv_cat (G : dk_G) (v : Value) : (dk_rv G v).category = v.category := by cases v <;> rfl
def dk_av (h : dk_H) (kd i k : Nat) : Value := match kd with
  | 0 => .int (h.1 i k)
  | 1 => .float (h.2.1 i k)
  | 2 => va_rf (h.2.2.1 i k)
  | 3 => .long (h.2.2.2.1 i k)
  | _ => .double (h.2.2.2.2 i k)
def dk_up {α : Type} (f : Nat → Nat → α) (i k : Nat) (v : α) : Nat → Nat → α := fun a b => if a = i ∧ b = k then v else f a b
theorem dk_up_same {α : Type} (f : Nat → Nat → α) (i k : Nat) (v : α) : dk_up f i k v i k = v := by simp [dk_up]
theorem dk_up_ne {α : Type} (f : Nat → Nat → α) {i k a b : Nat} (v : α) (h : a ≠ i ∨ b ≠ k) : dk_up f i k v a b = f a b := by
  unfold dk_up
  rw [if_neg (fun q => h.elim (fun z => z q.1) (fun z => z q.2))]
def dk_sI (h : dk_H) (i k : Nat) (x : Int32) : dk_H := (dk_up h.1 i k x, h.2)
def dk_sF (h : dk_H) (i k : Nat) (x : UInt32) : dk_H := (h.1, dk_up h.2.1 i k x, h.2.2)
def dk_sR (h : dk_H) (i k : Nat) (x : Option Nat) : dk_H := (h.1, h.2.1, dk_up h.2.2.1 i k x, h.2.2.2)
def dk_sL (h : dk_H) (i k : Nat) (x : Int64) : dk_H := (h.1, h.2.1, h.2.2.1, dk_up h.2.2.2.1 i k x, h.2.2.2.2)
def dk_sD (h : dk_H) (i k : Nat) (x : UInt64) : dk_H := (h.1, h.2.1, h.2.2.1, h.2.2.2.1, dk_up h.2.2.2.2 i k x)
/-- h' is h but for the slot k of the cell a, where it holds v (read as kind kd) -/
def dk_Up (h h' : dk_H) (kd a k : Nat) (v : Value) : Prop := dk_av h' kd a k = v ∧ ∀ (kd' i j : Nat), (i ≠ a ∨ j ≠ k) → dk_av h' kd' i j = dk_av h kd' i j
theorem dk_upI (h : dk_H) (a k : Nat) (x : Int32) : dk_Up h (dk_sI h a k x) 0 a k (.int x) := by
  refine ⟨by simp [dk_av, dk_sI, dk_up], fun kd' i j hn => ?_⟩
  match kd' with
  | 0 => simp only [dk_av, dk_sI]; rw [dk_up_ne _ _ hn]
  | 1 => rfl
  | 2 => rfl
  | 3 => rfl
  | _ + 4 => rfl
theorem dk_upF (h : dk_H) (a k : Nat) (x : UInt32) : dk_Up h (dk_sF h a k x) 1 a k (.float x) := by
  refine ⟨by simp [dk_av, dk_sF, dk_up], fun kd' i j hn => ?_⟩
  match kd' with
  | 0 => rfl
  | 1 => simp only [dk_av, dk_sF]; rw [dk_up_ne _ _ hn]
  | 2 => rfl
  | 3 => rfl
  | _ + 4 => rfl
theorem dk_upR (h : dk_H) (a k : Nat) (x : Option Nat) : dk_Up h (dk_sR h a k x) 2 a k (va_rf x) := by
  refine ⟨by simp [dk_av, dk_sR, dk_up], fun kd' i j hn => ?_⟩
  match kd' with
  | 0 => rfl
  | 1 => rfl
  | 2 => simp only [dk_av, dk_sR]; rw [dk_up_ne _ _ hn]
  | 3 => rfl
  | _ + 4 => rfl
theorem dk_upL (h : dk_H) (a k : Nat) (x : Int64) : dk_Up h (dk_sL h a k x) 3 a k (.long x) := by
  refine ⟨by simp [dk_av, dk_sL, dk_up], fun kd' i j hn => ?_⟩
  match kd' with
  | 0 => rfl
  | 1 => rfl
  | 2 => rfl
  | 3 => simp only [dk_av, dk_sL]; rw [dk_up_ne _ _ hn]
  | _ + 4 => rfl
theorem dk_upD (h : dk_H) (a k : Nat) (x : UInt64) : dk_Up h (dk_sD h a k x) 4 a k (.double x) := by
  refine ⟨by simp [dk_av, dk_sD, dk_up], fun kd' i j hn => ?_⟩
  match kd' with
  | 0 => rfl
  | 1 => rfl
  | 2 => rfl
  | 3 => rfl
  | _ + 4 => simp only [dk_av, dk_sD]; rw [dk_up_ne _ _ hn]
/-- the kinds of a class's fields: 0 int or boolean, 1 float, 2 reference -/
def dk_ks (ci : Nat) : List Nat := match ci with
  | 0 => [0, 0, 0, 0]
  | 1 => [0, 0, 0, 0]
  | 2 => [0, 0]
  | 3 => [2, 2, 2, 2, 2, 2, 2, 1]
  | 4 => [2, 2, 2, 2, 0, 0, 0, 0, 0, 0, 0]
  | 5 => [2, 2, 2, 0, 0, 0]
  | 6 => [2, 2, 2, 2, 2, 2, 0, 0, 0]
  | 7 => [2, 2, 2, 2, 0]
  | _ => [0, 2, 2, 2, 2, 2, 0, 0, 2, 0, 2, 0, 2, 0, 2, 0, 0, 0, 2, 2, 2, 2, 0, 0, 0, 2, 0, 0, 0, 2]
/-- what the cells are: an object of a class, or an array (its kind, its length) -/
def dk_shapes : List (Nat ⊕ (Nat × Nat)) :=
  [.inl 7, .inr (5, 3),
   .inl 5, .inr (0, 24), .inr (0, 96), .inr (1, 8),
   .inl 5, .inr (0, 24), .inr (0, 96), .inr (1, 8),
   .inl 5, .inr (0, 24), .inr (0, 96), .inr (1, 8),
   .inl 4, .inr (5, 3), .inr (6, 4), .inl 0, .inl 0, .inl 0, .inl 0, .inr (7, 3), .inl 1, .inl 1, .inl 1, .inr (8, 4), .inl 2, .inl 2, .inl 2, .inl 2,
   .inl 3, .inr (2, 4), .inr (2, 3), .inr (2, 3), .inr (0, 3), .inr (0, 3), .inr (0, 3), .inr (0, 3),
   .inl 6, .inr (0, 72), .inr (0, 3), .inr (0, 3), .inr (0, 3), .inr (0, 256), .inr (0, 64),
   .inl 8, .inr (0, 3), .inr (0, 3), .inr (1, 180), .inr (0, 720), .inr (1, 24), .inr (0, 3), .inr (0, 16), .inr (0, 12), .inr (0, 8), .inr (0, 3), .inr (0, 3), .inr (0, 3), .inr (0, 3), .inr (0, 3), .inr (0, 256),
   .inr (3, 1), .inr (4, 1)]
def dk_SH (i : Nat) : Nat ⊕ (Nat × Nat) := dk_shapes.getD i (.inr (0, 0))
def dk_ek (t : Nat) : Nat := match t with
  | 0 => 0
  | 1 => 0
  | 2 => 1
  | 3 => 3
  | 4 => 4
  | _ => 2
def dk_ty (t : Nat) : FieldType := match t with
  | 0 => .int
  | 1 => .boolean
  | 2 => .float
  | 3 => .long
  | 4 => .double
  | 5 => .object RX5
  | 6 => .object RX0
  | 7 => .object RX1
  | _ => .object RX2
def dk_tys (cT : Nat → ClassId) : List (ClassId × FieldType) := (List.range 9).map fun t => (cT t, dk_ty t)
theorem dk_tys_at (cT : Nat → ClassId) {t : Nat} (h : t < 9) : (dk_tys cT)[t]? = some (cT t, dk_ty t) := by
  simp [dk_tys, h]
def dk_at (G : dk_G) (h : dk_H) (H : Heap) (i : Nat) : Prop := match dk_SH i with
  | .inl ci => t_OB (dk_b G + i) (G.2.1 ci) (dk_ks ci).length (G.2.2.1 ci) H (fun k => dk_rv G (dk_av h ((dk_ks ci).getD k 0) i k))
  | .inr x => H[dk_b G + i]? = some (arrV (dk_cT G x.1) x.2 (fun j => dk_rv G (dk_av h (dk_ek x.1) i j)))
def dk_R (G : dk_G) (n : Nat) (h : dk_H) (H : Heap) : Prop := (G.2.2.2.2.2.2 = true → H.size = dk_b G + n) ∧ dk_b G + n ≤ H.size ∧ (∀ i, i < n → dk_at G h H i) ∧ ∀ q : Nat, q < dk_b G → H[q]? = (dk_H0 G)[q]?
theorem dk_at.kept {G : dk_G} {h h' : dk_H} {H H' : Heap} {i : Nat} (hat : dk_at G h H i) (hv : ∀ kd j : Nat, dk_av h' kd i j = dk_av h kd i j) (hq : H'[dk_b G + i]? = H[dk_b G + i]?) : dk_at G h' H' i := by
  unfold dk_at at hat ⊢
  split at hat
  · exact (hat.kept hq).to (fun k _ => by rw [hv])
  · show H'[dk_b G + i]? = _
    rw [hq, hat]
    simp only [hv]
theorem dk_R.set {G : dk_G} {n : Nat} {h h' : dk_H} {H H' : Heap} {kd a k : Nat} {v : Value} (hR : dk_R G n h H) (hup : dk_Up h h' kd a k v) (hz : H'.size = H.size) (ho : ∀ q : Nat, q ≠ dk_b G + a → H'[q]? = H[q]?) (hat : a < n → dk_at G h' H' a) : dk_R G n h' H' := by
  obtain ⟨h1, h2, h3, h4⟩ := hR
  refine ⟨fun z => by rw [hz]; exact h1 z, by rw [hz]; exact h2, fun i hi => ?_, fun q hq => by rw [ho q (by omega)]; exact h4 q hq⟩
  by_cases e : i = a
  · subst e; exact hat hi
  · exact (h3 i hi).kept (fun kd' j => hup.2 kd' i j (Or.inl e)) (ho _ (by omega))
/-- static arrays of Plan: their lengths and contents -/
def dk_sl (j : Nat) : Nat := match j with
  | 0 => 1
  | 1 => 4
  | _ => 18
def dk_sv (j k : Nat) : Int32 := match j with
  | 0 => 0
  | 1 => ([0, 1, 1, 0] : List Int32).getD k 0
  | _ => ([0, 1, 2, 0, 2, 1, 1, 0, 2, 1, 2, 0, 2, 0, 1, 2, 1, 0] : List Int32).getD k 0
def dk_sn (j : Nat) : String := match j with
  | 0 => "ORDERS_OF_ONE"
  | 1 => "ORDERS_OF_TWO"
  | _ => "ORDERS_OF_THREE"
/-- words that are carried beside the tables: nest mates' constructors, arrays of references -/
def dk_K (G : dk_G) (U : State) : Prop := va_K (G.2.1, G.2.2.1) vwCl (dk_tys (dk_cT G)) U ∧
  (∀ j, j < 3 → va_Z RX3 (dk_sn j) "[I" (.ref (dk_sa G j)) (fun q => dk_b G ≤ q) U (dk_H0 G) ∧ va_T .int (dk_sa G j) (dk_sl j) (fun k => .int (dk_sv j k)) (fun q => dk_b G ≤ q) U (dk_H0 G)) ∧
  (va_Nw (.methodLinkNest RX4 23 yX0_init RX7) U ∧ va_Nw (.methodLinkNest RX4 30 yX1_init RX7) U ∧ va_Nw (.methodLinkNest RX4 37 yX2_init RX7) U) ∧
  (va_AO RX5 U ∧ va_AO RX0 U ∧ va_AO RX1 U ∧ va_AO RX2 U)
theorem dk_K.warm {G : dk_G} {s U : State} (hW : s.WarmedH U.vm) (h : dk_K G s) : dk_K G U :=
  ⟨va_K.moved hW.alike h.1, fun j hj => ⟨va_Z.moved hW.alike (h.2.1 j hj).1, va_T.moved hW.alike (h.2.1 j hj).2⟩, ⟨va_Nw.warmM hW h.2.2.1.1, va_Nw.warmM hW h.2.2.1.2.1, va_Nw.warmM hW h.2.2.1.2.2⟩,
   va_AO.moved hW.alike h.2.2.2.1, va_AO.moved hW.alike h.2.2.2.2.1, va_AO.moved hW.alike h.2.2.2.2.2.1, va_AO.moved hW.alike h.2.2.2.2.2.2⟩
theorem dk_K.same {G : dk_G} {s U : State} (hv : s.vm = U.vm) (h : dk_K G s) : dk_K G U := by
  have ha : s.vm.Alike U.vm := by rw [hv]; exact Vm.Alike.refl U.vm
  exact ⟨va_K.moved ha h.1, fun j hj => ⟨va_Z.moved ha (h.2.1 j hj).1, va_T.moved ha (h.2.1 j hj).2⟩, ⟨va_Nw.same rfl hv h.2.2.1.1, va_Nw.same rfl hv h.2.2.1.2.1, va_Nw.same rfl hv h.2.2.1.2.2⟩,
   va_AO.moved ha h.2.2.2.1, va_AO.moved ha h.2.2.2.2.1, va_AO.moved ha h.2.2.2.2.2.1, va_AO.moved ha h.2.2.2.2.2.2⟩
/-- the locals that are known -/
def dk_pr (G : dk_G) : Nat → List (Option Value) → List (Nat × Value)
  | _, [] => []
  | i, none :: L => dk_pr G (i + 1) L
  | i, some v :: L => (i, dk_rv G v) :: dk_pr G (i + 1) L
theorem dk_pr_mem {G : dk_G} : ∀ (L : List (Option Value)) (i : Nat) (q : Nat × Value), q ∈ dk_pr G i L ↔ ∃ (j : Nat) (v : Value), L[j]? = some (some v) ∧ q = (i + j, dk_rv G v)
  | [], i, q => by simp [dk_pr]
  | none :: L, i, q => by
    rw [dk_pr, dk_pr_mem L (i + 1) q]
    constructor
    · rintro ⟨j, v, h1, h2⟩
      exact ⟨j + 1, v, by simpa using h1, by rw [h2]; congr 1; omega⟩
    · rintro ⟨j, v, h1, h2⟩
      cases j with
      | zero => simp at h1
      | succ j => exact ⟨j, v, by simpa using h1, by rw [h2]; congr 1; omega⟩
  | some w :: L, i, q => by
    rw [dk_pr, List.mem_cons, dk_pr_mem L (i + 1) q]
    constructor
    · rintro (h | ⟨j, v, h1, h2⟩)
      · exact ⟨0, w, by simp, by simpa using h⟩
      · exact ⟨j + 1, v, by simpa using h1, by rw [h2]; congr 1; omega⟩
    · rintro ⟨j, v, h1, h2⟩
      cases j with
      | zero =>
        simp at h1
        left; rw [h2, h1]; rfl
      | succ j => exact Or.inr ⟨j, v, by simpa using h1, by rw [h2]; congr 1; omega⟩
theorem dk_pr_at {G : dk_G} {ls : Array Slot} {nL : Nat} {L : List (Option Value)} {i : Nat} {v : Value} (h : lv_has ls nL (dk_pr G 0 L)) (hL : L[i]? = some (some v)) : ls[i]? = some (.val (dk_rv G v)) :=
  h.2.2 (i, dk_rv G v) ((dk_pr_mem L 0 _).mpr ⟨i, v, hL, by simp⟩)
/-- a store at i spoils no wide value before it -/
def dk_ok (L : List (Option Value)) (i : Nat) : Bool := match i with
  | 0 => true
  | j + 1 => match L[j]? with
    | some (some (.long _)) => false
    | some (some (.double _)) => false
    | _ => true
theorem dk_ok_cat {L : List (Option Value)} {i j : Nat} {v : Value} (h : dk_ok L i = true) (hj : L[j]? = some (some v)) (e : j + 1 = i) : v.category ≠ 2 := by
  subst e
  unfold dk_ok at h
  simp only [hj] at h
  cases v <;> simp_all [Value.category]
theorem dk_store1 {G : dk_G} {ls : Array Slot} {nL i : Nat} {L : List (Option Value)} {v : Value} (hok : dk_ok L i = true)
    (h : lv_has ls nL ((i, dk_rv G v) :: (dk_pr G 0 L).filter (fun q => !(q.1 == i) && !(q.1 + 1 == i && q.2.category == 2)))) : lv_has ls nL (dk_pr G 0 (L.set i (some v))) := by
  refine ⟨h.1, h.2.1, fun q hq => ?_⟩
  obtain ⟨j, w, h1, rfl⟩ := (dk_pr_mem _ 0 q).mp hq
  rw [Nat.zero_add]
  by_cases e : j = i
  · subst e
    have hlt : j < L.length := by
      have := (List.getElem?_eq_some_iff.mp h1).1
      simpa using this
    rw [List.getElem?_set_self hlt] at h1
    cases h1
    exact h.2.2 (j, dk_rv G v) List.mem_cons_self
  · rw [List.getElem?_set_ne (Ne.symm e)] at h1
    refine h.2.2 (j, dk_rv G w) (List.mem_cons_of_mem _ (List.mem_filter.mpr ⟨(dk_pr_mem L 0 _).mpr ⟨j, w, h1, by simp⟩, ?_⟩))
    have hc : j + 1 = i → w.category ≠ 2 := fun z => dk_ok_cat hok h1 z
    simp only [Bool.and_eq_true, Bool.not_eq_true', beq_eq_false_iff_ne, Bool.and_eq_false_iff, dk_rv_cat]
    refine ⟨e, ?_⟩
    by_cases z : j + 1 = i
    · exact Or.inr (hc z)
    · exact Or.inl z
theorem dk_store2 {G : dk_G} {ls : Array Slot} {nL i : Nat} {L : List (Option Value)} {v : Value} (hok : dk_ok L i = true)
    (h : lv_has ls nL ((i, dk_rv G v) :: (dk_pr G 0 L).filter (fun q => !(q.1 == i) && (!(q.1 == i + 1) && !(q.1 + 1 == i && q.2.category == 2))))) : lv_has ls nL (dk_pr G 0 ((L.set (i + 1) none).set i (some v))) := by
  refine ⟨h.1, h.2.1, fun q hq => ?_⟩
  obtain ⟨j, w, h1, rfl⟩ := (dk_pr_mem _ 0 q).mp hq
  rw [Nat.zero_add]
  by_cases e : j = i
  · subst e
    have hlt : j < (L.set (j + 1) none).length := by
      have := (List.getElem?_eq_some_iff.mp h1).1
      simpa using this
    rw [List.getElem?_set_self hlt] at h1
    cases h1
    exact h.2.2 (j, dk_rv G v) List.mem_cons_self
  · rw [List.getElem?_set_ne (Ne.symm e)] at h1
    by_cases e2 : j = i + 1
    · subst e2
      have hlt : i + 1 < L.length := by
        have := (List.getElem?_eq_some_iff.mp h1).1
        simpa using this
      rw [List.getElem?_set_self hlt] at h1
      cases h1
    · rw [List.getElem?_set_ne (Ne.symm e2)] at h1
      refine h.2.2 (j, dk_rv G w) (List.mem_cons_of_mem _ (List.mem_filter.mpr ⟨(dk_pr_mem L 0 _).mpr ⟨j, w, h1, by simp⟩, ?_⟩))
      have hc : j + 1 = i → w.category ≠ 2 := fun z => dk_ok_cat hok h1 z
      simp only [Bool.and_eq_true, Bool.not_eq_true', beq_eq_false_iff_ne, Bool.and_eq_false_iff, dk_rv_cat]
      refine ⟨e, e2, ?_⟩
      by_cases z : j + 1 = i
      · exact Or.inr (hc z)
      · exact Or.inl z
/-- where a walk stands: machine, environment, room, start, method, arguments, stack below, code, end, globals -/
abbrev dk_X : Type := Program × Env × Room × State × MethodId × Array Value × List Frame × Method × Code × (State → Prop) × dk_G
def dk_C (X : dk_X) (cc : ByteArray) (own : String) (nL : Nat) (ret : Option FieldType) (rm : Room) (G : dk_G) : Prop := match X with
  | (p, _, R, s, m, args, _, meth, c, _, G') => p.tables.exec = Jvm.exec ∧ c.code = cc ∧ c.maxLocals = nL ∧ s.vm.findClass own = some m.cls ∧ (∀ w ∈ dk_tbl, w.before args s = true) ∧ meth.sig.returnType = ret ∧ meth.locks = false ∧ R = rm ∧ G' = G ∧ dk_K G s
def dk_W (X : dk_X) (pc : Nat) (L : List (Option Value)) (S : List Value) (n : Nat) (h : dk_H) (kc ks : Nat) : Prop := match X with
  | (p, e, R, s, m, args, below, meth, c, Q, G) => ∀ (H : Heap) (locs : List Loc) (ls : Array Slot), dk_R G n h H → (∀ q ∈ locs, dk_b G ≤ q.base) → lv_has ls c.maxLocals (dk_pr G 0 L) → W p G.1 e R s m args below meth c H locs kc ks Q (F0 m pc ls (S.map (dk_rv G)))
/-- a field: the place idx of own's pool names slot k of class ci -/
def dk_F (own : String) (idx ci k : Nat) : Prop := ∃ (Cn : String) (T : u_T), vwCl[ci]? = some (Cn, T, (dk_ks ci).length) ∧ (∀ w ∈ u_ws Cn T (dk_ks ci).length, w ∈ dk_tbl) ∧ k < (dk_ks ci).length ∧ Cond.fieldLink own idx (T k).1 (T k).2.1 (T k).2.2.1 ∈ dk_tbl
/-- names and types of a class -/
def dk_N (ci : Nat) : Prop := ∀ (Cn : String) (T : u_T) (N : Nat), vwCl[ci]? = some (Cn, T, N) → (∃ ty : Nat → FieldType, ∀ k, k < N → parseFieldDescriptor (T k).2.2.1 = some (ty k)) ∧ ∀ a, a < N → ∀ b, b < N → a ≠ b → (T a).2.1 ≠ (T b).2.1
def dk_Fw (ci k : Nat) (ty : FieldType) : Prop := dk_N ci ∧ ∀ (Cn : String) (T : u_T) (N : Nat), vwCl[ci]? = some (Cn, T, N) → (T k).2.2.2 = false ∧ parseFieldDescriptor (T k).2.2.1 = some ty
def dk_Fz (own : String) (ci k : Nat) (ty : FieldType) : Prop := dk_N ci ∧ ∀ (Cn : String) (T : u_T) (N : Nat), vwCl[ci]? = some (Cn, T, N) → (T k).2.2.2 = true ∧ (T k).1 = own ∧ parseFieldDescriptor (T k).2.2.1 = some ty
section DK
variable {X : dk_X} {cc : ByteArray} {own : String} {nL : Nat} {ret : Option FieldType} {rm : Room} {G : dk_G} {pc : Nat} {L : List (Option Value)} {S : List Value} {n : Nat} {h : dk_H} {kc ks : Nat}

theorem dk_iconst (C : dk_C X cc own nL ret rm G) {i : Int} (v : Int32) (d : decode cc pc = .ok (.iconst i, 1)) (hv : Int32.ofInt i = v) (k : dk_W X (pc + 1) L (.int v :: S) n h kc ks) : dk_W X pc L (S) n h kc ks := by
  obtain ⟨p, e, R, s, m, args, below, meth, c, Q, G'⟩ := X
  obtain ⟨hx, hb, -⟩ := C
  exact fun H locs ls hR hf hl => lv_iconst hx hb d hv (k H locs ls hR hf hl)
theorem dk_bipush (C : dk_C X cc own nL ret rm G) {i : Int} (v : Int32) (d : decode cc pc = .ok (.bipush i, 2)) (hv : (Int8.ofInt i).toInt32 = v) (k : dk_W X (pc + 2) L (.int v :: S) n h kc ks) : dk_W X pc L (S) n h kc ks := by
  obtain ⟨p, e, R, s, m, args, below, meth, c, Q, G'⟩ := X
  obtain ⟨hx, hb, -⟩ := C
  exact fun H locs ls hR hf hl => lv_bipush hx hb d hv (k H locs ls hR hf hl)
theorem dk_sipush (C : dk_C X cc own nL ret rm G) {i : Int} (v : Int32) (d : decode cc pc = .ok (.sipush i, 3)) (hv : (Int16.ofInt i).toInt32 = v) (k : dk_W X (pc + 3) L (.int v :: S) n h kc ks) : dk_W X pc L (S) n h kc ks := by
  obtain ⟨p, e, R, s, m, args, below, meth, c, Q, G'⟩ := X
  obtain ⟨hx, hb, -⟩ := C
  exact fun H locs ls hR hf hl => lv_sipush hx hb d hv (k H locs ls hR hf hl)
theorem dk_lconst (C : dk_C X cc own nL ret rm G) {i : Fin 2} (v : Int64) (d : decode cc pc = .ok (.lconst i, 1)) (hv : Int64.ofNat (i : Nat) = v) (k : dk_W X (pc + 1) L (.long v :: S) n h kc ks) : dk_W X pc L (S) n h kc ks := by
  obtain ⟨p, e, R, s, m, args, below, meth, c, Q, G'⟩ := X
  obtain ⟨hx, hb, -⟩ := C
  exact fun H locs ls hR hf hl => lv_lconst hx hb d hv (k H locs ls hR hf hl)
theorem dk_fconst0 (C : dk_C X cc own nL ret rm G)  (d : decode cc pc = .ok (.fconst 0, 1)) (k : dk_W X (pc + 1) L (.float FP.fconst0 :: S) n h kc ks) : dk_W X pc L (S) n h kc ks := by
  obtain ⟨p, e, R, s, m, args, below, meth, c, Q, G'⟩ := X
  obtain ⟨hx, hb, -⟩ := C
  exact fun H locs ls hR hf hl => lv_fconst0 hx hb d (k H locs ls hR hf hl)
theorem dk_fconst1 (C : dk_C X cc own nL ret rm G)  (d : decode cc pc = .ok (.fconst 1, 1)) (k : dk_W X (pc + 1) L (.float FP.fconst1 :: S) n h kc ks) : dk_W X pc L (S) n h kc ks := by
  obtain ⟨p, e, R, s, m, args, below, meth, c, Q, G'⟩ := X
  obtain ⟨hx, hb, -⟩ := C
  exact fun H locs ls hR hf hl => lv_fconst1 hx hb d (k H locs ls hR hf hl)
theorem dk_fconst2 (C : dk_C X cc own nL ret rm G)  (d : decode cc pc = .ok (.fconst 2, 1)) (k : dk_W X (pc + 1) L (.float FP.fconst2 :: S) n h kc ks) : dk_W X pc L (S) n h kc ks := by
  obtain ⟨p, e, R, s, m, args, below, meth, c, Q, G'⟩ := X
  obtain ⟨hx, hb, -⟩ := C
  exact fun H locs ls hR hf hl => lv_fconst2 hx hb d (k H locs ls hR hf hl)
theorem dk_iload_n (C : dk_C X cc own nL ret rm G) {j : Fin 4} {i : Nat} {x : Int32} (d : decode cc pc = .ok (.iload_n j, 1)) (hi : (j : Nat) = i) (hL : L[i]? = some (some (.int x))) (k : dk_W X (pc + 1) L (.int x :: S) n h kc ks) : dk_W X pc L (S) n h kc ks := by
  obtain ⟨p, e, R, s, m, args, below, meth, c, Q, G'⟩ := X
  obtain ⟨hx, hb, -⟩ := C
  exact fun H locs ls hR hf hl => lv_iload_n hx hb d hi (dk_pr_at hl hL) (k H locs ls hR hf hl)
theorem dk_iload (C : dk_C X cc own nL ret rm G) {i : Nat} {x : Int32} (d : decode cc pc = .ok (.iload i, 2)) (hL : L[i]? = some (some (.int x))) (k : dk_W X (pc + 2) L (.int x :: S) n h kc ks) : dk_W X pc L (S) n h kc ks := by
  obtain ⟨p, e, R, s, m, args, below, meth, c, Q, G'⟩ := X
  obtain ⟨hx, hb, -⟩ := C
  exact fun H locs ls hR hf hl => lv_iload hx hb d (dk_pr_at hl hL) (k H locs ls hR hf hl)
theorem dk_lload_n (C : dk_C X cc own nL ret rm G) {j : Fin 4} {i : Nat} {x : Int64} (d : decode cc pc = .ok (.lload_n j, 1)) (hi : (j : Nat) = i) (hL : L[i]? = some (some (.long x))) (k : dk_W X (pc + 1) L (.long x :: S) n h kc ks) : dk_W X pc L (S) n h kc ks := by
  obtain ⟨p, e, R, s, m, args, below, meth, c, Q, G'⟩ := X
  obtain ⟨hx, hb, -⟩ := C
  exact fun H locs ls hR hf hl => lv_lload_n hx hb d hi (dk_pr_at hl hL) (k H locs ls hR hf hl)
theorem dk_lload (C : dk_C X cc own nL ret rm G) {i : Nat} {x : Int64} (d : decode cc pc = .ok (.lload i, 2)) (hL : L[i]? = some (some (.long x))) (k : dk_W X (pc + 2) L (.long x :: S) n h kc ks) : dk_W X pc L (S) n h kc ks := by
  obtain ⟨p, e, R, s, m, args, below, meth, c, Q, G'⟩ := X
  obtain ⟨hx, hb, -⟩ := C
  exact fun H locs ls hR hf hl => lv_lload hx hb d (dk_pr_at hl hL) (k H locs ls hR hf hl)
theorem dk_fload_n (C : dk_C X cc own nL ret rm G) {j : Fin 4} {i : Nat} {x : UInt32} (d : decode cc pc = .ok (.fload_n j, 1)) (hi : (j : Nat) = i) (hL : L[i]? = some (some (.float x))) (k : dk_W X (pc + 1) L (.float x :: S) n h kc ks) : dk_W X pc L (S) n h kc ks := by
  obtain ⟨p, e, R, s, m, args, below, meth, c, Q, G'⟩ := X
  obtain ⟨hx, hb, -⟩ := C
  exact fun H locs ls hR hf hl => lv_fload_n hx hb d hi (dk_pr_at hl hL) (k H locs ls hR hf hl)
theorem dk_fload (C : dk_C X cc own nL ret rm G) {i : Nat} {x : UInt32} (d : decode cc pc = .ok (.fload i, 2)) (hL : L[i]? = some (some (.float x))) (k : dk_W X (pc + 2) L (.float x :: S) n h kc ks) : dk_W X pc L (S) n h kc ks := by
  obtain ⟨p, e, R, s, m, args, below, meth, c, Q, G'⟩ := X
  obtain ⟨hx, hb, -⟩ := C
  exact fun H locs ls hR hf hl => lv_fload hx hb d (dk_pr_at hl hL) (k H locs ls hR hf hl)
theorem dk_aload_n (C : dk_C X cc own nL ret rm G) {j : Fin 4} {i : Nat} {x : Nat} (d : decode cc pc = .ok (.aload_n j, 1)) (hi : (j : Nat) = i) (hL : L[i]? = some (some (.ref x))) (k : dk_W X (pc + 1) L (.ref x :: S) n h kc ks) : dk_W X pc L (S) n h kc ks := by
  obtain ⟨p, e, R, s, m, args, below, meth, c, Q, G'⟩ := X
  obtain ⟨hx, hb, -⟩ := C
  exact fun H locs ls hR hf hl => lv_aload_n hx hb d hi (dk_pr_at hl hL) (k H locs ls hR hf hl)
theorem dk_aload (C : dk_C X cc own nL ret rm G) {i : Nat} {x : Nat} (d : decode cc pc = .ok (.aload i, 2)) (hL : L[i]? = some (some (.ref x))) (k : dk_W X (pc + 2) L (.ref x :: S) n h kc ks) : dk_W X pc L (S) n h kc ks := by
  obtain ⟨p, e, R, s, m, args, below, meth, c, Q, G'⟩ := X
  obtain ⟨hx, hb, -⟩ := C
  exact fun H locs ls hR hf hl => lv_aload hx hb d (dk_pr_at hl hL) (k H locs ls hR hf hl)
theorem dk_rload_n (C : dk_C X cc own nL ret rm G) {j : Fin 4} {i : Nat} {x : Nat} (d : decode cc pc = .ok (.aload_n j, 1)) (hi : (j : Nat) = i) (hL : L[i]? = some (some (.retAddr x))) (k : dk_W X (pc + 1) L (.retAddr x :: S) n h kc ks) : dk_W X pc L (S) n h kc ks := by
  obtain ⟨p, e, R, s, m, args, below, meth, c, Q, G'⟩ := X
  obtain ⟨hx, hb, -⟩ := C
  exact fun H locs ls hR hf hl => lv_aload_n hx hb d hi (dk_pr_at hl hL) (k H locs ls hR hf hl)
theorem dk_rload (C : dk_C X cc own nL ret rm G) {i : Nat} {x : Nat} (d : decode cc pc = .ok (.aload i, 2)) (hL : L[i]? = some (some (.retAddr x))) (k : dk_W X (pc + 2) L (.retAddr x :: S) n h kc ks) : dk_W X pc L (S) n h kc ks := by
  obtain ⟨p, e, R, s, m, args, below, meth, c, Q, G'⟩ := X
  obtain ⟨hx, hb, -⟩ := C
  exact fun H locs ls hR hf hl => lv_aload hx hb d (dk_pr_at hl hL) (k H locs ls hR hf hl)
theorem dk_istore_n (C : dk_C X cc own nL ret rm G) {j : Fin 4} {i : Nat} {x : Int32} (d : decode cc pc = .ok (.istore_n j, 1)) (hi : (j : Nat) = i) (hn : i < nL) (hok : dk_ok L i = true) (k : dk_W X (pc + 1) (L.set i (some (.int x))) S n h kc ks) : dk_W X pc L (.int x :: S) n h kc ks := by
  obtain ⟨p, e, R, s, m, args, below, meth, c, Q, G'⟩ := X
  obtain ⟨hx, hb, hml, -⟩ := C
  exact fun H locs ls hR hf hl => lv_istore_n hx hb d hi hl (by rw [hml]; exact hn) rfl (fun ls' hl' => k H locs ls' hR hf (dk_store1 (v := .int x) hok hl'))
theorem dk_istore (C : dk_C X cc own nL ret rm G) {i : Nat} {x : Int32} (d : decode cc pc = .ok (.istore i, 2)) (hn : i < nL) (hok : dk_ok L i = true) (k : dk_W X (pc + 2) (L.set i (some (.int x))) S n h kc ks) : dk_W X pc L (.int x :: S) n h kc ks := by
  obtain ⟨p, e, R, s, m, args, below, meth, c, Q, G'⟩ := X
  obtain ⟨hx, hb, hml, -⟩ := C
  exact fun H locs ls hR hf hl => lv_istore hx hb d hl (by rw [hml]; exact hn) rfl (fun ls' hl' => k H locs ls' hR hf (dk_store1 (v := .int x) hok hl'))
theorem dk_lstore_n (C : dk_C X cc own nL ret rm G) {j : Fin 4} {i : Nat} {x : Int64} (d : decode cc pc = .ok (.lstore_n j, 1)) (hi : (j : Nat) = i) (hn : i + 1 < nL) (hok : dk_ok L i = true) (k : dk_W X (pc + 1) ((L.set (i + 1) none).set i (some (.long x))) S n h kc ks) : dk_W X pc L (.long x :: S) n h kc ks := by
  obtain ⟨p, e, R, s, m, args, below, meth, c, Q, G'⟩ := X
  obtain ⟨hx, hb, hml, -⟩ := C
  exact fun H locs ls hR hf hl => lv_lstore_n hx hb d hi hl (by rw [hml]; exact hn) rfl (fun ls' hl' => k H locs ls' hR hf (dk_store2 (v := .long x) hok hl'))
theorem dk_lstore (C : dk_C X cc own nL ret rm G) {i : Nat} {x : Int64} (d : decode cc pc = .ok (.lstore i, 2)) (hn : i + 1 < nL) (hok : dk_ok L i = true) (k : dk_W X (pc + 2) ((L.set (i + 1) none).set i (some (.long x))) S n h kc ks) : dk_W X pc L (.long x :: S) n h kc ks := by
  obtain ⟨p, e, R, s, m, args, below, meth, c, Q, G'⟩ := X
  obtain ⟨hx, hb, hml, -⟩ := C
  exact fun H locs ls hR hf hl => lv_lstore hx hb d hl (by rw [hml]; exact hn) rfl (fun ls' hl' => k H locs ls' hR hf (dk_store2 (v := .long x) hok hl'))
theorem dk_fstore_n (C : dk_C X cc own nL ret rm G) {j : Fin 4} {i : Nat} {x : UInt32} (d : decode cc pc = .ok (.fstore_n j, 1)) (hi : (j : Nat) = i) (hn : i < nL) (hok : dk_ok L i = true) (k : dk_W X (pc + 1) (L.set i (some (.float x))) S n h kc ks) : dk_W X pc L (.float x :: S) n h kc ks := by
  obtain ⟨p, e, R, s, m, args, below, meth, c, Q, G'⟩ := X
  obtain ⟨hx, hb, hml, -⟩ := C
  exact fun H locs ls hR hf hl => lv_fstore_n hx hb d hi hl (by rw [hml]; exact hn) rfl (fun ls' hl' => k H locs ls' hR hf (dk_store1 (v := .float x) hok hl'))
theorem dk_fstore (C : dk_C X cc own nL ret rm G) {i : Nat} {x : UInt32} (d : decode cc pc = .ok (.fstore i, 2)) (hn : i < nL) (hok : dk_ok L i = true) (k : dk_W X (pc + 2) (L.set i (some (.float x))) S n h kc ks) : dk_W X pc L (.float x :: S) n h kc ks := by
  obtain ⟨p, e, R, s, m, args, below, meth, c, Q, G'⟩ := X
  obtain ⟨hx, hb, hml, -⟩ := C
  exact fun H locs ls hR hf hl => lv_fstore hx hb d hl (by rw [hml]; exact hn) rfl (fun ls' hl' => k H locs ls' hR hf (dk_store1 (v := .float x) hok hl'))
theorem dk_astore_n (C : dk_C X cc own nL ret rm G) {j : Fin 4} {i : Nat} {x : Nat} (d : decode cc pc = .ok (.astore_n j, 1)) (hi : (j : Nat) = i) (hn : i < nL) (hok : dk_ok L i = true) (k : dk_W X (pc + 1) (L.set i (some (.ref x))) S n h kc ks) : dk_W X pc L (.ref x :: S) n h kc ks := by
  obtain ⟨p, e, R, s, m, args, below, meth, c, Q, G'⟩ := X
  obtain ⟨hx, hb, hml, -⟩ := C
  exact fun H locs ls hR hf hl => lv_astore_n hx hb d hi hl (by rw [hml]; exact hn) rfl (fun ls' hl' => k H locs ls' hR hf (dk_store1 (v := .ref x) hok hl'))
theorem dk_astore (C : dk_C X cc own nL ret rm G) {i : Nat} {x : Nat} (d : decode cc pc = .ok (.astore i, 2)) (hn : i < nL) (hok : dk_ok L i = true) (k : dk_W X (pc + 2) (L.set i (some (.ref x))) S n h kc ks) : dk_W X pc L (.ref x :: S) n h kc ks := by
  obtain ⟨p, e, R, s, m, args, below, meth, c, Q, G'⟩ := X
  obtain ⟨hx, hb, hml, -⟩ := C
  exact fun H locs ls hR hf hl => lv_astore hx hb d hl (by rw [hml]; exact hn) rfl (fun ls' hl' => k H locs ls' hR hf (dk_store1 (v := .ref x) hok hl'))
theorem dk_rstore_n (C : dk_C X cc own nL ret rm G) {j : Fin 4} {i : Nat} {x : Nat} (d : decode cc pc = .ok (.astore_n j, 1)) (hi : (j : Nat) = i) (hn : i < nL) (hok : dk_ok L i = true) (k : dk_W X (pc + 1) (L.set i (some (.retAddr x))) S n h kc ks) : dk_W X pc L (.retAddr x :: S) n h kc ks := by
  obtain ⟨p, e, R, s, m, args, below, meth, c, Q, G'⟩ := X
  obtain ⟨hx, hb, hml, -⟩ := C
  exact fun H locs ls hR hf hl => lv_astore_n hx hb d hi hl (by rw [hml]; exact hn) rfl (fun ls' hl' => k H locs ls' hR hf (dk_store1 (v := .retAddr x) hok hl'))
theorem dk_rstore (C : dk_C X cc own nL ret rm G) {i : Nat} {x : Nat} (d : decode cc pc = .ok (.astore i, 2)) (hn : i < nL) (hok : dk_ok L i = true) (k : dk_W X (pc + 2) (L.set i (some (.retAddr x))) S n h kc ks) : dk_W X pc L (.retAddr x :: S) n h kc ks := by
  obtain ⟨p, e, R, s, m, args, below, meth, c, Q, G'⟩ := X
  obtain ⟨hx, hb, hml, -⟩ := C
  exact fun H locs ls hR hf hl => lv_astore hx hb d hl (by rw [hml]; exact hn) rfl (fun ls' hl' => k H locs ls' hR hf (dk_store1 (v := .retAddr x) hok hl'))
theorem dk_iinc (C : dk_C X cc own nL ret rm G) {i : Nat} {j : Int} {x : Int32} (v : Int32) (d : decode cc pc = .ok (.iinc i j, 3)) (hL : L[i]? = some (some (.int x))) (hv : x + Int32.ofInt j = v) (hn : i < nL) (hok : dk_ok L i = true) (k : dk_W X (pc + 3) (L.set i (some (.int v))) S n h kc ks) : dk_W X pc L S n h kc ks := by
  obtain ⟨p, e, R, s, m, args, below, meth, c, Q, G'⟩ := X
  obtain ⟨hx, hb, hml, -⟩ := C
  intro H locs ls hR hf hl
  obtain ⟨q, hq⟩ := List.getElem?_of_mem ((dk_pr_mem (G := G') L 0 (i, dk_rv G' (.int x))).mpr ⟨i, .int x, hL, by simp⟩)
  exact lv_iinc (v := v) hx hb d hl hq hv (by rw [hml]; exact hn) rfl (fun ls' hl' => k H locs ls' hR hf (dk_store1 (v := .int v) hok hl'))
theorem dk_iadd (C : dk_C X cc own nL ret rm G) {x y : Int32} (d : decode cc pc = .ok (.iadd, 1)) (k : dk_W X (pc + 1) L (.int (x + y) :: S) n h kc ks) : dk_W X pc L (.int y :: .int x :: S) n h kc ks := by
  obtain ⟨p, e, R, s, m, args, below, meth, c, Q, G'⟩ := X
  obtain ⟨hx, hb, -⟩ := C
  exact fun H locs ls hR hf hl => lv_iadd hx hb d (k H locs ls hR hf hl)
theorem dk_isub (C : dk_C X cc own nL ret rm G) {x y : Int32} (d : decode cc pc = .ok (.isub, 1)) (k : dk_W X (pc + 1) L (.int (x - y) :: S) n h kc ks) : dk_W X pc L (.int y :: .int x :: S) n h kc ks := by
  obtain ⟨p, e, R, s, m, args, below, meth, c, Q, G'⟩ := X
  obtain ⟨hx, hb, -⟩ := C
  exact fun H locs ls hR hf hl => lv_isub hx hb d (k H locs ls hR hf hl)
theorem dk_imul (C : dk_C X cc own nL ret rm G) {x y : Int32} (d : decode cc pc = .ok (.imul, 1)) (k : dk_W X (pc + 1) L (.int (x * y) :: S) n h kc ks) : dk_W X pc L (.int y :: .int x :: S) n h kc ks := by
  obtain ⟨p, e, R, s, m, args, below, meth, c, Q, G'⟩ := X
  obtain ⟨hx, hb, -⟩ := C
  exact fun H locs ls hR hf hl => lv_imul hx hb d (k H locs ls hR hf hl)
theorem dk_iand (C : dk_C X cc own nL ret rm G) {x y : Int32} (d : decode cc pc = .ok (.iand, 1)) (k : dk_W X (pc + 1) L (.int (x &&& y) :: S) n h kc ks) : dk_W X pc L (.int y :: .int x :: S) n h kc ks := by
  obtain ⟨p, e, R, s, m, args, below, meth, c, Q, G'⟩ := X
  obtain ⟨hx, hb, -⟩ := C
  exact fun H locs ls hR hf hl => lv_iand hx hb d (k H locs ls hR hf hl)
theorem dk_ior (C : dk_C X cc own nL ret rm G) {x y : Int32} (d : decode cc pc = .ok (.ior, 1)) (k : dk_W X (pc + 1) L (.int (x ||| y) :: S) n h kc ks) : dk_W X pc L (.int y :: .int x :: S) n h kc ks := by
  obtain ⟨p, e, R, s, m, args, below, meth, c, Q, G'⟩ := X
  obtain ⟨hx, hb, -⟩ := C
  exact fun H locs ls hR hf hl => lv_ior hx hb d (k H locs ls hR hf hl)
theorem dk_ishl (C : dk_C X cc own nL ret rm G) {x y : Int32} (d : decode cc pc = .ok (.ishl, 1)) (k : dk_W X (pc + 1) L (.int (x <<< (y &&& 31)) :: S) n h kc ks) : dk_W X pc L (.int y :: .int x :: S) n h kc ks := by
  obtain ⟨p, e, R, s, m, args, below, meth, c, Q, G'⟩ := X
  obtain ⟨hx, hb, -⟩ := C
  exact fun H locs ls hR hf hl => lv_ishl hx hb d (k H locs ls hR hf hl)
theorem dk_ishr (C : dk_C X cc own nL ret rm G) {x y : Int32} (d : decode cc pc = .ok (.ishr, 1)) (k : dk_W X (pc + 1) L (.int (x >>> (y &&& 31)) :: S) n h kc ks) : dk_W X pc L (.int y :: .int x :: S) n h kc ks := by
  obtain ⟨p, e, R, s, m, args, below, meth, c, Q, G'⟩ := X
  obtain ⟨hx, hb, -⟩ := C
  exact fun H locs ls hR hf hl => lv_ishr hx hb d (k H locs ls hR hf hl)
theorem dk_idiv (C : dk_C X cc own nL ret rm G) {x y : Int32} (d : decode cc pc = .ok (.idiv, 1)) (hne : ¬ y = 0) (k : dk_W X (pc + 1) L (.int (x / y) :: S) n h kc ks) : dk_W X pc L (.int y :: .int x :: S) n h kc ks := by
  obtain ⟨p, e, R, s, m, args, below, meth, c, Q, G'⟩ := X
  obtain ⟨hx, hb, -⟩ := C
  exact fun H locs ls hR hf hl => lv_idiv hx hb d hne (k H locs ls hR hf hl)
theorem dk_irem (C : dk_C X cc own nL ret rm G) {x y : Int32} (d : decode cc pc = .ok (.irem, 1)) (hne : ¬ y = 0) (k : dk_W X (pc + 1) L (.int (x - x / y * y) :: S) n h kc ks) : dk_W X pc L (.int y :: .int x :: S) n h kc ks := by
  obtain ⟨p, e, R, s, m, args, below, meth, c, Q, G'⟩ := X
  obtain ⟨hx, hb, -⟩ := C
  exact fun H locs ls hR hf hl => lv_irem hx hb d hne (k H locs ls hR hf hl)
theorem dk_ladd (C : dk_C X cc own nL ret rm G) {x y : Int64} (d : decode cc pc = .ok (.ladd, 1)) (k : dk_W X (pc + 1) L (.long (x + y) :: S) n h kc ks) : dk_W X pc L (.long y :: .long x :: S) n h kc ks := by
  obtain ⟨p, e, R, s, m, args, below, meth, c, Q, G'⟩ := X
  obtain ⟨hx, hb, -⟩ := C
  exact fun H locs ls hR hf hl => lv_ladd hx hb d (k H locs ls hR hf hl)
theorem dk_lsub (C : dk_C X cc own nL ret rm G) {x y : Int64} (d : decode cc pc = .ok (.lsub, 1)) (k : dk_W X (pc + 1) L (.long (x - y) :: S) n h kc ks) : dk_W X pc L (.long y :: .long x :: S) n h kc ks := by
  obtain ⟨p, e, R, s, m, args, below, meth, c, Q, G'⟩ := X
  obtain ⟨hx, hb, -⟩ := C
  exact fun H locs ls hR hf hl => lv_lsub hx hb d (k H locs ls hR hf hl)
theorem dk_fadd (C : dk_C X cc own nL ret rm G) {x y : UInt32} (d : decode cc pc = .ok (.fadd, 1)) (hne : vf_n32 (FP.fadd x y)) (k : dk_W X (pc + 1) L (.float (FP.fadd x y) :: S) n h kc ks) : dk_W X pc L (.float y :: .float x :: S) n h kc ks := by
  obtain ⟨p, e, R, s, m, args, below, meth, c, Q, G'⟩ := X
  obtain ⟨hx, hb, -⟩ := C
  exact fun H locs ls hR hf hl => lv_fadd hx hb d hne (k H locs ls hR hf hl)
theorem dk_fsub (C : dk_C X cc own nL ret rm G) {x y : UInt32} (d : decode cc pc = .ok (.fsub, 1)) (hne : vf_n32 (FP.fsub x y)) (k : dk_W X (pc + 1) L (.float (FP.fsub x y) :: S) n h kc ks) : dk_W X pc L (.float y :: .float x :: S) n h kc ks := by
  obtain ⟨p, e, R, s, m, args, below, meth, c, Q, G'⟩ := X
  obtain ⟨hx, hb, -⟩ := C
  exact fun H locs ls hR hf hl => lv_fsub hx hb d hne (k H locs ls hR hf hl)
theorem dk_fmul (C : dk_C X cc own nL ret rm G) {x y : UInt32} (d : decode cc pc = .ok (.fmul, 1)) (hne : vf_n32 (FP.fmul x y)) (k : dk_W X (pc + 1) L (.float (FP.fmul x y) :: S) n h kc ks) : dk_W X pc L (.float y :: .float x :: S) n h kc ks := by
  obtain ⟨p, e, R, s, m, args, below, meth, c, Q, G'⟩ := X
  obtain ⟨hx, hb, -⟩ := C
  exact fun H locs ls hR hf hl => lv_fmul hx hb d hne (k H locs ls hR hf hl)
theorem dk_fdiv (C : dk_C X cc own nL ret rm G) {x y : UInt32} (d : decode cc pc = .ok (.fdiv, 1)) (hne : vf_n32 (FP.fdiv x y)) (k : dk_W X (pc + 1) L (.float (FP.fdiv x y) :: S) n h kc ks) : dk_W X pc L (.float y :: .float x :: S) n h kc ks := by
  obtain ⟨p, e, R, s, m, args, below, meth, c, Q, G'⟩ := X
  obtain ⟨hx, hb, -⟩ := C
  exact fun H locs ls hR hf hl => lv_fdiv hx hb d hne (k H locs ls hR hf hl)
theorem dk_i2l (C : dk_C X cc own nL ret rm G) {x : Int32} (d : decode cc pc = .ok (.i2l, 1)) (k : dk_W X (pc + 1) L (.long x.toInt64 :: S) n h kc ks) : dk_W X pc L (.int x :: S) n h kc ks := by
  obtain ⟨p, e, R, s, m, args, below, meth, c, Q, G'⟩ := X
  obtain ⟨hx, hb, -⟩ := C
  exact fun H locs ls hR hf hl => lv_i2l hx hb d rfl (k H locs ls hR hf hl)
theorem dk_i2f (C : dk_C X cc own nL ret rm G) {x : Int32} (d : decode cc pc = .ok (.i2f, 1)) (k : dk_W X (pc + 1) L (.float (FP.i2f x) :: S) n h kc ks) : dk_W X pc L (.int x :: S) n h kc ks := by
  obtain ⟨p, e, R, s, m, args, below, meth, c, Q, G'⟩ := X
  obtain ⟨hx, hb, -⟩ := C
  exact fun H locs ls hR hf hl => lv_i2f hx hb d (k H locs ls hR hf hl)
theorem dk_l2f (C : dk_C X cc own nL ret rm G) {x : Int64} (d : decode cc pc = .ok (.l2f, 1)) (k : dk_W X (pc + 1) L (.float (FP.l2f x) :: S) n h kc ks) : dk_W X pc L (.long x :: S) n h kc ks := by
  obtain ⟨p, e, R, s, m, args, below, meth, c, Q, G'⟩ := X
  obtain ⟨hx, hb, -⟩ := C
  exact fun H locs ls hR hf hl => lv_l2f hx hb d (k H locs ls hR hf hl)
theorem dk_f2d (C : dk_C X cc own nL ret rm G) {x : UInt32} (d : decode cc pc = .ok (.f2d, 1)) (hne : vf_n64 (FP.f2d x)) (k : dk_W X (pc + 1) L (.double (FP.f2d x) :: S) n h kc ks) : dk_W X pc L (.float x :: S) n h kc ks := by
  obtain ⟨p, e, R, s, m, args, below, meth, c, Q, G'⟩ := X
  obtain ⟨hx, hb, -⟩ := C
  exact fun H locs ls hR hf hl => lv_f2d hx hb d hne (k H locs ls hR hf hl)
theorem dk_lcmp (C : dk_C X cc own nL ret rm G) {x y : Int64} (d : decode cc pc = .ok (.lcmp, 1)) (k : dk_W X (pc + 1) L (.int (lg_cmp x y) :: S) n h kc ks) : dk_W X pc L (.long y :: .long x :: S) n h kc ks := by
  obtain ⟨p, e, R, s, m, args, below, meth, c, Q, G'⟩ := X
  obtain ⟨hx, hb, -⟩ := C
  exact fun H locs ls hR hf hl => W.lcmp hx hb d (k H locs ls hR hf hl)
theorem dk_fcmp (C : dk_C X cc own nL ret rm G) {x y : UInt32} {op : CmpOp} (d : decode cc pc = .ok (.fcmp op, 1)) (k : dk_W X (pc + 1) L (.int (Op.cmpValue (FP.fcmp x y) op) :: S) n h kc ks) : dk_W X pc L (.float y :: .float x :: S) n h kc ks := by
  obtain ⟨p, e, R, s, m, args, below, meth, c, Q, G'⟩ := X
  obtain ⟨hx, hb, -⟩ := C
  exact fun H locs ls hR hf hl => lv_fcmp hx hb d (k H locs ls hR hf hl)
theorem dk_dcmp (C : dk_C X cc own nL ret rm G) {x y : UInt64} {op : CmpOp} (d : decode cc pc = .ok (.dcmp op, 1)) (k : dk_W X (pc + 1) L (.int (Op.cmpValue (FP.dcmp x y) op) :: S) n h kc ks) : dk_W X pc L (.double y :: .double x :: S) n h kc ks := by
  obtain ⟨p, e, R, s, m, args, below, meth, c, Q, G'⟩ := X
  obtain ⟨hx, hb, -⟩ := C
  exact fun H locs ls hR hf hl => lv_dcmp hx hb d (k H locs ls hR hf hl)
theorem dk_dup (C : dk_C X cc own nL ret rm G) {v : Value} (d : decode cc pc = .ok (.dup, 1)) (hv : v.category = 1) (k : dk_W X (pc + 1) L (v :: v :: S) n h kc ks) : dk_W X pc L (v :: S) n h kc ks := by
  obtain ⟨p, e, R, s, m, args, below, meth, c, Q, G'⟩ := X
  obtain ⟨hx, hb, -⟩ := C
  exact fun H locs ls hR hf hl => lv_dup hx hb d (by rw [dk_rv_cat]; exact hv) (k H locs ls hR hf hl)
theorem dk_dup2 (C : dk_C X cc own nL ret rm G) {v u : Value} (d : decode cc pc = .ok (.dup2, 1)) (hv : v.category = 1) (hu : u.category = 1) (k : dk_W X (pc + 1) L (v :: u :: v :: u :: S) n h kc ks) : dk_W X pc L (v :: u :: S) n h kc ks := by
  obtain ⟨p, e, R, s, m, args, below, meth, c, Q, G'⟩ := X
  obtain ⟨hx, hb, -⟩ := C
  exact fun H locs ls hR hf hl => lv_dup2_11 hx hb d (by rw [dk_rv_cat]; exact hv) (by rw [dk_rv_cat]; exact hu) (k H locs ls hR hf hl)
theorem dk_if_eq (C : dk_C X cc own nL ret rm G) {x : Int32} {off : Int} (tgt : Nat) (d : decode cc pc = .ok (.ifCond .eq off, 3)) (ht : (pc : Int) + off = (tgt : Int)) (kt : x = 0 → dk_W X tgt L S n h kc ks) (kf : ¬ x = 0 → dk_W X (pc + 3) L S n h kc ks) : dk_W X pc L (.int x :: S) n h kc ks := by
  obtain ⟨p, e, R, s, m, args, below, meth, c, Q, G'⟩ := X
  obtain ⟨hx, hb, -⟩ := C
  exact fun H locs ls hR hf hl => lv_if_eq hx hb d ht (fun z => kt z H locs ls hR hf hl) (fun z => kf z H locs ls hR hf hl)
theorem dk_if_ne (C : dk_C X cc own nL ret rm G) {x : Int32} {off : Int} (tgt : Nat) (d : decode cc pc = .ok (.ifCond .ne off, 3)) (ht : (pc : Int) + off = (tgt : Int)) (kt : ¬ x = 0 → dk_W X tgt L S n h kc ks) (kf : x = 0 → dk_W X (pc + 3) L S n h kc ks) : dk_W X pc L (.int x :: S) n h kc ks := by
  obtain ⟨p, e, R, s, m, args, below, meth, c, Q, G'⟩ := X
  obtain ⟨hx, hb, -⟩ := C
  exact fun H locs ls hR hf hl => lv_if_ne hx hb d ht (fun z => kt z H locs ls hR hf hl) (fun z => kf z H locs ls hR hf hl)
theorem dk_if_lt (C : dk_C X cc own nL ret rm G) {x : Int32} {off : Int} (tgt : Nat) (d : decode cc pc = .ok (.ifCond .lt off, 3)) (ht : (pc : Int) + off = (tgt : Int)) (kt : x < 0 → dk_W X tgt L S n h kc ks) (kf : ¬ x < 0 → dk_W X (pc + 3) L S n h kc ks) : dk_W X pc L (.int x :: S) n h kc ks := by
  obtain ⟨p, e, R, s, m, args, below, meth, c, Q, G'⟩ := X
  obtain ⟨hx, hb, -⟩ := C
  exact fun H locs ls hR hf hl => lv_if_lt hx hb d ht (fun z => kt z H locs ls hR hf hl) (fun z => kf z H locs ls hR hf hl)
theorem dk_if_ge (C : dk_C X cc own nL ret rm G) {x : Int32} {off : Int} (tgt : Nat) (d : decode cc pc = .ok (.ifCond .ge off, 3)) (ht : (pc : Int) + off = (tgt : Int)) (kt : 0 ≤ x → dk_W X tgt L S n h kc ks) (kf : ¬ 0 ≤ x → dk_W X (pc + 3) L S n h kc ks) : dk_W X pc L (.int x :: S) n h kc ks := by
  obtain ⟨p, e, R, s, m, args, below, meth, c, Q, G'⟩ := X
  obtain ⟨hx, hb, -⟩ := C
  exact fun H locs ls hR hf hl => lv_if_ge hx hb d ht (fun z => kt z H locs ls hR hf hl) (fun z => kf z H locs ls hR hf hl)
theorem dk_if_gt (C : dk_C X cc own nL ret rm G) {x : Int32} {off : Int} (tgt : Nat) (d : decode cc pc = .ok (.ifCond .gt off, 3)) (ht : (pc : Int) + off = (tgt : Int)) (kt : 0 < x → dk_W X tgt L S n h kc ks) (kf : ¬ 0 < x → dk_W X (pc + 3) L S n h kc ks) : dk_W X pc L (.int x :: S) n h kc ks := by
  obtain ⟨p, e, R, s, m, args, below, meth, c, Q, G'⟩ := X
  obtain ⟨hx, hb, -⟩ := C
  exact fun H locs ls hR hf hl => lv_if_gt hx hb d ht (fun z => kt z H locs ls hR hf hl) (fun z => kf z H locs ls hR hf hl)
theorem dk_if_le (C : dk_C X cc own nL ret rm G) {x : Int32} {off : Int} (tgt : Nat) (d : decode cc pc = .ok (.ifCond .le off, 3)) (ht : (pc : Int) + off = (tgt : Int)) (kt : x ≤ 0 → dk_W X tgt L S n h kc ks) (kf : ¬ x ≤ 0 → dk_W X (pc + 3) L S n h kc ks) : dk_W X pc L (.int x :: S) n h kc ks := by
  obtain ⟨p, e, R, s, m, args, below, meth, c, Q, G'⟩ := X
  obtain ⟨hx, hb, -⟩ := C
  exact fun H locs ls hR hf hl => lv_if_le hx hb d ht (fun z => kt z H locs ls hR hf hl) (fun z => kf z H locs ls hR hf hl)
theorem dk_icmp_eq (C : dk_C X cc own nL ret rm G) {x y : Int32} {off : Int} (tgt : Nat) (d : decode cc pc = .ok (.if_icmp .eq off, 3)) (ht : (pc : Int) + off = (tgt : Int)) (kt : x = y → dk_W X tgt L S n h kc ks) (kf : ¬ x = y → dk_W X (pc + 3) L S n h kc ks) : dk_W X pc L (.int y :: .int x :: S) n h kc ks := by
  obtain ⟨p, e, R, s, m, args, below, meth, c, Q, G'⟩ := X
  obtain ⟨hx, hb, -⟩ := C
  exact fun H locs ls hR hf hl => lv_icmp_eq hx hb d ht (fun z => kt z H locs ls hR hf hl) (fun z => kf z H locs ls hR hf hl)
theorem dk_icmp_ne (C : dk_C X cc own nL ret rm G) {x y : Int32} {off : Int} (tgt : Nat) (d : decode cc pc = .ok (.if_icmp .ne off, 3)) (ht : (pc : Int) + off = (tgt : Int)) (kt : ¬ x = y → dk_W X tgt L S n h kc ks) (kf : x = y → dk_W X (pc + 3) L S n h kc ks) : dk_W X pc L (.int y :: .int x :: S) n h kc ks := by
  obtain ⟨p, e, R, s, m, args, below, meth, c, Q, G'⟩ := X
  obtain ⟨hx, hb, -⟩ := C
  exact fun H locs ls hR hf hl => lv_icmp_ne hx hb d ht (fun z => kt z H locs ls hR hf hl) (fun z => kf z H locs ls hR hf hl)
theorem dk_icmp_lt (C : dk_C X cc own nL ret rm G) {x y : Int32} {off : Int} (tgt : Nat) (d : decode cc pc = .ok (.if_icmp .lt off, 3)) (ht : (pc : Int) + off = (tgt : Int)) (kt : x < y → dk_W X tgt L S n h kc ks) (kf : ¬ x < y → dk_W X (pc + 3) L S n h kc ks) : dk_W X pc L (.int y :: .int x :: S) n h kc ks := by
  obtain ⟨p, e, R, s, m, args, below, meth, c, Q, G'⟩ := X
  obtain ⟨hx, hb, -⟩ := C
  exact fun H locs ls hR hf hl => lv_icmp_lt hx hb d ht (fun z => kt z H locs ls hR hf hl) (fun z => kf z H locs ls hR hf hl)
theorem dk_icmp_ge (C : dk_C X cc own nL ret rm G) {x y : Int32} {off : Int} (tgt : Nat) (d : decode cc pc = .ok (.if_icmp .ge off, 3)) (ht : (pc : Int) + off = (tgt : Int)) (kt : y ≤ x → dk_W X tgt L S n h kc ks) (kf : ¬ y ≤ x → dk_W X (pc + 3) L S n h kc ks) : dk_W X pc L (.int y :: .int x :: S) n h kc ks := by
  obtain ⟨p, e, R, s, m, args, below, meth, c, Q, G'⟩ := X
  obtain ⟨hx, hb, -⟩ := C
  exact fun H locs ls hR hf hl => lv_icmp_ge hx hb d ht (fun z => kt z H locs ls hR hf hl) (fun z => kf z H locs ls hR hf hl)
theorem dk_icmp_gt (C : dk_C X cc own nL ret rm G) {x y : Int32} {off : Int} (tgt : Nat) (d : decode cc pc = .ok (.if_icmp .gt off, 3)) (ht : (pc : Int) + off = (tgt : Int)) (kt : y < x → dk_W X tgt L S n h kc ks) (kf : ¬ y < x → dk_W X (pc + 3) L S n h kc ks) : dk_W X pc L (.int y :: .int x :: S) n h kc ks := by
  obtain ⟨p, e, R, s, m, args, below, meth, c, Q, G'⟩ := X
  obtain ⟨hx, hb, -⟩ := C
  exact fun H locs ls hR hf hl => lv_icmp_gt hx hb d ht (fun z => kt z H locs ls hR hf hl) (fun z => kf z H locs ls hR hf hl)
theorem dk_icmp_le (C : dk_C X cc own nL ret rm G) {x y : Int32} {off : Int} (tgt : Nat) (d : decode cc pc = .ok (.if_icmp .le off, 3)) (ht : (pc : Int) + off = (tgt : Int)) (kt : x ≤ y → dk_W X tgt L S n h kc ks) (kf : ¬ x ≤ y → dk_W X (pc + 3) L S n h kc ks) : dk_W X pc L (.int y :: .int x :: S) n h kc ks := by
  obtain ⟨p, e, R, s, m, args, below, meth, c, Q, G'⟩ := X
  obtain ⟨hx, hb, -⟩ := C
  exact fun H locs ls hR hf hl => lv_icmp_le hx hb d ht (fun z => kt z H locs ls hR hf hl) (fun z => kf z H locs ls hR hf hl)
theorem dk_goto (C : dk_C X cc own nL ret rm G) {off : Int} (tgt : Nat) (d : decode cc pc = .ok (.goto off, 3)) (ht : (pc : Int) + off = (tgt : Int)) (k : dk_W X tgt L S n h kc ks) : dk_W X pc L S n h kc ks := by
  obtain ⟨p, e, R, s, m, args, below, meth, c, Q, G'⟩ := X
  obtain ⟨hx, hb, -⟩ := C
  exact fun H locs ls hR hf hl => lv_goto hx hb d ht (k H locs ls hR hf hl)
theorem dk_tableIn (C : dk_C X cc own nL ret rm G) {dflt lo hi : Int} {offs : Array Int} {len : Nat} {x : Int32} {off : Int} (tgt : Nat) (d : decode cc pc = .ok (.tableswitch dflt lo hi offs, len)) (h1 : ¬ x.toInt < lo) (h2 : ¬ hi < x.toInt) (ho : offs[(x.toInt - lo).toNat]? = some off) (ht : (pc : Int) + off = (tgt : Int)) (k : dk_W X tgt L S n h kc ks) : dk_W X pc L (.int x :: S) n h kc ks := by
  obtain ⟨p, e, R, s, m, args, below, meth, c, Q, G'⟩ := X
  obtain ⟨hx, hb, -⟩ := C
  exact fun H locs ls hR hf hl => lv_tableIn hx hb d h1 h2 ho ht (k H locs ls hR hf hl)
theorem dk_tableOut (C : dk_C X cc own nL ret rm G) {dflt lo hi : Int} {offs : Array Int} {len : Nat} {x : Int32} (tgt : Nat) (d : decode cc pc = .ok (.tableswitch dflt lo hi offs, len)) (h1 : x.toInt < lo ∨ hi < x.toInt) (ht : (pc : Int) + dflt = (tgt : Int)) (k : dk_W X tgt L S n h kc ks) : dk_W X pc L (.int x :: S) n h kc ks := by
  obtain ⟨p, e, R, s, m, args, below, meth, c, Q, G'⟩ := X
  obtain ⟨hx, hb, -⟩ := C
  exact fun H locs ls hR hf hl => lv_tableOut hx hb d h1 ht (k H locs ls hR hf hl)
theorem dk_getf (C : dk_C X cc own nL ret rm G) {idx ci kf a : Nat} (F : dk_F own idx ci kf) (hs : dk_SH a = .inl ci) (ha : a < n) (v : Value) (hv : dk_av h ((dk_ks ci).getD kf 0) a kf = v) (d : decode cc pc = .ok (.getfield idx, 3)) (k : dk_W X (pc + 3) L (v :: S) n h kc ks) : dk_W X pc L (.ref a :: S) n h kc ks := by
  obtain ⟨p, e, R, s, m, args, below, meth, c, Q, G'⟩ := X
  obtain ⟨hx, hb, hml, hown, hts, hr, hlk, hRm, hG, hK⟩ := C
  subst hG
  intro H locs ls hR hf hl
  obtain ⟨Cn, T, hc, hin, hkN, hlink⟩ := F
  have hat := hR.2.2.1 a ha
  unfold dk_at at hat
  rw [hs] at hat
  obtain ⟨cell, q1, q2, q3, q4⟩ := hat
  obtain ⟨hS, hfc, kC, hkC, hkind⟩ := hK.1.1 ci _ hc
  obtain ⟨cf, kf', fi, f, hi, hsl⟩ := hS kf hkN
  refine W.getf (v := dk_rv _ v) hx hb hown (hts _ hlink) hi (u_facts hfc hkC (u_lays hts hin hkN) hi).1 q1 (by rw [q3]; exact fun h => by cases h) ?_ rfl rfl d (k H locs ls hR hf hl)
  rw [hsl, q4 kf hkN]
  show some (dk_rv _ (dk_av h ((dk_ks ci).getD kf 0) a kf)) = _
  rw [hv]
theorem dk_putf (C : dk_C X cc own nL ret rm G) {idx ci kf a : Nat} {ty : FieldType} (F : dk_F own idx ci kf) (Fw : dk_Fw ci kf ty) (hs : dk_SH a = .inl ci) (ha : a < n) {v : Value} (hn : narrow ty (dk_rv G v) = dk_rv G v) (hfit : fits ty (dk_rv G v) = true) (h' : dk_H) (hup : dk_Up h h' ((dk_ks ci).getD kf 0) a kf v) (d : decode cc pc = .ok (.putfield idx, 3)) (k : dk_W X (pc + 3) L S n h' kc ks) : dk_W X pc L (v :: .ref a :: S) n h kc ks := by
  obtain ⟨p, e, R, s, m, args, below, meth, c, Q, G'⟩ := X
  obtain ⟨hx, hb, hml, hown, hts, hr, hlk, hRm, hG, hK⟩ := C
  subst hG
  intro H locs ls hR hf hl
  obtain ⟨Cn, T, hc, hin, hkN, hlink⟩ := F
  obtain ⟨hN, hFw⟩ := Fw
  obtain ⟨hfin, hd⟩ := hFw _ _ _ hc
  obtain ⟨⟨ty0, hty⟩, hnm⟩ := hN _ _ _ hc
  have hap := va_apart (own := own) hts hin ty0 hty hnm hK.1 hc
  have hat := hR.2.2.1 a ha
  unfold dk_at at hat
  rw [hs] at hat
  obtain ⟨cell, q1, q2, q3, q4⟩ := hat
  obtain ⟨hS, hfc, kC, hkC, hkind⟩ := hK.1.1 ci _ hc
  obtain ⟨cf, kf', fi, f, hi, hsl⟩ := hS kf hkN
  have hlay := hts _ (hin _ (u_in_lay hkN))
  unfold u_lay at hlay
  rw [if_neg (by rw [hfin]; decide)] at hlay
  have hst := (u_facts hfc hkC (u_lays hts hin hkN) hi).1
  have h6 := u_store hfc hkC hkind hlay hi hd hn hfit
  refine W.putK hx hb (f := f) ⟨hown, hts _ hlink, ⟨_, _, _, hi⟩, hst⟩ (by rw [q2]; exact h6) q1 q3 (by rw [hsl]; exact k2_hasslot (q4 kf hkN)) rfl rfl d fun H' e1 e2 e3 => ?_
  rw [hsl] at e1 ⊢
  refine k H' _ ls (hR.set hup e2 e3 fun _ => ?_) (fun q hq => ?_) hl
  · unfold dk_at
    rw [hs]
    refine t_OB.to (V := updV (fun k => dk_rv _ (dk_av h ((dk_ks ci).getD k 0) a k)) kf (dk_rv _ v)) ⟨_, e1, q2, q3, t_set q4 hap hkN _⟩ (fun j _ => ?_)
    unfold updV
    by_cases e9 : j = kf
    · subst e9; rw [if_pos rfl, hup.1]
    · rw [if_neg e9, hup.2 _ a j (Or.inr e9)]
  · rcases List.mem_append.mp hq with h1 | h1
    · exact hf q h1
    · rw [List.mem_singleton.mp h1]; exact Nat.le_add_right _ _
theorem dk_putz (C : dk_C X cc own nL ret rm G) (hin2 : X.2.2.2.2.2.2.2.1.name = "<init>") {idx ci kf a : Nat} {ty : FieldType} (F : dk_F own idx ci kf) (Fw : dk_Fz own ci kf ty) (hs : dk_SH a = .inl ci) (ha : a < n) {v : Value} (hn : narrow ty (dk_rv G v) = dk_rv G v) (hfit : fits ty (dk_rv G v) = true) (h' : dk_H) (hup : dk_Up h h' ((dk_ks ci).getD kf 0) a kf v) (d : decode cc pc = .ok (.putfield idx, 3)) (k : dk_W X (pc + 3) L S n h' kc ks) : dk_W X pc L (v :: .ref a :: S) n h kc ks := by
  obtain ⟨p, e, R, s, m, args, below, meth, c, Q, G'⟩ := X
  obtain ⟨hx, hb, hml, hown, hts, hr, hlk, hRm, hG, hK⟩ := C
  subst hG
  intro H locs ls hR hf hl
  obtain ⟨Cn, T, hc, hin, hkN, hlink⟩ := F
  obtain ⟨hN, hFw⟩ := Fw
  obtain ⟨hfin, hdecl, hd⟩ := hFw _ _ _ hc
  obtain ⟨⟨ty0, hty⟩, hnm⟩ := hN _ _ _ hc
  have hap := va_apart (own := own) hts hin ty0 hty hnm hK.1 hc
  have hat := hR.2.2.1 a ha
  unfold dk_at at hat
  rw [hs] at hat
  obtain ⟨cell, q1, q2, q3, q4⟩ := hat
  obtain ⟨hS, hfc, kC, hkC, hkind⟩ := hK.1.1 ci _ hc
  obtain ⟨cf, kf', fi, f, hi, hsl⟩ := hS kf hkN
  have hlay := hts _ (hin _ (u_in_lay hkN))
  unfold u_lay at hlay
  rw [if_pos hfin] at hlay
  have hst := (u_facts hfc hkC (u_lays hts hin hkN) hi).1
  have hcf : m.cls = cf := by
    obtain ⟨_, _, c', _, _, _, -, -, hf', -, -, -, hown2, -⟩ := Cond.laysFinal_spec hlay
    have e1 : c' = cf := by have := hi.symm.trans hf'; simp at this; exact this.1.symm
    rw [hdecl] at hown2
    rw [← e1]; exact Option.some.inj (hown.symm.trans hown2)
  have h6 := u_fits hfc hkC hkind (Or.inr hlay) hi hd hn hfit
  refine W.putFinK hx hb hown (hts _ hlink) hi hst hcf hin2 (by rw [q2]; exact h6) q1 q3 (by rw [hsl]; exact k2_hasslot (q4 kf hkN)) rfl rfl d fun H' e1 e2 e3 => ?_
  rw [hsl] at e1 ⊢
  refine k H' _ ls (hR.set hup e2 e3 fun _ => ?_) (fun q hq => ?_) hl
  · unfold dk_at
    rw [hs]
    refine t_OB.to (V := updV (fun k => dk_rv _ (dk_av h ((dk_ks ci).getD k 0) a k)) kf (dk_rv _ v)) ⟨_, e1, q2, q3, t_set q4 hap hkN _⟩ (fun j _ => ?_)
    unfold updV
    by_cases e9 : j = kf
    · subst e9; rw [if_pos rfl, hup.1]
    · rw [if_neg e9, hup.2 _ a j (Or.inr e9)]
  · rcases List.mem_append.mp hq with h1 | h1
    · exact hf q h1
    · rw [List.mem_singleton.mp h1]; exact Nat.le_add_right _ _
theorem dk_iald (C : dk_C X cc own nL ret rm G) {a N : Nat} {i : Int32} (hs : dk_SH a = .inr (0, N)) (ha : a < n) (hin : vp_in i N) (d : decode cc pc = .ok (.iaload, 1)) (k : dk_W X (pc + 1) L (.int (h.1 a i.toNatClampNeg) :: S) n h kc ks) : dk_W X pc L (.int i :: .ref a :: S) n h kc ks := by
  obtain ⟨p, e, R, s, m, args, below, meth, c, Q, G'⟩ := X
  obtain ⟨hx, hb, hml, hown, hts, hr, hlk, hRm, hG, hK⟩ := C
  subst hG
  intro H locs ls hR hf hl
  have hat := hR.2.2.1 a ha
  unfold dk_at at hat
  rw [hs] at hat
  have hlt : i.toNatClampNeg < N := Nat.not_le.mp fun q => hin (Or.inr q)
  exact W.iald (v := .int (h.1 a i.toNatClampNeg)) hx hb hat ((hK.1.2 0 _ (dk_tys_at _ (by decide))).1 N _) (fun q => by cases q) (by rw [arrV_size]; exact hin) (by rw [arrV_read _ _ hlt]; rfl) rfl rfl d (k H locs ls hR hf hl)
theorem dk_zald (C : dk_C X cc own nL ret rm G) {a N : Nat} {i : Int32} (hs : dk_SH a = .inr (1, N)) (ha : a < n) (hin : vp_in i N) (d : decode cc pc = .ok (.baload, 1)) (k : dk_W X (pc + 1) L (.int (h.1 a i.toNatClampNeg) :: S) n h kc ks) : dk_W X pc L (.int i :: .ref a :: S) n h kc ks := by
  obtain ⟨p, e, R, s, m, args, below, meth, c, Q, G'⟩ := X
  obtain ⟨hx, hb, hml, hown, hts, hr, hlk, hRm, hG, hK⟩ := C
  subst hG
  intro H locs ls hR hf hl
  have hat := hR.2.2.1 a ha
  unfold dk_at at hat
  rw [hs] at hat
  have hlt : i.toNatClampNeg < N := Nat.not_le.mp fun q => hin (Or.inr q)
  exact W.zald (v := .int (h.1 a i.toNatClampNeg)) hx hb hat ((hK.1.2 1 _ (dk_tys_at _ (by decide))).1 N _) (fun q => by cases q) (by rw [arrV_size]; exact hin) (by rw [arrV_read _ _ hlt]; rfl) rfl rfl d (k H locs ls hR hf hl)
theorem dk_fald (C : dk_C X cc own nL ret rm G) {a N : Nat} {i : Int32} (hs : dk_SH a = .inr (2, N)) (ha : a < n) (hin : vp_in i N) (d : decode cc pc = .ok (.faload, 1)) (k : dk_W X (pc + 1) L (.float (h.2.1 a i.toNatClampNeg) :: S) n h kc ks) : dk_W X pc L (.int i :: .ref a :: S) n h kc ks := by
  obtain ⟨p, e, R, s, m, args, below, meth, c, Q, G'⟩ := X
  obtain ⟨hx, hb, hml, hown, hts, hr, hlk, hRm, hG, hK⟩ := C
  subst hG
  intro H locs ls hR hf hl
  have hat := hR.2.2.1 a ha
  unfold dk_at at hat
  rw [hs] at hat
  have hlt : i.toNatClampNeg < N := Nat.not_le.mp fun q => hin (Or.inr q)
  exact W.fald (v := .float (h.2.1 a i.toNatClampNeg)) hx hb hat ((hK.1.2 2 _ (dk_tys_at _ (by decide))).1 N _) (fun q => by cases q) (by rw [arrV_size]; exact hin) (by rw [arrV_read _ _ hlt]; rfl) rfl rfl d (k H locs ls hR hf hl)
theorem dk_lald (C : dk_C X cc own nL ret rm G) {a N : Nat} {i : Int32} (hs : dk_SH a = .inr (3, N)) (ha : a < n) (hin : vp_in i N) (d : decode cc pc = .ok (.laload, 1)) (k : dk_W X (pc + 1) L (.long (h.2.2.2.1 a i.toNatClampNeg) :: S) n h kc ks) : dk_W X pc L (.int i :: .ref a :: S) n h kc ks := by
  obtain ⟨p, e, R, s, m, args, below, meth, c, Q, G'⟩ := X
  obtain ⟨hx, hb, hml, hown, hts, hr, hlk, hRm, hG, hK⟩ := C
  subst hG
  intro H locs ls hR hf hl
  have hat := hR.2.2.1 a ha
  unfold dk_at at hat
  rw [hs] at hat
  have hlt : i.toNatClampNeg < N := Nat.not_le.mp fun q => hin (Or.inr q)
  exact W.lald (v := .long (h.2.2.2.1 a i.toNatClampNeg)) hx hb hat ((hK.1.2 3 _ (dk_tys_at _ (by decide))).1 N _) (fun q => by cases q) (by rw [arrV_size]; exact hin) (by rw [arrV_read _ _ hlt]; rfl) rfl rfl d (k H locs ls hR hf hl)
theorem dk_dald (C : dk_C X cc own nL ret rm G) {a N : Nat} {i : Int32} (hs : dk_SH a = .inr (4, N)) (ha : a < n) (hin : vp_in i N) (d : decode cc pc = .ok (.daload, 1)) (k : dk_W X (pc + 1) L (.double (h.2.2.2.2 a i.toNatClampNeg) :: S) n h kc ks) : dk_W X pc L (.int i :: .ref a :: S) n h kc ks := by
  obtain ⟨p, e, R, s, m, args, below, meth, c, Q, G'⟩ := X
  obtain ⟨hx, hb, hml, hown, hts, hr, hlk, hRm, hG, hK⟩ := C
  subst hG
  intro H locs ls hR hf hl
  have hat := hR.2.2.1 a ha
  unfold dk_at at hat
  rw [hs] at hat
  have hlt : i.toNatClampNeg < N := Nat.not_le.mp fun q => hin (Or.inr q)
  exact W.dald (v := .double (h.2.2.2.2 a i.toNatClampNeg)) hx hb hat ((hK.1.2 4 _ (dk_tys_at _ (by decide))).1 N _) (fun q => by cases q) (by rw [arrV_size]; exact hin) (by rw [arrV_read _ _ hlt]; rfl) rfl rfl d (k H locs ls hR hf hl)
theorem dk_aald (C : dk_C X cc own nL ret rm G) {a N t : Nat} {i : Int32} (hs : dk_SH a = .inr (t, N)) (ht : 5 ≤ t ∧ t < 9) (ha : a < n) (hin : vp_in i N) (v : Value) (hv : va_rf (h.2.2.1 a i.toNatClampNeg) = v) (d : decode cc pc = .ok (.aaload, 1)) (k : dk_W X (pc + 1) L (v :: S) n h kc ks) : dk_W X pc L (.int i :: .ref a :: S) n h kc ks := by
  obtain ⟨p, e, R, s, m, args, below, meth, c, Q, G'⟩ := X
  obtain ⟨hx, hb, hml, hown, hts, hr, hlk, hRm, hG, hK⟩ := C
  subst hG
  intro H locs ls hR hf hl
  have hat := hR.2.2.1 a ha
  unfold dk_at at hat
  rw [hs] at hat
  have hlt : i.toNatClampNeg < N := Nat.not_le.mp fun q => hin (Or.inr q)
  have he : dk_ek t = 2 := by
    obtain ⟨h5, h9⟩ := ht
    rcases (show t = 5 ∨ t = 6 ∨ t = 7 ∨ t = 8 by omega) with rfl | rfl | rfl | rfl <;> rfl
  have hre : (dk_ty t).isReference = true := by
    obtain ⟨h5, h9⟩ := ht
    rcases (show t = 5 ∨ t = 6 ∨ t = 7 ∨ t = 8 by omega) with rfl | rfl | rfl | rfl <;> rfl
  refine W.aald (v := dk_rv _ v) (ty := dk_ty t) hx hb hat ((hK.1.2 t _ (dk_tys_at _ ht.2)).1 N _) hre (fun q => by cases q) (by rw [arrV_size]; exact hin) ?_ rfl rfl d (k H locs ls hR hf hl)
  rw [arrV_read _ _ hlt]
  show some (dk_rv _ (dk_av h (dk_ek t) a i.toNatClampNeg)) = _
  rw [he, ← hv]
  rfl
theorem dk_iast (C : dk_C X cc own nL ret rm G) {a N : Nat} {i : Int32} {x : Int32} (hs : dk_SH a = .inr (0, N)) (ha : a < n) (hin : vp_in i N) (d : decode cc pc = .ok (.iastore, 1)) (k : dk_W X (pc + 1) L S n (dk_sI h a i.toNatClampNeg x) kc ks) : dk_W X pc L (.int x :: .int i :: .ref a :: S) n h kc ks := by
  obtain ⟨p, e, R, s, m, args, below, meth, c, Q, G'⟩ := X
  obtain ⟨hx, hb, hml, hown, hts, hr, hlk, hRm, hG, hK⟩ := C
  subst hG
  intro H locs ls hR hf hl
  have hat := hR.2.2.1 a ha
  unfold dk_at at hat
  rw [hs] at hat
  have hup := dk_upI h a i.toNatClampNeg x
  refine W.iast hx hb hat ((hK.1.2 0 _ (dk_tys_at _ (by decide))).1 N _) (fun q => by cases q) (by rw [arrV_size]; exact hin) rfl rfl d fun H' e1 e2 e3 => ?_
  refine k H' _ ls (hR.set hup e2 e3 fun _ => ?_) (fun q hq => ?_) hl
  · unfold dk_at
    rw [hs]
    show H'[dk_b _ + a]? = _
    rw [e1, arrV_store]
    congr 2
    funext j
    unfold updV
    by_cases e9 : j = i.toNatClampNeg
    · subst e9; rw [if_pos rfl]; show _ = dk_rv _ (dk_av (dk_sI h a _ x) 0 a _); rw [hup.1]; rfl
    · rw [if_neg e9, hup.2 _ a j (Or.inr e9)]
  · rcases List.mem_append.mp hq with h1 | h1
    · exact hf q h1
    · rw [List.mem_singleton.mp h1]; exact Nat.le_add_right _ _
theorem dk_fast (C : dk_C X cc own nL ret rm G) {a N : Nat} {i : Int32} {x : UInt32} (hs : dk_SH a = .inr (2, N)) (ha : a < n) (hin : vp_in i N) (d : decode cc pc = .ok (.fastore, 1)) (k : dk_W X (pc + 1) L S n (dk_sF h a i.toNatClampNeg x) kc ks) : dk_W X pc L (.float x :: .int i :: .ref a :: S) n h kc ks := by
  obtain ⟨p, e, R, s, m, args, below, meth, c, Q, G'⟩ := X
  obtain ⟨hx, hb, hml, hown, hts, hr, hlk, hRm, hG, hK⟩ := C
  subst hG
  intro H locs ls hR hf hl
  have hat := hR.2.2.1 a ha
  unfold dk_at at hat
  rw [hs] at hat
  have hup := dk_upF h a i.toNatClampNeg x
  refine W.fast hx hb hat ((hK.1.2 2 _ (dk_tys_at _ (by decide))).1 N _) (fun q => by cases q) (by rw [arrV_size]; exact hin) rfl rfl d fun H' e1 e2 e3 => ?_
  refine k H' _ ls (hR.set hup e2 e3 fun _ => ?_) (fun q hq => ?_) hl
  · unfold dk_at
    rw [hs]
    show H'[dk_b _ + a]? = _
    rw [e1, arrV_store]
    congr 2
    funext j
    unfold updV
    by_cases e9 : j = i.toNatClampNeg
    · subst e9; rw [if_pos rfl]; show _ = dk_rv _ (dk_av (dk_sF h a _ x) 1 a _); rw [hup.1]; rfl
    · rw [if_neg e9, hup.2 _ a j (Or.inr e9)]
  · rcases List.mem_append.mp hq with h1 | h1
    · exact hf q h1
    · rw [List.mem_singleton.mp h1]; exact Nat.le_add_right _ _
theorem dk_last (C : dk_C X cc own nL ret rm G) {a N : Nat} {i : Int32} {x : Int64} (hs : dk_SH a = .inr (3, N)) (ha : a < n) (hin : vp_in i N) (d : decode cc pc = .ok (.lastore, 1)) (k : dk_W X (pc + 1) L S n (dk_sL h a i.toNatClampNeg x) kc ks) : dk_W X pc L (.long x :: .int i :: .ref a :: S) n h kc ks := by
  obtain ⟨p, e, R, s, m, args, below, meth, c, Q, G'⟩ := X
  obtain ⟨hx, hb, hml, hown, hts, hr, hlk, hRm, hG, hK⟩ := C
  subst hG
  intro H locs ls hR hf hl
  have hat := hR.2.2.1 a ha
  unfold dk_at at hat
  rw [hs] at hat
  have hup := dk_upL h a i.toNatClampNeg x
  refine W.last hx hb hat ((hK.1.2 3 _ (dk_tys_at _ (by decide))).1 N _) (fun q => by cases q) (by rw [arrV_size]; exact hin) rfl rfl d fun H' e1 e2 e3 => ?_
  refine k H' _ ls (hR.set hup e2 e3 fun _ => ?_) (fun q hq => ?_) hl
  · unfold dk_at
    rw [hs]
    show H'[dk_b _ + a]? = _
    rw [e1, arrV_store]
    congr 2
    funext j
    unfold updV
    by_cases e9 : j = i.toNatClampNeg
    · subst e9; rw [if_pos rfl]; show _ = dk_rv _ (dk_av (dk_sL h a _ x) 3 a _); rw [hup.1]; rfl
    · rw [if_neg e9, hup.2 _ a j (Or.inr e9)]
  · rcases List.mem_append.mp hq with h1 | h1
    · exact hf q h1
    · rw [List.mem_singleton.mp h1]; exact Nat.le_add_right _ _
theorem dk_dast (C : dk_C X cc own nL ret rm G) {a N : Nat} {i : Int32} {x : UInt64} (hs : dk_SH a = .inr (4, N)) (ha : a < n) (hin : vp_in i N) (d : decode cc pc = .ok (.dastore, 1)) (k : dk_W X (pc + 1) L S n (dk_sD h a i.toNatClampNeg x) kc ks) : dk_W X pc L (.double x :: .int i :: .ref a :: S) n h kc ks := by
  obtain ⟨p, e, R, s, m, args, below, meth, c, Q, G'⟩ := X
  obtain ⟨hx, hb, hml, hown, hts, hr, hlk, hRm, hG, hK⟩ := C
  subst hG
  intro H locs ls hR hf hl
  have hat := hR.2.2.1 a ha
  unfold dk_at at hat
  rw [hs] at hat
  have hup := dk_upD h a i.toNatClampNeg x
  refine W.dast hx hb hat ((hK.1.2 4 _ (dk_tys_at _ (by decide))).1 N _) (fun q => by cases q) (by rw [arrV_size]; exact hin) rfl rfl d fun H' e1 e2 e3 => ?_
  refine k H' _ ls (hR.set hup e2 e3 fun _ => ?_) (fun q hq => ?_) hl
  · unfold dk_at
    rw [hs]
    show H'[dk_b _ + a]? = _
    rw [e1, arrV_store]
    congr 2
    funext j
    unfold updV
    by_cases e9 : j = i.toNatClampNeg
    · subst e9; rw [if_pos rfl]; show _ = dk_rv _ (dk_av (dk_sD h a _ x) 4 a _); rw [hup.1]; rfl
    · rw [if_neg e9, hup.2 _ a j (Or.inr e9)]
  · rcases List.mem_append.mp hq with h1 | h1
    · exact hf q h1
    · rw [List.mem_singleton.mp h1]; exact Nat.le_add_right _ _
theorem dk_zast (C : dk_C X cc own nL ret rm G) {a N : Nat} {i : Int32} {x : Int32} (hs : dk_SH a = .inr (1, N)) (ha : a < n) (hin : vp_in i N) (hx0 : narrow .boolean (.int x) = .int x) (d : decode cc pc = .ok (.bastore, 1)) (k : dk_W X (pc + 1) L S n (dk_sI h a i.toNatClampNeg x) kc ks) : dk_W X pc L (.int x :: .int i :: .ref a :: S) n h kc ks := by
  obtain ⟨p, e, R, s, m, args, below, meth, c, Q, G'⟩ := X
  obtain ⟨hx, hb, hml, hown, hts, hr, hlk, hRm, hG, hK⟩ := C
  subst hG
  intro H locs ls hR hf hl
  have hat := hR.2.2.1 a ha
  unfold dk_at at hat
  rw [hs] at hat
  have hup := dk_upI h a i.toNatClampNeg x
  refine W.zast hx hb hat ((hK.1.2 1 _ (dk_tys_at _ (by decide))).1 N _) (fun q => by cases q) (by rw [arrV_size]; exact hin) rfl rfl d fun H' e1 e2 e3 => ?_
  rw [hx0] at e1
  refine k H' _ ls (hR.set hup e2 e3 fun _ => ?_) (fun q hq => ?_) hl
  · unfold dk_at
    rw [hs]
    show H'[dk_b _ + a]? = _
    rw [e1, arrV_store]
    congr 2
    funext j
    unfold updV
    by_cases e9 : j = i.toNatClampNeg
    · subst e9; rw [if_pos rfl]; show _ = dk_rv _ (dk_av (dk_sI h a _ x) 0 a _); rw [hup.1]; rfl
    · rw [if_neg e9, hup.2 _ a j (Or.inr e9)]
  · rcases List.mem_append.mp hq with h1 | h1
    · exact hf q h1
    · rw [List.mem_singleton.mp h1]; exact Nat.le_add_right _ _
theorem dk_aast (C : dk_C X cc own nL ret rm G) {a N t v ci : Nat} {i : Int32} {q : vw_C} (hs : dk_SH a = .inr (t, N)) (ht : 5 ≤ t ∧ t < 9) (ha : a < n) (hin : vp_in i N) (hsv : dk_SH v = .inl ci) (hv : v < n) (hc : vwCl[ci]? = some q) (hq : dk_ty t = .object q.1) (d : decode cc pc = .ok (.aastore, 1)) (k : dk_W X (pc + 1) L S n (dk_sR h a i.toNatClampNeg (some v)) kc ks) : dk_W X pc L (.ref v :: .int i :: .ref a :: S) n h kc ks := by
  obtain ⟨p, e, R, s, m, args, below, meth, c, Q, G'⟩ := X
  obtain ⟨hx, hb, hml, hown, hts, hr, hlk, hRm, hG, hK⟩ := C
  subst hG
  intro H locs ls hR hf hl
  have hat := hR.2.2.1 a ha
  unfold dk_at at hat
  rw [hs] at hat
  have hav := hR.2.2.1 v hv
  unfold dk_at at hav
  rw [hsv] at hav
  obtain ⟨cellV, g1, g2, g3, -⟩ := hav
  have hlt : i.toNatClampNeg < N := Nat.not_le.mp fun q => hin (Or.inr q)
  have h0 : ¬ i < 0 := fun q => hin (Or.inl q)
  have hcls := (hK.1.1 ci q hc).2
  have hRA := (hK.1.2 t _ (dk_tys_at _ ht.2)).2
  rw [show (dk_cT _ t, dk_ty t).2 = .object q.1 from hq] at hRA
  obtain ⟨kA, comp, k1, k2, k3, -⟩ := hRA
  have hcomp : comp = _ := Option.some.inj (k3.symm.trans hcls.1)
  subst hcomp
  obtain ⟨kC, hkC, -⟩ := hcls.2
  have he : dk_ek t = 2 := by
    obtain ⟨h5, h9⟩ := ht
    rcases (show t = 5 ∨ t = 6 ∨ t = 7 ∨ t = 8 by omega) with rfl | rfl | rfl | rfl <;> rfl
  have hup := dk_upR h a i.toNatClampNeg (some v)
  refine W.aast hx hb hat (fun q h => by cases h) (fun h => by cases h) k1 k2 rfl hkC ⟨h0, by rw [arrV_size]; exact hlt⟩ g1 (fun q h => by rw [g3] at h; cases h) (by rw [g2]; exact hkC) (by rw [g2]; exact va_assign hcls) rfl rfl d fun H' e1 e2 e3 => ?_
  refine k H' _ ls (hR.set hup e2 e3 fun _ => ?_) (fun q hq => ?_) hl
  · unfold dk_at
    rw [hs]
    show H'[dk_b _ + a]? = _
    rw [e1, arrV_store]
    congr 2
    funext j
    unfold updV
    by_cases e9 : j = i.toNatClampNeg
    · subst e9; rw [if_pos rfl]; show _ = dk_rv _ (dk_av (dk_sR h a _ (some v)) (dk_ek t) a _); rw [he, hup.1]; rfl
    · rw [if_neg e9, hup.2 _ a j (Or.inr e9)]
  · rcases List.mem_append.mp hq with h1 | h1
    · exact hf q h1
    · rw [List.mem_singleton.mp h1]; exact Nat.le_add_right _ _
theorem dk_widen {kc' ks' : Nat} (h1 : kc ≤ kc') (h2 : ks ≤ ks') (k : dk_W X pc L S n h kc' ks') : dk_W X pc L S n h kc ks := by
  obtain ⟨p, e, R, s, m, args, below, meth, c, Q, G'⟩ := X
  exact fun H locs ls hR hf hl => W.widen h1 h2 (k H locs ls hR hf hl)
end DK
end
section
/-! ===== contracts over the desk layer ===== -/
def dk_Qc (G : dk_G) (n' : Nat) (post : Option Value → dk_H → Prop) : Array Value → State → Outcome → State → Prop := fun _ _ o t => ∃ (r : Option Value) (h' : dk_H), o = .returned (r.map (dk_rv G)) ∧ post r h' ∧ dk_R G n' h' t.heap
def dk_Pc (G : dk_G) (as : List Value) (n : Nat) (h : dk_H) : Array Value → State → Prop := va_Pc (as.map (dk_rv G)) (fun U => dk_K G U ∧ dk_R G n h U.heap)
abbrev dk_ws (y : MethodName) (cc : ByteArray) (nL : Nat) (ret : Option FieldType) : List Cond := .code y cc nL ret :: dk_tbl
/-- the contract of y: at these arguments and this heap it returns, and post holds of its answer and of the heap behind it -/
def dk_M (G : dk_G) (y : MethodName) (cc : ByteArray) (nL : Nat) (ret : Option FieldType) (rm : Room) (as : List Value) (n : Nat) (h : dk_H) (n' : Nat) (post : Option Value → dk_H → Prop) : Prop :=
  Met G.1 y (dk_ws y cc nL ret) rm (dk_Pc G as n h) (dk_Qc G n' post) rm.cells rm.slots (fun q => dk_b G ≤ q)
/-- how a walk of y may end -/
def dk_E (X : dk_X) (n' mc ms : Nat) (post : Option Value → dk_H → Prop) : Prop := match X with
  | (p, e, R, s, m, args, below, meth, c, Q, G) => ∀ (H : Heap) (locs : List Loc) (g : JFrame), W p G.1 e R s m args below meth c H locs mc ms (MQ below (dk_Qc G n' post) args s mc ms (fun q => dk_b G ≤ q)) g → W p G.1 e R s m args below meth c H locs mc ms Q g
theorem dk_blind {G : dk_G} {as : List Value} {n : Nat} {h : dk_H} : FrameBlind (dk_Pc G as n h) := fun a U g mk q => ⟨q.1, q.2.1.same rfl, q.2.2⟩
/-- a contract by a walk of its body -/
theorem dk_met {G : dk_G} {y : MethodName} {cc : ByteArray} {nL : Nat} {ret : Option FieldType} {rm : Room} {as : List Value} {n : Nat} {h : dk_H} {n' : Nat} {post : Option Value → dk_H → Prop} (L : List (Option Value)) (hy : plainName y.cls = true) (hL : dk_pr G 0 L = lv_args 0 (as.map (dk_rv G))) (hlen : (lg_sl (as.map (dk_rv G))).length ≤ nL)
    (body : ∀ X : dk_X, dk_C X cc y.cls nL ret rm G → dk_E X n' rm.cells rm.slots post → X.2.2.2.2.2.2.2.1.name = y.name → dk_W X 0 L [] n h 0 0) : dk_M G y cc nL ret rm as n h n' post := by
  refine Met.ofW (cc := cc) (maxL := nL) (ret := ret) hy rfl ?_
  intro p e s m args below meth c s₁ B hml hv
  obtain ⟨hargs, hK, hR⟩ := hv
  have hts : ∀ w ∈ dk_tbl, w.before args s = true := fun w hw => atoms_spec (ws := dk_ws y cc nL ret) B.pre w (List.mem_cons_of_mem _ hw)
  have hb := body (p, e, rm, s, m, args, below, meth, c, MQ below (dk_Qc G n' post) args s rm.cells rm.slots (fun q => dk_b G ≤ q), G)
    ⟨B.exec, B.bytes, hml, findClass_of_methodNamed B.named, hts, B.returns, B.notSynchronized, rfl, rfl, hK⟩ (fun _ _ _ z => z) (name_of_methodNamed B.named B.method).1
  subst hargs
  rw [lg_entry_eq]
  refine hb s.heap [] _ hR (fun q hq => by cases hq) ?_
  have hl := lv_entry (as.map (dk_rv G)) (n := nL) hlen
  rw [hml, hL]
  exact hl
section DKC
variable {X : dk_X} {cc : ByteArray} {own : String} {nL : Nat} {ret : Option FieldType} {rm : Room} {G : dk_G} {pc : Nat} {L : List (Option Value)} {S : List Value} {n : Nat} {h : dk_H} {kc ks : Nat} {n' mc ms : Nat} {post : Option Value → dk_H → Prop}
theorem dk_iret (C : dk_C X cc own nL (some .int) rm G) (E : dk_E X n mc ms post) {v : Int32} (d : decode cc pc = .ok (.ireturn, 1)) (hc : kc ≤ mc) (hs : ks ≤ ms) (hp : post (some (.int v)) h) : dk_W X pc L [.int v] n h kc ks := by
  obtain ⟨p, e, R, s, m, args, below, meth, c, Q, G'⟩ := X
  obtain ⟨hx, hb, hml, hown, hts, hr, hlk, hRm, hG, hK⟩ := C
  subst hG
  exact fun H locs ls hR hf hl => W.widen hc hs (E H locs _ (W.iret hx hb hr (fun t ht _ => ⟨some (.int v), h, rfl, hp, by rw [ht]; exact hR⟩) hf d hlk))
theorem dk_zret (C : dk_C X cc own nL (some .boolean) rm G) (E : dk_E X n mc ms post) {v : Int32} (hv : narrow .boolean (.int v) = .int v) (d : decode cc pc = .ok (.ireturn, 1)) (hc : kc ≤ mc) (hs : ks ≤ ms) (hp : post (some (.int v)) h) : dk_W X pc L [.int v] n h kc ks := by
  obtain ⟨p, e, R, s, m, args, below, meth, c, Q, G'⟩ := X
  obtain ⟨hx, hb, hml, hown, hts, hr, hlk, hRm, hG, hK⟩ := C
  subst hG
  exact fun H locs ls hR hf hl => W.widen hc hs (E H locs _ (W.zret hx hb hr hv (fun t ht _ => ⟨some (.int v), h, rfl, hp, by rw [ht]; exact hR⟩) hf d hlk))
theorem dk_fret (C : dk_C X cc own nL (some .float) rm G) (E : dk_E X n mc ms post) {v : UInt32} (d : decode cc pc = .ok (.freturn, 1)) (hc : kc ≤ mc) (hs : ks ≤ ms) (hp : post (some (.float v)) h) : dk_W X pc L [.float v] n h kc ks := by
  obtain ⟨p, e, R, s, m, args, below, meth, c, Q, G'⟩ := X
  obtain ⟨hx, hb, hml, hown, hts, hr, hlk, hRm, hG, hK⟩ := C
  subst hG
  exact fun H locs ls hR hf hl => W.widen hc hs (E H locs _ (W.fret hx hb hr (fun t ht _ => ⟨some (.float v), h, rfl, hp, by rw [ht]; exact hR⟩) hf d hlk))
theorem dk_vret (C : dk_C X cc own nL none rm G) (E : dk_E X n mc ms post) (d : decode cc pc = .ok (.return_, 1)) (hc : kc ≤ mc) (hs : ks ≤ ms) (hp : post none h) : dk_W X pc L [] n h kc ks := by
  obtain ⟨p, e, R, s, m, args, below, meth, c, Q, G'⟩ := X
  obtain ⟨hx, hb, hml, hown, hts, hr, hlk, hRm, hG, hK⟩ := C
  subst hG
  exact fun H locs ls hR hf hl => W.widen hc hs (E H locs _ (W.vret hx hb hr (fun t ht _ => ⟨none, h, rfl, hp, by rw [ht]; exact hR⟩) hf d hlk))
theorem dk_aret (C : dk_C X cc own nL ret rm G) (E : dk_E X n mc ms post) {rt : FieldType} (hrt : ret = some rt) (hra : (∃ n, rt = .object n) ∨ ∃ t, rt = .array t) {j : Nat} (d : decode cc pc = .ok (.areturn, 1)) (hc : kc ≤ mc) (hs : ks ≤ ms) (hp : post (some (.retAddr j)) h) : dk_W X pc L [.retAddr j] n h kc ks := by
  obtain ⟨p, e, R, s, m, args, below, meth, c, Q, G'⟩ := X
  obtain ⟨hx, hb, hml, hown, hts, hr, hlk, hRm, hG, hK⟩ := C
  subst hG
  exact fun H locs ls hR hf hl => W.widen hc hs (E H locs _ (W.aret hx hb (hr.trans hrt) hra (Or.inr ⟨_, rfl⟩) (fun t ht _ => ⟨some (.retAddr j), h, rfl, hp, by rw [ht]; exact hR⟩) hf d hlk))
def dk_push (r : Option Value) (S : List Value) : List Value := match r with
  | some v => v :: S
  | none => S
theorem dk_push_map (G : dk_G) (r : Option Value) (S : List Value) : (r.map (dk_rv G)).toList ++ S.map (dk_rv G) = (dk_push r S).map (dk_rv G) := by cases r <;> rfl
theorem dk_cats (G : dk_G) (S : List Value) : ((S.map (dk_rv G)).map fun v => v.category).sum = (S.map fun v => v.category).sum := by
  simp only [List.map_map]
  congr 2
  funext v
  exact dk_rv_cat G v
/-- behind a call -/
theorem dk_back {p : Program} {e : Env} {R : Room} {s : State} {m : MethodId} {args : Array Value} {below : List Frame} {meth : Method} {c : Code} {Q : State → Prop} {G : dk_G} {H : Heap} {locs : List Loc} {ls : Array Slot} {st0 : List Value} {a : Array Value}
    (hr : va_Run p G.1 e R s m args below meth c H locs kc ks mc ms (F0 m pc ls st0) (S.map (dk_rv G)) (dk_Qc G n' post a) (fun q => dk_b G ≤ q)) (hf : ∀ q ∈ locs, dk_b G ≤ q.base) (hl : lv_has ls c.maxLocals (dk_pr G 0 L))
    (k : ∀ (r : Option Value) (h' : dk_H), post r h' → dk_W (p, e, R, s, m, args, below, meth, c, Q, G) (pc + 3) L (dk_push r S) n' h' (kc + mc) (ks + ms)) : W p G.1 e R s m args below meth c H locs kc ks Q (F0 m pc ls st0) := by
  intro T hT X
  obtain ⟨v, st₀, t, T', L', h0, X', hL, e1, e2, ⟨r, h', hv, hp, hR'⟩, st⟩ := hr T hT X
  cases hv
  obtain ⟨t2, a1, b1⟩ := k r h' hp T'.heap (locs ++ L') ls (by rw [e1]; exact hR') (fun q hq => by
      rcases List.mem_append.mp hq with h | h
      · exact hf q h
      · exact hL q h) hl T' rfl X'
  refine ⟨t2, st t2 ?_, b1⟩
  rw [dk_push_map]
  exact a1
/-- a method's place in the tables, for a call -/
def dk_LB (own : String) (idx : Nat) (y : MethodName) (cc : ByteArray) (nL : Nat) (ret : Option FieldType) (np : Nat) : Prop :=
  (Cond.methodLink own idx y ∈ dk_tbl ∧ Cond.initialized y.cls ∈ dk_tbl ∧ Cond.code y cc nL ret ∈ dk_tbl) ∧ y.cls ≠ "java/lang/invoke/MethodHandle" ∧ y.cls ≠ "java/lang/invoke/VarHandle" ∧ (parseMethodDescriptor y.desc).map (fun d => d.parameters.length) = some np
def dk_LV (own : String) (idx : Nat) (y : MethodName) (cc : ByteArray) (nL : Nat) (ret : Option FieldType) (np ci : Nat) : Prop :=
  dk_LB own idx y cc nL ret np ∧ (Cond.instanceMethod y ∈ dk_tbl ∧ Cond.selects y.cls y y ∈ dk_tbl) ∧ ∃ q : vw_C, vwCl[ci]? = some q ∧ q.1 = y.cls
def dk_LS (own : String) (idx : Nat) (y : MethodName) (cc : ByteArray) (nL : Nat) (ret : Option FieldType) (np : Nat) : Prop :=
  dk_LB own idx y cc nL ret np ∧ Cond.static y ∈ dk_tbl
def dk_LI (own : String) (idx : Nat) (y : MethodName) (cc : ByteArray) (nL : Nat) (np : Nat) : Prop :=
  dk_LB own idx y cc nL none np ∧ Cond.instanceMethod y ∈ dk_tbl ∧ y.name = "<init>"
theorem dk_lenR {G : dk_G} {as : List Value} {np : Nat} (h : as.length = np) : (as.map (dk_rv G)).length = np := by rw [List.length_map]; exact h
theorem dk_callV (C : dk_C X cc own nL ret rm G) {y : MethodName} {cc' : ByteArray} {nL' : Nat} {ret' : Option FieldType} {rm' : Room} {a : Nat} {as : List Value} {St : List Value} {idx np ci : Nat}
    (K : dk_LV own idx y cc' nL' ret' np ci) (M : dk_M G y cc' nL' ret' rm' (.ref a :: as) n h n' post) (hs : dk_SH a = .inl ci) (ha : a < n) (hst : St = as.reverse ++ .ref a :: S) (hnp : as.length = np) (hw : (S.map fun v => v.category).sum ≤ 8)
    (hroom : rm'.frames + 1 ≤ rm.frames ∧ 8 + (nL' + 11) + rm'.locals ≤ rm.locals) (hcell : kc + rm'.cells ≤ rm.cells ∧ ks + rm'.slots ≤ rm.slots) (d : decode cc pc = .ok (.invokevirtual idx, 3))
    (k : ∀ (r : Option Value) (h' : dk_H), post r h' → dk_W X (pc + 3) L (dk_push r S) n' h' (kc + rm'.cells) (ks + rm'.slots)) : dk_W X pc L St n h kc ks := by
  obtain ⟨p, e, R, s, m, args, below, meth, c, Q, G'⟩ := X
  obtain ⟨hx, hb, hml, hown, hts, hr, hlk, hRm, hG, hK⟩ := C
  subst hG hst hRm
  intro H locs ls hR hf hl
  obtain ⟨⟨⟨k1, k2, k3⟩, k4, k5, k6⟩, ⟨k7, k8⟩, q, hq, hqn⟩ := K
  have hat := hR.2.2.1 a ha
  unfold dk_at at hat
  rw [hs] at hat
  obtain ⟨cellB, g1, g2, g3, -⟩ := hat
  have hfc := (hK.1.1 ci q hq).2.1
  rw [hqn] at hfc
  refine dk_back (va_runV (As := as.map (dk_rv _)) (C := y.cls) ⟨hx, hb, hml, hown, hts⟩ M (cwV np hts (dk_goodIn ?_) rfl rfl rfl ⟨rfl, k4, k5, k6⟩ hroom) ⟨dk_blind, ⟨cellB, g1, by rw [g3]; rfl, by rw [g2]; exact hfc⟩, fun U hU hW => ⟨rfl, hK.warm hW, by rw [hU]; exact hR⟩⟩ rfl (dk_lenR hnp) (hl.1.trans hml) ?_ (lv_room (by rw [dk_cats]; exact hw)) d hcell) hf hl k
  · intro w hw9
    unfold wsV at hw9
    rcases List.mem_append.mp hw9 with h1 | h1
    · simp only [List.mem_cons, List.not_mem_nil, or_false] at h1
      rcases h1 with rfl | rfl | rfl | rfl
      · exact k1
      · exact k7
      · exact k8
      · exact k2
    · rcases List.mem_cons.mp h1 with rfl | h1
      · exact k3
      · exact h1
  · simp [dk_rv]
theorem dk_callS (C : dk_C X cc own nL ret rm G) {y : MethodName} {cc' : ByteArray} {nL' : Nat} {ret' : Option FieldType} {rm' : Room} {as : List Value} {St : List Value} {idx np : Nat}
    (K : dk_LS own idx y cc' nL' ret' np) (M : dk_M G y cc' nL' ret' rm' as n h n' post) (hst : St = as.reverse ++ S) (hnp : as.length = np) (hw : (S.map fun v => v.category).sum ≤ 8)
    (hroom : rm'.frames + 1 ≤ rm.frames ∧ 8 + (nL' + 11) + rm'.locals ≤ rm.locals) (hcell : kc + rm'.cells ≤ rm.cells ∧ ks + rm'.slots ≤ rm.slots) (d : decode cc pc = .ok (.invokestatic idx, 3))
    (k : ∀ (r : Option Value) (h' : dk_H), post r h' → dk_W X (pc + 3) L (dk_push r S) n' h' (kc + rm'.cells) (ks + rm'.slots)) : dk_W X pc L St n h kc ks := by
  obtain ⟨p, e, R, s, m, args, below, meth, c, Q, G'⟩ := X
  obtain ⟨hx, hb, hml, hown, hts, hr, hlk, hRm, hG, hK⟩ := C
  subst hG hst hRm
  intro H locs ls hR hf hl
  obtain ⟨⟨⟨k1, k2, k3⟩, k4, k5, k6⟩, k7⟩ := K
  refine dk_back (va_runS (As := as.map (dk_rv _)) ⟨hx, hb, hml, hown, hts⟩ M (va_cwS np hts (dk_goodIn ?_) rfl rfl rfl ⟨k4, k5, k6⟩ hroom) ⟨dk_blind, fun U hU hW => ⟨rfl, hK.warm hW, by rw [hU]; exact hR⟩⟩ rfl (dk_lenR hnp) (hl.1.trans hml) ?_ (lv_room (by rw [dk_cats]; exact hw)) d hcell) hf hl k
  · intro w hw9
    unfold va_wsS at hw9
    rcases List.mem_append.mp hw9 with h1 | h1
    · simp only [List.mem_cons, List.not_mem_nil, or_false] at h1
      rcases h1 with rfl | rfl | rfl
      · exact k1
      · exact k7
      · exact k2
    · rcases List.mem_cons.mp h1 with rfl | h1
      · exact k3
      · exact h1
  · simp
theorem dk_callI (C : dk_C X cc own nL ret rm G) {y : MethodName} {cc' : ByteArray} {nL' : Nat} {rm' : Room} {a : Nat} {as : List Value} {St : List Value} {idx np : Nat}
    (K : dk_LI own idx y cc' nL' np) (M : dk_M G y cc' nL' none rm' (.ref a :: as) n h n' post) (hst : St = as.reverse ++ .ref a :: S) (hnp : as.length = np) (hw : (S.map fun v => v.category).sum ≤ 8)
    (hroom : rm'.frames + 1 ≤ rm.frames ∧ 8 + (nL' + 11) + rm'.locals ≤ rm.locals) (hcell : kc + rm'.cells ≤ rm.cells ∧ ks + rm'.slots ≤ rm.slots) (d : decode cc pc = .ok (.invokespecial idx, 3))
    (k : ∀ (r : Option Value) (h' : dk_H), post r h' → dk_W X (pc + 3) L (dk_push r S) n' h' (kc + rm'.cells) (ks + rm'.slots)) : dk_W X pc L St n h kc ks := by
  obtain ⟨p, e, R, s, m, args, below, meth, c, Q, G'⟩ := X
  obtain ⟨hx, hb, hml, hown, hts, hr, hlk, hRm, hG, hK⟩ := C
  subst hG hst hRm
  intro H locs ls hR hf hl
  obtain ⟨⟨⟨k1, k2, k3⟩, k4, k5, k6⟩, k7, k8⟩ := K
  refine dk_back (va_runI (As := as.map (dk_rv _)) (b := dk_b _ + a) ⟨hx, hb, hml, hown, hts⟩ M (cwI np hts (dk_goodIn ?_) rfl rfl rfl (hts _ k2) (hts _ k1) (hts _ k7) k8 ⟨k4, k5, k6⟩ hroom) ⟨dk_blind, fun U hU hW => ⟨rfl, hK.warm hW, by rw [hU]; exact hR⟩⟩ rfl (dk_lenR hnp) (hl.1.trans hml) ?_ (lv_room (by rw [dk_cats]; exact hw)) d hcell) hf hl k
  · intro w hw9
    rcases List.mem_cons.mp hw9 with rfl | h1
    · exact k3
    · exact h1
  · simp [dk_rv]
def dk_LN (own : String) (idx : Nat) (y : MethodName) (cc : ByteArray) (nL : Nat) (np : Nat) : Prop :=
  (Cond.initialized y.cls ∈ dk_tbl ∧ Cond.code y cc nL none ∈ dk_tbl ∧ Cond.instanceMethod y ∈ dk_tbl ∧ y.name = "<init>") ∧ (y.cls ≠ "java/lang/invoke/MethodHandle" ∧ y.cls ≠ "java/lang/invoke/VarHandle" ∧ (parseMethodDescriptor y.desc).map (fun d => d.parameters.length) = some np) ∧ ∀ (G : dk_G) (U : State), dk_K G U → va_Nw (.methodLinkNest own idx y RX7) U
theorem dk_callIN (C : dk_C X cc own nL ret rm G) {y : MethodName} {cc' : ByteArray} {nL' : Nat} {rm' : Room} {a : Nat} {as : List Value} {St : List Value} {idx np : Nat}
    (K : dk_LN own idx y cc' nL' np) (M : dk_M G y cc' nL' none rm' (.ref a :: as) n h n' post) (hst : St = as.reverse ++ .ref a :: S) (hnp : as.length = np) (hw : (S.map fun v => v.category).sum ≤ 8)
    (hroom : rm'.frames + 1 ≤ rm.frames ∧ 8 + (nL' + 11) + rm'.locals ≤ rm.locals) (hcell : kc + rm'.cells ≤ rm.cells ∧ ks + rm'.slots ≤ rm.slots) (d : decode cc pc = .ok (.invokespecial idx, 3))
    (k : ∀ (r : Option Value) (h' : dk_H), post r h' → dk_W X (pc + 3) L (dk_push r S) n' h' (kc + rm'.cells) (ks + rm'.slots)) : dk_W X pc L St n h kc ks := by
  obtain ⟨p, e, R, s, m, args, below, meth, c, Q, G'⟩ := X
  obtain ⟨hx, hb, hml, hown, hts, hr, hlk, hRm, hG, hK⟩ := C
  subst hG hst hRm
  intro H locs ls hR hf hl
  obtain ⟨⟨k2, k3, k7, k8⟩, ⟨k4, k5, k6⟩, k1⟩ := K
  refine dk_back (va_runIN (As := as.map (dk_rv _)) (b := dk_b _ + a) ⟨hx, hb, hml, hown, hts⟩ M ⟨va_cnB np hts (dk_goodIn ?_) rfl rfl rfl (k1 _ _ hK) (hts _ k2) ⟨k4, k5, k6⟩ hroom, k8, hts _ k7⟩ ⟨dk_blind, fun U hU hW => ⟨rfl, hK.warm hW, by rw [hU]; exact hR⟩⟩ rfl (dk_lenR hnp) (hl.1.trans hml) ?_ (lv_room (by rw [dk_cats]; exact hw)) d hcell) hf hl k
  · intro w hw9
    rcases List.mem_cons.mp hw9 with rfl | h1
    · exact k3
    · exact h1
  · simp [dk_rv]
theorem dk_objInit (C : dk_C X cc own nL ret rm G) {idx a : Nat} (hk : Cond.methodLink own idx objectInit ∈ dk_tbl) (h1 : Cond.instanceMethod objectInit ∈ dk_tbl) (h2 : Cond.code objectInit ⟨#[0xb1]⟩ 1 none ∈ dk_tbl) (d : decode cc pc = .ok (.invokespecial idx, 3)) (hfr : 1 ≤ rm.frames) (hlo : (S.map fun v => v.category).sum + 12 ≤ rm.locals)
    (k : dk_W X (pc + 3) L S n h kc ks) : dk_W X pc L (.ref a :: S) n h kc ks := by
  obtain ⟨p, e, R, s, m, args, below, meth, c, Q, G'⟩ := X
  obtain ⟨hx, hb, hml, hown, hts, hr, hlk, hRm, hG, hK⟩ := C
  subst hG hRm
  intro H locs ls hR hf hl
  exact W.objInit hx hb hown (hts _ hk) (hts _ h1) (hts _ h2) rfl hl.1 rfl d hfr (by rw [dk_cats]; show 2 * 0 + _ + 12 ≤ _; omega) (k H locs ls hR hf hl)
theorem dk_mmin (C : dk_C X cc own nL ret rm G) {idx : Nat} (h0 : Cond.methodLink own idx Lib.Math.min.name ∈ dk_tbl) (h1 : Cond.static Lib.Math.min.name ∈ dk_tbl) (h2 : Cond.initialized "java/lang/Math" ∈ dk_tbl) (h3 : Cond.code Lib.Math.min.name Lib.Math.min.code 2 (some .int) ∈ dk_tbl) {x y : Int32} (d : decode cc pc = .ok (.invokestatic idx, 3)) (hfr : 1 ≤ rm.frames) (hlo : (S.map fun v => v.category).sum + 13 ≤ rm.locals) (hc : kc ≤ rm.cells) (hs : ks ≤ rm.slots)
    (k : dk_W X (pc + 3) L (.int (if y < x then y else x) :: S) n h kc ks) : dk_W X pc L (.int y :: .int x :: S) n h kc ks := by
  obtain ⟨p, e, R, s, m, args, below, meth, c, Q, G'⟩ := X
  obtain ⟨hx, hb, hml, hown, hts, hr, hlk, hRm, hG, hK⟩ := C
  subst hG hRm
  intro H locs ls hR hf hl
  exact va_mmin hx hb hl.1.symm hown (hts _ h0) (hts _ h1) (hts _ h2) (hts _ h3) hfr (by rw [dk_cats]; exact hlo) hc hs d (k H locs ls hR hf hl)
theorem dk_mmax (C : dk_C X cc own nL ret rm G) {idx : Nat} (h0 : Cond.methodLink own idx Lib.Math.max.name ∈ dk_tbl) (h1 : Cond.static Lib.Math.max.name ∈ dk_tbl) (h2 : Cond.initialized "java/lang/Math" ∈ dk_tbl) (h3 : Cond.code Lib.Math.max.name Lib.Math.max.code 2 (some .int) ∈ dk_tbl) {x y : Int32} (d : decode cc pc = .ok (.invokestatic idx, 3)) (hfr : 1 ≤ rm.frames) (hlo : (S.map fun v => v.category).sum + 13 ≤ rm.locals) (hc : kc ≤ rm.cells) (hs : ks ≤ rm.slots)
    (k : dk_W X (pc + 3) L (.int (if x < y then y else x) :: S) n h kc ks) : dk_W X pc L (.int y :: .int x :: S) n h kc ks := by
  obtain ⟨p, e, R, s, m, args, below, meth, c, Q, G'⟩ := X
  obtain ⟨hx, hb, hml, hown, hts, hr, hlk, hRm, hG, hK⟩ := C
  subst hG hRm
  intro H locs ls hR hf hl
  exact va_mmax hx hb hl.1.symm hown (hts _ h0) (hts _ h1) (hts _ h2) (hts _ h3) hfr (by rw [dk_cats]; exact hlo) hc hs d (k H locs ls hR hf hl)
theorem dk_gets (C : dk_C X cc own nL ret rm G) {idx : Nat} (j : Nat) (hj : j < 3) (hk : Cond.fieldLink own idx RX3 (dk_sn j) "[I" ∈ dk_tbl) (d : decode cc pc = .ok (.getstatic idx, 3)) (k : dk_W X (pc + 3) L (.retAddr j :: S) n h kc ks) : dk_W X pc L S n h kc ks := by
  obtain ⟨p, e, R, s, m, args, below, meth, c, Q, G'⟩ := X
  obtain ⟨hx, hb, hml, hown, hts, hr, hlk, hRm, hG, hK⟩ := C
  subst hG
  intro H locs ls hR hf hl
  obtain ⟨cf, kf, fi, f, a, cell, h1, h2, h3, h4, h5, h6, h7, h8⟩ := (hK.2.1 j hj).1
  exact W.gets hx hb hown (hts _ hk) h1 h2 h3 h4 (by rw [hR.2.2.2 a (Nat.not_le.mp h8)]; exact h5) (fun e => by rw [e] at h6; cases h6) h7 rfl d (k H locs ls hR hf hl)
theorem dk_saldS (C : dk_C X cc own nL ret rm G) (j : Nat) (hj : j < 3) {i : Int32} (hin : vp_in i (dk_sl j)) (d : decode cc pc = .ok (.iaload, 1)) (k : dk_W X (pc + 1) L (.int (dk_sv j i.toNatClampNeg) :: S) n h kc ks) : dk_W X pc L (.int i :: .retAddr j :: S) n h kc ks := by
  obtain ⟨p, e, R, s, m, args, below, meth, c, Q, G'⟩ := X
  obtain ⟨hx, hb, hml, hown, hts, hr, hlk, hRm, hG, hK⟩ := C
  subst hG
  intro H locs ls hR hf hl
  obtain ⟨cell, h1, h2, h3, h4, h5, h6, h7⟩ := (hK.2.1 j hj).2
  have hlt : i.toNatClampNeg < dk_sl j := Nat.not_le.mp fun q => hin (Or.inr q)
  have hin' : ¬ (i < 0 ∨ cell.slots.size ≤ i.toNatClampNeg) := by
    intro q
    rcases q with q | q
    · exact hin (Or.inl q)
    · omega
  exact W.iald (v := .int (dk_sv j i.toNatClampNeg)) hx hb (by rw [hR.2.2.2 _ (Nat.not_le.mp h7)]; exact h1) h2 h3 hin' (h6 _ hlt) rfl rfl d (k H locs ls hR hf hl)
end DKC
end
section
/-! ===== making cells; copying ints ===== -/
def dk_def (h : dk_H) (i : Nat) : Prop := ∀ k : Nat, h.1 i k = 0 ∧ h.2.1 i k = 0 ∧ h.2.2.1 i k = none ∧ h.2.2.2.1 i k = 0 ∧ h.2.2.2.2 i k = 0
def dk_dv (kd : Nat) : Value := match kd with
  | 0 => .int 0
  | 1 => .float 0
  | 2 => .null
  | 3 => .long 0
  | _ => .double 0
theorem dk_def.av {h : dk_H} {i : Nat} (hd : dk_def h i) (G : dk_G) (kd k : Nat) : dk_rv G (dk_av h kd i k) = dk_dv kd := by
  obtain ⟨h1, h2, h3, h4, h5⟩ := hd k
  match kd with
  | 0 => simp [dk_av, dk_dv, dk_rv, h1]
  | 1 => simp [dk_av, dk_dv, dk_rv, h2]
  | 2 => simp [dk_av, dk_dv, dk_rv, h3, va_rf]
  | 3 => simp [dk_av, dk_dv, dk_rv, h4]
  | _ + 4 => simp [dk_av, dk_dv, dk_rv, h5]
/-- a new cell at the end -/
theorem dk_R.push {G : dk_G} {n : Nat} {h : dk_H} {H H' : Heap} (hR : dk_R G n h H) (htt : G.2.2.2.2.2.2 = true) (hz : H'.size = H.size + 1) (ho : ∀ q : Nat, q < H.size → H'[q]? = H[q]?) (hat : dk_at G h H' n) : dk_R G (n + 1) h H' := by
  obtain ⟨h1, h2, h3, h4⟩ := hR
  have e := h1 htt
  refine ⟨fun _ => by omega, by omega, fun i hi => ?_, fun q hq => by rw [ho q (by omega)]; exact h4 q hq⟩
  by_cases e : i = n
  · subst e; exact hat
  · exact (h3 i (by omega)).kept (fun _ _ => rfl) (ho _ (by omega))
/-- a class whose objects are made -/
def dk_Mk (own : String) (idx ci : Nat) : Prop := ∃ (Cn : String) (T : u_T) (ty : Nat → FieldType), vwCl[ci]? = some (Cn, T, (dk_ks ci).length) ∧ (∀ w ∈ u_ws Cn T (dk_ks ci).length, w ∈ dk_tbl) ∧ (∀ k, k < (dk_ks ci).length → parseFieldDescriptor (T k).2.2.1 = some (ty k)) ∧ (∀ k, k < (dk_ks ci).length → defaultValue (ty k) = dk_dv ((dk_ks ci).getD k 0)) ∧ Cond.classLink own idx Cn ∈ dk_tbl ∧ Cond.instantiable Cn (dk_ks ci).length ∈ dk_tbl ∧ Cond.initialized Cn ∈ dk_tbl
section DKN
variable {X : dk_X} {cc : ByteArray} {own : String} {nL : Nat} {ret : Option FieldType} {rm : Room} {G : dk_G} {pc : Nat} {L : List (Option Value)} {S : List Value} {n : Nat} {h : dk_H} {kc ks : Nat}
theorem dk_new (C : dk_C X cc own nL ret rm G) (htt : G.2.2.2.2.2.2 = true) {idx ci : Nat} (Mk : dk_Mk own idx ci) (hs : dk_SH n = .inl ci) (hd : dk_def h n) (hc : kc + 1 ≤ rm.cells) (hsl : ks + (dk_ks ci).length ≤ rm.slots) (d : decode cc pc = .ok (.new idx, 3)) (k : dk_W X (pc + 3) L (.ref n :: S) (n + 1) h (kc + 1) (ks + (dk_ks ci).length)) : dk_W X pc L S n h kc ks := by
  obtain ⟨p, e, R, s, m, args, below, meth, c, Q, G'⟩ := X
  obtain ⟨hx, hb, hml, hown, hts, hr, hlk, hRm, hG, hK⟩ := C
  subst hG hRm
  intro H locs ls hR hf hl
  obtain ⟨Cn, T, ty, h1, h2, h3, h4, h5, h6, h7⟩ := Mk
  have hKn := hK.1.1 ci _ h1
  have hsz := hR.1 htt
  refine W.newcK hx hb hown (hts _ h5) (hts _ h6) (hts _ h7) rfl d hc hsl hKn.2.1 hsz fun H' kC hkC e1 z1 o1 => ?_
  refine k H' locs ls (hR.push htt (by rw [z1, hsz]) (by rw [hsz]; exact o1) ?_) hf hl
  unfold dk_at
  rw [hs]
  exact (u_born ty hts h2 hKn hkC e1 h3).to (fun j hj => by rw [hd.av, h4 j hj])
theorem dk_newa (C : dk_C X cc own nL ret rm G) (htt : G.2.2.2.2.2.2 = true) {atype : ArrayType} {t N : Nat} {i : Int32} (ht : t < 5) (hty : newarray.typeOf atype = dk_ty t) (harr : Cond.arrayClass (newarray.typeOf atype) ∈ dk_tbl) (hs : dk_SH n = .inr (t, N)) (hd : dk_def h n) (hi : ¬ i < 0) (hN : i.toNatClampNeg = N) (hby : N * 8 ≤ 536870912) (hc : kc + 1 ≤ rm.cells) (hsl : ks + N ≤ rm.slots) (d : decode cc pc = .ok (.newarray atype, 2)) (k : dk_W X (pc + 2) L (.ref n :: S) (n + 1) h (kc + 1) (ks + N)) : dk_W X pc L (.int i :: S) n h kc ks := by
  obtain ⟨p, e, R, s, m, args, below, meth, c, Q, G'⟩ := X
  obtain ⟨hx, hb, hml, hown, hts, hr, hlk, hRm, hG, hK⟩ := C
  subst hG hRm
  intro H locs ls hR hf hl
  have hsz := hR.1 htt
  have hcb : componentBytes (newarray.typeOf atype) ≤ 8 := by cases atype <;> decide
  refine va_newaK hx hb (hts _ harr) rfl d rfl hi hN (Nat.le_trans (Nat.mul_le_mul_left _ hcb) hby) hc hsl hsz fun H' cA e1 z1 o1 hAr hNm => ?_
  refine k H' locs ls (hR.push htt (by rw [z1, hsz]) (by rw [hsz]; exact o1) ?_) hf hl
  have hRA := (hK.1.2 t _ (dk_tys_at _ (by omega))).2
  have hcA : cA = dk_cT G' t := by
    have e2 : s.vm.findClass ("[" ++ (dk_ty t).toString) = some (dk_cT G' t) := by
      rcases (show t = 0 ∨ t = 1 ∨ t = 2 ∨ t = 3 ∨ t = 4 by omega) with rfl | rfl | rfl | rfl | rfl <;> exact hRA
    rw [hty, e2] at hNm
    exact (Option.some.inj hNm).symm
  unfold dk_at
  rw [hs]
  show H'[dk_b _ + n]? = _
  rw [e1, hcA, hty]
  congr 2
  funext j
  rw [hd.av]
  rcases (show t = 0 ∨ t = 1 ∨ t = 2 ∨ t = 3 ∨ t = 4 by omega) with rfl | rfl | rfl | rfl | rfl <;> rfl
theorem dk_anew (C : dk_C X cc own nL ret rm G) (htt : G.2.2.2.2.2.2 = true) {idx t N : Nat} {Cn : String} {i : Int32} (ht : 5 ≤ t ∧ t < 9) (hty : dk_ty t = .object Cn) (hlk0 : Cond.classLink own idx Cn ∈ dk_tbl) (hs : dk_SH n = .inr (t, N)) (hd : dk_def h n) (hi : ¬ i < 0) (hN : i.toNatClampNeg = N) (hby : N * 4 ≤ 536870912) (hc : kc + 1 ≤ rm.cells) (hsl : ks + N ≤ rm.slots) (d : decode cc pc = .ok (.anewarray idx, 3)) (k : dk_W X (pc + 3) L (.ref n :: S) (n + 1) h (kc + 1) (ks + N)) : dk_W X pc L (.int i :: S) n h kc ks := by
  obtain ⟨p, e, R, s, m, args, below, meth, c, Q, G'⟩ := X
  obtain ⟨hx, hb, hml, hown, hts, hr, hlk, hRm, hG, hK⟩ := C
  subst hG hRm
  intro H locs ls hR hf hl
  have hsz := hR.1 htt
  subst hN
  have hover : va_AO Cn s := by
    obtain ⟨-, -, -, a5, a6, a7, a8⟩ := hK
    rcases (show t = 5 ∨ t = 6 ∨ t = 7 ∨ t = 8 by omega) with rfl | rfl | rfl | rfl
    · cases hty; exact a5
    · cases hty; exact a6
    · cases hty; exact a7
    · cases hty; exact a8
  refine W.anew hx hb hown (hts _ hlk0) (va_AO.use hover) rfl d rfl hi hby hc hsl fun cA kA comp f1 f2 f3 f4 => ?_
  generalize hH1 : H.push ({ cls := cA, slots := Array.replicate i.toNatClampNeg .null, vm := .none } : Cell) = H1
  have z1 : H1.size = H.size + 1 := by rw [← hH1, Array.size_push]
  have e1 : H1[H.size]? = some (arrV cA i.toNatClampNeg (fun _ => .null)) := by rw [← hH1, Array.getElem?_push_size, ← arrV_new]
  have o1 : ∀ q : Nat, q < H.size → H1[q]? = H[q]? := fun q hq => by rw [← hH1, Array.getElem?_push, if_neg (Nat.ne_of_lt hq)]
  rw [hsz]
  refine k H1 locs ls (hR.push htt z1 o1 ?_) hf hl
  have hRA := (hK.1.2 t _ (dk_tys_at _ (by omega))).2
  have hcA : cA = dk_cT G' t := by
    rw [show (dk_cT G' t, dk_ty t).2 = .object Cn from hty] at hRA
    obtain ⟨-, -, -, -, -, e2⟩ := hRA
    rw [f1] at e2
    exact Option.some.inj e2
  unfold dk_at
  rw [hs]
  show H1[dk_b _ + n]? = _
  rw [← hsz, e1, hcA]
  congr 2
  funext j
  have he : dk_ek t = 2 := by
    rcases (show t = 5 ∨ t = 6 ∨ t = 7 ∨ t = 8 by omega) with rfl | rfl | rfl | rfl <;> rfl
  rw [hd.av]
  show _ = dk_dv (dk_ek t)
  rw [he]
  rfl
/-- System.arraycopy within one array of ints -/
def dk_cpI (h : dk_H) (a sp dp k : Nat) : dk_H := (fun i j => if i = a then va_cpy (h.1 a) (h.1 a) sp dp k j else h.1 i j, h.2)
theorem dk_copyi (C : dk_C X cc own nL ret rm G) {idx a N : Nat} {sp dp i : Int32} (h01 : Cond.methodLink own idx arraycopyName ∈ dk_tbl) (h02 : Cond.native arraycopyName ∈ dk_tbl) (h03 : Cond.static arraycopyName ∈ dk_tbl) (h04 : Cond.initialized "java/lang/System" ∈ dk_tbl) (hs : dk_SH a = .inr (0, N)) (ha : a < n)
    (h1 : ¬ sp < 0) (h2 : ¬ dp < 0) (h3 : ¬ i < 0) (h4 : sp.toNatClampNeg + i.toNatClampNeg ≤ N) (h5 : dp.toNatClampNeg + i.toNatClampNeg ≤ N) (hfr : 1 ≤ rm.frames) (hlo : (S.map fun v => v.category).sum + (nativeFrameWords "java/lang/System" "arraycopy" 5 + 11) ≤ rm.locals) (d : decode cc pc = .ok (.invokestatic idx, 3))
    (k : dk_W X (pc + 3) L S n (dk_cpI h a sp.toNatClampNeg dp.toNatClampNeg i.toNatClampNeg) kc ks) : dk_W X pc L (.int i :: .int dp :: .ref a :: .int sp :: .ref a :: S) n h kc ks := by
  obtain ⟨p, e, R, s, m, args, below, meth, c, Q, G'⟩ := X
  obtain ⟨hx, hb, hml, hown, hts, hr, hlk, hRm, hG, hK⟩ := C
  subst hG hRm
  intro H locs ls hR hf hl
  have hat := hR.2.2.1 a ha
  unfold dk_at at hat
  rw [hs] at hat
  have hat : H[dk_b G' + a]? = some (arrV (dk_cT G' 0) N (fun j => .int (h.1 a j))) := hat
  have nn : ∀ z : Int32, ¬ z < 0 → z.toInt = (z.toNatClampNeg : Int) := by
    intro z hz
    have hz0 : (0 : Int) ≤ z.toInt := by
      have := Int32.not_lt.mp hz
      simpa using Int32.le_iff_toInt_le.mp this
    show z.toInt = ((z.toInt.toNat : Nat) : Int)
    omega
  intro T hT XX
  obtain ⟨-, k0, hk0, cm0, hkk0⟩ := (hK.1.2 0 _ (dk_tys_at _ (by decide))).1 N (fun j => .int (h.1 a j))
  obtain ⟨vm', X', step⟩ := XX.arraycopy hx hown (hts _ h01) (hts _ h02) (hts _ h03) (hts _ h04) (src := dk_b G' + a) (dst := dk_b G' + a) (srcPos := sp) (destPos := dp) (n := i) (by rw [hT]; exact hat) (by rw [hT]; exact hat)
    (fun _ h => by cases h) (fun _ h => by cases h) (fun h => by cases h) (fun h => by cases h) hk0 hk0 hkk0 hkk0 (by simp [dk_ty, refKind]) h1 h2 h3
    (by rw [nn sp h1, nn i h3, arrV_size]; omega)
    (by rw [nn dp h2, nn i h3, arrV_size]; omega)
    (fun vm₁ _ j hj => by
      have e : (arrV (dk_cT G' 0) N (fun j => .int (h.1 a j))).slots.getD (sp.toNatClampNeg + j) .null = .int (h.1 a (sp.toNatClampNeg + j)) := by
        rw [Array.getD_eq_getD_getElem?, arrV_read _ _ (by omega)]
        rfl
      refine ⟨?_, ?_⟩
      · rw [e]; rfl
      · rw [e]; exact trivial)
    (g := F0 m pc ls (.int i :: .int dp :: .ref (dk_b G' + a) :: .int sp :: .ref (dk_b G' + a) :: S.map (dk_rv G'))) rfl hl.1 (rest := S.map (dk_rv G')) rfl (by rw [hb]; exact d) hfr (by rw [dk_cats]; show 2 * 0 + _ + _ ≤ _; omega)
  have e1 : copied (arrV (dk_cT G' 0) N (fun j => .int (h.1 a j))) (arrV (dk_cT G' 0) N (fun j => .int (h.1 a j))) sp dp i = arrV (dk_cT G' 0) N (fun j => .int (va_cpy (h.1 a) (h.1 a) sp.toNatClampNeg dp.toNatClampNeg i.toNatClampNeg j)) := va_copied (fun z => .int z) _ _ _ _ h4
  rw [e1] at X' step
  have hlt : dk_b G' + a < H.size := (Array.getElem?_eq_some_iff.mp hat).1
  generalize hcl : arrV (dk_cT G' 0) N (fun j => .int (va_cpy (h.1 a) (h.1 a) sp.toNatClampNeg dp.toNatClampNeg i.toNatClampNeg j)) = cl at X' step
  have hheap : ((T.setVm vm').setCell (dk_b G' + a) cl).heap = H.setIfInBounds (dk_b G' + a) cl := by rw [← hT]; rfl
  have oq : ∀ q : Nat, q ≠ dk_b G' + a → (H.setIfInBounds (dk_b G' + a) cl)[q]? = H[q]? := fun q hq => by simp [Array.getElem?_setIfInBounds, Ne.symm hq]
  have hR' : dk_R G' n (dk_cpI h a sp.toNatClampNeg dp.toNatClampNeg i.toNatClampNeg) (H.setIfInBounds (dk_b G' + a) cl) := by
    obtain ⟨r1, r2, r3, r4⟩ := hR
    refine ⟨fun z => by simp; exact r1 z, by simp; exact r2, fun j hj => ?_, fun q hq => by rw [oq q (by omega)]; exact r4 q hq⟩
    by_cases ej : j = a
    · subst ej
      unfold dk_at
      rw [hs]
      show (H.setIfInBounds (dk_b G' + j) cl)[dk_b G' + j]? = _
      rw [Array.getElem?_setIfInBounds, if_pos rfl, if_pos hlt, ← hcl]
      congr 2
      funext z
      show _ = dk_rv _ (Value.int ((dk_cpI h j _ _ _).1 j z))
      simp [dk_cpI, dk_rv]
    · refine (r3 j hj).kept (fun kd z => ?_) (oq _ (by omega))
      match kd with
      | 0 => simp [dk_av, dk_cpI, ej]
      | 1 => rfl
      | 2 => rfl
      | 3 => rfl
      | _ + 4 => rfl
  obtain ⟨t, a1, b1⟩ := k _ _ ls hR' (fun q hq => by
      rcases List.mem_append.mp hq with h | h
      · exact hf q h
      · obtain ⟨z, -, hz⟩ := List.mem_map.mp h
        rw [← hz]
        exact Nat.le_add_right _ _) hl _ hheap X'
  exact ⟨t, step t a1, b1⟩
end DKN
end
section
theorem dk_m0 {w : Cond} (i : Nat) (h : (k2_sels lw_privs)[i]? = some w) (g : goodWord w = true) : w ∈ dk_tbl := List.mem_filter.mpr ⟨List.mem_append_left _ (List.mem_of_getElem? h), g⟩
theorem dk_m1 {w : Cond} (i : Nat) (h : tables_1_1[i]? = some w) (g : goodWord w = true) : w ∈ dk_tbl := List.mem_filter.mpr ⟨List.mem_append_right _ (List.mem_append_left _ (List.mem_of_getElem? h)), g⟩
theorem dk_m2 {w : Cond} (i : Nat) (h : tables_1_2[i]? = some w) (g : goodWord w = true) : w ∈ dk_tbl := List.mem_filter.mpr ⟨List.mem_append_right _ (List.mem_append_right _ (List.mem_append_left _ (List.mem_of_getElem? h))), g⟩
theorem dk_m3 {w : Cond} (i : Nat) (h : tables_1_3[i]? = some w) (g : goodWord w = true) : w ∈ dk_tbl := List.mem_filter.mpr ⟨List.mem_append_right _ (List.mem_append_right _ (List.mem_append_right _ (List.mem_append_left _ (List.mem_of_getElem? h)))), g⟩
theorem dk_m4 {w : Cond} (i : Nat) (h : tables_1_4[i]? = some w) (g : goodWord w = true) : w ∈ dk_tbl := List.mem_filter.mpr ⟨List.mem_append_right _ (List.mem_append_right _ (List.mem_append_right _ (List.mem_append_right _ (List.mem_append_left _ (List.mem_of_getElem? h))))), g⟩
theorem dk_m5 {w : Cond} (i : Nat) (h : tables_1_5[i]? = some w) (g : goodWord w = true) : w ∈ dk_tbl := List.mem_filter.mpr ⟨List.mem_append_right _ (List.mem_append_right _ (List.mem_append_right _ (List.mem_append_right _ (List.mem_append_right _ (List.mem_of_getElem? h))))), g⟩
theorem ne1X0 : RX0 ≠ "java/lang/invoke/MethodHandle" := by decide +kernel
theorem ne2X0 : RX0 ≠ "java/lang/invoke/VarHandle" := by decide +kernel
theorem ne1X1 : RX1 ≠ "java/lang/invoke/MethodHandle" := by decide +kernel
theorem ne2X1 : RX1 ≠ "java/lang/invoke/VarHandle" := by decide +kernel
theorem ne1X2 : RX2 ≠ "java/lang/invoke/MethodHandle" := by decide +kernel
theorem ne2X2 : RX2 ≠ "java/lang/invoke/VarHandle" := by decide +kernel
theorem ne1X3 : RX3 ≠ "java/lang/invoke/MethodHandle" := by decide +kernel
theorem ne2X3 : RX3 ≠ "java/lang/invoke/VarHandle" := by decide +kernel
theorem ne1X4 : RX4 ≠ "java/lang/invoke/MethodHandle" := by decide +kernel
theorem ne2X4 : RX4 ≠ "java/lang/invoke/VarHandle" := by decide +kernel
theorem ne1X5 : RX5 ≠ "java/lang/invoke/MethodHandle" := by decide +kernel
theorem ne2X5 : RX5 ≠ "java/lang/invoke/VarHandle" := by decide +kernel
theorem ne1X6 : RX6 ≠ "java/lang/invoke/MethodHandle" := by decide +kernel
theorem ne2X6 : RX6 ≠ "java/lang/invoke/VarHandle" := by decide +kernel
theorem ne1X7 : RX7 ≠ "java/lang/invoke/MethodHandle" := by decide +kernel
theorem ne2X7 : RX7 ≠ "java/lang/invoke/VarHandle" := by decide +kernel
theorem ne1X8 : RX8 ≠ "java/lang/invoke/MethodHandle" := by decide +kernel
theorem ne2X8 : RX8 ≠ "java/lang/invoke/VarHandle" := by decide +kernel
theorem ne1L : RL ≠ "java/lang/invoke/MethodHandle" := by decide +kernel
theorem ne2L : RL ≠ "java/lang/invoke/VarHandle" := by decide +kernel
theorem inX0 : ∀ w ∈ u_ws RX0 TX0 4, w ∈ dk_tbl := by
  show ∀ w ∈ [u_lay RX0 TX0 0, u_lay RX0 TX0 1, u_lay RX0 TX0 2, u_lay RX0 TX0 3], w ∈ dk_tbl
  exact (List.forall_mem_cons.mpr ⟨(dk_m1 84 rfl rfl), (List.forall_mem_cons.mpr ⟨(dk_m1 86 rfl rfl), (List.forall_mem_cons.mpr ⟨(dk_m1 88 rfl rfl), (List.forall_mem_cons.mpr ⟨(dk_m1 90 rfl rfl), (fun _ h => absurd h List.not_mem_nil)⟩)⟩)⟩)⟩)
theorem nnX0 : dk_N 0 := fun Cn T N h => by
  have h' : (RX0, TX0, 4) = (Cn, T, N) := Option.some.inj h
  cases h'
  exact ⟨⟨tyX0, tyX0_ok⟩, nmX0⟩
theorem inX1 : ∀ w ∈ u_ws RX1 TX1 4, w ∈ dk_tbl := by
  show ∀ w ∈ [u_lay RX1 TX1 0, u_lay RX1 TX1 1, u_lay RX1 TX1 2, u_lay RX1 TX1 3], w ∈ dk_tbl
  exact (List.forall_mem_cons.mpr ⟨(dk_m1 116 rfl rfl), (List.forall_mem_cons.mpr ⟨(dk_m1 118 rfl rfl), (List.forall_mem_cons.mpr ⟨(dk_m1 120 rfl rfl), (List.forall_mem_cons.mpr ⟨(dk_m1 122 rfl rfl), (fun _ h => absurd h List.not_mem_nil)⟩)⟩)⟩)⟩)
theorem nnX1 : dk_N 1 := fun Cn T N h => by
  have h' : (RX1, TX1, 4) = (Cn, T, N) := Option.some.inj h
  cases h'
  exact ⟨⟨tyX1, tyX1_ok⟩, nmX1⟩
theorem inX2 : ∀ w ∈ u_ws RX2 TX2 2, w ∈ dk_tbl := by
  show ∀ w ∈ [u_lay RX2 TX2 0, u_lay RX2 TX2 1], w ∈ dk_tbl
  exact (List.forall_mem_cons.mpr ⟨(dk_m1 136 rfl rfl), (List.forall_mem_cons.mpr ⟨(dk_m1 138 rfl rfl), (fun _ h => absurd h List.not_mem_nil)⟩)⟩)
theorem nnX2 : dk_N 2 := fun Cn T N h => by
  have h' : (RX2, TX2, 2) = (Cn, T, N) := Option.some.inj h
  cases h'
  exact ⟨⟨tyX2, tyX2_ok⟩, nmX2⟩
theorem inX3 : ∀ w ∈ u_ws RX3 TX3 8, w ∈ dk_tbl := by
  show ∀ w ∈ [u_lay RX3 TX3 0, u_lay RX3 TX3 1, u_lay RX3 TX3 2, u_lay RX3 TX3 3, u_lay RX3 TX3 4, u_lay RX3 TX3 5, u_lay RX3 TX3 6, u_lay RX3 TX3 7], w ∈ dk_tbl
  exact (List.forall_mem_cons.mpr ⟨(dk_m1 220 rfl rfl), (List.forall_mem_cons.mpr ⟨(dk_m1 222 rfl rfl), (List.forall_mem_cons.mpr ⟨(dk_m1 224 rfl rfl), (List.forall_mem_cons.mpr ⟨(dk_m1 226 rfl rfl), (List.forall_mem_cons.mpr ⟨(dk_m1 228 rfl rfl), (List.forall_mem_cons.mpr ⟨(dk_m1 230 rfl rfl), (List.forall_mem_cons.mpr ⟨(dk_m1 232 rfl rfl), (List.forall_mem_cons.mpr ⟨(dk_m1 234 rfl rfl), (fun _ h => absurd h List.not_mem_nil)⟩)⟩)⟩)⟩)⟩)⟩)⟩)⟩)
theorem nnX3 : dk_N 3 := fun Cn T N h => by
  have h' : (RX3, TX3, 8) = (Cn, T, N) := Option.some.inj h
  cases h'
  exact ⟨⟨tyX3, tyX3_ok⟩, nmX3⟩
theorem inX4 : ∀ w ∈ u_ws RX4 TX4 11, w ∈ dk_tbl := by
  show ∀ w ∈ [u_lay RX4 TX4 0, u_lay RX4 TX4 1, u_lay RX4 TX4 2, u_lay RX4 TX4 3, u_lay RX4 TX4 4, u_lay RX4 TX4 5, u_lay RX4 TX4 6, u_lay RX4 TX4 7, u_lay RX4 TX4 8, u_lay RX4 TX4 9, u_lay RX4 TX4 10], w ∈ dk_tbl
  exact (List.forall_mem_cons.mpr ⟨(dk_m1 175 rfl rfl), (List.forall_mem_cons.mpr ⟨(dk_m1 177 rfl rfl), (List.forall_mem_cons.mpr ⟨(dk_m1 179 rfl rfl), (List.forall_mem_cons.mpr ⟨(dk_m1 181 rfl rfl), (List.forall_mem_cons.mpr ⟨(dk_m1 183 rfl rfl), (List.forall_mem_cons.mpr ⟨(dk_m1 185 rfl rfl), (List.forall_mem_cons.mpr ⟨(dk_m1 187 rfl rfl), (List.forall_mem_cons.mpr ⟨(dk_m1 189 rfl rfl), (List.forall_mem_cons.mpr ⟨(dk_m1 191 rfl rfl), (List.forall_mem_cons.mpr ⟨(dk_m1 193 rfl rfl), (List.forall_mem_cons.mpr ⟨(dk_m1 195 rfl rfl), (fun _ h => absurd h List.not_mem_nil)⟩)⟩)⟩)⟩)⟩)⟩)⟩)⟩)⟩)⟩)⟩)
theorem nnX4 : dk_N 4 := fun Cn T N h => by
  have h' : (RX4, TX4, 11) = (Cn, T, N) := Option.some.inj h
  cases h'
  exact ⟨⟨tyX4, tyX4_ok⟩, nmX4⟩
theorem inX5 : ∀ w ∈ u_ws RX5 TX5 6, w ∈ dk_tbl := by
  show ∀ w ∈ [u_lay RX5 TX5 0, u_lay RX5 TX5 1, u_lay RX5 TX5 2, u_lay RX5 TX5 3, u_lay RX5 TX5 4, u_lay RX5 TX5 5], w ∈ dk_tbl
  exact (List.forall_mem_cons.mpr ⟨(dk_m1 43 rfl rfl), (List.forall_mem_cons.mpr ⟨(dk_m1 45 rfl rfl), (List.forall_mem_cons.mpr ⟨(dk_m1 47 rfl rfl), (List.forall_mem_cons.mpr ⟨(dk_m1 49 rfl rfl), (List.forall_mem_cons.mpr ⟨(dk_m1 51 rfl rfl), (List.forall_mem_cons.mpr ⟨(dk_m1 53 rfl rfl), (fun _ h => absurd h List.not_mem_nil)⟩)⟩)⟩)⟩)⟩)⟩)
theorem nnX5 : dk_N 5 := fun Cn T N h => by
  have h' : (RX5, TX5, 6) = (Cn, T, N) := Option.some.inj h
  cases h'
  exact ⟨⟨tyX5, tyX5_ok⟩, nmX5⟩
theorem inX6 : ∀ w ∈ u_ws RX6 TX6 9, w ∈ dk_tbl := by
  show ∀ w ∈ [u_lay RX6 TX6 0, u_lay RX6 TX6 1, u_lay RX6 TX6 2, u_lay RX6 TX6 3, u_lay RX6 TX6 4, u_lay RX6 TX6 5, u_lay RX6 TX6 6, u_lay RX6 TX6 7, u_lay RX6 TX6 8], w ∈ dk_tbl
  exact (List.forall_mem_cons.mpr ⟨(dk_m2 15 rfl rfl), (List.forall_mem_cons.mpr ⟨(dk_m2 17 rfl rfl), (List.forall_mem_cons.mpr ⟨(dk_m2 19 rfl rfl), (List.forall_mem_cons.mpr ⟨(dk_m2 21 rfl rfl), (List.forall_mem_cons.mpr ⟨(dk_m2 23 rfl rfl), (List.forall_mem_cons.mpr ⟨(dk_m2 25 rfl rfl), (List.forall_mem_cons.mpr ⟨(dk_m2 27 rfl rfl), (List.forall_mem_cons.mpr ⟨(dk_m2 29 rfl rfl), (List.forall_mem_cons.mpr ⟨(dk_m2 31 rfl rfl), (fun _ h => absurd h List.not_mem_nil)⟩)⟩)⟩)⟩)⟩)⟩)⟩)⟩)⟩)
theorem nnX6 : dk_N 6 := fun Cn T N h => by
  have h' : (RX6, TX6, 9) = (Cn, T, N) := Option.some.inj h
  cases h'
  exact ⟨⟨tyX6, tyX6_ok⟩, nmX6⟩
theorem inX7 : ∀ w ∈ u_ws RX7 TX7 5, w ∈ dk_tbl := by
  show ∀ w ∈ [u_lay RX7 TX7 0, u_lay RX7 TX7 1, u_lay RX7 TX7 2, u_lay RX7 TX7 3, u_lay RX7 TX7 4], w ∈ dk_tbl
  exact (List.forall_mem_cons.mpr ⟨(dk_m2 39 rfl rfl), (List.forall_mem_cons.mpr ⟨(dk_m2 41 rfl rfl), (List.forall_mem_cons.mpr ⟨(dk_m2 43 rfl rfl), (List.forall_mem_cons.mpr ⟨(dk_m2 45 rfl rfl), (List.forall_mem_cons.mpr ⟨(dk_m2 47 rfl rfl), (fun _ h => absurd h List.not_mem_nil)⟩)⟩)⟩)⟩)⟩)
theorem nnX7 : dk_N 7 := fun Cn T N h => by
  have h' : (RX7, TX7, 5) = (Cn, T, N) := Option.some.inj h
  cases h'
  exact ⟨⟨tyX7, tyX7_ok⟩, nmX7⟩
theorem inX8 : ∀ w ∈ u_ws RX8 TX8 30, w ∈ dk_tbl := by
  show ∀ w ∈ [u_lay RX8 TX8 0, u_lay RX8 TX8 1, u_lay RX8 TX8 2, u_lay RX8 TX8 3, u_lay RX8 TX8 4, u_lay RX8 TX8 5, u_lay RX8 TX8 6, u_lay RX8 TX8 7, u_lay RX8 TX8 8, u_lay RX8 TX8 9, u_lay RX8 TX8 10, u_lay RX8 TX8 11, u_lay RX8 TX8 12, u_lay RX8 TX8 13, u_lay RX8 TX8 14, u_lay RX8 TX8 15, u_lay RX8 TX8 16, u_lay RX8 TX8 17, u_lay RX8 TX8 18, u_lay RX8 TX8 19, u_lay RX8 TX8 20, u_lay RX8 TX8 21, u_lay RX8 TX8 22, u_lay RX8 TX8 23, u_lay RX8 TX8 24, u_lay RX8 TX8 25, u_lay RX8 TX8 26, u_lay RX8 TX8 27, u_lay RX8 TX8 28, u_lay RX8 TX8 29], w ∈ dk_tbl
  exact (List.forall_mem_cons.mpr ⟨(dk_m4 94 rfl rfl), (List.forall_mem_cons.mpr ⟨(dk_m4 96 rfl rfl), (List.forall_mem_cons.mpr ⟨(dk_m4 98 rfl rfl), (List.forall_mem_cons.mpr ⟨(dk_m4 100 rfl rfl), (List.forall_mem_cons.mpr ⟨(dk_m4 102 rfl rfl), (List.forall_mem_cons.mpr ⟨(dk_m4 104 rfl rfl), (List.forall_mem_cons.mpr ⟨(dk_m4 106 rfl rfl), (List.forall_mem_cons.mpr ⟨(dk_m4 108 rfl rfl), (List.forall_mem_cons.mpr ⟨(dk_m4 110 rfl rfl), (List.forall_mem_cons.mpr ⟨(dk_m4 112 rfl rfl), (List.forall_mem_cons.mpr ⟨(dk_m4 114 rfl rfl), (List.forall_mem_cons.mpr ⟨(dk_m4 116 rfl rfl), (List.forall_mem_cons.mpr ⟨(dk_m4 118 rfl rfl), (List.forall_mem_cons.mpr ⟨(dk_m4 120 rfl rfl), (List.forall_mem_cons.mpr ⟨(dk_m4 122 rfl rfl), (List.forall_mem_cons.mpr ⟨(dk_m4 124 rfl rfl), (List.forall_mem_cons.mpr ⟨(dk_m4 126 rfl rfl), (List.forall_mem_cons.mpr ⟨(dk_m4 128 rfl rfl), (List.forall_mem_cons.mpr ⟨(dk_m4 130 rfl rfl), (List.forall_mem_cons.mpr ⟨(dk_m4 132 rfl rfl), (List.forall_mem_cons.mpr ⟨(dk_m4 134 rfl rfl), (List.forall_mem_cons.mpr ⟨(dk_m4 136 rfl rfl), (List.forall_mem_cons.mpr ⟨(dk_m4 138 rfl rfl), (List.forall_mem_cons.mpr ⟨(dk_m4 140 rfl rfl), (List.forall_mem_cons.mpr ⟨(dk_m4 142 rfl rfl), (List.forall_mem_cons.mpr ⟨(dk_m4 144 rfl rfl), (List.forall_mem_cons.mpr ⟨(dk_m4 146 rfl rfl), (List.forall_mem_cons.mpr ⟨(dk_m4 148 rfl rfl), (List.forall_mem_cons.mpr ⟨(dk_m4 150 rfl rfl), (List.forall_mem_cons.mpr ⟨(dk_m4 152 rfl rfl), (fun _ h => absurd h List.not_mem_nil)⟩)⟩)⟩)⟩)⟩)⟩)⟩)⟩)⟩)⟩)⟩)⟩)⟩)⟩)⟩)⟩)⟩)⟩)⟩)⟩)⟩)⟩)⟩)⟩)⟩)⟩)⟩)⟩)⟩)⟩)
theorem nnX8 : dk_N 8 := fun Cn T N h => by
  have h' : (RX8, TX8, 30) = (Cn, T, N) := Option.some.inj h
  cases h'
  exact ⟨⟨tyX8, tyX8_ok⟩, nmX8⟩
theorem oi1 : Cond.instanceMethod objectInit ∈ dk_tbl := (dk_m1 24 rfl rfl)
theorem oi2 : Cond.code objectInit ⟨#[0xb1]⟩ 1 none ∈ dk_tbl := (dk_m1 25 rfl rfl)
theorem mm1min : Cond.static Lib.Math.min.name ∈ dk_tbl := (dk_m3 13 rfl rfl)
theorem mm3min : Cond.code Lib.Math.min.name Lib.Math.min.code 2 (some .int) ∈ dk_tbl := (dk_m3 14 rfl rfl)
theorem mm1max : Cond.static Lib.Math.max.name ∈ dk_tbl := (dk_m3 203 rfl rfl)
theorem mm3max : Cond.code Lib.Math.max.name Lib.Math.max.code 2 (some .int) ∈ dk_tbl := (dk_m3 204 rfl rfl)
theorem mm2 : Cond.initialized "java/lang/Math" ∈ dk_tbl := (dk_m1 16 rfl rfl)
theorem ac2 : Cond.native arraycopyName ∈ dk_tbl := (dk_m3 138 rfl rfl)
theorem ac3 : Cond.static arraycopyName ∈ dk_tbl := (dk_m3 137 rfl rfl)
theorem ac4 : Cond.initialized "java/lang/System" ∈ dk_tbl := (dk_m1 15 rfl rfl)
theorem ar_int : Cond.arrayClass .int ∈ dk_tbl := (dk_m1 56 rfl rfl)
theorem ar_boolean : Cond.arrayClass .boolean ∈ dk_tbl := (dk_m1 57 rfl rfl)
theorem ar_float : Cond.arrayClass .float ∈ dk_tbl := (dk_m1 237 rfl rfl)
theorem ar_long : Cond.arrayClass .long ∈ dk_tbl := (dk_m5 96 rfl rfl)
theorem ar_double : Cond.arrayClass .double ∈ dk_tbl := (dk_m5 97 rfl rfl)
theorem oiX0_3 : Cond.methodLink RX0 3 objectInit ∈ dk_tbl := (dk_m1 71 rfl rfl)
theorem fX0_9 : dk_F RX0 9 0 2 := ⟨RX0, TX0, rfl, inX0, by decide, (dk_m1 78 rfl rfl)⟩
theorem fX0_15 : dk_F RX0 15 0 3 := ⟨RX0, TX0, rfl, inX0, by decide, (dk_m1 81 rfl rfl)⟩
theorem oiX1_1 : Cond.methodLink RX1 1 objectInit ∈ dk_tbl := (dk_m1 99 rfl rfl)
theorem fX1_7 : dk_F RX1 7 1 0 := ⟨RX1, TX1, rfl, inX1, by decide, (dk_m1 100 rfl rfl)⟩
theorem fX1_13 : dk_F RX1 13 1 2 := ⟨RX1, TX1, rfl, inX1, by decide, (dk_m1 108 rfl rfl)⟩
theorem fX1_16 : dk_F RX1 16 1 1 := ⟨RX1, TX1, rfl, inX1, by decide, (dk_m1 104 rfl rfl)⟩
theorem fX1_19 : dk_F RX1 19 1 3 := ⟨RX1, TX1, rfl, inX1, by decide, (dk_m1 112 rfl rfl)⟩
theorem oiX2_1 : Cond.methodLink RX2 1 objectInit ∈ dk_tbl := (dk_m1 131 rfl rfl)
theorem oiX3_3 : Cond.methodLink RX3 3 objectInit ∈ dk_tbl := (dk_m1 203 rfl rfl)
theorem fX3_11 : dk_F RX3 11 3 0 := ⟨RX3, TX3, rfl, inX3, by decide, (dk_m1 204 rfl rfl)⟩
theorem fzX3_0 : dk_Fz RX3 3 0 (.array .float) := ⟨nnX3, fun Cn T N h => by
  have h' : (RX3, TX3, 8) = (Cn, T, N) := Option.some.inj h
  cases h'
  exact ⟨rfl, rfl, by decide +kernel⟩⟩
theorem fX3_17 : dk_F RX3 17 3 1 := ⟨RX3, TX3, rfl, inX3, by decide, (dk_m1 205 rfl rfl)⟩
theorem fzX3_1 : dk_Fz RX3 3 1 (.array .float) := ⟨nnX3, fun Cn T N h => by
  have h' : (RX3, TX3, 8) = (Cn, T, N) := Option.some.inj h
  cases h'
  exact ⟨rfl, rfl, by decide +kernel⟩⟩
theorem fX3_20 : dk_F RX3 20 3 2 := ⟨RX3, TX3, rfl, inX3, by decide, (dk_m1 206 rfl rfl)⟩
theorem fzX3_2 : dk_Fz RX3 3 2 (.array .float) := ⟨nnX3, fun Cn T N h => by
  have h' : (RX3, TX3, 8) = (Cn, T, N) := Option.some.inj h
  cases h'
  exact ⟨rfl, rfl, by decide +kernel⟩⟩
theorem fX3_23 : dk_F RX3 23 3 3 := ⟨RX3, TX3, rfl, inX3, by decide, (dk_m1 207 rfl rfl)⟩
theorem fzX3_3 : dk_Fz RX3 3 3 (.array .int) := ⟨nnX3, fun Cn T N h => by
  have h' : (RX3, TX3, 8) = (Cn, T, N) := Option.some.inj h
  cases h'
  exact ⟨rfl, rfl, by decide +kernel⟩⟩
theorem fX3_27 : dk_F RX3 27 3 4 := ⟨RX3, TX3, rfl, inX3, by decide, (dk_m1 210 rfl rfl)⟩
theorem fzX3_4 : dk_Fz RX3 3 4 (.array .int) := ⟨nnX3, fun Cn T N h => by
  have h' : (RX3, TX3, 8) = (Cn, T, N) := Option.some.inj h
  cases h'
  exact ⟨rfl, rfl, by decide +kernel⟩⟩
theorem fX3_30 : dk_F RX3 30 3 5 := ⟨RX3, TX3, rfl, inX3, by decide, (dk_m1 213 rfl rfl)⟩
theorem fzX3_5 : dk_Fz RX3 3 5 (.array .int) := ⟨nnX3, fun Cn T N h => by
  have h' : (RX3, TX3, 8) = (Cn, T, N) := Option.some.inj h
  cases h'
  exact ⟨rfl, rfl, by decide +kernel⟩⟩
theorem fX3_33 : dk_F RX3 33 3 6 := ⟨RX3, TX3, rfl, inX3, by decide, (dk_m1 216 rfl rfl)⟩
theorem fzX3_6 : dk_Fz RX3 3 6 (.array .int) := ⟨nnX3, fun Cn T N h => by
  have h' : (RX3, TX3, 8) = (Cn, T, N) := Option.some.inj h
  cases h'
  exact ⟨rfl, rfl, by decide +kernel⟩⟩
theorem fX5_15 : dk_F RX5 15 5 1 := ⟨RX5, TX5, rfl, inX5, by decide, (dk_m1 34 rfl rfl)⟩
theorem mX5_42 : dk_LV RX5 42 yX5_value cX5_value 3 (some .int) 2 5 := ⟨⟨⟨(dk_m3 189 rfl rfl), (dk_m1 2 rfl rfl), (dk_m2 185 rfl rfl)⟩, ne1X5, ne2X5, by decide +kernel⟩, ⟨(dk_m2 183 rfl rfl), (dk_m2 184 rfl rfl)⟩, _, rfl, rfl⟩
theorem fX5_26 : dk_F RX5 26 5 4 := ⟨RX5, TX5, rfl, inX5, by decide, (dk_m1 38 rfl rfl)⟩
theorem mX5_38 : dk_LV RX5 38 yX5_standsBefore cX5_standsBefore 5 (some .boolean) 2 5 := ⟨⟨⟨(dk_m3 185 rfl rfl), (dk_m1 2 rfl rfl), (dk_m3 188 rfl rfl)⟩, ne1X5, ne2X5, by decide +kernel⟩, ⟨(dk_m3 187 rfl rfl), (dk_m0 19 rfl rfl)⟩, _, rfl, rfl⟩
theorem fX3_121 : dk_F RX3 121 5 4 := ⟨RX5, TX5, rfl, inX5, by decide, (dk_m1 39 rfl rfl)⟩
theorem mX3_145 : dk_LV RX3 145 yX5_differentValues cX5_differentValues 4 (some .int) 1 5 := ⟨⟨⟨(dk_m3 181 rfl rfl), (dk_m1 2 rfl rfl), (dk_m3 184 rfl rfl)⟩, ne1X5, ne2X5, by decide +kernel⟩, ⟨(dk_m3 182 rfl rfl), (dk_m3 183 rfl rfl)⟩, _, rfl, rfl⟩
theorem mmX5_46 : Cond.methodLink RX5 46 Lib.Math.min.name ∈ dk_tbl := (dk_m3 194 rfl rfl)
theorem mmX5_51 : Cond.methodLink RX5 51 Lib.Math.max.name ∈ dk_tbl := (dk_m3 202 rfl rfl)
theorem mX3_142 : dk_LV RX3 142 yX5_greatest cX5_greatest 4 (some .int) 1 5 := ⟨⟨⟨(dk_m3 198 rfl rfl), (dk_m1 2 rfl rfl), (dk_m3 201 rfl rfl)⟩, ne1X5, ne2X5, by decide +kernel⟩, ⟨(dk_m3 199 rfl rfl), (dk_m3 200 rfl rfl)⟩, _, rfl, rfl⟩
theorem mX3_135 : dk_LV RX3 135 yX5_least cX5_least 4 (some .int) 1 5 := ⟨⟨⟨(dk_m3 190 rfl rfl), (dk_m1 2 rfl rfl), (dk_m3 193 rfl rfl)⟩, ne1X5, ne2X5, by decide +kernel⟩, ⟨(dk_m3 191 rfl rfl), (dk_m3 192 rfl rfl)⟩, _, rfl, rfl⟩
theorem fX3_126 : dk_F RX3 126 0 1 := ⟨RX0, TX0, rfl, inX0, by decide, (dk_m1 76 rfl rfl)⟩
theorem fX3_129 : dk_F RX3 129 0 2 := ⟨RX0, TX0, rfl, inX0, by decide, (dk_m1 80 rfl rfl)⟩
theorem mX3_111 : dk_LS RX3 111 yX3_shareOfOneValue cX3_shareOfOneValue 2 (some .float) 2 := ⟨⟨⟨(dk_m3 178 rfl rfl), (dk_m1 7 rfl rfl), (dk_m3 180 rfl rfl)⟩, ne1X3, ne2X3, by decide +kernel⟩, (dk_m3 179 rfl rfl)⟩
theorem fX3_132 : dk_F RX3 132 0 3 := ⟨RX0, TX0, rfl, inX0, by decide, (dk_m1 83 rfl rfl)⟩
theorem mX3_138 : dk_LS RX3 138 yX3_shareOfSpan cX3_shareOfSpan 7 (some .float) 3 := ⟨⟨⟨(dk_m3 195 rfl rfl), (dk_m1 7 rfl rfl), (dk_m3 197 rfl rfl)⟩, ne1X3, ne2X3, by decide +kernel⟩, (dk_m3 196 rfl rfl)⟩
theorem fX3_78 : dk_F RX3 78 4 5 := ⟨RX4, TX4, rfl, inX4, by decide, (dk_m1 157 rfl rfl)⟩
theorem fX3_81 : dk_F RX3 81 4 1 := ⟨RX4, TX4, rfl, inX4, by decide, (dk_m1 145 rfl rfl)⟩
theorem fX3_85 : dk_F RX3 85 4 0 := ⟨RX4, TX4, rfl, inX4, by decide, (dk_m1 142 rfl rfl)⟩
theorem fX3_89 : dk_F RX3 89 0 0 := ⟨RX0, TX0, rfl, inX0, by decide, (dk_m1 73 rfl rfl)⟩
theorem mX3_94 : dk_LS RX3 94 yX3_shareOf cX3_shareOf 3 (some .float) 2 := ⟨⟨⟨(dk_m3 175 rfl rfl), (dk_m1 7 rfl rfl), (dk_m3 177 rfl rfl)⟩, ne1X3, ne2X3, by decide +kernel⟩, (dk_m3 176 rfl rfl)⟩
theorem fX3_98 : dk_F RX3 98 4 6 := ⟨RX4, TX4, rfl, inX4, by decide, (dk_m1 161 rfl rfl)⟩
theorem fX3_101 : dk_F RX3 101 4 2 := ⟨RX4, TX4, rfl, inX4, by decide, (dk_m1 148 rfl rfl)⟩
theorem fX3_105 : dk_F RX3 105 1 0 := ⟨RX1, TX1, rfl, inX1, by decide, (dk_m1 102 rfl rfl)⟩
theorem fX3_108 : dk_F RX3 108 1 1 := ⟨RX1, TX1, rfl, inX1, by decide, (dk_m1 106 rfl rfl)⟩
theorem fX3_115 : dk_F RX3 115 1 2 := ⟨RX1, TX1, rfl, inX1, by decide, (dk_m1 110 rfl rfl)⟩
theorem fX3_118 : dk_F RX3 118 1 3 := ⟨RX1, TX1, rfl, inX1, by decide, (dk_m1 114 rfl rfl)⟩
theorem gsX3_69 : Cond.fieldLink RX3 69 RX3 (dk_sn 0) "[I" ∈ dk_tbl := (dk_m3 208 rfl rfl)
theorem gsX3_72 : Cond.fieldLink RX3 72 RX3 (dk_sn 1) "[I" ∈ dk_tbl := (dk_m3 210 rfl rfl)
theorem gsX3_75 : Cond.fieldLink RX3 75 RX3 (dk_sn 2) "[I" ∈ dk_tbl := (dk_m3 212 rfl rfl)
theorem fX5_18 : dk_F RX5 18 5 2 := ⟨RX5, TX5, rfl, inX5, by decide, (dk_m1 35 rfl rfl)⟩
theorem fX3_152 : dk_F RX3 152 3 7 := ⟨RX3, TX3, rfl, inX3, by decide, (dk_m1 219 rfl rfl)⟩
theorem fwX3_7 : dk_Fw 3 7 .float := ⟨nnX3, fun Cn T N h => by
  have h' : (RX3, TX3, 8) = (Cn, T, N) := Option.some.inj h
  cases h'
  exact ⟨rfl, by decide +kernel⟩⟩
theorem mX3_168 : dk_LV RX3 168 yX3_takeWay cX3_takeWay 5 none 4 3 := ⟨⟨⟨(dk_m3 222 rfl rfl), (dk_m1 7 rfl rfl), (dk_m3 225 rfl rfl)⟩, ne1X3, ne2X3, by decide +kernel⟩, ⟨(dk_m3 224 rfl rfl), (dk_m0 22 rfl rfl)⟩, _, rfl, rfl⟩
theorem mX3_179 : dk_LV RX3 179 yX5_hasIndex cX5_hasIndex 3 (some .boolean) 2 5 := ⟨⟨⟨(dk_m3 230 rfl rfl), (dk_m1 2 rfl rfl), (dk_m2 92 rfl rfl)⟩, ne1X5, ne2X5, by decide +kernel⟩, ⟨(dk_m2 90 rfl rfl), (dk_m2 91 rfl rfl)⟩, _, rfl, rfl⟩
theorem mX3_182 : dk_LV RX3 182 yX3_considerWay cX3_considerWay 6 none 5 3 := ⟨⟨⟨(dk_m3 231 rfl rfl), (dk_m1 7 rfl rfl), (dk_m3 234 rfl rfl)⟩, ne1X3, ne2X3, by decide +kernel⟩, ⟨(dk_m3 233 rfl rfl), (dk_m0 24 rfl rfl)⟩, _, rfl, rfl⟩
theorem mX3_56 : dk_LV RX3 56 yX1_ties cX1_ties 2 (some .boolean) 1 1 := ⟨⟨⟨(dk_m2 194 rfl rfl), (dk_m1 5 rfl rfl), (dk_m2 197 rfl rfl)⟩, ne1X1, ne2X1, by decide +kernel⟩, ⟨(dk_m2 195 rfl rfl), (dk_m2 196 rfl rfl)⟩, _, rfl, rfl⟩
theorem mX3_62 : dk_LV RX3 62 yX1_partnerOf cX1_partnerOf 2 (some .int) 1 1 := ⟨⟨⟨(dk_m2 198 rfl rfl), (dk_m1 5 rfl rfl), (dk_m2 201 rfl rfl)⟩, ne1X1, ne2X1, by decide +kernel⟩, ⟨(dk_m2 199 rfl rfl), (dk_m2 200 rfl rfl)⟩, _, rfl, rfl⟩
theorem mX3_65 : dk_LV RX3 65 yX3_isBefore cX3_isBefore 4 (some .boolean) 2 3 := ⟨⟨⟨(dk_m2 202 rfl rfl), (dk_m1 7 rfl rfl), (dk_m2 205 rfl rfl)⟩, ne1X3, ne2X3, by decide +kernel⟩, ⟨(dk_m2 204 rfl rfl), (dk_m0 6 rfl rfl)⟩, _, rfl, rfl⟩
theorem mX3_186 : dk_LV RX3 186 yX1_columnOf cX1_columnOf 2 (some .int) 1 1 := ⟨⟨⟨(dk_m4 0 rfl rfl), (dk_m1 5 rfl rfl), (dk_m2 239 rfl rfl)⟩, ne1X1, ne2X1, by decide +kernel⟩, ⟨(dk_m2 237 rfl rfl), (dk_m2 238 rfl rfl)⟩, _, rfl, rfl⟩
theorem mX3_164 : dk_LV RX3 164 yX3_joinShare cX3_joinShare 4 (some .float) 3 3 := ⟨⟨⟨(dk_m4 1 rfl rfl), (dk_m1 7 rfl rfl), (dk_m4 4 rfl rfl)⟩, ne1X3, ne2X3, by decide +kernel⟩, ⟨(dk_m4 3 rfl rfl), (dk_m0 26 rfl rfl)⟩, _, rfl, rfl⟩
theorem mX3_172 : dk_LV RX3 172 yX3_considerCondition cX3_considerCondition 7 none 3 3 := ⟨⟨⟨(dk_m3 226 rfl rfl), (dk_m1 7 rfl rfl), (dk_m3 229 rfl rfl)⟩, ne1X3, ne2X3, by decide +kernel⟩, ⟨(dk_m3 228 rfl rfl), (dk_m0 23 rfl rfl)⟩, _, rfl, rfl⟩
theorem mX3_160 : dk_LV RX3 160 yX3_tiesBack cX3_tiesBack 3 (some .boolean) 2 3 := ⟨⟨⟨(dk_m3 235 rfl rfl), (dk_m1 7 rfl rfl), (dk_m2 193 rfl rfl)⟩, ne1X3, ne2X3, by decide +kernel⟩, ⟨(dk_m2 191 rfl rfl), (dk_m2 192 rfl rfl)⟩, _, rfl, rfl⟩
theorem mX3_176 : dk_LV RX3 176 yX3_considerJoin cX3_considerJoin 8 none 3 3 := ⟨⟨⟨(dk_m3 236 rfl rfl), (dk_m1 7 rfl rfl), (dk_m3 239 rfl rfl)⟩, ne1X3, ne2X3, by decide +kernel⟩, ⟨(dk_m3 238 rfl rfl), (dk_m0 25 rfl rfl)⟩, _, rfl, rfl⟩
theorem fX3_40 : dk_F RX3 40 4 4 := ⟨RX4, TX4, rfl, inX4, by decide, (dk_m1 153 rfl rfl)⟩
theorem mX3_148 : dk_LV RX3 148 yX3_takeBestWay cX3_takeBestWay 4 none 2 3 := ⟨⟨⟨(dk_m3 218 rfl rfl), (dk_m1 7 rfl rfl), (dk_m3 221 rfl rfl)⟩, ne1X3, ne2X3, by decide +kernel⟩, ⟨(dk_m3 220 rfl rfl), (dk_m0 21 rfl rfl)⟩, _, rfl, rfl⟩
theorem mX3_156 : dk_LV RX3 156 yX3_countBehind cX3_countBehind 7 (some .float) 3 3 := ⟨⟨⟨(dk_m4 5 rfl rfl), (dk_m1 7 rfl rfl), (dk_m4 8 rfl rfl)⟩, ne1X3, ne2X3, by decide +kernel⟩, ⟨(dk_m4 7 rfl rfl), (dk_m0 27 rfl rfl)⟩, _, rfl, rfl⟩
theorem mX3_36 : dk_LV RX3 36 yX3_measureShares cX3_measureShares 4 none 1 3 := ⟨⟨⟨(dk_m3 171 rfl rfl), (dk_m1 7 rfl rfl), (dk_m3 174 rfl rfl)⟩, ne1X3, ne2X3, by decide +kernel⟩, ⟨(dk_m3 173 rfl rfl), (dk_m0 18 rfl rfl)⟩, _, rfl, rfl⟩
theorem mX3_44 : dk_LS RX3 44 yX3_ordersOf cX3_ordersOf 1 (some (.array .int)) 1 := ⟨⟨⟨(dk_m3 205 rfl rfl), (dk_m1 7 rfl rfl), (dk_m3 207 rfl rfl)⟩, ne1X3, ne2X3, by decide +kernel⟩, (dk_m3 206 rfl rfl)⟩
theorem mX3_48 : dk_LV RX3 48 yX3_tryOrder cX3_tryOrder 7 (some .float) 3 3 := ⟨⟨⟨(dk_m3 214 rfl rfl), (dk_m1 7 rfl rfl), (dk_m3 217 rfl rfl)⟩, ne1X3, ne2X3, by decide +kernel⟩, ⟨(dk_m3 216 rfl rfl), (dk_m0 20 rfl rfl)⟩, _, rfl, rfl⟩
theorem mX3_52 : dk_LS RX3 52 yX3_orderCountOf cX3_orderCountOf 1 (some .int) 1 := ⟨⟨⟨(dk_m4 9 rfl rfl), (dk_m1 7 rfl rfl), (dk_m4 11 rfl rfl)⟩, ne1X3, ne2X3, by decide +kernel⟩, (dk_m4 10 rfl rfl)⟩
theorem oiX4_3 : Cond.methodLink RX4 3 objectInit ∈ dk_tbl := (dk_m1 63 rfl rfl)
theorem anX4_11 : Cond.classLink RX4 11 RX5 ∈ dk_tbl := (dk_m1 64 rfl rfl)
theorem fX4_13 : dk_F RX4 13 4 0 := ⟨RX4, TX4, rfl, inX4, by decide, (dk_m1 141 rfl rfl)⟩
theorem fzX4_0 : dk_Fz RX4 4 0 (.array (.object "QueryDesk$Table")) := ⟨nnX4, fun Cn T N h => by
  have h' : (RX4, TX4, 11) = (Cn, T, N) := Option.some.inj h
  cases h'
  exact ⟨rfl, rfl, by decide +kernel⟩⟩
theorem anX4_17 : Cond.classLink RX4 17 RX0 ∈ dk_tbl := (dk_m1 65 rfl rfl)
theorem fX4_19 : dk_F RX4 19 4 1 := ⟨RX4, TX4, rfl, inX4, by decide, (dk_m1 144 rfl rfl)⟩
theorem fzX4_1 : dk_Fz RX4 4 1 (.array (.object "QueryDesk$Condition")) := ⟨nnX4, fun Cn T N h => by
  have h' : (RX4, TX4, 11) = (Cn, T, N) := Option.some.inj h
  cases h'
  exact ⟨rfl, rfl, by decide +kernel⟩⟩
theorem mkX4_17 : dk_Mk RX4 17 0 := ⟨RX0, TX0, tyX0, rfl, inX0, tyX0_ok, by decide +kernel, (dk_m1 65 rfl rfl), (dk_m1 67 rfl rfl), (dk_m1 4 rfl rfl)⟩
theorem mX4_23 : dk_LN RX4 23 yX0_init cX0_init 1 0 := ⟨⟨(dk_m1 4 rfl rfl), (dk_m1 70 rfl rfl), (dk_m1 69 rfl rfl), rfl⟩, ⟨ne1X0, ne2X0, by decide +kernel⟩, fun G U h => h.2.2.1.1⟩
theorem anX4_24 : Cond.classLink RX4 24 RX1 ∈ dk_tbl := (dk_m1 93 rfl rfl)
theorem fX4_26 : dk_F RX4 26 4 2 := ⟨RX4, TX4, rfl, inX4, by decide, (dk_m1 147 rfl rfl)⟩
theorem fzX4_2 : dk_Fz RX4 4 2 (.array (.object "QueryDesk$Join")) := ⟨nnX4, fun Cn T N h => by
  have h' : (RX4, TX4, 11) = (Cn, T, N) := Option.some.inj h
  cases h'
  exact ⟨rfl, rfl, by decide +kernel⟩⟩
theorem mkX4_24 : dk_Mk RX4 24 1 := ⟨RX1, TX1, tyX1, rfl, inX1, tyX1_ok, by decide +kernel, (dk_m1 93 rfl rfl), (dk_m1 95 rfl rfl), (dk_m1 5 rfl rfl)⟩
theorem mX4_30 : dk_LN RX4 30 yX1_init cX1_init 1 0 := ⟨⟨(dk_m1 5 rfl rfl), (dk_m1 98 rfl rfl), (dk_m1 97 rfl rfl), rfl⟩, ⟨ne1X1, ne2X1, by decide +kernel⟩, fun G U h => h.2.2.1.2.1⟩
theorem anX4_31 : Cond.classLink RX4 31 RX2 ∈ dk_tbl := (dk_m1 125 rfl rfl)
theorem fX4_33 : dk_F RX4 33 4 3 := ⟨RX4, TX4, rfl, inX4, by decide, (dk_m1 150 rfl rfl)⟩
theorem fzX4_3 : dk_Fz RX4 4 3 (.array (.object "QueryDesk$Output")) := ⟨nnX4, fun Cn T N h => by
  have h' : (RX4, TX4, 11) = (Cn, T, N) := Option.some.inj h
  cases h'
  exact ⟨rfl, rfl, by decide +kernel⟩⟩
theorem mkX4_31 : dk_Mk RX4 31 2 := ⟨RX2, TX2, tyX2, rfl, inX2, tyX2_ok, by decide +kernel, (dk_m1 125 rfl rfl), (dk_m1 127 rfl rfl), (dk_m1 6 rfl rfl)⟩
theorem mX4_37 : dk_LN RX4 37 yX2_init cX2_init 1 0 := ⟨⟨(dk_m1 6 rfl rfl), (dk_m1 130 rfl rfl), (dk_m1 129 rfl rfl), rfl⟩, ⟨ne1X2, ne2X2, by decide +kernel⟩, fun G U h => h.2.2.1.2.2⟩
theorem fX4_38 : dk_F RX4 38 4 8 := ⟨RX4, TX4, rfl, inX4, by decide, (dk_m1 167 rfl rfl)⟩
theorem fwX4_8 : dk_Fw 4 8 .int := ⟨nnX4, fun Cn T N h => by
  have h' : (RX4, TX4, 11) = (Cn, T, N) := Option.some.inj h
  cases h'
  exact ⟨rfl, by decide +kernel⟩⟩
theorem fX4_42 : dk_F RX4 42 4 10 := ⟨RX4, TX4, rfl, inX4, by decide, (dk_m1 173 rfl rfl)⟩
theorem fwX4_10 : dk_Fw 4 10 .int := ⟨nnX4, fun Cn T N h => by
  have h' : (RX4, TX4, 11) = (Cn, T, N) := Option.some.inj h
  cases h'
  exact ⟨rfl, by decide +kernel⟩⟩
theorem fX4_45 : dk_F RX4 45 4 4 := ⟨RX4, TX4, rfl, inX4, by decide, (dk_m1 152 rfl rfl)⟩
theorem fwX4_4 : dk_Fw 4 4 .int := ⟨nnX4, fun Cn T N h => by
  have h' : (RX4, TX4, 11) = (Cn, T, N) := Option.some.inj h
  cases h'
  exact ⟨rfl, by decide +kernel⟩⟩
theorem fX4_48 : dk_F RX4 48 4 5 := ⟨RX4, TX4, rfl, inX4, by decide, (dk_m1 156 rfl rfl)⟩
theorem fwX4_5 : dk_Fw 4 5 .int := ⟨nnX4, fun Cn T N h => by
  have h' : (RX4, TX4, 11) = (Cn, T, N) := Option.some.inj h
  cases h'
  exact ⟨rfl, by decide +kernel⟩⟩
theorem fX4_51 : dk_F RX4 51 4 6 := ⟨RX4, TX4, rfl, inX4, by decide, (dk_m1 160 rfl rfl)⟩
theorem fwX4_6 : dk_Fw 4 6 .int := ⟨nnX4, fun Cn T N h => by
  have h' : (RX4, TX4, 11) = (Cn, T, N) := Option.some.inj h
  cases h'
  exact ⟨rfl, by decide +kernel⟩⟩
theorem fX4_54 : dk_F RX4 54 4 7 := ⟨RX4, TX4, rfl, inX4, by decide, (dk_m1 164 rfl rfl)⟩
theorem fwX4_7 : dk_Fw 4 7 .int := ⟨nnX4, fun Cn T N h => by
  have h' : (RX4, TX4, 11) = (Cn, T, N) := Option.some.inj h
  cases h'
  exact ⟨rfl, by decide +kernel⟩⟩
theorem fX4_57 : dk_F RX4 57 4 9 := ⟨RX4, TX4, rfl, inX4, by decide, (dk_m1 170 rfl rfl)⟩
theorem fwX4_9 : dk_Fw 4 9 .boolean := ⟨nnX4, fun Cn T N h => by
  have h' : (RX4, TX4, 11) = (Cn, T, N) := Option.some.inj h
  cases h'
  exact ⟨rfl, by decide +kernel⟩⟩
theorem fX5_22 : dk_F RX5 22 5 3 := ⟨RX5, TX5, rfl, inX5, by decide, (dk_m1 36 rfl rfl)⟩
theorem mX4_61 : dk_LV RX4 61 yX5_hasColumn cX5_hasColumn 2 (some .boolean) 1 5 := ⟨⟨⟨(dk_m2 125 rfl rfl), (dk_m1 2 rfl rfl), (dk_m2 85 rfl rfl)⟩, ne1X5, ne2X5, by decide +kernel⟩, ⟨(dk_m2 83 rfl rfl), (dk_m2 84 rfl rfl)⟩, _, rfl, rfl⟩
theorem fX4_65 : dk_F RX4 65 0 0 := ⟨RX0, TX0, rfl, inX0, by decide, (dk_m1 72 rfl rfl)⟩
theorem fwX0_0 : dk_Fw 0 0 .int := ⟨nnX0, fun Cn T N h => by
  have h' : (RX0, TX0, 4) = (Cn, T, N) := Option.some.inj h
  cases h'
  exact ⟨rfl, by decide +kernel⟩⟩
theorem fX4_68 : dk_F RX4 68 0 1 := ⟨RX0, TX0, rfl, inX0, by decide, (dk_m1 75 rfl rfl)⟩
theorem fwX0_1 : dk_Fw 0 1 .int := ⟨nnX0, fun Cn T N h => by
  have h' : (RX0, TX0, 4) = (Cn, T, N) := Option.some.inj h
  cases h'
  exact ⟨rfl, by decide +kernel⟩⟩
theorem fX4_71 : dk_F RX4 71 0 2 := ⟨RX0, TX0, rfl, inX0, by decide, (dk_m1 79 rfl rfl)⟩
theorem fwX0_2 : dk_Fw 0 2 .int := ⟨nnX0, fun Cn T N h => by
  have h' : (RX0, TX0, 4) = (Cn, T, N) := Option.some.inj h
  cases h'
  exact ⟨rfl, by decide +kernel⟩⟩
theorem fX4_74 : dk_F RX4 74 0 3 := ⟨RX0, TX0, rfl, inX0, by decide, (dk_m1 82 rfl rfl)⟩
theorem fwX0_3 : dk_Fw 0 3 .int := ⟨nnX0, fun Cn T N h => by
  have h' : (RX0, TX0, 4) = (Cn, T, N) := Option.some.inj h
  cases h'
  exact ⟨rfl, by decide +kernel⟩⟩
theorem fX4_77 : dk_F RX4 77 1 0 := ⟨RX1, TX1, rfl, inX1, by decide, (dk_m1 101 rfl rfl)⟩
theorem fwX1_0 : dk_Fw 1 0 .int := ⟨nnX1, fun Cn T N h => by
  have h' : (RX1, TX1, 4) = (Cn, T, N) := Option.some.inj h
  cases h'
  exact ⟨rfl, by decide +kernel⟩⟩
theorem fX4_80 : dk_F RX4 80 1 1 := ⟨RX1, TX1, rfl, inX1, by decide, (dk_m1 105 rfl rfl)⟩
theorem fwX1_1 : dk_Fw 1 1 .int := ⟨nnX1, fun Cn T N h => by
  have h' : (RX1, TX1, 4) = (Cn, T, N) := Option.some.inj h
  cases h'
  exact ⟨rfl, by decide +kernel⟩⟩
theorem fX4_83 : dk_F RX4 83 1 2 := ⟨RX1, TX1, rfl, inX1, by decide, (dk_m1 109 rfl rfl)⟩
theorem fwX1_2 : dk_Fw 1 2 .int := ⟨nnX1, fun Cn T N h => by
  have h' : (RX1, TX1, 4) = (Cn, T, N) := Option.some.inj h
  cases h'
  exact ⟨rfl, by decide +kernel⟩⟩
theorem fX4_86 : dk_F RX4 86 1 3 := ⟨RX1, TX1, rfl, inX1, by decide, (dk_m1 113 rfl rfl)⟩
theorem fwX1_3 : dk_Fw 1 3 .int := ⟨nnX1, fun Cn T N h => by
  have h' : (RX1, TX1, 4) = (Cn, T, N) := Option.some.inj h
  cases h'
  exact ⟨rfl, by decide +kernel⟩⟩
theorem fX4_89 : dk_F RX4 89 2 0 := ⟨RX2, TX2, rfl, inX2, by decide, (dk_m1 132 rfl rfl)⟩
theorem fwX2_0 : dk_Fw 2 0 .int := ⟨nnX2, fun Cn T N h => by
  have h' : (RX2, TX2, 2) = (Cn, T, N) := Option.some.inj h
  cases h'
  exact ⟨rfl, by decide +kernel⟩⟩
theorem fX4_90 : dk_F RX4 90 2 1 := ⟨RX2, TX2, rfl, inX2, by decide, (dk_m1 134 rfl rfl)⟩
theorem fwX2_1 : dk_Fw 2 1 .int := ⟨nnX2, fun Cn T N h => by
  have h' : (RX2, TX2, 2) = (Cn, T, N) := Option.some.inj h
  cases h'
  exact ⟨rfl, by decide +kernel⟩⟩
theorem mX4_91 : dk_LV RX4 91 yX4_isOrdered cX4_isOrdered 1 (some .boolean) 0 4 := ⟨⟨⟨(dk_m2 166 rfl rfl), (dk_m1 3 rfl rfl), (dk_m2 169 rfl rfl)⟩, ne1X4, ne2X4, by decide +kernel⟩, ⟨(dk_m2 167 rfl rfl), (dk_m2 168 rfl rfl)⟩, _, rfl, rfl⟩
theorem oiX5_3 : Cond.methodLink RX5 3 objectInit ∈ dk_tbl := (dk_m1 32 rfl rfl)
theorem fX5_11 : dk_F RX5 11 5 0 := ⟨RX5, TX5, rfl, inX5, by decide, (dk_m1 33 rfl rfl)⟩
theorem fzX5_0 : dk_Fz RX5 5 0 (.array .int) := ⟨nnX5, fun Cn T N h => by
  have h' : (RX5, TX5, 6) = (Cn, T, N) := Option.some.inj h
  cases h'
  exact ⟨rfl, rfl, by decide +kernel⟩⟩
theorem fzX5_1 : dk_Fz RX5 5 1 (.array .int) := ⟨nnX5, fun Cn T N h => by
  have h' : (RX5, TX5, 6) = (Cn, T, N) := Option.some.inj h
  cases h'
  exact ⟨rfl, rfl, by decide +kernel⟩⟩
theorem fzX5_2 : dk_Fz RX5 5 2 (.array .boolean) := ⟨nnX5, fun Cn T N h => by
  have h' : (RX5, TX5, 6) = (Cn, T, N) := Option.some.inj h
  cases h'
  exact ⟨rfl, rfl, by decide +kernel⟩⟩
theorem fwX5_3 : dk_Fw 5 3 .int := ⟨nnX5, fun Cn T N h => by
  have h' : (RX5, TX5, 6) = (Cn, T, N) := Option.some.inj h
  cases h'
  exact ⟨rfl, by decide +kernel⟩⟩
theorem fwX5_4 : dk_Fw 5 4 .int := ⟨nnX5, fun Cn T N h => by
  have h' : (RX5, TX5, 6) = (Cn, T, N) := Option.some.inj h
  cases h'
  exact ⟨rfl, by decide +kernel⟩⟩
theorem fX5_29 : dk_F RX5 29 5 5 := ⟨RX5, TX5, rfl, inX5, by decide, (dk_m1 42 rfl rfl)⟩
theorem fwX5_5 : dk_Fw 5 5 .int := ⟨nnX5, fun Cn T N h => by
  have h' : (RX5, TX5, 6) = (Cn, T, N) := Option.some.inj h
  cases h'
  exact ⟨rfl, by decide +kernel⟩⟩
theorem acX5_32 : Cond.methodLink RX5 32 arraycopyName ∈ dk_tbl := (dk_m3 136 rfl rfl)
theorem oiX6_3 : Cond.methodLink RX6 3 objectInit ∈ dk_tbl := (dk_m2 3 rfl rfl)
theorem fX6_13 : dk_F RX6 13 6 0 := ⟨RX6, TX6, rfl, inX6, by decide, (dk_m2 4 rfl rfl)⟩
theorem fzX6_0 : dk_Fz RX6 6 0 (.array .int) := ⟨nnX6, fun Cn T N h => by
  have h' : (RX6, TX6, 9) = (Cn, T, N) := Option.some.inj h
  cases h'
  exact ⟨rfl, rfl, by decide +kernel⟩⟩
theorem fX6_19 : dk_F RX6 19 6 1 := ⟨RX6, TX6, rfl, inX6, by decide, (dk_m2 5 rfl rfl)⟩
theorem fzX6_1 : dk_Fz RX6 6 1 (.array .int) := ⟨nnX6, fun Cn T N h => by
  have h' : (RX6, TX6, 9) = (Cn, T, N) := Option.some.inj h
  cases h'
  exact ⟨rfl, rfl, by decide +kernel⟩⟩
theorem fX6_22 : dk_F RX6 22 6 2 := ⟨RX6, TX6, rfl, inX6, by decide, (dk_m2 6 rfl rfl)⟩
theorem fzX6_2 : dk_Fz RX6 6 2 (.array .int) := ⟨nnX6, fun Cn T N h => by
  have h' : (RX6, TX6, 9) = (Cn, T, N) := Option.some.inj h
  cases h'
  exact ⟨rfl, rfl, by decide +kernel⟩⟩
theorem fX6_25 : dk_F RX6 25 6 3 := ⟨RX6, TX6, rfl, inX6, by decide, (dk_m2 7 rfl rfl)⟩
theorem fzX6_3 : dk_Fz RX6 6 3 (.array .int) := ⟨nnX6, fun Cn T N h => by
  have h' : (RX6, TX6, 9) = (Cn, T, N) := Option.some.inj h
  cases h'
  exact ⟨rfl, rfl, by decide +kernel⟩⟩
theorem fX6_28 : dk_F RX6 28 6 4 := ⟨RX6, TX6, rfl, inX6, by decide, (dk_m2 8 rfl rfl)⟩
theorem fzX6_4 : dk_Fz RX6 6 4 (.array .int) := ⟨nnX6, fun Cn T N h => by
  have h' : (RX6, TX6, 9) = (Cn, T, N) := Option.some.inj h
  cases h'
  exact ⟨rfl, rfl, by decide +kernel⟩⟩
theorem fX6_31 : dk_F RX6 31 6 5 := ⟨RX6, TX6, rfl, inX6, by decide, (dk_m2 9 rfl rfl)⟩
theorem fzX6_5 : dk_Fz RX6 6 5 (.array .int) := ⟨nnX6, fun Cn T N h => by
  have h' : (RX6, TX6, 9) = (Cn, T, N) := Option.some.inj h
  cases h'
  exact ⟨rfl, rfl, by decide +kernel⟩⟩
theorem fX6_34 : dk_F RX6 34 6 8 := ⟨RX6, TX6, rfl, inX6, by decide, (dk_m2 14 rfl rfl)⟩
theorem fwX6_8 : dk_Fw 6 8 .int := ⟨nnX6, fun Cn T N h => by
  have h' : (RX6, TX6, 9) = (Cn, T, N) := Option.some.inj h
  cases h'
  exact ⟨rfl, by decide +kernel⟩⟩
theorem fX6_38 : dk_F RX6 38 6 6 := ⟨RX6, TX6, rfl, inX6, by decide, (dk_m2 10 rfl rfl)⟩
theorem fwX6_6 : dk_Fw 6 6 .int := ⟨nnX6, fun Cn T N h => by
  have h' : (RX6, TX6, 9) = (Cn, T, N) := Option.some.inj h
  cases h'
  exact ⟨rfl, by decide +kernel⟩⟩
theorem fX6_41 : dk_F RX6 41 6 7 := ⟨RX6, TX6, rfl, inX6, by decide, (dk_m2 12 rfl rfl)⟩
theorem fwX6_7 : dk_Fw 6 7 .int := ⟨nnX6, fun Cn T N h => by
  have h' : (RX6, TX6, 9) = (Cn, T, N) := Option.some.inj h
  cases h'
  exact ⟨rfl, by decide +kernel⟩⟩
theorem mX6_126 : dk_LV RX6 126 yX5_value cX5_value 3 (some .int) 2 5 := ⟨⟨⟨(dk_m2 182 rfl rfl), (dk_m1 2 rfl rfl), (dk_m2 185 rfl rfl)⟩, ne1X5, ne2X5, by decide +kernel⟩, ⟨(dk_m2 183 rfl rfl), (dk_m2 184 rfl rfl)⟩, _, rfl, rfl⟩
theorem fX6_86 : dk_F RX6 86 0 1 := ⟨RX0, TX0, rfl, inX0, by decide, (dk_m1 77 rfl rfl)⟩
theorem mX6_93 : dk_LV RX6 93 yX0_holds cX0_holds 2 (some .boolean) 1 0 := ⟨⟨⟨(dk_m2 186 rfl rfl), (dk_m1 4 rfl rfl), (dk_m2 189 rfl rfl)⟩, ne1X0, ne2X0, by decide +kernel⟩, ⟨(dk_m2 187 rfl rfl), (dk_m2 188 rfl rfl)⟩, _, rfl, rfl⟩
theorem mX6_150 : dk_LV RX6 150 yX6_addPlace cX6_addPlace 2 none 1 6 := ⟨⟨⟨(dk_m2 223 rfl rfl), (dk_m1 8 rfl rfl), (dk_m2 226 rfl rfl)⟩, ne1X6, ne2X6, by decide +kernel⟩, ⟨(dk_m2 225 rfl rfl), (dk_m0 11 rfl rfl)⟩, _, rfl, rfl⟩
theorem mX6_154 : dk_LV RX6 154 yX6_sinkLastPlace cX6_sinkLastPlace 7 none 2 6 := ⟨⟨⟨(dk_m2 227 rfl rfl), (dk_m1 8 rfl rfl), (dk_m2 230 rfl rfl)⟩, ne1X6, ne2X6, by decide +kernel⟩, ⟨(dk_m2 229 rfl rfl), (dk_m0 12 rfl rfl)⟩, _, rfl, rfl⟩
theorem fX6_122 : dk_F RX6 122 4 0 := ⟨RX4, TX4, rfl, inX4, by decide, (dk_m1 143 rfl rfl)⟩
theorem mX6_158 : dk_LV RX6 158 yX1_partnerOf cX1_partnerOf 2 (some .int) 1 1 := ⟨⟨⟨(dk_m2 235 rfl rfl), (dk_m1 5 rfl rfl), (dk_m2 201 rfl rfl)⟩, ne1X1, ne2X1, by decide +kernel⟩, ⟨(dk_m2 199 rfl rfl), (dk_m2 200 rfl rfl)⟩, _, rfl, rfl⟩
theorem mX6_162 : dk_LV RX6 162 yX1_columnOf cX1_columnOf 2 (some .int) 1 1 := ⟨⟨⟨(dk_m2 236 rfl rfl), (dk_m1 5 rfl rfl), (dk_m2 239 rfl rfl)⟩, ne1X1, ne2X1, by decide +kernel⟩, ⟨(dk_m2 237 rfl rfl), (dk_m2 238 rfl rfl)⟩, _, rfl, rfl⟩
theorem mX6_89 : dk_LV RX6 89 yX6_readValue cX6_readValue 4 (some .int) 3 6 := ⟨⟨⟨(dk_m2 178 rfl rfl), (dk_m1 8 rfl rfl), (dk_m2 181 rfl rfl)⟩, ne1X6, ne2X6, by decide +kernel⟩, ⟨(dk_m2 180 rfl rfl), (dk_m0 5 rfl rfl)⟩, _, rfl, rfl⟩
theorem fX6_58 : dk_F RX6 58 3 3 := ⟨RX3, TX3, rfl, inX3, by decide, (dk_m1 208 rfl rfl)⟩
theorem fX6_130 : dk_F RX6 130 5 4 := ⟨RX5, TX5, rfl, inX5, by decide, (dk_m1 40 rfl rfl)⟩
theorem fX6_133 : dk_F RX6 133 3 5 := ⟨RX3, TX3, rfl, inX3, by decide, (dk_m1 214 rfl rfl)⟩
theorem fX6_77 : dk_F RX6 77 4 1 := ⟨RX4, TX4, rfl, inX4, by decide, (dk_m1 146 rfl rfl)⟩
theorem fX6_136 : dk_F RX6 136 3 4 := ⟨RX3, TX3, rfl, inX3, by decide, (dk_m1 211 rfl rfl)⟩
theorem mX6_139 : dk_LV RX6 139 yX6_openByCondition cX6_openByCondition 5 none 4 6 := ⟨⟨⟨(dk_m2 219 rfl rfl), (dk_m1 8 rfl rfl), (dk_m2 222 rfl rfl)⟩, ne1X6, ne2X6, by decide +kernel⟩, ⟨(dk_m2 221 rfl rfl), (dk_m0 10 rfl rfl)⟩, _, rfl, rfl⟩
theorem fX6_143 : dk_F RX6 143 3 6 := ⟨RX3, TX3, rfl, inX3, by decide, (dk_m1 217 rfl rfl)⟩
theorem fX6_100 : dk_F RX6 100 4 2 := ⟨RX4, TX4, rfl, inX4, by decide, (dk_m1 149 rfl rfl)⟩
theorem mX6_146 : dk_LV RX6 146 yX6_openByJoin cX6_openByJoin 7 none 4 6 := ⟨⟨⟨(dk_m2 231 rfl rfl), (dk_m1 8 rfl rfl), (dk_m2 234 rfl rfl)⟩, ne1X6, ne2X6, by decide +kernel⟩, ⟨(dk_m2 233 rfl rfl), (dk_m0 13 rfl rfl)⟩, _, rfl, rfl⟩
theorem mX6_44 : dk_LV RX6 44 yX6_clear cX6_clear 1 none 0 6 := ⟨⟨⟨(dk_m4 16 rfl rfl), (dk_m1 8 rfl rfl), (dk_m2 69 rfl rfl)⟩, ne1X6, ne2X6, by decide +kernel⟩, ⟨(dk_m2 67 rfl rfl), (dk_m2 68 rfl rfl)⟩, _, rfl, rfl⟩
theorem mX6_47 : dk_LV RX6 47 yX6_openSource cX6_openSource 7 none 3 6 := ⟨⟨⟨(dk_m2 215 rfl rfl), (dk_m1 8 rfl rfl), (dk_m2 218 rfl rfl)⟩, ne1X6, ne2X6, by decide +kernel⟩, ⟨(dk_m2 217 rfl rfl), (dk_m0 9 rfl rfl)⟩, _, rfl, rfl⟩
theorem mX6_51 : dk_LV RX6 51 yX6_leaveFinishedSources cX6_leaveFinishedSources 1 none 0 6 := ⟨⟨⟨(dk_m3 0 rfl rfl), (dk_m1 8 rfl rfl), (dk_m3 3 rfl rfl)⟩, ne1X6, ne2X6, by decide +kernel⟩, ⟨(dk_m3 2 rfl rfl), (dk_m0 14 rfl rfl)⟩, _, rfl, rfl⟩
theorem mX6_54 : dk_LV RX6 54 yX4_enoughAnswers cX4_enoughAnswers 1 (some .int) 0 4 := ⟨⟨⟨(dk_m2 162 rfl rfl), (dk_m1 3 rfl rfl), (dk_m2 165 rfl rfl)⟩, ne1X4, ne2X4, by decide +kernel⟩, ⟨(dk_m2 163 rfl rfl), (dk_m2 164 rfl rfl)⟩, _, rfl, rfl⟩
theorem fX6_74 : dk_F RX6 74 4 5 := ⟨RX4, TX4, rfl, inX4, by decide, (dk_m1 158 rfl rfl)⟩
theorem fX6_81 : dk_F RX6 81 0 0 := ⟨RX0, TX0, rfl, inX0, by decide, (dk_m1 74 rfl rfl)⟩
theorem fX6_97 : dk_F RX6 97 4 6 := ⟨RX4, TX4, rfl, inX4, by decide, (dk_m1 162 rfl rfl)⟩
theorem mX6_104 : dk_LV RX6 104 yX3_tiesBack cX3_tiesBack 3 (some .boolean) 2 3 := ⟨⟨⟨(dk_m2 190 rfl rfl), (dk_m1 7 rfl rfl), (dk_m2 193 rfl rfl)⟩, ne1X3, ne2X3, by decide +kernel⟩, ⟨(dk_m2 191 rfl rfl), (dk_m2 192 rfl rfl)⟩, _, rfl, rfl⟩
theorem fX6_108 : dk_F RX6 108 1 0 := ⟨RX1, TX1, rfl, inX1, by decide, (dk_m1 103 rfl rfl)⟩
theorem fX6_113 : dk_F RX6 113 1 1 := ⟨RX1, TX1, rfl, inX1, by decide, (dk_m1 107 rfl rfl)⟩
theorem fX6_116 : dk_F RX6 116 1 2 := ⟨RX1, TX1, rfl, inX1, by decide, (dk_m1 111 rfl rfl)⟩
theorem fX6_119 : dk_F RX6 119 1 3 := ⟨RX1, TX1, rfl, inX1, by decide, (dk_m1 115 rfl rfl)⟩
theorem fX6_184 : dk_F RX6 184 4 8 := ⟨RX4, TX4, rfl, inX4, by decide, (dk_m1 169 rfl rfl)⟩
theorem fX6_187 : dk_F RX6 187 4 9 := ⟨RX4, TX4, rfl, inX4, by decide, (dk_m1 172 rfl rfl)⟩
theorem fX6_165 : dk_F RX6 165 4 7 := ⟨RX4, TX4, rfl, inX4, by decide, (dk_m1 166 rfl rfl)⟩
theorem fX6_168 : dk_F RX6 168 4 3 := ⟨RX4, TX4, rfl, inX4, by decide, (dk_m1 151 rfl rfl)⟩
theorem fX6_172 : dk_F RX6 172 2 0 := ⟨RX2, TX2, rfl, inX2, by decide, (dk_m1 133 rfl rfl)⟩
theorem fX6_175 : dk_F RX6 175 2 1 := ⟨RX2, TX2, rfl, inX2, by decide, (dk_m1 135 rfl rfl)⟩
theorem mX6_176 : dk_LV RX6 176 yX4_isOrdered cX4_isOrdered 1 (some .boolean) 0 4 := ⟨⟨⟨(dk_m2 210 rfl rfl), (dk_m1 3 rfl rfl), (dk_m2 169 rfl rfl)⟩, ne1X4, ne2X4, by decide +kernel⟩, ⟨(dk_m2 167 rfl rfl), (dk_m2 168 rfl rfl)⟩, _, rfl, rfl⟩
theorem mX6_180 : dk_LV RX6 180 yX6_goesBefore cX6_goesBefore 6 (some .boolean) 3 6 := ⟨⟨⟨(dk_m2 211 rfl rfl), (dk_m1 8 rfl rfl), (dk_m2 214 rfl rfl)⟩, ne1X6, ne2X6, by decide +kernel⟩, ⟨(dk_m2 213 rfl rfl), (dk_m0 8 rfl rfl)⟩, _, rfl, rfl⟩
theorem mX6_63 : dk_LV RX6 63 yX6_passes cX6_passes 6 (some .boolean) 2 6 := ⟨⟨⟨(dk_m2 174 rfl rfl), (dk_m1 8 rfl rfl), (dk_m2 177 rfl rfl)⟩, ne1X6, ne2X6, by decide +kernel⟩, ⟨(dk_m2 176 rfl rfl), (dk_m0 4 rfl rfl)⟩, _, rfl, rfl⟩
theorem fX6_67 : dk_F RX6 67 4 4 := ⟨RX4, TX4, rfl, inX4, by decide, (dk_m1 154 rfl rfl)⟩
theorem mX6_70 : dk_LV RX6 70 yX6_keepAnswer cX6_keepAnswer 5 none 1 6 := ⟨⟨⟨(dk_m2 206 rfl rfl), (dk_m1 8 rfl rfl), (dk_m2 209 rfl rfl)⟩, ne1X6, ne2X6, by decide +kernel⟩, ⟨(dk_m2 208 rfl rfl), (dk_m0 7 rfl rfl)⟩, _, rfl, rfl⟩
theorem oiX7_1 : Cond.methodLink RX7 1 objectInit ∈ dk_tbl := (dk_m1 23 rfl rfl)
theorem anX7_9 : Cond.classLink RX7 9 RX5 ∈ dk_tbl := (dk_m1 26 rfl rfl)
theorem fX7_11 : dk_F RX7 11 7 0 := ⟨RX7, TX7, rfl, inX7, by decide, (dk_m2 34 rfl rfl)⟩
theorem fzX7_0 : dk_Fz RX7 7 0 (.array (.object "QueryDesk$Table")) := ⟨nnX7, fun Cn T N h => by
  have h' : (RX7, TX7, 5) = (Cn, T, N) := Option.some.inj h
  cases h'
  exact ⟨rfl, rfl, by decide +kernel⟩⟩
theorem mkX7_9 : dk_Mk RX7 9 5 := ⟨RX5, TX5, tyX5, rfl, inX5, tyX5_ok, by decide +kernel, (dk_m1 26 rfl rfl), (dk_m1 28 rfl rfl), (dk_m1 2 rfl rfl)⟩
theorem mX7_15 : dk_LI RX7 15 yX5_init cX5_init 1 0 := ⟨⟨⟨(dk_m1 29 rfl rfl), (dk_m1 2 rfl rfl), (dk_m1 31 rfl rfl)⟩, ne1X5, ne2X5, by decide +kernel⟩, (dk_m1 30 rfl rfl), rfl⟩
theorem mkX7_16 : dk_Mk RX7 16 4 := ⟨RX4, TX4, tyX4, rfl, inX4, tyX4_ok, by decide +kernel, (dk_m1 58 rfl rfl), (dk_m1 59 rfl rfl), (dk_m1 3 rfl rfl)⟩
theorem mX7_18 : dk_LI RX7 18 yX4_init cX4_init 2 0 := ⟨⟨⟨(dk_m1 60 rfl rfl), (dk_m1 3 rfl rfl), (dk_m1 62 rfl rfl)⟩, ne1X4, ne2X4, by decide +kernel⟩, (dk_m1 61 rfl rfl), rfl⟩
theorem fX7_19 : dk_F RX7 19 7 1 := ⟨RX7, TX7, rfl, inX7, by decide, (dk_m2 35 rfl rfl)⟩
theorem fzX7_1 : dk_Fz RX7 7 1 (.object "QueryDesk$Question") := ⟨nnX7, fun Cn T N h => by
  have h' : (RX7, TX7, 5) = (Cn, T, N) := Option.some.inj h
  cases h'
  exact ⟨rfl, rfl, by decide +kernel⟩⟩
theorem mkX7_23 : dk_Mk RX7 23 3 := ⟨RX3, TX3, tyX3, rfl, inX3, tyX3_ok, by decide +kernel, (dk_m1 198 rfl rfl), (dk_m1 199 rfl rfl), (dk_m1 7 rfl rfl)⟩
theorem mX7_25 : dk_LI RX7 25 yX3_init cX3_init 1 0 := ⟨⟨⟨(dk_m1 200 rfl rfl), (dk_m1 7 rfl rfl), (dk_m1 202 rfl rfl)⟩, ne1X3, ne2X3, by decide +kernel⟩, (dk_m1 201 rfl rfl), rfl⟩
theorem fX7_26 : dk_F RX7 26 7 2 := ⟨RX7, TX7, rfl, inX7, by decide, (dk_m2 36 rfl rfl)⟩
theorem fzX7_2 : dk_Fz RX7 7 2 (.object "QueryDesk$Plan") := ⟨nnX7, fun Cn T N h => by
  have h' : (RX7, TX7, 5) = (Cn, T, N) := Option.some.inj h
  cases h'
  exact ⟨rfl, rfl, by decide +kernel⟩⟩
theorem mkX7_30 : dk_Mk RX7 30 6 := ⟨RX6, TX6, tyX6, rfl, inX6, tyX6_ok, by decide +kernel, (dk_m1 238 rfl rfl), (dk_m1 239 rfl rfl), (dk_m1 8 rfl rfl)⟩
theorem mX7_32 : dk_LI RX7 32 yX6_init cX6_init 1 0 := ⟨⟨⟨(dk_m2 0 rfl rfl), (dk_m1 8 rfl rfl), (dk_m2 2 rfl rfl)⟩, ne1X6, ne2X6, by decide +kernel⟩, (dk_m2 1 rfl rfl), rfl⟩
theorem fX7_33 : dk_F RX7 33 7 3 := ⟨RX7, TX7, rfl, inX7, by decide, (dk_m2 37 rfl rfl)⟩
theorem fzX7_3 : dk_Fz RX7 7 3 (.object "QueryDesk$Work") := ⟨nnX7, fun Cn T N h => by
  have h' : (RX7, TX7, 5) = (Cn, T, N) := Option.some.inj h
  cases h'
  exact ⟨rfl, rfl, by decide +kernel⟩⟩
theorem fX7_37 : dk_F RX7 37 7 4 := ⟨RX7, TX7, rfl, inX7, by decide, (dk_m2 38 rfl rfl)⟩
theorem fwX7_4 : dk_Fw 7 4 .int := ⟨nnX7, fun Cn T N h => by
  have h' : (RX7, TX7, 5) = (Cn, T, N) := Option.some.inj h
  cases h'
  exact ⟨rfl, by decide +kernel⟩⟩
theorem mX7_208 : dk_LV RX7 208 yX4_clear cX4_clear 1 none 0 4 := ⟨⟨⟨(dk_m2 62 rfl rfl), (dk_m1 3 rfl rfl), (dk_m2 65 rfl rfl)⟩, ne1X4, ne2X4, by decide +kernel⟩, ⟨(dk_m2 63 rfl rfl), (dk_m2 64 rfl rfl)⟩, _, rfl, rfl⟩
theorem mX7_211 : dk_LV RX7 211 yX6_clear cX6_clear 1 none 0 6 := ⟨⟨⟨(dk_m2 66 rfl rfl), (dk_m1 8 rfl rfl), (dk_m2 69 rfl rfl)⟩, ne1X6, ne2X6, by decide +kernel⟩, ⟨(dk_m2 67 rfl rfl), (dk_m2 68 rfl rfl)⟩, _, rfl, rfl⟩
theorem mX7_41 : dk_LV RX7 41 yX5_makeAnew cX5_makeAnew 3 none 1 5 := ⟨⟨⟨(dk_m2 54 rfl rfl), (dk_m1 2 rfl rfl), (dk_m2 57 rfl rfl)⟩, ne1X5, ne2X5, by decide +kernel⟩, ⟨(dk_m2 55 rfl rfl), (dk_m2 56 rfl rfl)⟩, _, rfl, rfl⟩
theorem mX7_45 : dk_LV RX7 45 yX7_beginQuestion cX7_beginQuestion 1 none 0 7 := ⟨⟨⟨(dk_m2 58 rfl rfl), (dk_m1 1 rfl rfl), (dk_m2 61 rfl rfl)⟩, ne1X7, ne2X7, by decide +kernel⟩, ⟨(dk_m2 60 rfl rfl), (dk_m0 0 rfl rfl)⟩, _, rfl, rfl⟩
theorem fX7_203 : dk_F RX7 203 5 3 := ⟨RX5, TX5, rfl, inX5, by decide, (dk_m1 37 rfl rfl)⟩
theorem mX7_48 : dk_LV RX7 48 yX7_hasTable cX7_hasTable 2 (some .boolean) 1 7 := ⟨⟨⟨(dk_m2 78 rfl rfl), (dk_m1 1 rfl rfl), (dk_m2 81 rfl rfl)⟩, ne1X7, ne2X7, by decide +kernel⟩, ⟨(dk_m2 80 rfl rfl), (dk_m0 2 rfl rfl)⟩, _, rfl, rfl⟩
theorem mX7_59 : dk_LV RX7 59 yX5_isFull cX5_isFull 1 (some .boolean) 0 5 := ⟨⟨⟨(dk_m3 92 rfl rfl), (dk_m1 2 rfl rfl), (dk_m3 95 rfl rfl)⟩, ne1X5, ne2X5, by decide +kernel⟩, ⟨(dk_m3 93 rfl rfl), (dk_m3 94 rfl rfl)⟩, _, rfl, rfl⟩
theorem mX7_68 : dk_LV RX7 68 yX7_endQuestion cX7_endQuestion 1 none 0 7 := ⟨⟨⟨(dk_m2 93 rfl rfl), (dk_m1 1 rfl rfl), (dk_m2 96 rfl rfl)⟩, ne1X7, ne2X7, by decide +kernel⟩, ⟨(dk_m2 95 rfl rfl), (dk_m0 3 rfl rfl)⟩, _, rfl, rfl⟩
theorem mX7_71 : dk_LV RX7 71 yX5_add cX5_add 7 (some .int) 4 5 := ⟨⟨⟨(dk_m3 112 rfl rfl), (dk_m1 2 rfl rfl), (dk_m3 115 rfl rfl)⟩, ne1X5, ne2X5, by decide +kernel⟩, ⟨(dk_m3 113 rfl rfl), (dk_m3 114 rfl rfl)⟩, _, rfl, rfl⟩
theorem mX7_81 : dk_LV RX7 81 yX5_placeOf cX5_placeOf 3 (some .int) 1 5 := ⟨⟨⟨(dk_m3 127 rfl rfl), (dk_m1 2 rfl rfl), (dk_m3 130 rfl rfl)⟩, ne1X5, ne2X5, by decide +kernel⟩, ⟨(dk_m3 128 rfl rfl), (dk_m3 129 rfl rfl)⟩, _, rfl, rfl⟩
theorem mX7_75 : dk_LV RX7 75 yX7_hasRow cX7_hasRow 3 (some .boolean) 2 7 := ⟨⟨⟨(dk_m3 123 rfl rfl), (dk_m1 1 rfl rfl), (dk_m3 126 rfl rfl)⟩, ne1X7, ne2X7, by decide +kernel⟩, ⟨(dk_m3 125 rfl rfl), (dk_m0 17 rfl rfl)⟩, _, rfl, rfl⟩
theorem mX7_85 : dk_LV RX7 85 yX5_remove cX5_remove 3 none 1 5 := ⟨⟨⟨(dk_m3 132 rfl rfl), (dk_m1 2 rfl rfl), (dk_m3 135 rfl rfl)⟩, ne1X5, ne2X5, by decide +kernel⟩, ⟨(dk_m3 133 rfl rfl), (dk_m3 134 rfl rfl)⟩, _, rfl, rfl⟩
theorem mX7_206 : dk_LV RX7 206 yX5_hasColumn cX5_hasColumn 2 (some .boolean) 1 5 := ⟨⟨⟨(dk_m2 82 rfl rfl), (dk_m1 2 rfl rfl), (dk_m2 85 rfl rfl)⟩, ne1X5, ne2X5, by decide +kernel⟩, ⟨(dk_m2 83 rfl rfl), (dk_m2 84 rfl rfl)⟩, _, rfl, rfl⟩
theorem mX7_88 : dk_LV RX7 88 yX7_hasColumn cX7_hasColumn 3 (some .boolean) 2 7 := ⟨⟨⟨(dk_m2 74 rfl rfl), (dk_m1 1 rfl rfl), (dk_m2 77 rfl rfl)⟩, ne1X7, ne2X7, by decide +kernel⟩, ⟨(dk_m2 76 rfl rfl), (dk_m0 1 rfl rfl)⟩, _, rfl, rfl⟩
theorem mX7_93 : dk_LV RX7 93 yX5_put cX5_put 4 none 3 5 := ⟨⟨⟨(dk_m3 147 rfl rfl), (dk_m1 2 rfl rfl), (dk_m3 150 rfl rfl)⟩, ne1X5, ne2X5, by decide +kernel⟩, ⟨(dk_m3 148 rfl rfl), (dk_m3 149 rfl rfl)⟩, _, rfl, rfl⟩
theorem mX7_97 : dk_LV RX7 97 yX5_value cX5_value 3 (some .int) 2 5 := ⟨⟨⟨(dk_m3 158 rfl rfl), (dk_m1 2 rfl rfl), (dk_m2 185 rfl rfl)⟩, ne1X5, ne2X5, by decide +kernel⟩, ⟨(dk_m2 183 rfl rfl), (dk_m2 184 rfl rfl)⟩, _, rfl, rfl⟩
theorem mX7_101 : dk_LS RX7 101 yX7_isKind cX7_isKind 1 (some .boolean) 1 := ⟨⟨⟨(dk_m2 86 rfl rfl), (dk_m1 1 rfl rfl), (dk_m2 88 rfl rfl)⟩, ne1X7, ne2X7, by decide +kernel⟩, (dk_m2 87 rfl rfl)⟩
theorem mX7_104 : dk_LV RX7 104 yX5_hasIndex cX5_hasIndex 3 (some .boolean) 2 5 := ⟨⟨⟨(dk_m2 89 rfl rfl), (dk_m1 2 rfl rfl), (dk_m2 92 rfl rfl)⟩, ne1X5, ne2X5, by decide +kernel⟩, ⟨(dk_m2 90 rfl rfl), (dk_m2 91 rfl rfl)⟩, _, rfl, rfl⟩
theorem mX7_107 : dk_LV RX7 107 yX5_setIndex cX5_setIndex 4 none 3 5 := ⟨⟨⟨(dk_m2 97 rfl rfl), (dk_m1 2 rfl rfl), (dk_m2 100 rfl rfl)⟩, ne1X5, ne2X5, by decide +kernel⟩, ⟨(dk_m2 98 rfl rfl), (dk_m2 99 rfl rfl)⟩, _, rfl, rfl⟩
theorem fX7_111 : dk_F RX7 111 4 4 := ⟨RX4, TX4, rfl, inX4, by decide, (dk_m1 155 rfl rfl)⟩
theorem mX7_114 : dk_LV RX7 114 yX4_addSource cX4_addSource 3 (some .int) 1 4 := ⟨⟨⟨(dk_m2 113 rfl rfl), (dk_m1 3 rfl rfl), (dk_m2 116 rfl rfl)⟩, ne1X4, ne2X4, by decide +kernel⟩, ⟨(dk_m2 114 rfl rfl), (dk_m2 115 rfl rfl)⟩, _, rfl, rfl⟩
theorem mX7_118 : dk_LV RX7 118 yX4_hasColumn cX4_hasColumn 3 (some .boolean) 2 4 := ⟨⟨⟨(dk_m2 121 rfl rfl), (dk_m1 3 rfl rfl), (dk_m2 124 rfl rfl)⟩, ne1X4, ne2X4, by decide +kernel⟩, ⟨(dk_m2 122 rfl rfl), (dk_m2 123 rfl rfl)⟩, _, rfl, rfl⟩
theorem fX7_119 : dk_F RX7 119 4 5 := ⟨RX4, TX4, rfl, inX4, by decide, (dk_m1 159 rfl rfl)⟩
theorem mX7_122 : dk_LV RX7 122 yX4_addCondition cX4_addCondition 6 none 4 4 := ⟨⟨⟨(dk_m2 126 rfl rfl), (dk_m1 3 rfl rfl), (dk_m2 129 rfl rfl)⟩, ne1X4, ne2X4, by decide +kernel⟩, ⟨(dk_m2 127 rfl rfl), (dk_m2 128 rfl rfl)⟩, _, rfl, rfl⟩
theorem fX7_126 : dk_F RX7 126 4 6 := ⟨RX4, TX4, rfl, inX4, by decide, (dk_m1 163 rfl rfl)⟩
theorem mX7_129 : dk_LV RX7 129 yX4_addJoin cX4_addJoin 6 none 4 4 := ⟨⟨⟨(dk_m2 134 rfl rfl), (dk_m1 3 rfl rfl), (dk_m2 137 rfl rfl)⟩, ne1X4, ne2X4, by decide +kernel⟩, ⟨(dk_m2 135 rfl rfl), (dk_m2 136 rfl rfl)⟩, _, rfl, rfl⟩
theorem fX7_132 : dk_F RX7 132 4 7 := ⟨RX4, TX4, rfl, inX4, by decide, (dk_m1 165 rfl rfl)⟩
theorem mX7_135 : dk_LV RX7 135 yX4_addOutput cX4_addOutput 4 (some .int) 2 4 := ⟨⟨⟨(dk_m2 142 rfl rfl), (dk_m1 3 rfl rfl), (dk_m2 145 rfl rfl)⟩, ne1X4, ne2X4, by decide +kernel⟩, ⟨(dk_m2 143 rfl rfl), (dk_m2 144 rfl rfl)⟩, _, rfl, rfl⟩
theorem fX7_138 : dk_F RX7 138 4 8 := ⟨RX4, TX4, rfl, inX4, by decide, (dk_m1 168 rfl rfl)⟩
theorem fX7_141 : dk_F RX7 141 4 9 := ⟨RX4, TX4, rfl, inX4, by decide, (dk_m1 171 rfl rfl)⟩
theorem fX7_145 : dk_F RX7 145 4 10 := ⟨RX4, TX4, rfl, inX4, by decide, (dk_m1 174 rfl rfl)⟩
theorem mX7_150 : dk_LV RX7 150 yX3_choose cX3_choose 7 (some .float) 1 3 := ⟨⟨⟨(dk_m3 167 rfl rfl), (dk_m1 7 rfl rfl), (dk_m3 170 rfl rfl)⟩, ne1X3, ne2X3, by decide +kernel⟩, ⟨(dk_m3 168 rfl rfl), (dk_m3 169 rfl rfl)⟩, _, rfl, rfl⟩
theorem mX7_154 : dk_LV RX7 154 yX6_begin cX6_begin 3 none 2 6 := ⟨⟨⟨(dk_m4 12 rfl rfl), (dk_m1 8 rfl rfl), (dk_m4 15 rfl rfl)⟩, ne1X6, ne2X6, by decide +kernel⟩, ⟨(dk_m4 13 rfl rfl), (dk_m4 14 rfl rfl)⟩, _, rfl, rfl⟩
theorem fX7_163 : dk_F RX7 163 3 3 := ⟨RX3, TX3, rfl, inX3, by decide, (dk_m1 209 rfl rfl)⟩
theorem fX7_167 : dk_F RX7 167 3 4 := ⟨RX3, TX3, rfl, inX3, by decide, (dk_m1 212 rfl rfl)⟩
theorem fX7_170 : dk_F RX7 170 3 5 := ⟨RX3, TX3, rfl, inX3, by decide, (dk_m1 215 rfl rfl)⟩
theorem fX7_173 : dk_F RX7 173 3 6 := ⟨RX3, TX3, rfl, inX3, by decide, (dk_m1 218 rfl rfl)⟩
theorem mX7_176 : dk_LV RX7 176 yX6_isDone cX6_isDone 2 (some .boolean) 1 6 := ⟨⟨⟨(dk_m2 158 rfl rfl), (dk_m1 8 rfl rfl), (dk_m2 161 rfl rfl)⟩, ne1X6, ne2X6, by decide +kernel⟩, ⟨(dk_m2 159 rfl rfl), (dk_m2 160 rfl rfl)⟩, _, rfl, rfl⟩
theorem mX7_180 : dk_LV RX7 180 yX6_makeStep cX6_makeStep 4 none 2 6 := ⟨⟨⟨(dk_m2 170 rfl rfl), (dk_m1 8 rfl rfl), (dk_m2 173 rfl rfl)⟩, ne1X6, ne2X6, by decide +kernel⟩, ⟨(dk_m2 171 rfl rfl), (dk_m2 172 rfl rfl)⟩, _, rfl, rfl⟩
theorem fX7_190 : dk_F RX7 190 6 6 := ⟨RX6, TX6, rfl, inX6, by decide, (dk_m2 11 rfl rfl)⟩
theorem mmX7_212 : Cond.methodLink RX7 212 Lib.Math.min.name ∈ dk_tbl := (dk_m3 12 rfl rfl)
theorem fX7_183 : dk_F RX7 183 6 7 := ⟨RX6, TX6, rfl, inX6, by decide, (dk_m2 13 rfl rfl)⟩
theorem mX7_186 : dk_LV RX7 186 yX7_givenAnswers cX7_givenAnswers 1 (some .int) 0 7 := ⟨⟨⟨(dk_m3 8 rfl rfl), (dk_m1 1 rfl rfl), (dk_m3 11 rfl rfl)⟩, ne1X7, ne2X7, by decide +kernel⟩, ⟨(dk_m3 10 rfl rfl), (dk_m0 15 rfl rfl)⟩, _, rfl, rfl⟩
theorem fX7_193 : dk_F RX7 193 5 4 := ⟨RX5, TX5, rfl, inX5, by decide, (dk_m1 41 rfl rfl)⟩
theorem mX7_200 : dk_LV RX7 200 yX6_valueOf cX6_valueOf 3 (some .int) 2 6 := ⟨⟨⟨(dk_m4 50 rfl rfl), (dk_m1 8 rfl rfl), (dk_m4 53 rfl rfl)⟩, ne1X6, ne2X6, by decide +kernel⟩, ⟨(dk_m4 51 rfl rfl), (dk_m4 52 rfl rfl)⟩, _, rfl, rfl⟩
theorem fX8_71 : dk_F RX8 71 8 6 := ⟨RX8, TX8, rfl, inX8, by decide, (dk_m4 70 rfl rfl)⟩
theorem fwX8_6 : dk_Fw 8 6 .int := ⟨nnX8, fun Cn T N h => by
  have h' : (RX8, TX8, 30) = (Cn, T, N) := Option.some.inj h
  cases h'
  exact ⟨rfl, by decide +kernel⟩⟩
theorem fX8_96 : dk_F RX8 96 8 7 := ⟨RX8, TX8, rfl, inX8, by decide, (dk_m4 71 rfl rfl)⟩
theorem fwX8_7 : dk_Fw 8 7 .int := ⟨nnX8, fun Cn T N h => by
  have h' : (RX8, TX8, 30) = (Cn, T, N) := Option.some.inj h
  cases h'
  exact ⟨rfl, by decide +kernel⟩⟩
theorem fX8_99 : dk_F RX8 99 8 9 := ⟨RX8, TX8, rfl, inX8, by decide, (dk_m4 73 rfl rfl)⟩
theorem fwX8_9 : dk_Fw 8 9 .int := ⟨nnX8, fun Cn T N h => by
  have h' : (RX8, TX8, 30) = (Cn, T, N) := Option.some.inj h
  cases h'
  exact ⟨rfl, by decide +kernel⟩⟩
theorem fX8_102 : dk_F RX8 102 8 11 := ⟨RX8, TX8, rfl, inX8, by decide, (dk_m4 75 rfl rfl)⟩
theorem fwX8_11 : dk_Fw 8 11 .int := ⟨nnX8, fun Cn T N h => by
  have h' : (RX8, TX8, 30) = (Cn, T, N) := Option.some.inj h
  cases h'
  exact ⟨rfl, by decide +kernel⟩⟩
theorem fX8_105 : dk_F RX8 105 8 13 := ⟨RX8, TX8, rfl, inX8, by decide, (dk_m4 77 rfl rfl)⟩
theorem fwX8_13 : dk_Fw 8 13 .int := ⟨nnX8, fun Cn T N h => by
  have h' : (RX8, TX8, 30) = (Cn, T, N) := Option.some.inj h
  cases h'
  exact ⟨rfl, by decide +kernel⟩⟩
theorem fX8_108 : dk_F RX8 108 8 15 := ⟨RX8, TX8, rfl, inX8, by decide, (dk_m4 79 rfl rfl)⟩
theorem fwX8_15 : dk_Fw 8 15 .int := ⟨nnX8, fun Cn T N h => by
  have h' : (RX8, TX8, 30) = (Cn, T, N) := Option.some.inj h
  cases h'
  exact ⟨rfl, by decide +kernel⟩⟩
theorem fX8_111 : dk_F RX8 111 8 16 := ⟨RX8, TX8, rfl, inX8, by decide, (dk_m4 80 rfl rfl)⟩
theorem fwX8_16 : dk_Fw 8 16 .boolean := ⟨nnX8, fun Cn T N h => by
  have h' : (RX8, TX8, 30) = (Cn, T, N) := Option.some.inj h
  cases h'
  exact ⟨rfl, by decide +kernel⟩⟩
theorem fX8_115 : dk_F RX8 115 8 17 := ⟨RX8, TX8, rfl, inX8, by decide, (dk_m4 81 rfl rfl)⟩
theorem fwX8_17 : dk_Fw 8 17 .int := ⟨nnX8, fun Cn T N h => by
  have h' : (RX8, TX8, 30) = (Cn, T, N) := Option.some.inj h
  cases h'
  exact ⟨rfl, by decide +kernel⟩⟩
theorem fX8_118 : dk_F RX8 118 8 27 := ⟨RX8, TX8, rfl, inX8, by decide, (dk_m4 91 rfl rfl)⟩
theorem fwX8_27 : dk_Fw 8 27 .int := ⟨nnX8, fun Cn T N h => by
  have h' : (RX8, TX8, 30) = (Cn, T, N) := Option.some.inj h
  cases h'
  exact ⟨rfl, by decide +kernel⟩⟩
theorem fX8_121 : dk_F RX8 121 8 28 := ⟨RX8, TX8, rfl, inX8, by decide, (dk_m4 92 rfl rfl)⟩
theorem fwX8_28 : dk_Fw 8 28 .int := ⟨nnX8, fun Cn T N h => by
  have h' : (RX8, TX8, 30) = (Cn, T, N) := Option.some.inj h
  cases h'
  exact ⟨rfl, by decide +kernel⟩⟩
theorem oiX8_1 : Cond.methodLink RX8 1 objectInit ∈ dk_tbl := (dk_m4 59 rfl rfl)
theorem fX8_7 : dk_F RX8 7 8 1 := ⟨RX8, TX8, rfl, inX8, by decide, (dk_m4 65 rfl rfl)⟩
theorem fzX8_1 : dk_Fz RX8 8 1 (.array .int) := ⟨nnX8, fun Cn T N h => by
  have h' : (RX8, TX8, 30) = (Cn, T, N) := Option.some.inj h
  cases h'
  exact ⟨rfl, rfl, by decide +kernel⟩⟩
theorem fX8_13 : dk_F RX8 13 8 2 := ⟨RX8, TX8, rfl, inX8, by decide, (dk_m4 66 rfl rfl)⟩
theorem fzX8_2 : dk_Fz RX8 8 2 (.array .int) := ⟨nnX8, fun Cn T N h => by
  have h' : (RX8, TX8, 30) = (Cn, T, N) := Option.some.inj h
  cases h'
  exact ⟨rfl, rfl, by decide +kernel⟩⟩
theorem fX8_16 : dk_F RX8 16 8 3 := ⟨RX8, TX8, rfl, inX8, by decide, (dk_m4 67 rfl rfl)⟩
theorem fzX8_3 : dk_Fz RX8 8 3 (.array .boolean) := ⟨nnX8, fun Cn T N h => by
  have h' : (RX8, TX8, 30) = (Cn, T, N) := Option.some.inj h
  cases h'
  exact ⟨rfl, rfl, by decide +kernel⟩⟩
theorem fX8_20 : dk_F RX8 20 8 4 := ⟨RX8, TX8, rfl, inX8, by decide, (dk_m4 68 rfl rfl)⟩
theorem fzX8_4 : dk_Fz RX8 8 4 (.array .int) := ⟨nnX8, fun Cn T N h => by
  have h' : (RX8, TX8, 30) = (Cn, T, N) := Option.some.inj h
  cases h'
  exact ⟨rfl, rfl, by decide +kernel⟩⟩
theorem fX8_23 : dk_F RX8 23 8 5 := ⟨RX8, TX8, rfl, inX8, by decide, (dk_m4 69 rfl rfl)⟩
theorem fzX8_5 : dk_Fz RX8 8 5 (.array .boolean) := ⟨nnX8, fun Cn T N h => by
  have h' : (RX8, TX8, 30) = (Cn, T, N) := Option.some.inj h
  cases h'
  exact ⟨rfl, rfl, by decide +kernel⟩⟩
theorem fX8_26 : dk_F RX8 26 8 8 := ⟨RX8, TX8, rfl, inX8, by decide, (dk_m4 72 rfl rfl)⟩
theorem fzX8_8 : dk_Fz RX8 8 8 (.array .int) := ⟨nnX8, fun Cn T N h => by
  have h' : (RX8, TX8, 30) = (Cn, T, N) := Option.some.inj h
  cases h'
  exact ⟨rfl, rfl, by decide +kernel⟩⟩
theorem fX8_29 : dk_F RX8 29 8 10 := ⟨RX8, TX8, rfl, inX8, by decide, (dk_m4 74 rfl rfl)⟩
theorem fzX8_10 : dk_Fz RX8 8 10 (.array .int) := ⟨nnX8, fun Cn T N h => by
  have h' : (RX8, TX8, 30) = (Cn, T, N) := Option.some.inj h
  cases h'
  exact ⟨rfl, rfl, by decide +kernel⟩⟩
theorem fX8_32 : dk_F RX8 32 8 12 := ⟨RX8, TX8, rfl, inX8, by decide, (dk_m4 76 rfl rfl)⟩
theorem fzX8_12 : dk_Fz RX8 8 12 (.array .int) := ⟨nnX8, fun Cn T N h => by
  have h' : (RX8, TX8, 30) = (Cn, T, N) := Option.some.inj h
  cases h'
  exact ⟨rfl, rfl, by decide +kernel⟩⟩
theorem fX8_35 : dk_F RX8 35 8 14 := ⟨RX8, TX8, rfl, inX8, by decide, (dk_m4 78 rfl rfl)⟩
theorem fzX8_14 : dk_Fz RX8 8 14 (.array .int) := ⟨nnX8, fun Cn T N h => by
  have h' : (RX8, TX8, 30) = (Cn, T, N) := Option.some.inj h
  cases h'
  exact ⟨rfl, rfl, by decide +kernel⟩⟩
theorem fX8_38 : dk_F RX8 38 8 18 := ⟨RX8, TX8, rfl, inX8, by decide, (dk_m4 82 rfl rfl)⟩
theorem fzX8_18 : dk_Fz RX8 8 18 (.array .int) := ⟨nnX8, fun Cn T N h => by
  have h' : (RX8, TX8, 30) = (Cn, T, N) := Option.some.inj h
  cases h'
  exact ⟨rfl, rfl, by decide +kernel⟩⟩
theorem fX8_41 : dk_F RX8 41 8 19 := ⟨RX8, TX8, rfl, inX8, by decide, (dk_m4 83 rfl rfl)⟩
theorem fzX8_19 : dk_Fz RX8 8 19 (.array .int) := ⟨nnX8, fun Cn T N h => by
  have h' : (RX8, TX8, 30) = (Cn, T, N) := Option.some.inj h
  cases h'
  exact ⟨rfl, rfl, by decide +kernel⟩⟩
theorem fX8_44 : dk_F RX8 44 8 20 := ⟨RX8, TX8, rfl, inX8, by decide, (dk_m4 84 rfl rfl)⟩
theorem fzX8_20 : dk_Fz RX8 8 20 (.array .int) := ⟨nnX8, fun Cn T N h => by
  have h' : (RX8, TX8, 30) = (Cn, T, N) := Option.some.inj h
  cases h'
  exact ⟨rfl, rfl, by decide +kernel⟩⟩
theorem fX8_47 : dk_F RX8 47 8 21 := ⟨RX8, TX8, rfl, inX8, by decide, (dk_m4 85 rfl rfl)⟩
theorem fzX8_21 : dk_Fz RX8 8 21 (.array .int) := ⟨nnX8, fun Cn T N h => by
  have h' : (RX8, TX8, 30) = (Cn, T, N) := Option.some.inj h
  cases h'
  exact ⟨rfl, rfl, by decide +kernel⟩⟩
theorem fX8_50 : dk_F RX8 50 8 25 := ⟨RX8, TX8, rfl, inX8, by decide, (dk_m4 89 rfl rfl)⟩
theorem fzX8_25 : dk_Fz RX8 8 25 (.array .int) := ⟨nnX8, fun Cn T N h => by
  have h' : (RX8, TX8, 30) = (Cn, T, N) := Option.some.inj h
  cases h'
  exact ⟨rfl, rfl, by decide +kernel⟩⟩
theorem fX8_53 : dk_F RX8 53 8 29 := ⟨RX8, TX8, rfl, inX8, by decide, (dk_m4 93 rfl rfl)⟩
theorem fzX8_29 : dk_Fz RX8 8 29 (.array .int) := ⟨nnX8, fun Cn T N h => by
  have h' : (RX8, TX8, 30) = (Cn, T, N) := Option.some.inj h
  cases h'
  exact ⟨rfl, rfl, by decide +kernel⟩⟩
theorem mX8_56 : dk_LV RX8 56 yX8_empty cX8_empty 1 none 0 8 := ⟨⟨⟨(dk_m4 60 rfl rfl), (dk_m1 9 rfl rfl), (dk_m4 63 rfl rfl)⟩, ne1X8, ne2X8, by decide +kernel⟩, ⟨(dk_m4 62 rfl rfl), (dk_m0 28 rfl rfl)⟩, _, rfl, rfl⟩
theorem fX8_59 : dk_F RX8 59 8 0 := ⟨RX8, TX8, rfl, inX8, by decide, (dk_m4 64 rfl rfl)⟩
theorem mX8_63 : dk_LS RX8 63 yX8_in cX8_in 3 (some .boolean) 3 := ⟨⟨⟨(dk_m4 163 rfl rfl), (dk_m1 9 rfl rfl), (dk_m4 165 rfl rfl)⟩, ne1X8, ne2X8, by decide +kernel⟩, (dk_m4 164 rfl rfl)⟩
theorem mX8_67 : dk_LV RX8 67 yX8_isTable cX8_isTable 2 (some .boolean) 1 8 := ⟨⟨⟨(dk_m4 170 rfl rfl), (dk_m1 9 rfl rfl), (dk_m4 173 rfl rfl)⟩, ne1X8, ne2X8, by decide +kernel⟩, ⟨(dk_m4 172 rfl rfl), (dk_m0 29 rfl rfl)⟩, _, rfl, rfl⟩
theorem fwX8_0 : dk_Fw 8 0 .int := ⟨nnX8, fun Cn T N h => by
  have h' : (RX8, TX8, 30) = (Cn, T, N) := Option.some.inj h
  cases h'
  exact ⟨rfl, by decide +kernel⟩⟩
theorem mX8_74 : dk_LV RX8 74 yX8_rowsOf cX8_rowsOf 4 (some .int) 1 8 := ⟨⟨⟨(dk_m4 174 rfl rfl), (dk_m1 9 rfl rfl), (dk_m4 177 rfl rfl)⟩, ne1X8, ne2X8, by decide +kernel⟩, ⟨(dk_m4 176 rfl rfl), (dk_m0 30 rfl rfl)⟩, _, rfl, rfl⟩
theorem mX8_78 : dk_LV RX8 78 yX8_changed cX8_changed 1 none 0 8 := ⟨⟨⟨(dk_m4 178 rfl rfl), (dk_m1 9 rfl rfl), (dk_m4 181 rfl rfl)⟩, ne1X8, ne2X8, by decide +kernel⟩, ⟨(dk_m4 180 rfl rfl), (dk_m0 31 rfl rfl)⟩, _, rfl, rfl⟩
theorem mX8_81 : dk_LV RX8 81 yX8_isRow cX8_isRow 3 (some .boolean) 2 8 := ⟨⟨⟨(dk_m4 186 rfl rfl), (dk_m1 9 rfl rfl), (dk_m4 189 rfl rfl)⟩, ne1X8, ne2X8, by decide +kernel⟩, ⟨(dk_m4 188 rfl rfl), (dk_m0 32 rfl rfl)⟩, _, rfl, rfl⟩
theorem mX8_85 : dk_LV RX8 85 yX8_isColumn cX8_isColumn 3 (some .boolean) 2 8 := ⟨⟨⟨(dk_m4 194 rfl rfl), (dk_m1 9 rfl rfl), (dk_m4 197 rfl rfl)⟩, ne1X8, ne2X8, by decide +kernel⟩, ⟨(dk_m4 196 rfl rfl), (dk_m0 33 rfl rfl)⟩, _, rfl, rfl⟩
theorem mX8_88 : dk_LV RX8 88 yX8_get cX8_get 4 (some .int) 3 8 := ⟨⟨⟨(dk_m4 202 rfl rfl), (dk_m1 9 rfl rfl), (dk_m4 205 rfl rfl)⟩, ne1X8, ne2X8, by decide +kernel⟩, ⟨(dk_m4 204 rfl rfl), (dk_m0 34 rfl rfl)⟩, _, rfl, rfl⟩
theorem mX8_92 : dk_LV RX8 92 yX8_setIndex cX8_setIndex 5 (some .boolean) 4 8 := ⟨⟨⟨(dk_m4 210 rfl rfl), (dk_m1 9 rfl rfl), (dk_m4 213 rfl rfl)⟩, ne1X8, ne2X8, by decide +kernel⟩, ⟨(dk_m4 212 rfl rfl), (dk_m0 35 rfl rfl)⟩, _, rfl, rfl⟩
theorem mX8_124 : dk_LV RX8 124 yX8_has cX8_has 3 (some .boolean) 2 8 := ⟨⟨⟨(dk_m4 230 rfl rfl), (dk_m1 9 rfl rfl), (dk_m4 233 rfl rfl)⟩, ne1X8, ne2X8, by decide +kernel⟩, ⟨(dk_m4 232 rfl rfl), (dk_m0 36 rfl rfl)⟩, _, rfl, rfl⟩
theorem fX8_127 : dk_F RX8 127 8 22 := ⟨RX8, TX8, rfl, inX8, by decide, (dk_m4 86 rfl rfl)⟩
theorem fwX8_22 : dk_Fw 8 22 .int := ⟨nnX8, fun Cn T N h => by
  have h' : (RX8, TX8, 30) = (Cn, T, N) := Option.some.inj h
  cases h'
  exact ⟨rfl, by decide +kernel⟩⟩
theorem fX8_130 : dk_F RX8 130 8 23 := ⟨RX8, TX8, rfl, inX8, by decide, (dk_m4 87 rfl rfl)⟩
theorem fwX8_23 : dk_Fw 8 23 .int := ⟨nnX8, fun Cn T N h => by
  have h' : (RX8, TX8, 30) = (Cn, T, N) := Option.some.inj h
  cases h'
  exact ⟨rfl, by decide +kernel⟩⟩
theorem fX8_133 : dk_F RX8 133 8 24 := ⟨RX8, TX8, rfl, inX8, by decide, (dk_m4 88 rfl rfl)⟩
theorem fwX8_24 : dk_Fw 8 24 .int := ⟨nnX8, fun Cn T N h => by
  have h' : (RX8, TX8, 30) = (Cn, T, N) := Option.some.inj h
  cases h'
  exact ⟨rfl, by decide +kernel⟩⟩
theorem mX8_136 : dk_LV RX8 136 yX8_share cX8_share 14 (some .float) 4 8 := ⟨⟨⟨(dk_m5 25 rfl rfl), (dk_m1 9 rfl rfl), (dk_m5 28 rfl rfl)⟩, ne1X8, ne2X8, by decide +kernel⟩, ⟨(dk_m5 27 rfl rfl), (dk_m0 39 rfl rfl)⟩, _, rfl, rfl⟩
theorem mX8_140 : dk_LV RX8 140 yX8_bettered cX8_bettered 6 (some .float) 5 8 := ⟨⟨⟨(dk_m5 29 rfl rfl), (dk_m1 9 rfl rfl), (dk_m5 32 rfl rfl)⟩, ne1X8, ne2X8, by decide +kernel⟩, ⟨(dk_m5 31 rfl rfl), (dk_m0 40 rfl rfl)⟩, _, rfl, rfl⟩
theorem mX8_144 : dk_LV RX8 144 yX8_sideOf cX8_sideOf 5 (some .int) 3 8 := ⟨⟨⟨(dk_m5 33 rfl rfl), (dk_m1 9 rfl rfl), (dk_m5 36 rfl rfl)⟩, ne1X8, ne2X8, by decide +kernel⟩, ⟨(dk_m5 35 rfl rfl), (dk_m0 41 rfl rfl)⟩, _, rfl, rfl⟩
theorem mX8_147 : dk_LS RX8 147 yX8_ordered cX8_ordered 5 (some .int) 2 := ⟨⟨⟨(dk_m5 18 rfl rfl), (dk_m1 9 rfl rfl), (dk_m5 20 rfl rfl)⟩, ne1X8, ne2X8, by decide +kernel⟩, (dk_m5 19 rfl rfl)⟩
theorem mX8_151 : dk_LV RX8 151 yX8_fewest cX8_fewest 10 (some .float) 2 8 := ⟨⟨⟨(dk_m5 21 rfl rfl), (dk_m1 9 rfl rfl), (dk_m5 24 rfl rfl)⟩, ne1X8, ne2X8, by decide +kernel⟩, ⟨(dk_m5 23 rfl rfl), (dk_m0 38 rfl rfl)⟩, _, rfl, rfl⟩
theorem mX8_155 : dk_LV RX8 155 yX8_lessened cX8_lessened 8 (some .float) 3 8 := ⟨⟨⟨(dk_m5 37 rfl rfl), (dk_m1 9 rfl rfl), (dk_m5 40 rfl rfl)⟩, ne1X8, ne2X8, by decide +kernel⟩, ⟨(dk_m5 39 rfl rfl), (dk_m0 42 rfl rfl)⟩, _, rfl, rfl⟩
theorem mX8_159 : dk_LV RX8 159 yX8_cost cX8_cost 9 (some .float) 1 8 := ⟨⟨⟨(dk_m5 14 rfl rfl), (dk_m1 9 rfl rfl), (dk_m5 17 rfl rfl)⟩, ne1X8, ne2X8, by decide +kernel⟩, ⟨(dk_m5 16 rfl rfl), (dk_m0 37 rfl rfl)⟩, _, rfl, rfl⟩
theorem fX8_163 : dk_F RX8 163 8 26 := ⟨RX8, TX8, rfl, inX8, by decide, (dk_m4 90 rfl rfl)⟩
theorem fwX8_26 : dk_Fw 8 26 .int := ⟨nnX8, fun Cn T N h => by
  have h' : (RX8, TX8, 30) = (Cn, T, N) := Option.some.inj h
  cases h'
  exact ⟨rfl, by decide +kernel⟩⟩
theorem mX8_166 : dk_LV RX8 166 yX8_rowAt cX8_rowAt 3 (some .int) 1 8 := ⟨⟨⟨(dk_m5 57 rfl rfl), (dk_m1 9 rfl rfl), (dk_m5 60 rfl rfl)⟩, ne1X8, ne2X8, by decide +kernel⟩, ⟨(dk_m5 59 rfl rfl), (dk_m0 45 rfl rfl)⟩, _, rfl, rfl⟩
theorem mX8_169 : dk_LV RX8 169 yX8_wanted cX8_wanted 4 (some .int) 2 8 := ⟨⟨⟨(dk_m5 53 rfl rfl), (dk_m1 9 rfl rfl), (dk_m5 56 rfl rfl)⟩, ne1X8, ne2X8, by decide +kernel⟩, ⟨(dk_m5 55 rfl rfl), (dk_m0 44 rfl rfl)⟩, _, rfl, rfl⟩
theorem mX8_172 : dk_LS RX8 172 yX8_holds cX8_holds 3 (some .boolean) 3 := ⟨⟨⟨(dk_m5 61 rfl rfl), (dk_m1 9 rfl rfl), (dk_m5 63 rfl rfl)⟩, ne1X8, ne2X8, by decide +kernel⟩, (dk_m5 62 rfl rfl)⟩
theorem mX8_175 : dk_LV RX8 175 yX8_before cX8_before 6 (some .boolean) 5 8 := ⟨⟨⟨(dk_m5 64 rfl rfl), (dk_m1 9 rfl rfl), (dk_m5 67 rfl rfl)⟩, ne1X8, ne2X8, by decide +kernel⟩, ⟨(dk_m5 66 rfl rfl), (dk_m0 46 rfl rfl)⟩, _, rfl, rfl⟩
theorem mX8_182 : dk_LV RX8 182 yX8_swapped cX8_swapped 6 (some .boolean) 1 8 := ⟨⟨⟨(dk_m5 72 rfl rfl), (dk_m1 9 rfl rfl), (dk_m5 75 rfl rfl)⟩, ne1X8, ne2X8, by decide +kernel⟩, ⟨(dk_m5 74 rfl rfl), (dk_m0 48 rfl rfl)⟩, _, rfl, rfl⟩
theorem mX8_179 : dk_LV RX8 179 yX8_finish cX8_finish 3 none 0 8 := ⟨⟨⟨(dk_m5 68 rfl rfl), (dk_m1 9 rfl rfl), (dk_m5 71 rfl rfl)⟩, ne1X8, ne2X8, by decide +kernel⟩, ⟨(dk_m5 70 rfl rfl), (dk_m0 47 rfl rfl)⟩, _, rfl, rfl⟩
theorem mX8_191 : dk_LV RX8 191 yX8_passes cX8_passes 8 (some .boolean) 1 8 := ⟨⟨⟨(dk_m5 80 rfl rfl), (dk_m1 9 rfl rfl), (dk_m5 83 rfl rfl)⟩, ne1X8, ne2X8, by decide +kernel⟩, ⟨(dk_m5 82 rfl rfl), (dk_m0 50 rfl rfl)⟩, _, rfl, rfl⟩
theorem mX8_194 : dk_LV RX8 194 yX8_give cX8_give 3 none 0 8 := ⟨⟨⟨(dk_m5 84 rfl rfl), (dk_m1 9 rfl rfl), (dk_m5 87 rfl rfl)⟩, ne1X8, ne2X8, by decide +kernel⟩, ⟨(dk_m5 86 rfl rfl), (dk_m0 51 rfl rfl)⟩, _, rfl, rfl⟩
theorem mX8_185 : dk_LV RX8 185 yX8_following cX8_following 9 (some .int) 1 8 := ⟨⟨⟨(dk_m5 49 rfl rfl), (dk_m1 9 rfl rfl), (dk_m5 52 rfl rfl)⟩, ne1X8, ne2X8, by decide +kernel⟩, ⟨(dk_m5 51 rfl rfl), (dk_m0 43 rfl rfl)⟩, _, rfl, rfl⟩
theorem mX8_188 : dk_LV RX8 188 yX8_step cX8_step 1 none 0 8 := ⟨⟨⟨(dk_m5 76 rfl rfl), (dk_m1 9 rfl rfl), (dk_m5 79 rfl rfl)⟩, ne1X8, ne2X8, by decide +kernel⟩, ⟨(dk_m5 78 rfl rfl), (dk_m0 49 rfl rfl)⟩, _, rfl, rfl⟩
theorem mL_7 : dk_LV RL 7 yX7_insert cX7_insert 6 (some .int) 5 7 := ⟨⟨⟨(dk_m3 20 rfl rfl), (dk_m1 1 rfl rfl), (dk_m3 23 rfl rfl)⟩, ne1X7, ne2X7, by decide +kernel⟩, ⟨(dk_m3 21 rfl rfl), (dk_m3 22 rfl rfl)⟩, _, rfl, rfl⟩
theorem mL_17 : dk_LV RL 17 yX7_delete cX7_delete 3 none 2 7 := ⟨⟨⟨(dk_m3 119 rfl rfl), (dk_m1 1 rfl rfl), (dk_m3 122 rfl rfl)⟩, ne1X7, ne2X7, by decide +kernel⟩, ⟨(dk_m3 120 rfl rfl), (dk_m3 121 rfl rfl)⟩, _, rfl, rfl⟩
theorem mL_21 : dk_LV RL 21 yX7_update cX7_update 5 none 4 7 := ⟨⟨⟨(dk_m3 142 rfl rfl), (dk_m1 1 rfl rfl), (dk_m3 145 rfl rfl)⟩, ne1X7, ne2X7, by decide +kernel⟩, ⟨(dk_m3 143 rfl rfl), (dk_m3 144 rfl rfl)⟩, _, rfl, rfl⟩
theorem mL_25 : dk_LV RL 25 yX7_cell cX7_cell 4 (some .int) 3 7 := ⟨⟨⟨(dk_m3 154 rfl rfl), (dk_m1 1 rfl rfl), (dk_m3 157 rfl rfl)⟩, ne1X7, ne2X7, by decide +kernel⟩, ⟨(dk_m3 155 rfl rfl), (dk_m3 156 rfl rfl)⟩, _, rfl, rfl⟩
theorem mL_29 : dk_LV RL 29 yX7_plan cX7_plan 2 (some .float) 0 7 := ⟨⟨⟨(dk_m3 162 rfl rfl), (dk_m1 1 rfl rfl), (dk_m3 165 rfl rfl)⟩, ne1X7, ne2X7, by decide +kernel⟩, ⟨(dk_m3 163 rfl rfl), (dk_m3 164 rfl rfl)⟩, _, rfl, rfl⟩
theorem mL_33 : dk_LV RL 33 yX7_explain cX7_explain 3 (some .int) 2 7 := ⟨⟨⟨(dk_m4 21 rfl rfl), (dk_m1 1 rfl rfl), (dk_m4 24 rfl rfl)⟩, ne1X7, ne2X7, by decide +kernel⟩, ⟨(dk_m4 22 rfl rfl), (dk_m4 23 rfl rfl)⟩, _, rfl, rfl⟩
theorem mL_39 : dk_LV RL 39 yX7_answer cX7_answer 3 (some .int) 2 7 := ⟨⟨⟨(dk_m4 44 rfl rfl), (dk_m1 1 rfl rfl), (dk_m4 47 rfl rfl)⟩, ne1X7, ne2X7, by decide +kernel⟩, ⟨(dk_m4 45 rfl rfl), (dk_m4 46 rfl rfl)⟩, _, rfl, rfl⟩
theorem mkL_8 : dk_Mk RL 8 7 := ⟨RX7, TX7, tyX7, rfl, inX7, tyX7_ok, by decide +kernel, (dk_m1 18 rfl rfl), (dk_m1 19 rfl rfl), (dk_m1 1 rfl rfl)⟩
theorem mL_42 : dk_LI RL 42 yX7_init cX7_init 2 0 := ⟨⟨⟨(dk_m1 20 rfl rfl), (dk_m1 1 rfl rfl), (dk_m1 22 rfl rfl)⟩, ne1X7, ne2X7, by decide +kernel⟩, (dk_m1 21 rfl rfl), rfl⟩
theorem mkL_43 : dk_Mk RL 43 8 := ⟨RX8, TX8, tyX8, rfl, inX8, tyX8_ok, by decide +kernel, (dk_m4 54 rfl rfl), (dk_m4 55 rfl rfl), (dk_m1 9 rfl rfl)⟩
theorem mL_45 : dk_LI RL 45 yX8_init cX8_init 1 0 := ⟨⟨⟨(dk_m4 56 rfl rfl), (dk_m1 9 rfl rfl), (dk_m4 58 rfl rfl)⟩, ne1X8, ne2X8, by decide +kernel⟩, (dk_m4 57 rfl rfl), rfl⟩
theorem mL_46 : dk_LV RL 46 yX7_create cX7_create 3 (some .boolean) 2 7 := ⟨⟨⟨(dk_m2 50 rfl rfl), (dk_m1 1 rfl rfl), (dk_m2 53 rfl rfl)⟩, ne1X7, ne2X7, by decide +kernel⟩, ⟨(dk_m2 51 rfl rfl), (dk_m2 52 rfl rfl)⟩, _, rfl, rfl⟩
theorem mL_50 : dk_LV RL 50 yX8_create cX8_create 4 (some .boolean) 2 8 := ⟨⟨⟨(dk_m4 159 rfl rfl), (dk_m1 9 rfl rfl), (dk_m4 162 rfl rfl)⟩, ne1X8, ne2X8, by decide +kernel⟩, ⟨(dk_m4 160 rfl rfl), (dk_m4 161 rfl rfl)⟩, _, rfl, rfl⟩
theorem mL_56 : dk_LV RL 56 yX8_insert cX8_insert 8 (some .int) 5 8 := ⟨⟨⟨(dk_m4 166 rfl rfl), (dk_m1 9 rfl rfl), (dk_m4 169 rfl rfl)⟩, ne1X8, ne2X8, by decide +kernel⟩, ⟨(dk_m4 167 rfl rfl), (dk_m4 168 rfl rfl)⟩, _, rfl, rfl⟩
theorem mL_57 : dk_LV RL 57 yX8_thrown cX8_thrown 1 (some .int) 0 8 := ⟨⟨⟨(dk_m4 155 rfl rfl), (dk_m1 9 rfl rfl), (dk_m4 158 rfl rfl)⟩, ne1X8, ne2X8, by decide +kernel⟩, ⟨(dk_m4 156 rfl rfl), (dk_m4 157 rfl rfl)⟩, _, rfl, rfl⟩
theorem mL_64 : dk_LV RL 64 yX8_delete cX8_delete 3 none 2 8 := ⟨⟨⟨(dk_m4 182 rfl rfl), (dk_m1 9 rfl rfl), (dk_m4 185 rfl rfl)⟩, ne1X8, ne2X8, by decide +kernel⟩, ⟨(dk_m4 183 rfl rfl), (dk_m4 184 rfl rfl)⟩, _, rfl, rfl⟩
theorem mL_68 : dk_LV RL 68 yX8_update cX8_update 5 none 4 8 := ⟨⟨⟨(dk_m4 190 rfl rfl), (dk_m1 9 rfl rfl), (dk_m4 193 rfl rfl)⟩, ne1X8, ne2X8, by decide +kernel⟩, ⟨(dk_m4 191 rfl rfl), (dk_m4 192 rfl rfl)⟩, _, rfl, rfl⟩
theorem mL_72 : dk_LV RL 72 yX8_cell cX8_cell 4 (some .int) 3 8 := ⟨⟨⟨(dk_m4 198 rfl rfl), (dk_m1 9 rfl rfl), (dk_m4 201 rfl rfl)⟩, ne1X8, ne2X8, by decide +kernel⟩, ⟨(dk_m4 199 rfl rfl), (dk_m4 200 rfl rfl)⟩, _, rfl, rfl⟩
theorem mL_73 : dk_LV RL 73 yX7_index cX7_index 4 (some .boolean) 3 7 := ⟨⟨⟨(dk_m2 70 rfl rfl), (dk_m1 1 rfl rfl), (dk_m2 73 rfl rfl)⟩, ne1X7, ne2X7, by decide +kernel⟩, ⟨(dk_m2 71 rfl rfl), (dk_m2 72 rfl rfl)⟩, _, rfl, rfl⟩
theorem mL_77 : dk_LV RL 77 yX8_index cX8_index 4 (some .boolean) 3 8 := ⟨⟨⟨(dk_m4 206 rfl rfl), (dk_m1 9 rfl rfl), (dk_m4 209 rfl rfl)⟩, ne1X8, ne2X8, by decide +kernel⟩, ⟨(dk_m4 207 rfl rfl), (dk_m4 208 rfl rfl)⟩, _, rfl, rfl⟩
theorem mL_78 : dk_LV RL 78 yX7_drop cX7_drop 4 (some .boolean) 3 7 := ⟨⟨⟨(dk_m2 101 rfl rfl), (dk_m1 1 rfl rfl), (dk_m2 104 rfl rfl)⟩, ne1X7, ne2X7, by decide +kernel⟩, ⟨(dk_m2 102 rfl rfl), (dk_m2 103 rfl rfl)⟩, _, rfl, rfl⟩
theorem mL_81 : dk_LV RL 81 yX8_drop cX8_drop 4 (some .boolean) 3 8 := ⟨⟨⟨(dk_m4 214 rfl rfl), (dk_m1 9 rfl rfl), (dk_m4 217 rfl rfl)⟩, ne1X8, ne2X8, by decide +kernel⟩, ⟨(dk_m4 215 rfl rfl), (dk_m4 216 rfl rfl)⟩, _, rfl, rfl⟩
theorem mL_82 : dk_LV RL 82 yX7_ask cX7_ask 1 none 0 7 := ⟨⟨⟨(dk_m2 105 rfl rfl), (dk_m1 1 rfl rfl), (dk_m2 108 rfl rfl)⟩, ne1X7, ne2X7, by decide +kernel⟩, ⟨(dk_m2 106 rfl rfl), (dk_m2 107 rfl rfl)⟩, _, rfl, rfl⟩
theorem mL_85 : dk_LV RL 85 yX8_ask cX8_ask 1 none 0 8 := ⟨⟨⟨(dk_m4 218 rfl rfl), (dk_m1 9 rfl rfl), (dk_m4 221 rfl rfl)⟩, ne1X8, ne2X8, by decide +kernel⟩, ⟨(dk_m4 219 rfl rfl), (dk_m4 220 rfl rfl)⟩, _, rfl, rfl⟩
theorem mL_86 : dk_LV RL 86 yX7_from cX7_from 2 (some .int) 1 7 := ⟨⟨⟨(dk_m2 109 rfl rfl), (dk_m1 1 rfl rfl), (dk_m2 112 rfl rfl)⟩, ne1X7, ne2X7, by decide +kernel⟩, ⟨(dk_m2 110 rfl rfl), (dk_m2 111 rfl rfl)⟩, _, rfl, rfl⟩
theorem mL_90 : dk_LV RL 90 yX8_from cX8_from 2 (some .int) 1 8 := ⟨⟨⟨(dk_m4 222 rfl rfl), (dk_m1 9 rfl rfl), (dk_m4 225 rfl rfl)⟩, ne1X8, ne2X8, by decide +kernel⟩, ⟨(dk_m4 223 rfl rfl), (dk_m4 224 rfl rfl)⟩, _, rfl, rfl⟩
theorem mL_91 : dk_LV RL 91 yX7_where cX7_where 5 (some .boolean) 4 7 := ⟨⟨⟨(dk_m2 117 rfl rfl), (dk_m1 1 rfl rfl), (dk_m2 120 rfl rfl)⟩, ne1X7, ne2X7, by decide +kernel⟩, ⟨(dk_m2 118 rfl rfl), (dk_m2 119 rfl rfl)⟩, _, rfl, rfl⟩
theorem mL_95 : dk_LV RL 95 yX8_where cX8_where 5 (some .boolean) 4 8 := ⟨⟨⟨(dk_m4 226 rfl rfl), (dk_m1 9 rfl rfl), (dk_m4 229 rfl rfl)⟩, ne1X8, ne2X8, by decide +kernel⟩, ⟨(dk_m4 227 rfl rfl), (dk_m4 228 rfl rfl)⟩, _, rfl, rfl⟩
theorem mL_96 : dk_LV RL 96 yX7_join cX7_join 5 (some .boolean) 4 7 := ⟨⟨⟨(dk_m2 130 rfl rfl), (dk_m1 1 rfl rfl), (dk_m2 133 rfl rfl)⟩, ne1X7, ne2X7, by decide +kernel⟩, ⟨(dk_m2 131 rfl rfl), (dk_m2 132 rfl rfl)⟩, _, rfl, rfl⟩
theorem mL_99 : dk_LV RL 99 yX8_join cX8_join 5 (some .boolean) 4 8 := ⟨⟨⟨(dk_m4 234 rfl rfl), (dk_m1 9 rfl rfl), (dk_m4 237 rfl rfl)⟩, ne1X8, ne2X8, by decide +kernel⟩, ⟨(dk_m4 235 rfl rfl), (dk_m4 236 rfl rfl)⟩, _, rfl, rfl⟩
theorem mL_100 : dk_LV RL 100 yX7_select cX7_select 3 (some .int) 2 7 := ⟨⟨⟨(dk_m2 138 rfl rfl), (dk_m1 1 rfl rfl), (dk_m2 141 rfl rfl)⟩, ne1X7, ne2X7, by decide +kernel⟩, ⟨(dk_m2 139 rfl rfl), (dk_m2 140 rfl rfl)⟩, _, rfl, rfl⟩
theorem mL_103 : dk_LV RL 103 yX8_select cX8_select 3 (some .int) 2 8 := ⟨⟨⟨(dk_m4 238 rfl rfl), (dk_m1 9 rfl rfl), (dk_m5 1 rfl rfl)⟩, ne1X8, ne2X8, by decide +kernel⟩, ⟨(dk_m4 239 rfl rfl), (dk_m5 0 rfl rfl)⟩, _, rfl, rfl⟩
theorem mL_104 : dk_LV RL 104 yX7_order cX7_order 3 (some .boolean) 2 7 := ⟨⟨⟨(dk_m2 146 rfl rfl), (dk_m1 1 rfl rfl), (dk_m2 149 rfl rfl)⟩, ne1X7, ne2X7, by decide +kernel⟩, ⟨(dk_m2 147 rfl rfl), (dk_m2 148 rfl rfl)⟩, _, rfl, rfl⟩
theorem mL_108 : dk_LV RL 108 yX8_order cX8_order 3 (some .boolean) 2 8 := ⟨⟨⟨(dk_m5 2 rfl rfl), (dk_m1 9 rfl rfl), (dk_m5 5 rfl rfl)⟩, ne1X8, ne2X8, by decide +kernel⟩, ⟨(dk_m5 3 rfl rfl), (dk_m5 4 rfl rfl)⟩, _, rfl, rfl⟩
theorem mL_109 : dk_LV RL 109 yX7_limit cX7_limit 2 (some .boolean) 1 7 := ⟨⟨⟨(dk_m2 150 rfl rfl), (dk_m1 1 rfl rfl), (dk_m2 153 rfl rfl)⟩, ne1X7, ne2X7, by decide +kernel⟩, ⟨(dk_m2 151 rfl rfl), (dk_m2 152 rfl rfl)⟩, _, rfl, rfl⟩
theorem mL_113 : dk_LV RL 113 yX8_limit cX8_limit 2 (some .boolean) 1 8 := ⟨⟨⟨(dk_m5 6 rfl rfl), (dk_m1 9 rfl rfl), (dk_m5 9 rfl rfl)⟩, ne1X8, ne2X8, by decide +kernel⟩, ⟨(dk_m5 7 rfl rfl), (dk_m5 8 rfl rfl)⟩, _, rfl, rfl⟩
theorem mL_117 : dk_LV RL 117 yX8_plan cX8_plan 5 (some .float) 0 8 := ⟨⟨⟨(dk_m5 10 rfl rfl), (dk_m1 9 rfl rfl), (dk_m5 13 rfl rfl)⟩, ne1X8, ne2X8, by decide +kernel⟩, ⟨(dk_m5 11 rfl rfl), (dk_m5 12 rfl rfl)⟩, _, rfl, rfl⟩
theorem mL_121 : dk_LV RL 121 yX8_explain cX8_explain 3 (some .int) 2 8 := ⟨⟨⟨(dk_m5 41 rfl rfl), (dk_m1 9 rfl rfl), (dk_m5 44 rfl rfl)⟩, ne1X8, ne2X8, by decide +kernel⟩, ⟨(dk_m5 42 rfl rfl), (dk_m5 43 rfl rfl)⟩, _, rfl, rfl⟩
theorem mL_122 : dk_LV RL 122 yX7_run cX7_run 3 (some .int) 1 7 := ⟨⟨⟨(dk_m2 154 rfl rfl), (dk_m1 1 rfl rfl), (dk_m2 157 rfl rfl)⟩, ne1X7, ne2X7, by decide +kernel⟩, ⟨(dk_m2 155 rfl rfl), (dk_m2 156 rfl rfl)⟩, _, rfl, rfl⟩
theorem mL_125 : dk_LV RL 125 yX8_run cX8_run 5 (some .int) 1 8 := ⟨⟨⟨(dk_m5 45 rfl rfl), (dk_m1 9 rfl rfl), (dk_m5 48 rfl rfl)⟩, ne1X8, ne2X8, by decide +kernel⟩, ⟨(dk_m5 46 rfl rfl), (dk_m5 47 rfl rfl)⟩, _, rfl, rfl⟩
theorem mL_126 : dk_LV RL 126 yX7_look cX7_look 2 (some .int) 1 7 := ⟨⟨⟨(dk_m3 4 rfl rfl), (dk_m1 1 rfl rfl), (dk_m3 7 rfl rfl)⟩, ne1X7, ne2X7, by decide +kernel⟩, ⟨(dk_m3 5 rfl rfl), (dk_m3 6 rfl rfl)⟩, _, rfl, rfl⟩
theorem mL_129 : dk_LV RL 129 yX8_look cX8_look 2 (some .int) 1 8 := ⟨⟨⟨(dk_m5 88 rfl rfl), (dk_m1 9 rfl rfl), (dk_m5 91 rfl rfl)⟩, ne1X8, ne2X8, by decide +kernel⟩, ⟨(dk_m5 89 rfl rfl), (dk_m5 90 rfl rfl)⟩, _, rfl, rfl⟩
theorem mL_132 : dk_LV RL 132 yX8_answer cX8_answer 3 (some .int) 2 8 := ⟨⟨⟨(dk_m5 92 rfl rfl), (dk_m1 9 rfl rfl), (dk_m5 95 rfl rfl)⟩, ne1X8, ne2X8, by decide +kernel⟩, ⟨(dk_m5 93 rfl rfl), (dk_m5 94 rfl rfl)⟩, _, rfl, rfl⟩
end
section
theorem dX0_init_0 : decode cX0_init 0 = .ok (.aload_n 0, 1) := by decide +kernel
theorem dX0_init_1 : decode cX0_init 1 = .ok (.invokespecial 3, 3) := by decide +kernel
theorem dX0_init_4 : decode cX0_init 4 = .ok (.return_, 1) := by decide +kernel
theorem dX0_holds_0 : decode cX0_holds 0 = .ok (.aload_n 0, 1) := by decide +kernel
theorem dX0_holds_1 : decode cX0_holds 1 = .ok (.getfield 9, 3) := by decide +kernel
theorem dX0_holds_4 : decode cX0_holds 4 = .ok (.tableswitch 70 0 2 #[28, 42, 56], 28) := by decide +kernel
theorem dX0_holds_32 : decode cX0_holds 32 = .ok (.iload_n 1, 1) := by decide +kernel
theorem dX0_holds_33 : decode cX0_holds 33 = .ok (.aload_n 0, 1) := by decide +kernel
theorem dX0_holds_34 : decode cX0_holds 34 = .ok (.getfield 15, 3) := by decide +kernel
theorem dX0_holds_37 : decode cX0_holds 37 = .ok (.if_icmp .ne 7, 3) := by decide +kernel
theorem dX0_holds_40 : decode cX0_holds 40 = .ok (.iconst 1, 1) := by decide +kernel
theorem dX0_holds_41 : decode cX0_holds 41 = .ok (.goto 4, 3) := by decide +kernel
theorem dX0_holds_44 : decode cX0_holds 44 = .ok (.iconst 0, 1) := by decide +kernel
theorem dX0_holds_45 : decode cX0_holds 45 = .ok (.ireturn, 1) := by decide +kernel
theorem dX0_holds_46 : decode cX0_holds 46 = .ok (.iload_n 1, 1) := by decide +kernel
theorem dX0_holds_47 : decode cX0_holds 47 = .ok (.aload_n 0, 1) := by decide +kernel
theorem dX0_holds_48 : decode cX0_holds 48 = .ok (.getfield 15, 3) := by decide +kernel
theorem dX0_holds_51 : decode cX0_holds 51 = .ok (.if_icmp .ge 7, 3) := by decide +kernel
theorem dX0_holds_54 : decode cX0_holds 54 = .ok (.iconst 1, 1) := by decide +kernel
theorem dX0_holds_55 : decode cX0_holds 55 = .ok (.goto 4, 3) := by decide +kernel
theorem dX0_holds_58 : decode cX0_holds 58 = .ok (.iconst 0, 1) := by decide +kernel
theorem dX0_holds_59 : decode cX0_holds 59 = .ok (.ireturn, 1) := by decide +kernel
theorem dX0_holds_60 : decode cX0_holds 60 = .ok (.iload_n 1, 1) := by decide +kernel
theorem dX0_holds_61 : decode cX0_holds 61 = .ok (.aload_n 0, 1) := by decide +kernel
theorem dX0_holds_62 : decode cX0_holds 62 = .ok (.getfield 15, 3) := by decide +kernel
theorem dX0_holds_65 : decode cX0_holds 65 = .ok (.if_icmp .le 7, 3) := by decide +kernel
theorem dX0_holds_68 : decode cX0_holds 68 = .ok (.iconst 1, 1) := by decide +kernel
theorem dX0_holds_69 : decode cX0_holds 69 = .ok (.goto 4, 3) := by decide +kernel
theorem dX0_holds_72 : decode cX0_holds 72 = .ok (.iconst 0, 1) := by decide +kernel
theorem dX0_holds_73 : decode cX0_holds 73 = .ok (.ireturn, 1) := by decide +kernel
theorem dX0_holds_74 : decode cX0_holds 74 = .ok (.iload_n 1, 1) := by decide +kernel
theorem dX0_holds_75 : decode cX0_holds 75 = .ok (.aload_n 0, 1) := by decide +kernel
theorem dX0_holds_76 : decode cX0_holds 76 = .ok (.getfield 15, 3) := by decide +kernel
theorem dX0_holds_79 : decode cX0_holds 79 = .ok (.if_icmp .eq 7, 3) := by decide +kernel
theorem dX0_holds_82 : decode cX0_holds 82 = .ok (.iconst 1, 1) := by decide +kernel
theorem dX0_holds_83 : decode cX0_holds 83 = .ok (.goto 4, 3) := by decide +kernel
theorem dX0_holds_86 : decode cX0_holds 86 = .ok (.iconst 0, 1) := by decide +kernel
theorem dX0_holds_87 : decode cX0_holds 87 = .ok (.ireturn, 1) := by decide +kernel
theorem dX1_init_0 : decode cX1_init 0 = .ok (.aload_n 0, 1) := by decide +kernel
theorem dX1_init_1 : decode cX1_init 1 = .ok (.invokespecial 1, 3) := by decide +kernel
theorem dX1_init_4 : decode cX1_init 4 = .ok (.return_, 1) := by decide +kernel
theorem dX1_ties_0 : decode cX1_ties 0 = .ok (.aload_n 0, 1) := by decide +kernel
theorem dX1_ties_1 : decode cX1_ties 1 = .ok (.getfield 7, 3) := by decide +kernel
theorem dX1_ties_4 : decode cX1_ties 4 = .ok (.iload_n 1, 1) := by decide +kernel
theorem dX1_ties_5 : decode cX1_ties 5 = .ok (.if_icmp .eq 11, 3) := by decide +kernel
theorem dX1_ties_8 : decode cX1_ties 8 = .ok (.aload_n 0, 1) := by decide +kernel
theorem dX1_ties_9 : decode cX1_ties 9 = .ok (.getfield 13, 3) := by decide +kernel
theorem dX1_ties_12 : decode cX1_ties 12 = .ok (.iload_n 1, 1) := by decide +kernel
theorem dX1_ties_13 : decode cX1_ties 13 = .ok (.if_icmp .ne 7, 3) := by decide +kernel
theorem dX1_ties_16 : decode cX1_ties 16 = .ok (.iconst 1, 1) := by decide +kernel
theorem dX1_ties_17 : decode cX1_ties 17 = .ok (.goto 4, 3) := by decide +kernel
theorem dX1_ties_20 : decode cX1_ties 20 = .ok (.iconst 0, 1) := by decide +kernel
theorem dX1_ties_21 : decode cX1_ties 21 = .ok (.ireturn, 1) := by decide +kernel
theorem dX1_partnerOf_0 : decode cX1_partnerOf 0 = .ok (.aload_n 0, 1) := by decide +kernel
theorem dX1_partnerOf_1 : decode cX1_partnerOf 1 = .ok (.getfield 7, 3) := by decide +kernel
theorem dX1_partnerOf_4 : decode cX1_partnerOf 4 = .ok (.iload_n 1, 1) := by decide +kernel
theorem dX1_partnerOf_5 : decode cX1_partnerOf 5 = .ok (.if_icmp .ne 10, 3) := by decide +kernel
theorem dX1_partnerOf_8 : decode cX1_partnerOf 8 = .ok (.aload_n 0, 1) := by decide +kernel
theorem dX1_partnerOf_9 : decode cX1_partnerOf 9 = .ok (.getfield 13, 3) := by decide +kernel
theorem dX1_partnerOf_12 : decode cX1_partnerOf 12 = .ok (.goto 7, 3) := by decide +kernel
theorem dX1_partnerOf_15 : decode cX1_partnerOf 15 = .ok (.aload_n 0, 1) := by decide +kernel
theorem dX1_partnerOf_16 : decode cX1_partnerOf 16 = .ok (.getfield 7, 3) := by decide +kernel
theorem dX1_partnerOf_19 : decode cX1_partnerOf 19 = .ok (.ireturn, 1) := by decide +kernel
theorem dX1_columnOf_0 : decode cX1_columnOf 0 = .ok (.aload_n 0, 1) := by decide +kernel
theorem dX1_columnOf_1 : decode cX1_columnOf 1 = .ok (.getfield 7, 3) := by decide +kernel
theorem dX1_columnOf_4 : decode cX1_columnOf 4 = .ok (.iload_n 1, 1) := by decide +kernel
theorem dX1_columnOf_5 : decode cX1_columnOf 5 = .ok (.if_icmp .ne 10, 3) := by decide +kernel
theorem dX1_columnOf_8 : decode cX1_columnOf 8 = .ok (.aload_n 0, 1) := by decide +kernel
theorem dX1_columnOf_9 : decode cX1_columnOf 9 = .ok (.getfield 16, 3) := by decide +kernel
theorem dX1_columnOf_12 : decode cX1_columnOf 12 = .ok (.goto 7, 3) := by decide +kernel
theorem dX1_columnOf_15 : decode cX1_columnOf 15 = .ok (.aload_n 0, 1) := by decide +kernel
theorem dX1_columnOf_16 : decode cX1_columnOf 16 = .ok (.getfield 19, 3) := by decide +kernel
theorem dX1_columnOf_19 : decode cX1_columnOf 19 = .ok (.ireturn, 1) := by decide +kernel
theorem dX2_init_0 : decode cX2_init 0 = .ok (.aload_n 0, 1) := by decide +kernel
theorem dX2_init_1 : decode cX2_init 1 = .ok (.invokespecial 1, 3) := by decide +kernel
theorem dX2_init_4 : decode cX2_init 4 = .ok (.return_, 1) := by decide +kernel
theorem dX3_init_0 : decode cX3_init 0 = .ok (.aload_n 0, 1) := by decide +kernel
theorem dX3_init_1 : decode cX3_init 1 = .ok (.invokespecial 3, 3) := by decide +kernel
theorem dX3_init_4 : decode cX3_init 4 = .ok (.aload_n 0, 1) := by decide +kernel
theorem dX3_init_5 : decode cX3_init 5 = .ok (.iconst 4, 1) := by decide +kernel
theorem dX3_init_6 : decode cX3_init 6 = .ok (.newarray .float, 2) := by decide +kernel
theorem dX3_init_8 : decode cX3_init 8 = .ok (.putfield 11, 3) := by decide +kernel
theorem dX3_init_11 : decode cX3_init 11 = .ok (.aload_n 0, 1) := by decide +kernel
theorem dX3_init_12 : decode cX3_init 12 = .ok (.iconst 3, 1) := by decide +kernel
theorem dX3_init_13 : decode cX3_init 13 = .ok (.newarray .float, 2) := by decide +kernel
theorem dX3_init_15 : decode cX3_init 15 = .ok (.putfield 17, 3) := by decide +kernel
theorem dX3_init_18 : decode cX3_init 18 = .ok (.aload_n 0, 1) := by decide +kernel
theorem dX3_init_19 : decode cX3_init 19 = .ok (.iconst 3, 1) := by decide +kernel
theorem dX3_init_20 : decode cX3_init 20 = .ok (.newarray .float, 2) := by decide +kernel
theorem dX3_init_22 : decode cX3_init 22 = .ok (.putfield 20, 3) := by decide +kernel
theorem dX3_init_25 : decode cX3_init 25 = .ok (.aload_n 0, 1) := by decide +kernel
theorem dX3_init_26 : decode cX3_init 26 = .ok (.iconst 3, 1) := by decide +kernel
theorem dX3_init_27 : decode cX3_init 27 = .ok (.newarray .int, 2) := by decide +kernel
theorem dX3_init_29 : decode cX3_init 29 = .ok (.putfield 23, 3) := by decide +kernel
theorem dX3_init_32 : decode cX3_init 32 = .ok (.aload_n 0, 1) := by decide +kernel
theorem dX3_init_33 : decode cX3_init 33 = .ok (.iconst 3, 1) := by decide +kernel
theorem dX3_init_34 : decode cX3_init 34 = .ok (.newarray .int, 2) := by decide +kernel
theorem dX3_init_36 : decode cX3_init 36 = .ok (.putfield 27, 3) := by decide +kernel
theorem dX3_init_39 : decode cX3_init 39 = .ok (.aload_n 0, 1) := by decide +kernel
theorem dX3_init_40 : decode cX3_init 40 = .ok (.iconst 3, 1) := by decide +kernel
theorem dX3_init_41 : decode cX3_init 41 = .ok (.newarray .int, 2) := by decide +kernel
theorem dX3_init_43 : decode cX3_init 43 = .ok (.putfield 30, 3) := by decide +kernel
theorem dX3_init_46 : decode cX3_init 46 = .ok (.aload_n 0, 1) := by decide +kernel
theorem dX3_init_47 : decode cX3_init 47 = .ok (.iconst 3, 1) := by decide +kernel
theorem dX3_init_48 : decode cX3_init 48 = .ok (.newarray .int, 2) := by decide +kernel
theorem dX3_init_50 : decode cX3_init 50 = .ok (.putfield 33, 3) := by decide +kernel
theorem dX3_init_53 : decode cX3_init 53 = .ok (.return_, 1) := by decide +kernel
theorem dX3_choose_0 : decode cX3_choose 0 = .ok (.aload_n 0, 1) := by decide +kernel
theorem dX3_choose_1 : decode cX3_choose 1 = .ok (.aload_n 1, 1) := by decide +kernel
theorem dX3_choose_2 : decode cX3_choose 2 = .ok (.invokevirtual 36, 3) := by decide +kernel
theorem dX3_choose_5 : decode cX3_choose 5 = .ok (.aload_n 1, 1) := by decide +kernel
theorem dX3_choose_6 : decode cX3_choose 6 = .ok (.getfield 40, 3) := by decide +kernel
theorem dX3_choose_9 : decode cX3_choose 9 = .ok (.invokestatic 44, 3) := by decide +kernel
theorem dX3_choose_12 : decode cX3_choose 12 = .ok (.astore_n 2, 1) := by decide +kernel
theorem dX3_choose_13 : decode cX3_choose 13 = .ok (.iconst 0, 1) := by decide +kernel
theorem dX3_choose_14 : decode cX3_choose 14 = .ok (.istore_n 3, 1) := by decide +kernel
theorem dX3_choose_15 : decode cX3_choose 15 = .ok (.aload_n 0, 1) := by decide +kernel
theorem dX3_choose_16 : decode cX3_choose 16 = .ok (.aload_n 1, 1) := by decide +kernel
theorem dX3_choose_17 : decode cX3_choose 17 = .ok (.aload_n 2, 1) := by decide +kernel
theorem dX3_choose_18 : decode cX3_choose 18 = .ok (.iconst 0, 1) := by decide +kernel
theorem dX3_choose_19 : decode cX3_choose 19 = .ok (.invokevirtual 48, 3) := by decide +kernel
theorem dX3_choose_22 : decode cX3_choose 22 = .ok (.fstore 4, 2) := by decide +kernel
theorem dX3_choose_24 : decode cX3_choose 24 = .ok (.iconst 1, 1) := by decide +kernel
theorem dX3_choose_25 : decode cX3_choose 25 = .ok (.istore 5, 2) := by decide +kernel
theorem dX3_choose_27 : decode cX3_choose 27 = .ok (.iload 5, 2) := by decide +kernel
theorem dX3_choose_29 : decode cX3_choose 29 = .ok (.aload_n 1, 1) := by decide +kernel
theorem dX3_choose_30 : decode cX3_choose 30 = .ok (.getfield 40, 3) := by decide +kernel
theorem dX3_choose_33 : decode cX3_choose 33 = .ok (.invokestatic 52, 3) := by decide +kernel
theorem dX3_choose_36 : decode cX3_choose 36 = .ok (.if_icmp .ge 34, 3) := by decide +kernel
theorem dX3_choose_39 : decode cX3_choose 39 = .ok (.aload_n 0, 1) := by decide +kernel
theorem dX3_choose_40 : decode cX3_choose 40 = .ok (.aload_n 1, 1) := by decide +kernel
theorem dX3_choose_41 : decode cX3_choose 41 = .ok (.aload_n 2, 1) := by decide +kernel
theorem dX3_choose_42 : decode cX3_choose 42 = .ok (.iload 5, 2) := by decide +kernel
theorem dX3_choose_44 : decode cX3_choose 44 = .ok (.invokevirtual 48, 3) := by decide +kernel
theorem dX3_choose_47 : decode cX3_choose 47 = .ok (.fstore 6, 2) := by decide +kernel
theorem dX3_choose_49 : decode cX3_choose 49 = .ok (.fload 6, 2) := by decide +kernel
theorem dX3_choose_51 : decode cX3_choose 51 = .ok (.fload 4, 2) := by decide +kernel
theorem dX3_choose_53 : decode cX3_choose 53 = .ok (.fcmp .g, 1) := by decide +kernel
theorem dX3_choose_54 : decode cX3_choose 54 = .ok (.ifCond .ge 10, 3) := by decide +kernel
theorem dX3_choose_57 : decode cX3_choose 57 = .ok (.iload 5, 2) := by decide +kernel
theorem dX3_choose_59 : decode cX3_choose 59 = .ok (.istore_n 3, 1) := by decide +kernel
theorem dX3_choose_60 : decode cX3_choose 60 = .ok (.fload 6, 2) := by decide +kernel
theorem dX3_choose_62 : decode cX3_choose 62 = .ok (.fstore 4, 2) := by decide +kernel
theorem dX3_choose_64 : decode cX3_choose 64 = .ok (.iinc 5 1, 3) := by decide +kernel
theorem dX3_choose_67 : decode cX3_choose 67 = .ok (.goto (-40), 3) := by decide +kernel
theorem dX3_choose_70 : decode cX3_choose 70 = .ok (.aload_n 0, 1) := by decide +kernel
theorem dX3_choose_71 : decode cX3_choose 71 = .ok (.aload_n 1, 1) := by decide +kernel
theorem dX3_choose_72 : decode cX3_choose 72 = .ok (.aload_n 2, 1) := by decide +kernel
theorem dX3_choose_73 : decode cX3_choose 73 = .ok (.iload_n 3, 1) := by decide +kernel
theorem dX3_choose_74 : decode cX3_choose 74 = .ok (.invokevirtual 48, 3) := by decide +kernel
theorem dX3_choose_77 : decode cX3_choose 77 = .ok (.freturn, 1) := by decide +kernel
theorem dX3_tiesBack_0 : decode cX3_tiesBack 0 = .ok (.aload_n 1, 1) := by decide +kernel
theorem dX3_tiesBack_1 : decode cX3_tiesBack 1 = .ok (.aload_n 0, 1) := by decide +kernel
theorem dX3_tiesBack_2 : decode cX3_tiesBack 2 = .ok (.getfield 23, 3) := by decide +kernel
theorem dX3_tiesBack_5 : decode cX3_tiesBack 5 = .ok (.iload_n 2, 1) := by decide +kernel
theorem dX3_tiesBack_6 : decode cX3_tiesBack 6 = .ok (.iaload, 1) := by decide +kernel
theorem dX3_tiesBack_7 : decode cX3_tiesBack 7 = .ok (.invokevirtual 56, 3) := by decide +kernel
theorem dX3_tiesBack_10 : decode cX3_tiesBack 10 = .ok (.ifCond .eq 25, 3) := by decide +kernel
theorem dX3_tiesBack_13 : decode cX3_tiesBack 13 = .ok (.aload_n 0, 1) := by decide +kernel
theorem dX3_tiesBack_14 : decode cX3_tiesBack 14 = .ok (.aload_n 1, 1) := by decide +kernel
theorem dX3_tiesBack_15 : decode cX3_tiesBack 15 = .ok (.aload_n 0, 1) := by decide +kernel
theorem dX3_tiesBack_16 : decode cX3_tiesBack 16 = .ok (.getfield 23, 3) := by decide +kernel
theorem dX3_tiesBack_19 : decode cX3_tiesBack 19 = .ok (.iload_n 2, 1) := by decide +kernel
theorem dX3_tiesBack_20 : decode cX3_tiesBack 20 = .ok (.iaload, 1) := by decide +kernel
theorem dX3_tiesBack_21 : decode cX3_tiesBack 21 = .ok (.invokevirtual 62, 3) := by decide +kernel
theorem dX3_tiesBack_24 : decode cX3_tiesBack 24 = .ok (.iload_n 2, 1) := by decide +kernel
theorem dX3_tiesBack_25 : decode cX3_tiesBack 25 = .ok (.invokevirtual 65, 3) := by decide +kernel
theorem dX3_tiesBack_28 : decode cX3_tiesBack 28 = .ok (.ifCond .eq 7, 3) := by decide +kernel
theorem dX3_tiesBack_31 : decode cX3_tiesBack 31 = .ok (.iconst 1, 1) := by decide +kernel
theorem dX3_tiesBack_32 : decode cX3_tiesBack 32 = .ok (.goto 4, 3) := by decide +kernel
theorem dX3_tiesBack_35 : decode cX3_tiesBack 35 = .ok (.iconst 0, 1) := by decide +kernel
theorem dX3_tiesBack_36 : decode cX3_tiesBack 36 = .ok (.ireturn, 1) := by decide +kernel
theorem dX3_isBefore_0 : decode cX3_isBefore 0 = .ok (.iconst 0, 1) := by decide +kernel
theorem dX3_isBefore_1 : decode cX3_isBefore 1 = .ok (.istore_n 3, 1) := by decide +kernel
theorem dX3_isBefore_2 : decode cX3_isBefore 2 = .ok (.iload_n 3, 1) := by decide +kernel
theorem dX3_isBefore_3 : decode cX3_isBefore 3 = .ok (.iload_n 2, 1) := by decide +kernel
theorem dX3_isBefore_4 : decode cX3_isBefore 4 = .ok (.if_icmp .ge 21, 3) := by decide +kernel
theorem dX3_isBefore_7 : decode cX3_isBefore 7 = .ok (.aload_n 0, 1) := by decide +kernel
theorem dX3_isBefore_8 : decode cX3_isBefore 8 = .ok (.getfield 23, 3) := by decide +kernel
theorem dX3_isBefore_11 : decode cX3_isBefore 11 = .ok (.iload_n 3, 1) := by decide +kernel
theorem dX3_isBefore_12 : decode cX3_isBefore 12 = .ok (.iaload, 1) := by decide +kernel
theorem dX3_isBefore_13 : decode cX3_isBefore 13 = .ok (.iload_n 1, 1) := by decide +kernel
theorem dX3_isBefore_14 : decode cX3_isBefore 14 = .ok (.if_icmp .ne 5, 3) := by decide +kernel
theorem dX3_isBefore_17 : decode cX3_isBefore 17 = .ok (.iconst 1, 1) := by decide +kernel
theorem dX3_isBefore_18 : decode cX3_isBefore 18 = .ok (.ireturn, 1) := by decide +kernel
theorem dX3_isBefore_19 : decode cX3_isBefore 19 = .ok (.iinc 3 1, 3) := by decide +kernel
theorem dX3_isBefore_22 : decode cX3_isBefore 22 = .ok (.goto (-20), 3) := by decide +kernel
theorem dX3_isBefore_25 : decode cX3_isBefore 25 = .ok (.iconst 0, 1) := by decide +kernel
theorem dX3_isBefore_26 : decode cX3_isBefore 26 = .ok (.ireturn, 1) := by decide +kernel
theorem dX3_ordersOf_0 : decode cX3_ordersOf 0 = .ok (.iload_n 0, 1) := by decide +kernel
theorem dX3_ordersOf_1 : decode cX3_ordersOf 1 = .ok (.iconst 1, 1) := by decide +kernel
theorem dX3_ordersOf_2 : decode cX3_ordersOf 2 = .ok (.if_icmp .ne 7, 3) := by decide +kernel
theorem dX3_ordersOf_5 : decode cX3_ordersOf 5 = .ok (.getstatic 69, 3) := by decide +kernel
theorem dX3_ordersOf_8 : decode cX3_ordersOf 8 = .ok (.areturn, 1) := by decide +kernel
theorem dX3_ordersOf_9 : decode cX3_ordersOf 9 = .ok (.iload_n 0, 1) := by decide +kernel
theorem dX3_ordersOf_10 : decode cX3_ordersOf 10 = .ok (.iconst 2, 1) := by decide +kernel
theorem dX3_ordersOf_11 : decode cX3_ordersOf 11 = .ok (.if_icmp .ne 9, 3) := by decide +kernel
theorem dX3_ordersOf_14 : decode cX3_ordersOf 14 = .ok (.getstatic 72, 3) := by decide +kernel
theorem dX3_ordersOf_17 : decode cX3_ordersOf 17 = .ok (.goto 6, 3) := by decide +kernel
theorem dX3_ordersOf_20 : decode cX3_ordersOf 20 = .ok (.getstatic 75, 3) := by decide +kernel
theorem dX3_ordersOf_23 : decode cX3_ordersOf 23 = .ok (.areturn, 1) := by decide +kernel
theorem dX3_orderCountOf_0 : decode cX3_orderCountOf 0 = .ok (.iload_n 0, 1) := by decide +kernel
theorem dX3_orderCountOf_1 : decode cX3_orderCountOf 1 = .ok (.iconst 3, 1) := by decide +kernel
theorem dX3_orderCountOf_2 : decode cX3_orderCountOf 2 = .ok (.if_icmp .ne 8, 3) := by decide +kernel
theorem dX3_orderCountOf_5 : decode cX3_orderCountOf 5 = .ok (.bipush 6, 2) := by decide +kernel
theorem dX3_orderCountOf_7 : decode cX3_orderCountOf 7 = .ok (.goto 4, 3) := by decide +kernel
theorem dX3_orderCountOf_10 : decode cX3_orderCountOf 10 = .ok (.iload_n 0, 1) := by decide +kernel
theorem dX3_orderCountOf_11 : decode cX3_orderCountOf 11 = .ok (.ireturn, 1) := by decide +kernel
theorem dX3_measureShares_0 : decode cX3_measureShares 0 = .ok (.iconst 0, 1) := by decide +kernel
theorem dX3_measureShares_1 : decode cX3_measureShares 1 = .ok (.istore_n 2, 1) := by decide +kernel
theorem dX3_measureShares_2 : decode cX3_measureShares 2 = .ok (.iload_n 2, 1) := by decide +kernel
theorem dX3_measureShares_3 : decode cX3_measureShares 3 = .ok (.aload_n 1, 1) := by decide +kernel
theorem dX3_measureShares_4 : decode cX3_measureShares 4 = .ok (.getfield 78, 3) := by decide +kernel
theorem dX3_measureShares_7 : decode cX3_measureShares 7 = .ok (.if_icmp .ge 35, 3) := by decide +kernel
theorem dX3_measureShares_10 : decode cX3_measureShares 10 = .ok (.aload_n 1, 1) := by decide +kernel
theorem dX3_measureShares_11 : decode cX3_measureShares 11 = .ok (.getfield 81, 3) := by decide +kernel
theorem dX3_measureShares_14 : decode cX3_measureShares 14 = .ok (.iload_n 2, 1) := by decide +kernel
theorem dX3_measureShares_15 : decode cX3_measureShares 15 = .ok (.aaload, 1) := by decide +kernel
theorem dX3_measureShares_16 : decode cX3_measureShares 16 = .ok (.astore_n 3, 1) := by decide +kernel
theorem dX3_measureShares_17 : decode cX3_measureShares 17 = .ok (.aload_n 0, 1) := by decide +kernel
theorem dX3_measureShares_18 : decode cX3_measureShares 18 = .ok (.getfield 11, 3) := by decide +kernel
theorem dX3_measureShares_21 : decode cX3_measureShares 21 = .ok (.iload_n 2, 1) := by decide +kernel
theorem dX3_measureShares_22 : decode cX3_measureShares 22 = .ok (.aload_n 3, 1) := by decide +kernel
theorem dX3_measureShares_23 : decode cX3_measureShares 23 = .ok (.aload_n 1, 1) := by decide +kernel
theorem dX3_measureShares_24 : decode cX3_measureShares 24 = .ok (.getfield 85, 3) := by decide +kernel
theorem dX3_measureShares_27 : decode cX3_measureShares 27 = .ok (.aload_n 3, 1) := by decide +kernel
theorem dX3_measureShares_28 : decode cX3_measureShares 28 = .ok (.getfield 89, 3) := by decide +kernel
theorem dX3_measureShares_31 : decode cX3_measureShares 31 = .ok (.aaload, 1) := by decide +kernel
theorem dX3_measureShares_32 : decode cX3_measureShares 32 = .ok (.invokestatic 94, 3) := by decide +kernel
theorem dX3_measureShares_35 : decode cX3_measureShares 35 = .ok (.fastore, 1) := by decide +kernel
theorem dX3_measureShares_36 : decode cX3_measureShares 36 = .ok (.iinc 2 1, 3) := by decide +kernel
theorem dX3_measureShares_39 : decode cX3_measureShares 39 = .ok (.goto (-37), 3) := by decide +kernel
theorem dX3_measureShares_42 : decode cX3_measureShares 42 = .ok (.iconst 0, 1) := by decide +kernel
theorem dX3_measureShares_43 : decode cX3_measureShares 43 = .ok (.istore_n 2, 1) := by decide +kernel
theorem dX3_measureShares_44 : decode cX3_measureShares 44 = .ok (.iload_n 2, 1) := by decide +kernel
theorem dX3_measureShares_45 : decode cX3_measureShares 45 = .ok (.aload_n 1, 1) := by decide +kernel
theorem dX3_measureShares_46 : decode cX3_measureShares 46 = .ok (.getfield 98, 3) := by decide +kernel
theorem dX3_measureShares_49 : decode cX3_measureShares 49 = .ok (.if_icmp .ge 60, 3) := by decide +kernel
theorem dX3_measureShares_52 : decode cX3_measureShares 52 = .ok (.aload_n 1, 1) := by decide +kernel
theorem dX3_measureShares_53 : decode cX3_measureShares 53 = .ok (.getfield 101, 3) := by decide +kernel
theorem dX3_measureShares_56 : decode cX3_measureShares 56 = .ok (.iload_n 2, 1) := by decide +kernel
theorem dX3_measureShares_57 : decode cX3_measureShares 57 = .ok (.aaload, 1) := by decide +kernel
theorem dX3_measureShares_58 : decode cX3_measureShares 58 = .ok (.astore_n 3, 1) := by decide +kernel
theorem dX3_measureShares_59 : decode cX3_measureShares 59 = .ok (.aload_n 0, 1) := by decide +kernel
theorem dX3_measureShares_60 : decode cX3_measureShares 60 = .ok (.getfield 17, 3) := by decide +kernel
theorem dX3_measureShares_63 : decode cX3_measureShares 63 = .ok (.iload_n 2, 1) := by decide +kernel
theorem dX3_measureShares_64 : decode cX3_measureShares 64 = .ok (.aload_n 1, 1) := by decide +kernel
theorem dX3_measureShares_65 : decode cX3_measureShares 65 = .ok (.getfield 85, 3) := by decide +kernel
theorem dX3_measureShares_68 : decode cX3_measureShares 68 = .ok (.aload_n 3, 1) := by decide +kernel
theorem dX3_measureShares_69 : decode cX3_measureShares 69 = .ok (.getfield 105, 3) := by decide +kernel
theorem dX3_measureShares_72 : decode cX3_measureShares 72 = .ok (.aaload, 1) := by decide +kernel
theorem dX3_measureShares_73 : decode cX3_measureShares 73 = .ok (.aload_n 3, 1) := by decide +kernel
theorem dX3_measureShares_74 : decode cX3_measureShares 74 = .ok (.getfield 108, 3) := by decide +kernel
theorem dX3_measureShares_77 : decode cX3_measureShares 77 = .ok (.invokestatic 111, 3) := by decide +kernel
theorem dX3_measureShares_80 : decode cX3_measureShares 80 = .ok (.fastore, 1) := by decide +kernel
theorem dX3_measureShares_81 : decode cX3_measureShares 81 = .ok (.aload_n 0, 1) := by decide +kernel
theorem dX3_measureShares_82 : decode cX3_measureShares 82 = .ok (.getfield 20, 3) := by decide +kernel
theorem dX3_measureShares_85 : decode cX3_measureShares 85 = .ok (.iload_n 2, 1) := by decide +kernel
theorem dX3_measureShares_86 : decode cX3_measureShares 86 = .ok (.aload_n 1, 1) := by decide +kernel
theorem dX3_measureShares_87 : decode cX3_measureShares 87 = .ok (.getfield 85, 3) := by decide +kernel
theorem dX3_measureShares_90 : decode cX3_measureShares 90 = .ok (.aload_n 3, 1) := by decide +kernel
theorem dX3_measureShares_91 : decode cX3_measureShares 91 = .ok (.getfield 115, 3) := by decide +kernel
theorem dX3_measureShares_94 : decode cX3_measureShares 94 = .ok (.aaload, 1) := by decide +kernel
theorem dX3_measureShares_95 : decode cX3_measureShares 95 = .ok (.aload_n 3, 1) := by decide +kernel
theorem dX3_measureShares_96 : decode cX3_measureShares 96 = .ok (.getfield 118, 3) := by decide +kernel
theorem dX3_measureShares_99 : decode cX3_measureShares 99 = .ok (.invokestatic 111, 3) := by decide +kernel
theorem dX3_measureShares_102 : decode cX3_measureShares 102 = .ok (.fastore, 1) := by decide +kernel
theorem dX3_measureShares_103 : decode cX3_measureShares 103 = .ok (.iinc 2 1, 3) := by decide +kernel
theorem dX3_measureShares_106 : decode cX3_measureShares 106 = .ok (.goto (-62), 3) := by decide +kernel
theorem dX3_measureShares_109 : decode cX3_measureShares 109 = .ok (.return_, 1) := by decide +kernel
theorem dX3_shareOf_0 : decode cX3_shareOf 0 = .ok (.aload_n 1, 1) := by decide +kernel
theorem dX3_shareOf_1 : decode cX3_shareOf 1 = .ok (.getfield 121, 3) := by decide +kernel
theorem dX3_shareOf_4 : decode cX3_shareOf 4 = .ok (.ifCond .ne 5, 3) := by decide +kernel
theorem dX3_shareOf_7 : decode cX3_shareOf 7 = .ok (.fconst 0, 1) := by decide +kernel
theorem dX3_shareOf_8 : decode cX3_shareOf 8 = .ok (.freturn, 1) := by decide +kernel
theorem dX3_shareOf_9 : decode cX3_shareOf 9 = .ok (.aload_n 0, 1) := by decide +kernel
theorem dX3_shareOf_10 : decode cX3_shareOf 10 = .ok (.getfield 126, 3) := by decide +kernel
theorem dX3_shareOf_13 : decode cX3_shareOf 13 = .ok (.istore_n 2, 1) := by decide +kernel
theorem dX3_shareOf_14 : decode cX3_shareOf 14 = .ok (.aload_n 0, 1) := by decide +kernel
theorem dX3_shareOf_15 : decode cX3_shareOf 15 = .ok (.getfield 129, 3) := by decide +kernel
theorem dX3_shareOf_18 : decode cX3_shareOf 18 = .ok (.tableswitch 68 0 2 #[26, 32, 50], 26) := by decide +kernel
theorem dX3_shareOf_44 : decode cX3_shareOf 44 = .ok (.aload_n 1, 1) := by decide +kernel
theorem dX3_shareOf_45 : decode cX3_shareOf 45 = .ok (.iload_n 2, 1) := by decide +kernel
theorem dX3_shareOf_46 : decode cX3_shareOf 46 = .ok (.invokestatic 111, 3) := by decide +kernel
theorem dX3_shareOf_49 : decode cX3_shareOf 49 = .ok (.freturn, 1) := by decide +kernel
theorem dX3_shareOf_50 : decode cX3_shareOf 50 = .ok (.aload_n 0, 1) := by decide +kernel
theorem dX3_shareOf_51 : decode cX3_shareOf 51 = .ok (.getfield 132, 3) := by decide +kernel
theorem dX3_shareOf_54 : decode cX3_shareOf 54 = .ok (.i2l, 1) := by decide +kernel
theorem dX3_shareOf_55 : decode cX3_shareOf 55 = .ok (.aload_n 1, 1) := by decide +kernel
theorem dX3_shareOf_56 : decode cX3_shareOf 56 = .ok (.iload_n 2, 1) := by decide +kernel
theorem dX3_shareOf_57 : decode cX3_shareOf 57 = .ok (.invokevirtual 135, 3) := by decide +kernel
theorem dX3_shareOf_60 : decode cX3_shareOf 60 = .ok (.i2l, 1) := by decide +kernel
theorem dX3_shareOf_61 : decode cX3_shareOf 61 = .ok (.lsub, 1) := by decide +kernel
theorem dX3_shareOf_62 : decode cX3_shareOf 62 = .ok (.aload_n 1, 1) := by decide +kernel
theorem dX3_shareOf_63 : decode cX3_shareOf 63 = .ok (.iload_n 2, 1) := by decide +kernel
theorem dX3_shareOf_64 : decode cX3_shareOf 64 = .ok (.invokestatic 138, 3) := by decide +kernel
theorem dX3_shareOf_67 : decode cX3_shareOf 67 = .ok (.freturn, 1) := by decide +kernel
theorem dX3_shareOf_68 : decode cX3_shareOf 68 = .ok (.aload_n 1, 1) := by decide +kernel
theorem dX3_shareOf_69 : decode cX3_shareOf 69 = .ok (.iload_n 2, 1) := by decide +kernel
theorem dX3_shareOf_70 : decode cX3_shareOf 70 = .ok (.invokevirtual 142, 3) := by decide +kernel
theorem dX3_shareOf_73 : decode cX3_shareOf 73 = .ok (.i2l, 1) := by decide +kernel
theorem dX3_shareOf_74 : decode cX3_shareOf 74 = .ok (.aload_n 0, 1) := by decide +kernel
theorem dX3_shareOf_75 : decode cX3_shareOf 75 = .ok (.getfield 132, 3) := by decide +kernel
theorem dX3_shareOf_78 : decode cX3_shareOf 78 = .ok (.i2l, 1) := by decide +kernel
theorem dX3_shareOf_79 : decode cX3_shareOf 79 = .ok (.lsub, 1) := by decide +kernel
theorem dX3_shareOf_80 : decode cX3_shareOf 80 = .ok (.aload_n 1, 1) := by decide +kernel
theorem dX3_shareOf_81 : decode cX3_shareOf 81 = .ok (.iload_n 2, 1) := by decide +kernel
theorem dX3_shareOf_82 : decode cX3_shareOf 82 = .ok (.invokestatic 138, 3) := by decide +kernel
theorem dX3_shareOf_85 : decode cX3_shareOf 85 = .ok (.freturn, 1) := by decide +kernel
theorem dX3_shareOf_86 : decode cX3_shareOf 86 = .ok (.fconst 1, 1) := by decide +kernel
theorem dX3_shareOf_87 : decode cX3_shareOf 87 = .ok (.aload_n 1, 1) := by decide +kernel
theorem dX3_shareOf_88 : decode cX3_shareOf 88 = .ok (.iload_n 2, 1) := by decide +kernel
theorem dX3_shareOf_89 : decode cX3_shareOf 89 = .ok (.invokestatic 111, 3) := by decide +kernel
theorem dX3_shareOf_92 : decode cX3_shareOf 92 = .ok (.fsub, 1) := by decide +kernel
theorem dX3_shareOf_93 : decode cX3_shareOf 93 = .ok (.freturn, 1) := by decide +kernel
theorem dX3_shareOfOneValue_0 : decode cX3_shareOfOneValue 0 = .ok (.aload_n 0, 1) := by decide +kernel
theorem dX3_shareOfOneValue_1 : decode cX3_shareOfOneValue 1 = .ok (.getfield 121, 3) := by decide +kernel
theorem dX3_shareOfOneValue_4 : decode cX3_shareOfOneValue 4 = .ok (.ifCond .ne 7, 3) := by decide +kernel
theorem dX3_shareOfOneValue_7 : decode cX3_shareOfOneValue 7 = .ok (.fconst 0, 1) := by decide +kernel
theorem dX3_shareOfOneValue_8 : decode cX3_shareOfOneValue 8 = .ok (.goto 11, 3) := by decide +kernel
theorem dX3_shareOfOneValue_11 : decode cX3_shareOfOneValue 11 = .ok (.fconst 1, 1) := by decide +kernel
theorem dX3_shareOfOneValue_12 : decode cX3_shareOfOneValue 12 = .ok (.aload_n 0, 1) := by decide +kernel
theorem dX3_shareOfOneValue_13 : decode cX3_shareOfOneValue 13 = .ok (.iload_n 1, 1) := by decide +kernel
theorem dX3_shareOfOneValue_14 : decode cX3_shareOfOneValue 14 = .ok (.invokevirtual 145, 3) := by decide +kernel
theorem dX3_shareOfOneValue_17 : decode cX3_shareOfOneValue 17 = .ok (.i2f, 1) := by decide +kernel
theorem dX3_shareOfOneValue_18 : decode cX3_shareOfOneValue 18 = .ok (.fdiv, 1) := by decide +kernel
theorem dX3_shareOfOneValue_19 : decode cX3_shareOfOneValue 19 = .ok (.freturn, 1) := by decide +kernel
theorem dX3_shareOfSpan_0 : decode cX3_shareOfSpan 0 = .ok (.aload_n 2, 1) := by decide +kernel
theorem dX3_shareOfSpan_1 : decode cX3_shareOfSpan 1 = .ok (.iload_n 3, 1) := by decide +kernel
theorem dX3_shareOfSpan_2 : decode cX3_shareOfSpan 2 = .ok (.invokevirtual 142, 3) := by decide +kernel
theorem dX3_shareOfSpan_5 : decode cX3_shareOfSpan 5 = .ok (.i2l, 1) := by decide +kernel
theorem dX3_shareOfSpan_6 : decode cX3_shareOfSpan 6 = .ok (.aload_n 2, 1) := by decide +kernel
theorem dX3_shareOfSpan_7 : decode cX3_shareOfSpan 7 = .ok (.iload_n 3, 1) := by decide +kernel
theorem dX3_shareOfSpan_8 : decode cX3_shareOfSpan 8 = .ok (.invokevirtual 135, 3) := by decide +kernel
theorem dX3_shareOfSpan_11 : decode cX3_shareOfSpan 11 = .ok (.i2l, 1) := by decide +kernel
theorem dX3_shareOfSpan_12 : decode cX3_shareOfSpan 12 = .ok (.lsub, 1) := by decide +kernel
theorem dX3_shareOfSpan_13 : decode cX3_shareOfSpan 13 = .ok (.lconst 1, 1) := by decide +kernel
theorem dX3_shareOfSpan_14 : decode cX3_shareOfSpan 14 = .ok (.ladd, 1) := by decide +kernel
theorem dX3_shareOfSpan_15 : decode cX3_shareOfSpan 15 = .ok (.lstore 4, 2) := by decide +kernel
theorem dX3_shareOfSpan_17 : decode cX3_shareOfSpan 17 = .ok (.lload_n 0, 1) := by decide +kernel
theorem dX3_shareOfSpan_18 : decode cX3_shareOfSpan 18 = .ok (.l2f, 1) := by decide +kernel
theorem dX3_shareOfSpan_19 : decode cX3_shareOfSpan 19 = .ok (.lload 4, 2) := by decide +kernel
theorem dX3_shareOfSpan_21 : decode cX3_shareOfSpan 21 = .ok (.l2f, 1) := by decide +kernel
theorem dX3_shareOfSpan_22 : decode cX3_shareOfSpan 22 = .ok (.fdiv, 1) := by decide +kernel
theorem dX3_shareOfSpan_23 : decode cX3_shareOfSpan 23 = .ok (.fstore 6, 2) := by decide +kernel
theorem dX3_shareOfSpan_25 : decode cX3_shareOfSpan 25 = .ok (.fload 6, 2) := by decide +kernel
theorem dX3_shareOfSpan_27 : decode cX3_shareOfSpan 27 = .ok (.fconst 0, 1) := by decide +kernel
theorem dX3_shareOfSpan_28 : decode cX3_shareOfSpan 28 = .ok (.fcmp .g, 1) := by decide +kernel
theorem dX3_shareOfSpan_29 : decode cX3_shareOfSpan 29 = .ok (.ifCond .ge 5, 3) := by decide +kernel
theorem dX3_shareOfSpan_32 : decode cX3_shareOfSpan 32 = .ok (.fconst 0, 1) := by decide +kernel
theorem dX3_shareOfSpan_33 : decode cX3_shareOfSpan 33 = .ok (.freturn, 1) := by decide +kernel
theorem dX3_shareOfSpan_34 : decode cX3_shareOfSpan 34 = .ok (.fload 6, 2) := by decide +kernel
theorem dX3_shareOfSpan_36 : decode cX3_shareOfSpan 36 = .ok (.fconst 1, 1) := by decide +kernel
theorem dX3_shareOfSpan_37 : decode cX3_shareOfSpan 37 = .ok (.fcmp .l, 1) := by decide +kernel
theorem dX3_shareOfSpan_38 : decode cX3_shareOfSpan 38 = .ok (.ifCond .le 7, 3) := by decide +kernel
theorem dX3_shareOfSpan_41 : decode cX3_shareOfSpan 41 = .ok (.fconst 1, 1) := by decide +kernel
theorem dX3_shareOfSpan_42 : decode cX3_shareOfSpan 42 = .ok (.goto 5, 3) := by decide +kernel
theorem dX3_shareOfSpan_45 : decode cX3_shareOfSpan 45 = .ok (.fload 6, 2) := by decide +kernel
theorem dX3_shareOfSpan_47 : decode cX3_shareOfSpan 47 = .ok (.freturn, 1) := by decide +kernel
theorem dX3_joinShare_0 : decode cX3_joinShare 0 = .ok (.aload_n 1, 1) := by decide +kernel
theorem dX3_joinShare_1 : decode cX3_joinShare 1 = .ok (.getfield 105, 3) := by decide +kernel
theorem dX3_joinShare_4 : decode cX3_joinShare 4 = .ok (.iload_n 3, 1) := by decide +kernel
theorem dX3_joinShare_5 : decode cX3_joinShare 5 = .ok (.if_icmp .ne 12, 3) := by decide +kernel
theorem dX3_joinShare_8 : decode cX3_joinShare 8 = .ok (.aload_n 0, 1) := by decide +kernel
theorem dX3_joinShare_9 : decode cX3_joinShare 9 = .ok (.getfield 17, 3) := by decide +kernel
theorem dX3_joinShare_12 : decode cX3_joinShare 12 = .ok (.iload_n 2, 1) := by decide +kernel
theorem dX3_joinShare_13 : decode cX3_joinShare 13 = .ok (.faload, 1) := by decide +kernel
theorem dX3_joinShare_14 : decode cX3_joinShare 14 = .ok (.goto 9, 3) := by decide +kernel
theorem dX3_joinShare_17 : decode cX3_joinShare 17 = .ok (.aload_n 0, 1) := by decide +kernel
theorem dX3_joinShare_18 : decode cX3_joinShare 18 = .ok (.getfield 20, 3) := by decide +kernel
theorem dX3_joinShare_21 : decode cX3_joinShare 21 = .ok (.iload_n 2, 1) := by decide +kernel
theorem dX3_joinShare_22 : decode cX3_joinShare 22 = .ok (.faload, 1) := by decide +kernel
theorem dX3_joinShare_23 : decode cX3_joinShare 23 = .ok (.freturn, 1) := by decide +kernel
theorem dX3_tryOrder_0 : decode cX3_tryOrder 0 = .ok (.fconst 1, 1) := by decide +kernel
theorem dX3_tryOrder_1 : decode cX3_tryOrder 1 = .ok (.fstore 4, 2) := by decide +kernel
theorem dX3_tryOrder_3 : decode cX3_tryOrder 3 = .ok (.fconst 0, 1) := by decide +kernel
theorem dX3_tryOrder_4 : decode cX3_tryOrder 4 = .ok (.fstore 5, 2) := by decide +kernel
theorem dX3_tryOrder_6 : decode cX3_tryOrder 6 = .ok (.iconst 0, 1) := by decide +kernel
theorem dX3_tryOrder_7 : decode cX3_tryOrder 7 = .ok (.istore 6, 2) := by decide +kernel
theorem dX3_tryOrder_9 : decode cX3_tryOrder 9 = .ok (.iload 6, 2) := by decide +kernel
theorem dX3_tryOrder_11 : decode cX3_tryOrder 11 = .ok (.aload_n 1, 1) := by decide +kernel
theorem dX3_tryOrder_12 : decode cX3_tryOrder 12 = .ok (.getfield 40, 3) := by decide +kernel
theorem dX3_tryOrder_15 : decode cX3_tryOrder 15 = .ok (.if_icmp .ge 57, 3) := by decide +kernel
theorem dX3_tryOrder_18 : decode cX3_tryOrder 18 = .ok (.aload_n 0, 1) := by decide +kernel
theorem dX3_tryOrder_19 : decode cX3_tryOrder 19 = .ok (.getfield 23, 3) := by decide +kernel
theorem dX3_tryOrder_22 : decode cX3_tryOrder 22 = .ok (.iload 6, 2) := by decide +kernel
theorem dX3_tryOrder_24 : decode cX3_tryOrder 24 = .ok (.aload_n 2, 1) := by decide +kernel
theorem dX3_tryOrder_25 : decode cX3_tryOrder 25 = .ok (.iload_n 3, 1) := by decide +kernel
theorem dX3_tryOrder_26 : decode cX3_tryOrder 26 = .ok (.aload_n 1, 1) := by decide +kernel
theorem dX3_tryOrder_27 : decode cX3_tryOrder 27 = .ok (.getfield 40, 3) := by decide +kernel
theorem dX3_tryOrder_30 : decode cX3_tryOrder 30 = .ok (.imul, 1) := by decide +kernel
theorem dX3_tryOrder_31 : decode cX3_tryOrder 31 = .ok (.iload 6, 2) := by decide +kernel
theorem dX3_tryOrder_33 : decode cX3_tryOrder 33 = .ok (.iadd, 1) := by decide +kernel
theorem dX3_tryOrder_34 : decode cX3_tryOrder 34 = .ok (.iaload, 1) := by decide +kernel
theorem dX3_tryOrder_35 : decode cX3_tryOrder 35 = .ok (.iastore, 1) := by decide +kernel
theorem dX3_tryOrder_36 : decode cX3_tryOrder 36 = .ok (.aload_n 0, 1) := by decide +kernel
theorem dX3_tryOrder_37 : decode cX3_tryOrder 37 = .ok (.aload_n 1, 1) := by decide +kernel
theorem dX3_tryOrder_38 : decode cX3_tryOrder 38 = .ok (.iload 6, 2) := by decide +kernel
theorem dX3_tryOrder_40 : decode cX3_tryOrder 40 = .ok (.invokevirtual 148, 3) := by decide +kernel
theorem dX3_tryOrder_43 : decode cX3_tryOrder 43 = .ok (.fload 5, 2) := by decide +kernel
theorem dX3_tryOrder_45 : decode cX3_tryOrder 45 = .ok (.fload 4, 2) := by decide +kernel
theorem dX3_tryOrder_47 : decode cX3_tryOrder 47 = .ok (.aload_n 0, 1) := by decide +kernel
theorem dX3_tryOrder_48 : decode cX3_tryOrder 48 = .ok (.getfield 152, 3) := by decide +kernel
theorem dX3_tryOrder_51 : decode cX3_tryOrder 51 = .ok (.fmul, 1) := by decide +kernel
theorem dX3_tryOrder_52 : decode cX3_tryOrder 52 = .ok (.fadd, 1) := by decide +kernel
theorem dX3_tryOrder_53 : decode cX3_tryOrder 53 = .ok (.fstore 5, 2) := by decide +kernel
theorem dX3_tryOrder_55 : decode cX3_tryOrder 55 = .ok (.aload_n 0, 1) := by decide +kernel
theorem dX3_tryOrder_56 : decode cX3_tryOrder 56 = .ok (.aload_n 1, 1) := by decide +kernel
theorem dX3_tryOrder_57 : decode cX3_tryOrder 57 = .ok (.iload 6, 2) := by decide +kernel
theorem dX3_tryOrder_59 : decode cX3_tryOrder 59 = .ok (.fload 4, 2) := by decide +kernel
theorem dX3_tryOrder_61 : decode cX3_tryOrder 61 = .ok (.invokevirtual 156, 3) := by decide +kernel
theorem dX3_tryOrder_64 : decode cX3_tryOrder 64 = .ok (.fstore 4, 2) := by decide +kernel
theorem dX3_tryOrder_66 : decode cX3_tryOrder 66 = .ok (.iinc 6 1, 3) := by decide +kernel
theorem dX3_tryOrder_69 : decode cX3_tryOrder 69 = .ok (.goto (-60), 3) := by decide +kernel
theorem dX3_tryOrder_72 : decode cX3_tryOrder 72 = .ok (.fload 5, 2) := by decide +kernel
theorem dX3_tryOrder_74 : decode cX3_tryOrder 74 = .ok (.freturn, 1) := by decide +kernel
theorem dX3_countBehind_0 : decode cX3_countBehind 0 = .ok (.aload_n 0, 1) := by decide +kernel
theorem dX3_countBehind_1 : decode cX3_countBehind 1 = .ok (.getfield 23, 3) := by decide +kernel
theorem dX3_countBehind_4 : decode cX3_countBehind 4 = .ok (.iload_n 2, 1) := by decide +kernel
theorem dX3_countBehind_5 : decode cX3_countBehind 5 = .ok (.iaload, 1) := by decide +kernel
theorem dX3_countBehind_6 : decode cX3_countBehind 6 = .ok (.istore 4, 2) := by decide +kernel
theorem dX3_countBehind_8 : decode cX3_countBehind 8 = .ok (.fload_n 3, 1) := by decide +kernel
theorem dX3_countBehind_9 : decode cX3_countBehind 9 = .ok (.aload_n 1, 1) := by decide +kernel
theorem dX3_countBehind_10 : decode cX3_countBehind 10 = .ok (.getfield 85, 3) := by decide +kernel
theorem dX3_countBehind_13 : decode cX3_countBehind 13 = .ok (.iload 4, 2) := by decide +kernel
theorem dX3_countBehind_15 : decode cX3_countBehind 15 = .ok (.aaload, 1) := by decide +kernel
theorem dX3_countBehind_16 : decode cX3_countBehind 16 = .ok (.getfield 121, 3) := by decide +kernel
theorem dX3_countBehind_19 : decode cX3_countBehind 19 = .ok (.i2f, 1) := by decide +kernel
theorem dX3_countBehind_20 : decode cX3_countBehind 20 = .ok (.fmul, 1) := by decide +kernel
theorem dX3_countBehind_21 : decode cX3_countBehind 21 = .ok (.fstore 5, 2) := by decide +kernel
theorem dX3_countBehind_23 : decode cX3_countBehind 23 = .ok (.iconst 0, 1) := by decide +kernel
theorem dX3_countBehind_24 : decode cX3_countBehind 24 = .ok (.istore 6, 2) := by decide +kernel
theorem dX3_countBehind_26 : decode cX3_countBehind 26 = .ok (.iload 6, 2) := by decide +kernel
theorem dX3_countBehind_28 : decode cX3_countBehind 28 = .ok (.aload_n 1, 1) := by decide +kernel
theorem dX3_countBehind_29 : decode cX3_countBehind 29 = .ok (.getfield 78, 3) := by decide +kernel
theorem dX3_countBehind_32 : decode cX3_countBehind 32 = .ok (.if_icmp .ge 36, 3) := by decide +kernel
theorem dX3_countBehind_35 : decode cX3_countBehind 35 = .ok (.aload_n 1, 1) := by decide +kernel
theorem dX3_countBehind_36 : decode cX3_countBehind 36 = .ok (.getfield 81, 3) := by decide +kernel
theorem dX3_countBehind_39 : decode cX3_countBehind 39 = .ok (.iload 6, 2) := by decide +kernel
theorem dX3_countBehind_41 : decode cX3_countBehind 41 = .ok (.aaload, 1) := by decide +kernel
theorem dX3_countBehind_42 : decode cX3_countBehind 42 = .ok (.getfield 89, 3) := by decide +kernel
theorem dX3_countBehind_45 : decode cX3_countBehind 45 = .ok (.iload 4, 2) := by decide +kernel
theorem dX3_countBehind_47 : decode cX3_countBehind 47 = .ok (.if_icmp .ne 15, 3) := by decide +kernel
theorem dX3_countBehind_50 : decode cX3_countBehind 50 = .ok (.fload 5, 2) := by decide +kernel
theorem dX3_countBehind_52 : decode cX3_countBehind 52 = .ok (.aload_n 0, 1) := by decide +kernel
theorem dX3_countBehind_53 : decode cX3_countBehind 53 = .ok (.getfield 11, 3) := by decide +kernel
theorem dX3_countBehind_56 : decode cX3_countBehind 56 = .ok (.iload 6, 2) := by decide +kernel
theorem dX3_countBehind_58 : decode cX3_countBehind 58 = .ok (.faload, 1) := by decide +kernel
theorem dX3_countBehind_59 : decode cX3_countBehind 59 = .ok (.fmul, 1) := by decide +kernel
theorem dX3_countBehind_60 : decode cX3_countBehind 60 = .ok (.fstore 5, 2) := by decide +kernel
theorem dX3_countBehind_62 : decode cX3_countBehind 62 = .ok (.iinc 6 1, 3) := by decide +kernel
theorem dX3_countBehind_65 : decode cX3_countBehind 65 = .ok (.goto (-39), 3) := by decide +kernel
theorem dX3_countBehind_68 : decode cX3_countBehind 68 = .ok (.iconst 0, 1) := by decide +kernel
theorem dX3_countBehind_69 : decode cX3_countBehind 69 = .ok (.istore 6, 2) := by decide +kernel
theorem dX3_countBehind_71 : decode cX3_countBehind 71 = .ok (.iload 6, 2) := by decide +kernel
theorem dX3_countBehind_73 : decode cX3_countBehind 73 = .ok (.aload_n 1, 1) := by decide +kernel
theorem dX3_countBehind_74 : decode cX3_countBehind 74 = .ok (.getfield 98, 3) := by decide +kernel
theorem dX3_countBehind_77 : decode cX3_countBehind 77 = .ok (.if_icmp .ge 44, 3) := by decide +kernel
theorem dX3_countBehind_80 : decode cX3_countBehind 80 = .ok (.aload_n 0, 1) := by decide +kernel
theorem dX3_countBehind_81 : decode cX3_countBehind 81 = .ok (.aload_n 1, 1) := by decide +kernel
theorem dX3_countBehind_82 : decode cX3_countBehind 82 = .ok (.getfield 101, 3) := by decide +kernel
theorem dX3_countBehind_85 : decode cX3_countBehind 85 = .ok (.iload 6, 2) := by decide +kernel
theorem dX3_countBehind_87 : decode cX3_countBehind 87 = .ok (.aaload, 1) := by decide +kernel
theorem dX3_countBehind_88 : decode cX3_countBehind 88 = .ok (.iload_n 2, 1) := by decide +kernel
theorem dX3_countBehind_89 : decode cX3_countBehind 89 = .ok (.invokevirtual 160, 3) := by decide +kernel
theorem dX3_countBehind_92 : decode cX3_countBehind 92 = .ok (.ifCond .eq 23, 3) := by decide +kernel
theorem dX3_countBehind_95 : decode cX3_countBehind 95 = .ok (.fload 5, 2) := by decide +kernel
theorem dX3_countBehind_97 : decode cX3_countBehind 97 = .ok (.aload_n 0, 1) := by decide +kernel
theorem dX3_countBehind_98 : decode cX3_countBehind 98 = .ok (.aload_n 1, 1) := by decide +kernel
theorem dX3_countBehind_99 : decode cX3_countBehind 99 = .ok (.getfield 101, 3) := by decide +kernel
theorem dX3_countBehind_102 : decode cX3_countBehind 102 = .ok (.iload 6, 2) := by decide +kernel
theorem dX3_countBehind_104 : decode cX3_countBehind 104 = .ok (.aaload, 1) := by decide +kernel
theorem dX3_countBehind_105 : decode cX3_countBehind 105 = .ok (.iload 6, 2) := by decide +kernel
theorem dX3_countBehind_107 : decode cX3_countBehind 107 = .ok (.iload 4, 2) := by decide +kernel
theorem dX3_countBehind_109 : decode cX3_countBehind 109 = .ok (.invokevirtual 164, 3) := by decide +kernel
theorem dX3_countBehind_112 : decode cX3_countBehind 112 = .ok (.fmul, 1) := by decide +kernel
theorem dX3_countBehind_113 : decode cX3_countBehind 113 = .ok (.fstore 5, 2) := by decide +kernel
theorem dX3_countBehind_115 : decode cX3_countBehind 115 = .ok (.iinc 6 1, 3) := by decide +kernel
theorem dX3_countBehind_118 : decode cX3_countBehind 118 = .ok (.goto (-47), 3) := by decide +kernel
theorem dX3_countBehind_121 : decode cX3_countBehind 121 = .ok (.fload 5, 2) := by decide +kernel
theorem dX3_countBehind_123 : decode cX3_countBehind 123 = .ok (.freturn, 1) := by decide +kernel
theorem dX3_takeBestWay_0 : decode cX3_takeBestWay 0 = .ok (.aload_n 0, 1) := by decide +kernel
theorem dX3_takeBestWay_1 : decode cX3_takeBestWay 1 = .ok (.iload_n 2, 1) := by decide +kernel
theorem dX3_takeBestWay_2 : decode cX3_takeBestWay 2 = .ok (.iconst 0, 1) := by decide +kernel
theorem dX3_takeBestWay_3 : decode cX3_takeBestWay 3 = .ok (.iconst (-1), 1) := by decide +kernel
theorem dX3_takeBestWay_4 : decode cX3_takeBestWay 4 = .ok (.iconst (-1), 1) := by decide +kernel
theorem dX3_takeBestWay_5 : decode cX3_takeBestWay 5 = .ok (.invokevirtual 168, 3) := by decide +kernel
theorem dX3_takeBestWay_8 : decode cX3_takeBestWay 8 = .ok (.aload_n 0, 1) := by decide +kernel
theorem dX3_takeBestWay_9 : decode cX3_takeBestWay 9 = .ok (.aload_n 1, 1) := by decide +kernel
theorem dX3_takeBestWay_10 : decode cX3_takeBestWay 10 = .ok (.getfield 85, 3) := by decide +kernel
theorem dX3_takeBestWay_13 : decode cX3_takeBestWay 13 = .ok (.aload_n 0, 1) := by decide +kernel
theorem dX3_takeBestWay_14 : decode cX3_takeBestWay 14 = .ok (.getfield 23, 3) := by decide +kernel
theorem dX3_takeBestWay_17 : decode cX3_takeBestWay 17 = .ok (.iload_n 2, 1) := by decide +kernel
theorem dX3_takeBestWay_18 : decode cX3_takeBestWay 18 = .ok (.iaload, 1) := by decide +kernel
theorem dX3_takeBestWay_19 : decode cX3_takeBestWay 19 = .ok (.aaload, 1) := by decide +kernel
theorem dX3_takeBestWay_20 : decode cX3_takeBestWay 20 = .ok (.getfield 121, 3) := by decide +kernel
theorem dX3_takeBestWay_23 : decode cX3_takeBestWay 23 = .ok (.i2f, 1) := by decide +kernel
theorem dX3_takeBestWay_24 : decode cX3_takeBestWay 24 = .ok (.putfield 152, 3) := by decide +kernel
theorem dX3_takeBestWay_27 : decode cX3_takeBestWay 27 = .ok (.iconst 0, 1) := by decide +kernel
theorem dX3_takeBestWay_28 : decode cX3_takeBestWay 28 = .ok (.istore_n 3, 1) := by decide +kernel
theorem dX3_takeBestWay_29 : decode cX3_takeBestWay 29 = .ok (.iload_n 3, 1) := by decide +kernel
theorem dX3_takeBestWay_30 : decode cX3_takeBestWay 30 = .ok (.aload_n 1, 1) := by decide +kernel
theorem dX3_takeBestWay_31 : decode cX3_takeBestWay 31 = .ok (.getfield 78, 3) := by decide +kernel
theorem dX3_takeBestWay_34 : decode cX3_takeBestWay 34 = .ok (.if_icmp .ge 34, 3) := by decide +kernel
theorem dX3_takeBestWay_37 : decode cX3_takeBestWay 37 = .ok (.aload_n 1, 1) := by decide +kernel
theorem dX3_takeBestWay_38 : decode cX3_takeBestWay 38 = .ok (.getfield 81, 3) := by decide +kernel
theorem dX3_takeBestWay_41 : decode cX3_takeBestWay 41 = .ok (.iload_n 3, 1) := by decide +kernel
theorem dX3_takeBestWay_42 : decode cX3_takeBestWay 42 = .ok (.aaload, 1) := by decide +kernel
theorem dX3_takeBestWay_43 : decode cX3_takeBestWay 43 = .ok (.getfield 89, 3) := by decide +kernel
theorem dX3_takeBestWay_46 : decode cX3_takeBestWay 46 = .ok (.aload_n 0, 1) := by decide +kernel
theorem dX3_takeBestWay_47 : decode cX3_takeBestWay 47 = .ok (.getfield 23, 3) := by decide +kernel
theorem dX3_takeBestWay_50 : decode cX3_takeBestWay 50 = .ok (.iload_n 2, 1) := by decide +kernel
theorem dX3_takeBestWay_51 : decode cX3_takeBestWay 51 = .ok (.iaload, 1) := by decide +kernel
theorem dX3_takeBestWay_52 : decode cX3_takeBestWay 52 = .ok (.if_icmp .ne 10, 3) := by decide +kernel
theorem dX3_takeBestWay_55 : decode cX3_takeBestWay 55 = .ok (.aload_n 0, 1) := by decide +kernel
theorem dX3_takeBestWay_56 : decode cX3_takeBestWay 56 = .ok (.aload_n 1, 1) := by decide +kernel
theorem dX3_takeBestWay_57 : decode cX3_takeBestWay 57 = .ok (.iload_n 2, 1) := by decide +kernel
theorem dX3_takeBestWay_58 : decode cX3_takeBestWay 58 = .ok (.iload_n 3, 1) := by decide +kernel
theorem dX3_takeBestWay_59 : decode cX3_takeBestWay 59 = .ok (.invokevirtual 172, 3) := by decide +kernel
theorem dX3_takeBestWay_62 : decode cX3_takeBestWay 62 = .ok (.iinc 3 1, 3) := by decide +kernel
theorem dX3_takeBestWay_65 : decode cX3_takeBestWay 65 = .ok (.goto (-36), 3) := by decide +kernel
theorem dX3_takeBestWay_68 : decode cX3_takeBestWay 68 = .ok (.iconst 0, 1) := by decide +kernel
theorem dX3_takeBestWay_69 : decode cX3_takeBestWay 69 = .ok (.istore_n 3, 1) := by decide +kernel
theorem dX3_takeBestWay_70 : decode cX3_takeBestWay 70 = .ok (.iload_n 3, 1) := by decide +kernel
theorem dX3_takeBestWay_71 : decode cX3_takeBestWay 71 = .ok (.aload_n 1, 1) := by decide +kernel
theorem dX3_takeBestWay_72 : decode cX3_takeBestWay 72 = .ok (.getfield 98, 3) := by decide +kernel
theorem dX3_takeBestWay_75 : decode cX3_takeBestWay 75 = .ok (.if_icmp .ge 30, 3) := by decide +kernel
theorem dX3_takeBestWay_78 : decode cX3_takeBestWay 78 = .ok (.aload_n 0, 1) := by decide +kernel
theorem dX3_takeBestWay_79 : decode cX3_takeBestWay 79 = .ok (.aload_n 1, 1) := by decide +kernel
theorem dX3_takeBestWay_80 : decode cX3_takeBestWay 80 = .ok (.getfield 101, 3) := by decide +kernel
theorem dX3_takeBestWay_83 : decode cX3_takeBestWay 83 = .ok (.iload_n 3, 1) := by decide +kernel
theorem dX3_takeBestWay_84 : decode cX3_takeBestWay 84 = .ok (.aaload, 1) := by decide +kernel
theorem dX3_takeBestWay_85 : decode cX3_takeBestWay 85 = .ok (.iload_n 2, 1) := by decide +kernel
theorem dX3_takeBestWay_86 : decode cX3_takeBestWay 86 = .ok (.invokevirtual 160, 3) := by decide +kernel
theorem dX3_takeBestWay_89 : decode cX3_takeBestWay 89 = .ok (.ifCond .eq 10, 3) := by decide +kernel
theorem dX3_takeBestWay_92 : decode cX3_takeBestWay 92 = .ok (.aload_n 0, 1) := by decide +kernel
theorem dX3_takeBestWay_93 : decode cX3_takeBestWay 93 = .ok (.aload_n 1, 1) := by decide +kernel
theorem dX3_takeBestWay_94 : decode cX3_takeBestWay 94 = .ok (.iload_n 2, 1) := by decide +kernel
theorem dX3_takeBestWay_95 : decode cX3_takeBestWay 95 = .ok (.iload_n 3, 1) := by decide +kernel
theorem dX3_takeBestWay_96 : decode cX3_takeBestWay 96 = .ok (.invokevirtual 176, 3) := by decide +kernel
theorem dX3_takeBestWay_99 : decode cX3_takeBestWay 99 = .ok (.iinc 3 1, 3) := by decide +kernel
theorem dX3_takeBestWay_102 : decode cX3_takeBestWay 102 = .ok (.goto (-32), 3) := by decide +kernel
theorem dX3_takeBestWay_105 : decode cX3_takeBestWay 105 = .ok (.return_, 1) := by decide +kernel
theorem dX3_considerCondition_0 : decode cX3_considerCondition 0 = .ok (.aload_n 1, 1) := by decide +kernel
theorem dX3_considerCondition_1 : decode cX3_considerCondition 1 = .ok (.getfield 81, 3) := by decide +kernel
theorem dX3_considerCondition_4 : decode cX3_considerCondition 4 = .ok (.iload_n 3, 1) := by decide +kernel
theorem dX3_considerCondition_5 : decode cX3_considerCondition 5 = .ok (.aaload, 1) := by decide +kernel
theorem dX3_considerCondition_6 : decode cX3_considerCondition 6 = .ok (.astore 4, 2) := by decide +kernel
theorem dX3_considerCondition_8 : decode cX3_considerCondition 8 = .ok (.aload_n 1, 1) := by decide +kernel
theorem dX3_considerCondition_9 : decode cX3_considerCondition 9 = .ok (.getfield 85, 3) := by decide +kernel
theorem dX3_considerCondition_12 : decode cX3_considerCondition 12 = .ok (.aload_n 0, 1) := by decide +kernel
theorem dX3_considerCondition_13 : decode cX3_considerCondition 13 = .ok (.getfield 23, 3) := by decide +kernel
theorem dX3_considerCondition_16 : decode cX3_considerCondition 16 = .ok (.iload_n 2, 1) := by decide +kernel
theorem dX3_considerCondition_17 : decode cX3_considerCondition 17 = .ok (.iaload, 1) := by decide +kernel
theorem dX3_considerCondition_18 : decode cX3_considerCondition 18 = .ok (.aaload, 1) := by decide +kernel
theorem dX3_considerCondition_19 : decode cX3_considerCondition 19 = .ok (.astore 5, 2) := by decide +kernel
theorem dX3_considerCondition_21 : decode cX3_considerCondition 21 = .ok (.aload 5, 2) := by decide +kernel
theorem dX3_considerCondition_23 : decode cX3_considerCondition 23 = .ok (.getfield 121, 3) := by decide +kernel
theorem dX3_considerCondition_26 : decode cX3_considerCondition 26 = .ok (.i2f, 1) := by decide +kernel
theorem dX3_considerCondition_27 : decode cX3_considerCondition 27 = .ok (.aload_n 0, 1) := by decide +kernel
theorem dX3_considerCondition_28 : decode cX3_considerCondition 28 = .ok (.getfield 11, 3) := by decide +kernel
theorem dX3_considerCondition_31 : decode cX3_considerCondition 31 = .ok (.iload_n 3, 1) := by decide +kernel
theorem dX3_considerCondition_32 : decode cX3_considerCondition 32 = .ok (.faload, 1) := by decide +kernel
theorem dX3_considerCondition_33 : decode cX3_considerCondition 33 = .ok (.fmul, 1) := by decide +kernel
theorem dX3_considerCondition_34 : decode cX3_considerCondition 34 = .ok (.fstore 6, 2) := by decide +kernel
theorem dX3_considerCondition_36 : decode cX3_considerCondition 36 = .ok (.aload 4, 2) := by decide +kernel
theorem dX3_considerCondition_38 : decode cX3_considerCondition 38 = .ok (.getfield 129, 3) := by decide +kernel
theorem dX3_considerCondition_41 : decode cX3_considerCondition 41 = .ok (.ifCond .ne 29, 3) := by decide +kernel
theorem dX3_considerCondition_44 : decode cX3_considerCondition 44 = .ok (.aload 5, 2) := by decide +kernel
theorem dX3_considerCondition_46 : decode cX3_considerCondition 46 = .ok (.aload 4, 2) := by decide +kernel
theorem dX3_considerCondition_48 : decode cX3_considerCondition 48 = .ok (.getfield 126, 3) := by decide +kernel
theorem dX3_considerCondition_51 : decode cX3_considerCondition 51 = .ok (.iconst 0, 1) := by decide +kernel
theorem dX3_considerCondition_52 : decode cX3_considerCondition 52 = .ok (.invokevirtual 179, 3) := by decide +kernel
theorem dX3_considerCondition_55 : decode cX3_considerCondition 55 = .ok (.ifCond .eq 15, 3) := by decide +kernel
theorem dX3_considerCondition_58 : decode cX3_considerCondition 58 = .ok (.aload_n 0, 1) := by decide +kernel
theorem dX3_considerCondition_59 : decode cX3_considerCondition 59 = .ok (.fconst 1, 1) := by decide +kernel
theorem dX3_considerCondition_60 : decode cX3_considerCondition 60 = .ok (.fload 6, 2) := by decide +kernel
theorem dX3_considerCondition_62 : decode cX3_considerCondition 62 = .ok (.fadd, 1) := by decide +kernel
theorem dX3_considerCondition_63 : decode cX3_considerCondition 63 = .ok (.iload_n 2, 1) := by decide +kernel
theorem dX3_considerCondition_64 : decode cX3_considerCondition 64 = .ok (.iconst 1, 1) := by decide +kernel
theorem dX3_considerCondition_65 : decode cX3_considerCondition 65 = .ok (.iload_n 3, 1) := by decide +kernel
theorem dX3_considerCondition_66 : decode cX3_considerCondition 66 = .ok (.iconst (-1), 1) := by decide +kernel
theorem dX3_considerCondition_67 : decode cX3_considerCondition 67 = .ok (.invokevirtual 182, 3) := by decide +kernel
theorem dX3_considerCondition_70 : decode cX3_considerCondition 70 = .ok (.aload 4, 2) := by decide +kernel
theorem dX3_considerCondition_72 : decode cX3_considerCondition 72 = .ok (.getfield 129, 3) := by decide +kernel
theorem dX3_considerCondition_75 : decode cX3_considerCondition 75 = .ok (.iconst 3, 1) := by decide +kernel
theorem dX3_considerCondition_76 : decode cX3_considerCondition 76 = .ok (.if_icmp .eq 29, 3) := by decide +kernel
theorem dX3_considerCondition_79 : decode cX3_considerCondition 79 = .ok (.aload 5, 2) := by decide +kernel
theorem dX3_considerCondition_81 : decode cX3_considerCondition 81 = .ok (.aload 4, 2) := by decide +kernel
theorem dX3_considerCondition_83 : decode cX3_considerCondition 83 = .ok (.getfield 126, 3) := by decide +kernel
theorem dX3_considerCondition_86 : decode cX3_considerCondition 86 = .ok (.iconst 1, 1) := by decide +kernel
theorem dX3_considerCondition_87 : decode cX3_considerCondition 87 = .ok (.invokevirtual 179, 3) := by decide +kernel
theorem dX3_considerCondition_90 : decode cX3_considerCondition 90 = .ok (.ifCond .eq 15, 3) := by decide +kernel
theorem dX3_considerCondition_93 : decode cX3_considerCondition 93 = .ok (.aload_n 0, 1) := by decide +kernel
theorem dX3_considerCondition_94 : decode cX3_considerCondition 94 = .ok (.fconst 2, 1) := by decide +kernel
theorem dX3_considerCondition_95 : decode cX3_considerCondition 95 = .ok (.fload 6, 2) := by decide +kernel
theorem dX3_considerCondition_97 : decode cX3_considerCondition 97 = .ok (.fadd, 1) := by decide +kernel
theorem dX3_considerCondition_98 : decode cX3_considerCondition 98 = .ok (.iload_n 2, 1) := by decide +kernel
theorem dX3_considerCondition_99 : decode cX3_considerCondition 99 = .ok (.iconst 2, 1) := by decide +kernel
theorem dX3_considerCondition_100 : decode cX3_considerCondition 100 = .ok (.iload_n 3, 1) := by decide +kernel
theorem dX3_considerCondition_101 : decode cX3_considerCondition 101 = .ok (.iconst (-1), 1) := by decide +kernel
theorem dX3_considerCondition_102 : decode cX3_considerCondition 102 = .ok (.invokevirtual 182, 3) := by decide +kernel
theorem dX3_considerCondition_105 : decode cX3_considerCondition 105 = .ok (.return_, 1) := by decide +kernel
theorem dX3_considerJoin_0 : decode cX3_considerJoin 0 = .ok (.aload_n 1, 1) := by decide +kernel
theorem dX3_considerJoin_1 : decode cX3_considerJoin 1 = .ok (.getfield 101, 3) := by decide +kernel
theorem dX3_considerJoin_4 : decode cX3_considerJoin 4 = .ok (.iload_n 3, 1) := by decide +kernel
theorem dX3_considerJoin_5 : decode cX3_considerJoin 5 = .ok (.aaload, 1) := by decide +kernel
theorem dX3_considerJoin_6 : decode cX3_considerJoin 6 = .ok (.astore 4, 2) := by decide +kernel
theorem dX3_considerJoin_8 : decode cX3_considerJoin 8 = .ok (.aload_n 1, 1) := by decide +kernel
theorem dX3_considerJoin_9 : decode cX3_considerJoin 9 = .ok (.getfield 85, 3) := by decide +kernel
theorem dX3_considerJoin_12 : decode cX3_considerJoin 12 = .ok (.aload_n 0, 1) := by decide +kernel
theorem dX3_considerJoin_13 : decode cX3_considerJoin 13 = .ok (.getfield 23, 3) := by decide +kernel
theorem dX3_considerJoin_16 : decode cX3_considerJoin 16 = .ok (.iload_n 2, 1) := by decide +kernel
theorem dX3_considerJoin_17 : decode cX3_considerJoin 17 = .ok (.iaload, 1) := by decide +kernel
theorem dX3_considerJoin_18 : decode cX3_considerJoin 18 = .ok (.aaload, 1) := by decide +kernel
theorem dX3_considerJoin_19 : decode cX3_considerJoin 19 = .ok (.astore 5, 2) := by decide +kernel
theorem dX3_considerJoin_21 : decode cX3_considerJoin 21 = .ok (.aload 4, 2) := by decide +kernel
theorem dX3_considerJoin_23 : decode cX3_considerJoin 23 = .ok (.aload_n 0, 1) := by decide +kernel
theorem dX3_considerJoin_24 : decode cX3_considerJoin 24 = .ok (.getfield 23, 3) := by decide +kernel
theorem dX3_considerJoin_27 : decode cX3_considerJoin 27 = .ok (.iload_n 2, 1) := by decide +kernel
theorem dX3_considerJoin_28 : decode cX3_considerJoin 28 = .ok (.iaload, 1) := by decide +kernel
theorem dX3_considerJoin_29 : decode cX3_considerJoin 29 = .ok (.invokevirtual 186, 3) := by decide +kernel
theorem dX3_considerJoin_32 : decode cX3_considerJoin 32 = .ok (.istore 6, 2) := by decide +kernel
theorem dX3_considerJoin_34 : decode cX3_considerJoin 34 = .ok (.aload 5, 2) := by decide +kernel
theorem dX3_considerJoin_36 : decode cX3_considerJoin 36 = .ok (.getfield 121, 3) := by decide +kernel
theorem dX3_considerJoin_39 : decode cX3_considerJoin 39 = .ok (.i2f, 1) := by decide +kernel
theorem dX3_considerJoin_40 : decode cX3_considerJoin 40 = .ok (.aload_n 0, 1) := by decide +kernel
theorem dX3_considerJoin_41 : decode cX3_considerJoin 41 = .ok (.aload 4, 2) := by decide +kernel
theorem dX3_considerJoin_43 : decode cX3_considerJoin 43 = .ok (.iload_n 3, 1) := by decide +kernel
theorem dX3_considerJoin_44 : decode cX3_considerJoin 44 = .ok (.aload_n 0, 1) := by decide +kernel
theorem dX3_considerJoin_45 : decode cX3_considerJoin 45 = .ok (.getfield 23, 3) := by decide +kernel
theorem dX3_considerJoin_48 : decode cX3_considerJoin 48 = .ok (.iload_n 2, 1) := by decide +kernel
theorem dX3_considerJoin_49 : decode cX3_considerJoin 49 = .ok (.iaload, 1) := by decide +kernel
theorem dX3_considerJoin_50 : decode cX3_considerJoin 50 = .ok (.invokevirtual 164, 3) := by decide +kernel
theorem dX3_considerJoin_53 : decode cX3_considerJoin 53 = .ok (.fmul, 1) := by decide +kernel
theorem dX3_considerJoin_54 : decode cX3_considerJoin 54 = .ok (.fstore 7, 2) := by decide +kernel
theorem dX3_considerJoin_56 : decode cX3_considerJoin 56 = .ok (.aload 5, 2) := by decide +kernel
theorem dX3_considerJoin_58 : decode cX3_considerJoin 58 = .ok (.iload 6, 2) := by decide +kernel
theorem dX3_considerJoin_60 : decode cX3_considerJoin 60 = .ok (.iconst 0, 1) := by decide +kernel
theorem dX3_considerJoin_61 : decode cX3_considerJoin 61 = .ok (.invokevirtual 179, 3) := by decide +kernel
theorem dX3_considerJoin_64 : decode cX3_considerJoin 64 = .ok (.ifCond .eq 15, 3) := by decide +kernel
theorem dX3_considerJoin_67 : decode cX3_considerJoin 67 = .ok (.aload_n 0, 1) := by decide +kernel
theorem dX3_considerJoin_68 : decode cX3_considerJoin 68 = .ok (.fconst 1, 1) := by decide +kernel
theorem dX3_considerJoin_69 : decode cX3_considerJoin 69 = .ok (.fload 7, 2) := by decide +kernel
theorem dX3_considerJoin_71 : decode cX3_considerJoin 71 = .ok (.fadd, 1) := by decide +kernel
theorem dX3_considerJoin_72 : decode cX3_considerJoin 72 = .ok (.iload_n 2, 1) := by decide +kernel
theorem dX3_considerJoin_73 : decode cX3_considerJoin 73 = .ok (.iconst 1, 1) := by decide +kernel
theorem dX3_considerJoin_74 : decode cX3_considerJoin 74 = .ok (.iconst (-1), 1) := by decide +kernel
theorem dX3_considerJoin_75 : decode cX3_considerJoin 75 = .ok (.iload_n 3, 1) := by decide +kernel
theorem dX3_considerJoin_76 : decode cX3_considerJoin 76 = .ok (.invokevirtual 182, 3) := by decide +kernel
theorem dX3_considerJoin_79 : decode cX3_considerJoin 79 = .ok (.aload 5, 2) := by decide +kernel
theorem dX3_considerJoin_81 : decode cX3_considerJoin 81 = .ok (.iload 6, 2) := by decide +kernel
theorem dX3_considerJoin_83 : decode cX3_considerJoin 83 = .ok (.iconst 1, 1) := by decide +kernel
theorem dX3_considerJoin_84 : decode cX3_considerJoin 84 = .ok (.invokevirtual 179, 3) := by decide +kernel
theorem dX3_considerJoin_87 : decode cX3_considerJoin 87 = .ok (.ifCond .eq 15, 3) := by decide +kernel
theorem dX3_considerJoin_90 : decode cX3_considerJoin 90 = .ok (.aload_n 0, 1) := by decide +kernel
theorem dX3_considerJoin_91 : decode cX3_considerJoin 91 = .ok (.fconst 2, 1) := by decide +kernel
theorem dX3_considerJoin_92 : decode cX3_considerJoin 92 = .ok (.fload 7, 2) := by decide +kernel
theorem dX3_considerJoin_94 : decode cX3_considerJoin 94 = .ok (.fadd, 1) := by decide +kernel
theorem dX3_considerJoin_95 : decode cX3_considerJoin 95 = .ok (.iload_n 2, 1) := by decide +kernel
theorem dX3_considerJoin_96 : decode cX3_considerJoin 96 = .ok (.iconst 2, 1) := by decide +kernel
theorem dX3_considerJoin_97 : decode cX3_considerJoin 97 = .ok (.iconst (-1), 1) := by decide +kernel
theorem dX3_considerJoin_98 : decode cX3_considerJoin 98 = .ok (.iload_n 3, 1) := by decide +kernel
theorem dX3_considerJoin_99 : decode cX3_considerJoin 99 = .ok (.invokevirtual 182, 3) := by decide +kernel
theorem dX3_considerJoin_102 : decode cX3_considerJoin 102 = .ok (.return_, 1) := by decide +kernel
theorem dX3_considerWay_0 : decode cX3_considerWay 0 = .ok (.fload_n 1, 1) := by decide +kernel
theorem dX3_considerWay_1 : decode cX3_considerWay 1 = .ok (.aload_n 0, 1) := by decide +kernel
theorem dX3_considerWay_2 : decode cX3_considerWay 2 = .ok (.getfield 152, 3) := by decide +kernel
theorem dX3_considerWay_5 : decode cX3_considerWay 5 = .ok (.fcmp .g, 1) := by decide +kernel
theorem dX3_considerWay_6 : decode cX3_considerWay 6 = .ok (.ifCond .ge 18, 3) := by decide +kernel
theorem dX3_considerWay_9 : decode cX3_considerWay 9 = .ok (.aload_n 0, 1) := by decide +kernel
theorem dX3_considerWay_10 : decode cX3_considerWay 10 = .ok (.fload_n 1, 1) := by decide +kernel
theorem dX3_considerWay_11 : decode cX3_considerWay 11 = .ok (.putfield 152, 3) := by decide +kernel
theorem dX3_considerWay_14 : decode cX3_considerWay 14 = .ok (.aload_n 0, 1) := by decide +kernel
theorem dX3_considerWay_15 : decode cX3_considerWay 15 = .ok (.iload_n 2, 1) := by decide +kernel
theorem dX3_considerWay_16 : decode cX3_considerWay 16 = .ok (.iload_n 3, 1) := by decide +kernel
theorem dX3_considerWay_17 : decode cX3_considerWay 17 = .ok (.iload 4, 2) := by decide +kernel
theorem dX3_considerWay_19 : decode cX3_considerWay 19 = .ok (.iload 5, 2) := by decide +kernel
theorem dX3_considerWay_21 : decode cX3_considerWay 21 = .ok (.invokevirtual 168, 3) := by decide +kernel
theorem dX3_considerWay_24 : decode cX3_considerWay 24 = .ok (.return_, 1) := by decide +kernel
theorem dX3_takeWay_0 : decode cX3_takeWay 0 = .ok (.aload_n 0, 1) := by decide +kernel
theorem dX3_takeWay_1 : decode cX3_takeWay 1 = .ok (.getfield 27, 3) := by decide +kernel
theorem dX3_takeWay_4 : decode cX3_takeWay 4 = .ok (.iload_n 1, 1) := by decide +kernel
theorem dX3_takeWay_5 : decode cX3_takeWay 5 = .ok (.iload_n 2, 1) := by decide +kernel
theorem dX3_takeWay_6 : decode cX3_takeWay 6 = .ok (.iastore, 1) := by decide +kernel
theorem dX3_takeWay_7 : decode cX3_takeWay 7 = .ok (.aload_n 0, 1) := by decide +kernel
theorem dX3_takeWay_8 : decode cX3_takeWay 8 = .ok (.getfield 30, 3) := by decide +kernel
theorem dX3_takeWay_11 : decode cX3_takeWay 11 = .ok (.iload_n 1, 1) := by decide +kernel
theorem dX3_takeWay_12 : decode cX3_takeWay 12 = .ok (.iload_n 3, 1) := by decide +kernel
theorem dX3_takeWay_13 : decode cX3_takeWay 13 = .ok (.iastore, 1) := by decide +kernel
theorem dX3_takeWay_14 : decode cX3_takeWay 14 = .ok (.aload_n 0, 1) := by decide +kernel
theorem dX3_takeWay_15 : decode cX3_takeWay 15 = .ok (.getfield 33, 3) := by decide +kernel
theorem dX3_takeWay_18 : decode cX3_takeWay 18 = .ok (.iload_n 1, 1) := by decide +kernel
theorem dX3_takeWay_19 : decode cX3_takeWay 19 = .ok (.iload 4, 2) := by decide +kernel
theorem dX3_takeWay_21 : decode cX3_takeWay 21 = .ok (.iastore, 1) := by decide +kernel
theorem dX3_takeWay_22 : decode cX3_takeWay 22 = .ok (.return_, 1) := by decide +kernel
theorem dX4_init_0 : decode cX4_init 0 = .ok (.aload_n 0, 1) := by decide +kernel
theorem dX4_init_1 : decode cX4_init 1 = .ok (.invokespecial 3, 3) := by decide +kernel
theorem dX4_init_4 : decode cX4_init 4 = .ok (.aload_n 0, 1) := by decide +kernel
theorem dX4_init_5 : decode cX4_init 5 = .ok (.iconst 3, 1) := by decide +kernel
theorem dX4_init_6 : decode cX4_init 6 = .ok (.anewarray 11, 3) := by decide +kernel
theorem dX4_init_9 : decode cX4_init 9 = .ok (.putfield 13, 3) := by decide +kernel
theorem dX4_init_12 : decode cX4_init 12 = .ok (.aload_n 0, 1) := by decide +kernel
theorem dX4_init_13 : decode cX4_init 13 = .ok (.iconst 4, 1) := by decide +kernel
theorem dX4_init_14 : decode cX4_init 14 = .ok (.anewarray 17, 3) := by decide +kernel
theorem dX4_init_17 : decode cX4_init 17 = .ok (.putfield 19, 3) := by decide +kernel
theorem dX4_init_20 : decode cX4_init 20 = .ok (.iconst 0, 1) := by decide +kernel
theorem dX4_init_21 : decode cX4_init 21 = .ok (.istore_n 1, 1) := by decide +kernel
theorem dX4_init_22 : decode cX4_init 22 = .ok (.iload_n 1, 1) := by decide +kernel
theorem dX4_init_23 : decode cX4_init 23 = .ok (.iconst 4, 1) := by decide +kernel
theorem dX4_init_24 : decode cX4_init 24 = .ok (.if_icmp .ge 22, 3) := by decide +kernel
theorem dX4_init_27 : decode cX4_init 27 = .ok (.aload_n 0, 1) := by decide +kernel
theorem dX4_init_28 : decode cX4_init 28 = .ok (.getfield 19, 3) := by decide +kernel
theorem dX4_init_31 : decode cX4_init 31 = .ok (.iload_n 1, 1) := by decide +kernel
theorem dX4_init_32 : decode cX4_init 32 = .ok (.new 17, 3) := by decide +kernel
theorem dX4_init_35 : decode cX4_init 35 = .ok (.dup, 1) := by decide +kernel
theorem dX4_init_36 : decode cX4_init 36 = .ok (.invokespecial 23, 3) := by decide +kernel
theorem dX4_init_39 : decode cX4_init 39 = .ok (.aastore, 1) := by decide +kernel
theorem dX4_init_40 : decode cX4_init 40 = .ok (.iinc 1 1, 3) := by decide +kernel
theorem dX4_init_43 : decode cX4_init 43 = .ok (.goto (-21), 3) := by decide +kernel
theorem dX4_init_46 : decode cX4_init 46 = .ok (.aload_n 0, 1) := by decide +kernel
theorem dX4_init_47 : decode cX4_init 47 = .ok (.iconst 3, 1) := by decide +kernel
theorem dX4_init_48 : decode cX4_init 48 = .ok (.anewarray 24, 3) := by decide +kernel
theorem dX4_init_51 : decode cX4_init 51 = .ok (.putfield 26, 3) := by decide +kernel
theorem dX4_init_54 : decode cX4_init 54 = .ok (.iconst 0, 1) := by decide +kernel
theorem dX4_init_55 : decode cX4_init 55 = .ok (.istore_n 1, 1) := by decide +kernel
theorem dX4_init_56 : decode cX4_init 56 = .ok (.iload_n 1, 1) := by decide +kernel
theorem dX4_init_57 : decode cX4_init 57 = .ok (.iconst 3, 1) := by decide +kernel
theorem dX4_init_58 : decode cX4_init 58 = .ok (.if_icmp .ge 22, 3) := by decide +kernel
theorem dX4_init_61 : decode cX4_init 61 = .ok (.aload_n 0, 1) := by decide +kernel
theorem dX4_init_62 : decode cX4_init 62 = .ok (.getfield 26, 3) := by decide +kernel
theorem dX4_init_65 : decode cX4_init 65 = .ok (.iload_n 1, 1) := by decide +kernel
theorem dX4_init_66 : decode cX4_init 66 = .ok (.new 24, 3) := by decide +kernel
theorem dX4_init_69 : decode cX4_init 69 = .ok (.dup, 1) := by decide +kernel
theorem dX4_init_70 : decode cX4_init 70 = .ok (.invokespecial 30, 3) := by decide +kernel
theorem dX4_init_73 : decode cX4_init 73 = .ok (.aastore, 1) := by decide +kernel
theorem dX4_init_74 : decode cX4_init 74 = .ok (.iinc 1 1, 3) := by decide +kernel
theorem dX4_init_77 : decode cX4_init 77 = .ok (.goto (-21), 3) := by decide +kernel
theorem dX4_init_80 : decode cX4_init 80 = .ok (.aload_n 0, 1) := by decide +kernel
theorem dX4_init_81 : decode cX4_init 81 = .ok (.iconst 4, 1) := by decide +kernel
theorem dX4_init_82 : decode cX4_init 82 = .ok (.anewarray 31, 3) := by decide +kernel
theorem dX4_init_85 : decode cX4_init 85 = .ok (.putfield 33, 3) := by decide +kernel
theorem dX4_init_88 : decode cX4_init 88 = .ok (.iconst 0, 1) := by decide +kernel
theorem dX4_init_89 : decode cX4_init 89 = .ok (.istore_n 1, 1) := by decide +kernel
theorem dX4_init_90 : decode cX4_init 90 = .ok (.iload_n 1, 1) := by decide +kernel
theorem dX4_init_91 : decode cX4_init 91 = .ok (.iconst 4, 1) := by decide +kernel
theorem dX4_init_92 : decode cX4_init 92 = .ok (.if_icmp .ge 22, 3) := by decide +kernel
theorem dX4_init_95 : decode cX4_init 95 = .ok (.aload_n 0, 1) := by decide +kernel
theorem dX4_init_96 : decode cX4_init 96 = .ok (.getfield 33, 3) := by decide +kernel
theorem dX4_init_99 : decode cX4_init 99 = .ok (.iload_n 1, 1) := by decide +kernel
theorem dX4_init_100 : decode cX4_init 100 = .ok (.new 31, 3) := by decide +kernel
theorem dX4_init_103 : decode cX4_init 103 = .ok (.dup, 1) := by decide +kernel
theorem dX4_init_104 : decode cX4_init 104 = .ok (.invokespecial 37, 3) := by decide +kernel
theorem dX4_init_107 : decode cX4_init 107 = .ok (.aastore, 1) := by decide +kernel
theorem dX4_init_108 : decode cX4_init 108 = .ok (.iinc 1 1, 3) := by decide +kernel
theorem dX4_init_111 : decode cX4_init 111 = .ok (.goto (-21), 3) := by decide +kernel
theorem dX4_init_114 : decode cX4_init 114 = .ok (.aload_n 0, 1) := by decide +kernel
theorem dX4_init_115 : decode cX4_init 115 = .ok (.iconst (-1), 1) := by decide +kernel
theorem dX4_init_116 : decode cX4_init 116 = .ok (.putfield 38, 3) := by decide +kernel
theorem dX4_init_119 : decode cX4_init 119 = .ok (.aload_n 0, 1) := by decide +kernel
theorem dX4_init_120 : decode cX4_init 120 = .ok (.bipush 64, 2) := by decide +kernel
theorem dX4_init_122 : decode cX4_init 122 = .ok (.putfield 42, 3) := by decide +kernel
theorem dX4_init_125 : decode cX4_init 125 = .ok (.return_, 1) := by decide +kernel
theorem dX4_clear_0 : decode cX4_clear 0 = .ok (.aload_n 0, 1) := by decide +kernel
theorem dX4_clear_1 : decode cX4_clear 1 = .ok (.iconst 0, 1) := by decide +kernel
theorem dX4_clear_2 : decode cX4_clear 2 = .ok (.putfield 45, 3) := by decide +kernel
theorem dX4_clear_5 : decode cX4_clear 5 = .ok (.aload_n 0, 1) := by decide +kernel
theorem dX4_clear_6 : decode cX4_clear 6 = .ok (.iconst 0, 1) := by decide +kernel
theorem dX4_clear_7 : decode cX4_clear 7 = .ok (.putfield 48, 3) := by decide +kernel
theorem dX4_clear_10 : decode cX4_clear 10 = .ok (.aload_n 0, 1) := by decide +kernel
theorem dX4_clear_11 : decode cX4_clear 11 = .ok (.iconst 0, 1) := by decide +kernel
theorem dX4_clear_12 : decode cX4_clear 12 = .ok (.putfield 51, 3) := by decide +kernel
theorem dX4_clear_15 : decode cX4_clear 15 = .ok (.aload_n 0, 1) := by decide +kernel
theorem dX4_clear_16 : decode cX4_clear 16 = .ok (.iconst 0, 1) := by decide +kernel
theorem dX4_clear_17 : decode cX4_clear 17 = .ok (.putfield 54, 3) := by decide +kernel
theorem dX4_clear_20 : decode cX4_clear 20 = .ok (.aload_n 0, 1) := by decide +kernel
theorem dX4_clear_21 : decode cX4_clear 21 = .ok (.iconst (-1), 1) := by decide +kernel
theorem dX4_clear_22 : decode cX4_clear 22 = .ok (.putfield 38, 3) := by decide +kernel
theorem dX4_clear_25 : decode cX4_clear 25 = .ok (.aload_n 0, 1) := by decide +kernel
theorem dX4_clear_26 : decode cX4_clear 26 = .ok (.iconst 0, 1) := by decide +kernel
theorem dX4_clear_27 : decode cX4_clear 27 = .ok (.putfield 57, 3) := by decide +kernel
theorem dX4_clear_30 : decode cX4_clear 30 = .ok (.aload_n 0, 1) := by decide +kernel
theorem dX4_clear_31 : decode cX4_clear 31 = .ok (.bipush 64, 2) := by decide +kernel
theorem dX4_clear_33 : decode cX4_clear 33 = .ok (.putfield 42, 3) := by decide +kernel
theorem dX4_clear_36 : decode cX4_clear 36 = .ok (.return_, 1) := by decide +kernel
theorem dX4_hasColumn_0 : decode cX4_hasColumn 0 = .ok (.iload_n 1, 1) := by decide +kernel
theorem dX4_hasColumn_1 : decode cX4_hasColumn 1 = .ok (.ifCond .lt 28, 3) := by decide +kernel
theorem dX4_hasColumn_4 : decode cX4_hasColumn 4 = .ok (.iload_n 1, 1) := by decide +kernel
theorem dX4_hasColumn_5 : decode cX4_hasColumn 5 = .ok (.aload_n 0, 1) := by decide +kernel
theorem dX4_hasColumn_6 : decode cX4_hasColumn 6 = .ok (.getfield 45, 3) := by decide +kernel
theorem dX4_hasColumn_9 : decode cX4_hasColumn 9 = .ok (.if_icmp .ge 20, 3) := by decide +kernel
theorem dX4_hasColumn_12 : decode cX4_hasColumn 12 = .ok (.aload_n 0, 1) := by decide +kernel
theorem dX4_hasColumn_13 : decode cX4_hasColumn 13 = .ok (.getfield 13, 3) := by decide +kernel
theorem dX4_hasColumn_16 : decode cX4_hasColumn 16 = .ok (.iload_n 1, 1) := by decide +kernel
theorem dX4_hasColumn_17 : decode cX4_hasColumn 17 = .ok (.aaload, 1) := by decide +kernel
theorem dX4_hasColumn_18 : decode cX4_hasColumn 18 = .ok (.iload_n 2, 1) := by decide +kernel
theorem dX4_hasColumn_19 : decode cX4_hasColumn 19 = .ok (.invokevirtual 61, 3) := by decide +kernel
theorem dX4_hasColumn_22 : decode cX4_hasColumn 22 = .ok (.ifCond .eq 7, 3) := by decide +kernel
theorem dX4_hasColumn_25 : decode cX4_hasColumn 25 = .ok (.iconst 1, 1) := by decide +kernel
theorem dX4_hasColumn_26 : decode cX4_hasColumn 26 = .ok (.goto 4, 3) := by decide +kernel
theorem dX4_hasColumn_29 : decode cX4_hasColumn 29 = .ok (.iconst 0, 1) := by decide +kernel
theorem dX4_hasColumn_30 : decode cX4_hasColumn 30 = .ok (.ireturn, 1) := by decide +kernel
theorem dX4_addSource_0 : decode cX4_addSource 0 = .ok (.aload_n 0, 1) := by decide +kernel
theorem dX4_addSource_1 : decode cX4_addSource 1 = .ok (.getfield 45, 3) := by decide +kernel
theorem dX4_addSource_4 : decode cX4_addSource 4 = .ok (.istore_n 2, 1) := by decide +kernel
theorem dX4_addSource_5 : decode cX4_addSource 5 = .ok (.aload_n 0, 1) := by decide +kernel
theorem dX4_addSource_6 : decode cX4_addSource 6 = .ok (.getfield 13, 3) := by decide +kernel
theorem dX4_addSource_9 : decode cX4_addSource 9 = .ok (.iload_n 2, 1) := by decide +kernel
theorem dX4_addSource_10 : decode cX4_addSource 10 = .ok (.aload_n 1, 1) := by decide +kernel
theorem dX4_addSource_11 : decode cX4_addSource 11 = .ok (.aastore, 1) := by decide +kernel
theorem dX4_addSource_12 : decode cX4_addSource 12 = .ok (.aload_n 0, 1) := by decide +kernel
theorem dX4_addSource_13 : decode cX4_addSource 13 = .ok (.dup, 1) := by decide +kernel
theorem dX4_addSource_14 : decode cX4_addSource 14 = .ok (.getfield 45, 3) := by decide +kernel
theorem dX4_addSource_17 : decode cX4_addSource 17 = .ok (.iconst 1, 1) := by decide +kernel
theorem dX4_addSource_18 : decode cX4_addSource 18 = .ok (.iadd, 1) := by decide +kernel
theorem dX4_addSource_19 : decode cX4_addSource 19 = .ok (.putfield 45, 3) := by decide +kernel
theorem dX4_addSource_22 : decode cX4_addSource 22 = .ok (.iload_n 2, 1) := by decide +kernel
theorem dX4_addSource_23 : decode cX4_addSource 23 = .ok (.ireturn, 1) := by decide +kernel
theorem dX4_addCondition_0 : decode cX4_addCondition 0 = .ok (.aload_n 0, 1) := by decide +kernel
theorem dX4_addCondition_1 : decode cX4_addCondition 1 = .ok (.getfield 19, 3) := by decide +kernel
theorem dX4_addCondition_4 : decode cX4_addCondition 4 = .ok (.aload_n 0, 1) := by decide +kernel
theorem dX4_addCondition_5 : decode cX4_addCondition 5 = .ok (.getfield 48, 3) := by decide +kernel
theorem dX4_addCondition_8 : decode cX4_addCondition 8 = .ok (.aaload, 1) := by decide +kernel
theorem dX4_addCondition_9 : decode cX4_addCondition 9 = .ok (.astore 5, 2) := by decide +kernel
theorem dX4_addCondition_11 : decode cX4_addCondition 11 = .ok (.aload 5, 2) := by decide +kernel
theorem dX4_addCondition_13 : decode cX4_addCondition 13 = .ok (.iload_n 1, 1) := by decide +kernel
theorem dX4_addCondition_14 : decode cX4_addCondition 14 = .ok (.putfield 65, 3) := by decide +kernel
theorem dX4_addCondition_17 : decode cX4_addCondition 17 = .ok (.aload 5, 2) := by decide +kernel
theorem dX4_addCondition_19 : decode cX4_addCondition 19 = .ok (.iload_n 2, 1) := by decide +kernel
theorem dX4_addCondition_20 : decode cX4_addCondition 20 = .ok (.putfield 68, 3) := by decide +kernel
theorem dX4_addCondition_23 : decode cX4_addCondition 23 = .ok (.aload 5, 2) := by decide +kernel
theorem dX4_addCondition_25 : decode cX4_addCondition 25 = .ok (.iload_n 3, 1) := by decide +kernel
theorem dX4_addCondition_26 : decode cX4_addCondition 26 = .ok (.putfield 71, 3) := by decide +kernel
theorem dX4_addCondition_29 : decode cX4_addCondition 29 = .ok (.aload 5, 2) := by decide +kernel
theorem dX4_addCondition_31 : decode cX4_addCondition 31 = .ok (.iload 4, 2) := by decide +kernel
theorem dX4_addCondition_33 : decode cX4_addCondition 33 = .ok (.putfield 74, 3) := by decide +kernel
theorem dX4_addCondition_36 : decode cX4_addCondition 36 = .ok (.aload_n 0, 1) := by decide +kernel
theorem dX4_addCondition_37 : decode cX4_addCondition 37 = .ok (.dup, 1) := by decide +kernel
theorem dX4_addCondition_38 : decode cX4_addCondition 38 = .ok (.getfield 48, 3) := by decide +kernel
theorem dX4_addCondition_41 : decode cX4_addCondition 41 = .ok (.iconst 1, 1) := by decide +kernel
theorem dX4_addCondition_42 : decode cX4_addCondition 42 = .ok (.iadd, 1) := by decide +kernel
theorem dX4_addCondition_43 : decode cX4_addCondition 43 = .ok (.putfield 48, 3) := by decide +kernel
theorem dX4_addCondition_46 : decode cX4_addCondition 46 = .ok (.return_, 1) := by decide +kernel
theorem dX4_addJoin_0 : decode cX4_addJoin 0 = .ok (.aload_n 0, 1) := by decide +kernel
theorem dX4_addJoin_1 : decode cX4_addJoin 1 = .ok (.getfield 26, 3) := by decide +kernel
theorem dX4_addJoin_4 : decode cX4_addJoin 4 = .ok (.aload_n 0, 1) := by decide +kernel
theorem dX4_addJoin_5 : decode cX4_addJoin 5 = .ok (.getfield 51, 3) := by decide +kernel
theorem dX4_addJoin_8 : decode cX4_addJoin 8 = .ok (.aaload, 1) := by decide +kernel
theorem dX4_addJoin_9 : decode cX4_addJoin 9 = .ok (.astore 5, 2) := by decide +kernel
theorem dX4_addJoin_11 : decode cX4_addJoin 11 = .ok (.aload 5, 2) := by decide +kernel
theorem dX4_addJoin_13 : decode cX4_addJoin 13 = .ok (.iload_n 1, 1) := by decide +kernel
theorem dX4_addJoin_14 : decode cX4_addJoin 14 = .ok (.putfield 77, 3) := by decide +kernel
theorem dX4_addJoin_17 : decode cX4_addJoin 17 = .ok (.aload 5, 2) := by decide +kernel
theorem dX4_addJoin_19 : decode cX4_addJoin 19 = .ok (.iload_n 2, 1) := by decide +kernel
theorem dX4_addJoin_20 : decode cX4_addJoin 20 = .ok (.putfield 80, 3) := by decide +kernel
theorem dX4_addJoin_23 : decode cX4_addJoin 23 = .ok (.aload 5, 2) := by decide +kernel
theorem dX4_addJoin_25 : decode cX4_addJoin 25 = .ok (.iload_n 3, 1) := by decide +kernel
theorem dX4_addJoin_26 : decode cX4_addJoin 26 = .ok (.putfield 83, 3) := by decide +kernel
theorem dX4_addJoin_29 : decode cX4_addJoin 29 = .ok (.aload 5, 2) := by decide +kernel
theorem dX4_addJoin_31 : decode cX4_addJoin 31 = .ok (.iload 4, 2) := by decide +kernel
theorem dX4_addJoin_33 : decode cX4_addJoin 33 = .ok (.putfield 86, 3) := by decide +kernel
theorem dX4_addJoin_36 : decode cX4_addJoin 36 = .ok (.aload_n 0, 1) := by decide +kernel
theorem dX4_addJoin_37 : decode cX4_addJoin 37 = .ok (.dup, 1) := by decide +kernel
theorem dX4_addJoin_38 : decode cX4_addJoin 38 = .ok (.getfield 51, 3) := by decide +kernel
theorem dX4_addJoin_41 : decode cX4_addJoin 41 = .ok (.iconst 1, 1) := by decide +kernel
theorem dX4_addJoin_42 : decode cX4_addJoin 42 = .ok (.iadd, 1) := by decide +kernel
theorem dX4_addJoin_43 : decode cX4_addJoin 43 = .ok (.putfield 51, 3) := by decide +kernel
theorem dX4_addJoin_46 : decode cX4_addJoin 46 = .ok (.return_, 1) := by decide +kernel
theorem dX4_addOutput_0 : decode cX4_addOutput 0 = .ok (.aload_n 0, 1) := by decide +kernel
theorem dX4_addOutput_1 : decode cX4_addOutput 1 = .ok (.getfield 54, 3) := by decide +kernel
theorem dX4_addOutput_4 : decode cX4_addOutput 4 = .ok (.istore_n 3, 1) := by decide +kernel
theorem dX4_addOutput_5 : decode cX4_addOutput 5 = .ok (.aload_n 0, 1) := by decide +kernel
theorem dX4_addOutput_6 : decode cX4_addOutput 6 = .ok (.getfield 33, 3) := by decide +kernel
theorem dX4_addOutput_9 : decode cX4_addOutput 9 = .ok (.iload_n 3, 1) := by decide +kernel
theorem dX4_addOutput_10 : decode cX4_addOutput 10 = .ok (.aaload, 1) := by decide +kernel
theorem dX4_addOutput_11 : decode cX4_addOutput 11 = .ok (.iload_n 1, 1) := by decide +kernel
theorem dX4_addOutput_12 : decode cX4_addOutput 12 = .ok (.putfield 89, 3) := by decide +kernel
theorem dX4_addOutput_15 : decode cX4_addOutput 15 = .ok (.aload_n 0, 1) := by decide +kernel
theorem dX4_addOutput_16 : decode cX4_addOutput 16 = .ok (.getfield 33, 3) := by decide +kernel
theorem dX4_addOutput_19 : decode cX4_addOutput 19 = .ok (.iload_n 3, 1) := by decide +kernel
theorem dX4_addOutput_20 : decode cX4_addOutput 20 = .ok (.aaload, 1) := by decide +kernel
theorem dX4_addOutput_21 : decode cX4_addOutput 21 = .ok (.iload_n 2, 1) := by decide +kernel
theorem dX4_addOutput_22 : decode cX4_addOutput 22 = .ok (.putfield 90, 3) := by decide +kernel
theorem dX4_addOutput_25 : decode cX4_addOutput 25 = .ok (.aload_n 0, 1) := by decide +kernel
theorem dX4_addOutput_26 : decode cX4_addOutput 26 = .ok (.dup, 1) := by decide +kernel
theorem dX4_addOutput_27 : decode cX4_addOutput 27 = .ok (.getfield 54, 3) := by decide +kernel
theorem dX4_addOutput_30 : decode cX4_addOutput 30 = .ok (.iconst 1, 1) := by decide +kernel
theorem dX4_addOutput_31 : decode cX4_addOutput 31 = .ok (.iadd, 1) := by decide +kernel
theorem dX4_addOutput_32 : decode cX4_addOutput 32 = .ok (.putfield 54, 3) := by decide +kernel
theorem dX4_addOutput_35 : decode cX4_addOutput 35 = .ok (.iload_n 3, 1) := by decide +kernel
theorem dX4_addOutput_36 : decode cX4_addOutput 36 = .ok (.ireturn, 1) := by decide +kernel
theorem dX4_isOrdered_0 : decode cX4_isOrdered 0 = .ok (.aload_n 0, 1) := by decide +kernel
theorem dX4_isOrdered_1 : decode cX4_isOrdered 1 = .ok (.getfield 38, 3) := by decide +kernel
theorem dX4_isOrdered_4 : decode cX4_isOrdered 4 = .ok (.iconst (-1), 1) := by decide +kernel
theorem dX4_isOrdered_5 : decode cX4_isOrdered 5 = .ok (.if_icmp .eq 7, 3) := by decide +kernel
theorem dX4_isOrdered_8 : decode cX4_isOrdered 8 = .ok (.iconst 1, 1) := by decide +kernel
theorem dX4_isOrdered_9 : decode cX4_isOrdered 9 = .ok (.goto 4, 3) := by decide +kernel
theorem dX4_isOrdered_12 : decode cX4_isOrdered 12 = .ok (.iconst 0, 1) := by decide +kernel
theorem dX4_isOrdered_13 : decode cX4_isOrdered 13 = .ok (.ireturn, 1) := by decide +kernel
theorem dX4_enoughAnswers_0 : decode cX4_enoughAnswers 0 = .ok (.aload_n 0, 1) := by decide +kernel
theorem dX4_enoughAnswers_1 : decode cX4_enoughAnswers 1 = .ok (.invokevirtual 91, 3) := by decide +kernel
theorem dX4_enoughAnswers_4 : decode cX4_enoughAnswers 4 = .ok (.ifCond .eq 8, 3) := by decide +kernel
theorem dX4_enoughAnswers_7 : decode cX4_enoughAnswers 7 = .ok (.bipush 64, 2) := by decide +kernel
theorem dX4_enoughAnswers_9 : decode cX4_enoughAnswers 9 = .ok (.goto 7, 3) := by decide +kernel
theorem dX4_enoughAnswers_12 : decode cX4_enoughAnswers 12 = .ok (.aload_n 0, 1) := by decide +kernel
theorem dX4_enoughAnswers_13 : decode cX4_enoughAnswers 13 = .ok (.getfield 42, 3) := by decide +kernel
theorem dX4_enoughAnswers_16 : decode cX4_enoughAnswers 16 = .ok (.ireturn, 1) := by decide +kernel
theorem dX5_init_0 : decode cX5_init 0 = .ok (.aload_n 0, 1) := by decide +kernel
theorem dX5_init_1 : decode cX5_init 1 = .ok (.invokespecial 3, 3) := by decide +kernel
theorem dX5_init_4 : decode cX5_init 4 = .ok (.aload_n 0, 1) := by decide +kernel
theorem dX5_init_5 : decode cX5_init 5 = .ok (.bipush 24, 2) := by decide +kernel
theorem dX5_init_7 : decode cX5_init 7 = .ok (.newarray .int, 2) := by decide +kernel
theorem dX5_init_9 : decode cX5_init 9 = .ok (.putfield 11, 3) := by decide +kernel
theorem dX5_init_12 : decode cX5_init 12 = .ok (.aload_n 0, 1) := by decide +kernel
theorem dX5_init_13 : decode cX5_init 13 = .ok (.bipush 96, 2) := by decide +kernel
theorem dX5_init_15 : decode cX5_init 15 = .ok (.newarray .int, 2) := by decide +kernel
theorem dX5_init_17 : decode cX5_init 17 = .ok (.putfield 15, 3) := by decide +kernel
theorem dX5_init_20 : decode cX5_init 20 = .ok (.aload_n 0, 1) := by decide +kernel
theorem dX5_init_21 : decode cX5_init 21 = .ok (.bipush 8, 2) := by decide +kernel
theorem dX5_init_23 : decode cX5_init 23 = .ok (.newarray .boolean, 2) := by decide +kernel
theorem dX5_init_25 : decode cX5_init 25 = .ok (.putfield 18, 3) := by decide +kernel
theorem dX5_init_28 : decode cX5_init 28 = .ok (.aload_n 0, 1) := by decide +kernel
theorem dX5_init_29 : decode cX5_init 29 = .ok (.iconst 0, 1) := by decide +kernel
theorem dX5_init_30 : decode cX5_init 30 = .ok (.putfield 22, 3) := by decide +kernel
theorem dX5_init_33 : decode cX5_init 33 = .ok (.aload_n 0, 1) := by decide +kernel
theorem dX5_init_34 : decode cX5_init 34 = .ok (.iconst 0, 1) := by decide +kernel
theorem dX5_init_35 : decode cX5_init 35 = .ok (.putfield 26, 3) := by decide +kernel
theorem dX5_init_38 : decode cX5_init 38 = .ok (.aload_n 0, 1) := by decide +kernel
theorem dX5_init_39 : decode cX5_init 39 = .ok (.iconst 0, 1) := by decide +kernel
theorem dX5_init_40 : decode cX5_init 40 = .ok (.putfield 29, 3) := by decide +kernel
theorem dX5_init_43 : decode cX5_init 43 = .ok (.return_, 1) := by decide +kernel
theorem dX5_makeAnew_0 : decode cX5_makeAnew 0 = .ok (.aload_n 0, 1) := by decide +kernel
theorem dX5_makeAnew_1 : decode cX5_makeAnew 1 = .ok (.iload_n 1, 1) := by decide +kernel
theorem dX5_makeAnew_2 : decode cX5_makeAnew 2 = .ok (.putfield 22, 3) := by decide +kernel
theorem dX5_makeAnew_5 : decode cX5_makeAnew 5 = .ok (.aload_n 0, 1) := by decide +kernel
theorem dX5_makeAnew_6 : decode cX5_makeAnew 6 = .ok (.iconst 0, 1) := by decide +kernel
theorem dX5_makeAnew_7 : decode cX5_makeAnew 7 = .ok (.putfield 26, 3) := by decide +kernel
theorem dX5_makeAnew_10 : decode cX5_makeAnew 10 = .ok (.aload_n 0, 1) := by decide +kernel
theorem dX5_makeAnew_11 : decode cX5_makeAnew 11 = .ok (.iconst 0, 1) := by decide +kernel
theorem dX5_makeAnew_12 : decode cX5_makeAnew 12 = .ok (.putfield 29, 3) := by decide +kernel
theorem dX5_makeAnew_15 : decode cX5_makeAnew 15 = .ok (.iconst 0, 1) := by decide +kernel
theorem dX5_makeAnew_16 : decode cX5_makeAnew 16 = .ok (.istore_n 2, 1) := by decide +kernel
theorem dX5_makeAnew_17 : decode cX5_makeAnew 17 = .ok (.iload_n 2, 1) := by decide +kernel
theorem dX5_makeAnew_18 : decode cX5_makeAnew 18 = .ok (.bipush 8, 2) := by decide +kernel
theorem dX5_makeAnew_20 : decode cX5_makeAnew 20 = .ok (.if_icmp .ge 16, 3) := by decide +kernel
theorem dX5_makeAnew_23 : decode cX5_makeAnew 23 = .ok (.aload_n 0, 1) := by decide +kernel
theorem dX5_makeAnew_24 : decode cX5_makeAnew 24 = .ok (.getfield 18, 3) := by decide +kernel
theorem dX5_makeAnew_27 : decode cX5_makeAnew 27 = .ok (.iload_n 2, 1) := by decide +kernel
theorem dX5_makeAnew_28 : decode cX5_makeAnew 28 = .ok (.iconst 0, 1) := by decide +kernel
theorem dX5_makeAnew_29 : decode cX5_makeAnew 29 = .ok (.bastore, 1) := by decide +kernel
theorem dX5_makeAnew_30 : decode cX5_makeAnew 30 = .ok (.iinc 2 1, 3) := by decide +kernel
theorem dX5_makeAnew_33 : decode cX5_makeAnew 33 = .ok (.goto (-16), 3) := by decide +kernel
theorem dX5_makeAnew_36 : decode cX5_makeAnew 36 = .ok (.return_, 1) := by decide +kernel
theorem dX5_isFull_0 : decode cX5_isFull 0 = .ok (.aload_n 0, 1) := by decide +kernel
theorem dX5_isFull_1 : decode cX5_isFull 1 = .ok (.getfield 26, 3) := by decide +kernel
theorem dX5_isFull_4 : decode cX5_isFull 4 = .ok (.bipush 24, 2) := by decide +kernel
theorem dX5_isFull_6 : decode cX5_isFull 6 = .ok (.if_icmp .ge 12, 3) := by decide +kernel
theorem dX5_isFull_9 : decode cX5_isFull 9 = .ok (.aload_n 0, 1) := by decide +kernel
theorem dX5_isFull_10 : decode cX5_isFull 10 = .ok (.getfield 29, 3) := by decide +kernel
theorem dX5_isFull_13 : decode cX5_isFull 13 = .ok (.bipush 60, 2) := by decide +kernel
theorem dX5_isFull_15 : decode cX5_isFull 15 = .ok (.if_icmp .lt 7, 3) := by decide +kernel
theorem dX5_isFull_18 : decode cX5_isFull 18 = .ok (.iconst 1, 1) := by decide +kernel
theorem dX5_isFull_19 : decode cX5_isFull 19 = .ok (.goto 4, 3) := by decide +kernel
theorem dX5_isFull_22 : decode cX5_isFull 22 = .ok (.iconst 0, 1) := by decide +kernel
theorem dX5_isFull_23 : decode cX5_isFull 23 = .ok (.ireturn, 1) := by decide +kernel
theorem dX5_add_0 : decode cX5_add 0 = .ok (.aload_n 0, 1) := by decide +kernel
theorem dX5_add_1 : decode cX5_add 1 = .ok (.getfield 26, 3) := by decide +kernel
theorem dX5_add_4 : decode cX5_add 4 = .ok (.iconst 4, 1) := by decide +kernel
theorem dX5_add_5 : decode cX5_add 5 = .ok (.imul, 1) := by decide +kernel
theorem dX5_add_6 : decode cX5_add 6 = .ok (.istore 5, 2) := by decide +kernel
theorem dX5_add_8 : decode cX5_add 8 = .ok (.aload_n 0, 1) := by decide +kernel
theorem dX5_add_9 : decode cX5_add 9 = .ok (.getfield 15, 3) := by decide +kernel
theorem dX5_add_12 : decode cX5_add 12 = .ok (.iload 5, 2) := by decide +kernel
theorem dX5_add_14 : decode cX5_add 14 = .ok (.iload_n 1, 1) := by decide +kernel
theorem dX5_add_15 : decode cX5_add 15 = .ok (.iastore, 1) := by decide +kernel
theorem dX5_add_16 : decode cX5_add 16 = .ok (.aload_n 0, 1) := by decide +kernel
theorem dX5_add_17 : decode cX5_add 17 = .ok (.getfield 15, 3) := by decide +kernel
theorem dX5_add_20 : decode cX5_add 20 = .ok (.iload 5, 2) := by decide +kernel
theorem dX5_add_22 : decode cX5_add 22 = .ok (.iconst 1, 1) := by decide +kernel
theorem dX5_add_23 : decode cX5_add 23 = .ok (.iadd, 1) := by decide +kernel
theorem dX5_add_24 : decode cX5_add 24 = .ok (.iload_n 2, 1) := by decide +kernel
theorem dX5_add_25 : decode cX5_add 25 = .ok (.iastore, 1) := by decide +kernel
theorem dX5_add_26 : decode cX5_add 26 = .ok (.aload_n 0, 1) := by decide +kernel
theorem dX5_add_27 : decode cX5_add 27 = .ok (.getfield 15, 3) := by decide +kernel
theorem dX5_add_30 : decode cX5_add 30 = .ok (.iload 5, 2) := by decide +kernel
theorem dX5_add_32 : decode cX5_add 32 = .ok (.iconst 2, 1) := by decide +kernel
theorem dX5_add_33 : decode cX5_add 33 = .ok (.iadd, 1) := by decide +kernel
theorem dX5_add_34 : decode cX5_add 34 = .ok (.iload_n 3, 1) := by decide +kernel
theorem dX5_add_35 : decode cX5_add 35 = .ok (.iastore, 1) := by decide +kernel
theorem dX5_add_36 : decode cX5_add 36 = .ok (.aload_n 0, 1) := by decide +kernel
theorem dX5_add_37 : decode cX5_add 37 = .ok (.getfield 15, 3) := by decide +kernel
theorem dX5_add_40 : decode cX5_add 40 = .ok (.iload 5, 2) := by decide +kernel
theorem dX5_add_42 : decode cX5_add 42 = .ok (.iconst 3, 1) := by decide +kernel
theorem dX5_add_43 : decode cX5_add 43 = .ok (.iadd, 1) := by decide +kernel
theorem dX5_add_44 : decode cX5_add 44 = .ok (.iload 4, 2) := by decide +kernel
theorem dX5_add_46 : decode cX5_add 46 = .ok (.iastore, 1) := by decide +kernel
theorem dX5_add_47 : decode cX5_add 47 = .ok (.aload_n 0, 1) := by decide +kernel
theorem dX5_add_48 : decode cX5_add 48 = .ok (.getfield 29, 3) := by decide +kernel
theorem dX5_add_51 : decode cX5_add 51 = .ok (.istore 6, 2) := by decide +kernel
theorem dX5_add_53 : decode cX5_add 53 = .ok (.aload_n 0, 1) := by decide +kernel
theorem dX5_add_54 : decode cX5_add 54 = .ok (.getfield 11, 3) := by decide +kernel
theorem dX5_add_57 : decode cX5_add 57 = .ok (.aload_n 0, 1) := by decide +kernel
theorem dX5_add_58 : decode cX5_add 58 = .ok (.getfield 26, 3) := by decide +kernel
theorem dX5_add_61 : decode cX5_add 61 = .ok (.iload 6, 2) := by decide +kernel
theorem dX5_add_63 : decode cX5_add 63 = .ok (.iastore, 1) := by decide +kernel
theorem dX5_add_64 : decode cX5_add 64 = .ok (.aload_n 0, 1) := by decide +kernel
theorem dX5_add_65 : decode cX5_add 65 = .ok (.dup, 1) := by decide +kernel
theorem dX5_add_66 : decode cX5_add 66 = .ok (.getfield 26, 3) := by decide +kernel
theorem dX5_add_69 : decode cX5_add 69 = .ok (.iconst 1, 1) := by decide +kernel
theorem dX5_add_70 : decode cX5_add 70 = .ok (.iadd, 1) := by decide +kernel
theorem dX5_add_71 : decode cX5_add 71 = .ok (.putfield 26, 3) := by decide +kernel
theorem dX5_add_74 : decode cX5_add 74 = .ok (.aload_n 0, 1) := by decide +kernel
theorem dX5_add_75 : decode cX5_add 75 = .ok (.dup, 1) := by decide +kernel
theorem dX5_add_76 : decode cX5_add 76 = .ok (.getfield 29, 3) := by decide +kernel
theorem dX5_add_79 : decode cX5_add 79 = .ok (.iconst 1, 1) := by decide +kernel
theorem dX5_add_80 : decode cX5_add 80 = .ok (.iadd, 1) := by decide +kernel
theorem dX5_add_81 : decode cX5_add 81 = .ok (.putfield 29, 3) := by decide +kernel
theorem dX5_add_84 : decode cX5_add 84 = .ok (.iload 6, 2) := by decide +kernel
theorem dX5_add_86 : decode cX5_add 86 = .ok (.ireturn, 1) := by decide +kernel
theorem dX5_remove_0 : decode cX5_remove 0 = .ok (.aload_n 0, 1) := by decide +kernel
theorem dX5_remove_1 : decode cX5_remove 1 = .ok (.getfield 26, 3) := by decide +kernel
theorem dX5_remove_4 : decode cX5_remove 4 = .ok (.iload_n 1, 1) := by decide +kernel
theorem dX5_remove_5 : decode cX5_remove 5 = .ok (.isub, 1) := by decide +kernel
theorem dX5_remove_6 : decode cX5_remove 6 = .ok (.iconst 1, 1) := by decide +kernel
theorem dX5_remove_7 : decode cX5_remove 7 = .ok (.isub, 1) := by decide +kernel
theorem dX5_remove_8 : decode cX5_remove 8 = .ok (.istore_n 2, 1) := by decide +kernel
theorem dX5_remove_9 : decode cX5_remove 9 = .ok (.aload_n 0, 1) := by decide +kernel
theorem dX5_remove_10 : decode cX5_remove 10 = .ok (.getfield 11, 3) := by decide +kernel
theorem dX5_remove_13 : decode cX5_remove 13 = .ok (.iload_n 1, 1) := by decide +kernel
theorem dX5_remove_14 : decode cX5_remove 14 = .ok (.iconst 1, 1) := by decide +kernel
theorem dX5_remove_15 : decode cX5_remove 15 = .ok (.iadd, 1) := by decide +kernel
theorem dX5_remove_16 : decode cX5_remove 16 = .ok (.aload_n 0, 1) := by decide +kernel
theorem dX5_remove_17 : decode cX5_remove 17 = .ok (.getfield 11, 3) := by decide +kernel
theorem dX5_remove_20 : decode cX5_remove 20 = .ok (.iload_n 1, 1) := by decide +kernel
theorem dX5_remove_21 : decode cX5_remove 21 = .ok (.iload_n 2, 1) := by decide +kernel
theorem dX5_remove_22 : decode cX5_remove 22 = .ok (.invokestatic 32, 3) := by decide +kernel
theorem dX5_remove_25 : decode cX5_remove 25 = .ok (.aload_n 0, 1) := by decide +kernel
theorem dX5_remove_26 : decode cX5_remove 26 = .ok (.getfield 15, 3) := by decide +kernel
theorem dX5_remove_29 : decode cX5_remove 29 = .ok (.iload_n 1, 1) := by decide +kernel
theorem dX5_remove_30 : decode cX5_remove 30 = .ok (.iconst 1, 1) := by decide +kernel
theorem dX5_remove_31 : decode cX5_remove 31 = .ok (.iadd, 1) := by decide +kernel
theorem dX5_remove_32 : decode cX5_remove 32 = .ok (.iconst 4, 1) := by decide +kernel
theorem dX5_remove_33 : decode cX5_remove 33 = .ok (.imul, 1) := by decide +kernel
theorem dX5_remove_34 : decode cX5_remove 34 = .ok (.aload_n 0, 1) := by decide +kernel
theorem dX5_remove_35 : decode cX5_remove 35 = .ok (.getfield 15, 3) := by decide +kernel
theorem dX5_remove_38 : decode cX5_remove 38 = .ok (.iload_n 1, 1) := by decide +kernel
theorem dX5_remove_39 : decode cX5_remove 39 = .ok (.iconst 4, 1) := by decide +kernel
theorem dX5_remove_40 : decode cX5_remove 40 = .ok (.imul, 1) := by decide +kernel
theorem dX5_remove_41 : decode cX5_remove 41 = .ok (.iload_n 2, 1) := by decide +kernel
theorem dX5_remove_42 : decode cX5_remove 42 = .ok (.iconst 4, 1) := by decide +kernel
theorem dX5_remove_43 : decode cX5_remove 43 = .ok (.imul, 1) := by decide +kernel
theorem dX5_remove_44 : decode cX5_remove 44 = .ok (.invokestatic 32, 3) := by decide +kernel
theorem dX5_remove_47 : decode cX5_remove 47 = .ok (.aload_n 0, 1) := by decide +kernel
theorem dX5_remove_48 : decode cX5_remove 48 = .ok (.dup, 1) := by decide +kernel
theorem dX5_remove_49 : decode cX5_remove 49 = .ok (.getfield 26, 3) := by decide +kernel
theorem dX5_remove_52 : decode cX5_remove 52 = .ok (.iconst 1, 1) := by decide +kernel
theorem dX5_remove_53 : decode cX5_remove 53 = .ok (.isub, 1) := by decide +kernel
theorem dX5_remove_54 : decode cX5_remove 54 = .ok (.putfield 26, 3) := by decide +kernel
theorem dX5_remove_57 : decode cX5_remove 57 = .ok (.return_, 1) := by decide +kernel
theorem dX5_placeOf_0 : decode cX5_placeOf 0 = .ok (.iconst 0, 1) := by decide +kernel
theorem dX5_placeOf_1 : decode cX5_placeOf 1 = .ok (.istore_n 2, 1) := by decide +kernel
theorem dX5_placeOf_2 : decode cX5_placeOf 2 = .ok (.iload_n 2, 1) := by decide +kernel
theorem dX5_placeOf_3 : decode cX5_placeOf 3 = .ok (.aload_n 0, 1) := by decide +kernel
theorem dX5_placeOf_4 : decode cX5_placeOf 4 = .ok (.getfield 26, 3) := by decide +kernel
theorem dX5_placeOf_7 : decode cX5_placeOf 7 = .ok (.if_icmp .ge 21, 3) := by decide +kernel
theorem dX5_placeOf_10 : decode cX5_placeOf 10 = .ok (.aload_n 0, 1) := by decide +kernel
theorem dX5_placeOf_11 : decode cX5_placeOf 11 = .ok (.getfield 11, 3) := by decide +kernel
theorem dX5_placeOf_14 : decode cX5_placeOf 14 = .ok (.iload_n 2, 1) := by decide +kernel
theorem dX5_placeOf_15 : decode cX5_placeOf 15 = .ok (.iaload, 1) := by decide +kernel
theorem dX5_placeOf_16 : decode cX5_placeOf 16 = .ok (.iload_n 1, 1) := by decide +kernel
theorem dX5_placeOf_17 : decode cX5_placeOf 17 = .ok (.if_icmp .ne 5, 3) := by decide +kernel
theorem dX5_placeOf_20 : decode cX5_placeOf 20 = .ok (.iload_n 2, 1) := by decide +kernel
theorem dX5_placeOf_21 : decode cX5_placeOf 21 = .ok (.ireturn, 1) := by decide +kernel
theorem dX5_placeOf_22 : decode cX5_placeOf 22 = .ok (.iinc 2 1, 3) := by decide +kernel
theorem dX5_placeOf_25 : decode cX5_placeOf 25 = .ok (.goto (-23), 3) := by decide +kernel
theorem dX5_placeOf_28 : decode cX5_placeOf 28 = .ok (.iconst (-1), 1) := by decide +kernel
theorem dX5_placeOf_29 : decode cX5_placeOf 29 = .ok (.ireturn, 1) := by decide +kernel
theorem dX5_hasColumn_0 : decode cX5_hasColumn 0 = .ok (.iload_n 1, 1) := by decide +kernel
theorem dX5_hasColumn_1 : decode cX5_hasColumn 1 = .ok (.ifCond .lt 15, 3) := by decide +kernel
theorem dX5_hasColumn_4 : decode cX5_hasColumn 4 = .ok (.iload_n 1, 1) := by decide +kernel
theorem dX5_hasColumn_5 : decode cX5_hasColumn 5 = .ok (.aload_n 0, 1) := by decide +kernel
theorem dX5_hasColumn_6 : decode cX5_hasColumn 6 = .ok (.getfield 22, 3) := by decide +kernel
theorem dX5_hasColumn_9 : decode cX5_hasColumn 9 = .ok (.if_icmp .ge 7, 3) := by decide +kernel
theorem dX5_hasColumn_12 : decode cX5_hasColumn 12 = .ok (.iconst 1, 1) := by decide +kernel
theorem dX5_hasColumn_13 : decode cX5_hasColumn 13 = .ok (.goto 4, 3) := by decide +kernel
theorem dX5_hasColumn_16 : decode cX5_hasColumn 16 = .ok (.iconst 0, 1) := by decide +kernel
theorem dX5_hasColumn_17 : decode cX5_hasColumn 17 = .ok (.ireturn, 1) := by decide +kernel
theorem dX5_value_0 : decode cX5_value 0 = .ok (.aload_n 0, 1) := by decide +kernel
theorem dX5_value_1 : decode cX5_value 1 = .ok (.getfield 15, 3) := by decide +kernel
theorem dX5_value_4 : decode cX5_value 4 = .ok (.iload_n 1, 1) := by decide +kernel
theorem dX5_value_5 : decode cX5_value 5 = .ok (.iconst 4, 1) := by decide +kernel
theorem dX5_value_6 : decode cX5_value 6 = .ok (.imul, 1) := by decide +kernel
theorem dX5_value_7 : decode cX5_value 7 = .ok (.iload_n 2, 1) := by decide +kernel
theorem dX5_value_8 : decode cX5_value 8 = .ok (.iadd, 1) := by decide +kernel
theorem dX5_value_9 : decode cX5_value 9 = .ok (.iaload, 1) := by decide +kernel
theorem dX5_value_10 : decode cX5_value 10 = .ok (.ireturn, 1) := by decide +kernel
theorem dX5_put_0 : decode cX5_put 0 = .ok (.aload_n 0, 1) := by decide +kernel
theorem dX5_put_1 : decode cX5_put 1 = .ok (.getfield 15, 3) := by decide +kernel
theorem dX5_put_4 : decode cX5_put 4 = .ok (.iload_n 1, 1) := by decide +kernel
theorem dX5_put_5 : decode cX5_put 5 = .ok (.iconst 4, 1) := by decide +kernel
theorem dX5_put_6 : decode cX5_put 6 = .ok (.imul, 1) := by decide +kernel
theorem dX5_put_7 : decode cX5_put 7 = .ok (.iload_n 2, 1) := by decide +kernel
theorem dX5_put_8 : decode cX5_put 8 = .ok (.iadd, 1) := by decide +kernel
theorem dX5_put_9 : decode cX5_put 9 = .ok (.iload_n 3, 1) := by decide +kernel
theorem dX5_put_10 : decode cX5_put 10 = .ok (.iastore, 1) := by decide +kernel
theorem dX5_put_11 : decode cX5_put 11 = .ok (.return_, 1) := by decide +kernel
theorem dX5_hasIndex_0 : decode cX5_hasIndex 0 = .ok (.aload_n 0, 1) := by decide +kernel
theorem dX5_hasIndex_1 : decode cX5_hasIndex 1 = .ok (.getfield 18, 3) := by decide +kernel
theorem dX5_hasIndex_4 : decode cX5_hasIndex 4 = .ok (.iload_n 1, 1) := by decide +kernel
theorem dX5_hasIndex_5 : decode cX5_hasIndex 5 = .ok (.iconst 2, 1) := by decide +kernel
theorem dX5_hasIndex_6 : decode cX5_hasIndex 6 = .ok (.imul, 1) := by decide +kernel
theorem dX5_hasIndex_7 : decode cX5_hasIndex 7 = .ok (.iload_n 2, 1) := by decide +kernel
theorem dX5_hasIndex_8 : decode cX5_hasIndex 8 = .ok (.iadd, 1) := by decide +kernel
theorem dX5_hasIndex_9 : decode cX5_hasIndex 9 = .ok (.baload, 1) := by decide +kernel
theorem dX5_hasIndex_10 : decode cX5_hasIndex 10 = .ok (.ireturn, 1) := by decide +kernel
theorem dX5_setIndex_0 : decode cX5_setIndex 0 = .ok (.aload_n 0, 1) := by decide +kernel
theorem dX5_setIndex_1 : decode cX5_setIndex 1 = .ok (.getfield 18, 3) := by decide +kernel
theorem dX5_setIndex_4 : decode cX5_setIndex 4 = .ok (.iload_n 1, 1) := by decide +kernel
theorem dX5_setIndex_5 : decode cX5_setIndex 5 = .ok (.iconst 2, 1) := by decide +kernel
theorem dX5_setIndex_6 : decode cX5_setIndex 6 = .ok (.imul, 1) := by decide +kernel
theorem dX5_setIndex_7 : decode cX5_setIndex 7 = .ok (.iload_n 2, 1) := by decide +kernel
theorem dX5_setIndex_8 : decode cX5_setIndex 8 = .ok (.iadd, 1) := by decide +kernel
theorem dX5_setIndex_9 : decode cX5_setIndex 9 = .ok (.iload_n 3, 1) := by decide +kernel
theorem dX5_setIndex_10 : decode cX5_setIndex 10 = .ok (.bastore, 1) := by decide +kernel
theorem dX5_setIndex_11 : decode cX5_setIndex 11 = .ok (.return_, 1) := by decide +kernel
theorem dX5_differentValues_0 : decode cX5_differentValues 0 = .ok (.iconst 0, 1) := by decide +kernel
theorem dX5_differentValues_1 : decode cX5_differentValues 1 = .ok (.istore_n 2, 1) := by decide +kernel
theorem dX5_differentValues_2 : decode cX5_differentValues 2 = .ok (.iconst 0, 1) := by decide +kernel
theorem dX5_differentValues_3 : decode cX5_differentValues 3 = .ok (.istore_n 3, 1) := by decide +kernel
theorem dX5_differentValues_4 : decode cX5_differentValues 4 = .ok (.iload_n 3, 1) := by decide +kernel
theorem dX5_differentValues_5 : decode cX5_differentValues 5 = .ok (.aload_n 0, 1) := by decide +kernel
theorem dX5_differentValues_6 : decode cX5_differentValues 6 = .ok (.getfield 26, 3) := by decide +kernel
theorem dX5_differentValues_9 : decode cX5_differentValues 9 = .ok (.if_icmp .ge 21, 3) := by decide +kernel
theorem dX5_differentValues_12 : decode cX5_differentValues 12 = .ok (.aload_n 0, 1) := by decide +kernel
theorem dX5_differentValues_13 : decode cX5_differentValues 13 = .ok (.iload_n 3, 1) := by decide +kernel
theorem dX5_differentValues_14 : decode cX5_differentValues 14 = .ok (.iload_n 1, 1) := by decide +kernel
theorem dX5_differentValues_15 : decode cX5_differentValues 15 = .ok (.invokevirtual 38, 3) := by decide +kernel
theorem dX5_differentValues_18 : decode cX5_differentValues 18 = .ok (.ifCond .ne 6, 3) := by decide +kernel
theorem dX5_differentValues_21 : decode cX5_differentValues 21 = .ok (.iinc 2 1, 3) := by decide +kernel
theorem dX5_differentValues_24 : decode cX5_differentValues 24 = .ok (.iinc 3 1, 3) := by decide +kernel
theorem dX5_differentValues_27 : decode cX5_differentValues 27 = .ok (.goto (-23), 3) := by decide +kernel
theorem dX5_differentValues_30 : decode cX5_differentValues 30 = .ok (.iload_n 2, 1) := by decide +kernel
theorem dX5_differentValues_31 : decode cX5_differentValues 31 = .ok (.ireturn, 1) := by decide +kernel
theorem dX5_standsBefore_0 : decode cX5_standsBefore 0 = .ok (.aload_n 0, 1) := by decide +kernel
theorem dX5_standsBefore_1 : decode cX5_standsBefore 1 = .ok (.iload_n 1, 1) := by decide +kernel
theorem dX5_standsBefore_2 : decode cX5_standsBefore 2 = .ok (.iload_n 2, 1) := by decide +kernel
theorem dX5_standsBefore_3 : decode cX5_standsBefore 3 = .ok (.invokevirtual 42, 3) := by decide +kernel
theorem dX5_standsBefore_6 : decode cX5_standsBefore 6 = .ok (.istore_n 3, 1) := by decide +kernel
theorem dX5_standsBefore_7 : decode cX5_standsBefore 7 = .ok (.iconst 0, 1) := by decide +kernel
theorem dX5_standsBefore_8 : decode cX5_standsBefore 8 = .ok (.istore 4, 2) := by decide +kernel
theorem dX5_standsBefore_10 : decode cX5_standsBefore 10 = .ok (.iload 4, 2) := by decide +kernel
theorem dX5_standsBefore_12 : decode cX5_standsBefore 12 = .ok (.iload_n 1, 1) := by decide +kernel
theorem dX5_standsBefore_13 : decode cX5_standsBefore 13 = .ok (.if_icmp .ge 22, 3) := by decide +kernel
theorem dX5_standsBefore_16 : decode cX5_standsBefore 16 = .ok (.aload_n 0, 1) := by decide +kernel
theorem dX5_standsBefore_17 : decode cX5_standsBefore 17 = .ok (.iload 4, 2) := by decide +kernel
theorem dX5_standsBefore_19 : decode cX5_standsBefore 19 = .ok (.iload_n 2, 1) := by decide +kernel
theorem dX5_standsBefore_20 : decode cX5_standsBefore 20 = .ok (.invokevirtual 42, 3) := by decide +kernel
theorem dX5_standsBefore_23 : decode cX5_standsBefore 23 = .ok (.iload_n 3, 1) := by decide +kernel
theorem dX5_standsBefore_24 : decode cX5_standsBefore 24 = .ok (.if_icmp .ne 5, 3) := by decide +kernel
theorem dX5_standsBefore_27 : decode cX5_standsBefore 27 = .ok (.iconst 1, 1) := by decide +kernel
theorem dX5_standsBefore_28 : decode cX5_standsBefore 28 = .ok (.ireturn, 1) := by decide +kernel
theorem dX5_standsBefore_29 : decode cX5_standsBefore 29 = .ok (.iinc 4 1, 3) := by decide +kernel
theorem dX5_standsBefore_32 : decode cX5_standsBefore 32 = .ok (.goto (-22), 3) := by decide +kernel
theorem dX5_standsBefore_35 : decode cX5_standsBefore 35 = .ok (.iconst 0, 1) := by decide +kernel
theorem dX5_standsBefore_36 : decode cX5_standsBefore 36 = .ok (.ireturn, 1) := by decide +kernel
theorem dX5_least_0 : decode cX5_least 0 = .ok (.aload_n 0, 1) := by decide +kernel
theorem dX5_least_1 : decode cX5_least 1 = .ok (.iconst 0, 1) := by decide +kernel
theorem dX5_least_2 : decode cX5_least 2 = .ok (.iload_n 1, 1) := by decide +kernel
theorem dX5_least_3 : decode cX5_least 3 = .ok (.invokevirtual 42, 3) := by decide +kernel
theorem dX5_least_6 : decode cX5_least 6 = .ok (.istore_n 2, 1) := by decide +kernel
theorem dX5_least_7 : decode cX5_least 7 = .ok (.iconst 1, 1) := by decide +kernel
theorem dX5_least_8 : decode cX5_least 8 = .ok (.istore_n 3, 1) := by decide +kernel
theorem dX5_least_9 : decode cX5_least 9 = .ok (.iload_n 3, 1) := by decide +kernel
theorem dX5_least_10 : decode cX5_least 10 = .ok (.aload_n 0, 1) := by decide +kernel
theorem dX5_least_11 : decode cX5_least 11 = .ok (.getfield 26, 3) := by decide +kernel
theorem dX5_least_14 : decode cX5_least 14 = .ok (.if_icmp .ge 20, 3) := by decide +kernel
theorem dX5_least_17 : decode cX5_least 17 = .ok (.iload_n 2, 1) := by decide +kernel
theorem dX5_least_18 : decode cX5_least 18 = .ok (.aload_n 0, 1) := by decide +kernel
theorem dX5_least_19 : decode cX5_least 19 = .ok (.iload_n 3, 1) := by decide +kernel
theorem dX5_least_20 : decode cX5_least 20 = .ok (.iload_n 1, 1) := by decide +kernel
theorem dX5_least_21 : decode cX5_least 21 = .ok (.invokevirtual 42, 3) := by decide +kernel
theorem dX5_least_24 : decode cX5_least 24 = .ok (.invokestatic 46, 3) := by decide +kernel
theorem dX5_least_27 : decode cX5_least 27 = .ok (.istore_n 2, 1) := by decide +kernel
theorem dX5_least_28 : decode cX5_least 28 = .ok (.iinc 3 1, 3) := by decide +kernel
theorem dX5_least_31 : decode cX5_least 31 = .ok (.goto (-22), 3) := by decide +kernel
theorem dX5_least_34 : decode cX5_least 34 = .ok (.iload_n 2, 1) := by decide +kernel
theorem dX5_least_35 : decode cX5_least 35 = .ok (.ireturn, 1) := by decide +kernel
theorem dX5_greatest_0 : decode cX5_greatest 0 = .ok (.aload_n 0, 1) := by decide +kernel
theorem dX5_greatest_1 : decode cX5_greatest 1 = .ok (.iconst 0, 1) := by decide +kernel
theorem dX5_greatest_2 : decode cX5_greatest 2 = .ok (.iload_n 1, 1) := by decide +kernel
theorem dX5_greatest_3 : decode cX5_greatest 3 = .ok (.invokevirtual 42, 3) := by decide +kernel
theorem dX5_greatest_6 : decode cX5_greatest 6 = .ok (.istore_n 2, 1) := by decide +kernel
theorem dX5_greatest_7 : decode cX5_greatest 7 = .ok (.iconst 1, 1) := by decide +kernel
theorem dX5_greatest_8 : decode cX5_greatest 8 = .ok (.istore_n 3, 1) := by decide +kernel
theorem dX5_greatest_9 : decode cX5_greatest 9 = .ok (.iload_n 3, 1) := by decide +kernel
theorem dX5_greatest_10 : decode cX5_greatest 10 = .ok (.aload_n 0, 1) := by decide +kernel
theorem dX5_greatest_11 : decode cX5_greatest 11 = .ok (.getfield 26, 3) := by decide +kernel
theorem dX5_greatest_14 : decode cX5_greatest 14 = .ok (.if_icmp .ge 20, 3) := by decide +kernel
theorem dX5_greatest_17 : decode cX5_greatest 17 = .ok (.iload_n 2, 1) := by decide +kernel
theorem dX5_greatest_18 : decode cX5_greatest 18 = .ok (.aload_n 0, 1) := by decide +kernel
theorem dX5_greatest_19 : decode cX5_greatest 19 = .ok (.iload_n 3, 1) := by decide +kernel
theorem dX5_greatest_20 : decode cX5_greatest 20 = .ok (.iload_n 1, 1) := by decide +kernel
theorem dX5_greatest_21 : decode cX5_greatest 21 = .ok (.invokevirtual 42, 3) := by decide +kernel
theorem dX5_greatest_24 : decode cX5_greatest 24 = .ok (.invokestatic 51, 3) := by decide +kernel
theorem dX5_greatest_27 : decode cX5_greatest 27 = .ok (.istore_n 2, 1) := by decide +kernel
theorem dX5_greatest_28 : decode cX5_greatest 28 = .ok (.iinc 3 1, 3) := by decide +kernel
theorem dX5_greatest_31 : decode cX5_greatest 31 = .ok (.goto (-22), 3) := by decide +kernel
theorem dX5_greatest_34 : decode cX5_greatest 34 = .ok (.iload_n 2, 1) := by decide +kernel
theorem dX5_greatest_35 : decode cX5_greatest 35 = .ok (.ireturn, 1) := by decide +kernel
theorem dX6_init_0 : decode cX6_init 0 = .ok (.aload_n 0, 1) := by decide +kernel
theorem dX6_init_1 : decode cX6_init 1 = .ok (.invokespecial 3, 3) := by decide +kernel
theorem dX6_init_4 : decode cX6_init 4 = .ok (.aload_n 0, 1) := by decide +kernel
theorem dX6_init_5 : decode cX6_init 5 = .ok (.bipush 72, 2) := by decide +kernel
theorem dX6_init_7 : decode cX6_init 7 = .ok (.newarray .int, 2) := by decide +kernel
theorem dX6_init_9 : decode cX6_init 9 = .ok (.putfield 13, 3) := by decide +kernel
theorem dX6_init_12 : decode cX6_init 12 = .ok (.aload_n 0, 1) := by decide +kernel
theorem dX6_init_13 : decode cX6_init 13 = .ok (.iconst 3, 1) := by decide +kernel
theorem dX6_init_14 : decode cX6_init 14 = .ok (.newarray .int, 2) := by decide +kernel
theorem dX6_init_16 : decode cX6_init 16 = .ok (.putfield 19, 3) := by decide +kernel
theorem dX6_init_19 : decode cX6_init 19 = .ok (.aload_n 0, 1) := by decide +kernel
theorem dX6_init_20 : decode cX6_init 20 = .ok (.iconst 3, 1) := by decide +kernel
theorem dX6_init_21 : decode cX6_init 21 = .ok (.newarray .int, 2) := by decide +kernel
theorem dX6_init_23 : decode cX6_init 23 = .ok (.putfield 22, 3) := by decide +kernel
theorem dX6_init_26 : decode cX6_init 26 = .ok (.aload_n 0, 1) := by decide +kernel
theorem dX6_init_27 : decode cX6_init 27 = .ok (.iconst 3, 1) := by decide +kernel
theorem dX6_init_28 : decode cX6_init 28 = .ok (.newarray .int, 2) := by decide +kernel
theorem dX6_init_30 : decode cX6_init 30 = .ok (.putfield 25, 3) := by decide +kernel
theorem dX6_init_33 : decode cX6_init 33 = .ok (.aload_n 0, 1) := by decide +kernel
theorem dX6_init_34 : decode cX6_init 34 = .ok (.sipush 256, 3) := by decide +kernel
theorem dX6_init_37 : decode cX6_init 37 = .ok (.newarray .int, 2) := by decide +kernel
theorem dX6_init_39 : decode cX6_init 39 = .ok (.putfield 28, 3) := by decide +kernel
theorem dX6_init_42 : decode cX6_init 42 = .ok (.aload_n 0, 1) := by decide +kernel
theorem dX6_init_43 : decode cX6_init 43 = .ok (.bipush 64, 2) := by decide +kernel
theorem dX6_init_45 : decode cX6_init 45 = .ok (.newarray .int, 2) := by decide +kernel
theorem dX6_init_47 : decode cX6_init 47 = .ok (.putfield 31, 3) := by decide +kernel
theorem dX6_init_50 : decode cX6_init 50 = .ok (.aload_n 0, 1) := by decide +kernel
theorem dX6_init_51 : decode cX6_init 51 = .ok (.iconst (-1), 1) := by decide +kernel
theorem dX6_init_52 : decode cX6_init 52 = .ok (.putfield 34, 3) := by decide +kernel
theorem dX6_init_55 : decode cX6_init 55 = .ok (.return_, 1) := by decide +kernel
theorem dX6_clear_0 : decode cX6_clear 0 = .ok (.aload_n 0, 1) := by decide +kernel
theorem dX6_clear_1 : decode cX6_clear 1 = .ok (.iconst 0, 1) := by decide +kernel
theorem dX6_clear_2 : decode cX6_clear 2 = .ok (.putfield 38, 3) := by decide +kernel
theorem dX6_clear_5 : decode cX6_clear 5 = .ok (.aload_n 0, 1) := by decide +kernel
theorem dX6_clear_6 : decode cX6_clear 6 = .ok (.iconst 0, 1) := by decide +kernel
theorem dX6_clear_7 : decode cX6_clear 7 = .ok (.putfield 41, 3) := by decide +kernel
theorem dX6_clear_10 : decode cX6_clear 10 = .ok (.aload_n 0, 1) := by decide +kernel
theorem dX6_clear_11 : decode cX6_clear 11 = .ok (.iconst (-1), 1) := by decide +kernel
theorem dX6_clear_12 : decode cX6_clear 12 = .ok (.putfield 34, 3) := by decide +kernel
theorem dX6_clear_15 : decode cX6_clear 15 = .ok (.return_, 1) := by decide +kernel
theorem dX6_begin_0 : decode cX6_begin 0 = .ok (.aload_n 0, 1) := by decide +kernel
theorem dX6_begin_1 : decode cX6_begin 1 = .ok (.invokevirtual 44, 3) := by decide +kernel
theorem dX6_begin_4 : decode cX6_begin 4 = .ok (.aload_n 0, 1) := by decide +kernel
theorem dX6_begin_5 : decode cX6_begin 5 = .ok (.aload_n 1, 1) := by decide +kernel
theorem dX6_begin_6 : decode cX6_begin 6 = .ok (.aload_n 2, 1) := by decide +kernel
theorem dX6_begin_7 : decode cX6_begin 7 = .ok (.iconst 0, 1) := by decide +kernel
theorem dX6_begin_8 : decode cX6_begin 8 = .ok (.invokevirtual 47, 3) := by decide +kernel
theorem dX6_begin_11 : decode cX6_begin 11 = .ok (.aload_n 0, 1) := by decide +kernel
theorem dX6_begin_12 : decode cX6_begin 12 = .ok (.invokevirtual 51, 3) := by decide +kernel
theorem dX6_begin_15 : decode cX6_begin 15 = .ok (.return_, 1) := by decide +kernel
theorem dX6_isDone_0 : decode cX6_isDone 0 = .ok (.aload_n 0, 1) := by decide +kernel
theorem dX6_isDone_1 : decode cX6_isDone 1 = .ok (.getfield 34, 3) := by decide +kernel
theorem dX6_isDone_4 : decode cX6_isDone 4 = .ok (.iconst (-1), 1) := by decide +kernel
theorem dX6_isDone_5 : decode cX6_isDone 5 = .ok (.if_icmp .eq 14, 3) := by decide +kernel
theorem dX6_isDone_8 : decode cX6_isDone 8 = .ok (.aload_n 0, 1) := by decide +kernel
theorem dX6_isDone_9 : decode cX6_isDone 9 = .ok (.getfield 38, 3) := by decide +kernel
theorem dX6_isDone_12 : decode cX6_isDone 12 = .ok (.aload_n 1, 1) := by decide +kernel
theorem dX6_isDone_13 : decode cX6_isDone 13 = .ok (.invokevirtual 54, 3) := by decide +kernel
theorem dX6_isDone_16 : decode cX6_isDone 16 = .ok (.if_icmp .lt 7, 3) := by decide +kernel
theorem dX6_isDone_19 : decode cX6_isDone 19 = .ok (.iconst 1, 1) := by decide +kernel
theorem dX6_isDone_20 : decode cX6_isDone 20 = .ok (.goto 4, 3) := by decide +kernel
theorem dX6_isDone_23 : decode cX6_isDone 23 = .ok (.iconst 0, 1) := by decide +kernel
theorem dX6_isDone_24 : decode cX6_isDone 24 = .ok (.ireturn, 1) := by decide +kernel
theorem dX6_makeStep_0 : decode cX6_makeStep 0 = .ok (.aload_n 2, 1) := by decide +kernel
theorem dX6_makeStep_1 : decode cX6_makeStep 1 = .ok (.getfield 58, 3) := by decide +kernel
theorem dX6_makeStep_4 : decode cX6_makeStep 4 = .ok (.aload_n 0, 1) := by decide +kernel
theorem dX6_makeStep_5 : decode cX6_makeStep 5 = .ok (.getfield 34, 3) := by decide +kernel
theorem dX6_makeStep_8 : decode cX6_makeStep 8 = .ok (.iaload, 1) := by decide +kernel
theorem dX6_makeStep_9 : decode cX6_makeStep 9 = .ok (.istore_n 3, 1) := by decide +kernel
theorem dX6_makeStep_10 : decode cX6_makeStep 10 = .ok (.aload_n 0, 1) := by decide +kernel
theorem dX6_makeStep_11 : decode cX6_makeStep 11 = .ok (.getfield 25, 3) := by decide +kernel
theorem dX6_makeStep_14 : decode cX6_makeStep 14 = .ok (.iload_n 3, 1) := by decide +kernel
theorem dX6_makeStep_15 : decode cX6_makeStep 15 = .ok (.aload_n 0, 1) := by decide +kernel
theorem dX6_makeStep_16 : decode cX6_makeStep 16 = .ok (.getfield 13, 3) := by decide +kernel
theorem dX6_makeStep_19 : decode cX6_makeStep 19 = .ok (.aload_n 0, 1) := by decide +kernel
theorem dX6_makeStep_20 : decode cX6_makeStep 20 = .ok (.getfield 34, 3) := by decide +kernel
theorem dX6_makeStep_23 : decode cX6_makeStep 23 = .ok (.bipush 24, 2) := by decide +kernel
theorem dX6_makeStep_25 : decode cX6_makeStep 25 = .ok (.imul, 1) := by decide +kernel
theorem dX6_makeStep_26 : decode cX6_makeStep 26 = .ok (.aload_n 0, 1) := by decide +kernel
theorem dX6_makeStep_27 : decode cX6_makeStep 27 = .ok (.getfield 22, 3) := by decide +kernel
theorem dX6_makeStep_30 : decode cX6_makeStep 30 = .ok (.aload_n 0, 1) := by decide +kernel
theorem dX6_makeStep_31 : decode cX6_makeStep 31 = .ok (.getfield 34, 3) := by decide +kernel
theorem dX6_makeStep_34 : decode cX6_makeStep 34 = .ok (.iaload, 1) := by decide +kernel
theorem dX6_makeStep_35 : decode cX6_makeStep 35 = .ok (.iadd, 1) := by decide +kernel
theorem dX6_makeStep_36 : decode cX6_makeStep 36 = .ok (.iaload, 1) := by decide +kernel
theorem dX6_makeStep_37 : decode cX6_makeStep 37 = .ok (.iastore, 1) := by decide +kernel
theorem dX6_makeStep_38 : decode cX6_makeStep 38 = .ok (.aload_n 0, 1) := by decide +kernel
theorem dX6_makeStep_39 : decode cX6_makeStep 39 = .ok (.getfield 22, 3) := by decide +kernel
theorem dX6_makeStep_42 : decode cX6_makeStep 42 = .ok (.aload_n 0, 1) := by decide +kernel
theorem dX6_makeStep_43 : decode cX6_makeStep 43 = .ok (.getfield 34, 3) := by decide +kernel
theorem dX6_makeStep_46 : decode cX6_makeStep 46 = .ok (.dup2, 1) := by decide +kernel
theorem dX6_makeStep_47 : decode cX6_makeStep 47 = .ok (.iaload, 1) := by decide +kernel
theorem dX6_makeStep_48 : decode cX6_makeStep 48 = .ok (.iconst 1, 1) := by decide +kernel
theorem dX6_makeStep_49 : decode cX6_makeStep 49 = .ok (.iadd, 1) := by decide +kernel
theorem dX6_makeStep_50 : decode cX6_makeStep 50 = .ok (.iastore, 1) := by decide +kernel
theorem dX6_makeStep_51 : decode cX6_makeStep 51 = .ok (.aload_n 0, 1) := by decide +kernel
theorem dX6_makeStep_52 : decode cX6_makeStep 52 = .ok (.dup, 1) := by decide +kernel
theorem dX6_makeStep_53 : decode cX6_makeStep 53 = .ok (.getfield 41, 3) := by decide +kernel
theorem dX6_makeStep_56 : decode cX6_makeStep 56 = .ok (.iconst 1, 1) := by decide +kernel
theorem dX6_makeStep_57 : decode cX6_makeStep 57 = .ok (.iadd, 1) := by decide +kernel
theorem dX6_makeStep_58 : decode cX6_makeStep 58 = .ok (.putfield 41, 3) := by decide +kernel
theorem dX6_makeStep_61 : decode cX6_makeStep 61 = .ok (.aload_n 0, 1) := by decide +kernel
theorem dX6_makeStep_62 : decode cX6_makeStep 62 = .ok (.aload_n 1, 1) := by decide +kernel
theorem dX6_makeStep_63 : decode cX6_makeStep 63 = .ok (.aload_n 2, 1) := by decide +kernel
theorem dX6_makeStep_64 : decode cX6_makeStep 64 = .ok (.invokevirtual 63, 3) := by decide +kernel
theorem dX6_makeStep_67 : decode cX6_makeStep 67 = .ok (.ifCond .eq 36, 3) := by decide +kernel
theorem dX6_makeStep_70 : decode cX6_makeStep 70 = .ok (.aload_n 0, 1) := by decide +kernel
theorem dX6_makeStep_71 : decode cX6_makeStep 71 = .ok (.getfield 34, 3) := by decide +kernel
theorem dX6_makeStep_74 : decode cX6_makeStep 74 = .ok (.aload_n 1, 1) := by decide +kernel
theorem dX6_makeStep_75 : decode cX6_makeStep 75 = .ok (.getfield 67, 3) := by decide +kernel
theorem dX6_makeStep_78 : decode cX6_makeStep 78 = .ok (.iconst 1, 1) := by decide +kernel
theorem dX6_makeStep_79 : decode cX6_makeStep 79 = .ok (.isub, 1) := by decide +kernel
theorem dX6_makeStep_80 : decode cX6_makeStep 80 = .ok (.if_icmp .ne 11, 3) := by decide +kernel
theorem dX6_makeStep_83 : decode cX6_makeStep 83 = .ok (.aload_n 0, 1) := by decide +kernel
theorem dX6_makeStep_84 : decode cX6_makeStep 84 = .ok (.aload_n 1, 1) := by decide +kernel
theorem dX6_makeStep_85 : decode cX6_makeStep 85 = .ok (.invokevirtual 70, 3) := by decide +kernel
theorem dX6_makeStep_88 : decode cX6_makeStep 88 = .ok (.goto 15, 3) := by decide +kernel
theorem dX6_makeStep_91 : decode cX6_makeStep 91 = .ok (.aload_n 0, 1) := by decide +kernel
theorem dX6_makeStep_92 : decode cX6_makeStep 92 = .ok (.aload_n 1, 1) := by decide +kernel
theorem dX6_makeStep_93 : decode cX6_makeStep 93 = .ok (.aload_n 2, 1) := by decide +kernel
theorem dX6_makeStep_94 : decode cX6_makeStep 94 = .ok (.aload_n 0, 1) := by decide +kernel
theorem dX6_makeStep_95 : decode cX6_makeStep 95 = .ok (.getfield 34, 3) := by decide +kernel
theorem dX6_makeStep_98 : decode cX6_makeStep 98 = .ok (.iconst 1, 1) := by decide +kernel
theorem dX6_makeStep_99 : decode cX6_makeStep 99 = .ok (.iadd, 1) := by decide +kernel
theorem dX6_makeStep_100 : decode cX6_makeStep 100 = .ok (.invokevirtual 47, 3) := by decide +kernel
theorem dX6_makeStep_103 : decode cX6_makeStep 103 = .ok (.aload_n 0, 1) := by decide +kernel
theorem dX6_makeStep_104 : decode cX6_makeStep 104 = .ok (.invokevirtual 51, 3) := by decide +kernel
theorem dX6_makeStep_107 : decode cX6_makeStep 107 = .ok (.return_, 1) := by decide +kernel
theorem dX6_valueOf_0 : decode cX6_valueOf 0 = .ok (.aload_n 0, 1) := by decide +kernel
theorem dX6_valueOf_1 : decode cX6_valueOf 1 = .ok (.getfield 28, 3) := by decide +kernel
theorem dX6_valueOf_4 : decode cX6_valueOf 4 = .ok (.aload_n 0, 1) := by decide +kernel
theorem dX6_valueOf_5 : decode cX6_valueOf 5 = .ok (.getfield 31, 3) := by decide +kernel
theorem dX6_valueOf_8 : decode cX6_valueOf 8 = .ok (.iload_n 1, 1) := by decide +kernel
theorem dX6_valueOf_9 : decode cX6_valueOf 9 = .ok (.iaload, 1) := by decide +kernel
theorem dX6_valueOf_10 : decode cX6_valueOf 10 = .ok (.iconst 4, 1) := by decide +kernel
theorem dX6_valueOf_11 : decode cX6_valueOf 11 = .ok (.imul, 1) := by decide +kernel
theorem dX6_valueOf_12 : decode cX6_valueOf 12 = .ok (.iload_n 2, 1) := by decide +kernel
theorem dX6_valueOf_13 : decode cX6_valueOf 13 = .ok (.iadd, 1) := by decide +kernel
theorem dX6_valueOf_14 : decode cX6_valueOf 14 = .ok (.iaload, 1) := by decide +kernel
theorem dX6_valueOf_15 : decode cX6_valueOf 15 = .ok (.ireturn, 1) := by decide +kernel
theorem dX6_leaveFinishedSources_0 : decode cX6_leaveFinishedSources 0 = .ok (.aload_n 0, 1) := by decide +kernel
theorem dX6_leaveFinishedSources_1 : decode cX6_leaveFinishedSources 1 = .ok (.getfield 34, 3) := by decide +kernel
theorem dX6_leaveFinishedSources_4 : decode cX6_leaveFinishedSources 4 = .ok (.ifCond .lt 37, 3) := by decide +kernel
theorem dX6_leaveFinishedSources_7 : decode cX6_leaveFinishedSources 7 = .ok (.aload_n 0, 1) := by decide +kernel
theorem dX6_leaveFinishedSources_8 : decode cX6_leaveFinishedSources 8 = .ok (.getfield 22, 3) := by decide +kernel
theorem dX6_leaveFinishedSources_11 : decode cX6_leaveFinishedSources 11 = .ok (.aload_n 0, 1) := by decide +kernel
theorem dX6_leaveFinishedSources_12 : decode cX6_leaveFinishedSources 12 = .ok (.getfield 34, 3) := by decide +kernel
theorem dX6_leaveFinishedSources_15 : decode cX6_leaveFinishedSources 15 = .ok (.iaload, 1) := by decide +kernel
theorem dX6_leaveFinishedSources_16 : decode cX6_leaveFinishedSources 16 = .ok (.aload_n 0, 1) := by decide +kernel
theorem dX6_leaveFinishedSources_17 : decode cX6_leaveFinishedSources 17 = .ok (.getfield 19, 3) := by decide +kernel
theorem dX6_leaveFinishedSources_20 : decode cX6_leaveFinishedSources 20 = .ok (.aload_n 0, 1) := by decide +kernel
theorem dX6_leaveFinishedSources_21 : decode cX6_leaveFinishedSources 21 = .ok (.getfield 34, 3) := by decide +kernel
theorem dX6_leaveFinishedSources_24 : decode cX6_leaveFinishedSources 24 = .ok (.iaload, 1) := by decide +kernel
theorem dX6_leaveFinishedSources_25 : decode cX6_leaveFinishedSources 25 = .ok (.if_icmp .lt 16, 3) := by decide +kernel
theorem dX6_leaveFinishedSources_28 : decode cX6_leaveFinishedSources 28 = .ok (.aload_n 0, 1) := by decide +kernel
theorem dX6_leaveFinishedSources_29 : decode cX6_leaveFinishedSources 29 = .ok (.dup, 1) := by decide +kernel
theorem dX6_leaveFinishedSources_30 : decode cX6_leaveFinishedSources 30 = .ok (.getfield 34, 3) := by decide +kernel
theorem dX6_leaveFinishedSources_33 : decode cX6_leaveFinishedSources 33 = .ok (.iconst 1, 1) := by decide +kernel
theorem dX6_leaveFinishedSources_34 : decode cX6_leaveFinishedSources 34 = .ok (.isub, 1) := by decide +kernel
theorem dX6_leaveFinishedSources_35 : decode cX6_leaveFinishedSources 35 = .ok (.putfield 34, 3) := by decide +kernel
theorem dX6_leaveFinishedSources_38 : decode cX6_leaveFinishedSources 38 = .ok (.goto (-38), 3) := by decide +kernel
theorem dX6_leaveFinishedSources_41 : decode cX6_leaveFinishedSources 41 = .ok (.return_, 1) := by decide +kernel
theorem dX6_passes_0 : decode cX6_passes 0 = .ok (.aload_n 2, 1) := by decide +kernel
theorem dX6_passes_1 : decode cX6_passes 1 = .ok (.getfield 58, 3) := by decide +kernel
theorem dX6_passes_4 : decode cX6_passes 4 = .ok (.aload_n 0, 1) := by decide +kernel
theorem dX6_passes_5 : decode cX6_passes 5 = .ok (.getfield 34, 3) := by decide +kernel
theorem dX6_passes_8 : decode cX6_passes 8 = .ok (.iaload, 1) := by decide +kernel
theorem dX6_passes_9 : decode cX6_passes 9 = .ok (.istore_n 3, 1) := by decide +kernel
theorem dX6_passes_10 : decode cX6_passes 10 = .ok (.iconst 0, 1) := by decide +kernel
theorem dX6_passes_11 : decode cX6_passes 11 = .ok (.istore 4, 2) := by decide +kernel
theorem dX6_passes_13 : decode cX6_passes 13 = .ok (.iload 4, 2) := by decide +kernel
theorem dX6_passes_15 : decode cX6_passes 15 = .ok (.aload_n 1, 1) := by decide +kernel
theorem dX6_passes_16 : decode cX6_passes 16 = .ok (.getfield 74, 3) := by decide +kernel
theorem dX6_passes_19 : decode cX6_passes 19 = .ok (.if_icmp .ge 48, 3) := by decide +kernel
theorem dX6_passes_22 : decode cX6_passes 22 = .ok (.aload_n 1, 1) := by decide +kernel
theorem dX6_passes_23 : decode cX6_passes 23 = .ok (.getfield 77, 3) := by decide +kernel
theorem dX6_passes_26 : decode cX6_passes 26 = .ok (.iload 4, 2) := by decide +kernel
theorem dX6_passes_28 : decode cX6_passes 28 = .ok (.aaload, 1) := by decide +kernel
theorem dX6_passes_29 : decode cX6_passes 29 = .ok (.astore 5, 2) := by decide +kernel
theorem dX6_passes_31 : decode cX6_passes 31 = .ok (.aload 5, 2) := by decide +kernel
theorem dX6_passes_33 : decode cX6_passes 33 = .ok (.getfield 81, 3) := by decide +kernel
theorem dX6_passes_36 : decode cX6_passes 36 = .ok (.iload_n 3, 1) := by decide +kernel
theorem dX6_passes_37 : decode cX6_passes 37 = .ok (.if_icmp .ne 24, 3) := by decide +kernel
theorem dX6_passes_40 : decode cX6_passes 40 = .ok (.aload 5, 2) := by decide +kernel
theorem dX6_passes_42 : decode cX6_passes 42 = .ok (.aload_n 0, 1) := by decide +kernel
theorem dX6_passes_43 : decode cX6_passes 43 = .ok (.aload_n 1, 1) := by decide +kernel
theorem dX6_passes_44 : decode cX6_passes 44 = .ok (.iload_n 3, 1) := by decide +kernel
theorem dX6_passes_45 : decode cX6_passes 45 = .ok (.aload 5, 2) := by decide +kernel
theorem dX6_passes_47 : decode cX6_passes 47 = .ok (.getfield 86, 3) := by decide +kernel
theorem dX6_passes_50 : decode cX6_passes 50 = .ok (.invokevirtual 89, 3) := by decide +kernel
theorem dX6_passes_53 : decode cX6_passes 53 = .ok (.invokevirtual 93, 3) := by decide +kernel
theorem dX6_passes_56 : decode cX6_passes 56 = .ok (.ifCond .ne 5, 3) := by decide +kernel
theorem dX6_passes_59 : decode cX6_passes 59 = .ok (.iconst 0, 1) := by decide +kernel
theorem dX6_passes_60 : decode cX6_passes 60 = .ok (.ireturn, 1) := by decide +kernel
theorem dX6_passes_61 : decode cX6_passes 61 = .ok (.iinc 4 1, 3) := by decide +kernel
theorem dX6_passes_64 : decode cX6_passes 64 = .ok (.goto (-51), 3) := by decide +kernel
theorem dX6_passes_67 : decode cX6_passes 67 = .ok (.iconst 0, 1) := by decide +kernel
theorem dX6_passes_68 : decode cX6_passes 68 = .ok (.istore 4, 2) := by decide +kernel
theorem dX6_passes_70 : decode cX6_passes 70 = .ok (.iload 4, 2) := by decide +kernel
theorem dX6_passes_72 : decode cX6_passes 72 = .ok (.aload_n 1, 1) := by decide +kernel
theorem dX6_passes_73 : decode cX6_passes 73 = .ok (.getfield 97, 3) := by decide +kernel
theorem dX6_passes_76 : decode cX6_passes 76 = .ok (.if_icmp .ge 66, 3) := by decide +kernel
theorem dX6_passes_79 : decode cX6_passes 79 = .ok (.aload_n 1, 1) := by decide +kernel
theorem dX6_passes_80 : decode cX6_passes 80 = .ok (.getfield 100, 3) := by decide +kernel
theorem dX6_passes_83 : decode cX6_passes 83 = .ok (.iload 4, 2) := by decide +kernel
theorem dX6_passes_85 : decode cX6_passes 85 = .ok (.aaload, 1) := by decide +kernel
theorem dX6_passes_86 : decode cX6_passes 86 = .ok (.astore 5, 2) := by decide +kernel
theorem dX6_passes_88 : decode cX6_passes 88 = .ok (.aload_n 2, 1) := by decide +kernel
theorem dX6_passes_89 : decode cX6_passes 89 = .ok (.aload 5, 2) := by decide +kernel
theorem dX6_passes_91 : decode cX6_passes 91 = .ok (.aload_n 0, 1) := by decide +kernel
theorem dX6_passes_92 : decode cX6_passes 92 = .ok (.getfield 34, 3) := by decide +kernel
theorem dX6_passes_95 : decode cX6_passes 95 = .ok (.invokevirtual 104, 3) := by decide +kernel
theorem dX6_passes_98 : decode cX6_passes 98 = .ok (.ifCond .eq 38, 3) := by decide +kernel
theorem dX6_passes_101 : decode cX6_passes 101 = .ok (.aload_n 0, 1) := by decide +kernel
theorem dX6_passes_102 : decode cX6_passes 102 = .ok (.aload_n 1, 1) := by decide +kernel
theorem dX6_passes_103 : decode cX6_passes 103 = .ok (.aload 5, 2) := by decide +kernel
theorem dX6_passes_105 : decode cX6_passes 105 = .ok (.getfield 108, 3) := by decide +kernel
theorem dX6_passes_108 : decode cX6_passes 108 = .ok (.aload 5, 2) := by decide +kernel
theorem dX6_passes_110 : decode cX6_passes 110 = .ok (.getfield 113, 3) := by decide +kernel
theorem dX6_passes_113 : decode cX6_passes 113 = .ok (.invokevirtual 89, 3) := by decide +kernel
theorem dX6_passes_116 : decode cX6_passes 116 = .ok (.aload_n 0, 1) := by decide +kernel
theorem dX6_passes_117 : decode cX6_passes 117 = .ok (.aload_n 1, 1) := by decide +kernel
theorem dX6_passes_118 : decode cX6_passes 118 = .ok (.aload 5, 2) := by decide +kernel
theorem dX6_passes_120 : decode cX6_passes 120 = .ok (.getfield 116, 3) := by decide +kernel
theorem dX6_passes_123 : decode cX6_passes 123 = .ok (.aload 5, 2) := by decide +kernel
theorem dX6_passes_125 : decode cX6_passes 125 = .ok (.getfield 119, 3) := by decide +kernel
theorem dX6_passes_128 : decode cX6_passes 128 = .ok (.invokevirtual 89, 3) := by decide +kernel
theorem dX6_passes_131 : decode cX6_passes 131 = .ok (.if_icmp .eq 5, 3) := by decide +kernel
theorem dX6_passes_134 : decode cX6_passes 134 = .ok (.iconst 0, 1) := by decide +kernel
theorem dX6_passes_135 : decode cX6_passes 135 = .ok (.ireturn, 1) := by decide +kernel
theorem dX6_passes_136 : decode cX6_passes 136 = .ok (.iinc 4 1, 3) := by decide +kernel
theorem dX6_passes_139 : decode cX6_passes 139 = .ok (.goto (-69), 3) := by decide +kernel
theorem dX6_passes_142 : decode cX6_passes 142 = .ok (.iconst 1, 1) := by decide +kernel
theorem dX6_passes_143 : decode cX6_passes 143 = .ok (.ireturn, 1) := by decide +kernel
theorem dX6_readValue_0 : decode cX6_readValue 0 = .ok (.aload_n 1, 1) := by decide +kernel
theorem dX6_readValue_1 : decode cX6_readValue 1 = .ok (.getfield 122, 3) := by decide +kernel
theorem dX6_readValue_4 : decode cX6_readValue 4 = .ok (.iload_n 2, 1) := by decide +kernel
theorem dX6_readValue_5 : decode cX6_readValue 5 = .ok (.aaload, 1) := by decide +kernel
theorem dX6_readValue_6 : decode cX6_readValue 6 = .ok (.aload_n 0, 1) := by decide +kernel
theorem dX6_readValue_7 : decode cX6_readValue 7 = .ok (.getfield 25, 3) := by decide +kernel
theorem dX6_readValue_10 : decode cX6_readValue 10 = .ok (.iload_n 2, 1) := by decide +kernel
theorem dX6_readValue_11 : decode cX6_readValue 11 = .ok (.iaload, 1) := by decide +kernel
theorem dX6_readValue_12 : decode cX6_readValue 12 = .ok (.iload_n 3, 1) := by decide +kernel
theorem dX6_readValue_13 : decode cX6_readValue 13 = .ok (.invokevirtual 126, 3) := by decide +kernel
theorem dX6_readValue_16 : decode cX6_readValue 16 = .ok (.ireturn, 1) := by decide +kernel
theorem dX6_openSource_0 : decode cX6_openSource 0 = .ok (.aload_n 0, 1) := by decide +kernel
theorem dX6_openSource_1 : decode cX6_openSource 1 = .ok (.iload_n 3, 1) := by decide +kernel
theorem dX6_openSource_2 : decode cX6_openSource 2 = .ok (.putfield 34, 3) := by decide +kernel
theorem dX6_openSource_5 : decode cX6_openSource 5 = .ok (.aload_n 0, 1) := by decide +kernel
theorem dX6_openSource_6 : decode cX6_openSource 6 = .ok (.getfield 22, 3) := by decide +kernel
theorem dX6_openSource_9 : decode cX6_openSource 9 = .ok (.iload_n 3, 1) := by decide +kernel
theorem dX6_openSource_10 : decode cX6_openSource 10 = .ok (.iconst 0, 1) := by decide +kernel
theorem dX6_openSource_11 : decode cX6_openSource 11 = .ok (.iastore, 1) := by decide +kernel
theorem dX6_openSource_12 : decode cX6_openSource 12 = .ok (.aload_n 0, 1) := by decide +kernel
theorem dX6_openSource_13 : decode cX6_openSource 13 = .ok (.getfield 19, 3) := by decide +kernel
theorem dX6_openSource_16 : decode cX6_openSource 16 = .ok (.iload_n 3, 1) := by decide +kernel
theorem dX6_openSource_17 : decode cX6_openSource 17 = .ok (.iconst 0, 1) := by decide +kernel
theorem dX6_openSource_18 : decode cX6_openSource 18 = .ok (.iastore, 1) := by decide +kernel
theorem dX6_openSource_19 : decode cX6_openSource 19 = .ok (.aload_n 1, 1) := by decide +kernel
theorem dX6_openSource_20 : decode cX6_openSource 20 = .ok (.getfield 122, 3) := by decide +kernel
theorem dX6_openSource_23 : decode cX6_openSource 23 = .ok (.aload_n 2, 1) := by decide +kernel
theorem dX6_openSource_24 : decode cX6_openSource 24 = .ok (.getfield 58, 3) := by decide +kernel
theorem dX6_openSource_27 : decode cX6_openSource 27 = .ok (.iload_n 3, 1) := by decide +kernel
theorem dX6_openSource_28 : decode cX6_openSource 28 = .ok (.iaload, 1) := by decide +kernel
theorem dX6_openSource_29 : decode cX6_openSource 29 = .ok (.aaload, 1) := by decide +kernel
theorem dX6_openSource_30 : decode cX6_openSource 30 = .ok (.astore 4, 2) := by decide +kernel
theorem dX6_openSource_32 : decode cX6_openSource 32 = .ok (.iconst 0, 1) := by decide +kernel
theorem dX6_openSource_33 : decode cX6_openSource 33 = .ok (.istore 5, 2) := by decide +kernel
theorem dX6_openSource_35 : decode cX6_openSource 35 = .ok (.iload 5, 2) := by decide +kernel
theorem dX6_openSource_37 : decode cX6_openSource 37 = .ok (.aload 4, 2) := by decide +kernel
theorem dX6_openSource_39 : decode cX6_openSource 39 = .ok (.getfield 130, 3) := by decide +kernel
theorem dX6_openSource_42 : decode cX6_openSource 42 = .ok (.if_icmp .ge 103, 3) := by decide +kernel
theorem dX6_openSource_45 : decode cX6_openSource 45 = .ok (.aload_n 2, 1) := by decide +kernel
theorem dX6_openSource_46 : decode cX6_openSource 46 = .ok (.getfield 133, 3) := by decide +kernel
theorem dX6_openSource_49 : decode cX6_openSource 49 = .ok (.iload_n 3, 1) := by decide +kernel
theorem dX6_openSource_50 : decode cX6_openSource 50 = .ok (.iaload, 1) := by decide +kernel
theorem dX6_openSource_51 : decode cX6_openSource 51 = .ok (.iconst (-1), 1) := by decide +kernel
theorem dX6_openSource_52 : decode cX6_openSource 52 = .ok (.if_icmp .eq 44, 3) := by decide +kernel
theorem dX6_openSource_55 : decode cX6_openSource 55 = .ok (.aload_n 1, 1) := by decide +kernel
theorem dX6_openSource_56 : decode cX6_openSource 56 = .ok (.getfield 77, 3) := by decide +kernel
theorem dX6_openSource_59 : decode cX6_openSource 59 = .ok (.aload_n 2, 1) := by decide +kernel
theorem dX6_openSource_60 : decode cX6_openSource 60 = .ok (.getfield 133, 3) := by decide +kernel
theorem dX6_openSource_63 : decode cX6_openSource 63 = .ok (.iload_n 3, 1) := by decide +kernel
theorem dX6_openSource_64 : decode cX6_openSource 64 = .ok (.iaload, 1) := by decide +kernel
theorem dX6_openSource_65 : decode cX6_openSource 65 = .ok (.aaload, 1) := by decide +kernel
theorem dX6_openSource_66 : decode cX6_openSource 66 = .ok (.astore 6, 2) := by decide +kernel
theorem dX6_openSource_68 : decode cX6_openSource 68 = .ok (.aload_n 0, 1) := by decide +kernel
theorem dX6_openSource_69 : decode cX6_openSource 69 = .ok (.aload 4, 2) := by decide +kernel
theorem dX6_openSource_71 : decode cX6_openSource 71 = .ok (.aload 6, 2) := by decide +kernel
theorem dX6_openSource_73 : decode cX6_openSource 73 = .ok (.aload_n 2, 1) := by decide +kernel
theorem dX6_openSource_74 : decode cX6_openSource 74 = .ok (.getfield 136, 3) := by decide +kernel
theorem dX6_openSource_77 : decode cX6_openSource 77 = .ok (.iload_n 3, 1) := by decide +kernel
theorem dX6_openSource_78 : decode cX6_openSource 78 = .ok (.iaload, 1) := by decide +kernel
theorem dX6_openSource_79 : decode cX6_openSource 79 = .ok (.iconst 2, 1) := by decide +kernel
theorem dX6_openSource_80 : decode cX6_openSource 80 = .ok (.if_icmp .ne 7, 3) := by decide +kernel
theorem dX6_openSource_83 : decode cX6_openSource 83 = .ok (.iconst 1, 1) := by decide +kernel
theorem dX6_openSource_84 : decode cX6_openSource 84 = .ok (.goto 4, 3) := by decide +kernel
theorem dX6_openSource_87 : decode cX6_openSource 87 = .ok (.iconst 0, 1) := by decide +kernel
theorem dX6_openSource_88 : decode cX6_openSource 88 = .ok (.iload 5, 2) := by decide +kernel
theorem dX6_openSource_90 : decode cX6_openSource 90 = .ok (.invokevirtual 139, 3) := by decide +kernel
theorem dX6_openSource_93 : decode cX6_openSource 93 = .ok (.goto 46, 3) := by decide +kernel
theorem dX6_openSource_96 : decode cX6_openSource 96 = .ok (.aload_n 2, 1) := by decide +kernel
theorem dX6_openSource_97 : decode cX6_openSource 97 = .ok (.getfield 143, 3) := by decide +kernel
theorem dX6_openSource_100 : decode cX6_openSource 100 = .ok (.iload_n 3, 1) := by decide +kernel
theorem dX6_openSource_101 : decode cX6_openSource 101 = .ok (.iaload, 1) := by decide +kernel
theorem dX6_openSource_102 : decode cX6_openSource 102 = .ok (.iconst (-1), 1) := by decide +kernel
theorem dX6_openSource_103 : decode cX6_openSource 103 = .ok (.if_icmp .eq 30, 3) := by decide +kernel
theorem dX6_openSource_106 : decode cX6_openSource 106 = .ok (.aload_n 0, 1) := by decide +kernel
theorem dX6_openSource_107 : decode cX6_openSource 107 = .ok (.aload_n 1, 1) := by decide +kernel
theorem dX6_openSource_108 : decode cX6_openSource 108 = .ok (.aload_n 1, 1) := by decide +kernel
theorem dX6_openSource_109 : decode cX6_openSource 109 = .ok (.getfield 100, 3) := by decide +kernel
theorem dX6_openSource_112 : decode cX6_openSource 112 = .ok (.aload_n 2, 1) := by decide +kernel
theorem dX6_openSource_113 : decode cX6_openSource 113 = .ok (.getfield 143, 3) := by decide +kernel
theorem dX6_openSource_116 : decode cX6_openSource 116 = .ok (.iload_n 3, 1) := by decide +kernel
theorem dX6_openSource_117 : decode cX6_openSource 117 = .ok (.iaload, 1) := by decide +kernel
theorem dX6_openSource_118 : decode cX6_openSource 118 = .ok (.aaload, 1) := by decide +kernel
theorem dX6_openSource_119 : decode cX6_openSource 119 = .ok (.aload_n 2, 1) := by decide +kernel
theorem dX6_openSource_120 : decode cX6_openSource 120 = .ok (.getfield 58, 3) := by decide +kernel
theorem dX6_openSource_123 : decode cX6_openSource 123 = .ok (.iload_n 3, 1) := by decide +kernel
theorem dX6_openSource_124 : decode cX6_openSource 124 = .ok (.iaload, 1) := by decide +kernel
theorem dX6_openSource_125 : decode cX6_openSource 125 = .ok (.iload 5, 2) := by decide +kernel
theorem dX6_openSource_127 : decode cX6_openSource 127 = .ok (.invokevirtual 146, 3) := by decide +kernel
theorem dX6_openSource_130 : decode cX6_openSource 130 = .ok (.goto 9, 3) := by decide +kernel
theorem dX6_openSource_133 : decode cX6_openSource 133 = .ok (.aload_n 0, 1) := by decide +kernel
theorem dX6_openSource_134 : decode cX6_openSource 134 = .ok (.iload 5, 2) := by decide +kernel
theorem dX6_openSource_136 : decode cX6_openSource 136 = .ok (.invokevirtual 150, 3) := by decide +kernel
theorem dX6_openSource_139 : decode cX6_openSource 139 = .ok (.iinc 5 1, 3) := by decide +kernel
theorem dX6_openSource_142 : decode cX6_openSource 142 = .ok (.goto (-107), 3) := by decide +kernel
theorem dX6_openSource_145 : decode cX6_openSource 145 = .ok (.return_, 1) := by decide +kernel
theorem dX6_openByCondition_0 : decode cX6_openByCondition 0 = .ok (.aload_n 2, 1) := by decide +kernel
theorem dX6_openByCondition_1 : decode cX6_openByCondition 1 = .ok (.aload_n 1, 1) := by decide +kernel
theorem dX6_openByCondition_2 : decode cX6_openByCondition 2 = .ok (.iload 4, 2) := by decide +kernel
theorem dX6_openByCondition_4 : decode cX6_openByCondition 4 = .ok (.aload_n 2, 1) := by decide +kernel
theorem dX6_openByCondition_5 : decode cX6_openByCondition 5 = .ok (.getfield 86, 3) := by decide +kernel
theorem dX6_openByCondition_8 : decode cX6_openByCondition 8 = .ok (.invokevirtual 126, 3) := by decide +kernel
theorem dX6_openByCondition_11 : decode cX6_openByCondition 11 = .ok (.invokevirtual 93, 3) := by decide +kernel
theorem dX6_openByCondition_14 : decode cX6_openByCondition 14 = .ok (.ifCond .eq 22, 3) := by decide +kernel
theorem dX6_openByCondition_17 : decode cX6_openByCondition 17 = .ok (.aload_n 0, 1) := by decide +kernel
theorem dX6_openByCondition_18 : decode cX6_openByCondition 18 = .ok (.iload 4, 2) := by decide +kernel
theorem dX6_openByCondition_20 : decode cX6_openByCondition 20 = .ok (.invokevirtual 150, 3) := by decide +kernel
theorem dX6_openByCondition_23 : decode cX6_openByCondition 23 = .ok (.iload_n 3, 1) := by decide +kernel
theorem dX6_openByCondition_24 : decode cX6_openByCondition 24 = .ok (.ifCond .eq 12, 3) := by decide +kernel
theorem dX6_openByCondition_27 : decode cX6_openByCondition 27 = .ok (.aload_n 0, 1) := by decide +kernel
theorem dX6_openByCondition_28 : decode cX6_openByCondition 28 = .ok (.aload_n 1, 1) := by decide +kernel
theorem dX6_openByCondition_29 : decode cX6_openByCondition 29 = .ok (.aload_n 2, 1) := by decide +kernel
theorem dX6_openByCondition_30 : decode cX6_openByCondition 30 = .ok (.getfield 86, 3) := by decide +kernel
theorem dX6_openByCondition_33 : decode cX6_openByCondition 33 = .ok (.invokevirtual 154, 3) := by decide +kernel
theorem dX6_openByCondition_36 : decode cX6_openByCondition 36 = .ok (.return_, 1) := by decide +kernel
theorem dX6_openByJoin_0 : decode cX6_openByJoin 0 = .ok (.aload_n 2, 1) := by decide +kernel
theorem dX6_openByJoin_1 : decode cX6_openByJoin 1 = .ok (.iload_n 3, 1) := by decide +kernel
theorem dX6_openByJoin_2 : decode cX6_openByJoin 2 = .ok (.invokevirtual 158, 3) := by decide +kernel
theorem dX6_openByJoin_5 : decode cX6_openByJoin 5 = .ok (.istore 5, 2) := by decide +kernel
theorem dX6_openByJoin_7 : decode cX6_openByJoin 7 = .ok (.aload_n 0, 1) := by decide +kernel
theorem dX6_openByJoin_8 : decode cX6_openByJoin 8 = .ok (.aload_n 1, 1) := by decide +kernel
theorem dX6_openByJoin_9 : decode cX6_openByJoin 9 = .ok (.iload 5, 2) := by decide +kernel
theorem dX6_openByJoin_11 : decode cX6_openByJoin 11 = .ok (.aload_n 2, 1) := by decide +kernel
theorem dX6_openByJoin_12 : decode cX6_openByJoin 12 = .ok (.iload 5, 2) := by decide +kernel
theorem dX6_openByJoin_14 : decode cX6_openByJoin 14 = .ok (.invokevirtual 162, 3) := by decide +kernel
theorem dX6_openByJoin_17 : decode cX6_openByJoin 17 = .ok (.invokevirtual 89, 3) := by decide +kernel
theorem dX6_openByJoin_20 : decode cX6_openByJoin 20 = .ok (.istore 6, 2) := by decide +kernel
theorem dX6_openByJoin_22 : decode cX6_openByJoin 22 = .ok (.aload_n 1, 1) := by decide +kernel
theorem dX6_openByJoin_23 : decode cX6_openByJoin 23 = .ok (.getfield 122, 3) := by decide +kernel
theorem dX6_openByJoin_26 : decode cX6_openByJoin 26 = .ok (.iload_n 3, 1) := by decide +kernel
theorem dX6_openByJoin_27 : decode cX6_openByJoin 27 = .ok (.aaload, 1) := by decide +kernel
theorem dX6_openByJoin_28 : decode cX6_openByJoin 28 = .ok (.iload 4, 2) := by decide +kernel
theorem dX6_openByJoin_30 : decode cX6_openByJoin 30 = .ok (.aload_n 2, 1) := by decide +kernel
theorem dX6_openByJoin_31 : decode cX6_openByJoin 31 = .ok (.iload_n 3, 1) := by decide +kernel
theorem dX6_openByJoin_32 : decode cX6_openByJoin 32 = .ok (.invokevirtual 162, 3) := by decide +kernel
theorem dX6_openByJoin_35 : decode cX6_openByJoin 35 = .ok (.invokevirtual 126, 3) := by decide +kernel
theorem dX6_openByJoin_38 : decode cX6_openByJoin 38 = .ok (.iload 6, 2) := by decide +kernel
theorem dX6_openByJoin_40 : decode cX6_openByJoin 40 = .ok (.if_icmp .ne 9, 3) := by decide +kernel
theorem dX6_openByJoin_43 : decode cX6_openByJoin 43 = .ok (.aload_n 0, 1) := by decide +kernel
theorem dX6_openByJoin_44 : decode cX6_openByJoin 44 = .ok (.iload 4, 2) := by decide +kernel
theorem dX6_openByJoin_46 : decode cX6_openByJoin 46 = .ok (.invokevirtual 150, 3) := by decide +kernel
theorem dX6_openByJoin_49 : decode cX6_openByJoin 49 = .ok (.return_, 1) := by decide +kernel
theorem dX6_addPlace_0 : decode cX6_addPlace 0 = .ok (.aload_n 0, 1) := by decide +kernel
theorem dX6_addPlace_1 : decode cX6_addPlace 1 = .ok (.getfield 13, 3) := by decide +kernel
theorem dX6_addPlace_4 : decode cX6_addPlace 4 = .ok (.aload_n 0, 1) := by decide +kernel
theorem dX6_addPlace_5 : decode cX6_addPlace 5 = .ok (.getfield 34, 3) := by decide +kernel
theorem dX6_addPlace_8 : decode cX6_addPlace 8 = .ok (.bipush 24, 2) := by decide +kernel
theorem dX6_addPlace_10 : decode cX6_addPlace 10 = .ok (.imul, 1) := by decide +kernel
theorem dX6_addPlace_11 : decode cX6_addPlace 11 = .ok (.aload_n 0, 1) := by decide +kernel
theorem dX6_addPlace_12 : decode cX6_addPlace 12 = .ok (.getfield 19, 3) := by decide +kernel
theorem dX6_addPlace_15 : decode cX6_addPlace 15 = .ok (.aload_n 0, 1) := by decide +kernel
theorem dX6_addPlace_16 : decode cX6_addPlace 16 = .ok (.getfield 34, 3) := by decide +kernel
theorem dX6_addPlace_19 : decode cX6_addPlace 19 = .ok (.iaload, 1) := by decide +kernel
theorem dX6_addPlace_20 : decode cX6_addPlace 20 = .ok (.iadd, 1) := by decide +kernel
theorem dX6_addPlace_21 : decode cX6_addPlace 21 = .ok (.iload_n 1, 1) := by decide +kernel
theorem dX6_addPlace_22 : decode cX6_addPlace 22 = .ok (.iastore, 1) := by decide +kernel
theorem dX6_addPlace_23 : decode cX6_addPlace 23 = .ok (.aload_n 0, 1) := by decide +kernel
theorem dX6_addPlace_24 : decode cX6_addPlace 24 = .ok (.getfield 19, 3) := by decide +kernel
theorem dX6_addPlace_27 : decode cX6_addPlace 27 = .ok (.aload_n 0, 1) := by decide +kernel
theorem dX6_addPlace_28 : decode cX6_addPlace 28 = .ok (.getfield 34, 3) := by decide +kernel
theorem dX6_addPlace_31 : decode cX6_addPlace 31 = .ok (.dup2, 1) := by decide +kernel
theorem dX6_addPlace_32 : decode cX6_addPlace 32 = .ok (.iaload, 1) := by decide +kernel
theorem dX6_addPlace_33 : decode cX6_addPlace 33 = .ok (.iconst 1, 1) := by decide +kernel
theorem dX6_addPlace_34 : decode cX6_addPlace 34 = .ok (.iadd, 1) := by decide +kernel
theorem dX6_addPlace_35 : decode cX6_addPlace 35 = .ok (.iastore, 1) := by decide +kernel
theorem dX6_addPlace_36 : decode cX6_addPlace 36 = .ok (.return_, 1) := by decide +kernel
theorem dX6_sinkLastPlace_0 : decode cX6_sinkLastPlace 0 = .ok (.aload_n 0, 1) := by decide +kernel
theorem dX6_sinkLastPlace_1 : decode cX6_sinkLastPlace 1 = .ok (.getfield 34, 3) := by decide +kernel
theorem dX6_sinkLastPlace_4 : decode cX6_sinkLastPlace 4 = .ok (.bipush 24, 2) := by decide +kernel
theorem dX6_sinkLastPlace_6 : decode cX6_sinkLastPlace 6 = .ok (.imul, 1) := by decide +kernel
theorem dX6_sinkLastPlace_7 : decode cX6_sinkLastPlace 7 = .ok (.istore_n 3, 1) := by decide +kernel
theorem dX6_sinkLastPlace_8 : decode cX6_sinkLastPlace 8 = .ok (.iload_n 3, 1) := by decide +kernel
theorem dX6_sinkLastPlace_9 : decode cX6_sinkLastPlace 9 = .ok (.aload_n 0, 1) := by decide +kernel
theorem dX6_sinkLastPlace_10 : decode cX6_sinkLastPlace 10 = .ok (.getfield 19, 3) := by decide +kernel
theorem dX6_sinkLastPlace_13 : decode cX6_sinkLastPlace 13 = .ok (.aload_n 0, 1) := by decide +kernel
theorem dX6_sinkLastPlace_14 : decode cX6_sinkLastPlace 14 = .ok (.getfield 34, 3) := by decide +kernel
theorem dX6_sinkLastPlace_17 : decode cX6_sinkLastPlace 17 = .ok (.iaload, 1) := by decide +kernel
theorem dX6_sinkLastPlace_18 : decode cX6_sinkLastPlace 18 = .ok (.iadd, 1) := by decide +kernel
theorem dX6_sinkLastPlace_19 : decode cX6_sinkLastPlace 19 = .ok (.iconst 1, 1) := by decide +kernel
theorem dX6_sinkLastPlace_20 : decode cX6_sinkLastPlace 20 = .ok (.isub, 1) := by decide +kernel
theorem dX6_sinkLastPlace_21 : decode cX6_sinkLastPlace 21 = .ok (.istore 4, 2) := by decide +kernel
theorem dX6_sinkLastPlace_23 : decode cX6_sinkLastPlace 23 = .ok (.aload_n 0, 1) := by decide +kernel
theorem dX6_sinkLastPlace_24 : decode cX6_sinkLastPlace 24 = .ok (.getfield 13, 3) := by decide +kernel
theorem dX6_sinkLastPlace_27 : decode cX6_sinkLastPlace 27 = .ok (.iload 4, 2) := by decide +kernel
theorem dX6_sinkLastPlace_29 : decode cX6_sinkLastPlace 29 = .ok (.iaload, 1) := by decide +kernel
theorem dX6_sinkLastPlace_30 : decode cX6_sinkLastPlace 30 = .ok (.istore 5, 2) := by decide +kernel
theorem dX6_sinkLastPlace_32 : decode cX6_sinkLastPlace 32 = .ok (.aload_n 1, 1) := by decide +kernel
theorem dX6_sinkLastPlace_33 : decode cX6_sinkLastPlace 33 = .ok (.iload 5, 2) := by decide +kernel
theorem dX6_sinkLastPlace_35 : decode cX6_sinkLastPlace 35 = .ok (.iload_n 2, 1) := by decide +kernel
theorem dX6_sinkLastPlace_36 : decode cX6_sinkLastPlace 36 = .ok (.invokevirtual 126, 3) := by decide +kernel
theorem dX6_sinkLastPlace_39 : decode cX6_sinkLastPlace 39 = .ok (.istore 6, 2) := by decide +kernel
theorem dX6_sinkLastPlace_41 : decode cX6_sinkLastPlace 41 = .ok (.iload 4, 2) := by decide +kernel
theorem dX6_sinkLastPlace_43 : decode cX6_sinkLastPlace 43 = .ok (.iload_n 3, 1) := by decide +kernel
theorem dX6_sinkLastPlace_44 : decode cX6_sinkLastPlace 44 = .ok (.if_icmp .le 44, 3) := by decide +kernel
theorem dX6_sinkLastPlace_47 : decode cX6_sinkLastPlace 47 = .ok (.aload_n 1, 1) := by decide +kernel
theorem dX6_sinkLastPlace_48 : decode cX6_sinkLastPlace 48 = .ok (.aload_n 0, 1) := by decide +kernel
theorem dX6_sinkLastPlace_49 : decode cX6_sinkLastPlace 49 = .ok (.getfield 13, 3) := by decide +kernel
theorem dX6_sinkLastPlace_52 : decode cX6_sinkLastPlace 52 = .ok (.iload 4, 2) := by decide +kernel
theorem dX6_sinkLastPlace_54 : decode cX6_sinkLastPlace 54 = .ok (.iconst 1, 1) := by decide +kernel
theorem dX6_sinkLastPlace_55 : decode cX6_sinkLastPlace 55 = .ok (.isub, 1) := by decide +kernel
theorem dX6_sinkLastPlace_56 : decode cX6_sinkLastPlace 56 = .ok (.iaload, 1) := by decide +kernel
theorem dX6_sinkLastPlace_57 : decode cX6_sinkLastPlace 57 = .ok (.iload_n 2, 1) := by decide +kernel
theorem dX6_sinkLastPlace_58 : decode cX6_sinkLastPlace 58 = .ok (.invokevirtual 126, 3) := by decide +kernel
theorem dX6_sinkLastPlace_61 : decode cX6_sinkLastPlace 61 = .ok (.iload 6, 2) := by decide +kernel
theorem dX6_sinkLastPlace_63 : decode cX6_sinkLastPlace 63 = .ok (.if_icmp .le 25, 3) := by decide +kernel
theorem dX6_sinkLastPlace_66 : decode cX6_sinkLastPlace 66 = .ok (.aload_n 0, 1) := by decide +kernel
theorem dX6_sinkLastPlace_67 : decode cX6_sinkLastPlace 67 = .ok (.getfield 13, 3) := by decide +kernel
theorem dX6_sinkLastPlace_70 : decode cX6_sinkLastPlace 70 = .ok (.iload 4, 2) := by decide +kernel
theorem dX6_sinkLastPlace_72 : decode cX6_sinkLastPlace 72 = .ok (.aload_n 0, 1) := by decide +kernel
theorem dX6_sinkLastPlace_73 : decode cX6_sinkLastPlace 73 = .ok (.getfield 13, 3) := by decide +kernel
theorem dX6_sinkLastPlace_76 : decode cX6_sinkLastPlace 76 = .ok (.iload 4, 2) := by decide +kernel
theorem dX6_sinkLastPlace_78 : decode cX6_sinkLastPlace 78 = .ok (.iconst 1, 1) := by decide +kernel
theorem dX6_sinkLastPlace_79 : decode cX6_sinkLastPlace 79 = .ok (.isub, 1) := by decide +kernel
theorem dX6_sinkLastPlace_80 : decode cX6_sinkLastPlace 80 = .ok (.iaload, 1) := by decide +kernel
theorem dX6_sinkLastPlace_81 : decode cX6_sinkLastPlace 81 = .ok (.iastore, 1) := by decide +kernel
theorem dX6_sinkLastPlace_82 : decode cX6_sinkLastPlace 82 = .ok (.iinc 4 (-1), 3) := by decide +kernel
theorem dX6_sinkLastPlace_85 : decode cX6_sinkLastPlace 85 = .ok (.goto (-44), 3) := by decide +kernel
theorem dX6_sinkLastPlace_88 : decode cX6_sinkLastPlace 88 = .ok (.aload_n 0, 1) := by decide +kernel
theorem dX6_sinkLastPlace_89 : decode cX6_sinkLastPlace 89 = .ok (.getfield 13, 3) := by decide +kernel
theorem dX6_sinkLastPlace_92 : decode cX6_sinkLastPlace 92 = .ok (.iload 4, 2) := by decide +kernel
theorem dX6_sinkLastPlace_94 : decode cX6_sinkLastPlace 94 = .ok (.iload 5, 2) := by decide +kernel
theorem dX6_sinkLastPlace_96 : decode cX6_sinkLastPlace 96 = .ok (.iastore, 1) := by decide +kernel
theorem dX6_sinkLastPlace_97 : decode cX6_sinkLastPlace 97 = .ok (.return_, 1) := by decide +kernel
theorem dX6_keepAnswer_0 : decode cX6_keepAnswer 0 = .ok (.aload_n 0, 1) := by decide +kernel
theorem dX6_keepAnswer_1 : decode cX6_keepAnswer 1 = .ok (.getfield 38, 3) := by decide +kernel
theorem dX6_keepAnswer_4 : decode cX6_keepAnswer 4 = .ok (.iconst 4, 1) := by decide +kernel
theorem dX6_keepAnswer_5 : decode cX6_keepAnswer 5 = .ok (.imul, 1) := by decide +kernel
theorem dX6_keepAnswer_6 : decode cX6_keepAnswer 6 = .ok (.istore_n 2, 1) := by decide +kernel
theorem dX6_keepAnswer_7 : decode cX6_keepAnswer 7 = .ok (.iconst 0, 1) := by decide +kernel
theorem dX6_keepAnswer_8 : decode cX6_keepAnswer 8 = .ok (.istore_n 3, 1) := by decide +kernel
theorem dX6_keepAnswer_9 : decode cX6_keepAnswer 9 = .ok (.iload_n 3, 1) := by decide +kernel
theorem dX6_keepAnswer_10 : decode cX6_keepAnswer 10 = .ok (.aload_n 1, 1) := by decide +kernel
theorem dX6_keepAnswer_11 : decode cX6_keepAnswer 11 = .ok (.getfield 165, 3) := by decide +kernel
theorem dX6_keepAnswer_14 : decode cX6_keepAnswer 14 = .ok (.if_icmp .ge 40, 3) := by decide +kernel
theorem dX6_keepAnswer_17 : decode cX6_keepAnswer 17 = .ok (.aload_n 1, 1) := by decide +kernel
theorem dX6_keepAnswer_18 : decode cX6_keepAnswer 18 = .ok (.getfield 168, 3) := by decide +kernel
theorem dX6_keepAnswer_21 : decode cX6_keepAnswer 21 = .ok (.iload_n 3, 1) := by decide +kernel
theorem dX6_keepAnswer_22 : decode cX6_keepAnswer 22 = .ok (.aaload, 1) := by decide +kernel
theorem dX6_keepAnswer_23 : decode cX6_keepAnswer 23 = .ok (.astore 4, 2) := by decide +kernel
theorem dX6_keepAnswer_25 : decode cX6_keepAnswer 25 = .ok (.aload_n 0, 1) := by decide +kernel
theorem dX6_keepAnswer_26 : decode cX6_keepAnswer 26 = .ok (.getfield 28, 3) := by decide +kernel
theorem dX6_keepAnswer_29 : decode cX6_keepAnswer 29 = .ok (.iload_n 2, 1) := by decide +kernel
theorem dX6_keepAnswer_30 : decode cX6_keepAnswer 30 = .ok (.iload_n 3, 1) := by decide +kernel
theorem dX6_keepAnswer_31 : decode cX6_keepAnswer 31 = .ok (.iadd, 1) := by decide +kernel
theorem dX6_keepAnswer_32 : decode cX6_keepAnswer 32 = .ok (.aload_n 0, 1) := by decide +kernel
theorem dX6_keepAnswer_33 : decode cX6_keepAnswer 33 = .ok (.aload_n 1, 1) := by decide +kernel
theorem dX6_keepAnswer_34 : decode cX6_keepAnswer 34 = .ok (.aload 4, 2) := by decide +kernel
theorem dX6_keepAnswer_36 : decode cX6_keepAnswer 36 = .ok (.getfield 172, 3) := by decide +kernel
theorem dX6_keepAnswer_39 : decode cX6_keepAnswer 39 = .ok (.aload 4, 2) := by decide +kernel
theorem dX6_keepAnswer_41 : decode cX6_keepAnswer 41 = .ok (.getfield 175, 3) := by decide +kernel
theorem dX6_keepAnswer_44 : decode cX6_keepAnswer 44 = .ok (.invokevirtual 89, 3) := by decide +kernel
theorem dX6_keepAnswer_47 : decode cX6_keepAnswer 47 = .ok (.iastore, 1) := by decide +kernel
theorem dX6_keepAnswer_48 : decode cX6_keepAnswer 48 = .ok (.iinc 3 1, 3) := by decide +kernel
theorem dX6_keepAnswer_51 : decode cX6_keepAnswer 51 = .ok (.goto (-42), 3) := by decide +kernel
theorem dX6_keepAnswer_54 : decode cX6_keepAnswer 54 = .ok (.aload_n 0, 1) := by decide +kernel
theorem dX6_keepAnswer_55 : decode cX6_keepAnswer 55 = .ok (.getfield 38, 3) := by decide +kernel
theorem dX6_keepAnswer_58 : decode cX6_keepAnswer 58 = .ok (.istore_n 3, 1) := by decide +kernel
theorem dX6_keepAnswer_59 : decode cX6_keepAnswer 59 = .ok (.iload_n 3, 1) := by decide +kernel
theorem dX6_keepAnswer_60 : decode cX6_keepAnswer 60 = .ok (.ifCond .le 50, 3) := by decide +kernel
theorem dX6_keepAnswer_63 : decode cX6_keepAnswer 63 = .ok (.aload_n 1, 1) := by decide +kernel
theorem dX6_keepAnswer_64 : decode cX6_keepAnswer 64 = .ok (.invokevirtual 176, 3) := by decide +kernel
theorem dX6_keepAnswer_67 : decode cX6_keepAnswer 67 = .ok (.ifCond .eq 43, 3) := by decide +kernel
theorem dX6_keepAnswer_70 : decode cX6_keepAnswer 70 = .ok (.aload_n 0, 1) := by decide +kernel
theorem dX6_keepAnswer_71 : decode cX6_keepAnswer 71 = .ok (.aload_n 1, 1) := by decide +kernel
theorem dX6_keepAnswer_72 : decode cX6_keepAnswer 72 = .ok (.aload_n 0, 1) := by decide +kernel
theorem dX6_keepAnswer_73 : decode cX6_keepAnswer 73 = .ok (.getfield 38, 3) := by decide +kernel
theorem dX6_keepAnswer_76 : decode cX6_keepAnswer 76 = .ok (.aload_n 0, 1) := by decide +kernel
theorem dX6_keepAnswer_77 : decode cX6_keepAnswer 77 = .ok (.getfield 31, 3) := by decide +kernel
theorem dX6_keepAnswer_80 : decode cX6_keepAnswer 80 = .ok (.iload_n 3, 1) := by decide +kernel
theorem dX6_keepAnswer_81 : decode cX6_keepAnswer 81 = .ok (.iconst 1, 1) := by decide +kernel
theorem dX6_keepAnswer_82 : decode cX6_keepAnswer 82 = .ok (.isub, 1) := by decide +kernel
theorem dX6_keepAnswer_83 : decode cX6_keepAnswer 83 = .ok (.iaload, 1) := by decide +kernel
theorem dX6_keepAnswer_84 : decode cX6_keepAnswer 84 = .ok (.invokevirtual 180, 3) := by decide +kernel
theorem dX6_keepAnswer_87 : decode cX6_keepAnswer 87 = .ok (.ifCond .eq 23, 3) := by decide +kernel
theorem dX6_keepAnswer_90 : decode cX6_keepAnswer 90 = .ok (.aload_n 0, 1) := by decide +kernel
theorem dX6_keepAnswer_91 : decode cX6_keepAnswer 91 = .ok (.getfield 31, 3) := by decide +kernel
theorem dX6_keepAnswer_94 : decode cX6_keepAnswer 94 = .ok (.iload_n 3, 1) := by decide +kernel
theorem dX6_keepAnswer_95 : decode cX6_keepAnswer 95 = .ok (.aload_n 0, 1) := by decide +kernel
theorem dX6_keepAnswer_96 : decode cX6_keepAnswer 96 = .ok (.getfield 31, 3) := by decide +kernel
theorem dX6_keepAnswer_99 : decode cX6_keepAnswer 99 = .ok (.iload_n 3, 1) := by decide +kernel
theorem dX6_keepAnswer_100 : decode cX6_keepAnswer 100 = .ok (.iconst 1, 1) := by decide +kernel
theorem dX6_keepAnswer_101 : decode cX6_keepAnswer 101 = .ok (.isub, 1) := by decide +kernel
theorem dX6_keepAnswer_102 : decode cX6_keepAnswer 102 = .ok (.iaload, 1) := by decide +kernel
theorem dX6_keepAnswer_103 : decode cX6_keepAnswer 103 = .ok (.iastore, 1) := by decide +kernel
theorem dX6_keepAnswer_104 : decode cX6_keepAnswer 104 = .ok (.iinc 3 (-1), 3) := by decide +kernel
theorem dX6_keepAnswer_107 : decode cX6_keepAnswer 107 = .ok (.goto (-48), 3) := by decide +kernel
theorem dX6_keepAnswer_110 : decode cX6_keepAnswer 110 = .ok (.aload_n 0, 1) := by decide +kernel
theorem dX6_keepAnswer_111 : decode cX6_keepAnswer 111 = .ok (.getfield 31, 3) := by decide +kernel
theorem dX6_keepAnswer_114 : decode cX6_keepAnswer 114 = .ok (.iload_n 3, 1) := by decide +kernel
theorem dX6_keepAnswer_115 : decode cX6_keepAnswer 115 = .ok (.aload_n 0, 1) := by decide +kernel
theorem dX6_keepAnswer_116 : decode cX6_keepAnswer 116 = .ok (.getfield 38, 3) := by decide +kernel
theorem dX6_keepAnswer_119 : decode cX6_keepAnswer 119 = .ok (.iastore, 1) := by decide +kernel
theorem dX6_keepAnswer_120 : decode cX6_keepAnswer 120 = .ok (.aload_n 0, 1) := by decide +kernel
theorem dX6_keepAnswer_121 : decode cX6_keepAnswer 121 = .ok (.dup, 1) := by decide +kernel
theorem dX6_keepAnswer_122 : decode cX6_keepAnswer 122 = .ok (.getfield 38, 3) := by decide +kernel
theorem dX6_keepAnswer_125 : decode cX6_keepAnswer 125 = .ok (.iconst 1, 1) := by decide +kernel
theorem dX6_keepAnswer_126 : decode cX6_keepAnswer 126 = .ok (.iadd, 1) := by decide +kernel
theorem dX6_keepAnswer_127 : decode cX6_keepAnswer 127 = .ok (.putfield 38, 3) := by decide +kernel
theorem dX6_keepAnswer_130 : decode cX6_keepAnswer 130 = .ok (.return_, 1) := by decide +kernel
theorem dX6_goesBefore_0 : decode cX6_goesBefore 0 = .ok (.aload_n 0, 1) := by decide +kernel
theorem dX6_goesBefore_1 : decode cX6_goesBefore 1 = .ok (.getfield 28, 3) := by decide +kernel
theorem dX6_goesBefore_4 : decode cX6_goesBefore 4 = .ok (.iload_n 2, 1) := by decide +kernel
theorem dX6_goesBefore_5 : decode cX6_goesBefore 5 = .ok (.iconst 4, 1) := by decide +kernel
theorem dX6_goesBefore_6 : decode cX6_goesBefore 6 = .ok (.imul, 1) := by decide +kernel
theorem dX6_goesBefore_7 : decode cX6_goesBefore 7 = .ok (.aload_n 1, 1) := by decide +kernel
theorem dX6_goesBefore_8 : decode cX6_goesBefore 8 = .ok (.getfield 184, 3) := by decide +kernel
theorem dX6_goesBefore_11 : decode cX6_goesBefore 11 = .ok (.iadd, 1) := by decide +kernel
theorem dX6_goesBefore_12 : decode cX6_goesBefore 12 = .ok (.iaload, 1) := by decide +kernel
theorem dX6_goesBefore_13 : decode cX6_goesBefore 13 = .ok (.istore 4, 2) := by decide +kernel
theorem dX6_goesBefore_15 : decode cX6_goesBefore 15 = .ok (.aload_n 0, 1) := by decide +kernel
theorem dX6_goesBefore_16 : decode cX6_goesBefore 16 = .ok (.getfield 28, 3) := by decide +kernel
theorem dX6_goesBefore_19 : decode cX6_goesBefore 19 = .ok (.iload_n 3, 1) := by decide +kernel
theorem dX6_goesBefore_20 : decode cX6_goesBefore 20 = .ok (.iconst 4, 1) := by decide +kernel
theorem dX6_goesBefore_21 : decode cX6_goesBefore 21 = .ok (.imul, 1) := by decide +kernel
theorem dX6_goesBefore_22 : decode cX6_goesBefore 22 = .ok (.aload_n 1, 1) := by decide +kernel
theorem dX6_goesBefore_23 : decode cX6_goesBefore 23 = .ok (.getfield 184, 3) := by decide +kernel
theorem dX6_goesBefore_26 : decode cX6_goesBefore 26 = .ok (.iadd, 1) := by decide +kernel
theorem dX6_goesBefore_27 : decode cX6_goesBefore 27 = .ok (.iaload, 1) := by decide +kernel
theorem dX6_goesBefore_28 : decode cX6_goesBefore 28 = .ok (.istore 5, 2) := by decide +kernel
theorem dX6_goesBefore_30 : decode cX6_goesBefore 30 = .ok (.aload_n 1, 1) := by decide +kernel
theorem dX6_goesBefore_31 : decode cX6_goesBefore 31 = .ok (.getfield 187, 3) := by decide +kernel
theorem dX6_goesBefore_34 : decode cX6_goesBefore 34 = .ok (.ifCond .eq 18, 3) := by decide +kernel
theorem dX6_goesBefore_37 : decode cX6_goesBefore 37 = .ok (.iload 4, 2) := by decide +kernel
theorem dX6_goesBefore_39 : decode cX6_goesBefore 39 = .ok (.iload 5, 2) := by decide +kernel
theorem dX6_goesBefore_41 : decode cX6_goesBefore 41 = .ok (.if_icmp .le 7, 3) := by decide +kernel
theorem dX6_goesBefore_44 : decode cX6_goesBefore 44 = .ok (.iconst 1, 1) := by decide +kernel
theorem dX6_goesBefore_45 : decode cX6_goesBefore 45 = .ok (.goto 19, 3) := by decide +kernel
theorem dX6_goesBefore_48 : decode cX6_goesBefore 48 = .ok (.iconst 0, 1) := by decide +kernel
theorem dX6_goesBefore_49 : decode cX6_goesBefore 49 = .ok (.goto 15, 3) := by decide +kernel
theorem dX6_goesBefore_52 : decode cX6_goesBefore 52 = .ok (.iload 4, 2) := by decide +kernel
theorem dX6_goesBefore_54 : decode cX6_goesBefore 54 = .ok (.iload 5, 2) := by decide +kernel
theorem dX6_goesBefore_56 : decode cX6_goesBefore 56 = .ok (.if_icmp .ge 7, 3) := by decide +kernel
theorem dX6_goesBefore_59 : decode cX6_goesBefore 59 = .ok (.iconst 1, 1) := by decide +kernel
theorem dX6_goesBefore_60 : decode cX6_goesBefore 60 = .ok (.goto 4, 3) := by decide +kernel
theorem dX6_goesBefore_63 : decode cX6_goesBefore 63 = .ok (.iconst 0, 1) := by decide +kernel
theorem dX6_goesBefore_64 : decode cX6_goesBefore 64 = .ok (.ireturn, 1) := by decide +kernel
end
section
theorem dX7_init_0 : decode cX7_init 0 = .ok (.aload_n 0, 1) := by decide +kernel
theorem dX7_init_1 : decode cX7_init 1 = .ok (.invokespecial 1, 3) := by decide +kernel
theorem dX7_init_4 : decode cX7_init 4 = .ok (.aload_n 0, 1) := by decide +kernel
theorem dX7_init_5 : decode cX7_init 5 = .ok (.iconst 3, 1) := by decide +kernel
theorem dX7_init_6 : decode cX7_init 6 = .ok (.anewarray 9, 3) := by decide +kernel
theorem dX7_init_9 : decode cX7_init 9 = .ok (.putfield 11, 3) := by decide +kernel
theorem dX7_init_12 : decode cX7_init 12 = .ok (.iconst 0, 1) := by decide +kernel
theorem dX7_init_13 : decode cX7_init 13 = .ok (.istore_n 1, 1) := by decide +kernel
theorem dX7_init_14 : decode cX7_init 14 = .ok (.iload_n 1, 1) := by decide +kernel
theorem dX7_init_15 : decode cX7_init 15 = .ok (.iconst 3, 1) := by decide +kernel
theorem dX7_init_16 : decode cX7_init 16 = .ok (.if_icmp .ge 22, 3) := by decide +kernel
theorem dX7_init_19 : decode cX7_init 19 = .ok (.aload_n 0, 1) := by decide +kernel
theorem dX7_init_20 : decode cX7_init 20 = .ok (.getfield 11, 3) := by decide +kernel
theorem dX7_init_23 : decode cX7_init 23 = .ok (.iload_n 1, 1) := by decide +kernel
theorem dX7_init_24 : decode cX7_init 24 = .ok (.new 9, 3) := by decide +kernel
theorem dX7_init_27 : decode cX7_init 27 = .ok (.dup, 1) := by decide +kernel
theorem dX7_init_28 : decode cX7_init 28 = .ok (.invokespecial 15, 3) := by decide +kernel
theorem dX7_init_31 : decode cX7_init 31 = .ok (.aastore, 1) := by decide +kernel
theorem dX7_init_32 : decode cX7_init 32 = .ok (.iinc 1 1, 3) := by decide +kernel
theorem dX7_init_35 : decode cX7_init 35 = .ok (.goto (-21), 3) := by decide +kernel
theorem dX7_init_38 : decode cX7_init 38 = .ok (.aload_n 0, 1) := by decide +kernel
theorem dX7_init_39 : decode cX7_init 39 = .ok (.new 16, 3) := by decide +kernel
theorem dX7_init_42 : decode cX7_init 42 = .ok (.dup, 1) := by decide +kernel
theorem dX7_init_43 : decode cX7_init 43 = .ok (.invokespecial 18, 3) := by decide +kernel
theorem dX7_init_46 : decode cX7_init 46 = .ok (.putfield 19, 3) := by decide +kernel
theorem dX7_init_49 : decode cX7_init 49 = .ok (.aload_n 0, 1) := by decide +kernel
theorem dX7_init_50 : decode cX7_init 50 = .ok (.new 23, 3) := by decide +kernel
theorem dX7_init_53 : decode cX7_init 53 = .ok (.dup, 1) := by decide +kernel
theorem dX7_init_54 : decode cX7_init 54 = .ok (.invokespecial 25, 3) := by decide +kernel
theorem dX7_init_57 : decode cX7_init 57 = .ok (.putfield 26, 3) := by decide +kernel
theorem dX7_init_60 : decode cX7_init 60 = .ok (.aload_n 0, 1) := by decide +kernel
theorem dX7_init_61 : decode cX7_init 61 = .ok (.new 30, 3) := by decide +kernel
theorem dX7_init_64 : decode cX7_init 64 = .ok (.dup, 1) := by decide +kernel
theorem dX7_init_65 : decode cX7_init 65 = .ok (.invokespecial 32, 3) := by decide +kernel
theorem dX7_init_68 : decode cX7_init 68 = .ok (.putfield 33, 3) := by decide +kernel
theorem dX7_init_71 : decode cX7_init 71 = .ok (.aload_n 0, 1) := by decide +kernel
theorem dX7_init_72 : decode cX7_init 72 = .ok (.iconst 0, 1) := by decide +kernel
theorem dX7_init_73 : decode cX7_init 73 = .ok (.putfield 37, 3) := by decide +kernel
theorem dX7_init_76 : decode cX7_init 76 = .ok (.return_, 1) := by decide +kernel
theorem dX7_create_0 : decode cX7_create 0 = .ok (.iload_n 1, 1) := by decide +kernel
theorem dX7_create_1 : decode cX7_create 1 = .ok (.ifCond .lt 18, 3) := by decide +kernel
theorem dX7_create_4 : decode cX7_create 4 = .ok (.iload_n 1, 1) := by decide +kernel
theorem dX7_create_5 : decode cX7_create 5 = .ok (.iconst 3, 1) := by decide +kernel
theorem dX7_create_6 : decode cX7_create 6 = .ok (.if_icmp .ge 13, 3) := by decide +kernel
theorem dX7_create_9 : decode cX7_create 9 = .ok (.iload_n 2, 1) := by decide +kernel
theorem dX7_create_10 : decode cX7_create 10 = .ok (.iconst 1, 1) := by decide +kernel
theorem dX7_create_11 : decode cX7_create 11 = .ok (.if_icmp .lt 8, 3) := by decide +kernel
theorem dX7_create_14 : decode cX7_create 14 = .ok (.iload_n 2, 1) := by decide +kernel
theorem dX7_create_15 : decode cX7_create 15 = .ok (.iconst 4, 1) := by decide +kernel
theorem dX7_create_16 : decode cX7_create 16 = .ok (.if_icmp .le 5, 3) := by decide +kernel
theorem dX7_create_19 : decode cX7_create 19 = .ok (.iconst 0, 1) := by decide +kernel
theorem dX7_create_20 : decode cX7_create 20 = .ok (.ireturn, 1) := by decide +kernel
theorem dX7_create_21 : decode cX7_create 21 = .ok (.aload_n 0, 1) := by decide +kernel
theorem dX7_create_22 : decode cX7_create 22 = .ok (.getfield 11, 3) := by decide +kernel
theorem dX7_create_25 : decode cX7_create 25 = .ok (.iload_n 1, 1) := by decide +kernel
theorem dX7_create_26 : decode cX7_create 26 = .ok (.aaload, 1) := by decide +kernel
theorem dX7_create_27 : decode cX7_create 27 = .ok (.iload_n 2, 1) := by decide +kernel
theorem dX7_create_28 : decode cX7_create 28 = .ok (.invokevirtual 41, 3) := by decide +kernel
theorem dX7_create_31 : decode cX7_create 31 = .ok (.aload_n 0, 1) := by decide +kernel
theorem dX7_create_32 : decode cX7_create 32 = .ok (.invokevirtual 45, 3) := by decide +kernel
theorem dX7_create_35 : decode cX7_create 35 = .ok (.iconst 1, 1) := by decide +kernel
theorem dX7_create_36 : decode cX7_create 36 = .ok (.ireturn, 1) := by decide +kernel
theorem dX7_insert_0 : decode cX7_insert 0 = .ok (.aload_n 0, 1) := by decide +kernel
theorem dX7_insert_1 : decode cX7_insert 1 = .ok (.iload_n 1, 1) := by decide +kernel
theorem dX7_insert_2 : decode cX7_insert 2 = .ok (.invokevirtual 48, 3) := by decide +kernel
theorem dX7_insert_5 : decode cX7_insert 5 = .ok (.ifCond .ne 13, 3) := by decide +kernel
theorem dX7_insert_8 : decode cX7_insert 8 = .ok (.new 52, 3) := by decide +kernel
theorem dX7_insert_11 : decode cX7_insert 11 = .ok (.dup, 1) := by decide +kernel
theorem dX7_insert_12 : decode cX7_insert 12 = .ok (.ldc 54, 2) := by decide +kernel
theorem dX7_insert_14 : decode cX7_insert 14 = .ok (.invokespecial 56, 3) := by decide +kernel
theorem dX7_insert_17 : decode cX7_insert 17 = .ok (.athrow, 1) := by decide +kernel
theorem dX7_insert_18 : decode cX7_insert 18 = .ok (.aload_n 0, 1) := by decide +kernel
theorem dX7_insert_19 : decode cX7_insert 19 = .ok (.getfield 11, 3) := by decide +kernel
theorem dX7_insert_22 : decode cX7_insert 22 = .ok (.iload_n 1, 1) := by decide +kernel
theorem dX7_insert_23 : decode cX7_insert 23 = .ok (.aaload, 1) := by decide +kernel
theorem dX7_insert_24 : decode cX7_insert 24 = .ok (.invokevirtual 59, 3) := by decide +kernel
theorem dX7_insert_27 : decode cX7_insert 27 = .ok (.ifCond .eq 13, 3) := by decide +kernel
theorem dX7_insert_30 : decode cX7_insert 30 = .ok (.new 63, 3) := by decide +kernel
theorem dX7_insert_33 : decode cX7_insert 33 = .ok (.dup, 1) := by decide +kernel
theorem dX7_insert_34 : decode cX7_insert 34 = .ok (.ldc 65, 2) := by decide +kernel
theorem dX7_insert_36 : decode cX7_insert 36 = .ok (.invokespecial 67, 3) := by decide +kernel
theorem dX7_insert_39 : decode cX7_insert 39 = .ok (.athrow, 1) := by decide +kernel
theorem dX7_insert_40 : decode cX7_insert 40 = .ok (.aload_n 0, 1) := by decide +kernel
theorem dX7_insert_41 : decode cX7_insert 41 = .ok (.invokevirtual 68, 3) := by decide +kernel
theorem dX7_insert_44 : decode cX7_insert 44 = .ok (.aload_n 0, 1) := by decide +kernel
theorem dX7_insert_45 : decode cX7_insert 45 = .ok (.getfield 11, 3) := by decide +kernel
theorem dX7_insert_48 : decode cX7_insert 48 = .ok (.iload_n 1, 1) := by decide +kernel
theorem dX7_insert_49 : decode cX7_insert 49 = .ok (.aaload, 1) := by decide +kernel
theorem dX7_insert_50 : decode cX7_insert 50 = .ok (.iload_n 2, 1) := by decide +kernel
theorem dX7_insert_51 : decode cX7_insert 51 = .ok (.iload_n 3, 1) := by decide +kernel
theorem dX7_insert_52 : decode cX7_insert 52 = .ok (.iload 4, 2) := by decide +kernel
theorem dX7_insert_54 : decode cX7_insert 54 = .ok (.iload 5, 2) := by decide +kernel
theorem dX7_insert_56 : decode cX7_insert 56 = .ok (.invokevirtual 71, 3) := by decide +kernel
theorem dX7_insert_59 : decode cX7_insert 59 = .ok (.ireturn, 1) := by decide +kernel
theorem dX7_delete_0 : decode cX7_delete 0 = .ok (.aload_n 0, 1) := by decide +kernel
theorem dX7_delete_1 : decode cX7_delete 1 = .ok (.iload_n 1, 1) := by decide +kernel
theorem dX7_delete_2 : decode cX7_delete 2 = .ok (.iload_n 2, 1) := by decide +kernel
theorem dX7_delete_3 : decode cX7_delete 3 = .ok (.invokevirtual 75, 3) := by decide +kernel
theorem dX7_delete_6 : decode cX7_delete 6 = .ok (.ifCond .ne 13, 3) := by decide +kernel
theorem dX7_delete_9 : decode cX7_delete 9 = .ok (.new 52, 3) := by decide +kernel
theorem dX7_delete_12 : decode cX7_delete 12 = .ok (.dup, 1) := by decide +kernel
theorem dX7_delete_13 : decode cX7_delete 13 = .ok (.ldc 79, 2) := by decide +kernel
theorem dX7_delete_15 : decode cX7_delete 15 = .ok (.invokespecial 56, 3) := by decide +kernel
theorem dX7_delete_18 : decode cX7_delete 18 = .ok (.athrow, 1) := by decide +kernel
theorem dX7_delete_19 : decode cX7_delete 19 = .ok (.aload_n 0, 1) := by decide +kernel
theorem dX7_delete_20 : decode cX7_delete 20 = .ok (.invokevirtual 68, 3) := by decide +kernel
theorem dX7_delete_23 : decode cX7_delete 23 = .ok (.aload_n 0, 1) := by decide +kernel
theorem dX7_delete_24 : decode cX7_delete 24 = .ok (.getfield 11, 3) := by decide +kernel
theorem dX7_delete_27 : decode cX7_delete 27 = .ok (.iload_n 1, 1) := by decide +kernel
theorem dX7_delete_28 : decode cX7_delete 28 = .ok (.aaload, 1) := by decide +kernel
theorem dX7_delete_29 : decode cX7_delete 29 = .ok (.aload_n 0, 1) := by decide +kernel
theorem dX7_delete_30 : decode cX7_delete 30 = .ok (.getfield 11, 3) := by decide +kernel
theorem dX7_delete_33 : decode cX7_delete 33 = .ok (.iload_n 1, 1) := by decide +kernel
theorem dX7_delete_34 : decode cX7_delete 34 = .ok (.aaload, 1) := by decide +kernel
theorem dX7_delete_35 : decode cX7_delete 35 = .ok (.iload_n 2, 1) := by decide +kernel
theorem dX7_delete_36 : decode cX7_delete 36 = .ok (.invokevirtual 81, 3) := by decide +kernel
theorem dX7_delete_39 : decode cX7_delete 39 = .ok (.invokevirtual 85, 3) := by decide +kernel
theorem dX7_delete_42 : decode cX7_delete 42 = .ok (.return_, 1) := by decide +kernel
theorem dX7_update_0 : decode cX7_update 0 = .ok (.aload_n 0, 1) := by decide +kernel
theorem dX7_update_1 : decode cX7_update 1 = .ok (.iload_n 1, 1) := by decide +kernel
theorem dX7_update_2 : decode cX7_update 2 = .ok (.iload_n 2, 1) := by decide +kernel
theorem dX7_update_3 : decode cX7_update 3 = .ok (.invokevirtual 75, 3) := by decide +kernel
theorem dX7_update_6 : decode cX7_update 6 = .ok (.ifCond .eq 12, 3) := by decide +kernel
theorem dX7_update_9 : decode cX7_update 9 = .ok (.aload_n 0, 1) := by decide +kernel
theorem dX7_update_10 : decode cX7_update 10 = .ok (.iload_n 1, 1) := by decide +kernel
theorem dX7_update_11 : decode cX7_update 11 = .ok (.iload_n 3, 1) := by decide +kernel
theorem dX7_update_12 : decode cX7_update 12 = .ok (.invokevirtual 88, 3) := by decide +kernel
theorem dX7_update_15 : decode cX7_update 15 = .ok (.ifCond .ne 13, 3) := by decide +kernel
theorem dX7_update_18 : decode cX7_update 18 = .ok (.new 52, 3) := by decide +kernel
theorem dX7_update_21 : decode cX7_update 21 = .ok (.dup, 1) := by decide +kernel
theorem dX7_update_22 : decode cX7_update 22 = .ok (.ldc 91, 2) := by decide +kernel
theorem dX7_update_24 : decode cX7_update 24 = .ok (.invokespecial 56, 3) := by decide +kernel
theorem dX7_update_27 : decode cX7_update 27 = .ok (.athrow, 1) := by decide +kernel
theorem dX7_update_28 : decode cX7_update 28 = .ok (.aload_n 0, 1) := by decide +kernel
theorem dX7_update_29 : decode cX7_update 29 = .ok (.invokevirtual 68, 3) := by decide +kernel
theorem dX7_update_32 : decode cX7_update 32 = .ok (.aload_n 0, 1) := by decide +kernel
theorem dX7_update_33 : decode cX7_update 33 = .ok (.getfield 11, 3) := by decide +kernel
theorem dX7_update_36 : decode cX7_update 36 = .ok (.iload_n 1, 1) := by decide +kernel
theorem dX7_update_37 : decode cX7_update 37 = .ok (.aaload, 1) := by decide +kernel
theorem dX7_update_38 : decode cX7_update 38 = .ok (.aload_n 0, 1) := by decide +kernel
theorem dX7_update_39 : decode cX7_update 39 = .ok (.getfield 11, 3) := by decide +kernel
theorem dX7_update_42 : decode cX7_update 42 = .ok (.iload_n 1, 1) := by decide +kernel
theorem dX7_update_43 : decode cX7_update 43 = .ok (.aaload, 1) := by decide +kernel
theorem dX7_update_44 : decode cX7_update 44 = .ok (.iload_n 2, 1) := by decide +kernel
theorem dX7_update_45 : decode cX7_update 45 = .ok (.invokevirtual 81, 3) := by decide +kernel
theorem dX7_update_48 : decode cX7_update 48 = .ok (.iload_n 3, 1) := by decide +kernel
theorem dX7_update_49 : decode cX7_update 49 = .ok (.iload 4, 2) := by decide +kernel
theorem dX7_update_51 : decode cX7_update 51 = .ok (.invokevirtual 93, 3) := by decide +kernel
theorem dX7_update_54 : decode cX7_update 54 = .ok (.return_, 1) := by decide +kernel
theorem dX7_cell_0 : decode cX7_cell 0 = .ok (.aload_n 0, 1) := by decide +kernel
theorem dX7_cell_1 : decode cX7_cell 1 = .ok (.iload_n 1, 1) := by decide +kernel
theorem dX7_cell_2 : decode cX7_cell 2 = .ok (.iload_n 2, 1) := by decide +kernel
theorem dX7_cell_3 : decode cX7_cell 3 = .ok (.invokevirtual 75, 3) := by decide +kernel
theorem dX7_cell_6 : decode cX7_cell 6 = .ok (.ifCond .eq 12, 3) := by decide +kernel
theorem dX7_cell_9 : decode cX7_cell 9 = .ok (.aload_n 0, 1) := by decide +kernel
theorem dX7_cell_10 : decode cX7_cell 10 = .ok (.iload_n 1, 1) := by decide +kernel
theorem dX7_cell_11 : decode cX7_cell 11 = .ok (.iload_n 3, 1) := by decide +kernel
theorem dX7_cell_12 : decode cX7_cell 12 = .ok (.invokevirtual 88, 3) := by decide +kernel
theorem dX7_cell_15 : decode cX7_cell 15 = .ok (.ifCond .ne 13, 3) := by decide +kernel
theorem dX7_cell_18 : decode cX7_cell 18 = .ok (.new 52, 3) := by decide +kernel
theorem dX7_cell_21 : decode cX7_cell 21 = .ok (.dup, 1) := by decide +kernel
theorem dX7_cell_22 : decode cX7_cell 22 = .ok (.ldc 91, 2) := by decide +kernel
theorem dX7_cell_24 : decode cX7_cell 24 = .ok (.invokespecial 56, 3) := by decide +kernel
theorem dX7_cell_27 : decode cX7_cell 27 = .ok (.athrow, 1) := by decide +kernel
theorem dX7_cell_28 : decode cX7_cell 28 = .ok (.aload_n 0, 1) := by decide +kernel
theorem dX7_cell_29 : decode cX7_cell 29 = .ok (.getfield 11, 3) := by decide +kernel
theorem dX7_cell_32 : decode cX7_cell 32 = .ok (.iload_n 1, 1) := by decide +kernel
theorem dX7_cell_33 : decode cX7_cell 33 = .ok (.aaload, 1) := by decide +kernel
theorem dX7_cell_34 : decode cX7_cell 34 = .ok (.aload_n 0, 1) := by decide +kernel
theorem dX7_cell_35 : decode cX7_cell 35 = .ok (.getfield 11, 3) := by decide +kernel
theorem dX7_cell_38 : decode cX7_cell 38 = .ok (.iload_n 1, 1) := by decide +kernel
theorem dX7_cell_39 : decode cX7_cell 39 = .ok (.aaload, 1) := by decide +kernel
theorem dX7_cell_40 : decode cX7_cell 40 = .ok (.iload_n 2, 1) := by decide +kernel
theorem dX7_cell_41 : decode cX7_cell 41 = .ok (.invokevirtual 81, 3) := by decide +kernel
theorem dX7_cell_44 : decode cX7_cell 44 = .ok (.iload_n 3, 1) := by decide +kernel
theorem dX7_cell_45 : decode cX7_cell 45 = .ok (.invokevirtual 97, 3) := by decide +kernel
theorem dX7_cell_48 : decode cX7_cell 48 = .ok (.ireturn, 1) := by decide +kernel
theorem dX7_index_0 : decode cX7_index 0 = .ok (.aload_n 0, 1) := by decide +kernel
theorem dX7_index_1 : decode cX7_index 1 = .ok (.iload_n 1, 1) := by decide +kernel
theorem dX7_index_2 : decode cX7_index 2 = .ok (.iload_n 2, 1) := by decide +kernel
theorem dX7_index_3 : decode cX7_index 3 = .ok (.invokevirtual 88, 3) := by decide +kernel
theorem dX7_index_6 : decode cX7_index 6 = .ok (.ifCond .eq 24, 3) := by decide +kernel
theorem dX7_index_9 : decode cX7_index 9 = .ok (.iload_n 3, 1) := by decide +kernel
theorem dX7_index_10 : decode cX7_index 10 = .ok (.invokestatic 101, 3) := by decide +kernel
theorem dX7_index_13 : decode cX7_index 13 = .ok (.ifCond .eq 17, 3) := by decide +kernel
theorem dX7_index_16 : decode cX7_index 16 = .ok (.aload_n 0, 1) := by decide +kernel
theorem dX7_index_17 : decode cX7_index 17 = .ok (.getfield 11, 3) := by decide +kernel
theorem dX7_index_20 : decode cX7_index 20 = .ok (.iload_n 1, 1) := by decide +kernel
theorem dX7_index_21 : decode cX7_index 21 = .ok (.aaload, 1) := by decide +kernel
theorem dX7_index_22 : decode cX7_index 22 = .ok (.iload_n 2, 1) := by decide +kernel
theorem dX7_index_23 : decode cX7_index 23 = .ok (.iload_n 3, 1) := by decide +kernel
theorem dX7_index_24 : decode cX7_index 24 = .ok (.invokevirtual 104, 3) := by decide +kernel
theorem dX7_index_27 : decode cX7_index 27 = .ok (.ifCond .eq 5, 3) := by decide +kernel
theorem dX7_index_30 : decode cX7_index 30 = .ok (.iconst 0, 1) := by decide +kernel
theorem dX7_index_31 : decode cX7_index 31 = .ok (.ireturn, 1) := by decide +kernel
theorem dX7_index_32 : decode cX7_index 32 = .ok (.aload_n 0, 1) := by decide +kernel
theorem dX7_index_33 : decode cX7_index 33 = .ok (.invokevirtual 68, 3) := by decide +kernel
theorem dX7_index_36 : decode cX7_index 36 = .ok (.aload_n 0, 1) := by decide +kernel
theorem dX7_index_37 : decode cX7_index 37 = .ok (.getfield 11, 3) := by decide +kernel
theorem dX7_index_40 : decode cX7_index 40 = .ok (.iload_n 1, 1) := by decide +kernel
theorem dX7_index_41 : decode cX7_index 41 = .ok (.aaload, 1) := by decide +kernel
theorem dX7_index_42 : decode cX7_index 42 = .ok (.iload_n 2, 1) := by decide +kernel
theorem dX7_index_43 : decode cX7_index 43 = .ok (.iload_n 3, 1) := by decide +kernel
theorem dX7_index_44 : decode cX7_index 44 = .ok (.iconst 1, 1) := by decide +kernel
theorem dX7_index_45 : decode cX7_index 45 = .ok (.invokevirtual 107, 3) := by decide +kernel
theorem dX7_index_48 : decode cX7_index 48 = .ok (.iconst 1, 1) := by decide +kernel
theorem dX7_index_49 : decode cX7_index 49 = .ok (.ireturn, 1) := by decide +kernel
theorem dX7_drop_0 : decode cX7_drop 0 = .ok (.aload_n 0, 1) := by decide +kernel
theorem dX7_drop_1 : decode cX7_drop 1 = .ok (.iload_n 1, 1) := by decide +kernel
theorem dX7_drop_2 : decode cX7_drop 2 = .ok (.iload_n 2, 1) := by decide +kernel
theorem dX7_drop_3 : decode cX7_drop 3 = .ok (.invokevirtual 88, 3) := by decide +kernel
theorem dX7_drop_6 : decode cX7_drop 6 = .ok (.ifCond .eq 24, 3) := by decide +kernel
theorem dX7_drop_9 : decode cX7_drop 9 = .ok (.iload_n 3, 1) := by decide +kernel
theorem dX7_drop_10 : decode cX7_drop 10 = .ok (.invokestatic 101, 3) := by decide +kernel
theorem dX7_drop_13 : decode cX7_drop 13 = .ok (.ifCond .eq 17, 3) := by decide +kernel
theorem dX7_drop_16 : decode cX7_drop 16 = .ok (.aload_n 0, 1) := by decide +kernel
theorem dX7_drop_17 : decode cX7_drop 17 = .ok (.getfield 11, 3) := by decide +kernel
theorem dX7_drop_20 : decode cX7_drop 20 = .ok (.iload_n 1, 1) := by decide +kernel
theorem dX7_drop_21 : decode cX7_drop 21 = .ok (.aaload, 1) := by decide +kernel
theorem dX7_drop_22 : decode cX7_drop 22 = .ok (.iload_n 2, 1) := by decide +kernel
theorem dX7_drop_23 : decode cX7_drop 23 = .ok (.iload_n 3, 1) := by decide +kernel
theorem dX7_drop_24 : decode cX7_drop 24 = .ok (.invokevirtual 104, 3) := by decide +kernel
theorem dX7_drop_27 : decode cX7_drop 27 = .ok (.ifCond .ne 5, 3) := by decide +kernel
theorem dX7_drop_30 : decode cX7_drop 30 = .ok (.iconst 0, 1) := by decide +kernel
theorem dX7_drop_31 : decode cX7_drop 31 = .ok (.ireturn, 1) := by decide +kernel
theorem dX7_drop_32 : decode cX7_drop 32 = .ok (.aload_n 0, 1) := by decide +kernel
theorem dX7_drop_33 : decode cX7_drop 33 = .ok (.invokevirtual 68, 3) := by decide +kernel
theorem dX7_drop_36 : decode cX7_drop 36 = .ok (.aload_n 0, 1) := by decide +kernel
theorem dX7_drop_37 : decode cX7_drop 37 = .ok (.getfield 11, 3) := by decide +kernel
theorem dX7_drop_40 : decode cX7_drop 40 = .ok (.iload_n 1, 1) := by decide +kernel
theorem dX7_drop_41 : decode cX7_drop 41 = .ok (.aaload, 1) := by decide +kernel
theorem dX7_drop_42 : decode cX7_drop 42 = .ok (.iload_n 2, 1) := by decide +kernel
theorem dX7_drop_43 : decode cX7_drop 43 = .ok (.iload_n 3, 1) := by decide +kernel
theorem dX7_drop_44 : decode cX7_drop 44 = .ok (.iconst 0, 1) := by decide +kernel
theorem dX7_drop_45 : decode cX7_drop 45 = .ok (.invokevirtual 107, 3) := by decide +kernel
theorem dX7_drop_48 : decode cX7_drop 48 = .ok (.iconst 1, 1) := by decide +kernel
theorem dX7_drop_49 : decode cX7_drop 49 = .ok (.ireturn, 1) := by decide +kernel
theorem dX7_ask_0 : decode cX7_ask 0 = .ok (.aload_n 0, 1) := by decide +kernel
theorem dX7_ask_1 : decode cX7_ask 1 = .ok (.invokevirtual 45, 3) := by decide +kernel
theorem dX7_ask_4 : decode cX7_ask 4 = .ok (.return_, 1) := by decide +kernel
theorem dX7_from_0 : decode cX7_from 0 = .ok (.aload_n 0, 1) := by decide +kernel
theorem dX7_from_1 : decode cX7_from 1 = .ok (.getfield 37, 3) := by decide +kernel
theorem dX7_from_4 : decode cX7_from 4 = .ok (.ifCond .ne 22, 3) := by decide +kernel
theorem dX7_from_7 : decode cX7_from 7 = .ok (.aload_n 0, 1) := by decide +kernel
theorem dX7_from_8 : decode cX7_from 8 = .ok (.iload_n 1, 1) := by decide +kernel
theorem dX7_from_9 : decode cX7_from 9 = .ok (.invokevirtual 48, 3) := by decide +kernel
theorem dX7_from_12 : decode cX7_from 12 = .ok (.ifCond .eq 14, 3) := by decide +kernel
theorem dX7_from_15 : decode cX7_from 15 = .ok (.aload_n 0, 1) := by decide +kernel
theorem dX7_from_16 : decode cX7_from 16 = .ok (.getfield 19, 3) := by decide +kernel
theorem dX7_from_19 : decode cX7_from 19 = .ok (.getfield 111, 3) := by decide +kernel
theorem dX7_from_22 : decode cX7_from 22 = .ok (.iconst 3, 1) := by decide +kernel
theorem dX7_from_23 : decode cX7_from 23 = .ok (.if_icmp .lt 5, 3) := by decide +kernel
theorem dX7_from_26 : decode cX7_from 26 = .ok (.iconst (-1), 1) := by decide +kernel
theorem dX7_from_27 : decode cX7_from 27 = .ok (.ireturn, 1) := by decide +kernel
theorem dX7_from_28 : decode cX7_from 28 = .ok (.aload_n 0, 1) := by decide +kernel
theorem dX7_from_29 : decode cX7_from 29 = .ok (.getfield 19, 3) := by decide +kernel
theorem dX7_from_32 : decode cX7_from 32 = .ok (.aload_n 0, 1) := by decide +kernel
theorem dX7_from_33 : decode cX7_from 33 = .ok (.getfield 11, 3) := by decide +kernel
theorem dX7_from_36 : decode cX7_from 36 = .ok (.iload_n 1, 1) := by decide +kernel
theorem dX7_from_37 : decode cX7_from 37 = .ok (.aaload, 1) := by decide +kernel
theorem dX7_from_38 : decode cX7_from 38 = .ok (.invokevirtual 114, 3) := by decide +kernel
theorem dX7_from_41 : decode cX7_from 41 = .ok (.ireturn, 1) := by decide +kernel
theorem dX7_where_0 : decode cX7_where 0 = .ok (.aload_n 0, 1) := by decide +kernel
theorem dX7_where_1 : decode cX7_where 1 = .ok (.getfield 37, 3) := by decide +kernel
theorem dX7_where_4 : decode cX7_where 4 = .ok (.ifCond .ne 35, 3) := by decide +kernel
theorem dX7_where_7 : decode cX7_where 7 = .ok (.aload_n 0, 1) := by decide +kernel
theorem dX7_where_8 : decode cX7_where 8 = .ok (.getfield 19, 3) := by decide +kernel
theorem dX7_where_11 : decode cX7_where 11 = .ok (.iload_n 1, 1) := by decide +kernel
theorem dX7_where_12 : decode cX7_where 12 = .ok (.iload_n 2, 1) := by decide +kernel
theorem dX7_where_13 : decode cX7_where 13 = .ok (.invokevirtual 118, 3) := by decide +kernel
theorem dX7_where_16 : decode cX7_where 16 = .ok (.ifCond .eq 23, 3) := by decide +kernel
theorem dX7_where_19 : decode cX7_where 19 = .ok (.iload_n 3, 1) := by decide +kernel
theorem dX7_where_20 : decode cX7_where 20 = .ok (.ifCond .lt 19, 3) := by decide +kernel
theorem dX7_where_23 : decode cX7_where 23 = .ok (.iload_n 3, 1) := by decide +kernel
theorem dX7_where_24 : decode cX7_where 24 = .ok (.iconst 3, 1) := by decide +kernel
theorem dX7_where_25 : decode cX7_where 25 = .ok (.if_icmp .gt 14, 3) := by decide +kernel
theorem dX7_where_28 : decode cX7_where 28 = .ok (.aload_n 0, 1) := by decide +kernel
theorem dX7_where_29 : decode cX7_where 29 = .ok (.getfield 19, 3) := by decide +kernel
theorem dX7_where_32 : decode cX7_where 32 = .ok (.getfield 119, 3) := by decide +kernel
theorem dX7_where_35 : decode cX7_where 35 = .ok (.iconst 4, 1) := by decide +kernel
theorem dX7_where_36 : decode cX7_where 36 = .ok (.if_icmp .lt 5, 3) := by decide +kernel
theorem dX7_where_39 : decode cX7_where 39 = .ok (.iconst 0, 1) := by decide +kernel
theorem dX7_where_40 : decode cX7_where 40 = .ok (.ireturn, 1) := by decide +kernel
theorem dX7_where_41 : decode cX7_where 41 = .ok (.aload_n 0, 1) := by decide +kernel
theorem dX7_where_42 : decode cX7_where 42 = .ok (.getfield 19, 3) := by decide +kernel
theorem dX7_where_45 : decode cX7_where 45 = .ok (.iload_n 1, 1) := by decide +kernel
theorem dX7_where_46 : decode cX7_where 46 = .ok (.iload_n 2, 1) := by decide +kernel
theorem dX7_where_47 : decode cX7_where 47 = .ok (.iload_n 3, 1) := by decide +kernel
theorem dX7_where_48 : decode cX7_where 48 = .ok (.iload 4, 2) := by decide +kernel
theorem dX7_where_50 : decode cX7_where 50 = .ok (.invokevirtual 122, 3) := by decide +kernel
theorem dX7_where_53 : decode cX7_where 53 = .ok (.iconst 1, 1) := by decide +kernel
theorem dX7_where_54 : decode cX7_where 54 = .ok (.ireturn, 1) := by decide +kernel
theorem dX7_join_0 : decode cX7_join 0 = .ok (.aload_n 0, 1) := by decide +kernel
theorem dX7_join_1 : decode cX7_join 1 = .ok (.getfield 37, 3) := by decide +kernel
theorem dX7_join_4 : decode cX7_join 4 = .ok (.ifCond .ne 44, 3) := by decide +kernel
theorem dX7_join_7 : decode cX7_join 7 = .ok (.aload_n 0, 1) := by decide +kernel
theorem dX7_join_8 : decode cX7_join 8 = .ok (.getfield 19, 3) := by decide +kernel
theorem dX7_join_11 : decode cX7_join 11 = .ok (.iload_n 1, 1) := by decide +kernel
theorem dX7_join_12 : decode cX7_join 12 = .ok (.iload_n 2, 1) := by decide +kernel
theorem dX7_join_13 : decode cX7_join 13 = .ok (.invokevirtual 118, 3) := by decide +kernel
theorem dX7_join_16 : decode cX7_join 16 = .ok (.ifCond .eq 32, 3) := by decide +kernel
theorem dX7_join_19 : decode cX7_join 19 = .ok (.aload_n 0, 1) := by decide +kernel
theorem dX7_join_20 : decode cX7_join 20 = .ok (.getfield 19, 3) := by decide +kernel
theorem dX7_join_23 : decode cX7_join 23 = .ok (.iload_n 3, 1) := by decide +kernel
theorem dX7_join_24 : decode cX7_join 24 = .ok (.iload 4, 2) := by decide +kernel
theorem dX7_join_26 : decode cX7_join 26 = .ok (.invokevirtual 118, 3) := by decide +kernel
theorem dX7_join_29 : decode cX7_join 29 = .ok (.ifCond .eq 19, 3) := by decide +kernel
theorem dX7_join_32 : decode cX7_join 32 = .ok (.iload_n 1, 1) := by decide +kernel
theorem dX7_join_33 : decode cX7_join 33 = .ok (.iload_n 3, 1) := by decide +kernel
theorem dX7_join_34 : decode cX7_join 34 = .ok (.if_icmp .eq 14, 3) := by decide +kernel
theorem dX7_join_37 : decode cX7_join 37 = .ok (.aload_n 0, 1) := by decide +kernel
theorem dX7_join_38 : decode cX7_join 38 = .ok (.getfield 19, 3) := by decide +kernel
theorem dX7_join_41 : decode cX7_join 41 = .ok (.getfield 126, 3) := by decide +kernel
theorem dX7_join_44 : decode cX7_join 44 = .ok (.iconst 3, 1) := by decide +kernel
theorem dX7_join_45 : decode cX7_join 45 = .ok (.if_icmp .lt 5, 3) := by decide +kernel
theorem dX7_join_48 : decode cX7_join 48 = .ok (.iconst 0, 1) := by decide +kernel
theorem dX7_join_49 : decode cX7_join 49 = .ok (.ireturn, 1) := by decide +kernel
theorem dX7_join_50 : decode cX7_join 50 = .ok (.aload_n 0, 1) := by decide +kernel
theorem dX7_join_51 : decode cX7_join 51 = .ok (.getfield 19, 3) := by decide +kernel
theorem dX7_join_54 : decode cX7_join 54 = .ok (.iload_n 1, 1) := by decide +kernel
theorem dX7_join_55 : decode cX7_join 55 = .ok (.iload_n 2, 1) := by decide +kernel
theorem dX7_join_56 : decode cX7_join 56 = .ok (.iload_n 3, 1) := by decide +kernel
theorem dX7_join_57 : decode cX7_join 57 = .ok (.iload 4, 2) := by decide +kernel
theorem dX7_join_59 : decode cX7_join 59 = .ok (.invokevirtual 129, 3) := by decide +kernel
theorem dX7_join_62 : decode cX7_join 62 = .ok (.iconst 1, 1) := by decide +kernel
theorem dX7_join_63 : decode cX7_join 63 = .ok (.ireturn, 1) := by decide +kernel
theorem dX7_select_0 : decode cX7_select 0 = .ok (.aload_n 0, 1) := by decide +kernel
theorem dX7_select_1 : decode cX7_select 1 = .ok (.getfield 37, 3) := by decide +kernel
theorem dX7_select_4 : decode cX7_select 4 = .ok (.ifCond .ne 26, 3) := by decide +kernel
theorem dX7_select_7 : decode cX7_select 7 = .ok (.aload_n 0, 1) := by decide +kernel
theorem dX7_select_8 : decode cX7_select 8 = .ok (.getfield 19, 3) := by decide +kernel
theorem dX7_select_11 : decode cX7_select 11 = .ok (.iload_n 1, 1) := by decide +kernel
theorem dX7_select_12 : decode cX7_select 12 = .ok (.iload_n 2, 1) := by decide +kernel
theorem dX7_select_13 : decode cX7_select 13 = .ok (.invokevirtual 118, 3) := by decide +kernel
theorem dX7_select_16 : decode cX7_select 16 = .ok (.ifCond .eq 14, 3) := by decide +kernel
theorem dX7_select_19 : decode cX7_select 19 = .ok (.aload_n 0, 1) := by decide +kernel
theorem dX7_select_20 : decode cX7_select 20 = .ok (.getfield 19, 3) := by decide +kernel
theorem dX7_select_23 : decode cX7_select 23 = .ok (.getfield 132, 3) := by decide +kernel
theorem dX7_select_26 : decode cX7_select 26 = .ok (.iconst 4, 1) := by decide +kernel
theorem dX7_select_27 : decode cX7_select 27 = .ok (.if_icmp .lt 5, 3) := by decide +kernel
theorem dX7_select_30 : decode cX7_select 30 = .ok (.iconst (-1), 1) := by decide +kernel
theorem dX7_select_31 : decode cX7_select 31 = .ok (.ireturn, 1) := by decide +kernel
theorem dX7_select_32 : decode cX7_select 32 = .ok (.aload_n 0, 1) := by decide +kernel
theorem dX7_select_33 : decode cX7_select 33 = .ok (.getfield 19, 3) := by decide +kernel
theorem dX7_select_36 : decode cX7_select 36 = .ok (.iload_n 1, 1) := by decide +kernel
theorem dX7_select_37 : decode cX7_select 37 = .ok (.iload_n 2, 1) := by decide +kernel
theorem dX7_select_38 : decode cX7_select 38 = .ok (.invokevirtual 135, 3) := by decide +kernel
theorem dX7_select_41 : decode cX7_select 41 = .ok (.ireturn, 1) := by decide +kernel
theorem dX7_order_0 : decode cX7_order 0 = .ok (.aload_n 0, 1) := by decide +kernel
theorem dX7_order_1 : decode cX7_order 1 = .ok (.getfield 37, 3) := by decide +kernel
theorem dX7_order_4 : decode cX7_order 4 = .ok (.ifCond .ne 18, 3) := by decide +kernel
theorem dX7_order_7 : decode cX7_order 7 = .ok (.iload_n 1, 1) := by decide +kernel
theorem dX7_order_8 : decode cX7_order 8 = .ok (.ifCond .lt 14, 3) := by decide +kernel
theorem dX7_order_11 : decode cX7_order 11 = .ok (.iload_n 1, 1) := by decide +kernel
theorem dX7_order_12 : decode cX7_order 12 = .ok (.aload_n 0, 1) := by decide +kernel
theorem dX7_order_13 : decode cX7_order 13 = .ok (.getfield 19, 3) := by decide +kernel
theorem dX7_order_16 : decode cX7_order 16 = .ok (.getfield 132, 3) := by decide +kernel
theorem dX7_order_19 : decode cX7_order 19 = .ok (.if_icmp .lt 5, 3) := by decide +kernel
theorem dX7_order_22 : decode cX7_order 22 = .ok (.iconst 0, 1) := by decide +kernel
theorem dX7_order_23 : decode cX7_order 23 = .ok (.ireturn, 1) := by decide +kernel
theorem dX7_order_24 : decode cX7_order 24 = .ok (.aload_n 0, 1) := by decide +kernel
theorem dX7_order_25 : decode cX7_order 25 = .ok (.getfield 19, 3) := by decide +kernel
theorem dX7_order_28 : decode cX7_order 28 = .ok (.iload_n 1, 1) := by decide +kernel
theorem dX7_order_29 : decode cX7_order 29 = .ok (.putfield 138, 3) := by decide +kernel
theorem dX7_order_32 : decode cX7_order 32 = .ok (.aload_n 0, 1) := by decide +kernel
theorem dX7_order_33 : decode cX7_order 33 = .ok (.getfield 19, 3) := by decide +kernel
theorem dX7_order_36 : decode cX7_order 36 = .ok (.iload_n 2, 1) := by decide +kernel
theorem dX7_order_37 : decode cX7_order 37 = .ok (.putfield 141, 3) := by decide +kernel
theorem dX7_order_40 : decode cX7_order 40 = .ok (.iconst 1, 1) := by decide +kernel
theorem dX7_order_41 : decode cX7_order 41 = .ok (.ireturn, 1) := by decide +kernel
theorem dX7_limit_0 : decode cX7_limit 0 = .ok (.aload_n 0, 1) := by decide +kernel
theorem dX7_limit_1 : decode cX7_limit 1 = .ok (.getfield 37, 3) := by decide +kernel
theorem dX7_limit_4 : decode cX7_limit 4 = .ok (.ifCond .ne 14, 3) := by decide +kernel
theorem dX7_limit_7 : decode cX7_limit 7 = .ok (.iload_n 1, 1) := by decide +kernel
theorem dX7_limit_8 : decode cX7_limit 8 = .ok (.iconst 1, 1) := by decide +kernel
theorem dX7_limit_9 : decode cX7_limit 9 = .ok (.if_icmp .lt 9, 3) := by decide +kernel
theorem dX7_limit_12 : decode cX7_limit 12 = .ok (.iload_n 1, 1) := by decide +kernel
theorem dX7_limit_13 : decode cX7_limit 13 = .ok (.bipush 64, 2) := by decide +kernel
theorem dX7_limit_15 : decode cX7_limit 15 = .ok (.if_icmp .le 5, 3) := by decide +kernel
theorem dX7_limit_18 : decode cX7_limit 18 = .ok (.iconst 0, 1) := by decide +kernel
theorem dX7_limit_19 : decode cX7_limit 19 = .ok (.ireturn, 1) := by decide +kernel
theorem dX7_limit_20 : decode cX7_limit 20 = .ok (.aload_n 0, 1) := by decide +kernel
theorem dX7_limit_21 : decode cX7_limit 21 = .ok (.getfield 19, 3) := by decide +kernel
theorem dX7_limit_24 : decode cX7_limit 24 = .ok (.iload_n 1, 1) := by decide +kernel
theorem dX7_limit_25 : decode cX7_limit 25 = .ok (.putfield 145, 3) := by decide +kernel
theorem dX7_limit_28 : decode cX7_limit 28 = .ok (.iconst 1, 1) := by decide +kernel
theorem dX7_limit_29 : decode cX7_limit 29 = .ok (.ireturn, 1) := by decide +kernel
theorem dX7_plan_0 : decode cX7_plan 0 = .ok (.aload_n 0, 1) := by decide +kernel
theorem dX7_plan_1 : decode cX7_plan 1 = .ok (.getfield 37, 3) := by decide +kernel
theorem dX7_plan_4 : decode cX7_plan 4 = .ok (.ifCond .ne 23, 3) := by decide +kernel
theorem dX7_plan_7 : decode cX7_plan 7 = .ok (.aload_n 0, 1) := by decide +kernel
theorem dX7_plan_8 : decode cX7_plan 8 = .ok (.getfield 19, 3) := by decide +kernel
theorem dX7_plan_11 : decode cX7_plan 11 = .ok (.getfield 111, 3) := by decide +kernel
theorem dX7_plan_14 : decode cX7_plan 14 = .ok (.ifCond .eq 13, 3) := by decide +kernel
theorem dX7_plan_17 : decode cX7_plan 17 = .ok (.aload_n 0, 1) := by decide +kernel
theorem dX7_plan_18 : decode cX7_plan 18 = .ok (.getfield 19, 3) := by decide +kernel
theorem dX7_plan_21 : decode cX7_plan 21 = .ok (.getfield 132, 3) := by decide +kernel
theorem dX7_plan_24 : decode cX7_plan 24 = .ok (.ifCond .ne 13, 3) := by decide +kernel
theorem dX7_plan_27 : decode cX7_plan 27 = .ok (.new 63, 3) := by decide +kernel
theorem dX7_plan_30 : decode cX7_plan 30 = .ok (.dup, 1) := by decide +kernel
theorem dX7_plan_31 : decode cX7_plan 31 = .ok (.ldc 148, 2) := by decide +kernel
theorem dX7_plan_33 : decode cX7_plan 33 = .ok (.invokespecial 67, 3) := by decide +kernel
theorem dX7_plan_36 : decode cX7_plan 36 = .ok (.athrow, 1) := by decide +kernel
theorem dX7_plan_37 : decode cX7_plan 37 = .ok (.aload_n 0, 1) := by decide +kernel
theorem dX7_plan_38 : decode cX7_plan 38 = .ok (.getfield 26, 3) := by decide +kernel
theorem dX7_plan_41 : decode cX7_plan 41 = .ok (.aload_n 0, 1) := by decide +kernel
theorem dX7_plan_42 : decode cX7_plan 42 = .ok (.getfield 19, 3) := by decide +kernel
theorem dX7_plan_45 : decode cX7_plan 45 = .ok (.invokevirtual 150, 3) := by decide +kernel
theorem dX7_plan_48 : decode cX7_plan 48 = .ok (.fstore_n 1, 1) := by decide +kernel
theorem dX7_plan_49 : decode cX7_plan 49 = .ok (.aload_n 0, 1) := by decide +kernel
theorem dX7_plan_50 : decode cX7_plan 50 = .ok (.getfield 33, 3) := by decide +kernel
theorem dX7_plan_53 : decode cX7_plan 53 = .ok (.aload_n 0, 1) := by decide +kernel
theorem dX7_plan_54 : decode cX7_plan 54 = .ok (.getfield 19, 3) := by decide +kernel
theorem dX7_plan_57 : decode cX7_plan 57 = .ok (.aload_n 0, 1) := by decide +kernel
theorem dX7_plan_58 : decode cX7_plan 58 = .ok (.getfield 26, 3) := by decide +kernel
theorem dX7_plan_61 : decode cX7_plan 61 = .ok (.invokevirtual 154, 3) := by decide +kernel
theorem dX7_plan_64 : decode cX7_plan 64 = .ok (.aload_n 0, 1) := by decide +kernel
theorem dX7_plan_65 : decode cX7_plan 65 = .ok (.iconst 1, 1) := by decide +kernel
theorem dX7_plan_66 : decode cX7_plan 66 = .ok (.putfield 37, 3) := by decide +kernel
theorem dX7_plan_69 : decode cX7_plan 69 = .ok (.fload_n 1, 1) := by decide +kernel
theorem dX7_plan_70 : decode cX7_plan 70 = .ok (.freturn, 1) := by decide +kernel
theorem dX7_explain_0 : decode cX7_explain 0 = .ok (.aload_n 0, 1) := by decide +kernel
theorem dX7_explain_1 : decode cX7_explain 1 = .ok (.getfield 37, 3) := by decide +kernel
theorem dX7_explain_4 : decode cX7_explain 4 = .ok (.ifCond .eq 27, 3) := by decide +kernel
theorem dX7_explain_7 : decode cX7_explain 7 = .ok (.iload_n 1, 1) := by decide +kernel
theorem dX7_explain_8 : decode cX7_explain 8 = .ok (.ifCond .lt 23, 3) := by decide +kernel
theorem dX7_explain_11 : decode cX7_explain 11 = .ok (.iload_n 1, 1) := by decide +kernel
theorem dX7_explain_12 : decode cX7_explain 12 = .ok (.aload_n 0, 1) := by decide +kernel
theorem dX7_explain_13 : decode cX7_explain 13 = .ok (.getfield 19, 3) := by decide +kernel
theorem dX7_explain_16 : decode cX7_explain 16 = .ok (.getfield 111, 3) := by decide +kernel
theorem dX7_explain_19 : decode cX7_explain 19 = .ok (.if_icmp .ge 12, 3) := by decide +kernel
theorem dX7_explain_22 : decode cX7_explain 22 = .ok (.iload_n 2, 1) := by decide +kernel
theorem dX7_explain_23 : decode cX7_explain 23 = .ok (.ifCond .lt 8, 3) := by decide +kernel
theorem dX7_explain_26 : decode cX7_explain 26 = .ok (.iload_n 2, 1) := by decide +kernel
theorem dX7_explain_27 : decode cX7_explain 27 = .ok (.iconst 3, 1) := by decide +kernel
theorem dX7_explain_28 : decode cX7_explain 28 = .ok (.if_icmp .le 13, 3) := by decide +kernel
theorem dX7_explain_31 : decode cX7_explain 31 = .ok (.new 158, 3) := by decide +kernel
theorem dX7_explain_34 : decode cX7_explain 34 = .ok (.dup, 1) := by decide +kernel
theorem dX7_explain_35 : decode cX7_explain 35 = .ok (.ldc 160, 2) := by decide +kernel
theorem dX7_explain_37 : decode cX7_explain 37 = .ok (.invokespecial 162, 3) := by decide +kernel
theorem dX7_explain_40 : decode cX7_explain 40 = .ok (.athrow, 1) := by decide +kernel
theorem dX7_explain_41 : decode cX7_explain 41 = .ok (.iload_n 2, 1) := by decide +kernel
theorem dX7_explain_42 : decode cX7_explain 42 = .ok (.tableswitch 56 0 2 #[26, 36, 46], 26) := by decide +kernel
theorem dX7_explain_68 : decode cX7_explain 68 = .ok (.aload_n 0, 1) := by decide +kernel
theorem dX7_explain_69 : decode cX7_explain 69 = .ok (.getfield 26, 3) := by decide +kernel
theorem dX7_explain_72 : decode cX7_explain 72 = .ok (.getfield 163, 3) := by decide +kernel
theorem dX7_explain_75 : decode cX7_explain 75 = .ok (.iload_n 1, 1) := by decide +kernel
theorem dX7_explain_76 : decode cX7_explain 76 = .ok (.iaload, 1) := by decide +kernel
theorem dX7_explain_77 : decode cX7_explain 77 = .ok (.ireturn, 1) := by decide +kernel
theorem dX7_explain_78 : decode cX7_explain 78 = .ok (.aload_n 0, 1) := by decide +kernel
theorem dX7_explain_79 : decode cX7_explain 79 = .ok (.getfield 26, 3) := by decide +kernel
theorem dX7_explain_82 : decode cX7_explain 82 = .ok (.getfield 167, 3) := by decide +kernel
theorem dX7_explain_85 : decode cX7_explain 85 = .ok (.iload_n 1, 1) := by decide +kernel
theorem dX7_explain_86 : decode cX7_explain 86 = .ok (.iaload, 1) := by decide +kernel
theorem dX7_explain_87 : decode cX7_explain 87 = .ok (.ireturn, 1) := by decide +kernel
theorem dX7_explain_88 : decode cX7_explain 88 = .ok (.aload_n 0, 1) := by decide +kernel
theorem dX7_explain_89 : decode cX7_explain 89 = .ok (.getfield 26, 3) := by decide +kernel
theorem dX7_explain_92 : decode cX7_explain 92 = .ok (.getfield 170, 3) := by decide +kernel
theorem dX7_explain_95 : decode cX7_explain 95 = .ok (.iload_n 1, 1) := by decide +kernel
theorem dX7_explain_96 : decode cX7_explain 96 = .ok (.iaload, 1) := by decide +kernel
theorem dX7_explain_97 : decode cX7_explain 97 = .ok (.ireturn, 1) := by decide +kernel
theorem dX7_explain_98 : decode cX7_explain 98 = .ok (.aload_n 0, 1) := by decide +kernel
theorem dX7_explain_99 : decode cX7_explain 99 = .ok (.getfield 26, 3) := by decide +kernel
theorem dX7_explain_102 : decode cX7_explain 102 = .ok (.getfield 173, 3) := by decide +kernel
theorem dX7_explain_105 : decode cX7_explain 105 = .ok (.iload_n 1, 1) := by decide +kernel
theorem dX7_explain_106 : decode cX7_explain 106 = .ok (.iaload, 1) := by decide +kernel
theorem dX7_explain_107 : decode cX7_explain 107 = .ok (.ireturn, 1) := by decide +kernel
theorem dX7_run_0 : decode cX7_run 0 = .ok (.iload_n 1, 1) := by decide +kernel
theorem dX7_run_1 : decode cX7_run 1 = .ok (.iconst 1, 1) := by decide +kernel
theorem dX7_run_2 : decode cX7_run 2 = .ok (.if_icmp .lt 18, 3) := by decide +kernel
theorem dX7_run_5 : decode cX7_run 5 = .ok (.iload_n 1, 1) := by decide +kernel
theorem dX7_run_6 : decode cX7_run 6 = .ok (.sipush 200, 3) := by decide +kernel
theorem dX7_run_9 : decode cX7_run 9 = .ok (.if_icmp .gt 11, 3) := by decide +kernel
theorem dX7_run_12 : decode cX7_run 12 = .ok (.aload_n 0, 1) := by decide +kernel
theorem dX7_run_13 : decode cX7_run 13 = .ok (.getfield 37, 3) := by decide +kernel
theorem dX7_run_16 : decode cX7_run 16 = .ok (.iconst 1, 1) := by decide +kernel
theorem dX7_run_17 : decode cX7_run 17 = .ok (.if_icmp .eq 5, 3) := by decide +kernel
theorem dX7_run_20 : decode cX7_run 20 = .ok (.iconst (-1), 1) := by decide +kernel
theorem dX7_run_21 : decode cX7_run 21 = .ok (.ireturn, 1) := by decide +kernel
theorem dX7_run_22 : decode cX7_run 22 = .ok (.iconst 0, 1) := by decide +kernel
theorem dX7_run_23 : decode cX7_run 23 = .ok (.istore_n 2, 1) := by decide +kernel
theorem dX7_run_24 : decode cX7_run 24 = .ok (.iload_n 2, 1) := by decide +kernel
theorem dX7_run_25 : decode cX7_run 25 = .ok (.iload_n 1, 1) := by decide +kernel
theorem dX7_run_26 : decode cX7_run 26 = .ok (.if_icmp .ge 38, 3) := by decide +kernel
theorem dX7_run_29 : decode cX7_run 29 = .ok (.aload_n 0, 1) := by decide +kernel
theorem dX7_run_30 : decode cX7_run 30 = .ok (.getfield 33, 3) := by decide +kernel
theorem dX7_run_33 : decode cX7_run 33 = .ok (.aload_n 0, 1) := by decide +kernel
theorem dX7_run_34 : decode cX7_run 34 = .ok (.getfield 19, 3) := by decide +kernel
theorem dX7_run_37 : decode cX7_run 37 = .ok (.invokevirtual 176, 3) := by decide +kernel
theorem dX7_run_40 : decode cX7_run 40 = .ok (.ifCond .ne 24, 3) := by decide +kernel
theorem dX7_run_43 : decode cX7_run 43 = .ok (.aload_n 0, 1) := by decide +kernel
theorem dX7_run_44 : decode cX7_run 44 = .ok (.getfield 33, 3) := by decide +kernel
theorem dX7_run_47 : decode cX7_run 47 = .ok (.aload_n 0, 1) := by decide +kernel
theorem dX7_run_48 : decode cX7_run 48 = .ok (.getfield 19, 3) := by decide +kernel
theorem dX7_run_51 : decode cX7_run 51 = .ok (.aload_n 0, 1) := by decide +kernel
theorem dX7_run_52 : decode cX7_run 52 = .ok (.getfield 26, 3) := by decide +kernel
theorem dX7_run_55 : decode cX7_run 55 = .ok (.invokevirtual 180, 3) := by decide +kernel
theorem dX7_run_58 : decode cX7_run 58 = .ok (.iinc 2 1, 3) := by decide +kernel
theorem dX7_run_61 : decode cX7_run 61 = .ok (.goto (-37), 3) := by decide +kernel
theorem dX7_run_64 : decode cX7_run 64 = .ok (.aload_n 0, 1) := by decide +kernel
theorem dX7_run_65 : decode cX7_run 65 = .ok (.getfield 33, 3) := by decide +kernel
theorem dX7_run_68 : decode cX7_run 68 = .ok (.aload_n 0, 1) := by decide +kernel
theorem dX7_run_69 : decode cX7_run 69 = .ok (.getfield 19, 3) := by decide +kernel
theorem dX7_run_72 : decode cX7_run 72 = .ok (.invokevirtual 176, 3) := by decide +kernel
theorem dX7_run_75 : decode cX7_run 75 = .ok (.ifCond .eq 8, 3) := by decide +kernel
theorem dX7_run_78 : decode cX7_run 78 = .ok (.aload_n 0, 1) := by decide +kernel
theorem dX7_run_79 : decode cX7_run 79 = .ok (.iconst 2, 1) := by decide +kernel
theorem dX7_run_80 : decode cX7_run 80 = .ok (.putfield 37, 3) := by decide +kernel
theorem dX7_run_83 : decode cX7_run 83 = .ok (.iload_n 2, 1) := by decide +kernel
theorem dX7_run_84 : decode cX7_run 84 = .ok (.ireturn, 1) := by decide +kernel
theorem dX7_look_0 : decode cX7_look 0 = .ok (.iload_n 1, 1) := by decide +kernel
theorem dX7_look_1 : decode cX7_look 1 = .ok (.ifCond .lt 9, 3) := by decide +kernel
theorem dX7_look_4 : decode cX7_look 4 = .ok (.iload_n 1, 1) := by decide +kernel
theorem dX7_look_5 : decode cX7_look 5 = .ok (.bipush 6, 2) := by decide +kernel
theorem dX7_look_7 : decode cX7_look 7 = .ok (.if_icmp .lt 5, 3) := by decide +kernel
theorem dX7_look_10 : decode cX7_look 10 = .ok (.iconst (-1), 1) := by decide +kernel
theorem dX7_look_11 : decode cX7_look 11 = .ok (.ireturn, 1) := by decide +kernel
theorem dX7_look_12 : decode cX7_look 12 = .ok (.iload_n 1, 1) := by decide +kernel
theorem dX7_look_13 : decode cX7_look 13 = .ok (.tableswitch 63 0 2 #[27, 32, 40], 27) := by decide +kernel
theorem dX7_look_40 : decode cX7_look 40 = .ok (.aload_n 0, 1) := by decide +kernel
theorem dX7_look_41 : decode cX7_look 41 = .ok (.getfield 37, 3) := by decide +kernel
theorem dX7_look_44 : decode cX7_look 44 = .ok (.ireturn, 1) := by decide +kernel
theorem dX7_look_45 : decode cX7_look 45 = .ok (.aload_n 0, 1) := by decide +kernel
theorem dX7_look_46 : decode cX7_look 46 = .ok (.getfield 33, 3) := by decide +kernel
theorem dX7_look_49 : decode cX7_look 49 = .ok (.getfield 183, 3) := by decide +kernel
theorem dX7_look_52 : decode cX7_look 52 = .ok (.ireturn, 1) := by decide +kernel
theorem dX7_look_53 : decode cX7_look 53 = .ok (.aload_n 0, 1) := by decide +kernel
theorem dX7_look_54 : decode cX7_look 54 = .ok (.getfield 37, 3) := by decide +kernel
theorem dX7_look_57 : decode cX7_look 57 = .ok (.iconst 2, 1) := by decide +kernel
theorem dX7_look_58 : decode cX7_look 58 = .ok (.if_icmp .ne 10, 3) := by decide +kernel
theorem dX7_look_61 : decode cX7_look 61 = .ok (.aload_n 0, 1) := by decide +kernel
theorem dX7_look_62 : decode cX7_look 62 = .ok (.invokevirtual 186, 3) := by decide +kernel
theorem dX7_look_65 : decode cX7_look 65 = .ok (.goto 10, 3) := by decide +kernel
theorem dX7_look_68 : decode cX7_look 68 = .ok (.aload_n 0, 1) := by decide +kernel
theorem dX7_look_69 : decode cX7_look 69 = .ok (.getfield 33, 3) := by decide +kernel
theorem dX7_look_72 : decode cX7_look 72 = .ok (.getfield 190, 3) := by decide +kernel
theorem dX7_look_75 : decode cX7_look 75 = .ok (.ireturn, 1) := by decide +kernel
theorem dX7_look_76 : decode cX7_look 76 = .ok (.aload_n 0, 1) := by decide +kernel
theorem dX7_look_77 : decode cX7_look 77 = .ok (.iload_n 1, 1) := by decide +kernel
theorem dX7_look_78 : decode cX7_look 78 = .ok (.iconst 3, 1) := by decide +kernel
theorem dX7_look_79 : decode cX7_look 79 = .ok (.isub, 1) := by decide +kernel
theorem dX7_look_80 : decode cX7_look 80 = .ok (.invokevirtual 48, 3) := by decide +kernel
theorem dX7_look_83 : decode cX7_look 83 = .ok (.ifCond .eq 17, 3) := by decide +kernel
theorem dX7_look_86 : decode cX7_look 86 = .ok (.aload_n 0, 1) := by decide +kernel
theorem dX7_look_87 : decode cX7_look 87 = .ok (.getfield 11, 3) := by decide +kernel
theorem dX7_look_90 : decode cX7_look 90 = .ok (.iload_n 1, 1) := by decide +kernel
theorem dX7_look_91 : decode cX7_look 91 = .ok (.iconst 3, 1) := by decide +kernel
theorem dX7_look_92 : decode cX7_look 92 = .ok (.isub, 1) := by decide +kernel
theorem dX7_look_93 : decode cX7_look 93 = .ok (.aaload, 1) := by decide +kernel
theorem dX7_look_94 : decode cX7_look 94 = .ok (.getfield 193, 3) := by decide +kernel
theorem dX7_look_97 : decode cX7_look 97 = .ok (.goto 4, 3) := by decide +kernel
theorem dX7_look_100 : decode cX7_look 100 = .ok (.iconst (-1), 1) := by decide +kernel
theorem dX7_look_101 : decode cX7_look 101 = .ok (.ireturn, 1) := by decide +kernel
theorem dX7_answer_0 : decode cX7_answer 0 = .ok (.aload_n 0, 1) := by decide +kernel
theorem dX7_answer_1 : decode cX7_answer 1 = .ok (.getfield 37, 3) := by decide +kernel
theorem dX7_answer_4 : decode cX7_answer 4 = .ok (.iconst 2, 1) := by decide +kernel
theorem dX7_answer_5 : decode cX7_answer 5 = .ok (.if_icmp .eq 13, 3) := by decide +kernel
theorem dX7_answer_8 : decode cX7_answer 8 = .ok (.new 63, 3) := by decide +kernel
theorem dX7_answer_11 : decode cX7_answer 11 = .ok (.dup, 1) := by decide +kernel
theorem dX7_answer_12 : decode cX7_answer 12 = .ok (.ldc 196, 2) := by decide +kernel
theorem dX7_answer_14 : decode cX7_answer 14 = .ok (.invokespecial 67, 3) := by decide +kernel
theorem dX7_answer_17 : decode cX7_answer 17 = .ok (.athrow, 1) := by decide +kernel
theorem dX7_answer_18 : decode cX7_answer 18 = .ok (.iload_n 1, 1) := by decide +kernel
theorem dX7_answer_19 : decode cX7_answer 19 = .ok (.ifCond .lt 26, 3) := by decide +kernel
theorem dX7_answer_22 : decode cX7_answer 22 = .ok (.iload_n 1, 1) := by decide +kernel
theorem dX7_answer_23 : decode cX7_answer 23 = .ok (.aload_n 0, 1) := by decide +kernel
theorem dX7_answer_24 : decode cX7_answer 24 = .ok (.invokevirtual 186, 3) := by decide +kernel
theorem dX7_answer_27 : decode cX7_answer 27 = .ok (.if_icmp .ge 18, 3) := by decide +kernel
theorem dX7_answer_30 : decode cX7_answer 30 = .ok (.iload_n 2, 1) := by decide +kernel
theorem dX7_answer_31 : decode cX7_answer 31 = .ok (.ifCond .lt 14, 3) := by decide +kernel
theorem dX7_answer_34 : decode cX7_answer 34 = .ok (.iload_n 2, 1) := by decide +kernel
theorem dX7_answer_35 : decode cX7_answer 35 = .ok (.aload_n 0, 1) := by decide +kernel
theorem dX7_answer_36 : decode cX7_answer 36 = .ok (.getfield 19, 3) := by decide +kernel
theorem dX7_answer_39 : decode cX7_answer 39 = .ok (.getfield 132, 3) := by decide +kernel
theorem dX7_answer_42 : decode cX7_answer 42 = .ok (.if_icmp .lt 13, 3) := by decide +kernel
theorem dX7_answer_45 : decode cX7_answer 45 = .ok (.new 158, 3) := by decide +kernel
theorem dX7_answer_48 : decode cX7_answer 48 = .ok (.dup, 1) := by decide +kernel
theorem dX7_answer_49 : decode cX7_answer 49 = .ok (.ldc 198, 2) := by decide +kernel
theorem dX7_answer_51 : decode cX7_answer 51 = .ok (.invokespecial 162, 3) := by decide +kernel
theorem dX7_answer_54 : decode cX7_answer 54 = .ok (.athrow, 1) := by decide +kernel
theorem dX7_answer_55 : decode cX7_answer 55 = .ok (.aload_n 0, 1) := by decide +kernel
theorem dX7_answer_56 : decode cX7_answer 56 = .ok (.getfield 33, 3) := by decide +kernel
theorem dX7_answer_59 : decode cX7_answer 59 = .ok (.iload_n 1, 1) := by decide +kernel
theorem dX7_answer_60 : decode cX7_answer 60 = .ok (.iload_n 2, 1) := by decide +kernel
theorem dX7_answer_61 : decode cX7_answer 61 = .ok (.invokevirtual 200, 3) := by decide +kernel
theorem dX7_answer_64 : decode cX7_answer 64 = .ok (.ireturn, 1) := by decide +kernel
theorem dX7_hasTable_0 : decode cX7_hasTable 0 = .ok (.iload_n 1, 1) := by decide +kernel
theorem dX7_hasTable_1 : decode cX7_hasTable 1 = .ok (.ifCond .lt 24, 3) := by decide +kernel
theorem dX7_hasTable_4 : decode cX7_hasTable 4 = .ok (.iload_n 1, 1) := by decide +kernel
theorem dX7_hasTable_5 : decode cX7_hasTable 5 = .ok (.iconst 3, 1) := by decide +kernel
theorem dX7_hasTable_6 : decode cX7_hasTable 6 = .ok (.if_icmp .ge 19, 3) := by decide +kernel
theorem dX7_hasTable_9 : decode cX7_hasTable 9 = .ok (.aload_n 0, 1) := by decide +kernel
theorem dX7_hasTable_10 : decode cX7_hasTable 10 = .ok (.getfield 11, 3) := by decide +kernel
theorem dX7_hasTable_13 : decode cX7_hasTable 13 = .ok (.iload_n 1, 1) := by decide +kernel
theorem dX7_hasTable_14 : decode cX7_hasTable 14 = .ok (.aaload, 1) := by decide +kernel
theorem dX7_hasTable_15 : decode cX7_hasTable 15 = .ok (.getfield 203, 3) := by decide +kernel
theorem dX7_hasTable_18 : decode cX7_hasTable 18 = .ok (.ifCond .le 7, 3) := by decide +kernel
theorem dX7_hasTable_21 : decode cX7_hasTable 21 = .ok (.iconst 1, 1) := by decide +kernel
theorem dX7_hasTable_22 : decode cX7_hasTable 22 = .ok (.goto 4, 3) := by decide +kernel
theorem dX7_hasTable_25 : decode cX7_hasTable 25 = .ok (.iconst 0, 1) := by decide +kernel
theorem dX7_hasTable_26 : decode cX7_hasTable 26 = .ok (.ireturn, 1) := by decide +kernel
theorem dX7_hasRow_0 : decode cX7_hasRow 0 = .ok (.aload_n 0, 1) := by decide +kernel
theorem dX7_hasRow_1 : decode cX7_hasRow 1 = .ok (.iload_n 1, 1) := by decide +kernel
theorem dX7_hasRow_2 : decode cX7_hasRow 2 = .ok (.invokevirtual 48, 3) := by decide +kernel
theorem dX7_hasRow_5 : decode cX7_hasRow 5 = .ok (.ifCond .eq 21, 3) := by decide +kernel
theorem dX7_hasRow_8 : decode cX7_hasRow 8 = .ok (.aload_n 0, 1) := by decide +kernel
theorem dX7_hasRow_9 : decode cX7_hasRow 9 = .ok (.getfield 11, 3) := by decide +kernel
theorem dX7_hasRow_12 : decode cX7_hasRow 12 = .ok (.iload_n 1, 1) := by decide +kernel
theorem dX7_hasRow_13 : decode cX7_hasRow 13 = .ok (.aaload, 1) := by decide +kernel
theorem dX7_hasRow_14 : decode cX7_hasRow 14 = .ok (.iload_n 2, 1) := by decide +kernel
theorem dX7_hasRow_15 : decode cX7_hasRow 15 = .ok (.invokevirtual 81, 3) := by decide +kernel
theorem dX7_hasRow_18 : decode cX7_hasRow 18 = .ok (.iconst (-1), 1) := by decide +kernel
theorem dX7_hasRow_19 : decode cX7_hasRow 19 = .ok (.if_icmp .eq 7, 3) := by decide +kernel
theorem dX7_hasRow_22 : decode cX7_hasRow 22 = .ok (.iconst 1, 1) := by decide +kernel
theorem dX7_hasRow_23 : decode cX7_hasRow 23 = .ok (.goto 4, 3) := by decide +kernel
theorem dX7_hasRow_26 : decode cX7_hasRow 26 = .ok (.iconst 0, 1) := by decide +kernel
theorem dX7_hasRow_27 : decode cX7_hasRow 27 = .ok (.ireturn, 1) := by decide +kernel
theorem dX7_hasColumn_0 : decode cX7_hasColumn 0 = .ok (.aload_n 0, 1) := by decide +kernel
theorem dX7_hasColumn_1 : decode cX7_hasColumn 1 = .ok (.iload_n 1, 1) := by decide +kernel
theorem dX7_hasColumn_2 : decode cX7_hasColumn 2 = .ok (.invokevirtual 48, 3) := by decide +kernel
theorem dX7_hasColumn_5 : decode cX7_hasColumn 5 = .ok (.ifCond .eq 20, 3) := by decide +kernel
theorem dX7_hasColumn_8 : decode cX7_hasColumn 8 = .ok (.aload_n 0, 1) := by decide +kernel
theorem dX7_hasColumn_9 : decode cX7_hasColumn 9 = .ok (.getfield 11, 3) := by decide +kernel
theorem dX7_hasColumn_12 : decode cX7_hasColumn 12 = .ok (.iload_n 1, 1) := by decide +kernel
theorem dX7_hasColumn_13 : decode cX7_hasColumn 13 = .ok (.aaload, 1) := by decide +kernel
theorem dX7_hasColumn_14 : decode cX7_hasColumn 14 = .ok (.iload_n 2, 1) := by decide +kernel
theorem dX7_hasColumn_15 : decode cX7_hasColumn 15 = .ok (.invokevirtual 206, 3) := by decide +kernel
theorem dX7_hasColumn_18 : decode cX7_hasColumn 18 = .ok (.ifCond .eq 7, 3) := by decide +kernel
theorem dX7_hasColumn_21 : decode cX7_hasColumn 21 = .ok (.iconst 1, 1) := by decide +kernel
theorem dX7_hasColumn_22 : decode cX7_hasColumn 22 = .ok (.goto 4, 3) := by decide +kernel
theorem dX7_hasColumn_25 : decode cX7_hasColumn 25 = .ok (.iconst 0, 1) := by decide +kernel
theorem dX7_hasColumn_26 : decode cX7_hasColumn 26 = .ok (.ireturn, 1) := by decide +kernel
theorem dX7_isKind_0 : decode cX7_isKind 0 = .ok (.iload_n 0, 1) := by decide +kernel
theorem dX7_isKind_1 : decode cX7_isKind 1 = .ok (.ifCond .eq 8, 3) := by decide +kernel
theorem dX7_isKind_4 : decode cX7_isKind 4 = .ok (.iload_n 0, 1) := by decide +kernel
theorem dX7_isKind_5 : decode cX7_isKind 5 = .ok (.iconst 1, 1) := by decide +kernel
theorem dX7_isKind_6 : decode cX7_isKind 6 = .ok (.if_icmp .ne 7, 3) := by decide +kernel
theorem dX7_isKind_9 : decode cX7_isKind 9 = .ok (.iconst 1, 1) := by decide +kernel
theorem dX7_isKind_10 : decode cX7_isKind 10 = .ok (.goto 4, 3) := by decide +kernel
theorem dX7_isKind_13 : decode cX7_isKind 13 = .ok (.iconst 0, 1) := by decide +kernel
theorem dX7_isKind_14 : decode cX7_isKind 14 = .ok (.ireturn, 1) := by decide +kernel
theorem dX7_beginQuestion_0 : decode cX7_beginQuestion 0 = .ok (.aload_n 0, 1) := by decide +kernel
theorem dX7_beginQuestion_1 : decode cX7_beginQuestion 1 = .ok (.getfield 19, 3) := by decide +kernel
theorem dX7_beginQuestion_4 : decode cX7_beginQuestion 4 = .ok (.invokevirtual 208, 3) := by decide +kernel
theorem dX7_beginQuestion_7 : decode cX7_beginQuestion 7 = .ok (.aload_n 0, 1) := by decide +kernel
theorem dX7_beginQuestion_8 : decode cX7_beginQuestion 8 = .ok (.getfield 33, 3) := by decide +kernel
theorem dX7_beginQuestion_11 : decode cX7_beginQuestion 11 = .ok (.invokevirtual 211, 3) := by decide +kernel
theorem dX7_beginQuestion_14 : decode cX7_beginQuestion 14 = .ok (.aload_n 0, 1) := by decide +kernel
theorem dX7_beginQuestion_15 : decode cX7_beginQuestion 15 = .ok (.iconst 0, 1) := by decide +kernel
theorem dX7_beginQuestion_16 : decode cX7_beginQuestion 16 = .ok (.putfield 37, 3) := by decide +kernel
theorem dX7_beginQuestion_19 : decode cX7_beginQuestion 19 = .ok (.return_, 1) := by decide +kernel
theorem dX7_endQuestion_0 : decode cX7_endQuestion 0 = .ok (.aload_n 0, 1) := by decide +kernel
theorem dX7_endQuestion_1 : decode cX7_endQuestion 1 = .ok (.getfield 37, 3) := by decide +kernel
theorem dX7_endQuestion_4 : decode cX7_endQuestion 4 = .ok (.iconst 1, 1) := by decide +kernel
theorem dX7_endQuestion_5 : decode cX7_endQuestion 5 = .ok (.if_icmp .ne 8, 3) := by decide +kernel
theorem dX7_endQuestion_8 : decode cX7_endQuestion 8 = .ok (.aload_n 0, 1) := by decide +kernel
theorem dX7_endQuestion_9 : decode cX7_endQuestion 9 = .ok (.iconst 3, 1) := by decide +kernel
theorem dX7_endQuestion_10 : decode cX7_endQuestion 10 = .ok (.putfield 37, 3) := by decide +kernel
theorem dX7_endQuestion_13 : decode cX7_endQuestion 13 = .ok (.return_, 1) := by decide +kernel
theorem dX7_givenAnswers_0 : decode cX7_givenAnswers 0 = .ok (.aload_n 0, 1) := by decide +kernel
theorem dX7_givenAnswers_1 : decode cX7_givenAnswers 1 = .ok (.getfield 33, 3) := by decide +kernel
theorem dX7_givenAnswers_4 : decode cX7_givenAnswers 4 = .ok (.getfield 190, 3) := by decide +kernel
theorem dX7_givenAnswers_7 : decode cX7_givenAnswers 7 = .ok (.aload_n 0, 1) := by decide +kernel
theorem dX7_givenAnswers_8 : decode cX7_givenAnswers 8 = .ok (.getfield 19, 3) := by decide +kernel
theorem dX7_givenAnswers_11 : decode cX7_givenAnswers 11 = .ok (.getfield 145, 3) := by decide +kernel
theorem dX7_givenAnswers_14 : decode cX7_givenAnswers 14 = .ok (.invokestatic 212, 3) := by decide +kernel
theorem dX7_givenAnswers_17 : decode cX7_givenAnswers 17 = .ok (.ireturn, 1) := by decide +kernel
theorem dX8_init_0 : decode cX8_init 0 = .ok (.aload_n 0, 1) := by decide +kernel
theorem dX8_init_1 : decode cX8_init 1 = .ok (.invokespecial 1, 3) := by decide +kernel
theorem dX8_init_4 : decode cX8_init 4 = .ok (.aload_n 0, 1) := by decide +kernel
theorem dX8_init_5 : decode cX8_init 5 = .ok (.iconst 3, 1) := by decide +kernel
theorem dX8_init_6 : decode cX8_init 6 = .ok (.newarray .int, 2) := by decide +kernel
theorem dX8_init_8 : decode cX8_init 8 = .ok (.putfield 7, 3) := by decide +kernel
theorem dX8_init_11 : decode cX8_init 11 = .ok (.aload_n 0, 1) := by decide +kernel
theorem dX8_init_12 : decode cX8_init 12 = .ok (.iconst 3, 1) := by decide +kernel
theorem dX8_init_13 : decode cX8_init 13 = .ok (.newarray .int, 2) := by decide +kernel
theorem dX8_init_15 : decode cX8_init 15 = .ok (.putfield 13, 3) := by decide +kernel
theorem dX8_init_18 : decode cX8_init 18 = .ok (.aload_n 0, 1) := by decide +kernel
theorem dX8_init_19 : decode cX8_init 19 = .ok (.sipush 180, 3) := by decide +kernel
theorem dX8_init_22 : decode cX8_init 22 = .ok (.newarray .boolean, 2) := by decide +kernel
theorem dX8_init_24 : decode cX8_init 24 = .ok (.putfield 16, 3) := by decide +kernel
theorem dX8_init_27 : decode cX8_init 27 = .ok (.aload_n 0, 1) := by decide +kernel
theorem dX8_init_28 : decode cX8_init 28 = .ok (.sipush 720, 3) := by decide +kernel
theorem dX8_init_31 : decode cX8_init 31 = .ok (.newarray .int, 2) := by decide +kernel
theorem dX8_init_33 : decode cX8_init 33 = .ok (.putfield 20, 3) := by decide +kernel
theorem dX8_init_36 : decode cX8_init 36 = .ok (.aload_n 0, 1) := by decide +kernel
theorem dX8_init_37 : decode cX8_init 37 = .ok (.bipush 24, 2) := by decide +kernel
theorem dX8_init_39 : decode cX8_init 39 = .ok (.newarray .boolean, 2) := by decide +kernel
theorem dX8_init_41 : decode cX8_init 41 = .ok (.putfield 23, 3) := by decide +kernel
theorem dX8_init_44 : decode cX8_init 44 = .ok (.aload_n 0, 1) := by decide +kernel
theorem dX8_init_45 : decode cX8_init 45 = .ok (.iconst 3, 1) := by decide +kernel
theorem dX8_init_46 : decode cX8_init 46 = .ok (.newarray .int, 2) := by decide +kernel
theorem dX8_init_48 : decode cX8_init 48 = .ok (.putfield 26, 3) := by decide +kernel
theorem dX8_init_51 : decode cX8_init 51 = .ok (.aload_n 0, 1) := by decide +kernel
theorem dX8_init_52 : decode cX8_init 52 = .ok (.bipush 16, 2) := by decide +kernel
theorem dX8_init_54 : decode cX8_init 54 = .ok (.newarray .int, 2) := by decide +kernel
theorem dX8_init_56 : decode cX8_init 56 = .ok (.putfield 29, 3) := by decide +kernel
theorem dX8_init_59 : decode cX8_init 59 = .ok (.aload_n 0, 1) := by decide +kernel
theorem dX8_init_60 : decode cX8_init 60 = .ok (.bipush 12, 2) := by decide +kernel
theorem dX8_init_62 : decode cX8_init 62 = .ok (.newarray .int, 2) := by decide +kernel
theorem dX8_init_64 : decode cX8_init 64 = .ok (.putfield 32, 3) := by decide +kernel
theorem dX8_init_67 : decode cX8_init 67 = .ok (.aload_n 0, 1) := by decide +kernel
theorem dX8_init_68 : decode cX8_init 68 = .ok (.bipush 8, 2) := by decide +kernel
theorem dX8_init_70 : decode cX8_init 70 = .ok (.newarray .int, 2) := by decide +kernel
theorem dX8_init_72 : decode cX8_init 72 = .ok (.putfield 35, 3) := by decide +kernel
theorem dX8_init_75 : decode cX8_init 75 = .ok (.aload_n 0, 1) := by decide +kernel
theorem dX8_init_76 : decode cX8_init 76 = .ok (.iconst 3, 1) := by decide +kernel
theorem dX8_init_77 : decode cX8_init 77 = .ok (.newarray .int, 2) := by decide +kernel
theorem dX8_init_79 : decode cX8_init 79 = .ok (.putfield 38, 3) := by decide +kernel
theorem dX8_init_82 : decode cX8_init 82 = .ok (.aload_n 0, 1) := by decide +kernel
theorem dX8_init_83 : decode cX8_init 83 = .ok (.iconst 3, 1) := by decide +kernel
theorem dX8_init_84 : decode cX8_init 84 = .ok (.newarray .int, 2) := by decide +kernel
theorem dX8_init_86 : decode cX8_init 86 = .ok (.putfield 41, 3) := by decide +kernel
theorem dX8_init_89 : decode cX8_init 89 = .ok (.aload_n 0, 1) := by decide +kernel
theorem dX8_init_90 : decode cX8_init 90 = .ok (.iconst 3, 1) := by decide +kernel
theorem dX8_init_91 : decode cX8_init 91 = .ok (.newarray .int, 2) := by decide +kernel
theorem dX8_init_93 : decode cX8_init 93 = .ok (.putfield 44, 3) := by decide +kernel
theorem dX8_init_96 : decode cX8_init 96 = .ok (.aload_n 0, 1) := by decide +kernel
theorem dX8_init_97 : decode cX8_init 97 = .ok (.iconst 3, 1) := by decide +kernel
theorem dX8_init_98 : decode cX8_init 98 = .ok (.newarray .int, 2) := by decide +kernel
theorem dX8_init_100 : decode cX8_init 100 = .ok (.putfield 47, 3) := by decide +kernel
theorem dX8_init_103 : decode cX8_init 103 = .ok (.aload_n 0, 1) := by decide +kernel
theorem dX8_init_104 : decode cX8_init 104 = .ok (.iconst 3, 1) := by decide +kernel
theorem dX8_init_105 : decode cX8_init 105 = .ok (.newarray .int, 2) := by decide +kernel
theorem dX8_init_107 : decode cX8_init 107 = .ok (.putfield 50, 3) := by decide +kernel
theorem dX8_init_110 : decode cX8_init 110 = .ok (.aload_n 0, 1) := by decide +kernel
theorem dX8_init_111 : decode cX8_init 111 = .ok (.sipush 256, 3) := by decide +kernel
theorem dX8_init_114 : decode cX8_init 114 = .ok (.newarray .int, 2) := by decide +kernel
theorem dX8_init_116 : decode cX8_init 116 = .ok (.putfield 53, 3) := by decide +kernel
theorem dX8_init_119 : decode cX8_init 119 = .ok (.aload_n 0, 1) := by decide +kernel
theorem dX8_init_120 : decode cX8_init 120 = .ok (.invokevirtual 56, 3) := by decide +kernel
theorem dX8_init_123 : decode cX8_init 123 = .ok (.return_, 1) := by decide +kernel
theorem dX8_thrown_0 : decode cX8_thrown 0 = .ok (.aload_n 0, 1) := by decide +kernel
theorem dX8_thrown_1 : decode cX8_thrown 1 = .ok (.getfield 59, 3) := by decide +kernel
theorem dX8_thrown_4 : decode cX8_thrown 4 = .ok (.ireturn, 1) := by decide +kernel
theorem dX8_in_0 : decode cX8_in 0 = .ok (.iload_n 0, 1) := by decide +kernel
theorem dX8_in_1 : decode cX8_in 1 = .ok (.iload_n 1, 1) := by decide +kernel
theorem dX8_in_2 : decode cX8_in 2 = .ok (.if_icmp .lt 12, 3) := by decide +kernel
theorem dX8_in_5 : decode cX8_in 5 = .ok (.iload_n 0, 1) := by decide +kernel
theorem dX8_in_6 : decode cX8_in 6 = .ok (.iload_n 2, 1) := by decide +kernel
theorem dX8_in_7 : decode cX8_in 7 = .ok (.if_icmp .gt 7, 3) := by decide +kernel
theorem dX8_in_10 : decode cX8_in 10 = .ok (.iconst 1, 1) := by decide +kernel
theorem dX8_in_11 : decode cX8_in 11 = .ok (.goto 4, 3) := by decide +kernel
theorem dX8_in_14 : decode cX8_in 14 = .ok (.iconst 0, 1) := by decide +kernel
theorem dX8_in_15 : decode cX8_in 15 = .ok (.ireturn, 1) := by decide +kernel
theorem dX8_isTable_0 : decode cX8_isTable 0 = .ok (.iload_n 1, 1) := by decide +kernel
theorem dX8_isTable_1 : decode cX8_isTable 1 = .ok (.iconst 0, 1) := by decide +kernel
theorem dX8_isTable_2 : decode cX8_isTable 2 = .ok (.iconst 2, 1) := by decide +kernel
theorem dX8_isTable_3 : decode cX8_isTable 3 = .ok (.invokestatic 63, 3) := by decide +kernel
theorem dX8_isTable_6 : decode cX8_isTable 6 = .ok (.ifCond .eq 16, 3) := by decide +kernel
theorem dX8_isTable_9 : decode cX8_isTable 9 = .ok (.aload_n 0, 1) := by decide +kernel
theorem dX8_isTable_10 : decode cX8_isTable 10 = .ok (.getfield 7, 3) := by decide +kernel
theorem dX8_isTable_13 : decode cX8_isTable 13 = .ok (.iload_n 1, 1) := by decide +kernel
theorem dX8_isTable_14 : decode cX8_isTable 14 = .ok (.iaload, 1) := by decide +kernel
theorem dX8_isTable_15 : decode cX8_isTable 15 = .ok (.ifCond .le 7, 3) := by decide +kernel
theorem dX8_isTable_18 : decode cX8_isTable 18 = .ok (.iconst 1, 1) := by decide +kernel
theorem dX8_isTable_19 : decode cX8_isTable 19 = .ok (.goto 4, 3) := by decide +kernel
theorem dX8_isTable_22 : decode cX8_isTable 22 = .ok (.iconst 0, 1) := by decide +kernel
theorem dX8_isTable_23 : decode cX8_isTable 23 = .ok (.ireturn, 1) := by decide +kernel
theorem dX8_isRow_0 : decode cX8_isRow 0 = .ok (.aload_n 0, 1) := by decide +kernel
theorem dX8_isRow_1 : decode cX8_isRow 1 = .ok (.iload_n 1, 1) := by decide +kernel
theorem dX8_isRow_2 : decode cX8_isRow 2 = .ok (.invokevirtual 67, 3) := by decide +kernel
theorem dX8_isRow_5 : decode cX8_isRow 5 = .ok (.ifCond .eq 31, 3) := by decide +kernel
theorem dX8_isRow_8 : decode cX8_isRow 8 = .ok (.iload_n 2, 1) := by decide +kernel
theorem dX8_isRow_9 : decode cX8_isRow 9 = .ok (.iconst 0, 1) := by decide +kernel
theorem dX8_isRow_10 : decode cX8_isRow 10 = .ok (.bipush 59, 2) := by decide +kernel
theorem dX8_isRow_12 : decode cX8_isRow 12 = .ok (.invokestatic 63, 3) := by decide +kernel
theorem dX8_isRow_15 : decode cX8_isRow 15 = .ok (.ifCond .eq 21, 3) := by decide +kernel
theorem dX8_isRow_18 : decode cX8_isRow 18 = .ok (.aload_n 0, 1) := by decide +kernel
theorem dX8_isRow_19 : decode cX8_isRow 19 = .ok (.getfield 16, 3) := by decide +kernel
theorem dX8_isRow_22 : decode cX8_isRow 22 = .ok (.bipush 60, 2) := by decide +kernel
theorem dX8_isRow_24 : decode cX8_isRow 24 = .ok (.iload_n 1, 1) := by decide +kernel
theorem dX8_isRow_25 : decode cX8_isRow 25 = .ok (.imul, 1) := by decide +kernel
theorem dX8_isRow_26 : decode cX8_isRow 26 = .ok (.iload_n 2, 1) := by decide +kernel
theorem dX8_isRow_27 : decode cX8_isRow 27 = .ok (.iadd, 1) := by decide +kernel
theorem dX8_isRow_28 : decode cX8_isRow 28 = .ok (.baload, 1) := by decide +kernel
theorem dX8_isRow_29 : decode cX8_isRow 29 = .ok (.ifCond .eq 7, 3) := by decide +kernel
theorem dX8_isRow_32 : decode cX8_isRow 32 = .ok (.iconst 1, 1) := by decide +kernel
theorem dX8_isRow_33 : decode cX8_isRow 33 = .ok (.goto 4, 3) := by decide +kernel
theorem dX8_isRow_36 : decode cX8_isRow 36 = .ok (.iconst 0, 1) := by decide +kernel
theorem dX8_isRow_37 : decode cX8_isRow 37 = .ok (.ireturn, 1) := by decide +kernel
theorem dX8_isColumn_0 : decode cX8_isColumn 0 = .ok (.aload_n 0, 1) := by decide +kernel
theorem dX8_isColumn_1 : decode cX8_isColumn 1 = .ok (.iload_n 1, 1) := by decide +kernel
theorem dX8_isColumn_2 : decode cX8_isColumn 2 = .ok (.invokevirtual 67, 3) := by decide +kernel
theorem dX8_isColumn_5 : decode cX8_isColumn 5 = .ok (.ifCond .eq 23, 3) := by decide +kernel
theorem dX8_isColumn_8 : decode cX8_isColumn 8 = .ok (.iload_n 2, 1) := by decide +kernel
theorem dX8_isColumn_9 : decode cX8_isColumn 9 = .ok (.iconst 0, 1) := by decide +kernel
theorem dX8_isColumn_10 : decode cX8_isColumn 10 = .ok (.aload_n 0, 1) := by decide +kernel
theorem dX8_isColumn_11 : decode cX8_isColumn 11 = .ok (.getfield 7, 3) := by decide +kernel
theorem dX8_isColumn_14 : decode cX8_isColumn 14 = .ok (.iload_n 1, 1) := by decide +kernel
theorem dX8_isColumn_15 : decode cX8_isColumn 15 = .ok (.iaload, 1) := by decide +kernel
theorem dX8_isColumn_16 : decode cX8_isColumn 16 = .ok (.iconst 1, 1) := by decide +kernel
theorem dX8_isColumn_17 : decode cX8_isColumn 17 = .ok (.isub, 1) := by decide +kernel
theorem dX8_isColumn_18 : decode cX8_isColumn 18 = .ok (.invokestatic 63, 3) := by decide +kernel
theorem dX8_isColumn_21 : decode cX8_isColumn 21 = .ok (.ifCond .eq 7, 3) := by decide +kernel
theorem dX8_isColumn_24 : decode cX8_isColumn 24 = .ok (.iconst 1, 1) := by decide +kernel
theorem dX8_isColumn_25 : decode cX8_isColumn 25 = .ok (.goto 4, 3) := by decide +kernel
theorem dX8_isColumn_28 : decode cX8_isColumn 28 = .ok (.iconst 0, 1) := by decide +kernel
theorem dX8_isColumn_29 : decode cX8_isColumn 29 = .ok (.ireturn, 1) := by decide +kernel
theorem dX8_rowsOf_0 : decode cX8_rowsOf 0 = .ok (.iconst 0, 1) := by decide +kernel
theorem dX8_rowsOf_1 : decode cX8_rowsOf 1 = .ok (.istore_n 2, 1) := by decide +kernel
theorem dX8_rowsOf_2 : decode cX8_rowsOf 2 = .ok (.iconst 0, 1) := by decide +kernel
theorem dX8_rowsOf_3 : decode cX8_rowsOf 3 = .ok (.istore_n 3, 1) := by decide +kernel
theorem dX8_rowsOf_4 : decode cX8_rowsOf 4 = .ok (.iload_n 3, 1) := by decide +kernel
theorem dX8_rowsOf_5 : decode cX8_rowsOf 5 = .ok (.bipush 60, 2) := by decide +kernel
theorem dX8_rowsOf_7 : decode cX8_rowsOf 7 = .ok (.if_icmp .ge 31, 3) := by decide +kernel
theorem dX8_rowsOf_10 : decode cX8_rowsOf 10 = .ok (.iload_n 2, 1) := by decide +kernel
theorem dX8_rowsOf_11 : decode cX8_rowsOf 11 = .ok (.aload_n 0, 1) := by decide +kernel
theorem dX8_rowsOf_12 : decode cX8_rowsOf 12 = .ok (.getfield 16, 3) := by decide +kernel
theorem dX8_rowsOf_15 : decode cX8_rowsOf 15 = .ok (.bipush 60, 2) := by decide +kernel
theorem dX8_rowsOf_17 : decode cX8_rowsOf 17 = .ok (.iload_n 1, 1) := by decide +kernel
theorem dX8_rowsOf_18 : decode cX8_rowsOf 18 = .ok (.imul, 1) := by decide +kernel
theorem dX8_rowsOf_19 : decode cX8_rowsOf 19 = .ok (.iload_n 3, 1) := by decide +kernel
theorem dX8_rowsOf_20 : decode cX8_rowsOf 20 = .ok (.iadd, 1) := by decide +kernel
theorem dX8_rowsOf_21 : decode cX8_rowsOf 21 = .ok (.baload, 1) := by decide +kernel
theorem dX8_rowsOf_22 : decode cX8_rowsOf 22 = .ok (.ifCond .eq 7, 3) := by decide +kernel
theorem dX8_rowsOf_25 : decode cX8_rowsOf 25 = .ok (.iconst 1, 1) := by decide +kernel
theorem dX8_rowsOf_26 : decode cX8_rowsOf 26 = .ok (.goto 4, 3) := by decide +kernel
theorem dX8_rowsOf_29 : decode cX8_rowsOf 29 = .ok (.iconst 0, 1) := by decide +kernel
theorem dX8_rowsOf_30 : decode cX8_rowsOf 30 = .ok (.iadd, 1) := by decide +kernel
theorem dX8_rowsOf_31 : decode cX8_rowsOf 31 = .ok (.istore_n 2, 1) := by decide +kernel
theorem dX8_rowsOf_32 : decode cX8_rowsOf 32 = .ok (.iinc 3 1, 3) := by decide +kernel
theorem dX8_rowsOf_35 : decode cX8_rowsOf 35 = .ok (.goto (-31), 3) := by decide +kernel
theorem dX8_rowsOf_38 : decode cX8_rowsOf 38 = .ok (.iload_n 2, 1) := by decide +kernel
theorem dX8_rowsOf_39 : decode cX8_rowsOf 39 = .ok (.ireturn, 1) := by decide +kernel
theorem dX8_get_0 : decode cX8_get 0 = .ok (.aload_n 0, 1) := by decide +kernel
theorem dX8_get_1 : decode cX8_get 1 = .ok (.getfield 20, 3) := by decide +kernel
theorem dX8_get_4 : decode cX8_get 4 = .ok (.sipush 240, 3) := by decide +kernel
theorem dX8_get_7 : decode cX8_get 7 = .ok (.iload_n 1, 1) := by decide +kernel
theorem dX8_get_8 : decode cX8_get 8 = .ok (.imul, 1) := by decide +kernel
theorem dX8_get_9 : decode cX8_get 9 = .ok (.iconst 4, 1) := by decide +kernel
theorem dX8_get_10 : decode cX8_get 10 = .ok (.iload_n 2, 1) := by decide +kernel
theorem dX8_get_11 : decode cX8_get 11 = .ok (.imul, 1) := by decide +kernel
theorem dX8_get_12 : decode cX8_get 12 = .ok (.iadd, 1) := by decide +kernel
theorem dX8_get_13 : decode cX8_get 13 = .ok (.iload_n 3, 1) := by decide +kernel
theorem dX8_get_14 : decode cX8_get 14 = .ok (.iadd, 1) := by decide +kernel
theorem dX8_get_15 : decode cX8_get 15 = .ok (.iaload, 1) := by decide +kernel
theorem dX8_get_16 : decode cX8_get 16 = .ok (.ireturn, 1) := by decide +kernel
theorem dX8_changed_0 : decode cX8_changed 0 = .ok (.aload_n 0, 1) := by decide +kernel
theorem dX8_changed_1 : decode cX8_changed 1 = .ok (.aload_n 0, 1) := by decide +kernel
theorem dX8_changed_2 : decode cX8_changed 2 = .ok (.getfield 71, 3) := by decide +kernel
theorem dX8_changed_5 : decode cX8_changed 5 = .ok (.iconst 1, 1) := by decide +kernel
theorem dX8_changed_6 : decode cX8_changed 6 = .ok (.if_icmp .ne 7, 3) := by decide +kernel
theorem dX8_changed_9 : decode cX8_changed 9 = .ok (.iconst 3, 1) := by decide +kernel
theorem dX8_changed_10 : decode cX8_changed 10 = .ok (.goto 7, 3) := by decide +kernel
theorem dX8_changed_13 : decode cX8_changed 13 = .ok (.aload_n 0, 1) := by decide +kernel
theorem dX8_changed_14 : decode cX8_changed 14 = .ok (.getfield 71, 3) := by decide +kernel
theorem dX8_changed_17 : decode cX8_changed 17 = .ok (.putfield 71, 3) := by decide +kernel
theorem dX8_changed_20 : decode cX8_changed 20 = .ok (.return_, 1) := by decide +kernel
theorem dX8_create_0 : decode cX8_create 0 = .ok (.aload_n 0, 1) := by decide +kernel
theorem dX8_create_1 : decode cX8_create 1 = .ok (.iconst 0, 1) := by decide +kernel
theorem dX8_create_2 : decode cX8_create 2 = .ok (.putfield 59, 3) := by decide +kernel
theorem dX8_create_5 : decode cX8_create 5 = .ok (.iload_n 1, 1) := by decide +kernel
theorem dX8_create_6 : decode cX8_create 6 = .ok (.iconst 0, 1) := by decide +kernel
theorem dX8_create_7 : decode cX8_create 7 = .ok (.iconst 2, 1) := by decide +kernel
theorem dX8_create_8 : decode cX8_create 8 = .ok (.invokestatic 63, 3) := by decide +kernel
theorem dX8_create_11 : decode cX8_create 11 = .ok (.ifCond .eq 12, 3) := by decide +kernel
theorem dX8_create_14 : decode cX8_create 14 = .ok (.iload_n 2, 1) := by decide +kernel
theorem dX8_create_15 : decode cX8_create 15 = .ok (.iconst 1, 1) := by decide +kernel
theorem dX8_create_16 : decode cX8_create 16 = .ok (.iconst 4, 1) := by decide +kernel
theorem dX8_create_17 : decode cX8_create 17 = .ok (.invokestatic 63, 3) := by decide +kernel
theorem dX8_create_20 : decode cX8_create 20 = .ok (.ifCond .ne 5, 3) := by decide +kernel
theorem dX8_create_23 : decode cX8_create 23 = .ok (.iconst 0, 1) := by decide +kernel
theorem dX8_create_24 : decode cX8_create 24 = .ok (.ireturn, 1) := by decide +kernel
theorem dX8_create_25 : decode cX8_create 25 = .ok (.aload_n 0, 1) := by decide +kernel
theorem dX8_create_26 : decode cX8_create 26 = .ok (.getfield 7, 3) := by decide +kernel
theorem dX8_create_29 : decode cX8_create 29 = .ok (.iload_n 1, 1) := by decide +kernel
theorem dX8_create_30 : decode cX8_create 30 = .ok (.iload_n 2, 1) := by decide +kernel
theorem dX8_create_31 : decode cX8_create 31 = .ok (.iastore, 1) := by decide +kernel
theorem dX8_create_32 : decode cX8_create 32 = .ok (.aload_n 0, 1) := by decide +kernel
theorem dX8_create_33 : decode cX8_create 33 = .ok (.getfield 13, 3) := by decide +kernel
theorem dX8_create_36 : decode cX8_create 36 = .ok (.iload_n 1, 1) := by decide +kernel
theorem dX8_create_37 : decode cX8_create 37 = .ok (.iconst 0, 1) := by decide +kernel
theorem dX8_create_38 : decode cX8_create 38 = .ok (.iastore, 1) := by decide +kernel
theorem dX8_create_39 : decode cX8_create 39 = .ok (.iconst 0, 1) := by decide +kernel
theorem dX8_create_40 : decode cX8_create 40 = .ok (.istore_n 3, 1) := by decide +kernel
theorem dX8_create_41 : decode cX8_create 41 = .ok (.iload_n 3, 1) := by decide +kernel
theorem dX8_create_42 : decode cX8_create 42 = .ok (.bipush 60, 2) := by decide +kernel
theorem dX8_create_44 : decode cX8_create 44 = .ok (.if_icmp .ge 21, 3) := by decide +kernel
theorem dX8_create_47 : decode cX8_create 47 = .ok (.aload_n 0, 1) := by decide +kernel
theorem dX8_create_48 : decode cX8_create 48 = .ok (.getfield 16, 3) := by decide +kernel
theorem dX8_create_51 : decode cX8_create 51 = .ok (.bipush 60, 2) := by decide +kernel
theorem dX8_create_53 : decode cX8_create 53 = .ok (.iload_n 1, 1) := by decide +kernel
theorem dX8_create_54 : decode cX8_create 54 = .ok (.imul, 1) := by decide +kernel
theorem dX8_create_55 : decode cX8_create 55 = .ok (.iload_n 3, 1) := by decide +kernel
theorem dX8_create_56 : decode cX8_create 56 = .ok (.iadd, 1) := by decide +kernel
theorem dX8_create_57 : decode cX8_create 57 = .ok (.iconst 0, 1) := by decide +kernel
theorem dX8_create_58 : decode cX8_create 58 = .ok (.bastore, 1) := by decide +kernel
theorem dX8_create_59 : decode cX8_create 59 = .ok (.iinc 3 1, 3) := by decide +kernel
theorem dX8_create_62 : decode cX8_create 62 = .ok (.goto (-21), 3) := by decide +kernel
theorem dX8_create_65 : decode cX8_create 65 = .ok (.iconst 0, 1) := by decide +kernel
theorem dX8_create_66 : decode cX8_create 66 = .ok (.istore_n 3, 1) := by decide +kernel
theorem dX8_create_67 : decode cX8_create 67 = .ok (.iload_n 3, 1) := by decide +kernel
theorem dX8_create_68 : decode cX8_create 68 = .ok (.bipush 8, 2) := by decide +kernel
theorem dX8_create_70 : decode cX8_create 70 = .ok (.if_icmp .ge 21, 3) := by decide +kernel
theorem dX8_create_73 : decode cX8_create 73 = .ok (.aload_n 0, 1) := by decide +kernel
theorem dX8_create_74 : decode cX8_create 74 = .ok (.getfield 23, 3) := by decide +kernel
theorem dX8_create_77 : decode cX8_create 77 = .ok (.bipush 8, 2) := by decide +kernel
theorem dX8_create_79 : decode cX8_create 79 = .ok (.iload_n 1, 1) := by decide +kernel
theorem dX8_create_80 : decode cX8_create 80 = .ok (.imul, 1) := by decide +kernel
theorem dX8_create_81 : decode cX8_create 81 = .ok (.iload_n 3, 1) := by decide +kernel
theorem dX8_create_82 : decode cX8_create 82 = .ok (.iadd, 1) := by decide +kernel
theorem dX8_create_83 : decode cX8_create 83 = .ok (.iconst 0, 1) := by decide +kernel
theorem dX8_create_84 : decode cX8_create 84 = .ok (.bastore, 1) := by decide +kernel
theorem dX8_create_85 : decode cX8_create 85 = .ok (.iinc 3 1, 3) := by decide +kernel
theorem dX8_create_88 : decode cX8_create 88 = .ok (.goto (-21), 3) := by decide +kernel
theorem dX8_create_91 : decode cX8_create 91 = .ok (.aload_n 0, 1) := by decide +kernel
theorem dX8_create_92 : decode cX8_create 92 = .ok (.invokevirtual 56, 3) := by decide +kernel
theorem dX8_create_95 : decode cX8_create 95 = .ok (.iconst 1, 1) := by decide +kernel
theorem dX8_create_96 : decode cX8_create 96 = .ok (.ireturn, 1) := by decide +kernel
theorem dX8_insert_0 : decode cX8_insert 0 = .ok (.aload_n 0, 1) := by decide +kernel
theorem dX8_insert_1 : decode cX8_insert 1 = .ok (.aload_n 0, 1) := by decide +kernel
theorem dX8_insert_2 : decode cX8_insert 2 = .ok (.iload_n 1, 1) := by decide +kernel
theorem dX8_insert_3 : decode cX8_insert 3 = .ok (.invokevirtual 67, 3) := by decide +kernel
theorem dX8_insert_6 : decode cX8_insert 6 = .ok (.ifCond .ne 7, 3) := by decide +kernel
theorem dX8_insert_9 : decode cX8_insert 9 = .ok (.iconst 1, 1) := by decide +kernel
theorem dX8_insert_10 : decode cX8_insert 10 = .ok (.goto 29, 3) := by decide +kernel
theorem dX8_insert_13 : decode cX8_insert 13 = .ok (.aload_n 0, 1) := by decide +kernel
theorem dX8_insert_14 : decode cX8_insert 14 = .ok (.iload_n 1, 1) := by decide +kernel
theorem dX8_insert_15 : decode cX8_insert 15 = .ok (.invokevirtual 74, 3) := by decide +kernel
theorem dX8_insert_18 : decode cX8_insert 18 = .ok (.bipush 24, 2) := by decide +kernel
theorem dX8_insert_20 : decode cX8_insert 20 = .ok (.if_icmp .eq 14, 3) := by decide +kernel
theorem dX8_insert_23 : decode cX8_insert 23 = .ok (.aload_n 0, 1) := by decide +kernel
theorem dX8_insert_24 : decode cX8_insert 24 = .ok (.getfield 13, 3) := by decide +kernel
theorem dX8_insert_27 : decode cX8_insert 27 = .ok (.iload_n 1, 1) := by decide +kernel
theorem dX8_insert_28 : decode cX8_insert 28 = .ok (.iaload, 1) := by decide +kernel
theorem dX8_insert_29 : decode cX8_insert 29 = .ok (.bipush 60, 2) := by decide +kernel
theorem dX8_insert_31 : decode cX8_insert 31 = .ok (.if_icmp .ne 7, 3) := by decide +kernel
theorem dX8_insert_34 : decode cX8_insert 34 = .ok (.iconst 2, 1) := by decide +kernel
theorem dX8_insert_35 : decode cX8_insert 35 = .ok (.goto 4, 3) := by decide +kernel
theorem dX8_insert_38 : decode cX8_insert 38 = .ok (.iconst 0, 1) := by decide +kernel
theorem dX8_insert_39 : decode cX8_insert 39 = .ok (.putfield 59, 3) := by decide +kernel
theorem dX8_insert_42 : decode cX8_insert 42 = .ok (.aload_n 0, 1) := by decide +kernel
theorem dX8_insert_43 : decode cX8_insert 43 = .ok (.getfield 59, 3) := by decide +kernel
theorem dX8_insert_46 : decode cX8_insert 46 = .ok (.ifCond .le 5, 3) := by decide +kernel
theorem dX8_insert_49 : decode cX8_insert 49 = .ok (.iconst 0, 1) := by decide +kernel
theorem dX8_insert_50 : decode cX8_insert 50 = .ok (.ireturn, 1) := by decide +kernel
theorem dX8_insert_51 : decode cX8_insert 51 = .ok (.aload_n 0, 1) := by decide +kernel
theorem dX8_insert_52 : decode cX8_insert 52 = .ok (.getfield 13, 3) := by decide +kernel
theorem dX8_insert_55 : decode cX8_insert 55 = .ok (.iload_n 1, 1) := by decide +kernel
theorem dX8_insert_56 : decode cX8_insert 56 = .ok (.iaload, 1) := by decide +kernel
theorem dX8_insert_57 : decode cX8_insert 57 = .ok (.istore 6, 2) := by decide +kernel
theorem dX8_insert_59 : decode cX8_insert 59 = .ok (.aload_n 0, 1) := by decide +kernel
theorem dX8_insert_60 : decode cX8_insert 60 = .ok (.getfield 13, 3) := by decide +kernel
theorem dX8_insert_63 : decode cX8_insert 63 = .ok (.iload_n 1, 1) := by decide +kernel
theorem dX8_insert_64 : decode cX8_insert 64 = .ok (.dup2, 1) := by decide +kernel
theorem dX8_insert_65 : decode cX8_insert 65 = .ok (.iaload, 1) := by decide +kernel
theorem dX8_insert_66 : decode cX8_insert 66 = .ok (.iconst 1, 1) := by decide +kernel
theorem dX8_insert_67 : decode cX8_insert 67 = .ok (.iadd, 1) := by decide +kernel
theorem dX8_insert_68 : decode cX8_insert 68 = .ok (.iastore, 1) := by decide +kernel
theorem dX8_insert_69 : decode cX8_insert 69 = .ok (.aload_n 0, 1) := by decide +kernel
theorem dX8_insert_70 : decode cX8_insert 70 = .ok (.getfield 16, 3) := by decide +kernel
theorem dX8_insert_73 : decode cX8_insert 73 = .ok (.bipush 60, 2) := by decide +kernel
theorem dX8_insert_75 : decode cX8_insert 75 = .ok (.iload_n 1, 1) := by decide +kernel
theorem dX8_insert_76 : decode cX8_insert 76 = .ok (.imul, 1) := by decide +kernel
theorem dX8_insert_77 : decode cX8_insert 77 = .ok (.iload 6, 2) := by decide +kernel
theorem dX8_insert_79 : decode cX8_insert 79 = .ok (.iadd, 1) := by decide +kernel
theorem dX8_insert_80 : decode cX8_insert 80 = .ok (.iconst 1, 1) := by decide +kernel
theorem dX8_insert_81 : decode cX8_insert 81 = .ok (.bastore, 1) := by decide +kernel
theorem dX8_insert_82 : decode cX8_insert 82 = .ok (.sipush 240, 3) := by decide +kernel
theorem dX8_insert_85 : decode cX8_insert 85 = .ok (.iload_n 1, 1) := by decide +kernel
theorem dX8_insert_86 : decode cX8_insert 86 = .ok (.imul, 1) := by decide +kernel
theorem dX8_insert_87 : decode cX8_insert 87 = .ok (.iconst 4, 1) := by decide +kernel
theorem dX8_insert_88 : decode cX8_insert 88 = .ok (.iload 6, 2) := by decide +kernel
theorem dX8_insert_90 : decode cX8_insert 90 = .ok (.imul, 1) := by decide +kernel
theorem dX8_insert_91 : decode cX8_insert 91 = .ok (.iadd, 1) := by decide +kernel
theorem dX8_insert_92 : decode cX8_insert 92 = .ok (.istore 7, 2) := by decide +kernel
theorem dX8_insert_94 : decode cX8_insert 94 = .ok (.aload_n 0, 1) := by decide +kernel
theorem dX8_insert_95 : decode cX8_insert 95 = .ok (.getfield 20, 3) := by decide +kernel
theorem dX8_insert_98 : decode cX8_insert 98 = .ok (.iload 7, 2) := by decide +kernel
theorem dX8_insert_100 : decode cX8_insert 100 = .ok (.iload_n 2, 1) := by decide +kernel
theorem dX8_insert_101 : decode cX8_insert 101 = .ok (.iastore, 1) := by decide +kernel
theorem dX8_insert_102 : decode cX8_insert 102 = .ok (.aload_n 0, 1) := by decide +kernel
theorem dX8_insert_103 : decode cX8_insert 103 = .ok (.getfield 20, 3) := by decide +kernel
theorem dX8_insert_106 : decode cX8_insert 106 = .ok (.iload 7, 2) := by decide +kernel
theorem dX8_insert_108 : decode cX8_insert 108 = .ok (.iconst 1, 1) := by decide +kernel
theorem dX8_insert_109 : decode cX8_insert 109 = .ok (.iadd, 1) := by decide +kernel
theorem dX8_insert_110 : decode cX8_insert 110 = .ok (.iload_n 3, 1) := by decide +kernel
theorem dX8_insert_111 : decode cX8_insert 111 = .ok (.iastore, 1) := by decide +kernel
theorem dX8_insert_112 : decode cX8_insert 112 = .ok (.aload_n 0, 1) := by decide +kernel
theorem dX8_insert_113 : decode cX8_insert 113 = .ok (.getfield 20, 3) := by decide +kernel
theorem dX8_insert_116 : decode cX8_insert 116 = .ok (.iload 7, 2) := by decide +kernel
theorem dX8_insert_118 : decode cX8_insert 118 = .ok (.iconst 2, 1) := by decide +kernel
theorem dX8_insert_119 : decode cX8_insert 119 = .ok (.iadd, 1) := by decide +kernel
theorem dX8_insert_120 : decode cX8_insert 120 = .ok (.iload 4, 2) := by decide +kernel
theorem dX8_insert_122 : decode cX8_insert 122 = .ok (.iastore, 1) := by decide +kernel
theorem dX8_insert_123 : decode cX8_insert 123 = .ok (.aload_n 0, 1) := by decide +kernel
theorem dX8_insert_124 : decode cX8_insert 124 = .ok (.getfield 20, 3) := by decide +kernel
theorem dX8_insert_127 : decode cX8_insert 127 = .ok (.iload 7, 2) := by decide +kernel
theorem dX8_insert_129 : decode cX8_insert 129 = .ok (.iconst 3, 1) := by decide +kernel
theorem dX8_insert_130 : decode cX8_insert 130 = .ok (.iadd, 1) := by decide +kernel
theorem dX8_insert_131 : decode cX8_insert 131 = .ok (.iload 5, 2) := by decide +kernel
theorem dX8_insert_133 : decode cX8_insert 133 = .ok (.iastore, 1) := by decide +kernel
theorem dX8_insert_134 : decode cX8_insert 134 = .ok (.aload_n 0, 1) := by decide +kernel
theorem dX8_insert_135 : decode cX8_insert 135 = .ok (.invokevirtual 78, 3) := by decide +kernel
theorem dX8_insert_138 : decode cX8_insert 138 = .ok (.iload 6, 2) := by decide +kernel
theorem dX8_insert_140 : decode cX8_insert 140 = .ok (.ireturn, 1) := by decide +kernel
theorem dX8_delete_0 : decode cX8_delete 0 = .ok (.aload_n 0, 1) := by decide +kernel
theorem dX8_delete_1 : decode cX8_delete 1 = .ok (.aload_n 0, 1) := by decide +kernel
theorem dX8_delete_2 : decode cX8_delete 2 = .ok (.iload_n 1, 1) := by decide +kernel
theorem dX8_delete_3 : decode cX8_delete 3 = .ok (.iload_n 2, 1) := by decide +kernel
theorem dX8_delete_4 : decode cX8_delete 4 = .ok (.invokevirtual 81, 3) := by decide +kernel
theorem dX8_delete_7 : decode cX8_delete 7 = .ok (.ifCond .eq 7, 3) := by decide +kernel
theorem dX8_delete_10 : decode cX8_delete 10 = .ok (.iconst 0, 1) := by decide +kernel
theorem dX8_delete_11 : decode cX8_delete 11 = .ok (.goto 4, 3) := by decide +kernel
theorem dX8_delete_14 : decode cX8_delete 14 = .ok (.iconst 1, 1) := by decide +kernel
theorem dX8_delete_15 : decode cX8_delete 15 = .ok (.putfield 59, 3) := by decide +kernel
theorem dX8_delete_18 : decode cX8_delete 18 = .ok (.aload_n 0, 1) := by decide +kernel
theorem dX8_delete_19 : decode cX8_delete 19 = .ok (.getfield 59, 3) := by decide +kernel
theorem dX8_delete_22 : decode cX8_delete 22 = .ok (.ifCond .ne 19, 3) := by decide +kernel
theorem dX8_delete_25 : decode cX8_delete 25 = .ok (.aload_n 0, 1) := by decide +kernel
theorem dX8_delete_26 : decode cX8_delete 26 = .ok (.getfield 16, 3) := by decide +kernel
theorem dX8_delete_29 : decode cX8_delete 29 = .ok (.bipush 60, 2) := by decide +kernel
theorem dX8_delete_31 : decode cX8_delete 31 = .ok (.iload_n 1, 1) := by decide +kernel
theorem dX8_delete_32 : decode cX8_delete 32 = .ok (.imul, 1) := by decide +kernel
theorem dX8_delete_33 : decode cX8_delete 33 = .ok (.iload_n 2, 1) := by decide +kernel
theorem dX8_delete_34 : decode cX8_delete 34 = .ok (.iadd, 1) := by decide +kernel
theorem dX8_delete_35 : decode cX8_delete 35 = .ok (.iconst 0, 1) := by decide +kernel
theorem dX8_delete_36 : decode cX8_delete 36 = .ok (.bastore, 1) := by decide +kernel
theorem dX8_delete_37 : decode cX8_delete 37 = .ok (.aload_n 0, 1) := by decide +kernel
theorem dX8_delete_38 : decode cX8_delete 38 = .ok (.invokevirtual 78, 3) := by decide +kernel
theorem dX8_delete_41 : decode cX8_delete 41 = .ok (.return_, 1) := by decide +kernel
theorem dX8_update_0 : decode cX8_update 0 = .ok (.aload_n 0, 1) := by decide +kernel
theorem dX8_update_1 : decode cX8_update 1 = .ok (.aload_n 0, 1) := by decide +kernel
theorem dX8_update_2 : decode cX8_update 2 = .ok (.iload_n 1, 1) := by decide +kernel
theorem dX8_update_3 : decode cX8_update 3 = .ok (.iload_n 2, 1) := by decide +kernel
theorem dX8_update_4 : decode cX8_update 4 = .ok (.invokevirtual 81, 3) := by decide +kernel
theorem dX8_update_7 : decode cX8_update 7 = .ok (.ifCond .eq 16, 3) := by decide +kernel
theorem dX8_update_10 : decode cX8_update 10 = .ok (.aload_n 0, 1) := by decide +kernel
theorem dX8_update_11 : decode cX8_update 11 = .ok (.iload_n 1, 1) := by decide +kernel
theorem dX8_update_12 : decode cX8_update 12 = .ok (.iload_n 3, 1) := by decide +kernel
theorem dX8_update_13 : decode cX8_update 13 = .ok (.invokevirtual 85, 3) := by decide +kernel
theorem dX8_update_16 : decode cX8_update 16 = .ok (.ifCond .eq 7, 3) := by decide +kernel
theorem dX8_update_19 : decode cX8_update 19 = .ok (.iconst 0, 1) := by decide +kernel
theorem dX8_update_20 : decode cX8_update 20 = .ok (.goto 4, 3) := by decide +kernel
theorem dX8_update_23 : decode cX8_update 23 = .ok (.iconst 1, 1) := by decide +kernel
theorem dX8_update_24 : decode cX8_update 24 = .ok (.putfield 59, 3) := by decide +kernel
theorem dX8_update_27 : decode cX8_update 27 = .ok (.aload_n 0, 1) := by decide +kernel
theorem dX8_update_28 : decode cX8_update 28 = .ok (.getfield 59, 3) := by decide +kernel
theorem dX8_update_31 : decode cX8_update 31 = .ok (.ifCond .ne 25, 3) := by decide +kernel
theorem dX8_update_34 : decode cX8_update 34 = .ok (.aload_n 0, 1) := by decide +kernel
theorem dX8_update_35 : decode cX8_update 35 = .ok (.getfield 20, 3) := by decide +kernel
theorem dX8_update_38 : decode cX8_update 38 = .ok (.sipush 240, 3) := by decide +kernel
theorem dX8_update_41 : decode cX8_update 41 = .ok (.iload_n 1, 1) := by decide +kernel
theorem dX8_update_42 : decode cX8_update 42 = .ok (.imul, 1) := by decide +kernel
theorem dX8_update_43 : decode cX8_update 43 = .ok (.iconst 4, 1) := by decide +kernel
theorem dX8_update_44 : decode cX8_update 44 = .ok (.iload_n 2, 1) := by decide +kernel
theorem dX8_update_45 : decode cX8_update 45 = .ok (.imul, 1) := by decide +kernel
theorem dX8_update_46 : decode cX8_update 46 = .ok (.iadd, 1) := by decide +kernel
theorem dX8_update_47 : decode cX8_update 47 = .ok (.iload_n 3, 1) := by decide +kernel
theorem dX8_update_48 : decode cX8_update 48 = .ok (.iadd, 1) := by decide +kernel
theorem dX8_update_49 : decode cX8_update 49 = .ok (.iload 4, 2) := by decide +kernel
theorem dX8_update_51 : decode cX8_update 51 = .ok (.iastore, 1) := by decide +kernel
theorem dX8_update_52 : decode cX8_update 52 = .ok (.aload_n 0, 1) := by decide +kernel
theorem dX8_update_53 : decode cX8_update 53 = .ok (.invokevirtual 78, 3) := by decide +kernel
theorem dX8_update_56 : decode cX8_update 56 = .ok (.return_, 1) := by decide +kernel
theorem dX8_cell_0 : decode cX8_cell 0 = .ok (.aload_n 0, 1) := by decide +kernel
theorem dX8_cell_1 : decode cX8_cell 1 = .ok (.aload_n 0, 1) := by decide +kernel
theorem dX8_cell_2 : decode cX8_cell 2 = .ok (.iload_n 1, 1) := by decide +kernel
theorem dX8_cell_3 : decode cX8_cell 3 = .ok (.iload_n 2, 1) := by decide +kernel
theorem dX8_cell_4 : decode cX8_cell 4 = .ok (.invokevirtual 81, 3) := by decide +kernel
theorem dX8_cell_7 : decode cX8_cell 7 = .ok (.ifCond .eq 16, 3) := by decide +kernel
theorem dX8_cell_10 : decode cX8_cell 10 = .ok (.aload_n 0, 1) := by decide +kernel
theorem dX8_cell_11 : decode cX8_cell 11 = .ok (.iload_n 1, 1) := by decide +kernel
theorem dX8_cell_12 : decode cX8_cell 12 = .ok (.iload_n 3, 1) := by decide +kernel
theorem dX8_cell_13 : decode cX8_cell 13 = .ok (.invokevirtual 85, 3) := by decide +kernel
theorem dX8_cell_16 : decode cX8_cell 16 = .ok (.ifCond .eq 7, 3) := by decide +kernel
theorem dX8_cell_19 : decode cX8_cell 19 = .ok (.iconst 0, 1) := by decide +kernel
theorem dX8_cell_20 : decode cX8_cell 20 = .ok (.goto 4, 3) := by decide +kernel
theorem dX8_cell_23 : decode cX8_cell 23 = .ok (.iconst 1, 1) := by decide +kernel
theorem dX8_cell_24 : decode cX8_cell 24 = .ok (.putfield 59, 3) := by decide +kernel
theorem dX8_cell_27 : decode cX8_cell 27 = .ok (.aload_n 0, 1) := by decide +kernel
theorem dX8_cell_28 : decode cX8_cell 28 = .ok (.getfield 59, 3) := by decide +kernel
theorem dX8_cell_31 : decode cX8_cell 31 = .ok (.ifCond .ne 13, 3) := by decide +kernel
theorem dX8_cell_34 : decode cX8_cell 34 = .ok (.aload_n 0, 1) := by decide +kernel
theorem dX8_cell_35 : decode cX8_cell 35 = .ok (.iload_n 1, 1) := by decide +kernel
theorem dX8_cell_36 : decode cX8_cell 36 = .ok (.iload_n 2, 1) := by decide +kernel
theorem dX8_cell_37 : decode cX8_cell 37 = .ok (.iload_n 3, 1) := by decide +kernel
theorem dX8_cell_38 : decode cX8_cell 38 = .ok (.invokevirtual 88, 3) := by decide +kernel
theorem dX8_cell_41 : decode cX8_cell 41 = .ok (.goto 4, 3) := by decide +kernel
theorem dX8_cell_44 : decode cX8_cell 44 = .ok (.iconst 0, 1) := by decide +kernel
theorem dX8_cell_45 : decode cX8_cell 45 = .ok (.ireturn, 1) := by decide +kernel
theorem dX8_setIndex_0 : decode cX8_setIndex 0 = .ok (.aload_n 0, 1) := by decide +kernel
theorem dX8_setIndex_1 : decode cX8_setIndex 1 = .ok (.iconst 0, 1) := by decide +kernel
theorem dX8_setIndex_2 : decode cX8_setIndex 2 = .ok (.putfield 59, 3) := by decide +kernel
theorem dX8_setIndex_5 : decode cX8_setIndex 5 = .ok (.aload_n 0, 1) := by decide +kernel
theorem dX8_setIndex_6 : decode cX8_setIndex 6 = .ok (.iload_n 1, 1) := by decide +kernel
theorem dX8_setIndex_7 : decode cX8_setIndex 7 = .ok (.iload_n 2, 1) := by decide +kernel
theorem dX8_setIndex_8 : decode cX8_setIndex 8 = .ok (.invokevirtual 85, 3) := by decide +kernel
theorem dX8_setIndex_11 : decode cX8_setIndex 11 = .ok (.ifCond .eq 32, 3) := by decide +kernel
theorem dX8_setIndex_14 : decode cX8_setIndex 14 = .ok (.iload_n 3, 1) := by decide +kernel
theorem dX8_setIndex_15 : decode cX8_setIndex 15 = .ok (.iconst 0, 1) := by decide +kernel
theorem dX8_setIndex_16 : decode cX8_setIndex 16 = .ok (.iconst 1, 1) := by decide +kernel
theorem dX8_setIndex_17 : decode cX8_setIndex 17 = .ok (.invokestatic 63, 3) := by decide +kernel
theorem dX8_setIndex_20 : decode cX8_setIndex 20 = .ok (.ifCond .eq 23, 3) := by decide +kernel
theorem dX8_setIndex_23 : decode cX8_setIndex 23 = .ok (.aload_n 0, 1) := by decide +kernel
theorem dX8_setIndex_24 : decode cX8_setIndex 24 = .ok (.getfield 23, 3) := by decide +kernel
theorem dX8_setIndex_27 : decode cX8_setIndex 27 = .ok (.bipush 8, 2) := by decide +kernel
theorem dX8_setIndex_29 : decode cX8_setIndex 29 = .ok (.iload_n 1, 1) := by decide +kernel
theorem dX8_setIndex_30 : decode cX8_setIndex 30 = .ok (.imul, 1) := by decide +kernel
theorem dX8_setIndex_31 : decode cX8_setIndex 31 = .ok (.iconst 4, 1) := by decide +kernel
theorem dX8_setIndex_32 : decode cX8_setIndex 32 = .ok (.iload_n 3, 1) := by decide +kernel
theorem dX8_setIndex_33 : decode cX8_setIndex 33 = .ok (.imul, 1) := by decide +kernel
theorem dX8_setIndex_34 : decode cX8_setIndex 34 = .ok (.iadd, 1) := by decide +kernel
theorem dX8_setIndex_35 : decode cX8_setIndex 35 = .ok (.iload_n 2, 1) := by decide +kernel
theorem dX8_setIndex_36 : decode cX8_setIndex 36 = .ok (.iadd, 1) := by decide +kernel
theorem dX8_setIndex_37 : decode cX8_setIndex 37 = .ok (.baload, 1) := by decide +kernel
theorem dX8_setIndex_38 : decode cX8_setIndex 38 = .ok (.iload 4, 2) := by decide +kernel
theorem dX8_setIndex_40 : decode cX8_setIndex 40 = .ok (.if_icmp .ne 5, 3) := by decide +kernel
theorem dX8_setIndex_43 : decode cX8_setIndex 43 = .ok (.iconst 0, 1) := by decide +kernel
theorem dX8_setIndex_44 : decode cX8_setIndex 44 = .ok (.ireturn, 1) := by decide +kernel
theorem dX8_setIndex_45 : decode cX8_setIndex 45 = .ok (.aload_n 0, 1) := by decide +kernel
theorem dX8_setIndex_46 : decode cX8_setIndex 46 = .ok (.getfield 23, 3) := by decide +kernel
theorem dX8_setIndex_49 : decode cX8_setIndex 49 = .ok (.bipush 8, 2) := by decide +kernel
theorem dX8_setIndex_51 : decode cX8_setIndex 51 = .ok (.iload_n 1, 1) := by decide +kernel
theorem dX8_setIndex_52 : decode cX8_setIndex 52 = .ok (.imul, 1) := by decide +kernel
theorem dX8_setIndex_53 : decode cX8_setIndex 53 = .ok (.iconst 4, 1) := by decide +kernel
theorem dX8_setIndex_54 : decode cX8_setIndex 54 = .ok (.iload_n 3, 1) := by decide +kernel
theorem dX8_setIndex_55 : decode cX8_setIndex 55 = .ok (.imul, 1) := by decide +kernel
theorem dX8_setIndex_56 : decode cX8_setIndex 56 = .ok (.iadd, 1) := by decide +kernel
theorem dX8_setIndex_57 : decode cX8_setIndex 57 = .ok (.iload_n 2, 1) := by decide +kernel
theorem dX8_setIndex_58 : decode cX8_setIndex 58 = .ok (.iadd, 1) := by decide +kernel
theorem dX8_setIndex_59 : decode cX8_setIndex 59 = .ok (.iload 4, 2) := by decide +kernel
theorem dX8_setIndex_61 : decode cX8_setIndex 61 = .ok (.bastore, 1) := by decide +kernel
theorem dX8_setIndex_62 : decode cX8_setIndex 62 = .ok (.aload_n 0, 1) := by decide +kernel
theorem dX8_setIndex_63 : decode cX8_setIndex 63 = .ok (.invokevirtual 78, 3) := by decide +kernel
theorem dX8_setIndex_66 : decode cX8_setIndex 66 = .ok (.iconst 1, 1) := by decide +kernel
theorem dX8_setIndex_67 : decode cX8_setIndex 67 = .ok (.ireturn, 1) := by decide +kernel
theorem dX8_index_0 : decode cX8_index 0 = .ok (.aload_n 0, 1) := by decide +kernel
theorem dX8_index_1 : decode cX8_index 1 = .ok (.iload_n 1, 1) := by decide +kernel
theorem dX8_index_2 : decode cX8_index 2 = .ok (.iload_n 2, 1) := by decide +kernel
theorem dX8_index_3 : decode cX8_index 3 = .ok (.iload_n 3, 1) := by decide +kernel
theorem dX8_index_4 : decode cX8_index 4 = .ok (.iconst 1, 1) := by decide +kernel
theorem dX8_index_5 : decode cX8_index 5 = .ok (.invokevirtual 92, 3) := by decide +kernel
theorem dX8_index_8 : decode cX8_index 8 = .ok (.ireturn, 1) := by decide +kernel
theorem dX8_drop_0 : decode cX8_drop 0 = .ok (.aload_n 0, 1) := by decide +kernel
theorem dX8_drop_1 : decode cX8_drop 1 = .ok (.iload_n 1, 1) := by decide +kernel
theorem dX8_drop_2 : decode cX8_drop 2 = .ok (.iload_n 2, 1) := by decide +kernel
theorem dX8_drop_3 : decode cX8_drop 3 = .ok (.iload_n 3, 1) := by decide +kernel
theorem dX8_drop_4 : decode cX8_drop 4 = .ok (.iconst 0, 1) := by decide +kernel
theorem dX8_drop_5 : decode cX8_drop 5 = .ok (.invokevirtual 92, 3) := by decide +kernel
theorem dX8_drop_8 : decode cX8_drop 8 = .ok (.ireturn, 1) := by decide +kernel
theorem dX8_empty_0 : decode cX8_empty 0 = .ok (.aload_n 0, 1) := by decide +kernel
theorem dX8_empty_1 : decode cX8_empty 1 = .ok (.iconst 0, 1) := by decide +kernel
theorem dX8_empty_2 : decode cX8_empty 2 = .ok (.putfield 71, 3) := by decide +kernel
theorem dX8_empty_5 : decode cX8_empty 5 = .ok (.aload_n 0, 1) := by decide +kernel
theorem dX8_empty_6 : decode cX8_empty 6 = .ok (.iconst 0, 1) := by decide +kernel
theorem dX8_empty_7 : decode cX8_empty 7 = .ok (.putfield 96, 3) := by decide +kernel
theorem dX8_empty_10 : decode cX8_empty 10 = .ok (.aload_n 0, 1) := by decide +kernel
theorem dX8_empty_11 : decode cX8_empty 11 = .ok (.iconst 0, 1) := by decide +kernel
theorem dX8_empty_12 : decode cX8_empty 12 = .ok (.putfield 99, 3) := by decide +kernel
theorem dX8_empty_15 : decode cX8_empty 15 = .ok (.aload_n 0, 1) := by decide +kernel
theorem dX8_empty_16 : decode cX8_empty 16 = .ok (.iconst 0, 1) := by decide +kernel
theorem dX8_empty_17 : decode cX8_empty 17 = .ok (.putfield 102, 3) := by decide +kernel
theorem dX8_empty_20 : decode cX8_empty 20 = .ok (.aload_n 0, 1) := by decide +kernel
theorem dX8_empty_21 : decode cX8_empty 21 = .ok (.iconst 0, 1) := by decide +kernel
theorem dX8_empty_22 : decode cX8_empty 22 = .ok (.putfield 105, 3) := by decide +kernel
theorem dX8_empty_25 : decode cX8_empty 25 = .ok (.aload_n 0, 1) := by decide +kernel
theorem dX8_empty_26 : decode cX8_empty 26 = .ok (.iconst (-1), 1) := by decide +kernel
theorem dX8_empty_27 : decode cX8_empty 27 = .ok (.putfield 108, 3) := by decide +kernel
theorem dX8_empty_30 : decode cX8_empty 30 = .ok (.aload_n 0, 1) := by decide +kernel
theorem dX8_empty_31 : decode cX8_empty 31 = .ok (.iconst 0, 1) := by decide +kernel
theorem dX8_empty_32 : decode cX8_empty 32 = .ok (.putfield 111, 3) := by decide +kernel
theorem dX8_empty_35 : decode cX8_empty 35 = .ok (.aload_n 0, 1) := by decide +kernel
theorem dX8_empty_36 : decode cX8_empty 36 = .ok (.bipush 64, 2) := by decide +kernel
theorem dX8_empty_38 : decode cX8_empty 38 = .ok (.putfield 115, 3) := by decide +kernel
theorem dX8_empty_41 : decode cX8_empty 41 = .ok (.aload_n 0, 1) := by decide +kernel
theorem dX8_empty_42 : decode cX8_empty 42 = .ok (.iconst 0, 1) := by decide +kernel
theorem dX8_empty_43 : decode cX8_empty 43 = .ok (.putfield 118, 3) := by decide +kernel
theorem dX8_empty_46 : decode cX8_empty 46 = .ok (.aload_n 0, 1) := by decide +kernel
theorem dX8_empty_47 : decode cX8_empty 47 = .ok (.iconst 0, 1) := by decide +kernel
theorem dX8_empty_48 : decode cX8_empty 48 = .ok (.putfield 121, 3) := by decide +kernel
theorem dX8_empty_51 : decode cX8_empty 51 = .ok (.return_, 1) := by decide +kernel
theorem dX8_ask_0 : decode cX8_ask 0 = .ok (.aload_n 0, 1) := by decide +kernel
theorem dX8_ask_1 : decode cX8_ask 1 = .ok (.iconst 0, 1) := by decide +kernel
theorem dX8_ask_2 : decode cX8_ask 2 = .ok (.putfield 59, 3) := by decide +kernel
theorem dX8_ask_5 : decode cX8_ask 5 = .ok (.aload_n 0, 1) := by decide +kernel
theorem dX8_ask_6 : decode cX8_ask 6 = .ok (.invokevirtual 56, 3) := by decide +kernel
theorem dX8_ask_9 : decode cX8_ask 9 = .ok (.return_, 1) := by decide +kernel
theorem dX8_from_0 : decode cX8_from 0 = .ok (.aload_n 0, 1) := by decide +kernel
theorem dX8_from_1 : decode cX8_from 1 = .ok (.iconst 0, 1) := by decide +kernel
theorem dX8_from_2 : decode cX8_from 2 = .ok (.putfield 59, 3) := by decide +kernel
theorem dX8_from_5 : decode cX8_from 5 = .ok (.aload_n 0, 1) := by decide +kernel
theorem dX8_from_6 : decode cX8_from 6 = .ok (.iload_n 1, 1) := by decide +kernel
theorem dX8_from_7 : decode cX8_from 7 = .ok (.invokevirtual 67, 3) := by decide +kernel
theorem dX8_from_10 : decode cX8_from 10 = .ok (.ifCond .eq 18, 3) := by decide +kernel
theorem dX8_from_13 : decode cX8_from 13 = .ok (.aload_n 0, 1) := by decide +kernel
theorem dX8_from_14 : decode cX8_from 14 = .ok (.getfield 96, 3) := by decide +kernel
theorem dX8_from_17 : decode cX8_from 17 = .ok (.iconst 3, 1) := by decide +kernel
theorem dX8_from_18 : decode cX8_from 18 = .ok (.if_icmp .eq 10, 3) := by decide +kernel
theorem dX8_from_21 : decode cX8_from 21 = .ok (.aload_n 0, 1) := by decide +kernel
theorem dX8_from_22 : decode cX8_from 22 = .ok (.getfield 71, 3) := by decide +kernel
theorem dX8_from_25 : decode cX8_from 25 = .ok (.ifCond .eq 5, 3) := by decide +kernel
theorem dX8_from_28 : decode cX8_from 28 = .ok (.iconst (-1), 1) := by decide +kernel
theorem dX8_from_29 : decode cX8_from 29 = .ok (.ireturn, 1) := by decide +kernel
theorem dX8_from_30 : decode cX8_from 30 = .ok (.aload_n 0, 1) := by decide +kernel
theorem dX8_from_31 : decode cX8_from 31 = .ok (.getfield 26, 3) := by decide +kernel
theorem dX8_from_34 : decode cX8_from 34 = .ok (.aload_n 0, 1) := by decide +kernel
theorem dX8_from_35 : decode cX8_from 35 = .ok (.getfield 96, 3) := by decide +kernel
theorem dX8_from_38 : decode cX8_from 38 = .ok (.iload_n 1, 1) := by decide +kernel
theorem dX8_from_39 : decode cX8_from 39 = .ok (.iastore, 1) := by decide +kernel
theorem dX8_from_40 : decode cX8_from 40 = .ok (.aload_n 0, 1) := by decide +kernel
theorem dX8_from_41 : decode cX8_from 41 = .ok (.dup, 1) := by decide +kernel
theorem dX8_from_42 : decode cX8_from 42 = .ok (.getfield 96, 3) := by decide +kernel
theorem dX8_from_45 : decode cX8_from 45 = .ok (.iconst 1, 1) := by decide +kernel
theorem dX8_from_46 : decode cX8_from 46 = .ok (.iadd, 1) := by decide +kernel
theorem dX8_from_47 : decode cX8_from 47 = .ok (.putfield 96, 3) := by decide +kernel
theorem dX8_from_50 : decode cX8_from 50 = .ok (.aload_n 0, 1) := by decide +kernel
theorem dX8_from_51 : decode cX8_from 51 = .ok (.getfield 96, 3) := by decide +kernel
theorem dX8_from_54 : decode cX8_from 54 = .ok (.iconst 1, 1) := by decide +kernel
theorem dX8_from_55 : decode cX8_from 55 = .ok (.isub, 1) := by decide +kernel
theorem dX8_from_56 : decode cX8_from 56 = .ok (.ireturn, 1) := by decide +kernel
theorem dX8_has_0 : decode cX8_has 0 = .ok (.aload_n 0, 1) := by decide +kernel
theorem dX8_has_1 : decode cX8_has 1 = .ok (.getfield 71, 3) := by decide +kernel
theorem dX8_has_4 : decode cX8_has 4 = .ok (.ifCond .ne 35, 3) := by decide +kernel
theorem dX8_has_7 : decode cX8_has 7 = .ok (.iload_n 1, 1) := by decide +kernel
theorem dX8_has_8 : decode cX8_has 8 = .ok (.iconst 0, 1) := by decide +kernel
theorem dX8_has_9 : decode cX8_has 9 = .ok (.aload_n 0, 1) := by decide +kernel
theorem dX8_has_10 : decode cX8_has 10 = .ok (.getfield 96, 3) := by decide +kernel
theorem dX8_has_13 : decode cX8_has 13 = .ok (.iconst 1, 1) := by decide +kernel
theorem dX8_has_14 : decode cX8_has 14 = .ok (.isub, 1) := by decide +kernel
theorem dX8_has_15 : decode cX8_has 15 = .ok (.invokestatic 63, 3) := by decide +kernel
theorem dX8_has_18 : decode cX8_has 18 = .ok (.ifCond .eq 21, 3) := by decide +kernel
theorem dX8_has_21 : decode cX8_has 21 = .ok (.aload_n 0, 1) := by decide +kernel
theorem dX8_has_22 : decode cX8_has 22 = .ok (.aload_n 0, 1) := by decide +kernel
theorem dX8_has_23 : decode cX8_has 23 = .ok (.getfield 26, 3) := by decide +kernel
theorem dX8_has_26 : decode cX8_has 26 = .ok (.iload_n 1, 1) := by decide +kernel
theorem dX8_has_27 : decode cX8_has 27 = .ok (.iaload, 1) := by decide +kernel
theorem dX8_has_28 : decode cX8_has 28 = .ok (.iload_n 2, 1) := by decide +kernel
theorem dX8_has_29 : decode cX8_has 29 = .ok (.invokevirtual 85, 3) := by decide +kernel
theorem dX8_has_32 : decode cX8_has 32 = .ok (.ifCond .eq 7, 3) := by decide +kernel
theorem dX8_has_35 : decode cX8_has 35 = .ok (.iconst 1, 1) := by decide +kernel
theorem dX8_has_36 : decode cX8_has 36 = .ok (.goto 4, 3) := by decide +kernel
theorem dX8_has_39 : decode cX8_has 39 = .ok (.iconst 0, 1) := by decide +kernel
theorem dX8_has_40 : decode cX8_has 40 = .ok (.ireturn, 1) := by decide +kernel
theorem dX8_where_0 : decode cX8_where 0 = .ok (.aload_n 0, 1) := by decide +kernel
theorem dX8_where_1 : decode cX8_where 1 = .ok (.iconst 0, 1) := by decide +kernel
theorem dX8_where_2 : decode cX8_where 2 = .ok (.putfield 59, 3) := by decide +kernel
theorem dX8_where_5 : decode cX8_where 5 = .ok (.aload_n 0, 1) := by decide +kernel
theorem dX8_where_6 : decode cX8_where 6 = .ok (.iload_n 1, 1) := by decide +kernel
theorem dX8_where_7 : decode cX8_where 7 = .ok (.iload_n 2, 1) := by decide +kernel
theorem dX8_where_8 : decode cX8_where 8 = .ok (.invokevirtual 124, 3) := by decide +kernel
theorem dX8_where_11 : decode cX8_where 11 = .ok (.ifCond .eq 20, 3) := by decide +kernel
theorem dX8_where_14 : decode cX8_where 14 = .ok (.iload_n 3, 1) := by decide +kernel
theorem dX8_where_15 : decode cX8_where 15 = .ok (.iconst 0, 1) := by decide +kernel
theorem dX8_where_16 : decode cX8_where 16 = .ok (.iconst 3, 1) := by decide +kernel
theorem dX8_where_17 : decode cX8_where 17 = .ok (.invokestatic 63, 3) := by decide +kernel
theorem dX8_where_20 : decode cX8_where 20 = .ok (.ifCond .eq 11, 3) := by decide +kernel
theorem dX8_where_23 : decode cX8_where 23 = .ok (.aload_n 0, 1) := by decide +kernel
theorem dX8_where_24 : decode cX8_where 24 = .ok (.getfield 99, 3) := by decide +kernel
theorem dX8_where_27 : decode cX8_where 27 = .ok (.iconst 4, 1) := by decide +kernel
theorem dX8_where_28 : decode cX8_where 28 = .ok (.if_icmp .ne 5, 3) := by decide +kernel
theorem dX8_where_31 : decode cX8_where 31 = .ok (.iconst 0, 1) := by decide +kernel
theorem dX8_where_32 : decode cX8_where 32 = .ok (.ireturn, 1) := by decide +kernel
theorem dX8_where_33 : decode cX8_where 33 = .ok (.aload_n 0, 1) := by decide +kernel
theorem dX8_where_34 : decode cX8_where 34 = .ok (.getfield 29, 3) := by decide +kernel
theorem dX8_where_37 : decode cX8_where 37 = .ok (.iconst 4, 1) := by decide +kernel
theorem dX8_where_38 : decode cX8_where 38 = .ok (.aload_n 0, 1) := by decide +kernel
theorem dX8_where_39 : decode cX8_where 39 = .ok (.getfield 99, 3) := by decide +kernel
theorem dX8_where_42 : decode cX8_where 42 = .ok (.imul, 1) := by decide +kernel
theorem dX8_where_43 : decode cX8_where 43 = .ok (.iload_n 1, 1) := by decide +kernel
theorem dX8_where_44 : decode cX8_where 44 = .ok (.iastore, 1) := by decide +kernel
theorem dX8_where_45 : decode cX8_where 45 = .ok (.aload_n 0, 1) := by decide +kernel
theorem dX8_where_46 : decode cX8_where 46 = .ok (.getfield 29, 3) := by decide +kernel
theorem dX8_where_49 : decode cX8_where 49 = .ok (.iconst 4, 1) := by decide +kernel
theorem dX8_where_50 : decode cX8_where 50 = .ok (.aload_n 0, 1) := by decide +kernel
theorem dX8_where_51 : decode cX8_where 51 = .ok (.getfield 99, 3) := by decide +kernel
theorem dX8_where_54 : decode cX8_where 54 = .ok (.imul, 1) := by decide +kernel
theorem dX8_where_55 : decode cX8_where 55 = .ok (.iconst 1, 1) := by decide +kernel
theorem dX8_where_56 : decode cX8_where 56 = .ok (.iadd, 1) := by decide +kernel
theorem dX8_where_57 : decode cX8_where 57 = .ok (.iload_n 2, 1) := by decide +kernel
theorem dX8_where_58 : decode cX8_where 58 = .ok (.iastore, 1) := by decide +kernel
theorem dX8_where_59 : decode cX8_where 59 = .ok (.aload_n 0, 1) := by decide +kernel
theorem dX8_where_60 : decode cX8_where 60 = .ok (.getfield 29, 3) := by decide +kernel
theorem dX8_where_63 : decode cX8_where 63 = .ok (.iconst 4, 1) := by decide +kernel
theorem dX8_where_64 : decode cX8_where 64 = .ok (.aload_n 0, 1) := by decide +kernel
theorem dX8_where_65 : decode cX8_where 65 = .ok (.getfield 99, 3) := by decide +kernel
theorem dX8_where_68 : decode cX8_where 68 = .ok (.imul, 1) := by decide +kernel
theorem dX8_where_69 : decode cX8_where 69 = .ok (.iconst 2, 1) := by decide +kernel
theorem dX8_where_70 : decode cX8_where 70 = .ok (.iadd, 1) := by decide +kernel
theorem dX8_where_71 : decode cX8_where 71 = .ok (.iload_n 3, 1) := by decide +kernel
theorem dX8_where_72 : decode cX8_where 72 = .ok (.iastore, 1) := by decide +kernel
theorem dX8_where_73 : decode cX8_where 73 = .ok (.aload_n 0, 1) := by decide +kernel
theorem dX8_where_74 : decode cX8_where 74 = .ok (.getfield 29, 3) := by decide +kernel
theorem dX8_where_77 : decode cX8_where 77 = .ok (.iconst 4, 1) := by decide +kernel
theorem dX8_where_78 : decode cX8_where 78 = .ok (.aload_n 0, 1) := by decide +kernel
theorem dX8_where_79 : decode cX8_where 79 = .ok (.getfield 99, 3) := by decide +kernel
theorem dX8_where_82 : decode cX8_where 82 = .ok (.imul, 1) := by decide +kernel
theorem dX8_where_83 : decode cX8_where 83 = .ok (.iconst 3, 1) := by decide +kernel
theorem dX8_where_84 : decode cX8_where 84 = .ok (.iadd, 1) := by decide +kernel
theorem dX8_where_85 : decode cX8_where 85 = .ok (.iload 4, 2) := by decide +kernel
theorem dX8_where_87 : decode cX8_where 87 = .ok (.iastore, 1) := by decide +kernel
theorem dX8_where_88 : decode cX8_where 88 = .ok (.aload_n 0, 1) := by decide +kernel
theorem dX8_where_89 : decode cX8_where 89 = .ok (.dup, 1) := by decide +kernel
theorem dX8_where_90 : decode cX8_where 90 = .ok (.getfield 99, 3) := by decide +kernel
theorem dX8_where_93 : decode cX8_where 93 = .ok (.iconst 1, 1) := by decide +kernel
theorem dX8_where_94 : decode cX8_where 94 = .ok (.iadd, 1) := by decide +kernel
theorem dX8_where_95 : decode cX8_where 95 = .ok (.putfield 99, 3) := by decide +kernel
theorem dX8_where_98 : decode cX8_where 98 = .ok (.iconst 1, 1) := by decide +kernel
theorem dX8_where_99 : decode cX8_where 99 = .ok (.ireturn, 1) := by decide +kernel
theorem dX8_join_0 : decode cX8_join 0 = .ok (.aload_n 0, 1) := by decide +kernel
theorem dX8_join_1 : decode cX8_join 1 = .ok (.iconst 0, 1) := by decide +kernel
theorem dX8_join_2 : decode cX8_join 2 = .ok (.putfield 59, 3) := by decide +kernel
theorem dX8_join_5 : decode cX8_join 5 = .ok (.aload_n 0, 1) := by decide +kernel
theorem dX8_join_6 : decode cX8_join 6 = .ok (.iload_n 1, 1) := by decide +kernel
theorem dX8_join_7 : decode cX8_join 7 = .ok (.iload_n 2, 1) := by decide +kernel
theorem dX8_join_8 : decode cX8_join 8 = .ok (.invokevirtual 124, 3) := by decide +kernel
theorem dX8_join_11 : decode cX8_join 11 = .ok (.ifCond .eq 26, 3) := by decide +kernel
theorem dX8_join_14 : decode cX8_join 14 = .ok (.aload_n 0, 1) := by decide +kernel
theorem dX8_join_15 : decode cX8_join 15 = .ok (.iload_n 3, 1) := by decide +kernel
theorem dX8_join_16 : decode cX8_join 16 = .ok (.iload 4, 2) := by decide +kernel
theorem dX8_join_18 : decode cX8_join 18 = .ok (.invokevirtual 124, 3) := by decide +kernel
theorem dX8_join_21 : decode cX8_join 21 = .ok (.ifCond .eq 16, 3) := by decide +kernel
theorem dX8_join_24 : decode cX8_join 24 = .ok (.iload_n 1, 1) := by decide +kernel
theorem dX8_join_25 : decode cX8_join 25 = .ok (.iload_n 3, 1) := by decide +kernel
theorem dX8_join_26 : decode cX8_join 26 = .ok (.if_icmp .eq 11, 3) := by decide +kernel
theorem dX8_join_29 : decode cX8_join 29 = .ok (.aload_n 0, 1) := by decide +kernel
theorem dX8_join_30 : decode cX8_join 30 = .ok (.getfield 102, 3) := by decide +kernel
theorem dX8_join_33 : decode cX8_join 33 = .ok (.iconst 3, 1) := by decide +kernel
theorem dX8_join_34 : decode cX8_join 34 = .ok (.if_icmp .ne 5, 3) := by decide +kernel
theorem dX8_join_37 : decode cX8_join 37 = .ok (.iconst 0, 1) := by decide +kernel
theorem dX8_join_38 : decode cX8_join 38 = .ok (.ireturn, 1) := by decide +kernel
theorem dX8_join_39 : decode cX8_join 39 = .ok (.aload_n 0, 1) := by decide +kernel
theorem dX8_join_40 : decode cX8_join 40 = .ok (.getfield 32, 3) := by decide +kernel
theorem dX8_join_43 : decode cX8_join 43 = .ok (.iconst 4, 1) := by decide +kernel
theorem dX8_join_44 : decode cX8_join 44 = .ok (.aload_n 0, 1) := by decide +kernel
theorem dX8_join_45 : decode cX8_join 45 = .ok (.getfield 102, 3) := by decide +kernel
theorem dX8_join_48 : decode cX8_join 48 = .ok (.imul, 1) := by decide +kernel
theorem dX8_join_49 : decode cX8_join 49 = .ok (.iload_n 1, 1) := by decide +kernel
theorem dX8_join_50 : decode cX8_join 50 = .ok (.iastore, 1) := by decide +kernel
theorem dX8_join_51 : decode cX8_join 51 = .ok (.aload_n 0, 1) := by decide +kernel
theorem dX8_join_52 : decode cX8_join 52 = .ok (.getfield 32, 3) := by decide +kernel
theorem dX8_join_55 : decode cX8_join 55 = .ok (.iconst 4, 1) := by decide +kernel
theorem dX8_join_56 : decode cX8_join 56 = .ok (.aload_n 0, 1) := by decide +kernel
theorem dX8_join_57 : decode cX8_join 57 = .ok (.getfield 102, 3) := by decide +kernel
theorem dX8_join_60 : decode cX8_join 60 = .ok (.imul, 1) := by decide +kernel
theorem dX8_join_61 : decode cX8_join 61 = .ok (.iconst 1, 1) := by decide +kernel
theorem dX8_join_62 : decode cX8_join 62 = .ok (.iadd, 1) := by decide +kernel
theorem dX8_join_63 : decode cX8_join 63 = .ok (.iload_n 2, 1) := by decide +kernel
theorem dX8_join_64 : decode cX8_join 64 = .ok (.iastore, 1) := by decide +kernel
theorem dX8_join_65 : decode cX8_join 65 = .ok (.aload_n 0, 1) := by decide +kernel
theorem dX8_join_66 : decode cX8_join 66 = .ok (.getfield 32, 3) := by decide +kernel
theorem dX8_join_69 : decode cX8_join 69 = .ok (.iconst 4, 1) := by decide +kernel
theorem dX8_join_70 : decode cX8_join 70 = .ok (.aload_n 0, 1) := by decide +kernel
theorem dX8_join_71 : decode cX8_join 71 = .ok (.getfield 102, 3) := by decide +kernel
theorem dX8_join_74 : decode cX8_join 74 = .ok (.imul, 1) := by decide +kernel
theorem dX8_join_75 : decode cX8_join 75 = .ok (.iconst 2, 1) := by decide +kernel
theorem dX8_join_76 : decode cX8_join 76 = .ok (.iadd, 1) := by decide +kernel
theorem dX8_join_77 : decode cX8_join 77 = .ok (.iload_n 3, 1) := by decide +kernel
theorem dX8_join_78 : decode cX8_join 78 = .ok (.iastore, 1) := by decide +kernel
theorem dX8_join_79 : decode cX8_join 79 = .ok (.aload_n 0, 1) := by decide +kernel
theorem dX8_join_80 : decode cX8_join 80 = .ok (.getfield 32, 3) := by decide +kernel
theorem dX8_join_83 : decode cX8_join 83 = .ok (.iconst 4, 1) := by decide +kernel
theorem dX8_join_84 : decode cX8_join 84 = .ok (.aload_n 0, 1) := by decide +kernel
theorem dX8_join_85 : decode cX8_join 85 = .ok (.getfield 102, 3) := by decide +kernel
theorem dX8_join_88 : decode cX8_join 88 = .ok (.imul, 1) := by decide +kernel
theorem dX8_join_89 : decode cX8_join 89 = .ok (.iconst 3, 1) := by decide +kernel
theorem dX8_join_90 : decode cX8_join 90 = .ok (.iadd, 1) := by decide +kernel
theorem dX8_join_91 : decode cX8_join 91 = .ok (.iload 4, 2) := by decide +kernel
theorem dX8_join_93 : decode cX8_join 93 = .ok (.iastore, 1) := by decide +kernel
theorem dX8_join_94 : decode cX8_join 94 = .ok (.aload_n 0, 1) := by decide +kernel
theorem dX8_join_95 : decode cX8_join 95 = .ok (.dup, 1) := by decide +kernel
theorem dX8_join_96 : decode cX8_join 96 = .ok (.getfield 102, 3) := by decide +kernel
theorem dX8_join_99 : decode cX8_join 99 = .ok (.iconst 1, 1) := by decide +kernel
theorem dX8_join_100 : decode cX8_join 100 = .ok (.iadd, 1) := by decide +kernel
theorem dX8_join_101 : decode cX8_join 101 = .ok (.putfield 102, 3) := by decide +kernel
theorem dX8_join_104 : decode cX8_join 104 = .ok (.iconst 1, 1) := by decide +kernel
theorem dX8_join_105 : decode cX8_join 105 = .ok (.ireturn, 1) := by decide +kernel
theorem dX8_select_0 : decode cX8_select 0 = .ok (.aload_n 0, 1) := by decide +kernel
theorem dX8_select_1 : decode cX8_select 1 = .ok (.iconst 0, 1) := by decide +kernel
theorem dX8_select_2 : decode cX8_select 2 = .ok (.putfield 59, 3) := by decide +kernel
theorem dX8_select_5 : decode cX8_select 5 = .ok (.aload_n 0, 1) := by decide +kernel
theorem dX8_select_6 : decode cX8_select 6 = .ok (.iload_n 1, 1) := by decide +kernel
theorem dX8_select_7 : decode cX8_select 7 = .ok (.iload_n 2, 1) := by decide +kernel
theorem dX8_select_8 : decode cX8_select 8 = .ok (.invokevirtual 124, 3) := by decide +kernel
theorem dX8_select_11 : decode cX8_select 11 = .ok (.ifCond .eq 11, 3) := by decide +kernel
theorem dX8_select_14 : decode cX8_select 14 = .ok (.aload_n 0, 1) := by decide +kernel
theorem dX8_select_15 : decode cX8_select 15 = .ok (.getfield 105, 3) := by decide +kernel
theorem dX8_select_18 : decode cX8_select 18 = .ok (.iconst 4, 1) := by decide +kernel
theorem dX8_select_19 : decode cX8_select 19 = .ok (.if_icmp .ne 5, 3) := by decide +kernel
theorem dX8_select_22 : decode cX8_select 22 = .ok (.iconst (-1), 1) := by decide +kernel
theorem dX8_select_23 : decode cX8_select 23 = .ok (.ireturn, 1) := by decide +kernel
theorem dX8_select_24 : decode cX8_select 24 = .ok (.aload_n 0, 1) := by decide +kernel
theorem dX8_select_25 : decode cX8_select 25 = .ok (.getfield 35, 3) := by decide +kernel
theorem dX8_select_28 : decode cX8_select 28 = .ok (.iconst 2, 1) := by decide +kernel
theorem dX8_select_29 : decode cX8_select 29 = .ok (.aload_n 0, 1) := by decide +kernel
theorem dX8_select_30 : decode cX8_select 30 = .ok (.getfield 105, 3) := by decide +kernel
theorem dX8_select_33 : decode cX8_select 33 = .ok (.imul, 1) := by decide +kernel
theorem dX8_select_34 : decode cX8_select 34 = .ok (.iload_n 1, 1) := by decide +kernel
theorem dX8_select_35 : decode cX8_select 35 = .ok (.iastore, 1) := by decide +kernel
theorem dX8_select_36 : decode cX8_select 36 = .ok (.aload_n 0, 1) := by decide +kernel
theorem dX8_select_37 : decode cX8_select 37 = .ok (.getfield 35, 3) := by decide +kernel
theorem dX8_select_40 : decode cX8_select 40 = .ok (.iconst 2, 1) := by decide +kernel
theorem dX8_select_41 : decode cX8_select 41 = .ok (.aload_n 0, 1) := by decide +kernel
theorem dX8_select_42 : decode cX8_select 42 = .ok (.getfield 105, 3) := by decide +kernel
theorem dX8_select_45 : decode cX8_select 45 = .ok (.imul, 1) := by decide +kernel
theorem dX8_select_46 : decode cX8_select 46 = .ok (.iconst 1, 1) := by decide +kernel
theorem dX8_select_47 : decode cX8_select 47 = .ok (.iadd, 1) := by decide +kernel
theorem dX8_select_48 : decode cX8_select 48 = .ok (.iload_n 2, 1) := by decide +kernel
theorem dX8_select_49 : decode cX8_select 49 = .ok (.iastore, 1) := by decide +kernel
theorem dX8_select_50 : decode cX8_select 50 = .ok (.aload_n 0, 1) := by decide +kernel
theorem dX8_select_51 : decode cX8_select 51 = .ok (.dup, 1) := by decide +kernel
theorem dX8_select_52 : decode cX8_select 52 = .ok (.getfield 105, 3) := by decide +kernel
theorem dX8_select_55 : decode cX8_select 55 = .ok (.iconst 1, 1) := by decide +kernel
theorem dX8_select_56 : decode cX8_select 56 = .ok (.iadd, 1) := by decide +kernel
theorem dX8_select_57 : decode cX8_select 57 = .ok (.putfield 105, 3) := by decide +kernel
theorem dX8_select_60 : decode cX8_select 60 = .ok (.aload_n 0, 1) := by decide +kernel
theorem dX8_select_61 : decode cX8_select 61 = .ok (.getfield 105, 3) := by decide +kernel
theorem dX8_select_64 : decode cX8_select 64 = .ok (.iconst 1, 1) := by decide +kernel
theorem dX8_select_65 : decode cX8_select 65 = .ok (.isub, 1) := by decide +kernel
theorem dX8_select_66 : decode cX8_select 66 = .ok (.ireturn, 1) := by decide +kernel
theorem dX8_order_0 : decode cX8_order 0 = .ok (.aload_n 0, 1) := by decide +kernel
theorem dX8_order_1 : decode cX8_order 1 = .ok (.iconst 0, 1) := by decide +kernel
theorem dX8_order_2 : decode cX8_order 2 = .ok (.putfield 59, 3) := by decide +kernel
theorem dX8_order_5 : decode cX8_order 5 = .ok (.iload_n 1, 1) := by decide +kernel
theorem dX8_order_6 : decode cX8_order 6 = .ok (.iconst 0, 1) := by decide +kernel
theorem dX8_order_7 : decode cX8_order 7 = .ok (.aload_n 0, 1) := by decide +kernel
theorem dX8_order_8 : decode cX8_order 8 = .ok (.getfield 105, 3) := by decide +kernel
theorem dX8_order_11 : decode cX8_order 11 = .ok (.iconst 1, 1) := by decide +kernel
theorem dX8_order_12 : decode cX8_order 12 = .ok (.isub, 1) := by decide +kernel
theorem dX8_order_13 : decode cX8_order 13 = .ok (.invokestatic 63, 3) := by decide +kernel
theorem dX8_order_16 : decode cX8_order 16 = .ok (.ifCond .eq 10, 3) := by decide +kernel
theorem dX8_order_19 : decode cX8_order 19 = .ok (.aload_n 0, 1) := by decide +kernel
theorem dX8_order_20 : decode cX8_order 20 = .ok (.getfield 71, 3) := by decide +kernel
theorem dX8_order_23 : decode cX8_order 23 = .ok (.ifCond .eq 5, 3) := by decide +kernel
theorem dX8_order_26 : decode cX8_order 26 = .ok (.iconst 0, 1) := by decide +kernel
theorem dX8_order_27 : decode cX8_order 27 = .ok (.ireturn, 1) := by decide +kernel
theorem dX8_order_28 : decode cX8_order 28 = .ok (.aload_n 0, 1) := by decide +kernel
theorem dX8_order_29 : decode cX8_order 29 = .ok (.iload_n 1, 1) := by decide +kernel
theorem dX8_order_30 : decode cX8_order 30 = .ok (.putfield 108, 3) := by decide +kernel
theorem dX8_order_33 : decode cX8_order 33 = .ok (.aload_n 0, 1) := by decide +kernel
theorem dX8_order_34 : decode cX8_order 34 = .ok (.iload_n 2, 1) := by decide +kernel
theorem dX8_order_35 : decode cX8_order 35 = .ok (.putfield 111, 3) := by decide +kernel
theorem dX8_order_38 : decode cX8_order 38 = .ok (.iconst 1, 1) := by decide +kernel
theorem dX8_order_39 : decode cX8_order 39 = .ok (.ireturn, 1) := by decide +kernel
theorem dX8_limit_0 : decode cX8_limit 0 = .ok (.aload_n 0, 1) := by decide +kernel
theorem dX8_limit_1 : decode cX8_limit 1 = .ok (.iconst 0, 1) := by decide +kernel
theorem dX8_limit_2 : decode cX8_limit 2 = .ok (.putfield 59, 3) := by decide +kernel
theorem dX8_limit_5 : decode cX8_limit 5 = .ok (.iload_n 1, 1) := by decide +kernel
theorem dX8_limit_6 : decode cX8_limit 6 = .ok (.iconst 1, 1) := by decide +kernel
theorem dX8_limit_7 : decode cX8_limit 7 = .ok (.bipush 64, 2) := by decide +kernel
theorem dX8_limit_9 : decode cX8_limit 9 = .ok (.invokestatic 63, 3) := by decide +kernel
theorem dX8_limit_12 : decode cX8_limit 12 = .ok (.ifCond .eq 10, 3) := by decide +kernel
theorem dX8_limit_15 : decode cX8_limit 15 = .ok (.aload_n 0, 1) := by decide +kernel
theorem dX8_limit_16 : decode cX8_limit 16 = .ok (.getfield 71, 3) := by decide +kernel
theorem dX8_limit_19 : decode cX8_limit 19 = .ok (.ifCond .eq 5, 3) := by decide +kernel
theorem dX8_limit_22 : decode cX8_limit 22 = .ok (.iconst 0, 1) := by decide +kernel
theorem dX8_limit_23 : decode cX8_limit 23 = .ok (.ireturn, 1) := by decide +kernel
theorem dX8_limit_24 : decode cX8_limit 24 = .ok (.aload_n 0, 1) := by decide +kernel
theorem dX8_limit_25 : decode cX8_limit 25 = .ok (.iload_n 1, 1) := by decide +kernel
theorem dX8_limit_26 : decode cX8_limit 26 = .ok (.putfield 115, 3) := by decide +kernel
theorem dX8_limit_29 : decode cX8_limit 29 = .ok (.iconst 1, 1) := by decide +kernel
theorem dX8_limit_30 : decode cX8_limit 30 = .ok (.ireturn, 1) := by decide +kernel
theorem dX8_share_0 : decode cX8_share 0 = .ok (.iconst 0, 1) := by decide +kernel
theorem dX8_share_1 : decode cX8_share 1 = .ok (.istore 5, 2) := by decide +kernel
theorem dX8_share_3 : decode cX8_share 3 = .ok (.lconst 0, 1) := by decide +kernel
theorem dX8_share_4 : decode cX8_share 4 = .ok (.lstore 6, 2) := by decide +kernel
theorem dX8_share_6 : decode cX8_share 6 = .ok (.lconst 0, 1) := by decide +kernel
theorem dX8_share_7 : decode cX8_share 7 = .ok (.lstore 8, 2) := by decide +kernel
theorem dX8_share_9 : decode cX8_share 9 = .ok (.iconst 0, 1) := by decide +kernel
theorem dX8_share_10 : decode cX8_share 10 = .ok (.istore 10, 2) := by decide +kernel
theorem dX8_share_12 : decode cX8_share 12 = .ok (.iload 10, 2) := by decide +kernel
theorem dX8_share_14 : decode cX8_share 14 = .ok (.bipush 60, 2) := by decide +kernel
theorem dX8_share_16 : decode cX8_share 16 = .ok (.if_icmp .ge 156, 3) := by decide +kernel
theorem dX8_share_19 : decode cX8_share 19 = .ok (.aload_n 0, 1) := by decide +kernel
theorem dX8_share_20 : decode cX8_share 20 = .ok (.getfield 16, 3) := by decide +kernel
theorem dX8_share_23 : decode cX8_share 23 = .ok (.bipush 60, 2) := by decide +kernel
theorem dX8_share_25 : decode cX8_share 25 = .ok (.iload_n 1, 1) := by decide +kernel
theorem dX8_share_26 : decode cX8_share 26 = .ok (.imul, 1) := by decide +kernel
theorem dX8_share_27 : decode cX8_share 27 = .ok (.iload 10, 2) := by decide +kernel
theorem dX8_share_29 : decode cX8_share 29 = .ok (.iadd, 1) := by decide +kernel
theorem dX8_share_30 : decode cX8_share 30 = .ok (.baload, 1) := by decide +kernel
theorem dX8_share_31 : decode cX8_share 31 = .ok (.ifCond .eq 135, 3) := by decide +kernel
theorem dX8_share_34 : decode cX8_share 34 = .ok (.aload_n 0, 1) := by decide +kernel
theorem dX8_share_35 : decode cX8_share 35 = .ok (.iload_n 1, 1) := by decide +kernel
theorem dX8_share_36 : decode cX8_share 36 = .ok (.iload 10, 2) := by decide +kernel
theorem dX8_share_38 : decode cX8_share 38 = .ok (.iload_n 2, 1) := by decide +kernel
theorem dX8_share_39 : decode cX8_share 39 = .ok (.invokevirtual 88, 3) := by decide +kernel
theorem dX8_share_42 : decode cX8_share 42 = .ok (.istore 11, 2) := by decide +kernel
theorem dX8_share_44 : decode cX8_share 44 = .ok (.iconst 0, 1) := by decide +kernel
theorem dX8_share_45 : decode cX8_share 45 = .ok (.istore 12, 2) := by decide +kernel
theorem dX8_share_47 : decode cX8_share 47 = .ok (.iconst 0, 1) := by decide +kernel
theorem dX8_share_48 : decode cX8_share 48 = .ok (.istore 13, 2) := by decide +kernel
theorem dX8_share_50 : decode cX8_share 50 = .ok (.iload 13, 2) := by decide +kernel
theorem dX8_share_52 : decode cX8_share 52 = .ok (.iload 10, 2) := by decide +kernel
theorem dX8_share_54 : decode cX8_share 54 = .ok (.if_icmp .ge 49, 3) := by decide +kernel
theorem dX8_share_57 : decode cX8_share 57 = .ok (.iload 12, 2) := by decide +kernel
theorem dX8_share_59 : decode cX8_share 59 = .ok (.ifCond .ne 31, 3) := by decide +kernel
theorem dX8_share_62 : decode cX8_share 62 = .ok (.aload_n 0, 1) := by decide +kernel
theorem dX8_share_63 : decode cX8_share 63 = .ok (.getfield 16, 3) := by decide +kernel
theorem dX8_share_66 : decode cX8_share 66 = .ok (.bipush 60, 2) := by decide +kernel
theorem dX8_share_68 : decode cX8_share 68 = .ok (.iload_n 1, 1) := by decide +kernel
theorem dX8_share_69 : decode cX8_share 69 = .ok (.imul, 1) := by decide +kernel
theorem dX8_share_70 : decode cX8_share 70 = .ok (.iload 13, 2) := by decide +kernel
theorem dX8_share_72 : decode cX8_share 72 = .ok (.iadd, 1) := by decide +kernel
theorem dX8_share_73 : decode cX8_share 73 = .ok (.baload, 1) := by decide +kernel
theorem dX8_share_74 : decode cX8_share 74 = .ok (.ifCond .eq 20, 3) := by decide +kernel
theorem dX8_share_77 : decode cX8_share 77 = .ok (.aload_n 0, 1) := by decide +kernel
theorem dX8_share_78 : decode cX8_share 78 = .ok (.iload_n 1, 1) := by decide +kernel
theorem dX8_share_79 : decode cX8_share 79 = .ok (.iload 13, 2) := by decide +kernel
theorem dX8_share_81 : decode cX8_share 81 = .ok (.iload_n 2, 1) := by decide +kernel
theorem dX8_share_82 : decode cX8_share 82 = .ok (.invokevirtual 88, 3) := by decide +kernel
theorem dX8_share_85 : decode cX8_share 85 = .ok (.iload 11, 2) := by decide +kernel
theorem dX8_share_87 : decode cX8_share 87 = .ok (.if_icmp .ne 7, 3) := by decide +kernel
theorem dX8_share_90 : decode cX8_share 90 = .ok (.iconst 1, 1) := by decide +kernel
theorem dX8_share_91 : decode cX8_share 91 = .ok (.goto 4, 3) := by decide +kernel
theorem dX8_share_94 : decode cX8_share 94 = .ok (.iconst 0, 1) := by decide +kernel
theorem dX8_share_95 : decode cX8_share 95 = .ok (.istore 12, 2) := by decide +kernel
theorem dX8_share_97 : decode cX8_share 97 = .ok (.iinc 13 1, 3) := by decide +kernel
theorem dX8_share_100 : decode cX8_share 100 = .ok (.goto (-50), 3) := by decide +kernel
theorem dX8_share_103 : decode cX8_share 103 = .ok (.iload 5, 2) := by decide +kernel
theorem dX8_share_105 : decode cX8_share 105 = .ok (.ifCond .eq 12, 3) := by decide +kernel
theorem dX8_share_108 : decode cX8_share 108 = .ok (.iload 11, 2) := by decide +kernel
theorem dX8_share_110 : decode cX8_share 110 = .ok (.i2l, 1) := by decide +kernel
theorem dX8_share_111 : decode cX8_share 111 = .ok (.lload 6, 2) := by decide +kernel
theorem dX8_share_113 : decode cX8_share 113 = .ok (.lcmp, 1) := by decide +kernel
theorem dX8_share_114 : decode cX8_share 114 = .ok (.ifCond .ge 9, 3) := by decide +kernel
theorem dX8_share_117 : decode cX8_share 117 = .ok (.iload 11, 2) := by decide +kernel
theorem dX8_share_119 : decode cX8_share 119 = .ok (.i2l, 1) := by decide +kernel
theorem dX8_share_120 : decode cX8_share 120 = .ok (.goto 5, 3) := by decide +kernel
theorem dX8_share_123 : decode cX8_share 123 = .ok (.lload 6, 2) := by decide +kernel
theorem dX8_share_125 : decode cX8_share 125 = .ok (.lstore 6, 2) := by decide +kernel
theorem dX8_share_127 : decode cX8_share 127 = .ok (.iload 5, 2) := by decide +kernel
theorem dX8_share_129 : decode cX8_share 129 = .ok (.ifCond .eq 12, 3) := by decide +kernel
theorem dX8_share_132 : decode cX8_share 132 = .ok (.iload 11, 2) := by decide +kernel
theorem dX8_share_134 : decode cX8_share 134 = .ok (.i2l, 1) := by decide +kernel
theorem dX8_share_135 : decode cX8_share 135 = .ok (.lload 8, 2) := by decide +kernel
theorem dX8_share_137 : decode cX8_share 137 = .ok (.lcmp, 1) := by decide +kernel
theorem dX8_share_138 : decode cX8_share 138 = .ok (.ifCond .le 9, 3) := by decide +kernel
theorem dX8_share_141 : decode cX8_share 141 = .ok (.iload 11, 2) := by decide +kernel
theorem dX8_share_143 : decode cX8_share 143 = .ok (.i2l, 1) := by decide +kernel
theorem dX8_share_144 : decode cX8_share 144 = .ok (.goto 5, 3) := by decide +kernel
theorem dX8_share_147 : decode cX8_share 147 = .ok (.lload 8, 2) := by decide +kernel
theorem dX8_share_149 : decode cX8_share 149 = .ok (.lstore 8, 2) := by decide +kernel
theorem dX8_share_151 : decode cX8_share 151 = .ok (.iload 5, 2) := by decide +kernel
theorem dX8_share_153 : decode cX8_share 153 = .ok (.iload 12, 2) := by decide +kernel
theorem dX8_share_155 : decode cX8_share 155 = .ok (.ifCond .eq 7, 3) := by decide +kernel
theorem dX8_share_158 : decode cX8_share 158 = .ok (.iconst 0, 1) := by decide +kernel
theorem dX8_share_159 : decode cX8_share 159 = .ok (.goto 4, 3) := by decide +kernel
theorem dX8_share_162 : decode cX8_share 162 = .ok (.iconst 1, 1) := by decide +kernel
theorem dX8_share_163 : decode cX8_share 163 = .ok (.iadd, 1) := by decide +kernel
theorem dX8_share_164 : decode cX8_share 164 = .ok (.istore 5, 2) := by decide +kernel
theorem dX8_share_166 : decode cX8_share 166 = .ok (.iinc 10 1, 3) := by decide +kernel
theorem dX8_share_169 : decode cX8_share 169 = .ok (.goto (-157), 3) := by decide +kernel
theorem dX8_share_172 : decode cX8_share 172 = .ok (.iload 5, 2) := by decide +kernel
theorem dX8_share_174 : decode cX8_share 174 = .ok (.ifCond .ne 5, 3) := by decide +kernel
theorem dX8_share_177 : decode cX8_share 177 = .ok (.fconst 0, 1) := by decide +kernel
theorem dX8_share_178 : decode cX8_share 178 = .ok (.freturn, 1) := by decide +kernel
theorem dX8_share_179 : decode cX8_share 179 = .ok (.iload_n 3, 1) := by decide +kernel
theorem dX8_share_180 : decode cX8_share 180 = .ok (.ifCond .eq 8, 3) := by decide +kernel
theorem dX8_share_183 : decode cX8_share 183 = .ok (.iload_n 3, 1) := by decide +kernel
theorem dX8_share_184 : decode cX8_share 184 = .ok (.iconst 3, 1) := by decide +kernel
theorem dX8_share_185 : decode cX8_share 185 = .ok (.if_icmp .ne 24, 3) := by decide +kernel
theorem dX8_share_188 : decode cX8_share 188 = .ok (.fconst 1, 1) := by decide +kernel
theorem dX8_share_189 : decode cX8_share 189 = .ok (.iload 5, 2) := by decide +kernel
theorem dX8_share_191 : decode cX8_share 191 = .ok (.i2f, 1) := by decide +kernel
theorem dX8_share_192 : decode cX8_share 192 = .ok (.fdiv, 1) := by decide +kernel
theorem dX8_share_193 : decode cX8_share 193 = .ok (.fstore 10, 2) := by decide +kernel
theorem dX8_share_195 : decode cX8_share 195 = .ok (.iload_n 3, 1) := by decide +kernel
theorem dX8_share_196 : decode cX8_share 196 = .ok (.ifCond .ne 8, 3) := by decide +kernel
theorem dX8_share_199 : decode cX8_share 199 = .ok (.fload 10, 2) := by decide +kernel
theorem dX8_share_201 : decode cX8_share 201 = .ok (.goto 7, 3) := by decide +kernel
theorem dX8_share_204 : decode cX8_share 204 = .ok (.fconst 1, 1) := by decide +kernel
theorem dX8_share_205 : decode cX8_share 205 = .ok (.fload 10, 2) := by decide +kernel
theorem dX8_share_207 : decode cX8_share 207 = .ok (.fsub, 1) := by decide +kernel
theorem dX8_share_208 : decode cX8_share 208 = .ok (.freturn, 1) := by decide +kernel
theorem dX8_share_209 : decode cX8_share 209 = .ok (.iload_n 3, 1) := by decide +kernel
theorem dX8_share_210 : decode cX8_share 210 = .ok (.iconst 1, 1) := by decide +kernel
theorem dX8_share_211 : decode cX8_share 211 = .ok (.if_icmp .ne 13, 3) := by decide +kernel
theorem dX8_share_214 : decode cX8_share 214 = .ok (.iload 4, 2) := by decide +kernel
theorem dX8_share_216 : decode cX8_share 216 = .ok (.i2l, 1) := by decide +kernel
theorem dX8_share_217 : decode cX8_share 217 = .ok (.lload 6, 2) := by decide +kernel
theorem dX8_share_219 : decode cX8_share 219 = .ok (.lsub, 1) := by decide +kernel
theorem dX8_share_220 : decode cX8_share 220 = .ok (.l2f, 1) := by decide +kernel
theorem dX8_share_221 : decode cX8_share 221 = .ok (.goto 10, 3) := by decide +kernel
theorem dX8_share_224 : decode cX8_share 224 = .ok (.lload 8, 2) := by decide +kernel
theorem dX8_share_226 : decode cX8_share 226 = .ok (.iload 4, 2) := by decide +kernel
theorem dX8_share_228 : decode cX8_share 228 = .ok (.i2l, 1) := by decide +kernel
theorem dX8_share_229 : decode cX8_share 229 = .ok (.lsub, 1) := by decide +kernel
theorem dX8_share_230 : decode cX8_share 230 = .ok (.l2f, 1) := by decide +kernel
theorem dX8_share_231 : decode cX8_share 231 = .ok (.fstore 10, 2) := by decide +kernel
theorem dX8_share_233 : decode cX8_share 233 = .ok (.lload 8, 2) := by decide +kernel
theorem dX8_share_235 : decode cX8_share 235 = .ok (.lload 6, 2) := by decide +kernel
theorem dX8_share_237 : decode cX8_share 237 = .ok (.lsub, 1) := by decide +kernel
theorem dX8_share_238 : decode cX8_share 238 = .ok (.lconst 1, 1) := by decide +kernel
theorem dX8_share_239 : decode cX8_share 239 = .ok (.ladd, 1) := by decide +kernel
theorem dX8_share_240 : decode cX8_share 240 = .ok (.l2f, 1) := by decide +kernel
theorem dX8_share_241 : decode cX8_share 241 = .ok (.fstore 11, 2) := by decide +kernel
theorem dX8_share_243 : decode cX8_share 243 = .ok (.fload 10, 2) := by decide +kernel
theorem dX8_share_245 : decode cX8_share 245 = .ok (.fload 11, 2) := by decide +kernel
theorem dX8_share_247 : decode cX8_share 247 = .ok (.fdiv, 1) := by decide +kernel
theorem dX8_share_248 : decode cX8_share 248 = .ok (.fstore 12, 2) := by decide +kernel
theorem dX8_share_250 : decode cX8_share 250 = .ok (.fload 12, 2) := by decide +kernel
theorem dX8_share_252 : decode cX8_share 252 = .ok (.fconst 0, 1) := by decide +kernel
theorem dX8_share_253 : decode cX8_share 253 = .ok (.fcmp .g, 1) := by decide +kernel
theorem dX8_share_254 : decode cX8_share 254 = .ok (.ifCond .ge 7, 3) := by decide +kernel
theorem dX8_share_257 : decode cX8_share 257 = .ok (.fconst 0, 1) := by decide +kernel
theorem dX8_share_258 : decode cX8_share 258 = .ok (.goto 16, 3) := by decide +kernel
theorem dX8_share_261 : decode cX8_share 261 = .ok (.fload 12, 2) := by decide +kernel
theorem dX8_share_263 : decode cX8_share 263 = .ok (.fconst 1, 1) := by decide +kernel
theorem dX8_share_264 : decode cX8_share 264 = .ok (.fcmp .l, 1) := by decide +kernel
theorem dX8_share_265 : decode cX8_share 265 = .ok (.ifCond .le 7, 3) := by decide +kernel
theorem dX8_share_268 : decode cX8_share 268 = .ok (.fconst 1, 1) := by decide +kernel
theorem dX8_share_269 : decode cX8_share 269 = .ok (.goto 5, 3) := by decide +kernel
theorem dX8_share_272 : decode cX8_share 272 = .ok (.fload 12, 2) := by decide +kernel
theorem dX8_share_274 : decode cX8_share 274 = .ok (.freturn, 1) := by decide +kernel
theorem dX8_sideOf_0 : decode cX8_sideOf 0 = .ok (.aload_n 0, 1) := by decide +kernel
theorem dX8_sideOf_1 : decode cX8_sideOf 1 = .ok (.getfield 32, 3) := by decide +kernel
theorem dX8_sideOf_4 : decode cX8_sideOf 4 = .ok (.iconst 4, 1) := by decide +kernel
theorem dX8_sideOf_5 : decode cX8_sideOf 5 = .ok (.iload_n 1, 1) := by decide +kernel
theorem dX8_sideOf_6 : decode cX8_sideOf 6 = .ok (.imul, 1) := by decide +kernel
theorem dX8_sideOf_7 : decode cX8_sideOf 7 = .ok (.iaload, 1) := by decide +kernel
theorem dX8_sideOf_8 : decode cX8_sideOf 8 = .ok (.iload_n 2, 1) := by decide +kernel
theorem dX8_sideOf_9 : decode cX8_sideOf 9 = .ok (.if_icmp .ne 7, 3) := by decide +kernel
theorem dX8_sideOf_12 : decode cX8_sideOf 12 = .ok (.iconst 0, 1) := by decide +kernel
theorem dX8_sideOf_13 : decode cX8_sideOf 13 = .ok (.goto 22, 3) := by decide +kernel
theorem dX8_sideOf_16 : decode cX8_sideOf 16 = .ok (.aload_n 0, 1) := by decide +kernel
theorem dX8_sideOf_17 : decode cX8_sideOf 17 = .ok (.getfield 32, 3) := by decide +kernel
theorem dX8_sideOf_20 : decode cX8_sideOf 20 = .ok (.iconst 4, 1) := by decide +kernel
theorem dX8_sideOf_21 : decode cX8_sideOf 21 = .ok (.iload_n 1, 1) := by decide +kernel
theorem dX8_sideOf_22 : decode cX8_sideOf 22 = .ok (.imul, 1) := by decide +kernel
theorem dX8_sideOf_23 : decode cX8_sideOf 23 = .ok (.iconst 2, 1) := by decide +kernel
theorem dX8_sideOf_24 : decode cX8_sideOf 24 = .ok (.iadd, 1) := by decide +kernel
theorem dX8_sideOf_25 : decode cX8_sideOf 25 = .ok (.iaload, 1) := by decide +kernel
theorem dX8_sideOf_26 : decode cX8_sideOf 26 = .ok (.iload_n 2, 1) := by decide +kernel
theorem dX8_sideOf_27 : decode cX8_sideOf 27 = .ok (.if_icmp .ne 7, 3) := by decide +kernel
theorem dX8_sideOf_30 : decode cX8_sideOf 30 = .ok (.iconst 2, 1) := by decide +kernel
theorem dX8_sideOf_31 : decode cX8_sideOf 31 = .ok (.goto 4, 3) := by decide +kernel
theorem dX8_sideOf_34 : decode cX8_sideOf 34 = .ok (.iconst (-1), 1) := by decide +kernel
theorem dX8_sideOf_35 : decode cX8_sideOf 35 = .ok (.istore 4, 2) := by decide +kernel
theorem dX8_sideOf_37 : decode cX8_sideOf 37 = .ok (.iload 4, 2) := by decide +kernel
theorem dX8_sideOf_39 : decode cX8_sideOf 39 = .ok (.ifCond .lt 29, 3) := by decide +kernel
theorem dX8_sideOf_42 : decode cX8_sideOf 42 = .ok (.iload_n 3, 1) := by decide +kernel
theorem dX8_sideOf_43 : decode cX8_sideOf 43 = .ok (.aload_n 0, 1) := by decide +kernel
theorem dX8_sideOf_44 : decode cX8_sideOf 44 = .ok (.getfield 32, 3) := by decide +kernel
theorem dX8_sideOf_47 : decode cX8_sideOf 47 = .ok (.iconst 4, 1) := by decide +kernel
theorem dX8_sideOf_48 : decode cX8_sideOf 48 = .ok (.iload_n 1, 1) := by decide +kernel
theorem dX8_sideOf_49 : decode cX8_sideOf 49 = .ok (.imul, 1) := by decide +kernel
theorem dX8_sideOf_50 : decode cX8_sideOf 50 = .ok (.iconst 2, 1) := by decide +kernel
theorem dX8_sideOf_51 : decode cX8_sideOf 51 = .ok (.iadd, 1) := by decide +kernel
theorem dX8_sideOf_52 : decode cX8_sideOf 52 = .ok (.iload 4, 2) := by decide +kernel
theorem dX8_sideOf_54 : decode cX8_sideOf 54 = .ok (.isub, 1) := by decide +kernel
theorem dX8_sideOf_55 : decode cX8_sideOf 55 = .ok (.iaload, 1) := by decide +kernel
theorem dX8_sideOf_56 : decode cX8_sideOf 56 = .ok (.ishr, 1) := by decide +kernel
theorem dX8_sideOf_57 : decode cX8_sideOf 57 = .ok (.iconst 1, 1) := by decide +kernel
theorem dX8_sideOf_58 : decode cX8_sideOf 58 = .ok (.iand, 1) := by decide +kernel
theorem dX8_sideOf_59 : decode cX8_sideOf 59 = .ok (.iconst 1, 1) := by decide +kernel
theorem dX8_sideOf_60 : decode cX8_sideOf 60 = .ok (.if_icmp .ne 8, 3) := by decide +kernel
theorem dX8_sideOf_63 : decode cX8_sideOf 63 = .ok (.iload 4, 2) := by decide +kernel
theorem dX8_sideOf_65 : decode cX8_sideOf 65 = .ok (.goto 4, 3) := by decide +kernel
theorem dX8_sideOf_68 : decode cX8_sideOf 68 = .ok (.iconst (-1), 1) := by decide +kernel
theorem dX8_sideOf_69 : decode cX8_sideOf 69 = .ok (.ireturn, 1) := by decide +kernel
theorem dX8_bettered_0 : decode cX8_bettered 0 = .ok (.fload_n 2, 1) := by decide +kernel
theorem dX8_bettered_1 : decode cX8_bettered 1 = .ok (.fload_n 1, 1) := by decide +kernel
theorem dX8_bettered_2 : decode cX8_bettered 2 = .ok (.fcmp .g, 1) := by decide +kernel
theorem dX8_bettered_3 : decode cX8_bettered 3 = .ok (.ifCond .ge 22, 3) := by decide +kernel
theorem dX8_bettered_6 : decode cX8_bettered 6 = .ok (.aload_n 0, 1) := by decide +kernel
theorem dX8_bettered_7 : decode cX8_bettered 7 = .ok (.iload_n 3, 1) := by decide +kernel
theorem dX8_bettered_8 : decode cX8_bettered 8 = .ok (.putfield 127, 3) := by decide +kernel
theorem dX8_bettered_11 : decode cX8_bettered 11 = .ok (.aload_n 0, 1) := by decide +kernel
theorem dX8_bettered_12 : decode cX8_bettered 12 = .ok (.iload 4, 2) := by decide +kernel
theorem dX8_bettered_14 : decode cX8_bettered 14 = .ok (.putfield 130, 3) := by decide +kernel
theorem dX8_bettered_17 : decode cX8_bettered 17 = .ok (.aload_n 0, 1) := by decide +kernel
theorem dX8_bettered_18 : decode cX8_bettered 18 = .ok (.iload 5, 2) := by decide +kernel
theorem dX8_bettered_20 : decode cX8_bettered 20 = .ok (.putfield 133, 3) := by decide +kernel
theorem dX8_bettered_23 : decode cX8_bettered 23 = .ok (.fload_n 2, 1) := by decide +kernel
theorem dX8_bettered_24 : decode cX8_bettered 24 = .ok (.freturn, 1) := by decide +kernel
theorem dX8_bettered_25 : decode cX8_bettered 25 = .ok (.fload_n 1, 1) := by decide +kernel
theorem dX8_bettered_26 : decode cX8_bettered 26 = .ok (.freturn, 1) := by decide +kernel
theorem dX8_fewest_0 : decode cX8_fewest 0 = .ok (.aload_n 0, 1) := by decide +kernel
theorem dX8_fewest_1 : decode cX8_fewest 1 = .ok (.getfield 26, 3) := by decide +kernel
theorem dX8_fewest_4 : decode cX8_fewest 4 = .ok (.iload_n 1, 1) := by decide +kernel
theorem dX8_fewest_5 : decode cX8_fewest 5 = .ok (.iaload, 1) := by decide +kernel
theorem dX8_fewest_6 : decode cX8_fewest 6 = .ok (.istore_n 3, 1) := by decide +kernel
theorem dX8_fewest_7 : decode cX8_fewest 7 = .ok (.aload_n 0, 1) := by decide +kernel
theorem dX8_fewest_8 : decode cX8_fewest 8 = .ok (.iload_n 3, 1) := by decide +kernel
theorem dX8_fewest_9 : decode cX8_fewest 9 = .ok (.invokevirtual 74, 3) := by decide +kernel
theorem dX8_fewest_12 : decode cX8_fewest 12 = .ok (.istore 4, 2) := by decide +kernel
theorem dX8_fewest_14 : decode cX8_fewest 14 = .ok (.iload 4, 2) := by decide +kernel
theorem dX8_fewest_16 : decode cX8_fewest 16 = .ok (.i2f, 1) := by decide +kernel
theorem dX8_fewest_17 : decode cX8_fewest 17 = .ok (.fstore 5, 2) := by decide +kernel
theorem dX8_fewest_19 : decode cX8_fewest 19 = .ok (.aload_n 0, 1) := by decide +kernel
theorem dX8_fewest_20 : decode cX8_fewest 20 = .ok (.iconst 0, 1) := by decide +kernel
theorem dX8_fewest_21 : decode cX8_fewest 21 = .ok (.putfield 127, 3) := by decide +kernel
theorem dX8_fewest_24 : decode cX8_fewest 24 = .ok (.aload_n 0, 1) := by decide +kernel
theorem dX8_fewest_25 : decode cX8_fewest 25 = .ok (.iconst (-1), 1) := by decide +kernel
theorem dX8_fewest_26 : decode cX8_fewest 26 = .ok (.putfield 130, 3) := by decide +kernel
theorem dX8_fewest_29 : decode cX8_fewest 29 = .ok (.aload_n 0, 1) := by decide +kernel
theorem dX8_fewest_30 : decode cX8_fewest 30 = .ok (.iconst (-1), 1) := by decide +kernel
theorem dX8_fewest_31 : decode cX8_fewest 31 = .ok (.putfield 133, 3) := by decide +kernel
theorem dX8_fewest_34 : decode cX8_fewest 34 = .ok (.iconst 0, 1) := by decide +kernel
theorem dX8_fewest_35 : decode cX8_fewest 35 = .ok (.istore 6, 2) := by decide +kernel
theorem dX8_fewest_37 : decode cX8_fewest 37 = .ok (.iload 6, 2) := by decide +kernel
theorem dX8_fewest_39 : decode cX8_fewest 39 = .ok (.aload_n 0, 1) := by decide +kernel
theorem dX8_fewest_40 : decode cX8_fewest 40 = .ok (.getfield 99, 3) := by decide +kernel
theorem dX8_fewest_43 : decode cX8_fewest 43 = .ok (.if_icmp .ge 149, 3) := by decide +kernel
theorem dX8_fewest_46 : decode cX8_fewest 46 = .ok (.aload_n 0, 1) := by decide +kernel
theorem dX8_fewest_47 : decode cX8_fewest 47 = .ok (.getfield 29, 3) := by decide +kernel
theorem dX8_fewest_50 : decode cX8_fewest 50 = .ok (.iconst 4, 1) := by decide +kernel
theorem dX8_fewest_51 : decode cX8_fewest 51 = .ok (.iload 6, 2) := by decide +kernel
theorem dX8_fewest_53 : decode cX8_fewest 53 = .ok (.imul, 1) := by decide +kernel
theorem dX8_fewest_54 : decode cX8_fewest 54 = .ok (.iconst 1, 1) := by decide +kernel
theorem dX8_fewest_55 : decode cX8_fewest 55 = .ok (.iadd, 1) := by decide +kernel
theorem dX8_fewest_56 : decode cX8_fewest 56 = .ok (.iaload, 1) := by decide +kernel
theorem dX8_fewest_57 : decode cX8_fewest 57 = .ok (.istore 7, 2) := by decide +kernel
theorem dX8_fewest_59 : decode cX8_fewest 59 = .ok (.aload_n 0, 1) := by decide +kernel
theorem dX8_fewest_60 : decode cX8_fewest 60 = .ok (.getfield 29, 3) := by decide +kernel
theorem dX8_fewest_63 : decode cX8_fewest 63 = .ok (.iconst 4, 1) := by decide +kernel
theorem dX8_fewest_64 : decode cX8_fewest 64 = .ok (.iload 6, 2) := by decide +kernel
theorem dX8_fewest_66 : decode cX8_fewest 66 = .ok (.imul, 1) := by decide +kernel
theorem dX8_fewest_67 : decode cX8_fewest 67 = .ok (.iconst 2, 1) := by decide +kernel
theorem dX8_fewest_68 : decode cX8_fewest 68 = .ok (.iadd, 1) := by decide +kernel
theorem dX8_fewest_69 : decode cX8_fewest 69 = .ok (.iaload, 1) := by decide +kernel
theorem dX8_fewest_70 : decode cX8_fewest 70 = .ok (.istore 8, 2) := by decide +kernel
theorem dX8_fewest_72 : decode cX8_fewest 72 = .ok (.aload_n 0, 1) := by decide +kernel
theorem dX8_fewest_73 : decode cX8_fewest 73 = .ok (.getfield 29, 3) := by decide +kernel
theorem dX8_fewest_76 : decode cX8_fewest 76 = .ok (.iconst 4, 1) := by decide +kernel
theorem dX8_fewest_77 : decode cX8_fewest 77 = .ok (.iload 6, 2) := by decide +kernel
theorem dX8_fewest_79 : decode cX8_fewest 79 = .ok (.imul, 1) := by decide +kernel
theorem dX8_fewest_80 : decode cX8_fewest 80 = .ok (.iaload, 1) := by decide +kernel
theorem dX8_fewest_81 : decode cX8_fewest 81 = .ok (.iload_n 1, 1) := by decide +kernel
theorem dX8_fewest_82 : decode cX8_fewest 82 = .ok (.if_icmp .ne 104, 3) := by decide +kernel
theorem dX8_fewest_85 : decode cX8_fewest 85 = .ok (.iload 8, 2) := by decide +kernel
theorem dX8_fewest_87 : decode cX8_fewest 87 = .ok (.iconst 3, 1) := by decide +kernel
theorem dX8_fewest_88 : decode cX8_fewest 88 = .ok (.if_icmp .ge 98, 3) := by decide +kernel
theorem dX8_fewest_91 : decode cX8_fewest 91 = .ok (.iload 4, 2) := by decide +kernel
theorem dX8_fewest_93 : decode cX8_fewest 93 = .ok (.i2f, 1) := by decide +kernel
theorem dX8_fewest_94 : decode cX8_fewest 94 = .ok (.aload_n 0, 1) := by decide +kernel
theorem dX8_fewest_95 : decode cX8_fewest 95 = .ok (.iload_n 3, 1) := by decide +kernel
theorem dX8_fewest_96 : decode cX8_fewest 96 = .ok (.iload 7, 2) := by decide +kernel
theorem dX8_fewest_98 : decode cX8_fewest 98 = .ok (.iload 8, 2) := by decide +kernel
theorem dX8_fewest_100 : decode cX8_fewest 100 = .ok (.aload_n 0, 1) := by decide +kernel
theorem dX8_fewest_101 : decode cX8_fewest 101 = .ok (.getfield 29, 3) := by decide +kernel
theorem dX8_fewest_104 : decode cX8_fewest 104 = .ok (.iconst 4, 1) := by decide +kernel
theorem dX8_fewest_105 : decode cX8_fewest 105 = .ok (.iload 6, 2) := by decide +kernel
theorem dX8_fewest_107 : decode cX8_fewest 107 = .ok (.imul, 1) := by decide +kernel
theorem dX8_fewest_108 : decode cX8_fewest 108 = .ok (.iconst 3, 1) := by decide +kernel
theorem dX8_fewest_109 : decode cX8_fewest 109 = .ok (.iadd, 1) := by decide +kernel
theorem dX8_fewest_110 : decode cX8_fewest 110 = .ok (.iaload, 1) := by decide +kernel
theorem dX8_fewest_111 : decode cX8_fewest 111 = .ok (.invokevirtual 136, 3) := by decide +kernel
theorem dX8_fewest_114 : decode cX8_fewest 114 = .ok (.fmul, 1) := by decide +kernel
theorem dX8_fewest_115 : decode cX8_fewest 115 = .ok (.fstore 9, 2) := by decide +kernel
theorem dX8_fewest_117 : decode cX8_fewest 117 = .ok (.iload 8, 2) := by decide +kernel
theorem dX8_fewest_119 : decode cX8_fewest 119 = .ok (.ifCond .ne 34, 3) := by decide +kernel
theorem dX8_fewest_122 : decode cX8_fewest 122 = .ok (.aload_n 0, 1) := by decide +kernel
theorem dX8_fewest_123 : decode cX8_fewest 123 = .ok (.getfield 23, 3) := by decide +kernel
theorem dX8_fewest_126 : decode cX8_fewest 126 = .ok (.bipush 8, 2) := by decide +kernel
theorem dX8_fewest_128 : decode cX8_fewest 128 = .ok (.iload_n 3, 1) := by decide +kernel
theorem dX8_fewest_129 : decode cX8_fewest 129 = .ok (.imul, 1) := by decide +kernel
theorem dX8_fewest_130 : decode cX8_fewest 130 = .ok (.iload 7, 2) := by decide +kernel
theorem dX8_fewest_132 : decode cX8_fewest 132 = .ok (.iadd, 1) := by decide +kernel
theorem dX8_fewest_133 : decode cX8_fewest 133 = .ok (.baload, 1) := by decide +kernel
theorem dX8_fewest_134 : decode cX8_fewest 134 = .ok (.ifCond .eq 19, 3) := by decide +kernel
theorem dX8_fewest_137 : decode cX8_fewest 137 = .ok (.aload_n 0, 1) := by decide +kernel
theorem dX8_fewest_138 : decode cX8_fewest 138 = .ok (.fload 5, 2) := by decide +kernel
theorem dX8_fewest_140 : decode cX8_fewest 140 = .ok (.fconst 1, 1) := by decide +kernel
theorem dX8_fewest_141 : decode cX8_fewest 141 = .ok (.fload 9, 2) := by decide +kernel
theorem dX8_fewest_143 : decode cX8_fewest 143 = .ok (.fadd, 1) := by decide +kernel
theorem dX8_fewest_144 : decode cX8_fewest 144 = .ok (.iconst 1, 1) := by decide +kernel
theorem dX8_fewest_145 : decode cX8_fewest 145 = .ok (.iload 6, 2) := by decide +kernel
theorem dX8_fewest_147 : decode cX8_fewest 147 = .ok (.iconst (-1), 1) := by decide +kernel
theorem dX8_fewest_148 : decode cX8_fewest 148 = .ok (.invokevirtual 140, 3) := by decide +kernel
theorem dX8_fewest_151 : decode cX8_fewest 151 = .ok (.fstore 5, 2) := by decide +kernel
theorem dX8_fewest_153 : decode cX8_fewest 153 = .ok (.aload_n 0, 1) := by decide +kernel
theorem dX8_fewest_154 : decode cX8_fewest 154 = .ok (.getfield 23, 3) := by decide +kernel
theorem dX8_fewest_157 : decode cX8_fewest 157 = .ok (.bipush 8, 2) := by decide +kernel
theorem dX8_fewest_159 : decode cX8_fewest 159 = .ok (.iload_n 3, 1) := by decide +kernel
theorem dX8_fewest_160 : decode cX8_fewest 160 = .ok (.imul, 1) := by decide +kernel
theorem dX8_fewest_161 : decode cX8_fewest 161 = .ok (.iconst 4, 1) := by decide +kernel
theorem dX8_fewest_162 : decode cX8_fewest 162 = .ok (.iadd, 1) := by decide +kernel
theorem dX8_fewest_163 : decode cX8_fewest 163 = .ok (.iload 7, 2) := by decide +kernel
theorem dX8_fewest_165 : decode cX8_fewest 165 = .ok (.iadd, 1) := by decide +kernel
theorem dX8_fewest_166 : decode cX8_fewest 166 = .ok (.baload, 1) := by decide +kernel
theorem dX8_fewest_167 : decode cX8_fewest 167 = .ok (.ifCond .eq 19, 3) := by decide +kernel
theorem dX8_fewest_170 : decode cX8_fewest 170 = .ok (.aload_n 0, 1) := by decide +kernel
theorem dX8_fewest_171 : decode cX8_fewest 171 = .ok (.fload 5, 2) := by decide +kernel
theorem dX8_fewest_173 : decode cX8_fewest 173 = .ok (.fconst 2, 1) := by decide +kernel
theorem dX8_fewest_174 : decode cX8_fewest 174 = .ok (.fload 9, 2) := by decide +kernel
theorem dX8_fewest_176 : decode cX8_fewest 176 = .ok (.fadd, 1) := by decide +kernel
theorem dX8_fewest_177 : decode cX8_fewest 177 = .ok (.iconst 2, 1) := by decide +kernel
theorem dX8_fewest_178 : decode cX8_fewest 178 = .ok (.iload 6, 2) := by decide +kernel
theorem dX8_fewest_180 : decode cX8_fewest 180 = .ok (.iconst (-1), 1) := by decide +kernel
theorem dX8_fewest_181 : decode cX8_fewest 181 = .ok (.invokevirtual 140, 3) := by decide +kernel
theorem dX8_fewest_184 : decode cX8_fewest 184 = .ok (.fstore 5, 2) := by decide +kernel
theorem dX8_fewest_186 : decode cX8_fewest 186 = .ok (.iinc 6 1, 3) := by decide +kernel
theorem dX8_fewest_189 : decode cX8_fewest 189 = .ok (.goto (-152), 3) := by decide +kernel
theorem dX8_fewest_192 : decode cX8_fewest 192 = .ok (.iconst 0, 1) := by decide +kernel
theorem dX8_fewest_193 : decode cX8_fewest 193 = .ok (.istore 6, 2) := by decide +kernel
theorem dX8_fewest_195 : decode cX8_fewest 195 = .ok (.iload 6, 2) := by decide +kernel
theorem dX8_fewest_197 : decode cX8_fewest 197 = .ok (.aload_n 0, 1) := by decide +kernel
theorem dX8_fewest_198 : decode cX8_fewest 198 = .ok (.getfield 102, 3) := by decide +kernel
theorem dX8_fewest_201 : decode cX8_fewest 201 = .ok (.if_icmp .ge 119, 3) := by decide +kernel
theorem dX8_fewest_204 : decode cX8_fewest 204 = .ok (.aload_n 0, 1) := by decide +kernel
theorem dX8_fewest_205 : decode cX8_fewest 205 = .ok (.iload 6, 2) := by decide +kernel
theorem dX8_fewest_207 : decode cX8_fewest 207 = .ok (.iload_n 1, 1) := by decide +kernel
theorem dX8_fewest_208 : decode cX8_fewest 208 = .ok (.iload_n 2, 1) := by decide +kernel
theorem dX8_fewest_209 : decode cX8_fewest 209 = .ok (.invokevirtual 144, 3) := by decide +kernel
theorem dX8_fewest_212 : decode cX8_fewest 212 = .ok (.istore 7, 2) := by decide +kernel
theorem dX8_fewest_214 : decode cX8_fewest 214 = .ok (.iload 7, 2) := by decide +kernel
theorem dX8_fewest_216 : decode cX8_fewest 216 = .ok (.ifCond .lt 98, 3) := by decide +kernel
theorem dX8_fewest_219 : decode cX8_fewest 219 = .ok (.aload_n 0, 1) := by decide +kernel
theorem dX8_fewest_220 : decode cX8_fewest 220 = .ok (.getfield 32, 3) := by decide +kernel
theorem dX8_fewest_223 : decode cX8_fewest 223 = .ok (.iconst 4, 1) := by decide +kernel
theorem dX8_fewest_224 : decode cX8_fewest 224 = .ok (.iload 6, 2) := by decide +kernel
theorem dX8_fewest_226 : decode cX8_fewest 226 = .ok (.imul, 1) := by decide +kernel
theorem dX8_fewest_227 : decode cX8_fewest 227 = .ok (.iload 7, 2) := by decide +kernel
theorem dX8_fewest_229 : decode cX8_fewest 229 = .ok (.iadd, 1) := by decide +kernel
theorem dX8_fewest_230 : decode cX8_fewest 230 = .ok (.iconst 1, 1) := by decide +kernel
theorem dX8_fewest_231 : decode cX8_fewest 231 = .ok (.iadd, 1) := by decide +kernel
theorem dX8_fewest_232 : decode cX8_fewest 232 = .ok (.iaload, 1) := by decide +kernel
theorem dX8_fewest_233 : decode cX8_fewest 233 = .ok (.istore 8, 2) := by decide +kernel
theorem dX8_fewest_235 : decode cX8_fewest 235 = .ok (.iload 4, 2) := by decide +kernel
theorem dX8_fewest_237 : decode cX8_fewest 237 = .ok (.i2f, 1) := by decide +kernel
theorem dX8_fewest_238 : decode cX8_fewest 238 = .ok (.aload_n 0, 1) := by decide +kernel
theorem dX8_fewest_239 : decode cX8_fewest 239 = .ok (.iload_n 3, 1) := by decide +kernel
theorem dX8_fewest_240 : decode cX8_fewest 240 = .ok (.iload 8, 2) := by decide +kernel
theorem dX8_fewest_242 : decode cX8_fewest 242 = .ok (.iconst 0, 1) := by decide +kernel
theorem dX8_fewest_243 : decode cX8_fewest 243 = .ok (.iconst 0, 1) := by decide +kernel
theorem dX8_fewest_244 : decode cX8_fewest 244 = .ok (.invokevirtual 136, 3) := by decide +kernel
theorem dX8_fewest_247 : decode cX8_fewest 247 = .ok (.fmul, 1) := by decide +kernel
theorem dX8_fewest_248 : decode cX8_fewest 248 = .ok (.fstore 9, 2) := by decide +kernel
theorem dX8_fewest_250 : decode cX8_fewest 250 = .ok (.aload_n 0, 1) := by decide +kernel
theorem dX8_fewest_251 : decode cX8_fewest 251 = .ok (.getfield 23, 3) := by decide +kernel
theorem dX8_fewest_254 : decode cX8_fewest 254 = .ok (.bipush 8, 2) := by decide +kernel
theorem dX8_fewest_256 : decode cX8_fewest 256 = .ok (.iload_n 3, 1) := by decide +kernel
theorem dX8_fewest_257 : decode cX8_fewest 257 = .ok (.imul, 1) := by decide +kernel
theorem dX8_fewest_258 : decode cX8_fewest 258 = .ok (.iload 8, 2) := by decide +kernel
theorem dX8_fewest_260 : decode cX8_fewest 260 = .ok (.iadd, 1) := by decide +kernel
theorem dX8_fewest_261 : decode cX8_fewest 261 = .ok (.baload, 1) := by decide +kernel
theorem dX8_fewest_262 : decode cX8_fewest 262 = .ok (.ifCond .eq 19, 3) := by decide +kernel
theorem dX8_fewest_265 : decode cX8_fewest 265 = .ok (.aload_n 0, 1) := by decide +kernel
theorem dX8_fewest_266 : decode cX8_fewest 266 = .ok (.fload 5, 2) := by decide +kernel
theorem dX8_fewest_268 : decode cX8_fewest 268 = .ok (.fconst 1, 1) := by decide +kernel
theorem dX8_fewest_269 : decode cX8_fewest 269 = .ok (.fload 9, 2) := by decide +kernel
theorem dX8_fewest_271 : decode cX8_fewest 271 = .ok (.fadd, 1) := by decide +kernel
theorem dX8_fewest_272 : decode cX8_fewest 272 = .ok (.iconst 1, 1) := by decide +kernel
theorem dX8_fewest_273 : decode cX8_fewest 273 = .ok (.iconst (-1), 1) := by decide +kernel
theorem dX8_fewest_274 : decode cX8_fewest 274 = .ok (.iload 6, 2) := by decide +kernel
theorem dX8_fewest_276 : decode cX8_fewest 276 = .ok (.invokevirtual 140, 3) := by decide +kernel
theorem dX8_fewest_279 : decode cX8_fewest 279 = .ok (.fstore 5, 2) := by decide +kernel
theorem dX8_fewest_281 : decode cX8_fewest 281 = .ok (.aload_n 0, 1) := by decide +kernel
theorem dX8_fewest_282 : decode cX8_fewest 282 = .ok (.getfield 23, 3) := by decide +kernel
theorem dX8_fewest_285 : decode cX8_fewest 285 = .ok (.bipush 8, 2) := by decide +kernel
theorem dX8_fewest_287 : decode cX8_fewest 287 = .ok (.iload_n 3, 1) := by decide +kernel
theorem dX8_fewest_288 : decode cX8_fewest 288 = .ok (.imul, 1) := by decide +kernel
theorem dX8_fewest_289 : decode cX8_fewest 289 = .ok (.iconst 4, 1) := by decide +kernel
theorem dX8_fewest_290 : decode cX8_fewest 290 = .ok (.iadd, 1) := by decide +kernel
theorem dX8_fewest_291 : decode cX8_fewest 291 = .ok (.iload 8, 2) := by decide +kernel
theorem dX8_fewest_293 : decode cX8_fewest 293 = .ok (.iadd, 1) := by decide +kernel
theorem dX8_fewest_294 : decode cX8_fewest 294 = .ok (.baload, 1) := by decide +kernel
theorem dX8_fewest_295 : decode cX8_fewest 295 = .ok (.ifCond .eq 19, 3) := by decide +kernel
theorem dX8_fewest_298 : decode cX8_fewest 298 = .ok (.aload_n 0, 1) := by decide +kernel
theorem dX8_fewest_299 : decode cX8_fewest 299 = .ok (.fload 5, 2) := by decide +kernel
theorem dX8_fewest_301 : decode cX8_fewest 301 = .ok (.fconst 2, 1) := by decide +kernel
theorem dX8_fewest_302 : decode cX8_fewest 302 = .ok (.fload 9, 2) := by decide +kernel
theorem dX8_fewest_304 : decode cX8_fewest 304 = .ok (.fadd, 1) := by decide +kernel
theorem dX8_fewest_305 : decode cX8_fewest 305 = .ok (.iconst 2, 1) := by decide +kernel
theorem dX8_fewest_306 : decode cX8_fewest 306 = .ok (.iconst (-1), 1) := by decide +kernel
theorem dX8_fewest_307 : decode cX8_fewest 307 = .ok (.iload 6, 2) := by decide +kernel
theorem dX8_fewest_309 : decode cX8_fewest 309 = .ok (.invokevirtual 140, 3) := by decide +kernel
theorem dX8_fewest_312 : decode cX8_fewest 312 = .ok (.fstore 5, 2) := by decide +kernel
theorem dX8_fewest_314 : decode cX8_fewest 314 = .ok (.iinc 6 1, 3) := by decide +kernel
theorem dX8_fewest_317 : decode cX8_fewest 317 = .ok (.goto (-122), 3) := by decide +kernel
theorem dX8_fewest_320 : decode cX8_fewest 320 = .ok (.fload 5, 2) := by decide +kernel
theorem dX8_fewest_322 : decode cX8_fewest 322 = .ok (.freturn, 1) := by decide +kernel
theorem dX8_lessened_0 : decode cX8_lessened 0 = .ok (.aload_n 0, 1) := by decide +kernel
theorem dX8_lessened_1 : decode cX8_lessened 1 = .ok (.getfield 26, 3) := by decide +kernel
theorem dX8_lessened_4 : decode cX8_lessened 4 = .ok (.iload_n 2, 1) := by decide +kernel
theorem dX8_lessened_5 : decode cX8_lessened 5 = .ok (.iaload, 1) := by decide +kernel
theorem dX8_lessened_6 : decode cX8_lessened 6 = .ok (.istore 4, 2) := by decide +kernel
theorem dX8_lessened_8 : decode cX8_lessened 8 = .ok (.fload_n 1, 1) := by decide +kernel
theorem dX8_lessened_9 : decode cX8_lessened 9 = .ok (.aload_n 0, 1) := by decide +kernel
theorem dX8_lessened_10 : decode cX8_lessened 10 = .ok (.iload 4, 2) := by decide +kernel
theorem dX8_lessened_12 : decode cX8_lessened 12 = .ok (.invokevirtual 74, 3) := by decide +kernel
theorem dX8_lessened_15 : decode cX8_lessened 15 = .ok (.i2f, 1) := by decide +kernel
theorem dX8_lessened_16 : decode cX8_lessened 16 = .ok (.fmul, 1) := by decide +kernel
theorem dX8_lessened_17 : decode cX8_lessened 17 = .ok (.fstore 5, 2) := by decide +kernel
theorem dX8_lessened_19 : decode cX8_lessened 19 = .ok (.iconst 0, 1) := by decide +kernel
theorem dX8_lessened_20 : decode cX8_lessened 20 = .ok (.istore 6, 2) := by decide +kernel
theorem dX8_lessened_22 : decode cX8_lessened 22 = .ok (.iload 6, 2) := by decide +kernel
theorem dX8_lessened_24 : decode cX8_lessened 24 = .ok (.aload_n 0, 1) := by decide +kernel
theorem dX8_lessened_25 : decode cX8_lessened 25 = .ok (.getfield 99, 3) := by decide +kernel
theorem dX8_lessened_28 : decode cX8_lessened 28 = .ok (.if_icmp .ge 66, 3) := by decide +kernel
theorem dX8_lessened_31 : decode cX8_lessened 31 = .ok (.aload_n 0, 1) := by decide +kernel
theorem dX8_lessened_32 : decode cX8_lessened 32 = .ok (.getfield 29, 3) := by decide +kernel
theorem dX8_lessened_35 : decode cX8_lessened 35 = .ok (.iconst 4, 1) := by decide +kernel
theorem dX8_lessened_36 : decode cX8_lessened 36 = .ok (.iload 6, 2) := by decide +kernel
theorem dX8_lessened_38 : decode cX8_lessened 38 = .ok (.imul, 1) := by decide +kernel
theorem dX8_lessened_39 : decode cX8_lessened 39 = .ok (.iaload, 1) := by decide +kernel
theorem dX8_lessened_40 : decode cX8_lessened 40 = .ok (.iload_n 2, 1) := by decide +kernel
theorem dX8_lessened_41 : decode cX8_lessened 41 = .ok (.if_icmp .ne 47, 3) := by decide +kernel
theorem dX8_lessened_44 : decode cX8_lessened 44 = .ok (.fload 5, 2) := by decide +kernel
theorem dX8_lessened_46 : decode cX8_lessened 46 = .ok (.aload_n 0, 1) := by decide +kernel
theorem dX8_lessened_47 : decode cX8_lessened 47 = .ok (.iload 4, 2) := by decide +kernel
theorem dX8_lessened_49 : decode cX8_lessened 49 = .ok (.aload_n 0, 1) := by decide +kernel
theorem dX8_lessened_50 : decode cX8_lessened 50 = .ok (.getfield 29, 3) := by decide +kernel
theorem dX8_lessened_53 : decode cX8_lessened 53 = .ok (.iconst 4, 1) := by decide +kernel
theorem dX8_lessened_54 : decode cX8_lessened 54 = .ok (.iload 6, 2) := by decide +kernel
theorem dX8_lessened_56 : decode cX8_lessened 56 = .ok (.imul, 1) := by decide +kernel
theorem dX8_lessened_57 : decode cX8_lessened 57 = .ok (.iconst 1, 1) := by decide +kernel
theorem dX8_lessened_58 : decode cX8_lessened 58 = .ok (.iadd, 1) := by decide +kernel
theorem dX8_lessened_59 : decode cX8_lessened 59 = .ok (.iaload, 1) := by decide +kernel
theorem dX8_lessened_60 : decode cX8_lessened 60 = .ok (.aload_n 0, 1) := by decide +kernel
theorem dX8_lessened_61 : decode cX8_lessened 61 = .ok (.getfield 29, 3) := by decide +kernel
theorem dX8_lessened_64 : decode cX8_lessened 64 = .ok (.iconst 4, 1) := by decide +kernel
theorem dX8_lessened_65 : decode cX8_lessened 65 = .ok (.iload 6, 2) := by decide +kernel
theorem dX8_lessened_67 : decode cX8_lessened 67 = .ok (.imul, 1) := by decide +kernel
theorem dX8_lessened_68 : decode cX8_lessened 68 = .ok (.iconst 2, 1) := by decide +kernel
theorem dX8_lessened_69 : decode cX8_lessened 69 = .ok (.iadd, 1) := by decide +kernel
theorem dX8_lessened_70 : decode cX8_lessened 70 = .ok (.iaload, 1) := by decide +kernel
theorem dX8_lessened_71 : decode cX8_lessened 71 = .ok (.aload_n 0, 1) := by decide +kernel
theorem dX8_lessened_72 : decode cX8_lessened 72 = .ok (.getfield 29, 3) := by decide +kernel
theorem dX8_lessened_75 : decode cX8_lessened 75 = .ok (.iconst 4, 1) := by decide +kernel
theorem dX8_lessened_76 : decode cX8_lessened 76 = .ok (.iload 6, 2) := by decide +kernel
theorem dX8_lessened_78 : decode cX8_lessened 78 = .ok (.imul, 1) := by decide +kernel
theorem dX8_lessened_79 : decode cX8_lessened 79 = .ok (.iconst 3, 1) := by decide +kernel
theorem dX8_lessened_80 : decode cX8_lessened 80 = .ok (.iadd, 1) := by decide +kernel
theorem dX8_lessened_81 : decode cX8_lessened 81 = .ok (.iaload, 1) := by decide +kernel
theorem dX8_lessened_82 : decode cX8_lessened 82 = .ok (.invokevirtual 136, 3) := by decide +kernel
theorem dX8_lessened_85 : decode cX8_lessened 85 = .ok (.fmul, 1) := by decide +kernel
theorem dX8_lessened_86 : decode cX8_lessened 86 = .ok (.fstore 5, 2) := by decide +kernel
theorem dX8_lessened_88 : decode cX8_lessened 88 = .ok (.iinc 6 1, 3) := by decide +kernel
theorem dX8_lessened_91 : decode cX8_lessened 91 = .ok (.goto (-69), 3) := by decide +kernel
theorem dX8_lessened_94 : decode cX8_lessened 94 = .ok (.iconst 0, 1) := by decide +kernel
theorem dX8_lessened_95 : decode cX8_lessened 95 = .ok (.istore 6, 2) := by decide +kernel
theorem dX8_lessened_97 : decode cX8_lessened 97 = .ok (.iload 6, 2) := by decide +kernel
theorem dX8_lessened_99 : decode cX8_lessened 99 = .ok (.aload_n 0, 1) := by decide +kernel
theorem dX8_lessened_100 : decode cX8_lessened 100 = .ok (.getfield 102, 3) := by decide +kernel
theorem dX8_lessened_103 : decode cX8_lessened 103 = .ok (.if_icmp .ge 51, 3) := by decide +kernel
theorem dX8_lessened_106 : decode cX8_lessened 106 = .ok (.aload_n 0, 1) := by decide +kernel
theorem dX8_lessened_107 : decode cX8_lessened 107 = .ok (.iload 6, 2) := by decide +kernel
theorem dX8_lessened_109 : decode cX8_lessened 109 = .ok (.iload_n 2, 1) := by decide +kernel
theorem dX8_lessened_110 : decode cX8_lessened 110 = .ok (.iload_n 3, 1) := by decide +kernel
theorem dX8_lessened_111 : decode cX8_lessened 111 = .ok (.invokevirtual 144, 3) := by decide +kernel
theorem dX8_lessened_114 : decode cX8_lessened 114 = .ok (.istore 7, 2) := by decide +kernel
theorem dX8_lessened_116 : decode cX8_lessened 116 = .ok (.iload 7, 2) := by decide +kernel
theorem dX8_lessened_118 : decode cX8_lessened 118 = .ok (.ifCond .lt 30, 3) := by decide +kernel
theorem dX8_lessened_121 : decode cX8_lessened 121 = .ok (.fload 5, 2) := by decide +kernel
theorem dX8_lessened_123 : decode cX8_lessened 123 = .ok (.aload_n 0, 1) := by decide +kernel
theorem dX8_lessened_124 : decode cX8_lessened 124 = .ok (.iload 4, 2) := by decide +kernel
theorem dX8_lessened_126 : decode cX8_lessened 126 = .ok (.aload_n 0, 1) := by decide +kernel
theorem dX8_lessened_127 : decode cX8_lessened 127 = .ok (.getfield 32, 3) := by decide +kernel
theorem dX8_lessened_130 : decode cX8_lessened 130 = .ok (.iconst 4, 1) := by decide +kernel
theorem dX8_lessened_131 : decode cX8_lessened 131 = .ok (.iload 6, 2) := by decide +kernel
theorem dX8_lessened_133 : decode cX8_lessened 133 = .ok (.imul, 1) := by decide +kernel
theorem dX8_lessened_134 : decode cX8_lessened 134 = .ok (.iload 7, 2) := by decide +kernel
theorem dX8_lessened_136 : decode cX8_lessened 136 = .ok (.iadd, 1) := by decide +kernel
theorem dX8_lessened_137 : decode cX8_lessened 137 = .ok (.iconst 1, 1) := by decide +kernel
theorem dX8_lessened_138 : decode cX8_lessened 138 = .ok (.iadd, 1) := by decide +kernel
theorem dX8_lessened_139 : decode cX8_lessened 139 = .ok (.iaload, 1) := by decide +kernel
theorem dX8_lessened_140 : decode cX8_lessened 140 = .ok (.iconst 0, 1) := by decide +kernel
theorem dX8_lessened_141 : decode cX8_lessened 141 = .ok (.iconst 0, 1) := by decide +kernel
theorem dX8_lessened_142 : decode cX8_lessened 142 = .ok (.invokevirtual 136, 3) := by decide +kernel
theorem dX8_lessened_145 : decode cX8_lessened 145 = .ok (.fmul, 1) := by decide +kernel
theorem dX8_lessened_146 : decode cX8_lessened 146 = .ok (.fstore 5, 2) := by decide +kernel
theorem dX8_lessened_148 : decode cX8_lessened 148 = .ok (.iinc 6 1, 3) := by decide +kernel
theorem dX8_lessened_151 : decode cX8_lessened 151 = .ok (.goto (-54), 3) := by decide +kernel
theorem dX8_lessened_154 : decode cX8_lessened 154 = .ok (.fload 5, 2) := by decide +kernel
theorem dX8_lessened_156 : decode cX8_lessened 156 = .ok (.freturn, 1) := by decide +kernel
theorem dX8_ordered_0 : decode cX8_ordered 0 = .ok (.iload_n 0, 1) := by decide +kernel
theorem dX8_ordered_1 : decode cX8_ordered 1 = .ok (.iconst 2, 1) := by decide +kernel
theorem dX8_ordered_2 : decode cX8_ordered 2 = .ok (.idiv, 1) := by decide +kernel
theorem dX8_ordered_3 : decode cX8_ordered 3 = .ok (.istore_n 2, 1) := by decide +kernel
theorem dX8_ordered_4 : decode cX8_ordered 4 = .ok (.iload_n 1, 1) := by decide +kernel
theorem dX8_ordered_5 : decode cX8_ordered 5 = .ok (.ifCond .ne 5, 3) := by decide +kernel
theorem dX8_ordered_8 : decode cX8_ordered 8 = .ok (.iload_n 2, 1) := by decide +kernel
theorem dX8_ordered_9 : decode cX8_ordered 9 = .ok (.ireturn, 1) := by decide +kernel
theorem dX8_ordered_10 : decode cX8_ordered 10 = .ok (.iload_n 2, 1) := by decide +kernel
theorem dX8_ordered_11 : decode cX8_ordered 11 = .ok (.ifCond .ne 7, 3) := by decide +kernel
theorem dX8_ordered_14 : decode cX8_ordered 14 = .ok (.iconst 1, 1) := by decide +kernel
theorem dX8_ordered_15 : decode cX8_ordered 15 = .ok (.goto 4, 3) := by decide +kernel
theorem dX8_ordered_18 : decode cX8_ordered 18 = .ok (.iconst 0, 1) := by decide +kernel
theorem dX8_ordered_19 : decode cX8_ordered 19 = .ok (.istore_n 3, 1) := by decide +kernel
theorem dX8_ordered_20 : decode cX8_ordered 20 = .ok (.iconst 3, 1) := by decide +kernel
theorem dX8_ordered_21 : decode cX8_ordered 21 = .ok (.iload_n 2, 1) := by decide +kernel
theorem dX8_ordered_22 : decode cX8_ordered 22 = .ok (.isub, 1) := by decide +kernel
theorem dX8_ordered_23 : decode cX8_ordered 23 = .ok (.iload_n 3, 1) := by decide +kernel
theorem dX8_ordered_24 : decode cX8_ordered 24 = .ok (.isub, 1) := by decide +kernel
theorem dX8_ordered_25 : decode cX8_ordered 25 = .ok (.istore 4, 2) := by decide +kernel
theorem dX8_ordered_27 : decode cX8_ordered 27 = .ok (.iload_n 1, 1) := by decide +kernel
theorem dX8_ordered_28 : decode cX8_ordered 28 = .ok (.iconst 1, 1) := by decide +kernel
theorem dX8_ordered_29 : decode cX8_ordered 29 = .ok (.if_icmp .ne 7, 3) := by decide +kernel
theorem dX8_ordered_32 : decode cX8_ordered 32 = .ok (.iconst 1, 1) := by decide +kernel
theorem dX8_ordered_33 : decode cX8_ordered 33 = .ok (.goto 4, 3) := by decide +kernel
theorem dX8_ordered_36 : decode cX8_ordered 36 = .ok (.iconst 0, 1) := by decide +kernel
theorem dX8_ordered_37 : decode cX8_ordered 37 = .ok (.iload_n 0, 1) := by decide +kernel
theorem dX8_ordered_38 : decode cX8_ordered 38 = .ok (.iconst 2, 1) := by decide +kernel
theorem dX8_ordered_39 : decode cX8_ordered 39 = .ok (.irem, 1) := by decide +kernel
theorem dX8_ordered_40 : decode cX8_ordered 40 = .ok (.ifCond .ne 7, 3) := by decide +kernel
theorem dX8_ordered_43 : decode cX8_ordered 43 = .ok (.iconst 1, 1) := by decide +kernel
theorem dX8_ordered_44 : decode cX8_ordered 44 = .ok (.goto 4, 3) := by decide +kernel
theorem dX8_ordered_47 : decode cX8_ordered 47 = .ok (.iconst 0, 1) := by decide +kernel
theorem dX8_ordered_48 : decode cX8_ordered 48 = .ok (.if_icmp .ne 7, 3) := by decide +kernel
theorem dX8_ordered_51 : decode cX8_ordered 51 = .ok (.iload_n 3, 1) := by decide +kernel
theorem dX8_ordered_52 : decode cX8_ordered 52 = .ok (.goto 5, 3) := by decide +kernel
theorem dX8_ordered_55 : decode cX8_ordered 55 = .ok (.iload 4, 2) := by decide +kernel
theorem dX8_ordered_57 : decode cX8_ordered 57 = .ok (.ireturn, 1) := by decide +kernel
theorem dX8_cost_0 : decode cX8_cost 0 = .ok (.fconst 1, 1) := by decide +kernel
theorem dX8_cost_1 : decode cX8_cost 1 = .ok (.fstore_n 2, 1) := by decide +kernel
theorem dX8_cost_2 : decode cX8_cost 2 = .ok (.fconst 0, 1) := by decide +kernel
theorem dX8_cost_3 : decode cX8_cost 3 = .ok (.fstore_n 3, 1) := by decide +kernel
theorem dX8_cost_4 : decode cX8_cost 4 = .ok (.iconst 0, 1) := by decide +kernel
theorem dX8_cost_5 : decode cX8_cost 5 = .ok (.istore 4, 2) := by decide +kernel
theorem dX8_cost_7 : decode cX8_cost 7 = .ok (.iconst 0, 1) := by decide +kernel
theorem dX8_cost_8 : decode cX8_cost 8 = .ok (.istore 5, 2) := by decide +kernel
theorem dX8_cost_10 : decode cX8_cost 10 = .ok (.iconst 0, 1) := by decide +kernel
theorem dX8_cost_11 : decode cX8_cost 11 = .ok (.istore 6, 2) := by decide +kernel
theorem dX8_cost_13 : decode cX8_cost 13 = .ok (.iload 6, 2) := by decide +kernel
theorem dX8_cost_15 : decode cX8_cost 15 = .ok (.iconst 3, 1) := by decide +kernel
theorem dX8_cost_16 : decode cX8_cost 16 = .ok (.if_icmp .ge 107, 3) := by decide +kernel
theorem dX8_cost_19 : decode cX8_cost 19 = .ok (.iload_n 1, 1) := by decide +kernel
theorem dX8_cost_20 : decode cX8_cost 20 = .ok (.iload 6, 2) := by decide +kernel
theorem dX8_cost_22 : decode cX8_cost 22 = .ok (.invokestatic 147, 3) := by decide +kernel
theorem dX8_cost_25 : decode cX8_cost 25 = .ok (.istore 7, 2) := by decide +kernel
theorem dX8_cost_27 : decode cX8_cost 27 = .ok (.iload 7, 2) := by decide +kernel
theorem dX8_cost_29 : decode cX8_cost 29 = .ok (.aload_n 0, 1) := by decide +kernel
theorem dX8_cost_30 : decode cX8_cost 30 = .ok (.getfield 96, 3) := by decide +kernel
theorem dX8_cost_33 : decode cX8_cost 33 = .ok (.if_icmp .ge 84, 3) := by decide +kernel
theorem dX8_cost_36 : decode cX8_cost 36 = .ok (.aload_n 0, 1) := by decide +kernel
theorem dX8_cost_37 : decode cX8_cost 37 = .ok (.iload 7, 2) := by decide +kernel
theorem dX8_cost_39 : decode cX8_cost 39 = .ok (.iload 4, 2) := by decide +kernel
theorem dX8_cost_41 : decode cX8_cost 41 = .ok (.invokevirtual 151, 3) := by decide +kernel
theorem dX8_cost_44 : decode cX8_cost 44 = .ok (.fstore 8, 2) := by decide +kernel
theorem dX8_cost_46 : decode cX8_cost 46 = .ok (.fload_n 3, 1) := by decide +kernel
theorem dX8_cost_47 : decode cX8_cost 47 = .ok (.fload_n 2, 1) := by decide +kernel
theorem dX8_cost_48 : decode cX8_cost 48 = .ok (.fload 8, 2) := by decide +kernel
theorem dX8_cost_50 : decode cX8_cost 50 = .ok (.fmul, 1) := by decide +kernel
theorem dX8_cost_51 : decode cX8_cost 51 = .ok (.fadd, 1) := by decide +kernel
theorem dX8_cost_52 : decode cX8_cost 52 = .ok (.fstore_n 3, 1) := by decide +kernel
theorem dX8_cost_53 : decode cX8_cost 53 = .ok (.aload_n 0, 1) := by decide +kernel
theorem dX8_cost_54 : decode cX8_cost 54 = .ok (.fload_n 2, 1) := by decide +kernel
theorem dX8_cost_55 : decode cX8_cost 55 = .ok (.iload 7, 2) := by decide +kernel
theorem dX8_cost_57 : decode cX8_cost 57 = .ok (.iload 4, 2) := by decide +kernel
theorem dX8_cost_59 : decode cX8_cost 59 = .ok (.invokevirtual 155, 3) := by decide +kernel
theorem dX8_cost_62 : decode cX8_cost 62 = .ok (.fstore_n 2, 1) := by decide +kernel
theorem dX8_cost_63 : decode cX8_cost 63 = .ok (.iload 4, 2) := by decide +kernel
theorem dX8_cost_65 : decode cX8_cost 65 = .ok (.iconst 1, 1) := by decide +kernel
theorem dX8_cost_66 : decode cX8_cost 66 = .ok (.iload 7, 2) := by decide +kernel
theorem dX8_cost_68 : decode cX8_cost 68 = .ok (.ishl, 1) := by decide +kernel
theorem dX8_cost_69 : decode cX8_cost 69 = .ok (.ior, 1) := by decide +kernel
theorem dX8_cost_70 : decode cX8_cost 70 = .ok (.istore 4, 2) := by decide +kernel
theorem dX8_cost_72 : decode cX8_cost 72 = .ok (.aload_n 0, 1) := by decide +kernel
theorem dX8_cost_73 : decode cX8_cost 73 = .ok (.getfield 38, 3) := by decide +kernel
theorem dX8_cost_76 : decode cX8_cost 76 = .ok (.iload 5, 2) := by decide +kernel
theorem dX8_cost_78 : decode cX8_cost 78 = .ok (.iload 7, 2) := by decide +kernel
theorem dX8_cost_80 : decode cX8_cost 80 = .ok (.iastore, 1) := by decide +kernel
theorem dX8_cost_81 : decode cX8_cost 81 = .ok (.aload_n 0, 1) := by decide +kernel
theorem dX8_cost_82 : decode cX8_cost 82 = .ok (.getfield 41, 3) := by decide +kernel
theorem dX8_cost_85 : decode cX8_cost 85 = .ok (.iload 5, 2) := by decide +kernel
theorem dX8_cost_87 : decode cX8_cost 87 = .ok (.aload_n 0, 1) := by decide +kernel
theorem dX8_cost_88 : decode cX8_cost 88 = .ok (.getfield 127, 3) := by decide +kernel
theorem dX8_cost_91 : decode cX8_cost 91 = .ok (.iastore, 1) := by decide +kernel
theorem dX8_cost_92 : decode cX8_cost 92 = .ok (.aload_n 0, 1) := by decide +kernel
theorem dX8_cost_93 : decode cX8_cost 93 = .ok (.getfield 44, 3) := by decide +kernel
theorem dX8_cost_96 : decode cX8_cost 96 = .ok (.iload 5, 2) := by decide +kernel
theorem dX8_cost_98 : decode cX8_cost 98 = .ok (.aload_n 0, 1) := by decide +kernel
theorem dX8_cost_99 : decode cX8_cost 99 = .ok (.getfield 130, 3) := by decide +kernel
theorem dX8_cost_102 : decode cX8_cost 102 = .ok (.iastore, 1) := by decide +kernel
theorem dX8_cost_103 : decode cX8_cost 103 = .ok (.aload_n 0, 1) := by decide +kernel
theorem dX8_cost_104 : decode cX8_cost 104 = .ok (.getfield 47, 3) := by decide +kernel
theorem dX8_cost_107 : decode cX8_cost 107 = .ok (.iload 5, 2) := by decide +kernel
theorem dX8_cost_109 : decode cX8_cost 109 = .ok (.aload_n 0, 1) := by decide +kernel
theorem dX8_cost_110 : decode cX8_cost 110 = .ok (.getfield 133, 3) := by decide +kernel
theorem dX8_cost_113 : decode cX8_cost 113 = .ok (.iastore, 1) := by decide +kernel
theorem dX8_cost_114 : decode cX8_cost 114 = .ok (.iinc 5 1, 3) := by decide +kernel
theorem dX8_cost_117 : decode cX8_cost 117 = .ok (.iinc 6 1, 3) := by decide +kernel
theorem dX8_cost_120 : decode cX8_cost 120 = .ok (.goto (-107), 3) := by decide +kernel
theorem dX8_cost_123 : decode cX8_cost 123 = .ok (.fload_n 3, 1) := by decide +kernel
theorem dX8_cost_124 : decode cX8_cost 124 = .ok (.freturn, 1) := by decide +kernel
theorem dX8_plan_0 : decode cX8_plan 0 = .ok (.aload_n 0, 1) := by decide +kernel
theorem dX8_plan_1 : decode cX8_plan 1 = .ok (.aload_n 0, 1) := by decide +kernel
theorem dX8_plan_2 : decode cX8_plan 2 = .ok (.getfield 96, 3) := by decide +kernel
theorem dX8_plan_5 : decode cX8_plan 5 = .ok (.ifCond .eq 17, 3) := by decide +kernel
theorem dX8_plan_8 : decode cX8_plan 8 = .ok (.aload_n 0, 1) := by decide +kernel
theorem dX8_plan_9 : decode cX8_plan 9 = .ok (.getfield 105, 3) := by decide +kernel
theorem dX8_plan_12 : decode cX8_plan 12 = .ok (.ifCond .eq 10, 3) := by decide +kernel
theorem dX8_plan_15 : decode cX8_plan 15 = .ok (.aload_n 0, 1) := by decide +kernel
theorem dX8_plan_16 : decode cX8_plan 16 = .ok (.getfield 71, 3) := by decide +kernel
theorem dX8_plan_19 : decode cX8_plan 19 = .ok (.ifCond .eq 7, 3) := by decide +kernel
theorem dX8_plan_22 : decode cX8_plan 22 = .ok (.iconst 1, 1) := by decide +kernel
theorem dX8_plan_23 : decode cX8_plan 23 = .ok (.goto 4, 3) := by decide +kernel
theorem dX8_plan_26 : decode cX8_plan 26 = .ok (.iconst 0, 1) := by decide +kernel
theorem dX8_plan_27 : decode cX8_plan 27 = .ok (.putfield 59, 3) := by decide +kernel
theorem dX8_plan_30 : decode cX8_plan 30 = .ok (.aload_n 0, 1) := by decide +kernel
theorem dX8_plan_31 : decode cX8_plan 31 = .ok (.getfield 59, 3) := by decide +kernel
theorem dX8_plan_34 : decode cX8_plan 34 = .ok (.ifCond .le 5, 3) := by decide +kernel
theorem dX8_plan_37 : decode cX8_plan 37 = .ok (.fconst 0, 1) := by decide +kernel
theorem dX8_plan_38 : decode cX8_plan 38 = .ok (.freturn, 1) := by decide +kernel
theorem dX8_plan_39 : decode cX8_plan 39 = .ok (.iconst 0, 1) := by decide +kernel
theorem dX8_plan_40 : decode cX8_plan 40 = .ok (.istore_n 1, 1) := by decide +kernel
theorem dX8_plan_41 : decode cX8_plan 41 = .ok (.aload_n 0, 1) := by decide +kernel
theorem dX8_plan_42 : decode cX8_plan 42 = .ok (.iconst 0, 1) := by decide +kernel
theorem dX8_plan_43 : decode cX8_plan 43 = .ok (.invokevirtual 159, 3) := by decide +kernel
theorem dX8_plan_46 : decode cX8_plan 46 = .ok (.fstore_n 2, 1) := by decide +kernel
theorem dX8_plan_47 : decode cX8_plan 47 = .ok (.iconst 1, 1) := by decide +kernel
theorem dX8_plan_48 : decode cX8_plan 48 = .ok (.istore_n 3, 1) := by decide +kernel
theorem dX8_plan_49 : decode cX8_plan 49 = .ok (.iload_n 3, 1) := by decide +kernel
theorem dX8_plan_50 : decode cX8_plan 50 = .ok (.bipush 6, 2) := by decide +kernel
theorem dX8_plan_52 : decode cX8_plan 52 = .ok (.if_icmp .ge 28, 3) := by decide +kernel
theorem dX8_plan_55 : decode cX8_plan 55 = .ok (.aload_n 0, 1) := by decide +kernel
theorem dX8_plan_56 : decode cX8_plan 56 = .ok (.iload_n 3, 1) := by decide +kernel
theorem dX8_plan_57 : decode cX8_plan 57 = .ok (.invokevirtual 159, 3) := by decide +kernel
theorem dX8_plan_60 : decode cX8_plan 60 = .ok (.fstore 4, 2) := by decide +kernel
theorem dX8_plan_62 : decode cX8_plan 62 = .ok (.fload 4, 2) := by decide +kernel
theorem dX8_plan_64 : decode cX8_plan 64 = .ok (.fload_n 2, 1) := by decide +kernel
theorem dX8_plan_65 : decode cX8_plan 65 = .ok (.fcmp .g, 1) := by decide +kernel
theorem dX8_plan_66 : decode cX8_plan 66 = .ok (.ifCond .ge 8, 3) := by decide +kernel
theorem dX8_plan_69 : decode cX8_plan 69 = .ok (.fload 4, 2) := by decide +kernel
theorem dX8_plan_71 : decode cX8_plan 71 = .ok (.fstore_n 2, 1) := by decide +kernel
theorem dX8_plan_72 : decode cX8_plan 72 = .ok (.iload_n 3, 1) := by decide +kernel
theorem dX8_plan_73 : decode cX8_plan 73 = .ok (.istore_n 1, 1) := by decide +kernel
theorem dX8_plan_74 : decode cX8_plan 74 = .ok (.iinc 3 1, 3) := by decide +kernel
theorem dX8_plan_77 : decode cX8_plan 77 = .ok (.goto (-28), 3) := by decide +kernel
theorem dX8_plan_80 : decode cX8_plan 80 = .ok (.aload_n 0, 1) := by decide +kernel
theorem dX8_plan_81 : decode cX8_plan 81 = .ok (.iload_n 1, 1) := by decide +kernel
theorem dX8_plan_82 : decode cX8_plan 82 = .ok (.invokevirtual 159, 3) := by decide +kernel
theorem dX8_plan_85 : decode cX8_plan 85 = .ok (.fstore_n 3, 1) := by decide +kernel
theorem dX8_plan_86 : decode cX8_plan 86 = .ok (.aload_n 0, 1) := by decide +kernel
theorem dX8_plan_87 : decode cX8_plan 87 = .ok (.iconst 1, 1) := by decide +kernel
theorem dX8_plan_88 : decode cX8_plan 88 = .ok (.putfield 71, 3) := by decide +kernel
theorem dX8_plan_91 : decode cX8_plan 91 = .ok (.aload_n 0, 1) := by decide +kernel
theorem dX8_plan_92 : decode cX8_plan 92 = .ok (.iconst 0, 1) := by decide +kernel
theorem dX8_plan_93 : decode cX8_plan 93 = .ok (.putfield 163, 3) := by decide +kernel
theorem dX8_plan_96 : decode cX8_plan 96 = .ok (.aload_n 0, 1) := by decide +kernel
theorem dX8_plan_97 : decode cX8_plan 97 = .ok (.getfield 50, 3) := by decide +kernel
theorem dX8_plan_100 : decode cX8_plan 100 = .ok (.iconst 0, 1) := by decide +kernel
theorem dX8_plan_101 : decode cX8_plan 101 = .ok (.iconst (-1), 1) := by decide +kernel
theorem dX8_plan_102 : decode cX8_plan 102 = .ok (.iastore, 1) := by decide +kernel
theorem dX8_plan_103 : decode cX8_plan 103 = .ok (.fload_n 3, 1) := by decide +kernel
theorem dX8_plan_104 : decode cX8_plan 104 = .ok (.freturn, 1) := by decide +kernel
theorem dX8_explain_0 : decode cX8_explain 0 = .ok (.aload_n 0, 1) := by decide +kernel
theorem dX8_explain_1 : decode cX8_explain 1 = .ok (.aload_n 0, 1) := by decide +kernel
theorem dX8_explain_2 : decode cX8_explain 2 = .ok (.getfield 71, 3) := by decide +kernel
theorem dX8_explain_5 : decode cX8_explain 5 = .ok (.ifCond .eq 26, 3) := by decide +kernel
theorem dX8_explain_8 : decode cX8_explain 8 = .ok (.iload_n 1, 1) := by decide +kernel
theorem dX8_explain_9 : decode cX8_explain 9 = .ok (.iconst 0, 1) := by decide +kernel
theorem dX8_explain_10 : decode cX8_explain 10 = .ok (.aload_n 0, 1) := by decide +kernel
theorem dX8_explain_11 : decode cX8_explain 11 = .ok (.getfield 96, 3) := by decide +kernel
theorem dX8_explain_14 : decode cX8_explain 14 = .ok (.iconst 1, 1) := by decide +kernel
theorem dX8_explain_15 : decode cX8_explain 15 = .ok (.isub, 1) := by decide +kernel
theorem dX8_explain_16 : decode cX8_explain 16 = .ok (.invokestatic 63, 3) := by decide +kernel
theorem dX8_explain_19 : decode cX8_explain 19 = .ok (.ifCond .eq 12, 3) := by decide +kernel
theorem dX8_explain_22 : decode cX8_explain 22 = .ok (.iload_n 2, 1) := by decide +kernel
theorem dX8_explain_23 : decode cX8_explain 23 = .ok (.iconst 0, 1) := by decide +kernel
theorem dX8_explain_24 : decode cX8_explain 24 = .ok (.iconst 3, 1) := by decide +kernel
theorem dX8_explain_25 : decode cX8_explain 25 = .ok (.invokestatic 63, 3) := by decide +kernel
theorem dX8_explain_28 : decode cX8_explain 28 = .ok (.ifCond .ne 7, 3) := by decide +kernel
theorem dX8_explain_31 : decode cX8_explain 31 = .ok (.iconst 1, 1) := by decide +kernel
theorem dX8_explain_32 : decode cX8_explain 32 = .ok (.goto 4, 3) := by decide +kernel
theorem dX8_explain_35 : decode cX8_explain 35 = .ok (.iconst 0, 1) := by decide +kernel
theorem dX8_explain_36 : decode cX8_explain 36 = .ok (.putfield 59, 3) := by decide +kernel
theorem dX8_explain_39 : decode cX8_explain 39 = .ok (.aload_n 0, 1) := by decide +kernel
theorem dX8_explain_40 : decode cX8_explain 40 = .ok (.getfield 59, 3) := by decide +kernel
theorem dX8_explain_43 : decode cX8_explain 43 = .ok (.ifCond .le 5, 3) := by decide +kernel
theorem dX8_explain_46 : decode cX8_explain 46 = .ok (.iconst 0, 1) := by decide +kernel
theorem dX8_explain_47 : decode cX8_explain 47 = .ok (.ireturn, 1) := by decide +kernel
theorem dX8_explain_48 : decode cX8_explain 48 = .ok (.iload_n 2, 1) := by decide +kernel
theorem dX8_explain_49 : decode cX8_explain 49 = .ok (.ifCond .ne 12, 3) := by decide +kernel
theorem dX8_explain_52 : decode cX8_explain 52 = .ok (.aload_n 0, 1) := by decide +kernel
theorem dX8_explain_53 : decode cX8_explain 53 = .ok (.getfield 38, 3) := by decide +kernel
theorem dX8_explain_56 : decode cX8_explain 56 = .ok (.iload_n 1, 1) := by decide +kernel
theorem dX8_explain_57 : decode cX8_explain 57 = .ok (.iaload, 1) := by decide +kernel
theorem dX8_explain_58 : decode cX8_explain 58 = .ok (.goto 37, 3) := by decide +kernel
theorem dX8_explain_61 : decode cX8_explain 61 = .ok (.iload_n 2, 1) := by decide +kernel
theorem dX8_explain_62 : decode cX8_explain 62 = .ok (.iconst 1, 1) := by decide +kernel
theorem dX8_explain_63 : decode cX8_explain 63 = .ok (.if_icmp .ne 12, 3) := by decide +kernel
theorem dX8_explain_66 : decode cX8_explain 66 = .ok (.aload_n 0, 1) := by decide +kernel
theorem dX8_explain_67 : decode cX8_explain 67 = .ok (.getfield 41, 3) := by decide +kernel
theorem dX8_explain_70 : decode cX8_explain 70 = .ok (.iload_n 1, 1) := by decide +kernel
theorem dX8_explain_71 : decode cX8_explain 71 = .ok (.iaload, 1) := by decide +kernel
theorem dX8_explain_72 : decode cX8_explain 72 = .ok (.goto 23, 3) := by decide +kernel
theorem dX8_explain_75 : decode cX8_explain 75 = .ok (.iload_n 2, 1) := by decide +kernel
theorem dX8_explain_76 : decode cX8_explain 76 = .ok (.iconst 2, 1) := by decide +kernel
theorem dX8_explain_77 : decode cX8_explain 77 = .ok (.if_icmp .ne 12, 3) := by decide +kernel
theorem dX8_explain_80 : decode cX8_explain 80 = .ok (.aload_n 0, 1) := by decide +kernel
theorem dX8_explain_81 : decode cX8_explain 81 = .ok (.getfield 44, 3) := by decide +kernel
theorem dX8_explain_84 : decode cX8_explain 84 = .ok (.iload_n 1, 1) := by decide +kernel
theorem dX8_explain_85 : decode cX8_explain 85 = .ok (.iaload, 1) := by decide +kernel
theorem dX8_explain_86 : decode cX8_explain 86 = .ok (.goto 9, 3) := by decide +kernel
theorem dX8_explain_89 : decode cX8_explain 89 = .ok (.aload_n 0, 1) := by decide +kernel
theorem dX8_explain_90 : decode cX8_explain 90 = .ok (.getfield 47, 3) := by decide +kernel
theorem dX8_explain_93 : decode cX8_explain 93 = .ok (.iload_n 1, 1) := by decide +kernel
theorem dX8_explain_94 : decode cX8_explain 94 = .ok (.iaload, 1) := by decide +kernel
theorem dX8_explain_95 : decode cX8_explain 95 = .ok (.ireturn, 1) := by decide +kernel
theorem dX8_holds_0 : decode cX8_holds 0 = .ok (.iload_n 1, 1) := by decide +kernel
theorem dX8_holds_1 : decode cX8_holds 1 = .ok (.ifCond .ne 16, 3) := by decide +kernel
theorem dX8_holds_4 : decode cX8_holds 4 = .ok (.iload_n 0, 1) := by decide +kernel
theorem dX8_holds_5 : decode cX8_holds 5 = .ok (.iload_n 2, 1) := by decide +kernel
theorem dX8_holds_6 : decode cX8_holds 6 = .ok (.if_icmp .ne 7, 3) := by decide +kernel
theorem dX8_holds_9 : decode cX8_holds 9 = .ok (.iconst 1, 1) := by decide +kernel
theorem dX8_holds_10 : decode cX8_holds 10 = .ok (.goto 53, 3) := by decide +kernel
theorem dX8_holds_13 : decode cX8_holds 13 = .ok (.iconst 0, 1) := by decide +kernel
theorem dX8_holds_14 : decode cX8_holds 14 = .ok (.goto 49, 3) := by decide +kernel
theorem dX8_holds_17 : decode cX8_holds 17 = .ok (.iload_n 1, 1) := by decide +kernel
theorem dX8_holds_18 : decode cX8_holds 18 = .ok (.iconst 1, 1) := by decide +kernel
theorem dX8_holds_19 : decode cX8_holds 19 = .ok (.if_icmp .ne 16, 3) := by decide +kernel
theorem dX8_holds_22 : decode cX8_holds 22 = .ok (.iload_n 0, 1) := by decide +kernel
theorem dX8_holds_23 : decode cX8_holds 23 = .ok (.iload_n 2, 1) := by decide +kernel
theorem dX8_holds_24 : decode cX8_holds 24 = .ok (.if_icmp .ge 7, 3) := by decide +kernel
theorem dX8_holds_27 : decode cX8_holds 27 = .ok (.iconst 1, 1) := by decide +kernel
theorem dX8_holds_28 : decode cX8_holds 28 = .ok (.goto 35, 3) := by decide +kernel
theorem dX8_holds_31 : decode cX8_holds 31 = .ok (.iconst 0, 1) := by decide +kernel
theorem dX8_holds_32 : decode cX8_holds 32 = .ok (.goto 31, 3) := by decide +kernel
theorem dX8_holds_35 : decode cX8_holds 35 = .ok (.iload_n 1, 1) := by decide +kernel
theorem dX8_holds_36 : decode cX8_holds 36 = .ok (.iconst 2, 1) := by decide +kernel
theorem dX8_holds_37 : decode cX8_holds 37 = .ok (.if_icmp .ne 16, 3) := by decide +kernel
theorem dX8_holds_40 : decode cX8_holds 40 = .ok (.iload_n 0, 1) := by decide +kernel
theorem dX8_holds_41 : decode cX8_holds 41 = .ok (.iload_n 2, 1) := by decide +kernel
theorem dX8_holds_42 : decode cX8_holds 42 = .ok (.if_icmp .le 7, 3) := by decide +kernel
theorem dX8_holds_45 : decode cX8_holds 45 = .ok (.iconst 1, 1) := by decide +kernel
theorem dX8_holds_46 : decode cX8_holds 46 = .ok (.goto 17, 3) := by decide +kernel
theorem dX8_holds_49 : decode cX8_holds 49 = .ok (.iconst 0, 1) := by decide +kernel
theorem dX8_holds_50 : decode cX8_holds 50 = .ok (.goto 13, 3) := by decide +kernel
theorem dX8_holds_53 : decode cX8_holds 53 = .ok (.iload_n 0, 1) := by decide +kernel
theorem dX8_holds_54 : decode cX8_holds 54 = .ok (.iload_n 2, 1) := by decide +kernel
theorem dX8_holds_55 : decode cX8_holds 55 = .ok (.if_icmp .eq 7, 3) := by decide +kernel
theorem dX8_holds_58 : decode cX8_holds 58 = .ok (.iconst 1, 1) := by decide +kernel
theorem dX8_holds_59 : decode cX8_holds 59 = .ok (.goto 4, 3) := by decide +kernel
theorem dX8_holds_62 : decode cX8_holds 62 = .ok (.iconst 0, 1) := by decide +kernel
theorem dX8_holds_63 : decode cX8_holds 63 = .ok (.ireturn, 1) := by decide +kernel
theorem dX8_rowAt_0 : decode cX8_rowAt 0 = .ok (.iconst 0, 1) := by decide +kernel
theorem dX8_rowAt_1 : decode cX8_rowAt 1 = .ok (.istore_n 2, 1) := by decide +kernel
theorem dX8_rowAt_2 : decode cX8_rowAt 2 = .ok (.aload_n 0, 1) := by decide +kernel
theorem dX8_rowAt_3 : decode cX8_rowAt 3 = .ok (.getfield 38, 3) := by decide +kernel
theorem dX8_rowAt_6 : decode cX8_rowAt 6 = .ok (.iload_n 2, 1) := by decide +kernel
theorem dX8_rowAt_7 : decode cX8_rowAt 7 = .ok (.iaload, 1) := by decide +kernel
theorem dX8_rowAt_8 : decode cX8_rowAt 8 = .ok (.iload_n 1, 1) := by decide +kernel
theorem dX8_rowAt_9 : decode cX8_rowAt 9 = .ok (.if_icmp .eq 9, 3) := by decide +kernel
theorem dX8_rowAt_12 : decode cX8_rowAt 12 = .ok (.iinc 2 1, 3) := by decide +kernel
theorem dX8_rowAt_15 : decode cX8_rowAt 15 = .ok (.goto (-13), 3) := by decide +kernel
theorem dX8_rowAt_18 : decode cX8_rowAt 18 = .ok (.aload_n 0, 1) := by decide +kernel
theorem dX8_rowAt_19 : decode cX8_rowAt 19 = .ok (.getfield 50, 3) := by decide +kernel
theorem dX8_rowAt_22 : decode cX8_rowAt 22 = .ok (.iload_n 2, 1) := by decide +kernel
theorem dX8_rowAt_23 : decode cX8_rowAt 23 = .ok (.iaload, 1) := by decide +kernel
theorem dX8_rowAt_24 : decode cX8_rowAt 24 = .ok (.ireturn, 1) := by decide +kernel
theorem dX8_wanted_0 : decode cX8_wanted 0 = .ok (.aload_n 0, 1) := by decide +kernel
theorem dX8_wanted_1 : decode cX8_wanted 1 = .ok (.getfield 32, 3) := by decide +kernel
theorem dX8_wanted_4 : decode cX8_wanted 4 = .ok (.iconst 4, 1) := by decide +kernel
theorem dX8_wanted_5 : decode cX8_wanted 5 = .ok (.iload_n 1, 1) := by decide +kernel
theorem dX8_wanted_6 : decode cX8_wanted 6 = .ok (.imul, 1) := by decide +kernel
theorem dX8_wanted_7 : decode cX8_wanted 7 = .ok (.iconst 2, 1) := by decide +kernel
theorem dX8_wanted_8 : decode cX8_wanted 8 = .ok (.iadd, 1) := by decide +kernel
theorem dX8_wanted_9 : decode cX8_wanted 9 = .ok (.iload_n 2, 1) := by decide +kernel
theorem dX8_wanted_10 : decode cX8_wanted 10 = .ok (.isub, 1) := by decide +kernel
theorem dX8_wanted_11 : decode cX8_wanted 11 = .ok (.iaload, 1) := by decide +kernel
theorem dX8_wanted_12 : decode cX8_wanted 12 = .ok (.istore_n 3, 1) := by decide +kernel
theorem dX8_wanted_13 : decode cX8_wanted 13 = .ok (.aload_n 0, 1) := by decide +kernel
theorem dX8_wanted_14 : decode cX8_wanted 14 = .ok (.aload_n 0, 1) := by decide +kernel
theorem dX8_wanted_15 : decode cX8_wanted 15 = .ok (.getfield 26, 3) := by decide +kernel
theorem dX8_wanted_18 : decode cX8_wanted 18 = .ok (.iload_n 3, 1) := by decide +kernel
theorem dX8_wanted_19 : decode cX8_wanted 19 = .ok (.iaload, 1) := by decide +kernel
theorem dX8_wanted_20 : decode cX8_wanted 20 = .ok (.aload_n 0, 1) := by decide +kernel
theorem dX8_wanted_21 : decode cX8_wanted 21 = .ok (.iload_n 3, 1) := by decide +kernel
theorem dX8_wanted_22 : decode cX8_wanted 22 = .ok (.invokevirtual 166, 3) := by decide +kernel
theorem dX8_wanted_25 : decode cX8_wanted 25 = .ok (.aload_n 0, 1) := by decide +kernel
theorem dX8_wanted_26 : decode cX8_wanted 26 = .ok (.getfield 32, 3) := by decide +kernel
theorem dX8_wanted_29 : decode cX8_wanted 29 = .ok (.iconst 4, 1) := by decide +kernel
theorem dX8_wanted_30 : decode cX8_wanted 30 = .ok (.iload_n 1, 1) := by decide +kernel
theorem dX8_wanted_31 : decode cX8_wanted 31 = .ok (.imul, 1) := by decide +kernel
theorem dX8_wanted_32 : decode cX8_wanted 32 = .ok (.iconst 3, 1) := by decide +kernel
theorem dX8_wanted_33 : decode cX8_wanted 33 = .ok (.iadd, 1) := by decide +kernel
theorem dX8_wanted_34 : decode cX8_wanted 34 = .ok (.iload_n 2, 1) := by decide +kernel
theorem dX8_wanted_35 : decode cX8_wanted 35 = .ok (.isub, 1) := by decide +kernel
theorem dX8_wanted_36 : decode cX8_wanted 36 = .ok (.iaload, 1) := by decide +kernel
theorem dX8_wanted_37 : decode cX8_wanted 37 = .ok (.invokevirtual 88, 3) := by decide +kernel
theorem dX8_wanted_40 : decode cX8_wanted 40 = .ok (.ireturn, 1) := by decide +kernel
theorem dX8_following_0 : decode cX8_following 0 = .ok (.aload_n 0, 1) := by decide +kernel
theorem dX8_following_1 : decode cX8_following 1 = .ok (.getfield 26, 3) := by decide +kernel
theorem dX8_following_4 : decode cX8_following 4 = .ok (.aload_n 0, 1) := by decide +kernel
theorem dX8_following_5 : decode cX8_following 5 = .ok (.getfield 38, 3) := by decide +kernel
theorem dX8_following_8 : decode cX8_following 8 = .ok (.iload_n 1, 1) := by decide +kernel
theorem dX8_following_9 : decode cX8_following 9 = .ok (.iaload, 1) := by decide +kernel
theorem dX8_following_10 : decode cX8_following 10 = .ok (.iaload, 1) := by decide +kernel
theorem dX8_following_11 : decode cX8_following 11 = .ok (.istore_n 2, 1) := by decide +kernel
theorem dX8_following_12 : decode cX8_following 12 = .ok (.iconst (-1), 1) := by decide +kernel
theorem dX8_following_13 : decode cX8_following 13 = .ok (.istore_n 3, 1) := by decide +kernel
theorem dX8_following_14 : decode cX8_following 14 = .ok (.iconst 0, 1) := by decide +kernel
theorem dX8_following_15 : decode cX8_following 15 = .ok (.istore 4, 2) := by decide +kernel
theorem dX8_following_17 : decode cX8_following 17 = .ok (.iconst 0, 1) := by decide +kernel
theorem dX8_following_18 : decode cX8_following 18 = .ok (.istore 5, 2) := by decide +kernel
theorem dX8_following_20 : decode cX8_following 20 = .ok (.aload_n 0, 1) := by decide +kernel
theorem dX8_following_21 : decode cX8_following 21 = .ok (.getfield 44, 3) := by decide +kernel
theorem dX8_following_24 : decode cX8_following 24 = .ok (.iload_n 1, 1) := by decide +kernel
theorem dX8_following_25 : decode cX8_following 25 = .ok (.iaload, 1) := by decide +kernel
theorem dX8_following_26 : decode cX8_following 26 = .ok (.ifCond .lt 56, 3) := by decide +kernel
theorem dX8_following_29 : decode cX8_following 29 = .ok (.aload_n 0, 1) := by decide +kernel
theorem dX8_following_30 : decode cX8_following 30 = .ok (.getfield 29, 3) := by decide +kernel
theorem dX8_following_33 : decode cX8_following 33 = .ok (.iconst 4, 1) := by decide +kernel
theorem dX8_following_34 : decode cX8_following 34 = .ok (.aload_n 0, 1) := by decide +kernel
theorem dX8_following_35 : decode cX8_following 35 = .ok (.getfield 44, 3) := by decide +kernel
theorem dX8_following_38 : decode cX8_following 38 = .ok (.iload_n 1, 1) := by decide +kernel
theorem dX8_following_39 : decode cX8_following 39 = .ok (.iaload, 1) := by decide +kernel
theorem dX8_following_40 : decode cX8_following 40 = .ok (.imul, 1) := by decide +kernel
theorem dX8_following_41 : decode cX8_following 41 = .ok (.iconst 1, 1) := by decide +kernel
theorem dX8_following_42 : decode cX8_following 42 = .ok (.iadd, 1) := by decide +kernel
theorem dX8_following_43 : decode cX8_following 43 = .ok (.iaload, 1) := by decide +kernel
theorem dX8_following_44 : decode cX8_following 44 = .ok (.istore_n 3, 1) := by decide +kernel
theorem dX8_following_45 : decode cX8_following 45 = .ok (.aload_n 0, 1) := by decide +kernel
theorem dX8_following_46 : decode cX8_following 46 = .ok (.getfield 29, 3) := by decide +kernel
theorem dX8_following_49 : decode cX8_following 49 = .ok (.iconst 4, 1) := by decide +kernel
theorem dX8_following_50 : decode cX8_following 50 = .ok (.aload_n 0, 1) := by decide +kernel
theorem dX8_following_51 : decode cX8_following 51 = .ok (.getfield 44, 3) := by decide +kernel
theorem dX8_following_54 : decode cX8_following 54 = .ok (.iload_n 1, 1) := by decide +kernel
theorem dX8_following_55 : decode cX8_following 55 = .ok (.iaload, 1) := by decide +kernel
theorem dX8_following_56 : decode cX8_following 56 = .ok (.imul, 1) := by decide +kernel
theorem dX8_following_57 : decode cX8_following 57 = .ok (.iconst 2, 1) := by decide +kernel
theorem dX8_following_58 : decode cX8_following 58 = .ok (.iadd, 1) := by decide +kernel
theorem dX8_following_59 : decode cX8_following 59 = .ok (.iaload, 1) := by decide +kernel
theorem dX8_following_60 : decode cX8_following 60 = .ok (.istore 4, 2) := by decide +kernel
theorem dX8_following_62 : decode cX8_following 62 = .ok (.aload_n 0, 1) := by decide +kernel
theorem dX8_following_63 : decode cX8_following 63 = .ok (.getfield 29, 3) := by decide +kernel
theorem dX8_following_66 : decode cX8_following 66 = .ok (.iconst 4, 1) := by decide +kernel
theorem dX8_following_67 : decode cX8_following 67 = .ok (.aload_n 0, 1) := by decide +kernel
theorem dX8_following_68 : decode cX8_following 68 = .ok (.getfield 44, 3) := by decide +kernel
theorem dX8_following_71 : decode cX8_following 71 = .ok (.iload_n 1, 1) := by decide +kernel
theorem dX8_following_72 : decode cX8_following 72 = .ok (.iaload, 1) := by decide +kernel
theorem dX8_following_73 : decode cX8_following 73 = .ok (.imul, 1) := by decide +kernel
theorem dX8_following_74 : decode cX8_following 74 = .ok (.iconst 3, 1) := by decide +kernel
theorem dX8_following_75 : decode cX8_following 75 = .ok (.iadd, 1) := by decide +kernel
theorem dX8_following_76 : decode cX8_following 76 = .ok (.iaload, 1) := by decide +kernel
theorem dX8_following_77 : decode cX8_following 77 = .ok (.istore 5, 2) := by decide +kernel
theorem dX8_following_79 : decode cX8_following 79 = .ok (.goto 74, 3) := by decide +kernel
theorem dX8_following_82 : decode cX8_following 82 = .ok (.aload_n 0, 1) := by decide +kernel
theorem dX8_following_83 : decode cX8_following 83 = .ok (.getfield 47, 3) := by decide +kernel
theorem dX8_following_86 : decode cX8_following 86 = .ok (.iload_n 1, 1) := by decide +kernel
theorem dX8_following_87 : decode cX8_following 87 = .ok (.iaload, 1) := by decide +kernel
theorem dX8_following_88 : decode cX8_following 88 = .ok (.ifCond .lt 65, 3) := by decide +kernel
theorem dX8_following_91 : decode cX8_following 91 = .ok (.aload_n 0, 1) := by decide +kernel
theorem dX8_following_92 : decode cX8_following 92 = .ok (.getfield 32, 3) := by decide +kernel
theorem dX8_following_95 : decode cX8_following 95 = .ok (.iconst 4, 1) := by decide +kernel
theorem dX8_following_96 : decode cX8_following 96 = .ok (.aload_n 0, 1) := by decide +kernel
theorem dX8_following_97 : decode cX8_following 97 = .ok (.getfield 47, 3) := by decide +kernel
theorem dX8_following_100 : decode cX8_following 100 = .ok (.iload_n 1, 1) := by decide +kernel
theorem dX8_following_101 : decode cX8_following 101 = .ok (.iaload, 1) := by decide +kernel
theorem dX8_following_102 : decode cX8_following 102 = .ok (.imul, 1) := by decide +kernel
theorem dX8_following_103 : decode cX8_following 103 = .ok (.iaload, 1) := by decide +kernel
theorem dX8_following_104 : decode cX8_following 104 = .ok (.aload_n 0, 1) := by decide +kernel
theorem dX8_following_105 : decode cX8_following 105 = .ok (.getfield 38, 3) := by decide +kernel
theorem dX8_following_108 : decode cX8_following 108 = .ok (.iload_n 1, 1) := by decide +kernel
theorem dX8_following_109 : decode cX8_following 109 = .ok (.iaload, 1) := by decide +kernel
theorem dX8_following_110 : decode cX8_following 110 = .ok (.if_icmp .ne 7, 3) := by decide +kernel
theorem dX8_following_113 : decode cX8_following 113 = .ok (.iconst 0, 1) := by decide +kernel
theorem dX8_following_114 : decode cX8_following 114 = .ok (.goto 4, 3) := by decide +kernel
theorem dX8_following_117 : decode cX8_following 117 = .ok (.iconst 2, 1) := by decide +kernel
theorem dX8_following_118 : decode cX8_following 118 = .ok (.istore 6, 2) := by decide +kernel
theorem dX8_following_120 : decode cX8_following 120 = .ok (.aload_n 0, 1) := by decide +kernel
theorem dX8_following_121 : decode cX8_following 121 = .ok (.getfield 32, 3) := by decide +kernel
theorem dX8_following_124 : decode cX8_following 124 = .ok (.iconst 4, 1) := by decide +kernel
theorem dX8_following_125 : decode cX8_following 125 = .ok (.aload_n 0, 1) := by decide +kernel
theorem dX8_following_126 : decode cX8_following 126 = .ok (.getfield 47, 3) := by decide +kernel
theorem dX8_following_129 : decode cX8_following 129 = .ok (.iload_n 1, 1) := by decide +kernel
theorem dX8_following_130 : decode cX8_following 130 = .ok (.iaload, 1) := by decide +kernel
theorem dX8_following_131 : decode cX8_following 131 = .ok (.imul, 1) := by decide +kernel
theorem dX8_following_132 : decode cX8_following 132 = .ok (.iload 6, 2) := by decide +kernel
theorem dX8_following_134 : decode cX8_following 134 = .ok (.iadd, 1) := by decide +kernel
theorem dX8_following_135 : decode cX8_following 135 = .ok (.iconst 1, 1) := by decide +kernel
theorem dX8_following_136 : decode cX8_following 136 = .ok (.iadd, 1) := by decide +kernel
theorem dX8_following_137 : decode cX8_following 137 = .ok (.iaload, 1) := by decide +kernel
theorem dX8_following_138 : decode cX8_following 138 = .ok (.istore_n 3, 1) := by decide +kernel
theorem dX8_following_139 : decode cX8_following 139 = .ok (.aload_n 0, 1) := by decide +kernel
theorem dX8_following_140 : decode cX8_following 140 = .ok (.aload_n 0, 1) := by decide +kernel
theorem dX8_following_141 : decode cX8_following 141 = .ok (.getfield 47, 3) := by decide +kernel
theorem dX8_following_144 : decode cX8_following 144 = .ok (.iload_n 1, 1) := by decide +kernel
theorem dX8_following_145 : decode cX8_following 145 = .ok (.iaload, 1) := by decide +kernel
theorem dX8_following_146 : decode cX8_following 146 = .ok (.iload 6, 2) := by decide +kernel
theorem dX8_following_148 : decode cX8_following 148 = .ok (.invokevirtual 169, 3) := by decide +kernel
theorem dX8_following_151 : decode cX8_following 151 = .ok (.istore 5, 2) := by decide +kernel
theorem dX8_following_153 : decode cX8_following 153 = .ok (.iconst (-1), 1) := by decide +kernel
theorem dX8_following_154 : decode cX8_following 154 = .ok (.istore 6, 2) := by decide +kernel
theorem dX8_following_156 : decode cX8_following 156 = .ok (.iconst 0, 1) := by decide +kernel
theorem dX8_following_157 : decode cX8_following 157 = .ok (.istore 7, 2) := by decide +kernel
theorem dX8_following_159 : decode cX8_following 159 = .ok (.iload 7, 2) := by decide +kernel
theorem dX8_following_161 : decode cX8_following 161 = .ok (.bipush 60, 2) := by decide +kernel
theorem dX8_following_163 : decode cX8_following 163 = .ok (.if_icmp .ge 108, 3) := by decide +kernel
theorem dX8_following_166 : decode cX8_following 166 = .ok (.aload_n 0, 1) := by decide +kernel
theorem dX8_following_167 : decode cX8_following 167 = .ok (.getfield 16, 3) := by decide +kernel
theorem dX8_following_170 : decode cX8_following 170 = .ok (.bipush 60, 2) := by decide +kernel
theorem dX8_following_172 : decode cX8_following 172 = .ok (.iload_n 2, 1) := by decide +kernel
theorem dX8_following_173 : decode cX8_following 173 = .ok (.imul, 1) := by decide +kernel
theorem dX8_following_174 : decode cX8_following 174 = .ok (.iload 7, 2) := by decide +kernel
theorem dX8_following_176 : decode cX8_following 176 = .ok (.iadd, 1) := by decide +kernel
theorem dX8_following_177 : decode cX8_following 177 = .ok (.baload, 1) := by decide +kernel
theorem dX8_following_178 : decode cX8_following 178 = .ok (.ifCond .eq 29, 3) := by decide +kernel
theorem dX8_following_181 : decode cX8_following 181 = .ok (.iload_n 3, 1) := by decide +kernel
theorem dX8_following_182 : decode cX8_following 182 = .ok (.ifCond .lt 21, 3) := by decide +kernel
theorem dX8_following_185 : decode cX8_following 185 = .ok (.aload_n 0, 1) := by decide +kernel
theorem dX8_following_186 : decode cX8_following 186 = .ok (.iload_n 2, 1) := by decide +kernel
theorem dX8_following_187 : decode cX8_following 187 = .ok (.iload 7, 2) := by decide +kernel
theorem dX8_following_189 : decode cX8_following 189 = .ok (.iload_n 3, 1) := by decide +kernel
theorem dX8_following_190 : decode cX8_following 190 = .ok (.invokevirtual 88, 3) := by decide +kernel
theorem dX8_following_193 : decode cX8_following 193 = .ok (.iload 4, 2) := by decide +kernel
theorem dX8_following_195 : decode cX8_following 195 = .ok (.iload 5, 2) := by decide +kernel
theorem dX8_following_197 : decode cX8_following 197 = .ok (.invokestatic 172, 3) := by decide +kernel
theorem dX8_following_200 : decode cX8_following 200 = .ok (.ifCond .eq 7, 3) := by decide +kernel
theorem dX8_following_203 : decode cX8_following 203 = .ok (.iconst 1, 1) := by decide +kernel
theorem dX8_following_204 : decode cX8_following 204 = .ok (.goto 4, 3) := by decide +kernel
theorem dX8_following_207 : decode cX8_following 207 = .ok (.iconst 0, 1) := by decide +kernel
theorem dX8_following_208 : decode cX8_following 208 = .ok (.istore 8, 2) := by decide +kernel
theorem dX8_following_210 : decode cX8_following 210 = .ok (.iload 8, 2) := by decide +kernel
theorem dX8_following_212 : decode cX8_following 212 = .ok (.ifCond .eq 53, 3) := by decide +kernel
theorem dX8_following_215 : decode cX8_following 215 = .ok (.aload_n 0, 1) := by decide +kernel
theorem dX8_following_216 : decode cX8_following 216 = .ok (.getfield 50, 3) := by decide +kernel
theorem dX8_following_219 : decode cX8_following 219 = .ok (.iload_n 1, 1) := by decide +kernel
theorem dX8_following_220 : decode cX8_following 220 = .ok (.iaload, 1) := by decide +kernel
theorem dX8_following_221 : decode cX8_following 221 = .ok (.ifCond .lt 21, 3) := by decide +kernel
theorem dX8_following_224 : decode cX8_following 224 = .ok (.aload_n 0, 1) := by decide +kernel
theorem dX8_following_225 : decode cX8_following 225 = .ok (.iload_n 2, 1) := by decide +kernel
theorem dX8_following_226 : decode cX8_following 226 = .ok (.iload_n 1, 1) := by decide +kernel
theorem dX8_following_227 : decode cX8_following 227 = .ok (.iload_n 3, 1) := by decide +kernel
theorem dX8_following_228 : decode cX8_following 228 = .ok (.aload_n 0, 1) := by decide +kernel
theorem dX8_following_229 : decode cX8_following 229 = .ok (.getfield 50, 3) := by decide +kernel
theorem dX8_following_232 : decode cX8_following 232 = .ok (.iload_n 1, 1) := by decide +kernel
theorem dX8_following_233 : decode cX8_following 233 = .ok (.iaload, 1) := by decide +kernel
theorem dX8_following_234 : decode cX8_following 234 = .ok (.iload 7, 2) := by decide +kernel
theorem dX8_following_236 : decode cX8_following 236 = .ok (.invokevirtual 175, 3) := by decide +kernel
theorem dX8_following_239 : decode cX8_following 239 = .ok (.ifCond .eq 26, 3) := by decide +kernel
theorem dX8_following_242 : decode cX8_following 242 = .ok (.iload 6, 2) := by decide +kernel
theorem dX8_following_244 : decode cX8_following 244 = .ok (.ifCond .lt 17, 3) := by decide +kernel
theorem dX8_following_247 : decode cX8_following 247 = .ok (.aload_n 0, 1) := by decide +kernel
theorem dX8_following_248 : decode cX8_following 248 = .ok (.iload_n 2, 1) := by decide +kernel
theorem dX8_following_249 : decode cX8_following 249 = .ok (.iload_n 1, 1) := by decide +kernel
theorem dX8_following_250 : decode cX8_following 250 = .ok (.iload_n 3, 1) := by decide +kernel
theorem dX8_following_251 : decode cX8_following 251 = .ok (.iload 7, 2) := by decide +kernel
theorem dX8_following_253 : decode cX8_following 253 = .ok (.iload 6, 2) := by decide +kernel
theorem dX8_following_255 : decode cX8_following 255 = .ok (.invokevirtual 175, 3) := by decide +kernel
theorem dX8_following_258 : decode cX8_following 258 = .ok (.ifCond .eq 7, 3) := by decide +kernel
theorem dX8_following_261 : decode cX8_following 261 = .ok (.iload 7, 2) := by decide +kernel
theorem dX8_following_263 : decode cX8_following 263 = .ok (.istore 6, 2) := by decide +kernel
theorem dX8_following_265 : decode cX8_following 265 = .ok (.iinc 7 1, 3) := by decide +kernel
theorem dX8_following_268 : decode cX8_following 268 = .ok (.goto (-109), 3) := by decide +kernel
theorem dX8_following_271 : decode cX8_following 271 = .ok (.iload 6, 2) := by decide +kernel
theorem dX8_following_273 : decode cX8_following 273 = .ok (.ireturn, 1) := by decide +kernel
theorem dX8_before_0 : decode cX8_before 0 = .ok (.aload_n 0, 1) := by decide +kernel
theorem dX8_before_1 : decode cX8_before 1 = .ok (.getfield 41, 3) := by decide +kernel
theorem dX8_before_4 : decode cX8_before 4 = .ok (.iload_n 2, 1) := by decide +kernel
theorem dX8_before_5 : decode cX8_before 5 = .ok (.iaload, 1) := by decide +kernel
theorem dX8_before_6 : decode cX8_before 6 = .ok (.iconst 2, 1) := by decide +kernel
theorem dX8_before_7 : decode cX8_before 7 = .ok (.if_icmp .ne 47, 3) := by decide +kernel
theorem dX8_before_10 : decode cX8_before 10 = .ok (.aload_n 0, 1) := by decide +kernel
theorem dX8_before_11 : decode cX8_before 11 = .ok (.iload_n 1, 1) := by decide +kernel
theorem dX8_before_12 : decode cX8_before 12 = .ok (.iload 4, 2) := by decide +kernel
theorem dX8_before_14 : decode cX8_before 14 = .ok (.iload_n 3, 1) := by decide +kernel
theorem dX8_before_15 : decode cX8_before 15 = .ok (.invokevirtual 88, 3) := by decide +kernel
theorem dX8_before_18 : decode cX8_before 18 = .ok (.aload_n 0, 1) := by decide +kernel
theorem dX8_before_19 : decode cX8_before 19 = .ok (.iload_n 1, 1) := by decide +kernel
theorem dX8_before_20 : decode cX8_before 20 = .ok (.iload 5, 2) := by decide +kernel
theorem dX8_before_22 : decode cX8_before 22 = .ok (.iload_n 3, 1) := by decide +kernel
theorem dX8_before_23 : decode cX8_before 23 = .ok (.invokevirtual 88, 3) := by decide +kernel
theorem dX8_before_26 : decode cX8_before 26 = .ok (.if_icmp .eq 28, 3) := by decide +kernel
theorem dX8_before_29 : decode cX8_before 29 = .ok (.aload_n 0, 1) := by decide +kernel
theorem dX8_before_30 : decode cX8_before 30 = .ok (.iload_n 1, 1) := by decide +kernel
theorem dX8_before_31 : decode cX8_before 31 = .ok (.iload 4, 2) := by decide +kernel
theorem dX8_before_33 : decode cX8_before 33 = .ok (.iload_n 3, 1) := by decide +kernel
theorem dX8_before_34 : decode cX8_before 34 = .ok (.invokevirtual 88, 3) := by decide +kernel
theorem dX8_before_37 : decode cX8_before 37 = .ok (.aload_n 0, 1) := by decide +kernel
theorem dX8_before_38 : decode cX8_before 38 = .ok (.iload_n 1, 1) := by decide +kernel
theorem dX8_before_39 : decode cX8_before 39 = .ok (.iload 5, 2) := by decide +kernel
theorem dX8_before_41 : decode cX8_before 41 = .ok (.iload_n 3, 1) := by decide +kernel
theorem dX8_before_42 : decode cX8_before 42 = .ok (.invokevirtual 88, 3) := by decide +kernel
theorem dX8_before_45 : decode cX8_before 45 = .ok (.if_icmp .ge 7, 3) := by decide +kernel
theorem dX8_before_48 : decode cX8_before 48 = .ok (.iconst 1, 1) := by decide +kernel
theorem dX8_before_49 : decode cX8_before 49 = .ok (.goto 4, 3) := by decide +kernel
theorem dX8_before_52 : decode cX8_before 52 = .ok (.iconst 0, 1) := by decide +kernel
theorem dX8_before_53 : decode cX8_before 53 = .ok (.ireturn, 1) := by decide +kernel
theorem dX8_before_54 : decode cX8_before 54 = .ok (.iload 4, 2) := by decide +kernel
theorem dX8_before_56 : decode cX8_before 56 = .ok (.iload 5, 2) := by decide +kernel
theorem dX8_before_58 : decode cX8_before 58 = .ok (.if_icmp .ge 7, 3) := by decide +kernel
theorem dX8_before_61 : decode cX8_before 61 = .ok (.iconst 1, 1) := by decide +kernel
theorem dX8_before_62 : decode cX8_before 62 = .ok (.goto 4, 3) := by decide +kernel
theorem dX8_before_65 : decode cX8_before 65 = .ok (.iconst 0, 1) := by decide +kernel
theorem dX8_before_66 : decode cX8_before 66 = .ok (.ireturn, 1) := by decide +kernel
theorem dX8_passes_0 : decode cX8_passes 0 = .ok (.aload_n 0, 1) := by decide +kernel
theorem dX8_passes_1 : decode cX8_passes 1 = .ok (.getfield 38, 3) := by decide +kernel
theorem dX8_passes_4 : decode cX8_passes 4 = .ok (.iload_n 1, 1) := by decide +kernel
theorem dX8_passes_5 : decode cX8_passes 5 = .ok (.iaload, 1) := by decide +kernel
theorem dX8_passes_6 : decode cX8_passes 6 = .ok (.istore_n 2, 1) := by decide +kernel
theorem dX8_passes_7 : decode cX8_passes 7 = .ok (.aload_n 0, 1) := by decide +kernel
theorem dX8_passes_8 : decode cX8_passes 8 = .ok (.getfield 26, 3) := by decide +kernel
theorem dX8_passes_11 : decode cX8_passes 11 = .ok (.iload_n 2, 1) := by decide +kernel
theorem dX8_passes_12 : decode cX8_passes 12 = .ok (.iaload, 1) := by decide +kernel
theorem dX8_passes_13 : decode cX8_passes 13 = .ok (.istore_n 3, 1) := by decide +kernel
theorem dX8_passes_14 : decode cX8_passes 14 = .ok (.iconst 1, 1) := by decide +kernel
theorem dX8_passes_15 : decode cX8_passes 15 = .ok (.istore 4, 2) := by decide +kernel
theorem dX8_passes_17 : decode cX8_passes 17 = .ok (.iconst 0, 1) := by decide +kernel
theorem dX8_passes_18 : decode cX8_passes 18 = .ok (.istore 5, 2) := by decide +kernel
theorem dX8_passes_20 : decode cX8_passes 20 = .ok (.iload 5, 2) := by decide +kernel
theorem dX8_passes_22 : decode cX8_passes 22 = .ok (.aload_n 0, 1) := by decide +kernel
theorem dX8_passes_23 : decode cX8_passes 23 = .ok (.getfield 99, 3) := by decide +kernel
theorem dX8_passes_26 : decode cX8_passes 26 = .ok (.if_icmp .ge 84, 3) := by decide +kernel
theorem dX8_passes_29 : decode cX8_passes 29 = .ok (.iload 4, 2) := by decide +kernel
theorem dX8_passes_31 : decode cX8_passes 31 = .ok (.ifCond .eq 70, 3) := by decide +kernel
theorem dX8_passes_34 : decode cX8_passes 34 = .ok (.aload_n 0, 1) := by decide +kernel
theorem dX8_passes_35 : decode cX8_passes 35 = .ok (.getfield 29, 3) := by decide +kernel
theorem dX8_passes_38 : decode cX8_passes 38 = .ok (.iconst 4, 1) := by decide +kernel
theorem dX8_passes_39 : decode cX8_passes 39 = .ok (.iload 5, 2) := by decide +kernel
theorem dX8_passes_41 : decode cX8_passes 41 = .ok (.imul, 1) := by decide +kernel
theorem dX8_passes_42 : decode cX8_passes 42 = .ok (.iaload, 1) := by decide +kernel
theorem dX8_passes_43 : decode cX8_passes 43 = .ok (.iload_n 2, 1) := by decide +kernel
theorem dX8_passes_44 : decode cX8_passes 44 = .ok (.if_icmp .ne 53, 3) := by decide +kernel
theorem dX8_passes_47 : decode cX8_passes 47 = .ok (.aload_n 0, 1) := by decide +kernel
theorem dX8_passes_48 : decode cX8_passes 48 = .ok (.iload_n 3, 1) := by decide +kernel
theorem dX8_passes_49 : decode cX8_passes 49 = .ok (.aload_n 0, 1) := by decide +kernel
theorem dX8_passes_50 : decode cX8_passes 50 = .ok (.getfield 50, 3) := by decide +kernel
theorem dX8_passes_53 : decode cX8_passes 53 = .ok (.iload_n 1, 1) := by decide +kernel
theorem dX8_passes_54 : decode cX8_passes 54 = .ok (.iaload, 1) := by decide +kernel
theorem dX8_passes_55 : decode cX8_passes 55 = .ok (.aload_n 0, 1) := by decide +kernel
theorem dX8_passes_56 : decode cX8_passes 56 = .ok (.getfield 29, 3) := by decide +kernel
theorem dX8_passes_59 : decode cX8_passes 59 = .ok (.iconst 4, 1) := by decide +kernel
theorem dX8_passes_60 : decode cX8_passes 60 = .ok (.iload 5, 2) := by decide +kernel
theorem dX8_passes_62 : decode cX8_passes 62 = .ok (.imul, 1) := by decide +kernel
theorem dX8_passes_63 : decode cX8_passes 63 = .ok (.iconst 1, 1) := by decide +kernel
theorem dX8_passes_64 : decode cX8_passes 64 = .ok (.iadd, 1) := by decide +kernel
theorem dX8_passes_65 : decode cX8_passes 65 = .ok (.iaload, 1) := by decide +kernel
theorem dX8_passes_66 : decode cX8_passes 66 = .ok (.invokevirtual 88, 3) := by decide +kernel
theorem dX8_passes_69 : decode cX8_passes 69 = .ok (.aload_n 0, 1) := by decide +kernel
theorem dX8_passes_70 : decode cX8_passes 70 = .ok (.getfield 29, 3) := by decide +kernel
theorem dX8_passes_73 : decode cX8_passes 73 = .ok (.iconst 4, 1) := by decide +kernel
theorem dX8_passes_74 : decode cX8_passes 74 = .ok (.iload 5, 2) := by decide +kernel
theorem dX8_passes_76 : decode cX8_passes 76 = .ok (.imul, 1) := by decide +kernel
theorem dX8_passes_77 : decode cX8_passes 77 = .ok (.iconst 2, 1) := by decide +kernel
theorem dX8_passes_78 : decode cX8_passes 78 = .ok (.iadd, 1) := by decide +kernel
theorem dX8_passes_79 : decode cX8_passes 79 = .ok (.iaload, 1) := by decide +kernel
theorem dX8_passes_80 : decode cX8_passes 80 = .ok (.aload_n 0, 1) := by decide +kernel
theorem dX8_passes_81 : decode cX8_passes 81 = .ok (.getfield 29, 3) := by decide +kernel
theorem dX8_passes_84 : decode cX8_passes 84 = .ok (.iconst 4, 1) := by decide +kernel
theorem dX8_passes_85 : decode cX8_passes 85 = .ok (.iload 5, 2) := by decide +kernel
theorem dX8_passes_87 : decode cX8_passes 87 = .ok (.imul, 1) := by decide +kernel
theorem dX8_passes_88 : decode cX8_passes 88 = .ok (.iconst 3, 1) := by decide +kernel
theorem dX8_passes_89 : decode cX8_passes 89 = .ok (.iadd, 1) := by decide +kernel
theorem dX8_passes_90 : decode cX8_passes 90 = .ok (.iaload, 1) := by decide +kernel
theorem dX8_passes_91 : decode cX8_passes 91 = .ok (.invokestatic 172, 3) := by decide +kernel
theorem dX8_passes_94 : decode cX8_passes 94 = .ok (.ifCond .eq 7, 3) := by decide +kernel
theorem dX8_passes_97 : decode cX8_passes 97 = .ok (.iconst 1, 1) := by decide +kernel
theorem dX8_passes_98 : decode cX8_passes 98 = .ok (.goto 4, 3) := by decide +kernel
theorem dX8_passes_101 : decode cX8_passes 101 = .ok (.iconst 0, 1) := by decide +kernel
theorem dX8_passes_102 : decode cX8_passes 102 = .ok (.istore 4, 2) := by decide +kernel
theorem dX8_passes_104 : decode cX8_passes 104 = .ok (.iinc 5 1, 3) := by decide +kernel
theorem dX8_passes_107 : decode cX8_passes 107 = .ok (.goto (-87), 3) := by decide +kernel
theorem dX8_passes_110 : decode cX8_passes 110 = .ok (.iconst 0, 1) := by decide +kernel
theorem dX8_passes_111 : decode cX8_passes 111 = .ok (.istore 5, 2) := by decide +kernel
theorem dX8_passes_113 : decode cX8_passes 113 = .ok (.iconst 0, 1) := by decide +kernel
theorem dX8_passes_114 : decode cX8_passes 114 = .ok (.istore 6, 2) := by decide +kernel
theorem dX8_passes_116 : decode cX8_passes 116 = .ok (.iload 6, 2) := by decide +kernel
theorem dX8_passes_118 : decode cX8_passes 118 = .ok (.iload_n 1, 1) := by decide +kernel
theorem dX8_passes_119 : decode cX8_passes 119 = .ok (.if_icmp .ge 23, 3) := by decide +kernel
theorem dX8_passes_122 : decode cX8_passes 122 = .ok (.iload 5, 2) := by decide +kernel
theorem dX8_passes_124 : decode cX8_passes 124 = .ok (.iconst 1, 1) := by decide +kernel
theorem dX8_passes_125 : decode cX8_passes 125 = .ok (.aload_n 0, 1) := by decide +kernel
theorem dX8_passes_126 : decode cX8_passes 126 = .ok (.getfield 38, 3) := by decide +kernel
theorem dX8_passes_129 : decode cX8_passes 129 = .ok (.iload 6, 2) := by decide +kernel
theorem dX8_passes_131 : decode cX8_passes 131 = .ok (.iaload, 1) := by decide +kernel
theorem dX8_passes_132 : decode cX8_passes 132 = .ok (.ishl, 1) := by decide +kernel
theorem dX8_passes_133 : decode cX8_passes 133 = .ok (.ior, 1) := by decide +kernel
theorem dX8_passes_134 : decode cX8_passes 134 = .ok (.istore 5, 2) := by decide +kernel
theorem dX8_passes_136 : decode cX8_passes 136 = .ok (.iinc 6 1, 3) := by decide +kernel
theorem dX8_passes_139 : decode cX8_passes 139 = .ok (.goto (-23), 3) := by decide +kernel
theorem dX8_passes_142 : decode cX8_passes 142 = .ok (.iconst 0, 1) := by decide +kernel
theorem dX8_passes_143 : decode cX8_passes 143 = .ok (.istore 6, 2) := by decide +kernel
theorem dX8_passes_145 : decode cX8_passes 145 = .ok (.iload 6, 2) := by decide +kernel
theorem dX8_passes_147 : decode cX8_passes 147 = .ok (.aload_n 0, 1) := by decide +kernel
theorem dX8_passes_148 : decode cX8_passes 148 = .ok (.getfield 102, 3) := by decide +kernel
theorem dX8_passes_151 : decode cX8_passes 151 = .ok (.if_icmp .ge 73, 3) := by decide +kernel
theorem dX8_passes_154 : decode cX8_passes 154 = .ok (.aload_n 0, 1) := by decide +kernel
theorem dX8_passes_155 : decode cX8_passes 155 = .ok (.iload 6, 2) := by decide +kernel
theorem dX8_passes_157 : decode cX8_passes 157 = .ok (.iload_n 2, 1) := by decide +kernel
theorem dX8_passes_158 : decode cX8_passes 158 = .ok (.iload 5, 2) := by decide +kernel
theorem dX8_passes_160 : decode cX8_passes 160 = .ok (.invokevirtual 144, 3) := by decide +kernel
theorem dX8_passes_163 : decode cX8_passes 163 = .ok (.istore 7, 2) := by decide +kernel
theorem dX8_passes_165 : decode cX8_passes 165 = .ok (.iload 4, 2) := by decide +kernel
theorem dX8_passes_167 : decode cX8_passes 167 = .ok (.ifCond .eq 48, 3) := by decide +kernel
theorem dX8_passes_170 : decode cX8_passes 170 = .ok (.iload 7, 2) := by decide +kernel
theorem dX8_passes_172 : decode cX8_passes 172 = .ok (.ifCond .lt 39, 3) := by decide +kernel
theorem dX8_passes_175 : decode cX8_passes 175 = .ok (.aload_n 0, 1) := by decide +kernel
theorem dX8_passes_176 : decode cX8_passes 176 = .ok (.iload_n 3, 1) := by decide +kernel
theorem dX8_passes_177 : decode cX8_passes 177 = .ok (.aload_n 0, 1) := by decide +kernel
theorem dX8_passes_178 : decode cX8_passes 178 = .ok (.getfield 50, 3) := by decide +kernel
theorem dX8_passes_181 : decode cX8_passes 181 = .ok (.iload_n 1, 1) := by decide +kernel
theorem dX8_passes_182 : decode cX8_passes 182 = .ok (.iaload, 1) := by decide +kernel
theorem dX8_passes_183 : decode cX8_passes 183 = .ok (.aload_n 0, 1) := by decide +kernel
theorem dX8_passes_184 : decode cX8_passes 184 = .ok (.getfield 32, 3) := by decide +kernel
theorem dX8_passes_187 : decode cX8_passes 187 = .ok (.iconst 4, 1) := by decide +kernel
theorem dX8_passes_188 : decode cX8_passes 188 = .ok (.iload 6, 2) := by decide +kernel
theorem dX8_passes_190 : decode cX8_passes 190 = .ok (.imul, 1) := by decide +kernel
theorem dX8_passes_191 : decode cX8_passes 191 = .ok (.iload 7, 2) := by decide +kernel
theorem dX8_passes_193 : decode cX8_passes 193 = .ok (.iadd, 1) := by decide +kernel
theorem dX8_passes_194 : decode cX8_passes 194 = .ok (.iconst 1, 1) := by decide +kernel
theorem dX8_passes_195 : decode cX8_passes 195 = .ok (.iadd, 1) := by decide +kernel
theorem dX8_passes_196 : decode cX8_passes 196 = .ok (.iaload, 1) := by decide +kernel
theorem dX8_passes_197 : decode cX8_passes 197 = .ok (.invokevirtual 88, 3) := by decide +kernel
theorem dX8_passes_200 : decode cX8_passes 200 = .ok (.aload_n 0, 1) := by decide +kernel
theorem dX8_passes_201 : decode cX8_passes 201 = .ok (.iload 6, 2) := by decide +kernel
theorem dX8_passes_203 : decode cX8_passes 203 = .ok (.iload 7, 2) := by decide +kernel
theorem dX8_passes_205 : decode cX8_passes 205 = .ok (.invokevirtual 169, 3) := by decide +kernel
theorem dX8_passes_208 : decode cX8_passes 208 = .ok (.if_icmp .ne 7, 3) := by decide +kernel
theorem dX8_passes_211 : decode cX8_passes 211 = .ok (.iconst 1, 1) := by decide +kernel
theorem dX8_passes_212 : decode cX8_passes 212 = .ok (.goto 4, 3) := by decide +kernel
theorem dX8_passes_215 : decode cX8_passes 215 = .ok (.iconst 0, 1) := by decide +kernel
theorem dX8_passes_216 : decode cX8_passes 216 = .ok (.istore 4, 2) := by decide +kernel
theorem dX8_passes_218 : decode cX8_passes 218 = .ok (.iinc 6 1, 3) := by decide +kernel
theorem dX8_passes_221 : decode cX8_passes 221 = .ok (.goto (-76), 3) := by decide +kernel
theorem dX8_passes_224 : decode cX8_passes 224 = .ok (.iload 4, 2) := by decide +kernel
theorem dX8_passes_226 : decode cX8_passes 226 = .ok (.ireturn, 1) := by decide +kernel
theorem dX8_give_0 : decode cX8_give 0 = .ok (.iconst 0, 1) := by decide +kernel
theorem dX8_give_1 : decode cX8_give 1 = .ok (.istore_n 1, 1) := by decide +kernel
theorem dX8_give_2 : decode cX8_give 2 = .ok (.iload_n 1, 1) := by decide +kernel
theorem dX8_give_3 : decode cX8_give 3 = .ok (.aload_n 0, 1) := by decide +kernel
theorem dX8_give_4 : decode cX8_give 4 = .ok (.getfield 105, 3) := by decide +kernel
theorem dX8_give_7 : decode cX8_give 7 = .ok (.if_icmp .ge 56, 3) := by decide +kernel
theorem dX8_give_10 : decode cX8_give 10 = .ok (.aload_n 0, 1) := by decide +kernel
theorem dX8_give_11 : decode cX8_give 11 = .ok (.getfield 35, 3) := by decide +kernel
theorem dX8_give_14 : decode cX8_give 14 = .ok (.iconst 2, 1) := by decide +kernel
theorem dX8_give_15 : decode cX8_give 15 = .ok (.iload_n 1, 1) := by decide +kernel
theorem dX8_give_16 : decode cX8_give 16 = .ok (.imul, 1) := by decide +kernel
theorem dX8_give_17 : decode cX8_give 17 = .ok (.iaload, 1) := by decide +kernel
theorem dX8_give_18 : decode cX8_give 18 = .ok (.istore_n 2, 1) := by decide +kernel
theorem dX8_give_19 : decode cX8_give 19 = .ok (.aload_n 0, 1) := by decide +kernel
theorem dX8_give_20 : decode cX8_give 20 = .ok (.getfield 53, 3) := by decide +kernel
theorem dX8_give_23 : decode cX8_give 23 = .ok (.iconst 4, 1) := by decide +kernel
theorem dX8_give_24 : decode cX8_give 24 = .ok (.aload_n 0, 1) := by decide +kernel
theorem dX8_give_25 : decode cX8_give 25 = .ok (.getfield 121, 3) := by decide +kernel
theorem dX8_give_28 : decode cX8_give 28 = .ok (.imul, 1) := by decide +kernel
theorem dX8_give_29 : decode cX8_give 29 = .ok (.iload_n 1, 1) := by decide +kernel
theorem dX8_give_30 : decode cX8_give 30 = .ok (.iadd, 1) := by decide +kernel
theorem dX8_give_31 : decode cX8_give 31 = .ok (.aload_n 0, 1) := by decide +kernel
theorem dX8_give_32 : decode cX8_give 32 = .ok (.aload_n 0, 1) := by decide +kernel
theorem dX8_give_33 : decode cX8_give 33 = .ok (.getfield 26, 3) := by decide +kernel
theorem dX8_give_36 : decode cX8_give 36 = .ok (.iload_n 2, 1) := by decide +kernel
theorem dX8_give_37 : decode cX8_give 37 = .ok (.iaload, 1) := by decide +kernel
theorem dX8_give_38 : decode cX8_give 38 = .ok (.aload_n 0, 1) := by decide +kernel
theorem dX8_give_39 : decode cX8_give 39 = .ok (.iload_n 2, 1) := by decide +kernel
theorem dX8_give_40 : decode cX8_give 40 = .ok (.invokevirtual 166, 3) := by decide +kernel
theorem dX8_give_43 : decode cX8_give 43 = .ok (.aload_n 0, 1) := by decide +kernel
theorem dX8_give_44 : decode cX8_give 44 = .ok (.getfield 35, 3) := by decide +kernel
theorem dX8_give_47 : decode cX8_give 47 = .ok (.iconst 2, 1) := by decide +kernel
theorem dX8_give_48 : decode cX8_give 48 = .ok (.iload_n 1, 1) := by decide +kernel
theorem dX8_give_49 : decode cX8_give 49 = .ok (.imul, 1) := by decide +kernel
theorem dX8_give_50 : decode cX8_give 50 = .ok (.iconst 1, 1) := by decide +kernel
theorem dX8_give_51 : decode cX8_give 51 = .ok (.iadd, 1) := by decide +kernel
theorem dX8_give_52 : decode cX8_give 52 = .ok (.iaload, 1) := by decide +kernel
theorem dX8_give_53 : decode cX8_give 53 = .ok (.invokevirtual 88, 3) := by decide +kernel
theorem dX8_give_56 : decode cX8_give 56 = .ok (.iastore, 1) := by decide +kernel
theorem dX8_give_57 : decode cX8_give 57 = .ok (.iinc 1 1, 3) := by decide +kernel
theorem dX8_give_60 : decode cX8_give 60 = .ok (.goto (-58), 3) := by decide +kernel
theorem dX8_give_63 : decode cX8_give 63 = .ok (.aload_n 0, 1) := by decide +kernel
theorem dX8_give_64 : decode cX8_give 64 = .ok (.dup, 1) := by decide +kernel
theorem dX8_give_65 : decode cX8_give 65 = .ok (.getfield 121, 3) := by decide +kernel
theorem dX8_give_68 : decode cX8_give 68 = .ok (.iconst 1, 1) := by decide +kernel
theorem dX8_give_69 : decode cX8_give 69 = .ok (.iadd, 1) := by decide +kernel
theorem dX8_give_70 : decode cX8_give 70 = .ok (.putfield 121, 3) := by decide +kernel
theorem dX8_give_73 : decode cX8_give 73 = .ok (.aload_n 0, 1) := by decide +kernel
theorem dX8_give_74 : decode cX8_give 74 = .ok (.getfield 121, 3) := by decide +kernel
theorem dX8_give_77 : decode cX8_give 77 = .ok (.aload_n 0, 1) := by decide +kernel
theorem dX8_give_78 : decode cX8_give 78 = .ok (.getfield 108, 3) := by decide +kernel
theorem dX8_give_81 : decode cX8_give 81 = .ok (.ifCond .ge 10, 3) := by decide +kernel
theorem dX8_give_84 : decode cX8_give 84 = .ok (.aload_n 0, 1) := by decide +kernel
theorem dX8_give_85 : decode cX8_give 85 = .ok (.getfield 115, 3) := by decide +kernel
theorem dX8_give_88 : decode cX8_give 88 = .ok (.goto 5, 3) := by decide +kernel
theorem dX8_give_91 : decode cX8_give 91 = .ok (.bipush 64, 2) := by decide +kernel
theorem dX8_give_93 : decode cX8_give 93 = .ok (.if_icmp .ne 7, 3) := by decide +kernel
theorem dX8_give_96 : decode cX8_give 96 = .ok (.aload_n 0, 1) := by decide +kernel
theorem dX8_give_97 : decode cX8_give 97 = .ok (.invokevirtual 179, 3) := by decide +kernel
theorem dX8_give_100 : decode cX8_give 100 = .ok (.return_, 1) := by decide +kernel
theorem dX8_swapped_0 : decode cX8_swapped 0 = .ok (.aload_n 0, 1) := by decide +kernel
theorem dX8_swapped_1 : decode cX8_swapped 1 = .ok (.getfield 53, 3) := by decide +kernel
theorem dX8_swapped_4 : decode cX8_swapped 4 = .ok (.iconst 4, 1) := by decide +kernel
theorem dX8_swapped_5 : decode cX8_swapped 5 = .ok (.iload_n 1, 1) := by decide +kernel
theorem dX8_swapped_6 : decode cX8_swapped 6 = .ok (.imul, 1) := by decide +kernel
theorem dX8_swapped_7 : decode cX8_swapped 7 = .ok (.aload_n 0, 1) := by decide +kernel
theorem dX8_swapped_8 : decode cX8_swapped 8 = .ok (.getfield 108, 3) := by decide +kernel
theorem dX8_swapped_11 : decode cX8_swapped 11 = .ok (.iadd, 1) := by decide +kernel
theorem dX8_swapped_12 : decode cX8_swapped 12 = .ok (.iaload, 1) := by decide +kernel
theorem dX8_swapped_13 : decode cX8_swapped 13 = .ok (.istore_n 2, 1) := by decide +kernel
theorem dX8_swapped_14 : decode cX8_swapped 14 = .ok (.aload_n 0, 1) := by decide +kernel
theorem dX8_swapped_15 : decode cX8_swapped 15 = .ok (.getfield 53, 3) := by decide +kernel
theorem dX8_swapped_18 : decode cX8_swapped 18 = .ok (.iconst 4, 1) := by decide +kernel
theorem dX8_swapped_19 : decode cX8_swapped 19 = .ok (.iload_n 1, 1) := by decide +kernel
theorem dX8_swapped_20 : decode cX8_swapped 20 = .ok (.imul, 1) := by decide +kernel
theorem dX8_swapped_21 : decode cX8_swapped 21 = .ok (.iconst 4, 1) := by decide +kernel
theorem dX8_swapped_22 : decode cX8_swapped 22 = .ok (.iadd, 1) := by decide +kernel
theorem dX8_swapped_23 : decode cX8_swapped 23 = .ok (.aload_n 0, 1) := by decide +kernel
theorem dX8_swapped_24 : decode cX8_swapped 24 = .ok (.getfield 108, 3) := by decide +kernel
theorem dX8_swapped_27 : decode cX8_swapped 27 = .ok (.iadd, 1) := by decide +kernel
theorem dX8_swapped_28 : decode cX8_swapped 28 = .ok (.iaload, 1) := by decide +kernel
theorem dX8_swapped_29 : decode cX8_swapped 29 = .ok (.istore_n 3, 1) := by decide +kernel
theorem dX8_swapped_30 : decode cX8_swapped 30 = .ok (.aload_n 0, 1) := by decide +kernel
theorem dX8_swapped_31 : decode cX8_swapped 31 = .ok (.getfield 111, 3) := by decide +kernel
theorem dX8_swapped_34 : decode cX8_swapped 34 = .ok (.ifCond .eq 11, 3) := by decide +kernel
theorem dX8_swapped_37 : decode cX8_swapped 37 = .ok (.iload_n 2, 1) := by decide +kernel
theorem dX8_swapped_38 : decode cX8_swapped 38 = .ok (.iload_n 3, 1) := by decide +kernel
theorem dX8_swapped_39 : decode cX8_swapped 39 = .ok (.if_icmp .lt 13, 3) := by decide +kernel
theorem dX8_swapped_42 : decode cX8_swapped 42 = .ok (.goto 8, 3) := by decide +kernel
theorem dX8_swapped_45 : decode cX8_swapped 45 = .ok (.iload_n 2, 1) := by decide +kernel
theorem dX8_swapped_46 : decode cX8_swapped 46 = .ok (.iload_n 3, 1) := by decide +kernel
theorem dX8_swapped_47 : decode cX8_swapped 47 = .ok (.if_icmp .gt 5, 3) := by decide +kernel
theorem dX8_swapped_50 : decode cX8_swapped 50 = .ok (.iconst 0, 1) := by decide +kernel
theorem dX8_swapped_51 : decode cX8_swapped 51 = .ok (.ireturn, 1) := by decide +kernel
theorem dX8_swapped_52 : decode cX8_swapped 52 = .ok (.iconst 0, 1) := by decide +kernel
theorem dX8_swapped_53 : decode cX8_swapped 53 = .ok (.istore 4, 2) := by decide +kernel
theorem dX8_swapped_55 : decode cX8_swapped 55 = .ok (.iload 4, 2) := by decide +kernel
theorem dX8_swapped_57 : decode cX8_swapped 57 = .ok (.iconst 4, 1) := by decide +kernel
theorem dX8_swapped_58 : decode cX8_swapped 58 = .ok (.if_icmp .ge 61, 3) := by decide +kernel
theorem dX8_swapped_61 : decode cX8_swapped 61 = .ok (.aload_n 0, 1) := by decide +kernel
theorem dX8_swapped_62 : decode cX8_swapped 62 = .ok (.getfield 53, 3) := by decide +kernel
theorem dX8_swapped_65 : decode cX8_swapped 65 = .ok (.iconst 4, 1) := by decide +kernel
theorem dX8_swapped_66 : decode cX8_swapped 66 = .ok (.iload_n 1, 1) := by decide +kernel
theorem dX8_swapped_67 : decode cX8_swapped 67 = .ok (.imul, 1) := by decide +kernel
theorem dX8_swapped_68 : decode cX8_swapped 68 = .ok (.iload 4, 2) := by decide +kernel
theorem dX8_swapped_70 : decode cX8_swapped 70 = .ok (.iadd, 1) := by decide +kernel
theorem dX8_swapped_71 : decode cX8_swapped 71 = .ok (.iaload, 1) := by decide +kernel
theorem dX8_swapped_72 : decode cX8_swapped 72 = .ok (.istore 5, 2) := by decide +kernel
theorem dX8_swapped_74 : decode cX8_swapped 74 = .ok (.aload_n 0, 1) := by decide +kernel
theorem dX8_swapped_75 : decode cX8_swapped 75 = .ok (.getfield 53, 3) := by decide +kernel
theorem dX8_swapped_78 : decode cX8_swapped 78 = .ok (.iconst 4, 1) := by decide +kernel
theorem dX8_swapped_79 : decode cX8_swapped 79 = .ok (.iload_n 1, 1) := by decide +kernel
theorem dX8_swapped_80 : decode cX8_swapped 80 = .ok (.imul, 1) := by decide +kernel
theorem dX8_swapped_81 : decode cX8_swapped 81 = .ok (.iload 4, 2) := by decide +kernel
theorem dX8_swapped_83 : decode cX8_swapped 83 = .ok (.iadd, 1) := by decide +kernel
theorem dX8_swapped_84 : decode cX8_swapped 84 = .ok (.aload_n 0, 1) := by decide +kernel
theorem dX8_swapped_85 : decode cX8_swapped 85 = .ok (.getfield 53, 3) := by decide +kernel
theorem dX8_swapped_88 : decode cX8_swapped 88 = .ok (.iconst 4, 1) := by decide +kernel
theorem dX8_swapped_89 : decode cX8_swapped 89 = .ok (.iload_n 1, 1) := by decide +kernel
theorem dX8_swapped_90 : decode cX8_swapped 90 = .ok (.imul, 1) := by decide +kernel
theorem dX8_swapped_91 : decode cX8_swapped 91 = .ok (.iconst 4, 1) := by decide +kernel
theorem dX8_swapped_92 : decode cX8_swapped 92 = .ok (.iadd, 1) := by decide +kernel
theorem dX8_swapped_93 : decode cX8_swapped 93 = .ok (.iload 4, 2) := by decide +kernel
theorem dX8_swapped_95 : decode cX8_swapped 95 = .ok (.iadd, 1) := by decide +kernel
theorem dX8_swapped_96 : decode cX8_swapped 96 = .ok (.iaload, 1) := by decide +kernel
theorem dX8_swapped_97 : decode cX8_swapped 97 = .ok (.iastore, 1) := by decide +kernel
theorem dX8_swapped_98 : decode cX8_swapped 98 = .ok (.aload_n 0, 1) := by decide +kernel
theorem dX8_swapped_99 : decode cX8_swapped 99 = .ok (.getfield 53, 3) := by decide +kernel
theorem dX8_swapped_102 : decode cX8_swapped 102 = .ok (.iconst 4, 1) := by decide +kernel
theorem dX8_swapped_103 : decode cX8_swapped 103 = .ok (.iload_n 1, 1) := by decide +kernel
theorem dX8_swapped_104 : decode cX8_swapped 104 = .ok (.imul, 1) := by decide +kernel
theorem dX8_swapped_105 : decode cX8_swapped 105 = .ok (.iconst 4, 1) := by decide +kernel
theorem dX8_swapped_106 : decode cX8_swapped 106 = .ok (.iadd, 1) := by decide +kernel
theorem dX8_swapped_107 : decode cX8_swapped 107 = .ok (.iload 4, 2) := by decide +kernel
theorem dX8_swapped_109 : decode cX8_swapped 109 = .ok (.iadd, 1) := by decide +kernel
theorem dX8_swapped_110 : decode cX8_swapped 110 = .ok (.iload 5, 2) := by decide +kernel
theorem dX8_swapped_112 : decode cX8_swapped 112 = .ok (.iastore, 1) := by decide +kernel
theorem dX8_swapped_113 : decode cX8_swapped 113 = .ok (.iinc 4 1, 3) := by decide +kernel
theorem dX8_swapped_116 : decode cX8_swapped 116 = .ok (.goto (-61), 3) := by decide +kernel
theorem dX8_swapped_119 : decode cX8_swapped 119 = .ok (.iconst 1, 1) := by decide +kernel
theorem dX8_swapped_120 : decode cX8_swapped 120 = .ok (.ireturn, 1) := by decide +kernel
theorem dX8_finish_0 : decode cX8_finish 0 = .ok (.aload_n 0, 1) := by decide +kernel
theorem dX8_finish_1 : decode cX8_finish 1 = .ok (.iconst 2, 1) := by decide +kernel
theorem dX8_finish_2 : decode cX8_finish 2 = .ok (.putfield 71, 3) := by decide +kernel
theorem dX8_finish_5 : decode cX8_finish 5 = .ok (.aload_n 0, 1) := by decide +kernel
theorem dX8_finish_6 : decode cX8_finish 6 = .ok (.getfield 108, 3) := by decide +kernel
theorem dX8_finish_9 : decode cX8_finish 9 = .ok (.ifCond .lt 7, 3) := by decide +kernel
theorem dX8_finish_12 : decode cX8_finish 12 = .ok (.iconst 1, 1) := by decide +kernel
theorem dX8_finish_13 : decode cX8_finish 13 = .ok (.goto 4, 3) := by decide +kernel
theorem dX8_finish_16 : decode cX8_finish 16 = .ok (.iconst 0, 1) := by decide +kernel
theorem dX8_finish_17 : decode cX8_finish 17 = .ok (.istore_n 1, 1) := by decide +kernel
theorem dX8_finish_18 : decode cX8_finish 18 = .ok (.iload_n 1, 1) := by decide +kernel
theorem dX8_finish_19 : decode cX8_finish 19 = .ok (.ifCond .eq 44, 3) := by decide +kernel
theorem dX8_finish_22 : decode cX8_finish 22 = .ok (.iconst 0, 1) := by decide +kernel
theorem dX8_finish_23 : decode cX8_finish 23 = .ok (.istore_n 1, 1) := by decide +kernel
theorem dX8_finish_24 : decode cX8_finish 24 = .ok (.iconst 0, 1) := by decide +kernel
theorem dX8_finish_25 : decode cX8_finish 25 = .ok (.istore_n 2, 1) := by decide +kernel
theorem dX8_finish_26 : decode cX8_finish 26 = .ok (.iload_n 2, 1) := by decide +kernel
theorem dX8_finish_27 : decode cX8_finish 27 = .ok (.aload_n 0, 1) := by decide +kernel
theorem dX8_finish_28 : decode cX8_finish 28 = .ok (.getfield 121, 3) := by decide +kernel
theorem dX8_finish_31 : decode cX8_finish 31 = .ok (.iconst 1, 1) := by decide +kernel
theorem dX8_finish_32 : decode cX8_finish 32 = .ok (.isub, 1) := by decide +kernel
theorem dX8_finish_33 : decode cX8_finish 33 = .ok (.if_icmp .ge 27, 3) := by decide +kernel
theorem dX8_finish_36 : decode cX8_finish 36 = .ok (.aload_n 0, 1) := by decide +kernel
theorem dX8_finish_37 : decode cX8_finish 37 = .ok (.iload_n 2, 1) := by decide +kernel
theorem dX8_finish_38 : decode cX8_finish 38 = .ok (.invokevirtual 182, 3) := by decide +kernel
theorem dX8_finish_41 : decode cX8_finish 41 = .ok (.ifCond .ne 7, 3) := by decide +kernel
theorem dX8_finish_44 : decode cX8_finish 44 = .ok (.iload_n 1, 1) := by decide +kernel
theorem dX8_finish_45 : decode cX8_finish 45 = .ok (.ifCond .eq 7, 3) := by decide +kernel
theorem dX8_finish_48 : decode cX8_finish 48 = .ok (.iconst 1, 1) := by decide +kernel
theorem dX8_finish_49 : decode cX8_finish 49 = .ok (.goto 4, 3) := by decide +kernel
theorem dX8_finish_52 : decode cX8_finish 52 = .ok (.iconst 0, 1) := by decide +kernel
theorem dX8_finish_53 : decode cX8_finish 53 = .ok (.istore_n 1, 1) := by decide +kernel
theorem dX8_finish_54 : decode cX8_finish 54 = .ok (.iinc 2 1, 3) := by decide +kernel
theorem dX8_finish_57 : decode cX8_finish 57 = .ok (.goto (-31), 3) := by decide +kernel
theorem dX8_finish_60 : decode cX8_finish 60 = .ok (.goto (-42), 3) := by decide +kernel
theorem dX8_finish_63 : decode cX8_finish 63 = .ok (.aload_n 0, 1) := by decide +kernel
theorem dX8_finish_64 : decode cX8_finish 64 = .ok (.aload_n 0, 1) := by decide +kernel
theorem dX8_finish_65 : decode cX8_finish 65 = .ok (.getfield 121, 3) := by decide +kernel
theorem dX8_finish_68 : decode cX8_finish 68 = .ok (.aload_n 0, 1) := by decide +kernel
theorem dX8_finish_69 : decode cX8_finish 69 = .ok (.getfield 115, 3) := by decide +kernel
theorem dX8_finish_72 : decode cX8_finish 72 = .ok (.if_icmp .ge 10, 3) := by decide +kernel
theorem dX8_finish_75 : decode cX8_finish 75 = .ok (.aload_n 0, 1) := by decide +kernel
theorem dX8_finish_76 : decode cX8_finish 76 = .ok (.getfield 121, 3) := by decide +kernel
theorem dX8_finish_79 : decode cX8_finish 79 = .ok (.goto 7, 3) := by decide +kernel
theorem dX8_finish_82 : decode cX8_finish 82 = .ok (.aload_n 0, 1) := by decide +kernel
theorem dX8_finish_83 : decode cX8_finish 83 = .ok (.getfield 115, 3) := by decide +kernel
theorem dX8_finish_86 : decode cX8_finish 86 = .ok (.putfield 121, 3) := by decide +kernel
theorem dX8_finish_89 : decode cX8_finish 89 = .ok (.return_, 1) := by decide +kernel
theorem dX8_run_0 : decode cX8_run 0 = .ok (.aload_n 0, 1) := by decide +kernel
theorem dX8_run_1 : decode cX8_run 1 = .ok (.iconst 0, 1) := by decide +kernel
theorem dX8_run_2 : decode cX8_run 2 = .ok (.putfield 59, 3) := by decide +kernel
theorem dX8_run_5 : decode cX8_run 5 = .ok (.iload_n 1, 1) := by decide +kernel
theorem dX8_run_6 : decode cX8_run 6 = .ok (.iconst 1, 1) := by decide +kernel
theorem dX8_run_7 : decode cX8_run 7 = .ok (.sipush 200, 3) := by decide +kernel
theorem dX8_run_10 : decode cX8_run 10 = .ok (.invokestatic 63, 3) := by decide +kernel
theorem dX8_run_13 : decode cX8_run 13 = .ok (.ifCond .eq 11, 3) := by decide +kernel
theorem dX8_run_16 : decode cX8_run 16 = .ok (.aload_n 0, 1) := by decide +kernel
theorem dX8_run_17 : decode cX8_run 17 = .ok (.getfield 71, 3) := by decide +kernel
theorem dX8_run_20 : decode cX8_run 20 = .ok (.iconst 1, 1) := by decide +kernel
theorem dX8_run_21 : decode cX8_run 21 = .ok (.if_icmp .eq 5, 3) := by decide +kernel
theorem dX8_run_24 : decode cX8_run 24 = .ok (.iconst (-1), 1) := by decide +kernel
theorem dX8_run_25 : decode cX8_run 25 = .ok (.ireturn, 1) := by decide +kernel
theorem dX8_run_26 : decode cX8_run 26 = .ok (.iconst 0, 1) := by decide +kernel
theorem dX8_run_27 : decode cX8_run 27 = .ok (.istore_n 2, 1) := by decide +kernel
theorem dX8_run_28 : decode cX8_run 28 = .ok (.iconst 1, 1) := by decide +kernel
theorem dX8_run_29 : decode cX8_run 29 = .ok (.istore_n 3, 1) := by decide +kernel
theorem dX8_run_30 : decode cX8_run 30 = .ok (.iload_n 3, 1) := by decide +kernel
theorem dX8_run_31 : decode cX8_run 31 = .ok (.ifCond .eq 91, 3) := by decide +kernel
theorem dX8_run_34 : decode cX8_run 34 = .ok (.aload_n 0, 1) := by decide +kernel
theorem dX8_run_35 : decode cX8_run 35 = .ok (.aload_n 0, 1) := by decide +kernel
theorem dX8_run_36 : decode cX8_run 36 = .ok (.getfield 163, 3) := by decide +kernel
theorem dX8_run_39 : decode cX8_run 39 = .ok (.invokevirtual 185, 3) := by decide +kernel
theorem dX8_run_42 : decode cX8_run 42 = .ok (.istore 4, 2) := by decide +kernel
theorem dX8_run_44 : decode cX8_run 44 = .ok (.iload 4, 2) := by decide +kernel
theorem dX8_run_46 : decode cX8_run 46 = .ok (.ifCond .ge 27, 3) := by decide +kernel
theorem dX8_run_49 : decode cX8_run 49 = .ok (.aload_n 0, 1) := by decide +kernel
theorem dX8_run_50 : decode cX8_run 50 = .ok (.dup, 1) := by decide +kernel
theorem dX8_run_51 : decode cX8_run 51 = .ok (.getfield 163, 3) := by decide +kernel
theorem dX8_run_54 : decode cX8_run 54 = .ok (.iconst 1, 1) := by decide +kernel
theorem dX8_run_55 : decode cX8_run 55 = .ok (.isub, 1) := by decide +kernel
theorem dX8_run_56 : decode cX8_run 56 = .ok (.putfield 163, 3) := by decide +kernel
theorem dX8_run_59 : decode cX8_run 59 = .ok (.aload_n 0, 1) := by decide +kernel
theorem dX8_run_60 : decode cX8_run 60 = .ok (.getfield 163, 3) := by decide +kernel
theorem dX8_run_63 : decode cX8_run 63 = .ok (.ifCond .ge 38, 3) := by decide +kernel
theorem dX8_run_66 : decode cX8_run 66 = .ok (.aload_n 0, 1) := by decide +kernel
theorem dX8_run_67 : decode cX8_run 67 = .ok (.invokevirtual 179, 3) := by decide +kernel
theorem dX8_run_70 : decode cX8_run 70 = .ok (.goto 31, 3) := by decide +kernel
theorem dX8_run_73 : decode cX8_run 73 = .ok (.iload_n 2, 1) := by decide +kernel
theorem dX8_run_74 : decode cX8_run 74 = .ok (.iload_n 1, 1) := by decide +kernel
theorem dX8_run_75 : decode cX8_run 75 = .ok (.if_icmp .ge 24, 3) := by decide +kernel
theorem dX8_run_78 : decode cX8_run 78 = .ok (.aload_n 0, 1) := by decide +kernel
theorem dX8_run_79 : decode cX8_run 79 = .ok (.getfield 50, 3) := by decide +kernel
theorem dX8_run_82 : decode cX8_run 82 = .ok (.aload_n 0, 1) := by decide +kernel
theorem dX8_run_83 : decode cX8_run 83 = .ok (.getfield 163, 3) := by decide +kernel
theorem dX8_run_86 : decode cX8_run 86 = .ok (.iload 4, 2) := by decide +kernel
theorem dX8_run_88 : decode cX8_run 88 = .ok (.iastore, 1) := by decide +kernel
theorem dX8_run_89 : decode cX8_run 89 = .ok (.iinc 2 1, 3) := by decide +kernel
theorem dX8_run_92 : decode cX8_run 92 = .ok (.aload_n 0, 1) := by decide +kernel
theorem dX8_run_93 : decode cX8_run 93 = .ok (.invokevirtual 188, 3) := by decide +kernel
theorem dX8_run_96 : decode cX8_run 96 = .ok (.goto 5, 3) := by decide +kernel
theorem dX8_run_99 : decode cX8_run 99 = .ok (.iconst 0, 1) := by decide +kernel
theorem dX8_run_100 : decode cX8_run 100 = .ok (.istore_n 3, 1) := by decide +kernel
theorem dX8_run_101 : decode cX8_run 101 = .ok (.iload_n 3, 1) := by decide +kernel
theorem dX8_run_102 : decode cX8_run 102 = .ok (.ifCond .eq 15, 3) := by decide +kernel
theorem dX8_run_105 : decode cX8_run 105 = .ok (.aload_n 0, 1) := by decide +kernel
theorem dX8_run_106 : decode cX8_run 106 = .ok (.getfield 71, 3) := by decide +kernel
theorem dX8_run_109 : decode cX8_run 109 = .ok (.iconst 1, 1) := by decide +kernel
theorem dX8_run_110 : decode cX8_run 110 = .ok (.if_icmp .ne 7, 3) := by decide +kernel
theorem dX8_run_113 : decode cX8_run 113 = .ok (.iconst 1, 1) := by decide +kernel
theorem dX8_run_114 : decode cX8_run 114 = .ok (.goto 4, 3) := by decide +kernel
theorem dX8_run_117 : decode cX8_run 117 = .ok (.iconst 0, 1) := by decide +kernel
theorem dX8_run_118 : decode cX8_run 118 = .ok (.istore_n 3, 1) := by decide +kernel
theorem dX8_run_119 : decode cX8_run 119 = .ok (.goto (-89), 3) := by decide +kernel
theorem dX8_run_122 : decode cX8_run 122 = .ok (.aload_n 0, 1) := by decide +kernel
theorem dX8_run_123 : decode cX8_run 123 = .ok (.dup, 1) := by decide +kernel
theorem dX8_run_124 : decode cX8_run 124 = .ok (.getfield 118, 3) := by decide +kernel
theorem dX8_run_127 : decode cX8_run 127 = .ok (.iload_n 2, 1) := by decide +kernel
theorem dX8_run_128 : decode cX8_run 128 = .ok (.iadd, 1) := by decide +kernel
theorem dX8_run_129 : decode cX8_run 129 = .ok (.putfield 118, 3) := by decide +kernel
theorem dX8_run_132 : decode cX8_run 132 = .ok (.iload_n 2, 1) := by decide +kernel
theorem dX8_run_133 : decode cX8_run 133 = .ok (.ireturn, 1) := by decide +kernel
theorem dX8_step_0 : decode cX8_step 0 = .ok (.aload_n 0, 1) := by decide +kernel
theorem dX8_step_1 : decode cX8_step 1 = .ok (.aload_n 0, 1) := by decide +kernel
theorem dX8_step_2 : decode cX8_step 2 = .ok (.getfield 163, 3) := by decide +kernel
theorem dX8_step_5 : decode cX8_step 5 = .ok (.invokevirtual 191, 3) := by decide +kernel
theorem dX8_step_8 : decode cX8_step 8 = .ok (.ifCond .ne 4, 3) := by decide +kernel
theorem dX8_step_11 : decode cX8_step 11 = .ok (.return_, 1) := by decide +kernel
theorem dX8_step_12 : decode cX8_step 12 = .ok (.aload_n 0, 1) := by decide +kernel
theorem dX8_step_13 : decode cX8_step 13 = .ok (.getfield 163, 3) := by decide +kernel
theorem dX8_step_16 : decode cX8_step 16 = .ok (.aload_n 0, 1) := by decide +kernel
theorem dX8_step_17 : decode cX8_step 17 = .ok (.getfield 96, 3) := by decide +kernel
theorem dX8_step_20 : decode cX8_step 20 = .ok (.iconst 1, 1) := by decide +kernel
theorem dX8_step_21 : decode cX8_step 21 = .ok (.isub, 1) := by decide +kernel
theorem dX8_step_22 : decode cX8_step 22 = .ok (.if_icmp .ne 10, 3) := by decide +kernel
theorem dX8_step_25 : decode cX8_step 25 = .ok (.aload_n 0, 1) := by decide +kernel
theorem dX8_step_26 : decode cX8_step 26 = .ok (.invokevirtual 194, 3) := by decide +kernel
theorem dX8_step_29 : decode cX8_step 29 = .ok (.goto 23, 3) := by decide +kernel
theorem dX8_step_32 : decode cX8_step 32 = .ok (.aload_n 0, 1) := by decide +kernel
theorem dX8_step_33 : decode cX8_step 33 = .ok (.dup, 1) := by decide +kernel
theorem dX8_step_34 : decode cX8_step 34 = .ok (.getfield 163, 3) := by decide +kernel
theorem dX8_step_37 : decode cX8_step 37 = .ok (.iconst 1, 1) := by decide +kernel
theorem dX8_step_38 : decode cX8_step 38 = .ok (.iadd, 1) := by decide +kernel
theorem dX8_step_39 : decode cX8_step 39 = .ok (.putfield 163, 3) := by decide +kernel
theorem dX8_step_42 : decode cX8_step 42 = .ok (.aload_n 0, 1) := by decide +kernel
theorem dX8_step_43 : decode cX8_step 43 = .ok (.getfield 50, 3) := by decide +kernel
theorem dX8_step_46 : decode cX8_step 46 = .ok (.aload_n 0, 1) := by decide +kernel
theorem dX8_step_47 : decode cX8_step 47 = .ok (.getfield 163, 3) := by decide +kernel
theorem dX8_step_50 : decode cX8_step 50 = .ok (.iconst (-1), 1) := by decide +kernel
theorem dX8_step_51 : decode cX8_step 51 = .ok (.iastore, 1) := by decide +kernel
theorem dX8_step_52 : decode cX8_step 52 = .ok (.return_, 1) := by decide +kernel
theorem dX8_look_0 : decode cX8_look 0 = .ok (.aload_n 0, 1) := by decide +kernel
theorem dX8_look_1 : decode cX8_look 1 = .ok (.iconst 0, 1) := by decide +kernel
theorem dX8_look_2 : decode cX8_look 2 = .ok (.putfield 59, 3) := by decide +kernel
theorem dX8_look_5 : decode cX8_look 5 = .ok (.iload_n 1, 1) := by decide +kernel
theorem dX8_look_6 : decode cX8_look 6 = .ok (.iconst 3, 1) := by decide +kernel
theorem dX8_look_7 : decode cX8_look 7 = .ok (.if_icmp .ge 40, 3) := by decide +kernel
theorem dX8_look_10 : decode cX8_look 10 = .ok (.iload_n 1, 1) := by decide +kernel
theorem dX8_look_11 : decode cX8_look 11 = .ok (.ifCond .ne 10, 3) := by decide +kernel
theorem dX8_look_14 : decode cX8_look 14 = .ok (.aload_n 0, 1) := by decide +kernel
theorem dX8_look_15 : decode cX8_look 15 = .ok (.getfield 71, 3) := by decide +kernel
theorem dX8_look_18 : decode cX8_look 18 = .ok (.goto 28, 3) := by decide +kernel
theorem dX8_look_21 : decode cX8_look 21 = .ok (.iload_n 1, 1) := by decide +kernel
theorem dX8_look_22 : decode cX8_look 22 = .ok (.iconst 1, 1) := by decide +kernel
theorem dX8_look_23 : decode cX8_look 23 = .ok (.if_icmp .ne 10, 3) := by decide +kernel
theorem dX8_look_26 : decode cX8_look 26 = .ok (.aload_n 0, 1) := by decide +kernel
theorem dX8_look_27 : decode cX8_look 27 = .ok (.getfield 118, 3) := by decide +kernel
theorem dX8_look_30 : decode cX8_look 30 = .ok (.goto 16, 3) := by decide +kernel
theorem dX8_look_33 : decode cX8_look 33 = .ok (.iload_n 1, 1) := by decide +kernel
theorem dX8_look_34 : decode cX8_look 34 = .ok (.iconst 2, 1) := by decide +kernel
theorem dX8_look_35 : decode cX8_look 35 = .ok (.if_icmp .ne 10, 3) := by decide +kernel
theorem dX8_look_38 : decode cX8_look 38 = .ok (.aload_n 0, 1) := by decide +kernel
theorem dX8_look_39 : decode cX8_look 39 = .ok (.getfield 121, 3) := by decide +kernel
theorem dX8_look_42 : decode cX8_look 42 = .ok (.goto 4, 3) := by decide +kernel
theorem dX8_look_45 : decode cX8_look 45 = .ok (.iconst (-1), 1) := by decide +kernel
theorem dX8_look_46 : decode cX8_look 46 = .ok (.ireturn, 1) := by decide +kernel
theorem dX8_look_47 : decode cX8_look 47 = .ok (.iload_n 1, 1) := by decide +kernel
theorem dX8_look_48 : decode cX8_look 48 = .ok (.bipush 6, 2) := by decide +kernel
theorem dX8_look_50 : decode cX8_look 50 = .ok (.if_icmp .ge 24, 3) := by decide +kernel
theorem dX8_look_53 : decode cX8_look 53 = .ok (.aload_n 0, 1) := by decide +kernel
theorem dX8_look_54 : decode cX8_look 54 = .ok (.getfield 7, 3) := by decide +kernel
theorem dX8_look_57 : decode cX8_look 57 = .ok (.iload_n 1, 1) := by decide +kernel
theorem dX8_look_58 : decode cX8_look 58 = .ok (.iconst 3, 1) := by decide +kernel
theorem dX8_look_59 : decode cX8_look 59 = .ok (.isub, 1) := by decide +kernel
theorem dX8_look_60 : decode cX8_look 60 = .ok (.iaload, 1) := by decide +kernel
theorem dX8_look_61 : decode cX8_look 61 = .ok (.ifCond .le 13, 3) := by decide +kernel
theorem dX8_look_64 : decode cX8_look 64 = .ok (.aload_n 0, 1) := by decide +kernel
theorem dX8_look_65 : decode cX8_look 65 = .ok (.iload_n 1, 1) := by decide +kernel
theorem dX8_look_66 : decode cX8_look 66 = .ok (.iconst 3, 1) := by decide +kernel
theorem dX8_look_67 : decode cX8_look 67 = .ok (.isub, 1) := by decide +kernel
theorem dX8_look_68 : decode cX8_look 68 = .ok (.invokevirtual 74, 3) := by decide +kernel
theorem dX8_look_71 : decode cX8_look 71 = .ok (.goto 4, 3) := by decide +kernel
theorem dX8_look_74 : decode cX8_look 74 = .ok (.iconst (-1), 1) := by decide +kernel
theorem dX8_look_75 : decode cX8_look 75 = .ok (.ireturn, 1) := by decide +kernel
theorem dX8_answer_0 : decode cX8_answer 0 = .ok (.aload_n 0, 1) := by decide +kernel
theorem dX8_answer_1 : decode cX8_answer 1 = .ok (.aload_n 0, 1) := by decide +kernel
theorem dX8_answer_2 : decode cX8_answer 2 = .ok (.getfield 71, 3) := by decide +kernel
theorem dX8_answer_5 : decode cX8_answer 5 = .ok (.iconst 2, 1) := by decide +kernel
theorem dX8_answer_6 : decode cX8_answer 6 = .ok (.if_icmp .eq 7, 3) := by decide +kernel
theorem dX8_answer_9 : decode cX8_answer 9 = .ok (.iconst 1, 1) := by decide +kernel
theorem dX8_answer_10 : decode cX8_answer 10 = .ok (.goto 36, 3) := by decide +kernel
theorem dX8_answer_13 : decode cX8_answer 13 = .ok (.iload_n 1, 1) := by decide +kernel
theorem dX8_answer_14 : decode cX8_answer 14 = .ok (.iconst 0, 1) := by decide +kernel
theorem dX8_answer_15 : decode cX8_answer 15 = .ok (.aload_n 0, 1) := by decide +kernel
theorem dX8_answer_16 : decode cX8_answer 16 = .ok (.getfield 121, 3) := by decide +kernel
theorem dX8_answer_19 : decode cX8_answer 19 = .ok (.iconst 1, 1) := by decide +kernel
theorem dX8_answer_20 : decode cX8_answer 20 = .ok (.isub, 1) := by decide +kernel
theorem dX8_answer_21 : decode cX8_answer 21 = .ok (.invokestatic 63, 3) := by decide +kernel
theorem dX8_answer_24 : decode cX8_answer 24 = .ok (.ifCond .eq 17, 3) := by decide +kernel
theorem dX8_answer_27 : decode cX8_answer 27 = .ok (.iload_n 2, 1) := by decide +kernel
theorem dX8_answer_28 : decode cX8_answer 28 = .ok (.iconst 0, 1) := by decide +kernel
theorem dX8_answer_29 : decode cX8_answer 29 = .ok (.aload_n 0, 1) := by decide +kernel
theorem dX8_answer_30 : decode cX8_answer 30 = .ok (.getfield 105, 3) := by decide +kernel
theorem dX8_answer_33 : decode cX8_answer 33 = .ok (.iconst 1, 1) := by decide +kernel
theorem dX8_answer_34 : decode cX8_answer 34 = .ok (.isub, 1) := by decide +kernel
theorem dX8_answer_35 : decode cX8_answer 35 = .ok (.invokestatic 63, 3) := by decide +kernel
theorem dX8_answer_38 : decode cX8_answer 38 = .ok (.ifCond .ne 7, 3) := by decide +kernel
theorem dX8_answer_41 : decode cX8_answer 41 = .ok (.iconst 2, 1) := by decide +kernel
theorem dX8_answer_42 : decode cX8_answer 42 = .ok (.goto 4, 3) := by decide +kernel
theorem dX8_answer_45 : decode cX8_answer 45 = .ok (.iconst 0, 1) := by decide +kernel
theorem dX8_answer_46 : decode cX8_answer 46 = .ok (.putfield 59, 3) := by decide +kernel
theorem dX8_answer_49 : decode cX8_answer 49 = .ok (.aload_n 0, 1) := by decide +kernel
theorem dX8_answer_50 : decode cX8_answer 50 = .ok (.getfield 59, 3) := by decide +kernel
theorem dX8_answer_53 : decode cX8_answer 53 = .ok (.ifCond .le 7, 3) := by decide +kernel
theorem dX8_answer_56 : decode cX8_answer 56 = .ok (.iconst 0, 1) := by decide +kernel
theorem dX8_answer_57 : decode cX8_answer 57 = .ok (.goto 13, 3) := by decide +kernel
theorem dX8_answer_60 : decode cX8_answer 60 = .ok (.aload_n 0, 1) := by decide +kernel
theorem dX8_answer_61 : decode cX8_answer 61 = .ok (.getfield 53, 3) := by decide +kernel
theorem dX8_answer_64 : decode cX8_answer 64 = .ok (.iconst 4, 1) := by decide +kernel
theorem dX8_answer_65 : decode cX8_answer 65 = .ok (.iload_n 1, 1) := by decide +kernel
theorem dX8_answer_66 : decode cX8_answer 66 = .ok (.imul, 1) := by decide +kernel
theorem dX8_answer_67 : decode cX8_answer 67 = .ok (.iload_n 2, 1) := by decide +kernel
theorem dX8_answer_68 : decode cX8_answer 68 = .ok (.iadd, 1) := by decide +kernel
theorem dX8_answer_69 : decode cX8_answer 69 = .ok (.iaload, 1) := by decide +kernel
theorem dX8_answer_70 : decode cX8_answer 70 = .ok (.ireturn, 1) := by decide +kernel
theorem dL_insert_0 : decode cL_insert 0 = .ok (.aload 6, 2) := by decide +kernel
theorem dL_insert_2 : decode cL_insert 2 = .ok (.iconst 0, 1) := by decide +kernel
theorem dL_insert_3 : decode cL_insert 3 = .ok (.aload_n 0, 1) := by decide +kernel
theorem dL_insert_4 : decode cL_insert 4 = .ok (.iload_n 1, 1) := by decide +kernel
theorem dL_insert_5 : decode cL_insert 5 = .ok (.iload_n 2, 1) := by decide +kernel
theorem dL_insert_6 : decode cL_insert 6 = .ok (.iload_n 3, 1) := by decide +kernel
theorem dL_insert_7 : decode cL_insert 7 = .ok (.iload 4, 2) := by decide +kernel
theorem dL_insert_9 : decode cL_insert 9 = .ok (.iload 5, 2) := by decide +kernel
theorem dL_insert_11 : decode cL_insert 11 = .ok (.invokevirtual 7, 3) := by decide +kernel
theorem dL_insert_14 : decode cL_insert 14 = .ok (.i2l, 1) := by decide +kernel
theorem dL_insert_15 : decode cL_insert 15 = .ok (.lastore, 1) := by decide +kernel
theorem dL_insert_16 : decode cL_insert 16 = .ok (.goto 11, 3) := by decide +kernel
theorem dL_insert_19 : decode cL_insert 19 = .ok (.astore 7, 2) := by decide +kernel
theorem dL_insert_21 : decode cL_insert 21 = .ok (.iconst 1, 1) := by decide +kernel
theorem dL_insert_22 : decode cL_insert 22 = .ok (.ireturn, 1) := by decide +kernel
theorem dL_insert_23 : decode cL_insert 23 = .ok (.astore 7, 2) := by decide +kernel
theorem dL_insert_25 : decode cL_insert 25 = .ok (.iconst 2, 1) := by decide +kernel
theorem dL_insert_26 : decode cL_insert 26 = .ok (.ireturn, 1) := by decide +kernel
theorem dL_insert_27 : decode cL_insert 27 = .ok (.iconst 0, 1) := by decide +kernel
theorem dL_insert_28 : decode cL_insert 28 = .ok (.ireturn, 1) := by decide +kernel
theorem dL_delete_0 : decode cL_delete 0 = .ok (.aload_n 0, 1) := by decide +kernel
theorem dL_delete_1 : decode cL_delete 1 = .ok (.iload_n 1, 1) := by decide +kernel
theorem dL_delete_2 : decode cL_delete 2 = .ok (.iload_n 2, 1) := by decide +kernel
theorem dL_delete_3 : decode cL_delete 3 = .ok (.invokevirtual 17, 3) := by decide +kernel
theorem dL_delete_6 : decode cL_delete 6 = .ok (.goto 6, 3) := by decide +kernel
theorem dL_delete_9 : decode cL_delete 9 = .ok (.astore_n 3, 1) := by decide +kernel
theorem dL_delete_10 : decode cL_delete 10 = .ok (.iconst 1, 1) := by decide +kernel
theorem dL_delete_11 : decode cL_delete 11 = .ok (.ireturn, 1) := by decide +kernel
theorem dL_delete_12 : decode cL_delete 12 = .ok (.iconst 0, 1) := by decide +kernel
theorem dL_delete_13 : decode cL_delete 13 = .ok (.ireturn, 1) := by decide +kernel
theorem dL_update_0 : decode cL_update 0 = .ok (.aload_n 0, 1) := by decide +kernel
theorem dL_update_1 : decode cL_update 1 = .ok (.iload_n 1, 1) := by decide +kernel
theorem dL_update_2 : decode cL_update 2 = .ok (.iload_n 2, 1) := by decide +kernel
theorem dL_update_3 : decode cL_update 3 = .ok (.iload_n 3, 1) := by decide +kernel
theorem dL_update_4 : decode cL_update 4 = .ok (.iload 4, 2) := by decide +kernel
theorem dL_update_6 : decode cL_update 6 = .ok (.invokevirtual 21, 3) := by decide +kernel
theorem dL_update_9 : decode cL_update 9 = .ok (.goto 7, 3) := by decide +kernel
theorem dL_update_12 : decode cL_update 12 = .ok (.astore 5, 2) := by decide +kernel
theorem dL_update_14 : decode cL_update 14 = .ok (.iconst 1, 1) := by decide +kernel
theorem dL_update_15 : decode cL_update 15 = .ok (.ireturn, 1) := by decide +kernel
theorem dL_update_16 : decode cL_update 16 = .ok (.iconst 0, 1) := by decide +kernel
theorem dL_update_17 : decode cL_update 17 = .ok (.ireturn, 1) := by decide +kernel
theorem dL_cell_0 : decode cL_cell 0 = .ok (.aload 4, 2) := by decide +kernel
theorem dL_cell_2 : decode cL_cell 2 = .ok (.iconst 0, 1) := by decide +kernel
theorem dL_cell_3 : decode cL_cell 3 = .ok (.aload_n 0, 1) := by decide +kernel
theorem dL_cell_4 : decode cL_cell 4 = .ok (.iload_n 1, 1) := by decide +kernel
theorem dL_cell_5 : decode cL_cell 5 = .ok (.iload_n 2, 1) := by decide +kernel
theorem dL_cell_6 : decode cL_cell 6 = .ok (.iload_n 3, 1) := by decide +kernel
theorem dL_cell_7 : decode cL_cell 7 = .ok (.invokevirtual 25, 3) := by decide +kernel
theorem dL_cell_10 : decode cL_cell 10 = .ok (.i2l, 1) := by decide +kernel
theorem dL_cell_11 : decode cL_cell 11 = .ok (.lastore, 1) := by decide +kernel
theorem dL_cell_12 : decode cL_cell 12 = .ok (.goto 7, 3) := by decide +kernel
theorem dL_cell_15 : decode cL_cell 15 = .ok (.astore 5, 2) := by decide +kernel
theorem dL_cell_17 : decode cL_cell 17 = .ok (.iconst 1, 1) := by decide +kernel
theorem dL_cell_18 : decode cL_cell 18 = .ok (.ireturn, 1) := by decide +kernel
theorem dL_cell_19 : decode cL_cell 19 = .ok (.iconst 0, 1) := by decide +kernel
theorem dL_cell_20 : decode cL_cell 20 = .ok (.ireturn, 1) := by decide +kernel
theorem dL_plan_0 : decode cL_plan 0 = .ok (.aload_n 1, 1) := by decide +kernel
theorem dL_plan_1 : decode cL_plan 1 = .ok (.iconst 0, 1) := by decide +kernel
theorem dL_plan_2 : decode cL_plan 2 = .ok (.aload_n 0, 1) := by decide +kernel
theorem dL_plan_3 : decode cL_plan 3 = .ok (.invokevirtual 29, 3) := by decide +kernel
theorem dL_plan_6 : decode cL_plan 6 = .ok (.f2d, 1) := by decide +kernel
theorem dL_plan_7 : decode cL_plan 7 = .ok (.dastore, 1) := by decide +kernel
theorem dL_plan_8 : decode cL_plan 8 = .ok (.goto 6, 3) := by decide +kernel
theorem dL_plan_11 : decode cL_plan 11 = .ok (.astore_n 2, 1) := by decide +kernel
theorem dL_plan_12 : decode cL_plan 12 = .ok (.iconst 1, 1) := by decide +kernel
theorem dL_plan_13 : decode cL_plan 13 = .ok (.ireturn, 1) := by decide +kernel
theorem dL_plan_14 : decode cL_plan 14 = .ok (.iconst 0, 1) := by decide +kernel
theorem dL_plan_15 : decode cL_plan 15 = .ok (.ireturn, 1) := by decide +kernel
theorem dL_explain_0 : decode cL_explain 0 = .ok (.aload_n 3, 1) := by decide +kernel
theorem dL_explain_1 : decode cL_explain 1 = .ok (.iconst 0, 1) := by decide +kernel
theorem dL_explain_2 : decode cL_explain 2 = .ok (.aload_n 0, 1) := by decide +kernel
theorem dL_explain_3 : decode cL_explain 3 = .ok (.iload_n 1, 1) := by decide +kernel
theorem dL_explain_4 : decode cL_explain 4 = .ok (.iload_n 2, 1) := by decide +kernel
theorem dL_explain_5 : decode cL_explain 5 = .ok (.invokevirtual 33, 3) := by decide +kernel
theorem dL_explain_8 : decode cL_explain 8 = .ok (.i2l, 1) := by decide +kernel
theorem dL_explain_9 : decode cL_explain 9 = .ok (.lastore, 1) := by decide +kernel
theorem dL_explain_10 : decode cL_explain 10 = .ok (.goto 7, 3) := by decide +kernel
theorem dL_explain_13 : decode cL_explain 13 = .ok (.astore 4, 2) := by decide +kernel
theorem dL_explain_15 : decode cL_explain 15 = .ok (.iconst 1, 1) := by decide +kernel
theorem dL_explain_16 : decode cL_explain 16 = .ok (.ireturn, 1) := by decide +kernel
theorem dL_explain_17 : decode cL_explain 17 = .ok (.iconst 0, 1) := by decide +kernel
theorem dL_explain_18 : decode cL_explain 18 = .ok (.ireturn, 1) := by decide +kernel
theorem dL_answer_0 : decode cL_answer 0 = .ok (.aload_n 3, 1) := by decide +kernel
theorem dL_answer_1 : decode cL_answer 1 = .ok (.iconst 0, 1) := by decide +kernel
theorem dL_answer_2 : decode cL_answer 2 = .ok (.aload_n 0, 1) := by decide +kernel
theorem dL_answer_3 : decode cL_answer 3 = .ok (.iload_n 1, 1) := by decide +kernel
theorem dL_answer_4 : decode cL_answer 4 = .ok (.iload_n 2, 1) := by decide +kernel
theorem dL_answer_5 : decode cL_answer 5 = .ok (.invokevirtual 39, 3) := by decide +kernel
theorem dL_answer_8 : decode cL_answer 8 = .ok (.i2l, 1) := by decide +kernel
theorem dL_answer_9 : decode cL_answer 9 = .ok (.lastore, 1) := by decide +kernel
theorem dL_answer_10 : decode cL_answer 10 = .ok (.goto 11, 3) := by decide +kernel
theorem dL_answer_13 : decode cL_answer 13 = .ok (.astore 4, 2) := by decide +kernel
theorem dL_answer_15 : decode cL_answer 15 = .ok (.iconst 1, 1) := by decide +kernel
theorem dL_answer_16 : decode cL_answer 16 = .ok (.ireturn, 1) := by decide +kernel
theorem dL_answer_17 : decode cL_answer 17 = .ok (.astore 4, 2) := by decide +kernel
theorem dL_answer_19 : decode cL_answer 19 = .ok (.iconst 2, 1) := by decide +kernel
theorem dL_answer_20 : decode cL_answer 20 = .ok (.ireturn, 1) := by decide +kernel
theorem dL_answer_21 : decode cL_answer 21 = .ok (.iconst 0, 1) := by decide +kernel
theorem dL_answer_22 : decode cL_answer 22 = .ok (.ireturn, 1) := by decide +kernel
theorem dL_law_0 : decode cL_law 0 = .ok (.new 8, 3) := by decide +kernel
theorem dL_law_3 : decode cL_law 3 = .ok (.dup, 1) := by decide +kernel
theorem dL_law_4 : decode cL_law 4 = .ok (.invokespecial 42, 3) := by decide +kernel
theorem dL_law_7 : decode cL_law 7 = .ok (.astore_n 1, 1) := by decide +kernel
theorem dL_law_8 : decode cL_law 8 = .ok (.new 43, 3) := by decide +kernel
theorem dL_law_11 : decode cL_law 11 = .ok (.dup, 1) := by decide +kernel
theorem dL_law_12 : decode cL_law 12 = .ok (.invokespecial 45, 3) := by decide +kernel
theorem dL_law_15 : decode cL_law 15 = .ok (.astore_n 2, 1) := by decide +kernel
theorem dL_law_16 : decode cL_law 16 = .ok (.iconst 1, 1) := by decide +kernel
theorem dL_law_17 : decode cL_law 17 = .ok (.newarray .long, 2) := by decide +kernel
theorem dL_law_19 : decode cL_law 19 = .ok (.astore_n 3, 1) := by decide +kernel
theorem dL_law_20 : decode cL_law 20 = .ok (.iconst 1, 1) := by decide +kernel
theorem dL_law_21 : decode cL_law 21 = .ok (.newarray .double, 2) := by decide +kernel
theorem dL_law_23 : decode cL_law 23 = .ok (.astore 4, 2) := by decide +kernel
theorem dL_law_25 : decode cL_law 25 = .ok (.iconst 0, 1) := by decide +kernel
theorem dL_law_26 : decode cL_law 26 = .ok (.istore 5, 2) := by decide +kernel
theorem dL_law_28 : decode cL_law 28 = .ok (.iload 5, 2) := by decide +kernel
theorem dL_law_30 : decode cL_law 30 = .ok (.aload_n 0, 1) := by decide +kernel
theorem dL_law_31 : decode cL_law 31 = .ok (.arraylength, 1) := by decide +kernel
theorem dL_law_32 : decode cL_law 32 = .ok (.bipush 6, 2) := by decide +kernel
theorem dL_law_34 : decode cL_law 34 = .ok (.isub, 1) := by decide +kernel
theorem dL_law_35 : decode cL_law 35 = .ok (.if_icmp .gt 1071, 3) := by decide +kernel
theorem dL_law_38 : decode cL_law 38 = .ok (.aload_n 0, 1) := by decide +kernel
theorem dL_law_39 : decode cL_law 39 = .ok (.iload 5, 2) := by decide +kernel
theorem dL_law_41 : decode cL_law 41 = .ok (.iaload, 1) := by decide +kernel
theorem dL_law_42 : decode cL_law 42 = .ok (.bipush 31, 2) := by decide +kernel
theorem dL_law_44 : decode cL_law 44 = .ok (.iand, 1) := by decide +kernel
theorem dL_law_45 : decode cL_law 45 = .ok (.tableswitch 1055 0 18 #[91, 128, 232, 280, 352, 432, 481, 530, 541, 566, 627, 688, 725, 778, 803, 869, 937, 962, 987], 91) := by decide +kernel
theorem dL_law_136 : decode cL_law 136 = .ok (.aload_n 1, 1) := by decide +kernel
theorem dL_law_137 : decode cL_law 137 = .ok (.aload_n 0, 1) := by decide +kernel
theorem dL_law_138 : decode cL_law 138 = .ok (.iload 5, 2) := by decide +kernel
theorem dL_law_140 : decode cL_law 140 = .ok (.iconst 1, 1) := by decide +kernel
theorem dL_law_141 : decode cL_law 141 = .ok (.iadd, 1) := by decide +kernel
theorem dL_law_142 : decode cL_law 142 = .ok (.iaload, 1) := by decide +kernel
theorem dL_law_143 : decode cL_law 143 = .ok (.aload_n 0, 1) := by decide +kernel
theorem dL_law_144 : decode cL_law 144 = .ok (.iload 5, 2) := by decide +kernel
theorem dL_law_146 : decode cL_law 146 = .ok (.iconst 2, 1) := by decide +kernel
theorem dL_law_147 : decode cL_law 147 = .ok (.iadd, 1) := by decide +kernel
theorem dL_law_148 : decode cL_law 148 = .ok (.iaload, 1) := by decide +kernel
theorem dL_law_149 : decode cL_law 149 = .ok (.invokevirtual 46, 3) := by decide +kernel
theorem dL_law_152 : decode cL_law 152 = .ok (.aload_n 2, 1) := by decide +kernel
theorem dL_law_153 : decode cL_law 153 = .ok (.aload_n 0, 1) := by decide +kernel
theorem dL_law_154 : decode cL_law 154 = .ok (.iload 5, 2) := by decide +kernel
theorem dL_law_156 : decode cL_law 156 = .ok (.iconst 1, 1) := by decide +kernel
theorem dL_law_157 : decode cL_law 157 = .ok (.iadd, 1) := by decide +kernel
theorem dL_law_158 : decode cL_law 158 = .ok (.iaload, 1) := by decide +kernel
theorem dL_law_159 : decode cL_law 159 = .ok (.aload_n 0, 1) := by decide +kernel
theorem dL_law_160 : decode cL_law 160 = .ok (.iload 5, 2) := by decide +kernel
theorem dL_law_162 : decode cL_law 162 = .ok (.iconst 2, 1) := by decide +kernel
theorem dL_law_163 : decode cL_law 163 = .ok (.iadd, 1) := by decide +kernel
theorem dL_law_164 : decode cL_law 164 = .ok (.iaload, 1) := by decide +kernel
theorem dL_law_165 : decode cL_law 165 = .ok (.invokevirtual 50, 3) := by decide +kernel
theorem dL_law_168 : decode cL_law 168 = .ok (.if_icmp .eq 932, 3) := by decide +kernel
theorem dL_law_171 : decode cL_law 171 = .ok (.iconst 0, 1) := by decide +kernel
theorem dL_law_172 : decode cL_law 172 = .ok (.ireturn, 1) := by decide +kernel
theorem dL_law_173 : decode cL_law 173 = .ok (.aload_n 1, 1) := by decide +kernel
theorem dL_law_174 : decode cL_law 174 = .ok (.aload_n 0, 1) := by decide +kernel
theorem dL_law_175 : decode cL_law 175 = .ok (.iload 5, 2) := by decide +kernel
theorem dL_law_177 : decode cL_law 177 = .ok (.iconst 1, 1) := by decide +kernel
theorem dL_law_178 : decode cL_law 178 = .ok (.iadd, 1) := by decide +kernel
theorem dL_law_179 : decode cL_law 179 = .ok (.iaload, 1) := by decide +kernel
theorem dL_law_180 : decode cL_law 180 = .ok (.aload_n 0, 1) := by decide +kernel
theorem dL_law_181 : decode cL_law 181 = .ok (.iload 5, 2) := by decide +kernel
theorem dL_law_183 : decode cL_law 183 = .ok (.iconst 2, 1) := by decide +kernel
theorem dL_law_184 : decode cL_law 184 = .ok (.iadd, 1) := by decide +kernel
theorem dL_law_185 : decode cL_law 185 = .ok (.iaload, 1) := by decide +kernel
theorem dL_law_186 : decode cL_law 186 = .ok (.aload_n 0, 1) := by decide +kernel
theorem dL_law_187 : decode cL_law 187 = .ok (.iload 5, 2) := by decide +kernel
theorem dL_law_189 : decode cL_law 189 = .ok (.iconst 3, 1) := by decide +kernel
theorem dL_law_190 : decode cL_law 190 = .ok (.iadd, 1) := by decide +kernel
theorem dL_law_191 : decode cL_law 191 = .ok (.iaload, 1) := by decide +kernel
theorem dL_law_192 : decode cL_law 192 = .ok (.aload_n 0, 1) := by decide +kernel
theorem dL_law_193 : decode cL_law 193 = .ok (.iload 5, 2) := by decide +kernel
theorem dL_law_195 : decode cL_law 195 = .ok (.iconst 4, 1) := by decide +kernel
theorem dL_law_196 : decode cL_law 196 = .ok (.iadd, 1) := by decide +kernel
theorem dL_law_197 : decode cL_law 197 = .ok (.iaload, 1) := by decide +kernel
theorem dL_law_198 : decode cL_law 198 = .ok (.aload_n 0, 1) := by decide +kernel
theorem dL_law_199 : decode cL_law 199 = .ok (.iload 5, 2) := by decide +kernel
theorem dL_law_201 : decode cL_law 201 = .ok (.iconst 5, 1) := by decide +kernel
theorem dL_law_202 : decode cL_law 202 = .ok (.iadd, 1) := by decide +kernel
theorem dL_law_203 : decode cL_law 203 = .ok (.iaload, 1) := by decide +kernel
theorem dL_law_204 : decode cL_law 204 = .ok (.aload_n 3, 1) := by decide +kernel
theorem dL_law_205 : decode cL_law 205 = .ok (.invokestatic 51, 3) := by decide +kernel
theorem dL_law_208 : decode cL_law 208 = .ok (.istore 6, 2) := by decide +kernel
theorem dL_law_210 : decode cL_law 210 = .ok (.aload_n 2, 1) := by decide +kernel
theorem dL_law_211 : decode cL_law 211 = .ok (.aload_n 0, 1) := by decide +kernel
theorem dL_law_212 : decode cL_law 212 = .ok (.iload 5, 2) := by decide +kernel
theorem dL_law_214 : decode cL_law 214 = .ok (.iconst 1, 1) := by decide +kernel
theorem dL_law_215 : decode cL_law 215 = .ok (.iadd, 1) := by decide +kernel
theorem dL_law_216 : decode cL_law 216 = .ok (.iaload, 1) := by decide +kernel
theorem dL_law_217 : decode cL_law 217 = .ok (.aload_n 0, 1) := by decide +kernel
theorem dL_law_218 : decode cL_law 218 = .ok (.iload 5, 2) := by decide +kernel
theorem dL_law_220 : decode cL_law 220 = .ok (.iconst 2, 1) := by decide +kernel
theorem dL_law_221 : decode cL_law 221 = .ok (.iadd, 1) := by decide +kernel
theorem dL_law_222 : decode cL_law 222 = .ok (.iaload, 1) := by decide +kernel
theorem dL_law_223 : decode cL_law 223 = .ok (.aload_n 0, 1) := by decide +kernel
theorem dL_law_224 : decode cL_law 224 = .ok (.iload 5, 2) := by decide +kernel
theorem dL_law_226 : decode cL_law 226 = .ok (.iconst 3, 1) := by decide +kernel
theorem dL_law_227 : decode cL_law 227 = .ok (.iadd, 1) := by decide +kernel
theorem dL_law_228 : decode cL_law 228 = .ok (.iaload, 1) := by decide +kernel
theorem dL_law_229 : decode cL_law 229 = .ok (.aload_n 0, 1) := by decide +kernel
theorem dL_law_230 : decode cL_law 230 = .ok (.iload 5, 2) := by decide +kernel
theorem dL_law_232 : decode cL_law 232 = .ok (.iconst 4, 1) := by decide +kernel
theorem dL_law_233 : decode cL_law 233 = .ok (.iadd, 1) := by decide +kernel
theorem dL_law_234 : decode cL_law 234 = .ok (.iaload, 1) := by decide +kernel
theorem dL_law_235 : decode cL_law 235 = .ok (.aload_n 0, 1) := by decide +kernel
theorem dL_law_236 : decode cL_law 236 = .ok (.iload 5, 2) := by decide +kernel
theorem dL_law_238 : decode cL_law 238 = .ok (.iconst 5, 1) := by decide +kernel
theorem dL_law_239 : decode cL_law 239 = .ok (.iadd, 1) := by decide +kernel
theorem dL_law_240 : decode cL_law 240 = .ok (.iaload, 1) := by decide +kernel
theorem dL_law_241 : decode cL_law 241 = .ok (.invokevirtual 56, 3) := by decide +kernel
theorem dL_law_244 : decode cL_law 244 = .ok (.istore 7, 2) := by decide +kernel
theorem dL_law_246 : decode cL_law 246 = .ok (.aload_n 2, 1) := by decide +kernel
theorem dL_law_247 : decode cL_law 247 = .ok (.invokevirtual 57, 3) := by decide +kernel
theorem dL_law_250 : decode cL_law 250 = .ok (.iload 6, 2) := by decide +kernel
theorem dL_law_252 : decode cL_law 252 = .ok (.if_icmp .eq 5, 3) := by decide +kernel
theorem dL_law_255 : decode cL_law 255 = .ok (.iconst 0, 1) := by decide +kernel
theorem dL_law_256 : decode cL_law 256 = .ok (.ireturn, 1) := by decide +kernel
theorem dL_law_257 : decode cL_law 257 = .ok (.iload 6, 2) := by decide +kernel
theorem dL_law_259 : decode cL_law 259 = .ok (.ifCond .ne 15, 3) := by decide +kernel
theorem dL_law_262 : decode cL_law 262 = .ok (.aload_n 3, 1) := by decide +kernel
theorem dL_law_263 : decode cL_law 263 = .ok (.iconst 0, 1) := by decide +kernel
theorem dL_law_264 : decode cL_law 264 = .ok (.laload, 1) := by decide +kernel
theorem dL_law_265 : decode cL_law 265 = .ok (.iload 7, 2) := by decide +kernel
theorem dL_law_267 : decode cL_law 267 = .ok (.i2l, 1) := by decide +kernel
theorem dL_law_268 : decode cL_law 268 = .ok (.lcmp, 1) := by decide +kernel
theorem dL_law_269 : decode cL_law 269 = .ok (.ifCond .eq 5, 3) := by decide +kernel
theorem dL_law_272 : decode cL_law 272 = .ok (.iconst 0, 1) := by decide +kernel
theorem dL_law_273 : decode cL_law 273 = .ok (.ireturn, 1) := by decide +kernel
theorem dL_law_274 : decode cL_law 274 = .ok (.goto 826, 3) := by decide +kernel
theorem dL_law_277 : decode cL_law 277 = .ok (.aload_n 1, 1) := by decide +kernel
theorem dL_law_278 : decode cL_law 278 = .ok (.aload_n 0, 1) := by decide +kernel
theorem dL_law_279 : decode cL_law 279 = .ok (.iload 5, 2) := by decide +kernel
theorem dL_law_281 : decode cL_law 281 = .ok (.iconst 1, 1) := by decide +kernel
theorem dL_law_282 : decode cL_law 282 = .ok (.iadd, 1) := by decide +kernel
theorem dL_law_283 : decode cL_law 283 = .ok (.iaload, 1) := by decide +kernel
theorem dL_law_284 : decode cL_law 284 = .ok (.aload_n 0, 1) := by decide +kernel
theorem dL_law_285 : decode cL_law 285 = .ok (.iload 5, 2) := by decide +kernel
theorem dL_law_287 : decode cL_law 287 = .ok (.iconst 2, 1) := by decide +kernel
theorem dL_law_288 : decode cL_law 288 = .ok (.iadd, 1) := by decide +kernel
theorem dL_law_289 : decode cL_law 289 = .ok (.iaload, 1) := by decide +kernel
theorem dL_law_290 : decode cL_law 290 = .ok (.invokestatic 61, 3) := by decide +kernel
theorem dL_law_293 : decode cL_law 293 = .ok (.istore 6, 2) := by decide +kernel
theorem dL_law_295 : decode cL_law 295 = .ok (.aload_n 2, 1) := by decide +kernel
theorem dL_law_296 : decode cL_law 296 = .ok (.aload_n 0, 1) := by decide +kernel
theorem dL_law_297 : decode cL_law 297 = .ok (.iload 5, 2) := by decide +kernel
theorem dL_law_299 : decode cL_law 299 = .ok (.iconst 1, 1) := by decide +kernel
theorem dL_law_300 : decode cL_law 300 = .ok (.iadd, 1) := by decide +kernel
theorem dL_law_301 : decode cL_law 301 = .ok (.iaload, 1) := by decide +kernel
theorem dL_law_302 : decode cL_law 302 = .ok (.aload_n 0, 1) := by decide +kernel
theorem dL_law_303 : decode cL_law 303 = .ok (.iload 5, 2) := by decide +kernel
theorem dL_law_305 : decode cL_law 305 = .ok (.iconst 2, 1) := by decide +kernel
theorem dL_law_306 : decode cL_law 306 = .ok (.iadd, 1) := by decide +kernel
theorem dL_law_307 : decode cL_law 307 = .ok (.iaload, 1) := by decide +kernel
theorem dL_law_308 : decode cL_law 308 = .ok (.invokevirtual 64, 3) := by decide +kernel
theorem dL_law_311 : decode cL_law 311 = .ok (.aload_n 2, 1) := by decide +kernel
theorem dL_law_312 : decode cL_law 312 = .ok (.invokevirtual 57, 3) := by decide +kernel
theorem dL_law_315 : decode cL_law 315 = .ok (.iload 6, 2) := by decide +kernel
theorem dL_law_317 : decode cL_law 317 = .ok (.if_icmp .eq 5, 3) := by decide +kernel
theorem dL_law_320 : decode cL_law 320 = .ok (.iconst 0, 1) := by decide +kernel
theorem dL_law_321 : decode cL_law 321 = .ok (.ireturn, 1) := by decide +kernel
theorem dL_law_322 : decode cL_law 322 = .ok (.goto 778, 3) := by decide +kernel
theorem dL_law_325 : decode cL_law 325 = .ok (.aload_n 1, 1) := by decide +kernel
theorem dL_law_326 : decode cL_law 326 = .ok (.aload_n 0, 1) := by decide +kernel
theorem dL_law_327 : decode cL_law 327 = .ok (.iload 5, 2) := by decide +kernel
theorem dL_law_329 : decode cL_law 329 = .ok (.iconst 1, 1) := by decide +kernel
theorem dL_law_330 : decode cL_law 330 = .ok (.iadd, 1) := by decide +kernel
theorem dL_law_331 : decode cL_law 331 = .ok (.iaload, 1) := by decide +kernel
theorem dL_law_332 : decode cL_law 332 = .ok (.aload_n 0, 1) := by decide +kernel
theorem dL_law_333 : decode cL_law 333 = .ok (.iload 5, 2) := by decide +kernel
theorem dL_law_335 : decode cL_law 335 = .ok (.iconst 2, 1) := by decide +kernel
theorem dL_law_336 : decode cL_law 336 = .ok (.iadd, 1) := by decide +kernel
theorem dL_law_337 : decode cL_law 337 = .ok (.iaload, 1) := by decide +kernel
theorem dL_law_338 : decode cL_law 338 = .ok (.aload_n 0, 1) := by decide +kernel
theorem dL_law_339 : decode cL_law 339 = .ok (.iload 5, 2) := by decide +kernel
theorem dL_law_341 : decode cL_law 341 = .ok (.iconst 3, 1) := by decide +kernel
theorem dL_law_342 : decode cL_law 342 = .ok (.iadd, 1) := by decide +kernel
theorem dL_law_343 : decode cL_law 343 = .ok (.iaload, 1) := by decide +kernel
theorem dL_law_344 : decode cL_law 344 = .ok (.aload_n 0, 1) := by decide +kernel
theorem dL_law_345 : decode cL_law 345 = .ok (.iload 5, 2) := by decide +kernel
theorem dL_law_347 : decode cL_law 347 = .ok (.iconst 4, 1) := by decide +kernel
theorem dL_law_348 : decode cL_law 348 = .ok (.iadd, 1) := by decide +kernel
theorem dL_law_349 : decode cL_law 349 = .ok (.iaload, 1) := by decide +kernel
theorem dL_law_350 : decode cL_law 350 = .ok (.invokestatic 65, 3) := by decide +kernel
theorem dL_law_353 : decode cL_law 353 = .ok (.istore 6, 2) := by decide +kernel
theorem dL_law_355 : decode cL_law 355 = .ok (.aload_n 2, 1) := by decide +kernel
theorem dL_law_356 : decode cL_law 356 = .ok (.aload_n 0, 1) := by decide +kernel
theorem dL_law_357 : decode cL_law 357 = .ok (.iload 5, 2) := by decide +kernel
theorem dL_law_359 : decode cL_law 359 = .ok (.iconst 1, 1) := by decide +kernel
theorem dL_law_360 : decode cL_law 360 = .ok (.iadd, 1) := by decide +kernel
theorem dL_law_361 : decode cL_law 361 = .ok (.iaload, 1) := by decide +kernel
theorem dL_law_362 : decode cL_law 362 = .ok (.aload_n 0, 1) := by decide +kernel
theorem dL_law_363 : decode cL_law 363 = .ok (.iload 5, 2) := by decide +kernel
theorem dL_law_365 : decode cL_law 365 = .ok (.iconst 2, 1) := by decide +kernel
theorem dL_law_366 : decode cL_law 366 = .ok (.iadd, 1) := by decide +kernel
theorem dL_law_367 : decode cL_law 367 = .ok (.iaload, 1) := by decide +kernel
theorem dL_law_368 : decode cL_law 368 = .ok (.aload_n 0, 1) := by decide +kernel
theorem dL_law_369 : decode cL_law 369 = .ok (.iload 5, 2) := by decide +kernel
theorem dL_law_371 : decode cL_law 371 = .ok (.iconst 3, 1) := by decide +kernel
theorem dL_law_372 : decode cL_law 372 = .ok (.iadd, 1) := by decide +kernel
theorem dL_law_373 : decode cL_law 373 = .ok (.iaload, 1) := by decide +kernel
theorem dL_law_374 : decode cL_law 374 = .ok (.aload_n 0, 1) := by decide +kernel
theorem dL_law_375 : decode cL_law 375 = .ok (.iload 5, 2) := by decide +kernel
theorem dL_law_377 : decode cL_law 377 = .ok (.iconst 4, 1) := by decide +kernel
theorem dL_law_378 : decode cL_law 378 = .ok (.iadd, 1) := by decide +kernel
theorem dL_law_379 : decode cL_law 379 = .ok (.iaload, 1) := by decide +kernel
theorem dL_law_380 : decode cL_law 380 = .ok (.invokevirtual 68, 3) := by decide +kernel
theorem dL_law_383 : decode cL_law 383 = .ok (.aload_n 2, 1) := by decide +kernel
theorem dL_law_384 : decode cL_law 384 = .ok (.invokevirtual 57, 3) := by decide +kernel
theorem dL_law_387 : decode cL_law 387 = .ok (.iload 6, 2) := by decide +kernel
theorem dL_law_389 : decode cL_law 389 = .ok (.if_icmp .eq 5, 3) := by decide +kernel
theorem dL_law_392 : decode cL_law 392 = .ok (.iconst 0, 1) := by decide +kernel
theorem dL_law_393 : decode cL_law 393 = .ok (.ireturn, 1) := by decide +kernel
theorem dL_law_394 : decode cL_law 394 = .ok (.goto 706, 3) := by decide +kernel
theorem dL_law_397 : decode cL_law 397 = .ok (.aload_n 1, 1) := by decide +kernel
theorem dL_law_398 : decode cL_law 398 = .ok (.aload_n 0, 1) := by decide +kernel
theorem dL_law_399 : decode cL_law 399 = .ok (.iload 5, 2) := by decide +kernel
theorem dL_law_401 : decode cL_law 401 = .ok (.iconst 1, 1) := by decide +kernel
theorem dL_law_402 : decode cL_law 402 = .ok (.iadd, 1) := by decide +kernel
theorem dL_law_403 : decode cL_law 403 = .ok (.iaload, 1) := by decide +kernel
theorem dL_law_404 : decode cL_law 404 = .ok (.aload_n 0, 1) := by decide +kernel
theorem dL_law_405 : decode cL_law 405 = .ok (.iload 5, 2) := by decide +kernel
theorem dL_law_407 : decode cL_law 407 = .ok (.iconst 2, 1) := by decide +kernel
theorem dL_law_408 : decode cL_law 408 = .ok (.iadd, 1) := by decide +kernel
theorem dL_law_409 : decode cL_law 409 = .ok (.iaload, 1) := by decide +kernel
theorem dL_law_410 : decode cL_law 410 = .ok (.aload_n 0, 1) := by decide +kernel
theorem dL_law_411 : decode cL_law 411 = .ok (.iload 5, 2) := by decide +kernel
theorem dL_law_413 : decode cL_law 413 = .ok (.iconst 3, 1) := by decide +kernel
theorem dL_law_414 : decode cL_law 414 = .ok (.iadd, 1) := by decide +kernel
theorem dL_law_415 : decode cL_law 415 = .ok (.iaload, 1) := by decide +kernel
theorem dL_law_416 : decode cL_law 416 = .ok (.aload_n 3, 1) := by decide +kernel
theorem dL_law_417 : decode cL_law 417 = .ok (.invokestatic 69, 3) := by decide +kernel
theorem dL_law_420 : decode cL_law 420 = .ok (.istore 6, 2) := by decide +kernel
theorem dL_law_422 : decode cL_law 422 = .ok (.aload_n 2, 1) := by decide +kernel
theorem dL_law_423 : decode cL_law 423 = .ok (.aload_n 0, 1) := by decide +kernel
theorem dL_law_424 : decode cL_law 424 = .ok (.iload 5, 2) := by decide +kernel
theorem dL_law_426 : decode cL_law 426 = .ok (.iconst 1, 1) := by decide +kernel
theorem dL_law_427 : decode cL_law 427 = .ok (.iadd, 1) := by decide +kernel
theorem dL_law_428 : decode cL_law 428 = .ok (.iaload, 1) := by decide +kernel
theorem dL_law_429 : decode cL_law 429 = .ok (.aload_n 0, 1) := by decide +kernel
theorem dL_law_430 : decode cL_law 430 = .ok (.iload 5, 2) := by decide +kernel
theorem dL_law_432 : decode cL_law 432 = .ok (.iconst 2, 1) := by decide +kernel
theorem dL_law_433 : decode cL_law 433 = .ok (.iadd, 1) := by decide +kernel
theorem dL_law_434 : decode cL_law 434 = .ok (.iaload, 1) := by decide +kernel
theorem dL_law_435 : decode cL_law 435 = .ok (.aload_n 0, 1) := by decide +kernel
theorem dL_law_436 : decode cL_law 436 = .ok (.iload 5, 2) := by decide +kernel
theorem dL_law_438 : decode cL_law 438 = .ok (.iconst 3, 1) := by decide +kernel
theorem dL_law_439 : decode cL_law 439 = .ok (.iadd, 1) := by decide +kernel
theorem dL_law_440 : decode cL_law 440 = .ok (.iaload, 1) := by decide +kernel
theorem dL_law_441 : decode cL_law 441 = .ok (.invokevirtual 72, 3) := by decide +kernel
theorem dL_law_444 : decode cL_law 444 = .ok (.istore 7, 2) := by decide +kernel
theorem dL_law_446 : decode cL_law 446 = .ok (.aload_n 2, 1) := by decide +kernel
theorem dL_law_447 : decode cL_law 447 = .ok (.invokevirtual 57, 3) := by decide +kernel
theorem dL_law_450 : decode cL_law 450 = .ok (.iload 6, 2) := by decide +kernel
theorem dL_law_452 : decode cL_law 452 = .ok (.if_icmp .eq 5, 3) := by decide +kernel
theorem dL_law_455 : decode cL_law 455 = .ok (.iconst 0, 1) := by decide +kernel
theorem dL_law_456 : decode cL_law 456 = .ok (.ireturn, 1) := by decide +kernel
theorem dL_law_457 : decode cL_law 457 = .ok (.iload 6, 2) := by decide +kernel
theorem dL_law_459 : decode cL_law 459 = .ok (.ifCond .ne 15, 3) := by decide +kernel
theorem dL_law_462 : decode cL_law 462 = .ok (.aload_n 3, 1) := by decide +kernel
theorem dL_law_463 : decode cL_law 463 = .ok (.iconst 0, 1) := by decide +kernel
theorem dL_law_464 : decode cL_law 464 = .ok (.laload, 1) := by decide +kernel
theorem dL_law_465 : decode cL_law 465 = .ok (.iload 7, 2) := by decide +kernel
theorem dL_law_467 : decode cL_law 467 = .ok (.i2l, 1) := by decide +kernel
theorem dL_law_468 : decode cL_law 468 = .ok (.lcmp, 1) := by decide +kernel
theorem dL_law_469 : decode cL_law 469 = .ok (.ifCond .eq 5, 3) := by decide +kernel
theorem dL_law_472 : decode cL_law 472 = .ok (.iconst 0, 1) := by decide +kernel
theorem dL_law_473 : decode cL_law 473 = .ok (.ireturn, 1) := by decide +kernel
theorem dL_law_474 : decode cL_law 474 = .ok (.goto 626, 3) := by decide +kernel
theorem dL_law_477 : decode cL_law 477 = .ok (.aload_n 1, 1) := by decide +kernel
theorem dL_law_478 : decode cL_law 478 = .ok (.aload_n 0, 1) := by decide +kernel
theorem dL_law_479 : decode cL_law 479 = .ok (.iload 5, 2) := by decide +kernel
theorem dL_law_481 : decode cL_law 481 = .ok (.iconst 1, 1) := by decide +kernel
theorem dL_law_482 : decode cL_law 482 = .ok (.iadd, 1) := by decide +kernel
theorem dL_law_483 : decode cL_law 483 = .ok (.iaload, 1) := by decide +kernel
theorem dL_law_484 : decode cL_law 484 = .ok (.aload_n 0, 1) := by decide +kernel
theorem dL_law_485 : decode cL_law 485 = .ok (.iload 5, 2) := by decide +kernel
theorem dL_law_487 : decode cL_law 487 = .ok (.iconst 2, 1) := by decide +kernel
theorem dL_law_488 : decode cL_law 488 = .ok (.iadd, 1) := by decide +kernel
theorem dL_law_489 : decode cL_law 489 = .ok (.iaload, 1) := by decide +kernel
theorem dL_law_490 : decode cL_law 490 = .ok (.aload_n 0, 1) := by decide +kernel
theorem dL_law_491 : decode cL_law 491 = .ok (.iload 5, 2) := by decide +kernel
theorem dL_law_493 : decode cL_law 493 = .ok (.iconst 3, 1) := by decide +kernel
theorem dL_law_494 : decode cL_law 494 = .ok (.iadd, 1) := by decide +kernel
theorem dL_law_495 : decode cL_law 495 = .ok (.iaload, 1) := by decide +kernel
theorem dL_law_496 : decode cL_law 496 = .ok (.invokevirtual 73, 3) := by decide +kernel
theorem dL_law_499 : decode cL_law 499 = .ok (.aload_n 2, 1) := by decide +kernel
theorem dL_law_500 : decode cL_law 500 = .ok (.aload_n 0, 1) := by decide +kernel
theorem dL_law_501 : decode cL_law 501 = .ok (.iload 5, 2) := by decide +kernel
theorem dL_law_503 : decode cL_law 503 = .ok (.iconst 1, 1) := by decide +kernel
theorem dL_law_504 : decode cL_law 504 = .ok (.iadd, 1) := by decide +kernel
theorem dL_law_505 : decode cL_law 505 = .ok (.iaload, 1) := by decide +kernel
theorem dL_law_506 : decode cL_law 506 = .ok (.aload_n 0, 1) := by decide +kernel
theorem dL_law_507 : decode cL_law 507 = .ok (.iload 5, 2) := by decide +kernel
theorem dL_law_509 : decode cL_law 509 = .ok (.iconst 2, 1) := by decide +kernel
theorem dL_law_510 : decode cL_law 510 = .ok (.iadd, 1) := by decide +kernel
theorem dL_law_511 : decode cL_law 511 = .ok (.iaload, 1) := by decide +kernel
theorem dL_law_512 : decode cL_law 512 = .ok (.aload_n 0, 1) := by decide +kernel
theorem dL_law_513 : decode cL_law 513 = .ok (.iload 5, 2) := by decide +kernel
theorem dL_law_515 : decode cL_law 515 = .ok (.iconst 3, 1) := by decide +kernel
theorem dL_law_516 : decode cL_law 516 = .ok (.iadd, 1) := by decide +kernel
theorem dL_law_517 : decode cL_law 517 = .ok (.iaload, 1) := by decide +kernel
theorem dL_law_518 : decode cL_law 518 = .ok (.invokevirtual 77, 3) := by decide +kernel
theorem dL_law_521 : decode cL_law 521 = .ok (.if_icmp .eq 579, 3) := by decide +kernel
theorem dL_law_524 : decode cL_law 524 = .ok (.iconst 0, 1) := by decide +kernel
theorem dL_law_525 : decode cL_law 525 = .ok (.ireturn, 1) := by decide +kernel
theorem dL_law_526 : decode cL_law 526 = .ok (.aload_n 1, 1) := by decide +kernel
theorem dL_law_527 : decode cL_law 527 = .ok (.aload_n 0, 1) := by decide +kernel
theorem dL_law_528 : decode cL_law 528 = .ok (.iload 5, 2) := by decide +kernel
theorem dL_law_530 : decode cL_law 530 = .ok (.iconst 1, 1) := by decide +kernel
theorem dL_law_531 : decode cL_law 531 = .ok (.iadd, 1) := by decide +kernel
theorem dL_law_532 : decode cL_law 532 = .ok (.iaload, 1) := by decide +kernel
theorem dL_law_533 : decode cL_law 533 = .ok (.aload_n 0, 1) := by decide +kernel
theorem dL_law_534 : decode cL_law 534 = .ok (.iload 5, 2) := by decide +kernel
theorem dL_law_536 : decode cL_law 536 = .ok (.iconst 2, 1) := by decide +kernel
theorem dL_law_537 : decode cL_law 537 = .ok (.iadd, 1) := by decide +kernel
theorem dL_law_538 : decode cL_law 538 = .ok (.iaload, 1) := by decide +kernel
theorem dL_law_539 : decode cL_law 539 = .ok (.aload_n 0, 1) := by decide +kernel
theorem dL_law_540 : decode cL_law 540 = .ok (.iload 5, 2) := by decide +kernel
theorem dL_law_542 : decode cL_law 542 = .ok (.iconst 3, 1) := by decide +kernel
theorem dL_law_543 : decode cL_law 543 = .ok (.iadd, 1) := by decide +kernel
theorem dL_law_544 : decode cL_law 544 = .ok (.iaload, 1) := by decide +kernel
theorem dL_law_545 : decode cL_law 545 = .ok (.invokevirtual 78, 3) := by decide +kernel
theorem dL_law_548 : decode cL_law 548 = .ok (.aload_n 2, 1) := by decide +kernel
theorem dL_law_549 : decode cL_law 549 = .ok (.aload_n 0, 1) := by decide +kernel
theorem dL_law_550 : decode cL_law 550 = .ok (.iload 5, 2) := by decide +kernel
theorem dL_law_552 : decode cL_law 552 = .ok (.iconst 1, 1) := by decide +kernel
theorem dL_law_553 : decode cL_law 553 = .ok (.iadd, 1) := by decide +kernel
theorem dL_law_554 : decode cL_law 554 = .ok (.iaload, 1) := by decide +kernel
theorem dL_law_555 : decode cL_law 555 = .ok (.aload_n 0, 1) := by decide +kernel
theorem dL_law_556 : decode cL_law 556 = .ok (.iload 5, 2) := by decide +kernel
theorem dL_law_558 : decode cL_law 558 = .ok (.iconst 2, 1) := by decide +kernel
theorem dL_law_559 : decode cL_law 559 = .ok (.iadd, 1) := by decide +kernel
theorem dL_law_560 : decode cL_law 560 = .ok (.iaload, 1) := by decide +kernel
theorem dL_law_561 : decode cL_law 561 = .ok (.aload_n 0, 1) := by decide +kernel
theorem dL_law_562 : decode cL_law 562 = .ok (.iload 5, 2) := by decide +kernel
theorem dL_law_564 : decode cL_law 564 = .ok (.iconst 3, 1) := by decide +kernel
theorem dL_law_565 : decode cL_law 565 = .ok (.iadd, 1) := by decide +kernel
theorem dL_law_566 : decode cL_law 566 = .ok (.iaload, 1) := by decide +kernel
theorem dL_law_567 : decode cL_law 567 = .ok (.invokevirtual 81, 3) := by decide +kernel
theorem dL_law_570 : decode cL_law 570 = .ok (.if_icmp .eq 530, 3) := by decide +kernel
theorem dL_law_573 : decode cL_law 573 = .ok (.iconst 0, 1) := by decide +kernel
theorem dL_law_574 : decode cL_law 574 = .ok (.ireturn, 1) := by decide +kernel
theorem dL_law_575 : decode cL_law 575 = .ok (.aload_n 1, 1) := by decide +kernel
theorem dL_law_576 : decode cL_law 576 = .ok (.invokevirtual 82, 3) := by decide +kernel
theorem dL_law_579 : decode cL_law 579 = .ok (.aload_n 2, 1) := by decide +kernel
theorem dL_law_580 : decode cL_law 580 = .ok (.invokevirtual 85, 3) := by decide +kernel
theorem dL_law_583 : decode cL_law 583 = .ok (.goto 517, 3) := by decide +kernel
theorem dL_law_586 : decode cL_law 586 = .ok (.aload_n 1, 1) := by decide +kernel
theorem dL_law_587 : decode cL_law 587 = .ok (.aload_n 0, 1) := by decide +kernel
theorem dL_law_588 : decode cL_law 588 = .ok (.iload 5, 2) := by decide +kernel
theorem dL_law_590 : decode cL_law 590 = .ok (.iconst 1, 1) := by decide +kernel
theorem dL_law_591 : decode cL_law 591 = .ok (.iadd, 1) := by decide +kernel
theorem dL_law_592 : decode cL_law 592 = .ok (.iaload, 1) := by decide +kernel
theorem dL_law_593 : decode cL_law 593 = .ok (.invokevirtual 86, 3) := by decide +kernel
theorem dL_law_596 : decode cL_law 596 = .ok (.aload_n 2, 1) := by decide +kernel
theorem dL_law_597 : decode cL_law 597 = .ok (.aload_n 0, 1) := by decide +kernel
theorem dL_law_598 : decode cL_law 598 = .ok (.iload 5, 2) := by decide +kernel
theorem dL_law_600 : decode cL_law 600 = .ok (.iconst 1, 1) := by decide +kernel
theorem dL_law_601 : decode cL_law 601 = .ok (.iadd, 1) := by decide +kernel
theorem dL_law_602 : decode cL_law 602 = .ok (.iaload, 1) := by decide +kernel
theorem dL_law_603 : decode cL_law 603 = .ok (.invokevirtual 90, 3) := by decide +kernel
theorem dL_law_606 : decode cL_law 606 = .ok (.if_icmp .eq 494, 3) := by decide +kernel
theorem dL_law_609 : decode cL_law 609 = .ok (.iconst 0, 1) := by decide +kernel
theorem dL_law_610 : decode cL_law 610 = .ok (.ireturn, 1) := by decide +kernel
theorem dL_law_611 : decode cL_law 611 = .ok (.aload_n 1, 1) := by decide +kernel
theorem dL_law_612 : decode cL_law 612 = .ok (.aload_n 0, 1) := by decide +kernel
theorem dL_law_613 : decode cL_law 613 = .ok (.iload 5, 2) := by decide +kernel
theorem dL_law_615 : decode cL_law 615 = .ok (.iconst 1, 1) := by decide +kernel
theorem dL_law_616 : decode cL_law 616 = .ok (.iadd, 1) := by decide +kernel
theorem dL_law_617 : decode cL_law 617 = .ok (.iaload, 1) := by decide +kernel
theorem dL_law_618 : decode cL_law 618 = .ok (.aload_n 0, 1) := by decide +kernel
theorem dL_law_619 : decode cL_law 619 = .ok (.iload 5, 2) := by decide +kernel
theorem dL_law_621 : decode cL_law 621 = .ok (.iconst 2, 1) := by decide +kernel
theorem dL_law_622 : decode cL_law 622 = .ok (.iadd, 1) := by decide +kernel
theorem dL_law_623 : decode cL_law 623 = .ok (.iaload, 1) := by decide +kernel
theorem dL_law_624 : decode cL_law 624 = .ok (.aload_n 0, 1) := by decide +kernel
theorem dL_law_625 : decode cL_law 625 = .ok (.iload 5, 2) := by decide +kernel
theorem dL_law_627 : decode cL_law 627 = .ok (.iconst 3, 1) := by decide +kernel
theorem dL_law_628 : decode cL_law 628 = .ok (.iadd, 1) := by decide +kernel
theorem dL_law_629 : decode cL_law 629 = .ok (.iaload, 1) := by decide +kernel
theorem dL_law_630 : decode cL_law 630 = .ok (.aload_n 0, 1) := by decide +kernel
theorem dL_law_631 : decode cL_law 631 = .ok (.iload 5, 2) := by decide +kernel
theorem dL_law_633 : decode cL_law 633 = .ok (.iconst 4, 1) := by decide +kernel
theorem dL_law_634 : decode cL_law 634 = .ok (.iadd, 1) := by decide +kernel
theorem dL_law_635 : decode cL_law 635 = .ok (.iaload, 1) := by decide +kernel
theorem dL_law_636 : decode cL_law 636 = .ok (.invokevirtual 91, 3) := by decide +kernel
theorem dL_law_639 : decode cL_law 639 = .ok (.aload_n 2, 1) := by decide +kernel
theorem dL_law_640 : decode cL_law 640 = .ok (.aload_n 0, 1) := by decide +kernel
theorem dL_law_641 : decode cL_law 641 = .ok (.iload 5, 2) := by decide +kernel
theorem dL_law_643 : decode cL_law 643 = .ok (.iconst 1, 1) := by decide +kernel
theorem dL_law_644 : decode cL_law 644 = .ok (.iadd, 1) := by decide +kernel
theorem dL_law_645 : decode cL_law 645 = .ok (.iaload, 1) := by decide +kernel
theorem dL_law_646 : decode cL_law 646 = .ok (.aload_n 0, 1) := by decide +kernel
theorem dL_law_647 : decode cL_law 647 = .ok (.iload 5, 2) := by decide +kernel
theorem dL_law_649 : decode cL_law 649 = .ok (.iconst 2, 1) := by decide +kernel
theorem dL_law_650 : decode cL_law 650 = .ok (.iadd, 1) := by decide +kernel
theorem dL_law_651 : decode cL_law 651 = .ok (.iaload, 1) := by decide +kernel
theorem dL_law_652 : decode cL_law 652 = .ok (.aload_n 0, 1) := by decide +kernel
theorem dL_law_653 : decode cL_law 653 = .ok (.iload 5, 2) := by decide +kernel
theorem dL_law_655 : decode cL_law 655 = .ok (.iconst 3, 1) := by decide +kernel
theorem dL_law_656 : decode cL_law 656 = .ok (.iadd, 1) := by decide +kernel
theorem dL_law_657 : decode cL_law 657 = .ok (.iaload, 1) := by decide +kernel
theorem dL_law_658 : decode cL_law 658 = .ok (.aload_n 0, 1) := by decide +kernel
theorem dL_law_659 : decode cL_law 659 = .ok (.iload 5, 2) := by decide +kernel
theorem dL_law_661 : decode cL_law 661 = .ok (.iconst 4, 1) := by decide +kernel
theorem dL_law_662 : decode cL_law 662 = .ok (.iadd, 1) := by decide +kernel
theorem dL_law_663 : decode cL_law 663 = .ok (.iaload, 1) := by decide +kernel
theorem dL_law_664 : decode cL_law 664 = .ok (.invokevirtual 95, 3) := by decide +kernel
theorem dL_law_667 : decode cL_law 667 = .ok (.if_icmp .eq 433, 3) := by decide +kernel
theorem dL_law_670 : decode cL_law 670 = .ok (.iconst 0, 1) := by decide +kernel
theorem dL_law_671 : decode cL_law 671 = .ok (.ireturn, 1) := by decide +kernel
theorem dL_law_672 : decode cL_law 672 = .ok (.aload_n 1, 1) := by decide +kernel
theorem dL_law_673 : decode cL_law 673 = .ok (.aload_n 0, 1) := by decide +kernel
theorem dL_law_674 : decode cL_law 674 = .ok (.iload 5, 2) := by decide +kernel
theorem dL_law_676 : decode cL_law 676 = .ok (.iconst 1, 1) := by decide +kernel
theorem dL_law_677 : decode cL_law 677 = .ok (.iadd, 1) := by decide +kernel
theorem dL_law_678 : decode cL_law 678 = .ok (.iaload, 1) := by decide +kernel
theorem dL_law_679 : decode cL_law 679 = .ok (.aload_n 0, 1) := by decide +kernel
theorem dL_law_680 : decode cL_law 680 = .ok (.iload 5, 2) := by decide +kernel
theorem dL_law_682 : decode cL_law 682 = .ok (.iconst 2, 1) := by decide +kernel
theorem dL_law_683 : decode cL_law 683 = .ok (.iadd, 1) := by decide +kernel
theorem dL_law_684 : decode cL_law 684 = .ok (.iaload, 1) := by decide +kernel
theorem dL_law_685 : decode cL_law 685 = .ok (.aload_n 0, 1) := by decide +kernel
theorem dL_law_686 : decode cL_law 686 = .ok (.iload 5, 2) := by decide +kernel
theorem dL_law_688 : decode cL_law 688 = .ok (.iconst 3, 1) := by decide +kernel
theorem dL_law_689 : decode cL_law 689 = .ok (.iadd, 1) := by decide +kernel
theorem dL_law_690 : decode cL_law 690 = .ok (.iaload, 1) := by decide +kernel
theorem dL_law_691 : decode cL_law 691 = .ok (.aload_n 0, 1) := by decide +kernel
theorem dL_law_692 : decode cL_law 692 = .ok (.iload 5, 2) := by decide +kernel
theorem dL_law_694 : decode cL_law 694 = .ok (.iconst 4, 1) := by decide +kernel
theorem dL_law_695 : decode cL_law 695 = .ok (.iadd, 1) := by decide +kernel
theorem dL_law_696 : decode cL_law 696 = .ok (.iaload, 1) := by decide +kernel
theorem dL_law_697 : decode cL_law 697 = .ok (.invokevirtual 96, 3) := by decide +kernel
theorem dL_law_700 : decode cL_law 700 = .ok (.aload_n 2, 1) := by decide +kernel
theorem dL_law_701 : decode cL_law 701 = .ok (.aload_n 0, 1) := by decide +kernel
theorem dL_law_702 : decode cL_law 702 = .ok (.iload 5, 2) := by decide +kernel
theorem dL_law_704 : decode cL_law 704 = .ok (.iconst 1, 1) := by decide +kernel
theorem dL_law_705 : decode cL_law 705 = .ok (.iadd, 1) := by decide +kernel
theorem dL_law_706 : decode cL_law 706 = .ok (.iaload, 1) := by decide +kernel
theorem dL_law_707 : decode cL_law 707 = .ok (.aload_n 0, 1) := by decide +kernel
theorem dL_law_708 : decode cL_law 708 = .ok (.iload 5, 2) := by decide +kernel
theorem dL_law_710 : decode cL_law 710 = .ok (.iconst 2, 1) := by decide +kernel
theorem dL_law_711 : decode cL_law 711 = .ok (.iadd, 1) := by decide +kernel
theorem dL_law_712 : decode cL_law 712 = .ok (.iaload, 1) := by decide +kernel
theorem dL_law_713 : decode cL_law 713 = .ok (.aload_n 0, 1) := by decide +kernel
theorem dL_law_714 : decode cL_law 714 = .ok (.iload 5, 2) := by decide +kernel
theorem dL_law_716 : decode cL_law 716 = .ok (.iconst 3, 1) := by decide +kernel
theorem dL_law_717 : decode cL_law 717 = .ok (.iadd, 1) := by decide +kernel
theorem dL_law_718 : decode cL_law 718 = .ok (.iaload, 1) := by decide +kernel
theorem dL_law_719 : decode cL_law 719 = .ok (.aload_n 0, 1) := by decide +kernel
theorem dL_law_720 : decode cL_law 720 = .ok (.iload 5, 2) := by decide +kernel
theorem dL_law_722 : decode cL_law 722 = .ok (.iconst 4, 1) := by decide +kernel
theorem dL_law_723 : decode cL_law 723 = .ok (.iadd, 1) := by decide +kernel
theorem dL_law_724 : decode cL_law 724 = .ok (.iaload, 1) := by decide +kernel
theorem dL_law_725 : decode cL_law 725 = .ok (.invokevirtual 99, 3) := by decide +kernel
theorem dL_law_728 : decode cL_law 728 = .ok (.if_icmp .eq 372, 3) := by decide +kernel
theorem dL_law_731 : decode cL_law 731 = .ok (.iconst 0, 1) := by decide +kernel
theorem dL_law_732 : decode cL_law 732 = .ok (.ireturn, 1) := by decide +kernel
theorem dL_law_733 : decode cL_law 733 = .ok (.aload_n 1, 1) := by decide +kernel
theorem dL_law_734 : decode cL_law 734 = .ok (.aload_n 0, 1) := by decide +kernel
theorem dL_law_735 : decode cL_law 735 = .ok (.iload 5, 2) := by decide +kernel
theorem dL_law_737 : decode cL_law 737 = .ok (.iconst 1, 1) := by decide +kernel
theorem dL_law_738 : decode cL_law 738 = .ok (.iadd, 1) := by decide +kernel
theorem dL_law_739 : decode cL_law 739 = .ok (.iaload, 1) := by decide +kernel
theorem dL_law_740 : decode cL_law 740 = .ok (.aload_n 0, 1) := by decide +kernel
theorem dL_law_741 : decode cL_law 741 = .ok (.iload 5, 2) := by decide +kernel
theorem dL_law_743 : decode cL_law 743 = .ok (.iconst 2, 1) := by decide +kernel
theorem dL_law_744 : decode cL_law 744 = .ok (.iadd, 1) := by decide +kernel
theorem dL_law_745 : decode cL_law 745 = .ok (.iaload, 1) := by decide +kernel
theorem dL_law_746 : decode cL_law 746 = .ok (.invokevirtual 100, 3) := by decide +kernel
theorem dL_law_749 : decode cL_law 749 = .ok (.aload_n 2, 1) := by decide +kernel
theorem dL_law_750 : decode cL_law 750 = .ok (.aload_n 0, 1) := by decide +kernel
theorem dL_law_751 : decode cL_law 751 = .ok (.iload 5, 2) := by decide +kernel
theorem dL_law_753 : decode cL_law 753 = .ok (.iconst 1, 1) := by decide +kernel
theorem dL_law_754 : decode cL_law 754 = .ok (.iadd, 1) := by decide +kernel
theorem dL_law_755 : decode cL_law 755 = .ok (.iaload, 1) := by decide +kernel
theorem dL_law_756 : decode cL_law 756 = .ok (.aload_n 0, 1) := by decide +kernel
theorem dL_law_757 : decode cL_law 757 = .ok (.iload 5, 2) := by decide +kernel
theorem dL_law_759 : decode cL_law 759 = .ok (.iconst 2, 1) := by decide +kernel
theorem dL_law_760 : decode cL_law 760 = .ok (.iadd, 1) := by decide +kernel
theorem dL_law_761 : decode cL_law 761 = .ok (.iaload, 1) := by decide +kernel
theorem dL_law_762 : decode cL_law 762 = .ok (.invokevirtual 103, 3) := by decide +kernel
theorem dL_law_765 : decode cL_law 765 = .ok (.if_icmp .eq 335, 3) := by decide +kernel
theorem dL_law_768 : decode cL_law 768 = .ok (.iconst 0, 1) := by decide +kernel
theorem dL_law_769 : decode cL_law 769 = .ok (.ireturn, 1) := by decide +kernel
theorem dL_law_770 : decode cL_law 770 = .ok (.aload_n 1, 1) := by decide +kernel
theorem dL_law_771 : decode cL_law 771 = .ok (.aload_n 0, 1) := by decide +kernel
theorem dL_law_772 : decode cL_law 772 = .ok (.iload 5, 2) := by decide +kernel
theorem dL_law_774 : decode cL_law 774 = .ok (.iconst 1, 1) := by decide +kernel
theorem dL_law_775 : decode cL_law 775 = .ok (.iadd, 1) := by decide +kernel
theorem dL_law_776 : decode cL_law 776 = .ok (.iaload, 1) := by decide +kernel
theorem dL_law_777 : decode cL_law 777 = .ok (.aload_n 0, 1) := by decide +kernel
theorem dL_law_778 : decode cL_law 778 = .ok (.iload 5, 2) := by decide +kernel
theorem dL_law_780 : decode cL_law 780 = .ok (.iconst 2, 1) := by decide +kernel
theorem dL_law_781 : decode cL_law 781 = .ok (.iadd, 1) := by decide +kernel
theorem dL_law_782 : decode cL_law 782 = .ok (.iaload, 1) := by decide +kernel
theorem dL_law_783 : decode cL_law 783 = .ok (.ifCond .eq 7, 3) := by decide +kernel
theorem dL_law_786 : decode cL_law 786 = .ok (.iconst 1, 1) := by decide +kernel
theorem dL_law_787 : decode cL_law 787 = .ok (.goto 4, 3) := by decide +kernel
theorem dL_law_790 : decode cL_law 790 = .ok (.iconst 0, 1) := by decide +kernel
theorem dL_law_791 : decode cL_law 791 = .ok (.invokevirtual 104, 3) := by decide +kernel
theorem dL_law_794 : decode cL_law 794 = .ok (.aload_n 2, 1) := by decide +kernel
theorem dL_law_795 : decode cL_law 795 = .ok (.aload_n 0, 1) := by decide +kernel
theorem dL_law_796 : decode cL_law 796 = .ok (.iload 5, 2) := by decide +kernel
theorem dL_law_798 : decode cL_law 798 = .ok (.iconst 1, 1) := by decide +kernel
theorem dL_law_799 : decode cL_law 799 = .ok (.iadd, 1) := by decide +kernel
theorem dL_law_800 : decode cL_law 800 = .ok (.iaload, 1) := by decide +kernel
theorem dL_law_801 : decode cL_law 801 = .ok (.aload_n 0, 1) := by decide +kernel
theorem dL_law_802 : decode cL_law 802 = .ok (.iload 5, 2) := by decide +kernel
theorem dL_law_804 : decode cL_law 804 = .ok (.iconst 2, 1) := by decide +kernel
theorem dL_law_805 : decode cL_law 805 = .ok (.iadd, 1) := by decide +kernel
theorem dL_law_806 : decode cL_law 806 = .ok (.iaload, 1) := by decide +kernel
theorem dL_law_807 : decode cL_law 807 = .ok (.ifCond .eq 7, 3) := by decide +kernel
theorem dL_law_810 : decode cL_law 810 = .ok (.iconst 1, 1) := by decide +kernel
theorem dL_law_811 : decode cL_law 811 = .ok (.goto 4, 3) := by decide +kernel
theorem dL_law_814 : decode cL_law 814 = .ok (.iconst 0, 1) := by decide +kernel
theorem dL_law_815 : decode cL_law 815 = .ok (.invokevirtual 108, 3) := by decide +kernel
theorem dL_law_818 : decode cL_law 818 = .ok (.if_icmp .eq 282, 3) := by decide +kernel
theorem dL_law_821 : decode cL_law 821 = .ok (.iconst 0, 1) := by decide +kernel
theorem dL_law_822 : decode cL_law 822 = .ok (.ireturn, 1) := by decide +kernel
theorem dL_law_823 : decode cL_law 823 = .ok (.aload_n 1, 1) := by decide +kernel
theorem dL_law_824 : decode cL_law 824 = .ok (.aload_n 0, 1) := by decide +kernel
theorem dL_law_825 : decode cL_law 825 = .ok (.iload 5, 2) := by decide +kernel
theorem dL_law_827 : decode cL_law 827 = .ok (.iconst 1, 1) := by decide +kernel
theorem dL_law_828 : decode cL_law 828 = .ok (.iadd, 1) := by decide +kernel
theorem dL_law_829 : decode cL_law 829 = .ok (.iaload, 1) := by decide +kernel
theorem dL_law_830 : decode cL_law 830 = .ok (.invokevirtual 109, 3) := by decide +kernel
theorem dL_law_833 : decode cL_law 833 = .ok (.aload_n 2, 1) := by decide +kernel
theorem dL_law_834 : decode cL_law 834 = .ok (.aload_n 0, 1) := by decide +kernel
theorem dL_law_835 : decode cL_law 835 = .ok (.iload 5, 2) := by decide +kernel
theorem dL_law_837 : decode cL_law 837 = .ok (.iconst 1, 1) := by decide +kernel
theorem dL_law_838 : decode cL_law 838 = .ok (.iadd, 1) := by decide +kernel
theorem dL_law_839 : decode cL_law 839 = .ok (.iaload, 1) := by decide +kernel
theorem dL_law_840 : decode cL_law 840 = .ok (.invokevirtual 113, 3) := by decide +kernel
theorem dL_law_843 : decode cL_law 843 = .ok (.if_icmp .eq 257, 3) := by decide +kernel
theorem dL_law_846 : decode cL_law 846 = .ok (.iconst 0, 1) := by decide +kernel
theorem dL_law_847 : decode cL_law 847 = .ok (.ireturn, 1) := by decide +kernel
theorem dL_law_848 : decode cL_law 848 = .ok (.aload_n 1, 1) := by decide +kernel
theorem dL_law_849 : decode cL_law 849 = .ok (.aload 4, 2) := by decide +kernel
theorem dL_law_851 : decode cL_law 851 = .ok (.invokestatic 114, 3) := by decide +kernel
theorem dL_law_854 : decode cL_law 854 = .ok (.istore 6, 2) := by decide +kernel
theorem dL_law_856 : decode cL_law 856 = .ok (.aload_n 2, 1) := by decide +kernel
theorem dL_law_857 : decode cL_law 857 = .ok (.invokevirtual 117, 3) := by decide +kernel
theorem dL_law_860 : decode cL_law 860 = .ok (.fstore 7, 2) := by decide +kernel
theorem dL_law_862 : decode cL_law 862 = .ok (.aload_n 2, 1) := by decide +kernel
theorem dL_law_863 : decode cL_law 863 = .ok (.invokevirtual 57, 3) := by decide +kernel
theorem dL_law_866 : decode cL_law 866 = .ok (.iload 6, 2) := by decide +kernel
theorem dL_law_868 : decode cL_law 868 = .ok (.if_icmp .eq 5, 3) := by decide +kernel
theorem dL_law_871 : decode cL_law 871 = .ok (.iconst 0, 1) := by decide +kernel
theorem dL_law_872 : decode cL_law 872 = .ok (.ireturn, 1) := by decide +kernel
theorem dL_law_873 : decode cL_law 873 = .ok (.iload 6, 2) := by decide +kernel
theorem dL_law_875 : decode cL_law 875 = .ok (.ifCond .ne 36, 3) := by decide +kernel
theorem dL_law_878 : decode cL_law 878 = .ok (.aload 4, 2) := by decide +kernel
theorem dL_law_880 : decode cL_law 880 = .ok (.iconst 0, 1) := by decide +kernel
theorem dL_law_881 : decode cL_law 881 = .ok (.daload, 1) := by decide +kernel
theorem dL_law_882 : decode cL_law 882 = .ok (.fload 7, 2) := by decide +kernel
theorem dL_law_884 : decode cL_law 884 = .ok (.f2d, 1) := by decide +kernel
theorem dL_law_885 : decode cL_law 885 = .ok (.dcmp .l, 1) := by decide +kernel
theorem dL_law_886 : decode cL_law 886 = .ok (.ifCond .eq 25, 3) := by decide +kernel
theorem dL_law_889 : decode cL_law 889 = .ok (.aload 4, 2) := by decide +kernel
theorem dL_law_891 : decode cL_law 891 = .ok (.iconst 0, 1) := by decide +kernel
theorem dL_law_892 : decode cL_law 892 = .ok (.daload, 1) := by decide +kernel
theorem dL_law_893 : decode cL_law 893 = .ok (.aload 4, 2) := by decide +kernel
theorem dL_law_895 : decode cL_law 895 = .ok (.iconst 0, 1) := by decide +kernel
theorem dL_law_896 : decode cL_law 896 = .ok (.daload, 1) := by decide +kernel
theorem dL_law_897 : decode cL_law 897 = .ok (.dcmp .l, 1) := by decide +kernel
theorem dL_law_898 : decode cL_law 898 = .ok (.ifCond .eq 11, 3) := by decide +kernel
theorem dL_law_901 : decode cL_law 901 = .ok (.fload 7, 2) := by decide +kernel
theorem dL_law_903 : decode cL_law 903 = .ok (.fload 7, 2) := by decide +kernel
theorem dL_law_905 : decode cL_law 905 = .ok (.fcmp .l, 1) := by decide +kernel
theorem dL_law_906 : decode cL_law 906 = .ok (.ifCond .ne 5, 3) := by decide +kernel
theorem dL_law_909 : decode cL_law 909 = .ok (.iconst 0, 1) := by decide +kernel
theorem dL_law_910 : decode cL_law 910 = .ok (.ireturn, 1) := by decide +kernel
theorem dL_law_911 : decode cL_law 911 = .ok (.goto 189, 3) := by decide +kernel
theorem dL_law_914 : decode cL_law 914 = .ok (.aload_n 1, 1) := by decide +kernel
theorem dL_law_915 : decode cL_law 915 = .ok (.aload_n 0, 1) := by decide +kernel
theorem dL_law_916 : decode cL_law 916 = .ok (.iload 5, 2) := by decide +kernel
theorem dL_law_918 : decode cL_law 918 = .ok (.iconst 1, 1) := by decide +kernel
theorem dL_law_919 : decode cL_law 919 = .ok (.iadd, 1) := by decide +kernel
theorem dL_law_920 : decode cL_law 920 = .ok (.iaload, 1) := by decide +kernel
theorem dL_law_921 : decode cL_law 921 = .ok (.aload_n 0, 1) := by decide +kernel
theorem dL_law_922 : decode cL_law 922 = .ok (.iload 5, 2) := by decide +kernel
theorem dL_law_924 : decode cL_law 924 = .ok (.iconst 2, 1) := by decide +kernel
theorem dL_law_925 : decode cL_law 925 = .ok (.iadd, 1) := by decide +kernel
theorem dL_law_926 : decode cL_law 926 = .ok (.iaload, 1) := by decide +kernel
theorem dL_law_927 : decode cL_law 927 = .ok (.aload_n 3, 1) := by decide +kernel
theorem dL_law_928 : decode cL_law 928 = .ok (.invokestatic 118, 3) := by decide +kernel
theorem dL_law_931 : decode cL_law 931 = .ok (.istore 6, 2) := by decide +kernel
theorem dL_law_933 : decode cL_law 933 = .ok (.aload_n 2, 1) := by decide +kernel
theorem dL_law_934 : decode cL_law 934 = .ok (.aload_n 0, 1) := by decide +kernel
theorem dL_law_935 : decode cL_law 935 = .ok (.iload 5, 2) := by decide +kernel
theorem dL_law_937 : decode cL_law 937 = .ok (.iconst 1, 1) := by decide +kernel
theorem dL_law_938 : decode cL_law 938 = .ok (.iadd, 1) := by decide +kernel
theorem dL_law_939 : decode cL_law 939 = .ok (.iaload, 1) := by decide +kernel
theorem dL_law_940 : decode cL_law 940 = .ok (.aload_n 0, 1) := by decide +kernel
theorem dL_law_941 : decode cL_law 941 = .ok (.iload 5, 2) := by decide +kernel
theorem dL_law_943 : decode cL_law 943 = .ok (.iconst 2, 1) := by decide +kernel
theorem dL_law_944 : decode cL_law 944 = .ok (.iadd, 1) := by decide +kernel
theorem dL_law_945 : decode cL_law 945 = .ok (.iaload, 1) := by decide +kernel
theorem dL_law_946 : decode cL_law 946 = .ok (.invokevirtual 121, 3) := by decide +kernel
theorem dL_law_949 : decode cL_law 949 = .ok (.istore 7, 2) := by decide +kernel
theorem dL_law_951 : decode cL_law 951 = .ok (.aload_n 2, 1) := by decide +kernel
theorem dL_law_952 : decode cL_law 952 = .ok (.invokevirtual 57, 3) := by decide +kernel
theorem dL_law_955 : decode cL_law 955 = .ok (.iload 6, 2) := by decide +kernel
theorem dL_law_957 : decode cL_law 957 = .ok (.if_icmp .eq 5, 3) := by decide +kernel
theorem dL_law_960 : decode cL_law 960 = .ok (.iconst 0, 1) := by decide +kernel
theorem dL_law_961 : decode cL_law 961 = .ok (.ireturn, 1) := by decide +kernel
theorem dL_law_962 : decode cL_law 962 = .ok (.iload 6, 2) := by decide +kernel
theorem dL_law_964 : decode cL_law 964 = .ok (.ifCond .ne 15, 3) := by decide +kernel
theorem dL_law_967 : decode cL_law 967 = .ok (.aload_n 3, 1) := by decide +kernel
theorem dL_law_968 : decode cL_law 968 = .ok (.iconst 0, 1) := by decide +kernel
theorem dL_law_969 : decode cL_law 969 = .ok (.laload, 1) := by decide +kernel
theorem dL_law_970 : decode cL_law 970 = .ok (.iload 7, 2) := by decide +kernel
theorem dL_law_972 : decode cL_law 972 = .ok (.i2l, 1) := by decide +kernel
theorem dL_law_973 : decode cL_law 973 = .ok (.lcmp, 1) := by decide +kernel
theorem dL_law_974 : decode cL_law 974 = .ok (.ifCond .eq 5, 3) := by decide +kernel
theorem dL_law_977 : decode cL_law 977 = .ok (.iconst 0, 1) := by decide +kernel
theorem dL_law_978 : decode cL_law 978 = .ok (.ireturn, 1) := by decide +kernel
theorem dL_law_979 : decode cL_law 979 = .ok (.goto 121, 3) := by decide +kernel
theorem dL_law_982 : decode cL_law 982 = .ok (.aload_n 1, 1) := by decide +kernel
theorem dL_law_983 : decode cL_law 983 = .ok (.aload_n 0, 1) := by decide +kernel
theorem dL_law_984 : decode cL_law 984 = .ok (.iload 5, 2) := by decide +kernel
theorem dL_law_986 : decode cL_law 986 = .ok (.iconst 1, 1) := by decide +kernel
theorem dL_law_987 : decode cL_law 987 = .ok (.iadd, 1) := by decide +kernel
theorem dL_law_988 : decode cL_law 988 = .ok (.iaload, 1) := by decide +kernel
theorem dL_law_989 : decode cL_law 989 = .ok (.invokevirtual 122, 3) := by decide +kernel
theorem dL_law_992 : decode cL_law 992 = .ok (.aload_n 2, 1) := by decide +kernel
theorem dL_law_993 : decode cL_law 993 = .ok (.aload_n 0, 1) := by decide +kernel
theorem dL_law_994 : decode cL_law 994 = .ok (.iload 5, 2) := by decide +kernel
theorem dL_law_996 : decode cL_law 996 = .ok (.iconst 1, 1) := by decide +kernel
theorem dL_law_997 : decode cL_law 997 = .ok (.iadd, 1) := by decide +kernel
theorem dL_law_998 : decode cL_law 998 = .ok (.iaload, 1) := by decide +kernel
theorem dL_law_999 : decode cL_law 999 = .ok (.invokevirtual 125, 3) := by decide +kernel
theorem dL_law_1002 : decode cL_law 1002 = .ok (.if_icmp .eq 98, 3) := by decide +kernel
theorem dL_law_1005 : decode cL_law 1005 = .ok (.iconst 0, 1) := by decide +kernel
theorem dL_law_1006 : decode cL_law 1006 = .ok (.ireturn, 1) := by decide +kernel
theorem dL_law_1007 : decode cL_law 1007 = .ok (.aload_n 1, 1) := by decide +kernel
theorem dL_law_1008 : decode cL_law 1008 = .ok (.aload_n 0, 1) := by decide +kernel
theorem dL_law_1009 : decode cL_law 1009 = .ok (.iload 5, 2) := by decide +kernel
theorem dL_law_1011 : decode cL_law 1011 = .ok (.iconst 1, 1) := by decide +kernel
theorem dL_law_1012 : decode cL_law 1012 = .ok (.iadd, 1) := by decide +kernel
theorem dL_law_1013 : decode cL_law 1013 = .ok (.iaload, 1) := by decide +kernel
theorem dL_law_1014 : decode cL_law 1014 = .ok (.invokevirtual 126, 3) := by decide +kernel
theorem dL_law_1017 : decode cL_law 1017 = .ok (.aload_n 2, 1) := by decide +kernel
theorem dL_law_1018 : decode cL_law 1018 = .ok (.aload_n 0, 1) := by decide +kernel
theorem dL_law_1019 : decode cL_law 1019 = .ok (.iload 5, 2) := by decide +kernel
theorem dL_law_1021 : decode cL_law 1021 = .ok (.iconst 1, 1) := by decide +kernel
theorem dL_law_1022 : decode cL_law 1022 = .ok (.iadd, 1) := by decide +kernel
theorem dL_law_1023 : decode cL_law 1023 = .ok (.iaload, 1) := by decide +kernel
theorem dL_law_1024 : decode cL_law 1024 = .ok (.invokevirtual 129, 3) := by decide +kernel
theorem dL_law_1027 : decode cL_law 1027 = .ok (.if_icmp .eq 73, 3) := by decide +kernel
theorem dL_law_1030 : decode cL_law 1030 = .ok (.iconst 0, 1) := by decide +kernel
theorem dL_law_1031 : decode cL_law 1031 = .ok (.ireturn, 1) := by decide +kernel
theorem dL_law_1032 : decode cL_law 1032 = .ok (.aload_n 1, 1) := by decide +kernel
theorem dL_law_1033 : decode cL_law 1033 = .ok (.aload_n 0, 1) := by decide +kernel
theorem dL_law_1034 : decode cL_law 1034 = .ok (.iload 5, 2) := by decide +kernel
theorem dL_law_1036 : decode cL_law 1036 = .ok (.iconst 1, 1) := by decide +kernel
theorem dL_law_1037 : decode cL_law 1037 = .ok (.iadd, 1) := by decide +kernel
theorem dL_law_1038 : decode cL_law 1038 = .ok (.iaload, 1) := by decide +kernel
theorem dL_law_1039 : decode cL_law 1039 = .ok (.aload_n 0, 1) := by decide +kernel
theorem dL_law_1040 : decode cL_law 1040 = .ok (.iload 5, 2) := by decide +kernel
theorem dL_law_1042 : decode cL_law 1042 = .ok (.iconst 2, 1) := by decide +kernel
theorem dL_law_1043 : decode cL_law 1043 = .ok (.iadd, 1) := by decide +kernel
theorem dL_law_1044 : decode cL_law 1044 = .ok (.iaload, 1) := by decide +kernel
theorem dL_law_1045 : decode cL_law 1045 = .ok (.aload_n 3, 1) := by decide +kernel
theorem dL_law_1046 : decode cL_law 1046 = .ok (.invokestatic 130, 3) := by decide +kernel
theorem dL_law_1049 : decode cL_law 1049 = .ok (.istore 6, 2) := by decide +kernel
theorem dL_law_1051 : decode cL_law 1051 = .ok (.aload_n 2, 1) := by decide +kernel
theorem dL_law_1052 : decode cL_law 1052 = .ok (.aload_n 0, 1) := by decide +kernel
theorem dL_law_1053 : decode cL_law 1053 = .ok (.iload 5, 2) := by decide +kernel
theorem dL_law_1055 : decode cL_law 1055 = .ok (.iconst 1, 1) := by decide +kernel
theorem dL_law_1056 : decode cL_law 1056 = .ok (.iadd, 1) := by decide +kernel
theorem dL_law_1057 : decode cL_law 1057 = .ok (.iaload, 1) := by decide +kernel
theorem dL_law_1058 : decode cL_law 1058 = .ok (.aload_n 0, 1) := by decide +kernel
theorem dL_law_1059 : decode cL_law 1059 = .ok (.iload 5, 2) := by decide +kernel
theorem dL_law_1061 : decode cL_law 1061 = .ok (.iconst 2, 1) := by decide +kernel
theorem dL_law_1062 : decode cL_law 1062 = .ok (.iadd, 1) := by decide +kernel
theorem dL_law_1063 : decode cL_law 1063 = .ok (.iaload, 1) := by decide +kernel
theorem dL_law_1064 : decode cL_law 1064 = .ok (.invokevirtual 132, 3) := by decide +kernel
theorem dL_law_1067 : decode cL_law 1067 = .ok (.istore 7, 2) := by decide +kernel
theorem dL_law_1069 : decode cL_law 1069 = .ok (.aload_n 2, 1) := by decide +kernel
theorem dL_law_1070 : decode cL_law 1070 = .ok (.invokevirtual 57, 3) := by decide +kernel
theorem dL_law_1073 : decode cL_law 1073 = .ok (.iload 6, 2) := by decide +kernel
theorem dL_law_1075 : decode cL_law 1075 = .ok (.if_icmp .eq 5, 3) := by decide +kernel
theorem dL_law_1078 : decode cL_law 1078 = .ok (.iconst 0, 1) := by decide +kernel
theorem dL_law_1079 : decode cL_law 1079 = .ok (.ireturn, 1) := by decide +kernel
theorem dL_law_1080 : decode cL_law 1080 = .ok (.iload 6, 2) := by decide +kernel
theorem dL_law_1082 : decode cL_law 1082 = .ok (.ifCond .ne 15, 3) := by decide +kernel
theorem dL_law_1085 : decode cL_law 1085 = .ok (.aload_n 3, 1) := by decide +kernel
theorem dL_law_1086 : decode cL_law 1086 = .ok (.iconst 0, 1) := by decide +kernel
theorem dL_law_1087 : decode cL_law 1087 = .ok (.laload, 1) := by decide +kernel
theorem dL_law_1088 : decode cL_law 1088 = .ok (.iload 7, 2) := by decide +kernel
theorem dL_law_1090 : decode cL_law 1090 = .ok (.i2l, 1) := by decide +kernel
theorem dL_law_1091 : decode cL_law 1091 = .ok (.lcmp, 1) := by decide +kernel
theorem dL_law_1092 : decode cL_law 1092 = .ok (.ifCond .eq 5, 3) := by decide +kernel
theorem dL_law_1095 : decode cL_law 1095 = .ok (.iconst 0, 1) := by decide +kernel
theorem dL_law_1096 : decode cL_law 1096 = .ok (.ireturn, 1) := by decide +kernel
theorem dL_law_1097 : decode cL_law 1097 = .ok (.goto 3, 3) := by decide +kernel
theorem dL_law_1100 : decode cL_law 1100 = .ok (.iinc 5 6, 3) := by decide +kernel
theorem dL_law_1103 : decode cL_law 1103 = .ok (.goto (-1075), 3) := by decide +kernel
theorem dL_law_1106 : decode cL_law 1106 = .ok (.iconst 1, 1) := by decide +kernel
theorem dL_law_1107 : decode cL_law 1107 = .ok (.ireturn, 1) := by decide +kernel
end
section
/-! ===== the finished desk: 63 cells, references as the constructors left them ===== -/
def dk_l (l : List Nat) (k : Nat) : Option Nat := (l.map some).getD k none
def dk_RF (sr : Nat → Option Nat) (a k : Nat) : Option Nat := match a with
  | 0 => dk_l [1, 14, 30, 38] k
  | 1 => dk_l [2, 6, 10] k
  | 2 => dk_l [3, 4, 5] k
  | 6 => dk_l [7, 8, 9] k
  | 10 => dk_l [11, 12, 13] k
  | 14 => dk_l [15, 16, 21, 25] k
  | 15 => sr k
  | 16 => dk_l [17, 18, 19, 20] k
  | 21 => dk_l [22, 23, 24] k
  | 25 => dk_l [26, 27, 28, 29] k
  | 30 => dk_l [31, 32, 33, 34, 35, 36, 37] k
  | 38 => dk_l [39, 40, 41, 42, 43, 44] k
  | 45 => ([none, some 46, some 47, some 48, some 49, some 50, none, none, some 51, none, some 52, none, some 53, none, some 54, none, none, none, some 55, some 56, some 57, some 58, none, none, none, some 59, none, none, none, some 60] : List (Option Nat)).getD k none
  | _ => none
/-- a table's cell -/
def dk_T (t : Nat) : Prop := t = 2 ∨ t = 6 ∨ t = 10
theorem dk_T.s0 {t : Nat} (T : dk_T t) : dk_SH t = .inl 5 := by rcases T with rfl | rfl | rfl <;> rfl
theorem dk_T.s1 {t : Nat} (T : dk_T t) : dk_SH (t + 1) = .inr (0, 24) := by rcases T with rfl | rfl | rfl <;> rfl
theorem dk_T.s2 {t : Nat} (T : dk_T t) : dk_SH (t + 2) = .inr (0, 96) := by rcases T with rfl | rfl | rfl <;> rfl
theorem dk_T.s3 {t : Nat} (T : dk_T t) : dk_SH (t + 3) = .inr (1, 8) := by rcases T with rfl | rfl | rfl <;> rfl
theorem dk_T.l0 {t : Nat} (T : dk_T t) : t < 63 := by rcases T with rfl | rfl | rfl <;> decide
theorem dk_T.l1 {t : Nat} (T : dk_T t) : t + 1 < 63 := by rcases T with rfl | rfl | rfl <;> decide
theorem dk_T.l2 {t : Nat} (T : dk_T t) : t + 2 < 63 := by rcases T with rfl | rfl | rfl <;> decide
theorem dk_T.l3 {t : Nat} (T : dk_T t) : t + 3 < 63 := by rcases T with rfl | rfl | rfl <;> decide
theorem dk_T.r0 {t : Nat} (T : dk_T t) (sr : Nat → Option Nat) : dk_RF sr t 0 = some (t + 1) := by rcases T with rfl | rfl | rfl <;> rfl
theorem dk_T.r1 {t : Nat} (T : dk_T t) (sr : Nat → Option Nat) : dk_RF sr t 1 = some (t + 2) := by rcases T with rfl | rfl | rfl <;> rfl
theorem dk_T.r2 {t : Nat} (T : dk_T t) (sr : Nat → Option Nat) : dk_RF sr t 2 = some (t + 3) := by rcases T with rfl | rfl | rfl <;> rfl
/-- a condition's, a join's, an output's cell -/
def dk_Q0 (c : Nat) : Prop := 17 ≤ c ∧ c < 21
def dk_Q1 (c : Nat) : Prop := 22 ≤ c ∧ c < 25
def dk_Q2 (c : Nat) : Prop := 26 ≤ c ∧ c < 30
theorem dk_Q0.s0 {c : Nat} (Q : dk_Q0 c) : dk_SH c = .inl 0 := by obtain ⟨a, b⟩ := Q; rcases (show c = 17 ∨ c = 18 ∨ c = 19 ∨ c = 20 by omega) with rfl | rfl | rfl | rfl <;> rfl
theorem dk_Q1.s0 {c : Nat} (Q : dk_Q1 c) : dk_SH c = .inl 1 := by obtain ⟨a, b⟩ := Q; rcases (show c = 22 ∨ c = 23 ∨ c = 24 by omega) with rfl | rfl | rfl <;> rfl
theorem dk_Q2.s0 {c : Nat} (Q : dk_Q2 c) : dk_SH c = .inl 2 := by obtain ⟨a, b⟩ := Q; rcases (show c = 26 ∨ c = 27 ∨ c = 28 ∨ c = 29 by omega) with rfl | rfl | rfl | rfl <;> rfl
theorem dk_Q0.l0 {c : Nat} (Q : dk_Q0 c) : c < 63 := Nat.lt_trans Q.2 (by decide)
theorem dk_Q1.l0 {c : Nat} (Q : dk_Q1 c) : c < 63 := Nat.lt_trans Q.2 (by decide)
theorem dk_Q2.l0 {c : Nat} (Q : dk_Q2 c) : c < 63 := Nat.lt_trans Q.2 (by decide)
/-- a contract of a method that makes no cell, by its answer and its heap -/
abbrev dk_MF (G : dk_G) (y : MethodName) (cc : ByteArray) (nL : Nat) (ret : Option FieldType) (rf rl : Nat) (as : List Value) (h : dk_H) (r : Option Value) (h1 : dk_H) : Prop :=
  dk_M G y cc nL ret { frames := rf, cells := 0, slots := 0, locals := rl } as 63 h 63 (fun r' h' => r' = r ∧ h' = h1)
theorem nI_at {i : Int32} {j N : Nat} (hj : i = nI j) (hlt : j < N) (hN : N < 2 ^ 31) : vp_in i N ∧ i.toNatClampNeg = j := by
  subst hj
  exact ⟨vp_in_nI hlt hN, nI_clamp (Nat.lt_trans hlt hN)⟩
section EK
variable {X : dk_X} {cc : ByteArray} {own : String} {nL : Nat} {ret : Option FieldType} {rm : Room} {G : dk_G} {pc : Nat} {L : List (Option Value)} {S : List Value} {n : Nat} {kc ks : Nat} {hi : Nat → Nat → Int32} {hf : Nat → Nat → UInt32} {hr : Nat → Nat → Option Nat} {z : (Nat → Nat → Int64) × (Nat → Nat → UInt64)}
theorem ek_getI (C : dk_C X cc own nL ret rm G) {idx ci kf a : Nat} (F : dk_F own idx ci kf) (hs : dk_SH a = .inl ci) (ha : a < n) (hk : (dk_ks ci).getD kf 0 = 0) (d : decode cc pc = .ok (.getfield idx, 3)) (k : dk_W X (pc + 3) L (.int (hi a kf) :: S) n (hi, hf, hr, z) kc ks) : dk_W X pc L (.ref a :: S) n (hi, hf, hr, z) kc ks :=
  dk_getf C F hs ha (.int (hi a kf)) (by rw [hk]; rfl) d k
theorem ek_getF (C : dk_C X cc own nL ret rm G) {idx ci kf a : Nat} (F : dk_F own idx ci kf) (hs : dk_SH a = .inl ci) (ha : a < n) (hk : (dk_ks ci).getD kf 0 = 1) (d : decode cc pc = .ok (.getfield idx, 3)) (k : dk_W X (pc + 3) L (.float (hf a kf) :: S) n (hi, hf, hr, z) kc ks) : dk_W X pc L (.ref a :: S) n (hi, hf, hr, z) kc ks :=
  dk_getf C F hs ha (.float (hf a kf)) (by rw [hk]; rfl) d k
theorem ek_getR (C : dk_C X cc own nL ret rm G) {idx ci kf a : Nat} (F : dk_F own idx ci kf) (hs : dk_SH a = .inl ci) (ha : a < n) (hk : (dk_ks ci).getD kf 0 = 2) (j : Nat) (hv : hr a kf = some j) (d : decode cc pc = .ok (.getfield idx, 3)) (k : dk_W X (pc + 3) L (.ref j :: S) n (hi, hf, hr, z) kc ks) : dk_W X pc L (.ref a :: S) n (hi, hf, hr, z) kc ks :=
  dk_getf C F hs ha (.ref j) (by rw [hk]; show va_rf (hr a kf) = _; rw [hv]; rfl) d k
theorem ek_putI (C : dk_C X cc own nL ret rm G) {idx ci kf a : Nat} (F : dk_F own idx ci kf) (Fw : dk_Fw ci kf .int) (hs : dk_SH a = .inl ci) (ha : a < n) (hk : (dk_ks ci).getD kf 0 = 0) {x : Int32} (d : decode cc pc = .ok (.putfield idx, 3)) (k : dk_W X (pc + 3) L S n (dk_up hi a kf x, hf, hr, z) kc ks) : dk_W X pc L (.int x :: .ref a :: S) n (hi, hf, hr, z) kc ks :=
  dk_putf C F Fw hs ha rfl rfl (dk_sI (hi, hf, hr, z) a kf x) (by rw [hk]; exact dk_upI _ _ _ _) d k
theorem ek_putZ (C : dk_C X cc own nL ret rm G) {idx ci kf a : Nat} (F : dk_F own idx ci kf) (Fw : dk_Fw ci kf .boolean) (hs : dk_SH a = .inl ci) (ha : a < n) (hk : (dk_ks ci).getD kf 0 = 0) {x : Int32} (hx : x = 0 ∨ x = 1) (d : decode cc pc = .ok (.putfield idx, 3)) (k : dk_W X (pc + 3) L S n (dk_up hi a kf x, hf, hr, z) kc ks) : dk_W X pc L (.int x :: .ref a :: S) n (hi, hf, hr, z) kc ks :=
  dk_putf C F Fw hs ha (by rcases hx with rfl | rfl <;> rfl) (by rcases hx with rfl | rfl <;> rfl) (dk_sI (hi, hf, hr, z) a kf x) (by rw [hk]; exact dk_upI _ _ _ _) d k
theorem ek_putF (C : dk_C X cc own nL ret rm G) {idx ci kf a : Nat} (F : dk_F own idx ci kf) (Fw : dk_Fw ci kf .float) (hs : dk_SH a = .inl ci) (ha : a < n) (hk : (dk_ks ci).getD kf 0 = 1) {x : UInt32} (d : decode cc pc = .ok (.putfield idx, 3)) (k : dk_W X (pc + 3) L S n (hi, dk_up hf a kf x, hr, z) kc ks) : dk_W X pc L (.float x :: .ref a :: S) n (hi, hf, hr, z) kc ks :=
  dk_putf C F Fw hs ha rfl rfl (dk_sF (hi, hf, hr, z) a kf x) (by rw [hk]; exact dk_upF _ _ _ _) d k
theorem ek_iald (C : dk_C X cc own nL ret rm G) {a N : Nat} {i : Int32} (hs : dk_SH a = .inr (0, N)) (ha : a < n) (j : Nat) (hj : i = nI j) (hlt : j < N) (hN : N < 2 ^ 31) (d : decode cc pc = .ok (.iaload, 1)) (k : dk_W X (pc + 1) L (.int (hi a j) :: S) n (hi, hf, hr, z) kc ks) : dk_W X pc L (.int i :: .ref a :: S) n (hi, hf, hr, z) kc ks := by
  obtain ⟨h1, h2⟩ := nI_at hj hlt hN
  exact dk_iald C hs ha h1 d (by rw [h2]; exact k)
theorem ek_zald (C : dk_C X cc own nL ret rm G) {a N : Nat} {i : Int32} (hs : dk_SH a = .inr (1, N)) (ha : a < n) (j : Nat) (hj : i = nI j) (hlt : j < N) (hN : N < 2 ^ 31) (d : decode cc pc = .ok (.baload, 1)) (k : dk_W X (pc + 1) L (.int (hi a j) :: S) n (hi, hf, hr, z) kc ks) : dk_W X pc L (.int i :: .ref a :: S) n (hi, hf, hr, z) kc ks := by
  obtain ⟨h1, h2⟩ := nI_at hj hlt hN
  exact dk_zald C hs ha h1 d (by rw [h2]; exact k)
theorem ek_fald (C : dk_C X cc own nL ret rm G) {a N : Nat} {i : Int32} (hs : dk_SH a = .inr (2, N)) (ha : a < n) (j : Nat) (hj : i = nI j) (hlt : j < N) (hN : N < 2 ^ 31) (d : decode cc pc = .ok (.faload, 1)) (k : dk_W X (pc + 1) L (.float (hf a j) :: S) n (hi, hf, hr, z) kc ks) : dk_W X pc L (.int i :: .ref a :: S) n (hi, hf, hr, z) kc ks := by
  obtain ⟨h1, h2⟩ := nI_at hj hlt hN
  exact dk_fald C hs ha h1 d (by rw [h2]; exact k)
theorem ek_aald (C : dk_C X cc own nL ret rm G) {a N t : Nat} {i : Int32} (hs : dk_SH a = .inr (t, N)) (ht : 5 ≤ t ∧ t < 9) (ha : a < n) (j : Nat) (hj : i = nI j) (hlt : j < N) (hN : N < 2 ^ 31) (v : Nat) (hv : hr a j = some v) (d : decode cc pc = .ok (.aaload, 1)) (k : dk_W X (pc + 1) L (.ref v :: S) n (hi, hf, hr, z) kc ks) : dk_W X pc L (.int i :: .ref a :: S) n (hi, hf, hr, z) kc ks := by
  obtain ⟨h1, h2⟩ := nI_at hj hlt hN
  exact dk_aald C hs ht ha h1 (.ref v) (by rw [h2]; show va_rf (hr a j) = _; rw [hv]; rfl) d k
theorem ek_iast (C : dk_C X cc own nL ret rm G) {a N : Nat} {i x : Int32} (hs : dk_SH a = .inr (0, N)) (ha : a < n) (j : Nat) (hj : i = nI j) (hlt : j < N) (hN : N < 2 ^ 31) (d : decode cc pc = .ok (.iastore, 1)) (k : dk_W X (pc + 1) L S n (dk_up hi a j x, hf, hr, z) kc ks) : dk_W X pc L (.int x :: .int i :: .ref a :: S) n (hi, hf, hr, z) kc ks := by
  obtain ⟨h1, h2⟩ := nI_at hj hlt hN
  exact dk_iast C hs ha h1 d (by rw [h2]; exact k)
theorem ek_zast (C : dk_C X cc own nL ret rm G) {a N : Nat} {i x : Int32} (hs : dk_SH a = .inr (1, N)) (ha : a < n) (j : Nat) (hj : i = nI j) (hlt : j < N) (hN : N < 2 ^ 31) (hx : x = 0 ∨ x = 1) (d : decode cc pc = .ok (.bastore, 1)) (k : dk_W X (pc + 1) L S n (dk_up hi a j x, hf, hr, z) kc ks) : dk_W X pc L (.int x :: .int i :: .ref a :: S) n (hi, hf, hr, z) kc ks := by
  obtain ⟨h1, h2⟩ := nI_at hj hlt hN
  exact dk_zast C hs ha h1 (by rcases hx with rfl | rfl <;> rfl) d (by rw [h2]; exact k)
theorem ek_fast (C : dk_C X cc own nL ret rm G) {a N : Nat} {i : Int32} {x : UInt32} (hs : dk_SH a = .inr (2, N)) (ha : a < n) (j : Nat) (hj : i = nI j) (hlt : j < N) (hN : N < 2 ^ 31) (d : decode cc pc = .ok (.fastore, 1)) (k : dk_W X (pc + 1) L S n (hi, dk_up hf a j x, hr, z) kc ks) : dk_W X pc L (.float x :: .int i :: .ref a :: S) n (hi, hf, hr, z) kc ks := by
  obtain ⟨h1, h2⟩ := nI_at hj hlt hN
  exact dk_fast C hs ha h1 d (by rw [h2]; exact k)
theorem ek_callV (C : dk_C X cc own nL ret rm G) {y : MethodName} {cc' : ByteArray} {nL' rf rl : Nat} {ret' : Option FieldType} {a : Nat} {as : List Value} {St : List Value} {idx np ci : Nat} {h h1 : dk_H} {v : Value}
    (K : dk_LV own idx y cc' nL' ret' np ci) (M : dk_MF G y cc' nL' ret' rf rl (.ref a :: as) h (some v) h1) (hs : dk_SH a = .inl ci) (ha : a < 63) (hst : St = as.reverse ++ .ref a :: S) (hnp : as.length = np) (hw : (S.map fun v => v.category).sum ≤ 8)
    (hro : rf + 1 ≤ rm.frames) (hro2 : 8 + (nL' + 11) + rl ≤ rm.locals) (hc : kc ≤ rm.cells) (hc2 : ks ≤ rm.slots) (d : decode cc pc = .ok (.invokevirtual idx, 3))
    (k : dk_W X (pc + 3) L (v :: S) 63 h1 kc ks) : dk_W X pc L St 63 h kc ks :=
  dk_callV C K M hs ha hst hnp hw ⟨hro, hro2⟩ ⟨hc, hc2⟩ d (fun r h' hq => by obtain ⟨rfl, rfl⟩ := hq; exact k)
theorem ek_callVv (C : dk_C X cc own nL ret rm G) {y : MethodName} {cc' : ByteArray} {nL' rf rl : Nat} {ret' : Option FieldType} {a : Nat} {as : List Value} {St : List Value} {idx np ci : Nat} {h h1 : dk_H}
    (K : dk_LV own idx y cc' nL' ret' np ci) (M : dk_MF G y cc' nL' ret' rf rl (.ref a :: as) h none h1) (hs : dk_SH a = .inl ci) (ha : a < 63) (hst : St = as.reverse ++ .ref a :: S) (hnp : as.length = np) (hw : (S.map fun v => v.category).sum ≤ 8)
    (hro : rf + 1 ≤ rm.frames) (hro2 : 8 + (nL' + 11) + rl ≤ rm.locals) (hc : kc ≤ rm.cells) (hc2 : ks ≤ rm.slots) (d : decode cc pc = .ok (.invokevirtual idx, 3))
    (k : dk_W X (pc + 3) L S 63 h1 kc ks) : dk_W X pc L St 63 h kc ks :=
  dk_callV C K M hs ha hst hnp hw ⟨hro, hro2⟩ ⟨hc, hc2⟩ d (fun r h' hq => by obtain ⟨rfl, rfl⟩ := hq; exact k)
theorem ek_callS (C : dk_C X cc own nL ret rm G) {y : MethodName} {cc' : ByteArray} {nL' rf rl : Nat} {ret' : Option FieldType} {as : List Value} {St : List Value} {idx np : Nat} {h h1 : dk_H} {v : Value}
    (K : dk_LS own idx y cc' nL' ret' np) (M : dk_MF G y cc' nL' ret' rf rl as h (some v) h1) (hst : St = as.reverse ++ S) (hnp : as.length = np) (hw : (S.map fun v => v.category).sum ≤ 8)
    (hro : rf + 1 ≤ rm.frames) (hro2 : 8 + (nL' + 11) + rl ≤ rm.locals) (hc : kc ≤ rm.cells) (hc2 : ks ≤ rm.slots) (d : decode cc pc = .ok (.invokestatic idx, 3))
    (k : dk_W X (pc + 3) L (v :: S) 63 h1 kc ks) : dk_W X pc L St 63 h kc ks :=
  dk_callS C K M hst hnp hw ⟨hro, hro2⟩ ⟨hc, hc2⟩ d (fun r h' hq => by obtain ⟨rfl, rfl⟩ := hq; exact k)
end EK

theorem pnX0 : plainName RX0 = true := by decide +kernel
theorem pnX1 : plainName RX1 = true := by decide +kernel
theorem pnX2 : plainName RX2 = true := by decide +kernel
theorem pnX3 : plainName RX3 = true := by decide +kernel
theorem pnX4 : plainName RX4 = true := by decide +kernel
theorem pnX5 : plainName RX5 = true := by decide +kernel
theorem pnX6 : plainName RX6 = true := by decide +kernel
theorem pnX7 : plainName RX7 = true := by decide +kernel
theorem pnX8 : plainName RX8 = true := by decide +kernel
theorem pnL : plainName RL = true := by decide +kernel
end
section
theorem nfw : nativeFrameWords "java/lang/System" "arraycopy" 5 = 7 := by decide +kernel
/-- one array's ints moved within it -/
def dk_cp (hi : Nat → Nat → Int32) (a sp dp k : Nat) : Nat → Nat → Int32 := fun i j => if i = a then va_cpy (hi a) (hi a) sp dp k j else hi i j
/-- the sources with one more -/
def sr_up (sr : Nat → Option Nat) (k : Nat) (v : Option Nat) : Nat → Option Nat := fun j => if j = k then v else sr j
theorem dk_RF_up (sr : Nat → Option Nat) (k : Nat) (v : Option Nat) : dk_up (dk_RF sr) 15 k v = dk_RF (sr_up sr k v) := by
  funext i j
  unfold dk_up
  by_cases e : i = 15
  · subst e
    by_cases e2 : j = k
    · subst e2
      rw [if_pos ⟨rfl, rfl⟩]
      show v = sr_up sr j v j
      simp [sr_up]
    · rw [if_neg (fun q => e2 q.2)]
      show sr j = sr_up sr k v j
      simp [sr_up, e2]
  · rw [if_neg (fun q => e q.1)]
    unfold dk_RF
    split <;> first | rfl | exact absurd rfl e
section EK2
variable {X : dk_X} {cc : ByteArray} {own : String} {nL : Nat} {ret : Option FieldType} {rm : Room} {G : dk_G} {pc : Nat} {L : List (Option Value)} {S : List Value} {n : Nat} {kc ks : Nat} {hi : Nat → Nat → Int32} {hf : Nat → Nat → UInt32} {hr : Nat → Nat → Option Nat} {z : (Nat → Nat → Int64) × (Nat → Nat → UInt64)}
theorem ek_copyi (C : dk_C X cc own nL ret rm G) {idx a N : Nat} {sp dp i : Int32} (h01 : Cond.methodLink own idx arraycopyName ∈ dk_tbl) (hs : dk_SH a = .inr (0, N)) (ha : a < n)
    (s d9 k9 : Nat) (h1 : sp = nI s) (h2 : dp = nI d9) (h3 : i = nI k9) (h4 : s + k9 ≤ N) (h5 : d9 + k9 ≤ N) (hN : N < 2 ^ 31) (hfr : 1 ≤ rm.frames) (hlo : (S.map fun v => v.category).sum + 18 ≤ rm.locals) (d : decode cc pc = .ok (.invokestatic idx, 3))
    (k : dk_W X (pc + 3) L S n (dk_cp hi a s d9 k9, hf, hr, z) kc ks) : dk_W X pc L (.int i :: .int dp :: .ref a :: .int sp :: .ref a :: S) n (hi, hf, hr, z) kc ks := by
  subst h1 h2 h3
  have e1 : (nI s).toNatClampNeg = s := nI_clamp (by omega)
  have e2 : (nI d9).toNatClampNeg = d9 := nI_clamp (by omega)
  have e3 : (nI k9).toNatClampNeg = k9 := nI_clamp (by omega)
  refine dk_copyi C h01 ac2 ac3 ac4 hs ha (nI_pos (by omega)) (nI_pos (by omega)) (nI_pos (by omega)) (by rw [e1, e3]; exact h4) (by rw [e2, e3]; exact h5) hfr (by rw [nfw]; exact hlo) d ?_
  rw [e1, e2, e3]
  exact k
theorem ek_aast (C : dk_C X cc own nL ret rm G) {v : Nat} {i : Int32} {sr : Nat → Option Nat} (j : Nat) (hj : i = nI j) (hlt : j < 3) (T : dk_T v) (d : decode cc pc = .ok (.aastore, 1)) (k : dk_W X (pc + 1) L S 63 (hi, hf, dk_RF (sr_up sr j (some v)), z) kc ks) : dk_W X pc L (.ref v :: .int i :: .ref 15 :: S) 63 (hi, hf, dk_RF sr, z) kc ks := by
  obtain ⟨h1, h2⟩ := nI_at hj hlt (by decide)
  refine dk_aast C (q := (RX5, TX5, 6)) (t := 5) rfl (by decide) (by decide) h1 T.s0 T.l0 rfl rfl d ?_
  rw [h2]
  show dk_W X (pc + 1) L S 63 (hi, hf, dk_up (dk_RF sr) 15 j (some v), z) kc ks
  rw [dk_RF_up]
  exact k
end EK2
end
section
/-! ===== QueryDesk$Table ===== -/
theorem pI {a b : Int32} (h : a = b) : some (Value.int a) = some (Value.int b) := by rw [h]
theorem pF {a b : UInt32} (h : a = b) : some (Value.float a) = some (Value.float b) := by rw [h]
theorem nb {x : Int32} (h : x = 0 ∨ x = 1) : narrow .boolean (.int x) = .int x := by rcases h with rfl | rfl <;> rfl
theorem nI4 (p c : Nat) : nI p * 4 + nI c = nI (p * 4 + c) := by rw [show (4 : Int32) = nI 4 from rfl, pk_mul, nI_add]
theorem nI2 (p c : Nat) : nI p * 2 + nI c = nI (p * 2 + c) := by rw [show (2 : Int32) = nI 2 from rfl, pk_mul, nI_add]
theorem nI4a (p c : Nat) : nI p * 4 + nI c = nI (4 * p + c) := by rw [nI4, Nat.mul_comm]
/-- the heap but for a run of equal ints from 0 on -/
def dk_fill (hi : Nat → Nat → Int32) (a k : Nat) (x : Int32) : Nat → Nat → Int32 := fun i j => if i = a ∧ j < k then x else hi i j
theorem dk_fill_0 (hi : Nat → Nat → Int32) (a : Nat) (x : Int32) : dk_fill hi a 0 x = hi := by
  funext i j; simp [dk_fill]
theorem dk_fill_s (hi : Nat → Nat → Int32) (a k : Nat) (x : Int32) : dk_up (dk_fill hi a k x) a k x = dk_fill hi a (k + 1) x := by
  funext i j
  simp only [dk_up, dk_fill]
  by_cases h1 : i = a
  · by_cases h2 : j = k
    · simp [h1, h2]
    · by_cases h3 : j < k
      · rw [if_neg (fun q => h2 q.2), if_pos ⟨h1, h3⟩, if_pos ⟨h1, by omega⟩]
      · rw [if_neg (fun q => h2 q.2), if_neg (fun q => h3 q.2), if_neg (fun q => by omega)]
  · simp [h1]
/-- the first place from p on, among r, where f holds x; -1 without -/
def tb_from (f : Nat → Int32) (x : Int32) : Nat → Nat → Int32
  | 0, _ => -1
  | r + 1, p => if f p = x then nI p else tb_from f x r (p + 1)
set_option maxHeartbeats 4000000 in
set_option maxRecDepth 100000 in
theorem c_X5_placeOf (G : dk_G) (sr : Nat → Option Nat) (hi : Nat → Nat → Int32) (hf : Nat → Nat → UInt32) (z : (Nat → Nat → Int64) × (Nat → Nat → UInt64)) {t : Nat} (T : dk_T t) (x : Int32) (n : Nat) (hn : hi t 4 = nI n) (hn' : n ≤ 24) :
    dk_MF G yX5_placeOf cX5_placeOf 3 (some .int) 0 0 [.ref t, .int x] (hi, hf, dk_RF sr, z) (some (.int (tb_from (hi (t + 1)) x n 0))) (hi, hf, dk_RF sr, z) := by
  refine dk_met (L := [some (.ref t), some (.int x), none]) pnX5 rfl (Nat.le_of_ble_eq_true rfl) ?_
  intro X C E hNm
  have loop : ∀ r p, p + r = n → tb_from (hi (t + 1)) x r p = tb_from (hi (t + 1)) x n 0 → dk_W X 2 [some (.ref t), some (.int x), some (.int (nI p))] [] 63 (hi, hf, dk_RF sr, z) 0 0 := by
    intro r
    induction r with
    | zero =>
      intro p hp he
      refine dk_iload_n C dX5_placeOf_2 rfl rfl ?_
      refine dk_aload_n C dX5_placeOf_3 rfl rfl ?_
      refine ek_getI C fX5_26 T.s0 T.l0 rfl dX5_placeOf_4 ?_
      refine dk_icmp_ge C 28 dX5_placeOf_7 (by decide) (fun _ => ?_) (fun hz => absurd (by rw [hn]; exact nI_le (by omega) (by omega)) hz)
      refine dk_iconst C (-1) dX5_placeOf_28 rfl ?_
      exact dk_iret C E dX5_placeOf_29 (Nat.zero_le _) (Nat.zero_le _) (⟨pI he, rfl⟩)
    | succ r ih =>
      intro p hp he
      refine dk_iload_n C dX5_placeOf_2 rfl rfl ?_
      refine dk_aload_n C dX5_placeOf_3 rfl rfl ?_
      refine ek_getI C fX5_26 T.s0 T.l0 rfl dX5_placeOf_4 ?_
      refine dk_icmp_ge C 28 dX5_placeOf_7 (by decide) (fun hz => absurd hz (by rw [hn]; exact nI_ge (by omega) (by omega))) (fun _ => ?_)
      refine dk_aload_n C dX5_placeOf_10 rfl rfl ?_
      refine ek_getR C fX5_11 T.s0 T.l0 rfl (t + 1) (T.r0 _) dX5_placeOf_11 ?_
      refine dk_iload_n C dX5_placeOf_14 rfl rfl ?_
      refine ek_iald C T.s1 T.l1 (p) (rfl) (by omega) (by decide) dX5_placeOf_15 ?_
      refine dk_iload_n C dX5_placeOf_16 rfl rfl ?_
      refine dk_icmp_ne C 22 dX5_placeOf_17 (by decide) (fun c1 => ?_) (fun c1 => ?_)
      · refine dk_iinc C (nI (p + 1)) dX5_placeOf_22 rfl (nI_1 p) (by decide) rfl ?_
        refine dk_goto C 2 dX5_placeOf_25 (by decide) ?_
        exact ih (p + 1) (by omega) (by rw [← he, tb_from, if_neg c1])
      · refine dk_iload_n C dX5_placeOf_20 rfl rfl ?_
        exact dk_iret C E dX5_placeOf_21 (Nat.zero_le _) (Nat.zero_le _) (⟨pI (by rw [← he, tb_from, if_pos c1]), rfl⟩)
  refine dk_iconst C (0) dX5_placeOf_0 rfl ?_
  refine dk_istore_n C dX5_placeOf_1 rfl (by decide) rfl ?_
  exact loop n 0 (by omega) rfl
set_option maxHeartbeats 4000000 in
set_option maxRecDepth 100000 in
theorem c_X5_hasColumn (G : dk_G) (sr : Nat → Option Nat) (hi : Nat → Nat → Int32) (hf : Nat → Nat → UInt32) (z : (Nat → Nat → Int64) × (Nat → Nat → UInt64)) {t : Nat} (T : dk_T t) (x : Int32) :
    dk_MF G yX5_hasColumn cX5_hasColumn 2 (some .boolean) 0 0 [.ref t, .int x] (hi, hf, dk_RF sr, z) (some (.int (if 0 ≤ x ∧ x < hi t 3 then 1 else 0))) (hi, hf, dk_RF sr, z) := by
  refine dk_met (L := [some (.ref t), some (.int x)]) pnX5 rfl (Nat.le_of_ble_eq_true rfl) ?_
  intro X C E hNm
  refine dk_iload_n C dX5_hasColumn_0 rfl rfl ?_
  refine dk_if_lt C 16 dX5_hasColumn_1 (by decide) (fun c1 => ?_) (fun c1 => ?_)
  · refine dk_iconst C (0) dX5_hasColumn_16 rfl ?_
    exact dk_zret C E rfl dX5_hasColumn_17 (Nat.zero_le _) (Nat.zero_le _) (⟨pI (by rw [if_neg (fun q => Int32.not_le.mpr c1 q.1)]), rfl⟩)
  · refine dk_iload_n C dX5_hasColumn_4 rfl rfl ?_
    refine dk_aload_n C dX5_hasColumn_5 rfl rfl ?_
    refine ek_getI C fX5_22 T.s0 T.l0 rfl dX5_hasColumn_6 ?_
    refine dk_icmp_ge C 16 dX5_hasColumn_9 (by decide) (fun c2 => ?_) (fun c2 => ?_)
    · refine dk_iconst C (0) dX5_hasColumn_16 rfl ?_
      exact dk_zret C E rfl dX5_hasColumn_17 (Nat.zero_le _) (Nat.zero_le _) (⟨pI (by rw [if_neg (fun q => Int32.not_le.mpr q.2 c2)]), rfl⟩)
    · refine dk_iconst C (1) dX5_hasColumn_12 rfl ?_
      refine dk_goto C 17 dX5_hasColumn_13 (by decide) ?_
      exact dk_zret C E rfl dX5_hasColumn_17 (Nat.zero_le _) (Nat.zero_le _) (⟨pI (by rw [if_pos ⟨Int32.not_lt.mp c1, Int32.not_le.mp c2⟩]), rfl⟩)
set_option maxHeartbeats 4000000 in
set_option maxRecDepth 100000 in
theorem c_X5_isFull (G : dk_G) (sr : Nat → Option Nat) (hi : Nat → Nat → Int32) (hf : Nat → Nat → UInt32) (z : (Nat → Nat → Int64) × (Nat → Nat → UInt64)) {t : Nat} (T : dk_T t) :
    dk_MF G yX5_isFull cX5_isFull 1 (some .boolean) 0 0 [.ref t] (hi, hf, dk_RF sr, z) (some (.int (if 24 ≤ hi t 4 ∨ 60 ≤ hi t 5 then 1 else 0))) (hi, hf, dk_RF sr, z) := by
  refine dk_met (L := [some (.ref t)]) pnX5 rfl (Nat.le_of_ble_eq_true rfl) ?_
  intro X C E hNm
  refine dk_aload_n C dX5_isFull_0 rfl rfl ?_
  refine ek_getI C fX5_26 T.s0 T.l0 rfl dX5_isFull_1 ?_
  refine dk_bipush C (24) dX5_isFull_4 rfl ?_
  refine dk_icmp_ge C 18 dX5_isFull_6 (by decide) (fun c1 => ?_) (fun c1 => ?_)
  · refine dk_iconst C (1) dX5_isFull_18 rfl ?_
    refine dk_goto C 23 dX5_isFull_19 (by decide) ?_
    exact dk_zret C E rfl dX5_isFull_23 (Nat.zero_le _) (Nat.zero_le _) (⟨pI (by rw [if_pos (Or.inl c1)]), rfl⟩)
  · refine dk_aload_n C dX5_isFull_9 rfl rfl ?_
    refine ek_getI C fX5_29 T.s0 T.l0 rfl dX5_isFull_10 ?_
    refine dk_bipush C (60) dX5_isFull_13 rfl ?_
    refine dk_icmp_lt C 22 dX5_isFull_15 (by decide) (fun c2 => ?_) (fun c2 => ?_)
    · refine dk_iconst C (0) dX5_isFull_22 rfl ?_
      exact dk_zret C E rfl dX5_isFull_23 (Nat.zero_le _) (Nat.zero_le _) (⟨pI (by rw [if_neg (fun q => q.elim (fun q => c1 q) (fun q => Int32.not_le.mpr c2 q))]), rfl⟩)
    · refine dk_iconst C (1) dX5_isFull_18 rfl ?_
      refine dk_goto C 23 dX5_isFull_19 (by decide) ?_
      exact dk_zret C E rfl dX5_isFull_23 (Nat.zero_le _) (Nat.zero_le _) (⟨pI (by rw [if_pos (Or.inr (Int32.not_lt.mp c2))]), rfl⟩)
/-- a table made anew -/
def tb_anew (hi : Nat → Nat → Int32) (t : Nat) (x : Int32) : Nat → Nat → Int32 := dk_fill (dk_up (dk_up (dk_up hi t 3 x) t 4 0) t 5 0) (t + 3) 8 0
set_option maxHeartbeats 4000000 in
set_option maxRecDepth 100000 in
theorem c_X5_makeAnew (G : dk_G) (sr : Nat → Option Nat) (hi : Nat → Nat → Int32) (hf : Nat → Nat → UInt32) (z : (Nat → Nat → Int64) × (Nat → Nat → UInt64)) {t : Nat} (T : dk_T t) (x : Int32) :
    dk_MF G yX5_makeAnew cX5_makeAnew 3 none 0 0 [.ref t, .int x] (hi, hf, dk_RF sr, z) (none) (tb_anew hi t x, hf, dk_RF sr, z) := by
  refine dk_met (L := [some (.ref t), some (.int x), none]) pnX5 rfl (Nat.le_of_ble_eq_true rfl) ?_
  intro X C E hNm
  have loop : ∀ r p, p + r = 8 → dk_W X 17 [some (.ref t), some (.int x), some (.int (nI p))] [] 63 (dk_fill (dk_up (dk_up (dk_up hi t 3 x) t 4 0) t 5 0) (t + 3) p 0, hf, dk_RF sr, z) 0 0 := by
    intro r
    induction r with
    | zero =>
      intro p hp
      obtain rfl : p = 8 := by omega
      refine dk_iload_n C dX5_makeAnew_17 rfl rfl ?_
      refine dk_bipush C (8) dX5_makeAnew_18 rfl ?_
      refine dk_icmp_ge C 36 dX5_makeAnew_20 (by decide) (fun _ => ?_) (fun hz => absurd (by decide) hz)
      exact dk_vret C E dX5_makeAnew_36 (Nat.zero_le _) (Nat.zero_le _) (⟨rfl, rfl⟩)
    | succ r ih =>
      intro p hp
      refine dk_iload_n C dX5_makeAnew_17 rfl rfl ?_
      refine dk_bipush C (8) dX5_makeAnew_18 rfl ?_
      refine dk_icmp_ge C 36 dX5_makeAnew_20 (by decide) (fun hz => absurd hz (nI_ge (b := 8) (by omega) (by omega))) (fun _ => ?_)
      refine dk_aload_n C dX5_makeAnew_23 rfl rfl ?_
      refine ek_getR C fX5_18 T.s0 T.l0 rfl (t + 3) (T.r2 _) dX5_makeAnew_24 ?_
      refine dk_iload_n C dX5_makeAnew_27 rfl rfl ?_
      refine dk_iconst C (0) dX5_makeAnew_28 rfl ?_
      refine ek_zast C T.s3 T.l3 (p) (rfl) (by omega) (by decide) (Or.inl rfl) dX5_makeAnew_29 ?_
      refine dk_iinc C (nI (p + 1)) dX5_makeAnew_30 rfl (nI_1 p) (by decide) rfl ?_
      refine dk_goto C 17 dX5_makeAnew_33 (by decide) ?_
      rw [dk_fill_s]
      exact ih (p + 1) (by omega)
  refine dk_aload_n C dX5_makeAnew_0 rfl rfl ?_
  refine dk_iload_n C dX5_makeAnew_1 rfl rfl ?_
  refine ek_putI C fX5_22 fwX5_3 T.s0 T.l0 rfl dX5_makeAnew_2 ?_
  refine dk_aload_n C dX5_makeAnew_5 rfl rfl ?_
  refine dk_iconst C (0) dX5_makeAnew_6 rfl ?_
  refine ek_putI C fX5_26 fwX5_4 T.s0 T.l0 rfl dX5_makeAnew_7 ?_
  refine dk_aload_n C dX5_makeAnew_10 rfl rfl ?_
  refine dk_iconst C (0) dX5_makeAnew_11 rfl ?_
  refine ek_putI C fX5_29 fwX5_5 T.s0 T.l0 rfl dX5_makeAnew_12 ?_
  refine dk_iconst C (0) dX5_makeAnew_15 rfl ?_
  refine dk_istore_n C dX5_makeAnew_16 rfl (by decide) rfl ?_
  rw [← dk_fill_0 (dk_up (dk_up (dk_up hi t 3 x) t 4 0) t 5 0) (t + 3) 0]
  exact loop 8 0 rfl
set_option maxHeartbeats 4000000 in
set_option maxRecDepth 100000 in
theorem c_X5_value (G : dk_G) (sr : Nat → Option Nat) (hi : Nat → Nat → Int32) (hf : Nat → Nat → UInt32) (z : (Nat → Nat → Int64) × (Nat → Nat → UInt64)) {t : Nat} (T : dk_T t) (p c : Nat) (hp : p < 24) (hc : c < 4) :
    dk_MF G yX5_value cX5_value 3 (some .int) 0 0 [.ref t, .int (nI p), .int (nI c)] (hi, hf, dk_RF sr, z) (some (.int (hi (t + 2) (p * 4 + c)))) (hi, hf, dk_RF sr, z) := by
  refine dk_met (L := [some (.ref t), some (.int (nI p)), some (.int (nI c))]) pnX5 rfl (Nat.le_of_ble_eq_true rfl) ?_
  intro X C E hNm
  refine dk_aload_n C dX5_value_0 rfl rfl ?_
  refine ek_getR C fX5_15 T.s0 T.l0 rfl (t + 2) (T.r1 _) dX5_value_1 ?_
  refine dk_iload_n C dX5_value_4 rfl rfl ?_
  refine dk_iconst C (4) dX5_value_5 rfl ?_
  refine dk_imul C dX5_value_6 ?_
  refine dk_iload_n C dX5_value_7 rfl rfl ?_
  refine dk_iadd C dX5_value_8 ?_
  refine ek_iald C T.s2 T.l2 (p * 4 + c) (nI4 p c) (by omega) (by decide) dX5_value_9 ?_
  exact dk_iret C E dX5_value_10 (Nat.zero_le _) (Nat.zero_le _) (⟨rfl, rfl⟩)
set_option maxHeartbeats 4000000 in
set_option maxRecDepth 100000 in
theorem c_X5_put (G : dk_G) (sr : Nat → Option Nat) (hi : Nat → Nat → Int32) (hf : Nat → Nat → UInt32) (z : (Nat → Nat → Int64) × (Nat → Nat → UInt64)) {t : Nat} (T : dk_T t) (p c : Nat) (x : Int32) (hp : p < 24) (hc : c < 4) :
    dk_MF G yX5_put cX5_put 4 none 0 0 [.ref t, .int (nI p), .int (nI c), .int x] (hi, hf, dk_RF sr, z) (none) (dk_up hi (t + 2) (p * 4 + c) x, hf, dk_RF sr, z) := by
  refine dk_met (L := [some (.ref t), some (.int (nI p)), some (.int (nI c)), some (.int x)]) pnX5 rfl (Nat.le_of_ble_eq_true rfl) ?_
  intro X C E hNm
  refine dk_aload_n C dX5_put_0 rfl rfl ?_
  refine ek_getR C fX5_15 T.s0 T.l0 rfl (t + 2) (T.r1 _) dX5_put_1 ?_
  refine dk_iload_n C dX5_put_4 rfl rfl ?_
  refine dk_iconst C (4) dX5_put_5 rfl ?_
  refine dk_imul C dX5_put_6 ?_
  refine dk_iload_n C dX5_put_7 rfl rfl ?_
  refine dk_iadd C dX5_put_8 ?_
  refine dk_iload_n C dX5_put_9 rfl rfl ?_
  refine ek_iast C T.s2 T.l2 (p * 4 + c) (nI4 p c) (by omega) (by decide) dX5_put_10 ?_
  exact dk_vret C E dX5_put_11 (Nat.zero_le _) (Nat.zero_le _) (⟨rfl, rfl⟩)
set_option maxHeartbeats 4000000 in
set_option maxRecDepth 100000 in
theorem c_X5_hasIndex (G : dk_G) (sr : Nat → Option Nat) (hi : Nat → Nat → Int32) (hf : Nat → Nat → UInt32) (z : (Nat → Nat → Int64) × (Nat → Nat → UInt64)) {t : Nat} (T : dk_T t) (c k : Nat) (hc : c < 4) (hk : k < 2) (hb : hi (t + 3) (c * 2 + k) = 0 ∨ hi (t + 3) (c * 2 + k) = 1) :
    dk_MF G yX5_hasIndex cX5_hasIndex 3 (some .boolean) 0 0 [.ref t, .int (nI c), .int (nI k)] (hi, hf, dk_RF sr, z) (some (.int (hi (t + 3) (c * 2 + k)))) (hi, hf, dk_RF sr, z) := by
  refine dk_met (L := [some (.ref t), some (.int (nI c)), some (.int (nI k))]) pnX5 rfl (Nat.le_of_ble_eq_true rfl) ?_
  intro X C E hNm
  refine dk_aload_n C dX5_hasIndex_0 rfl rfl ?_
  refine ek_getR C fX5_18 T.s0 T.l0 rfl (t + 3) (T.r2 _) dX5_hasIndex_1 ?_
  refine dk_iload_n C dX5_hasIndex_4 rfl rfl ?_
  refine dk_iconst C (2) dX5_hasIndex_5 rfl ?_
  refine dk_imul C dX5_hasIndex_6 ?_
  refine dk_iload_n C dX5_hasIndex_7 rfl rfl ?_
  refine dk_iadd C dX5_hasIndex_8 ?_
  refine ek_zald C T.s3 T.l3 (c * 2 + k) (nI2 c k) (by omega) (by decide) dX5_hasIndex_9 ?_
  exact dk_zret C E (nb hb) dX5_hasIndex_10 (Nat.zero_le _) (Nat.zero_le _) (⟨rfl, rfl⟩)
set_option maxHeartbeats 4000000 in
set_option maxRecDepth 100000 in
theorem c_X5_setIndex (G : dk_G) (sr : Nat → Option Nat) (hi : Nat → Nat → Int32) (hf : Nat → Nat → UInt32) (z : (Nat → Nat → Int64) × (Nat → Nat → UInt64)) {t : Nat} (T : dk_T t) (c k : Nat) (x : Int32) (hc : c < 4) (hk : k < 2) (hx : x = 0 ∨ x = 1) :
    dk_MF G yX5_setIndex cX5_setIndex 4 none 0 0 [.ref t, .int (nI c), .int (nI k), .int x] (hi, hf, dk_RF sr, z) (none) (dk_up hi (t + 3) (c * 2 + k) x, hf, dk_RF sr, z) := by
  refine dk_met (L := [some (.ref t), some (.int (nI c)), some (.int (nI k)), some (.int x)]) pnX5 rfl (Nat.le_of_ble_eq_true rfl) ?_
  intro X C E hNm
  refine dk_aload_n C dX5_setIndex_0 rfl rfl ?_
  refine ek_getR C fX5_18 T.s0 T.l0 rfl (t + 3) (T.r2 _) dX5_setIndex_1 ?_
  refine dk_iload_n C dX5_setIndex_4 rfl rfl ?_
  refine dk_iconst C (2) dX5_setIndex_5 rfl ?_
  refine dk_imul C dX5_setIndex_6 ?_
  refine dk_iload_n C dX5_setIndex_7 rfl rfl ?_
  refine dk_iadd C dX5_setIndex_8 ?_
  refine dk_iload_n C dX5_setIndex_9 rfl rfl ?_
  refine ek_zast C T.s3 T.l3 (c * 2 + k) (nI2 c k) (by omega) (by decide) (hx) dX5_setIndex_10 ?_
  exact dk_vret C E dX5_setIndex_11 (Nat.zero_le _) (Nat.zero_le _) (⟨rfl, rfl⟩)
/-- whether f's value at p stands before p -/
def sbf (f : Nat → Int32) (p : Nat) : Prop := ∃ q, q < p ∧ f q = f p
theorem sbf_dec (f : Nat → Int32) (p : Nat) : Nonempty (Decidable (sbf f p)) := ⟨Classical.propDecidable _⟩
noncomputable def sbI (f : Nat → Int32) (p : Nat) : Int32 := if (List.range p).any (fun q => decide (f q = f p)) = true then 1 else 0
theorem sbI_1 {f : Nat → Int32} {p q : Nat} (h : q < p) (e : f q = f p) : sbI f p = 1 := by
  unfold sbI
  rw [if_pos (List.any_eq_true.mpr ⟨q, List.mem_range.mpr h, by simpa using e⟩)]
theorem sbI_0 {f : Nat → Int32} {p : Nat} (h : ∀ q, q < p → f q ≠ f p) : sbI f p = 0 := by
  unfold sbI
  rw [if_neg]
  intro z
  obtain ⟨q, h1, h2⟩ := List.any_eq_true.mp z
  exact h q (List.mem_range.mp h1) (by simpa using h2)
theorem sbI_or (f : Nat → Int32) (p : Nat) : sbI f p = 0 ∨ sbI f p = 1 := by
  unfold sbI
  split
  · exact Or.inr rfl
  · exact Or.inl rfl
/-- a column of a table: the value at a place -/
abbrev tb_c (hi : Nat → Nat → Int32) (t c : Nat) : Nat → Int32 := fun p => hi (t + 2) (p * 4 + c)
set_option maxHeartbeats 4000000 in
set_option maxRecDepth 100000 in
theorem c_X5_standsBefore (G : dk_G) (sr : Nat → Option Nat) (hi : Nat → Nat → Int32) (hf : Nat → Nat → UInt32) (z : (Nat → Nat → Int64) × (Nat → Nat → UInt64)) {t : Nat} (T : dk_T t) (p c : Nat) (hp : p < 24) (hc : c < 4) :
    dk_MF G yX5_standsBefore cX5_standsBefore 5 (some .boolean) 1 22 [.ref t, .int (nI p), .int (nI c)] (hi, hf, dk_RF sr, z) (some (.int (sbI (tb_c hi t c) p))) (hi, hf, dk_RF sr, z) := by
  refine dk_met (L := [some (.ref t), some (.int (nI p)), some (.int (nI c)), none, none]) pnX5 rfl (Nat.le_of_ble_eq_true rfl) ?_
  intro X C E hNm
  have loop : ∀ r q, q + r = p → (∀ k, k < q → tb_c hi t c k ≠ tb_c hi t c p) → dk_W X 10 [some (.ref t), some (.int (nI p)), some (.int (nI c)), some (.int (tb_c hi t c p)), some (.int (nI q))] [] 63 (hi, hf, dk_RF sr, z) 0 0 := by
    intro r
    induction r with
    | zero =>
      intro q hq he
      obtain rfl : q = p := by omega
      refine dk_iload C dX5_standsBefore_10 rfl ?_
      refine dk_iload_n C dX5_standsBefore_12 rfl rfl ?_
      refine dk_icmp_ge C 35 dX5_standsBefore_13 (by decide) (fun _ => ?_) (fun hz => absurd (Int32.le_refl _) hz)
      refine dk_iconst C (0) dX5_standsBefore_35 rfl ?_
      exact dk_zret C E rfl dX5_standsBefore_36 (Nat.zero_le _) (Nat.zero_le _) (⟨pI (sbI_0 he).symm, rfl⟩)
    | succ r ih =>
      intro q hq he
      refine dk_iload C dX5_standsBefore_10 rfl ?_
      refine dk_iload_n C dX5_standsBefore_12 rfl rfl ?_
      refine dk_icmp_ge C 35 dX5_standsBefore_13 (by decide) (fun hz => absurd hz (nI_ge (by omega) (by omega))) (fun _ => ?_)
      refine dk_aload_n C dX5_standsBefore_16 rfl rfl ?_
      refine dk_iload C dX5_standsBefore_17 rfl ?_
      refine dk_iload_n C dX5_standsBefore_19 rfl rfl ?_
      refine ek_callV C mX5_42 (c_X5_value _ _ _ _ _ T q c (by omega) hc) T.s0 T.l0 rfl rfl (Nat.le_of_ble_eq_true rfl) (by decide) (by decide) (Nat.zero_le _) (Nat.zero_le _) dX5_standsBefore_20 ?_
      refine dk_iload_n C dX5_standsBefore_23 rfl rfl ?_
      refine dk_icmp_ne C 29 dX5_standsBefore_24 (by decide) (fun c1 => ?_) (fun c1 => ?_)
      · refine dk_iinc C (nI (q + 1)) dX5_standsBefore_29 rfl (nI_1 q) (by decide) rfl ?_
        refine dk_goto C 10 dX5_standsBefore_32 (by decide) ?_
        exact ih (q + 1) (by omega) (lt_s he c1)
      · refine dk_iconst C (1) dX5_standsBefore_27 rfl ?_
        exact dk_zret C E rfl dX5_standsBefore_28 (Nat.zero_le _) (Nat.zero_le _) (⟨pI (sbI_1 (f := tb_c hi t c) (q := q) (by omega) c1).symm, rfl⟩)
  refine dk_aload_n C dX5_standsBefore_0 rfl rfl ?_
  refine dk_iload_n C dX5_standsBefore_1 rfl rfl ?_
  refine dk_iload_n C dX5_standsBefore_2 rfl rfl ?_
  refine ek_callV C mX5_42 (c_X5_value _ _ _ _ _ T p c hp hc) T.s0 T.l0 rfl rfl (Nat.le_of_ble_eq_true rfl) (by decide) (by decide) (Nat.zero_le _) (Nat.zero_le _) dX5_standsBefore_3 ?_
  refine dk_istore_n C dX5_standsBefore_6 rfl (by decide) rfl ?_
  refine dk_iconst C (0) dX5_standsBefore_7 rfl ?_
  refine dk_istore C dX5_standsBefore_8 (by decide) rfl ?_
  exact loop p 0 (by omega) lt_0
/-- how many different values f has below n -/
noncomputable def dvc (f : Nat → Int32) : Nat → Nat
  | 0 => 0
  | n + 1 => dvc f n + (if sbI f n = 0 then 1 else 0)
set_option maxHeartbeats 4000000 in
set_option maxRecDepth 100000 in
theorem c_X5_differentValues (G : dk_G) (sr : Nat → Option Nat) (hi : Nat → Nat → Int32) (hf : Nat → Nat → UInt32) (z : (Nat → Nat → Int64) × (Nat → Nat → UInt64)) {t : Nat} (T : dk_T t) (c n : Nat) (hc : c < 4) (hn : hi t 4 = nI n) (hn' : n ≤ 24) :
    dk_MF G yX5_differentValues cX5_differentValues 4 (some .int) 2 46 [.ref t, .int (nI c)] (hi, hf, dk_RF sr, z) (some (.int (nI (dvc (tb_c hi t c) n)))) (hi, hf, dk_RF sr, z) := by
  refine dk_met (L := [some (.ref t), some (.int (nI c)), none, none]) pnX5 rfl (Nat.le_of_ble_eq_true rfl) ?_
  intro X C E hNm
  have loop : ∀ r p, p + r = n → dk_W X 4 [some (.ref t), some (.int (nI c)), some (.int (nI (dvc (tb_c hi t c) p))), some (.int (nI p))] [] 63 (hi, hf, dk_RF sr, z) 0 0 := by
    intro r
    induction r with
    | zero =>
      intro p hp
      obtain rfl : p = n := by omega
      refine dk_iload_n C dX5_differentValues_4 rfl rfl ?_
      refine dk_aload_n C dX5_differentValues_5 rfl rfl ?_
      refine ek_getI C fX5_26 T.s0 T.l0 rfl dX5_differentValues_6 ?_
      refine dk_icmp_ge C 30 dX5_differentValues_9 (by decide) (fun _ => ?_) (fun hz => absurd (by rw [hn]; exact Int32.le_refl _) hz)
      refine dk_iload_n C dX5_differentValues_30 rfl rfl ?_
      exact dk_iret C E dX5_differentValues_31 (Nat.zero_le _) (Nat.zero_le _) (⟨rfl, rfl⟩)
    | succ r ih =>
      intro p hp
      refine dk_iload_n C dX5_differentValues_4 rfl rfl ?_
      refine dk_aload_n C dX5_differentValues_5 rfl rfl ?_
      refine ek_getI C fX5_26 T.s0 T.l0 rfl dX5_differentValues_6 ?_
      refine dk_icmp_ge C 30 dX5_differentValues_9 (by decide) (fun hz => absurd hz (by rw [hn]; exact nI_ge (by omega) (by omega))) (fun _ => ?_)
      refine dk_aload_n C dX5_differentValues_12 rfl rfl ?_
      refine dk_iload_n C dX5_differentValues_13 rfl rfl ?_
      refine dk_iload_n C dX5_differentValues_14 rfl rfl ?_
      refine ek_callV C mX5_38 (c_X5_standsBefore _ _ _ _ _ T p c (by omega) hc) T.s0 T.l0 rfl rfl (Nat.le_of_ble_eq_true rfl) (by decide) (by decide) (Nat.zero_le _) (Nat.zero_le _) dX5_differentValues_15 ?_
      refine dk_if_ne C 24 dX5_differentValues_18 (by decide) (fun c1 => ?_) (fun c1 => ?_)
      · refine dk_iinc C (nI (p + 1)) dX5_differentValues_24 rfl (nI_1 p) (by decide) rfl ?_
        refine dk_goto C 4 dX5_differentValues_27 (by decide) ?_
        have e : dvc (tb_c hi t c) (p + 1) = dvc (tb_c hi t c) p := by rw [dvc, if_neg c1]; rfl
        rw [← e]
        exact ih (p + 1) (by omega)
      · refine dk_iinc C (nI (dvc (tb_c hi t c) p + 1)) dX5_differentValues_21 rfl (nI_1 _) (by decide) rfl ?_
        refine dk_iinc C (nI (p + 1)) dX5_differentValues_24 rfl (nI_1 p) (by decide) rfl ?_
        refine dk_goto C 4 dX5_differentValues_27 (by decide) ?_
        have e : dvc (tb_c hi t c) (p + 1) = dvc (tb_c hi t c) p + 1 := by rw [dvc, if_pos c1]
        rw [← e]
        exact ih (p + 1) (by omega)
  refine dk_iconst C (0) dX5_differentValues_0 rfl ?_
  refine dk_istore_n C dX5_differentValues_1 rfl (by decide) rfl ?_
  refine dk_iconst C (0) dX5_differentValues_2 rfl ?_
  refine dk_istore_n C dX5_differentValues_3 rfl (by decide) rfl ?_
  exact loop n 0 (by omega)
/-- the least, the greatest of f's values from 0 to n -/
def mnc (f : Nat → Int32) : Nat → Int32
  | 0 => f 0
  | n + 1 => if f (n + 1) < mnc f n then f (n + 1) else mnc f n
def mxc (f : Nat → Int32) : Nat → Int32
  | 0 => f 0
  | n + 1 => if mxc f n < f (n + 1) then f (n + 1) else mxc f n
set_option maxHeartbeats 4000000 in
set_option maxRecDepth 100000 in
theorem c_X5_least (G : dk_G) (sr : Nat → Option Nat) (hi : Nat → Nat → Int32) (hf : Nat → Nat → UInt32) (z : (Nat → Nat → Int64) × (Nat → Nat → UInt64)) {t : Nat} (T : dk_T t) (c n : Nat) (hc : c < 4) (hn : hi t 4 = nI (n + 1)) (hn' : n + 1 ≤ 24) :
    dk_MF G yX5_least cX5_least 4 (some .int) 1 22 [.ref t, .int (nI c)] (hi, hf, dk_RF sr, z) (some (.int (mnc (tb_c hi t c) n))) (hi, hf, dk_RF sr, z) := by
  refine dk_met (L := [some (.ref t), some (.int (nI c)), none, none]) pnX5 rfl (Nat.le_of_ble_eq_true rfl) ?_
  intro X C E hNm
  have loop : ∀ r p, p + r = n → dk_W X 9 [some (.ref t), some (.int (nI c)), some (.int (mnc (tb_c hi t c) p)), some (.int (nI (p + 1)))] [] 63 (hi, hf, dk_RF sr, z) 0 0 := by
    intro r
    induction r with
    | zero =>
      intro p hp
      obtain rfl : p = n := by omega
      refine dk_iload_n C dX5_least_9 rfl rfl ?_
      refine dk_aload_n C dX5_least_10 rfl rfl ?_
      refine ek_getI C fX5_26 T.s0 T.l0 rfl dX5_least_11 ?_
      refine dk_icmp_ge C 34 dX5_least_14 (by decide) (fun _ => ?_) (fun hz => absurd (by rw [hn]; exact Int32.le_refl _) hz)
      refine dk_iload_n C dX5_least_34 rfl rfl ?_
      exact dk_iret C E dX5_least_35 (Nat.zero_le _) (Nat.zero_le _) (⟨rfl, rfl⟩)
    | succ r ih =>
      intro p hp
      refine dk_iload_n C dX5_least_9 rfl rfl ?_
      refine dk_aload_n C dX5_least_10 rfl rfl ?_
      refine ek_getI C fX5_26 T.s0 T.l0 rfl dX5_least_11 ?_
      refine dk_icmp_ge C 34 dX5_least_14 (by decide) (fun hz => absurd hz (by rw [hn]; exact nI_ge (by omega) (by omega))) (fun _ => ?_)
      refine dk_iload_n C dX5_least_17 rfl rfl ?_
      refine dk_aload_n C dX5_least_18 rfl rfl ?_
      refine dk_iload_n C dX5_least_19 rfl rfl ?_
      refine dk_iload_n C dX5_least_20 rfl rfl ?_
      refine ek_callV C mX5_42 (c_X5_value _ _ _ _ _ T (p + 1) c (by omega) hc) T.s0 T.l0 rfl rfl (Nat.le_of_ble_eq_true rfl) (by decide) (by decide) (Nat.zero_le _) (Nat.zero_le _) dX5_least_21 ?_
      refine dk_mmin C mmX5_46 mm1min mm2 mm3min dX5_least_24 (by decide) (Nat.le_of_ble_eq_true rfl) (Nat.zero_le _) (Nat.zero_le _) ?_
      refine dk_istore_n C dX5_least_27 rfl (by decide) rfl ?_
      refine dk_iinc C (nI (p + 1 + 1)) dX5_least_28 rfl (nI_1 _) (by decide) rfl ?_
      refine dk_goto C 9 dX5_least_31 (by decide) ?_
      exact ih (p + 1) (by omega)
  refine dk_aload_n C dX5_least_0 rfl rfl ?_
  refine dk_iconst C (0) dX5_least_1 rfl ?_
  refine dk_iload_n C dX5_least_2 rfl rfl ?_
  refine ek_callV C mX5_42 (c_X5_value _ _ _ _ _ T 0 c (by omega) hc) T.s0 T.l0 rfl rfl (Nat.le_of_ble_eq_true rfl) (by decide) (by decide) (Nat.zero_le _) (Nat.zero_le _) dX5_least_3 ?_
  refine dk_istore_n C dX5_least_6 rfl (by decide) rfl ?_
  refine dk_iconst C (1) dX5_least_7 rfl ?_
  refine dk_istore_n C dX5_least_8 rfl (by decide) rfl ?_
  exact loop n 0 (by omega)
set_option maxHeartbeats 4000000 in
set_option maxRecDepth 100000 in
theorem c_X5_greatest (G : dk_G) (sr : Nat → Option Nat) (hi : Nat → Nat → Int32) (hf : Nat → Nat → UInt32) (z : (Nat → Nat → Int64) × (Nat → Nat → UInt64)) {t : Nat} (T : dk_T t) (c n : Nat) (hc : c < 4) (hn : hi t 4 = nI (n + 1)) (hn' : n + 1 ≤ 24) :
    dk_MF G yX5_greatest cX5_greatest 4 (some .int) 1 22 [.ref t, .int (nI c)] (hi, hf, dk_RF sr, z) (some (.int (mxc (tb_c hi t c) n))) (hi, hf, dk_RF sr, z) := by
  refine dk_met (L := [some (.ref t), some (.int (nI c)), none, none]) pnX5 rfl (Nat.le_of_ble_eq_true rfl) ?_
  intro X C E hNm
  have loop : ∀ r p, p + r = n → dk_W X 9 [some (.ref t), some (.int (nI c)), some (.int (mxc (tb_c hi t c) p)), some (.int (nI (p + 1)))] [] 63 (hi, hf, dk_RF sr, z) 0 0 := by
    intro r
    induction r with
    | zero =>
      intro p hp
      obtain rfl : p = n := by omega
      refine dk_iload_n C dX5_greatest_9 rfl rfl ?_
      refine dk_aload_n C dX5_greatest_10 rfl rfl ?_
      refine ek_getI C fX5_26 T.s0 T.l0 rfl dX5_greatest_11 ?_
      refine dk_icmp_ge C 34 dX5_greatest_14 (by decide) (fun _ => ?_) (fun hz => absurd (by rw [hn]; exact Int32.le_refl _) hz)
      refine dk_iload_n C dX5_greatest_34 rfl rfl ?_
      exact dk_iret C E dX5_greatest_35 (Nat.zero_le _) (Nat.zero_le _) (⟨rfl, rfl⟩)
    | succ r ih =>
      intro p hp
      refine dk_iload_n C dX5_greatest_9 rfl rfl ?_
      refine dk_aload_n C dX5_greatest_10 rfl rfl ?_
      refine ek_getI C fX5_26 T.s0 T.l0 rfl dX5_greatest_11 ?_
      refine dk_icmp_ge C 34 dX5_greatest_14 (by decide) (fun hz => absurd hz (by rw [hn]; exact nI_ge (by omega) (by omega))) (fun _ => ?_)
      refine dk_iload_n C dX5_greatest_17 rfl rfl ?_
      refine dk_aload_n C dX5_greatest_18 rfl rfl ?_
      refine dk_iload_n C dX5_greatest_19 rfl rfl ?_
      refine dk_iload_n C dX5_greatest_20 rfl rfl ?_
      refine ek_callV C mX5_42 (c_X5_value _ _ _ _ _ T (p + 1) c (by omega) hc) T.s0 T.l0 rfl rfl (Nat.le_of_ble_eq_true rfl) (by decide) (by decide) (Nat.zero_le _) (Nat.zero_le _) dX5_greatest_21 ?_
      refine dk_mmax C mmX5_51 mm1max mm2 mm3max dX5_greatest_24 (by decide) (Nat.le_of_ble_eq_true rfl) (Nat.zero_le _) (Nat.zero_le _) ?_
      refine dk_istore_n C dX5_greatest_27 rfl (by decide) rfl ?_
      refine dk_iinc C (nI (p + 1 + 1)) dX5_greatest_28 rfl (nI_1 _) (by decide) rfl ?_
      refine dk_goto C 9 dX5_greatest_31 (by decide) ?_
      exact ih (p + 1) (by omega)
  refine dk_aload_n C dX5_greatest_0 rfl rfl ?_
  refine dk_iconst C (0) dX5_greatest_1 rfl ?_
  refine dk_iload_n C dX5_greatest_2 rfl rfl ?_
  refine ek_callV C mX5_42 (c_X5_value _ _ _ _ _ T 0 c (by omega) hc) T.s0 T.l0 rfl rfl (Nat.le_of_ble_eq_true rfl) (by decide) (by decide) (Nat.zero_le _) (Nat.zero_le _) dX5_greatest_3 ?_
  refine dk_istore_n C dX5_greatest_6 rfl (by decide) rfl ?_
  refine dk_iconst C (1) dX5_greatest_7 rfl ?_
  refine dk_istore_n C dX5_greatest_8 rfl (by decide) rfl ?_
  exact loop n 0 (by omega)
end
section
/-- a table with a row more -/
def tb_add (hi : Nat → Nat → Int32) (t r : Nat) (a b c d : Int32) : Nat → Nat → Int32 :=
  dk_up (dk_up (dk_up (dk_up (dk_up (dk_up (dk_up hi (t + 2) (r * 4) a) (t + 2) (r * 4 + 1) b) (t + 2) (r * 4 + 2) c) (t + 2) (r * 4 + 3) d) (t + 1) r (hi t 5)) t 4 (nI (r + 1))) t 5 (hi t 5 + 1)
theorem nI4k (p : Nat) : nI p * 4 = nI (p * 4) := by rw [show (4 : Int32) = nI 4 from rfl, pk_mul]
set_option maxHeartbeats 4000000 in
set_option maxRecDepth 100000 in
theorem c_X5_add (G : dk_G) (sr : Nat → Option Nat) (hi : Nat → Nat → Int32) (hf : Nat → Nat → UInt32) (z : (Nat → Nat → Int64) × (Nat → Nat → UInt64)) {t : Nat} (T : dk_T t) (r : Nat) (a b c d : Int32) (hr : hi t 4 = nI r) (hr' : r < 24) :
    dk_MF G yX5_add cX5_add 7 (some .int) 0 0 [.ref t, .int a, .int b, .int c, .int d] (hi, hf, dk_RF sr, z) (some (.int (hi t 5))) (tb_add hi t r a b c d, hf, dk_RF sr, z) := by
  refine dk_met (L := [some (.ref t), some (.int a), some (.int b), some (.int c), some (.int d), none, none]) pnX5 rfl (Nat.le_of_ble_eq_true rfl) ?_
  intro X C E hNm
  have e0 : hi t 4 * 4 = nI (r * 4) := by rw [hr, nI4k]
  refine dk_aload_n C dX5_add_0 rfl rfl ?_
  refine ek_getI C fX5_26 T.s0 T.l0 rfl dX5_add_1 ?_
  refine dk_iconst C (4) dX5_add_4 rfl ?_
  refine dk_imul C dX5_add_5 ?_
  rw [e0]
  refine dk_istore C dX5_add_6 (by decide) rfl ?_
  refine dk_aload_n C dX5_add_8 rfl rfl ?_
  refine ek_getR C fX5_15 T.s0 T.l0 rfl (t + 2) (T.r1 _) dX5_add_9 ?_
  refine dk_iload C dX5_add_12 rfl ?_
  refine dk_iload_n C dX5_add_14 rfl rfl ?_
  refine ek_iast C T.s2 T.l2 (r * 4) (rfl) (by omega) (by decide) dX5_add_15 ?_
  refine dk_aload_n C dX5_add_16 rfl rfl ?_
  refine ek_getR C fX5_15 T.s0 T.l0 rfl (t + 2) (T.r1 _) dX5_add_17 ?_
  refine dk_iload C dX5_add_20 rfl ?_
  refine dk_iconst C (1) dX5_add_22 rfl ?_
  refine dk_iadd C dX5_add_23 ?_
  refine dk_iload_n C dX5_add_24 rfl rfl ?_
  refine ek_iast C T.s2 T.l2 (r * 4 + 1) (nI_add (r * 4) 1) (by omega) (by decide) dX5_add_25 ?_
  refine dk_aload_n C dX5_add_26 rfl rfl ?_
  refine ek_getR C fX5_15 T.s0 T.l0 rfl (t + 2) (T.r1 _) dX5_add_27 ?_
  refine dk_iload C dX5_add_30 rfl ?_
  refine dk_iconst C (2) dX5_add_32 rfl ?_
  refine dk_iadd C dX5_add_33 ?_
  refine dk_iload_n C dX5_add_34 rfl rfl ?_
  refine ek_iast C T.s2 T.l2 (r * 4 + 2) (nI_add (r * 4) 2) (by omega) (by decide) dX5_add_35 ?_
  refine dk_aload_n C dX5_add_36 rfl rfl ?_
  refine ek_getR C fX5_15 T.s0 T.l0 rfl (t + 2) (T.r1 _) dX5_add_37 ?_
  refine dk_iload C dX5_add_40 rfl ?_
  refine dk_iconst C (3) dX5_add_42 rfl ?_
  refine dk_iadd C dX5_add_43 ?_
  refine dk_iload C dX5_add_44 rfl ?_
  refine ek_iast C T.s2 T.l2 (r * 4 + 3) (nI_add (r * 4) 3) (by omega) (by decide) dX5_add_46 ?_
  obtain ⟨h1, hh, e4, e5⟩ : ∃ h1, h1 = dk_up (dk_up (dk_up (dk_up hi (t + 2) (r * 4) a) (t + 2) (r * 4 + 1) b) (t + 2) (r * 4 + 2) c) (t + 2) (r * 4 + 3) d ∧ h1 t 4 = nI r ∧ h1 t 5 = hi t 5 := ⟨_, rfl, by simp [dk_up, hr], by simp [dk_up]⟩
  rw [← hh]
  refine dk_aload_n C dX5_add_47 rfl rfl ?_
  refine ek_getI C fX5_29 T.s0 T.l0 rfl dX5_add_48 ?_
  refine dk_istore C dX5_add_51 (by decide) rfl ?_
  refine dk_aload_n C dX5_add_53 rfl rfl ?_
  refine ek_getR C fX5_11 T.s0 T.l0 rfl (t + 1) (T.r0 _) dX5_add_54 ?_
  refine dk_aload_n C dX5_add_57 rfl rfl ?_
  refine ek_getI C fX5_26 T.s0 T.l0 rfl dX5_add_58 ?_
  refine dk_iload C dX5_add_61 rfl ?_
  refine ek_iast C T.s1 T.l1 (r) (e4) (hr') (by decide) dX5_add_63 ?_
  refine dk_aload_n C dX5_add_64 rfl rfl ?_
  refine dk_dup C dX5_add_65 rfl ?_
  refine ek_getI C fX5_26 T.s0 T.l0 rfl dX5_add_66 ?_
  refine dk_iconst C (1) dX5_add_69 rfl ?_
  refine dk_iadd C dX5_add_70 ?_
  refine ek_putI C fX5_26 fwX5_4 T.s0 T.l0 rfl dX5_add_71 ?_
  refine dk_aload_n C dX5_add_74 rfl rfl ?_
  refine dk_dup C dX5_add_75 rfl ?_
  refine ek_getI C fX5_29 T.s0 T.l0 rfl dX5_add_76 ?_
  refine dk_iconst C (1) dX5_add_79 rfl ?_
  refine dk_iadd C dX5_add_80 ?_
  refine ek_putI C fX5_29 fwX5_5 T.s0 T.l0 rfl dX5_add_81 ?_
  have e6 : dk_up h1 (t + 1) r (h1 t 5) t 4 = nI r := by rw [dk_up_ne _ _ (Or.inl (by omega)), e4]
  rw [e6]
  have e7 : dk_up (dk_up h1 (t + 1) r (h1 t 5)) t 4 (nI r + 1) t 5 = hi t 5 := by rw [dk_up_ne _ _ (Or.inr (by omega)), dk_up_ne _ _ (Or.inl (by omega)), e5]
  rw [e7, e5]
  refine dk_iload C dX5_add_84 rfl ?_
  exact dk_iret C E dX5_add_86 (Nat.zero_le _) (Nat.zero_le _) (⟨rfl, by rw [tb_add, ← hh, nI_1]⟩)
/-- a table with a row less -/
def tb_rem (hi : Nat → Nat → Int32) (t n p : Nat) : Nat → Nat → Int32 :=
  dk_up (dk_cp (dk_cp hi (t + 1) (p + 1) p (n - p - 1)) (t + 2) ((p + 1) * 4) (p * 4) ((n - p - 1) * 4)) t 4 (nI (n - 1))
set_option maxHeartbeats 4000000 in
set_option maxRecDepth 100000 in
theorem c_X5_remove (G : dk_G) (sr : Nat → Option Nat) (hi : Nat → Nat → Int32) (hf : Nat → Nat → UInt32) (z : (Nat → Nat → Int64) × (Nat → Nat → UInt64)) {t : Nat} (T : dk_T t) (n p : Nat) (hn : hi t 4 = nI n) (hn' : n ≤ 24) (hp : p < n) :
    dk_MF G yX5_remove cX5_remove 3 none 1 60 [.ref t, .int (nI p)] (hi, hf, dk_RF sr, z) (none) (tb_rem hi t n p, hf, dk_RF sr, z) := by
  refine dk_met (L := [some (.ref t), some (.int (nI p)), none]) pnX5 rfl (Nat.le_of_ble_eq_true rfl) ?_
  intro X C E hNm
  refine dk_aload_n C dX5_remove_0 rfl rfl ?_
  refine ek_getI C fX5_26 T.s0 T.l0 rfl dX5_remove_1 ?_
  refine dk_iload_n C dX5_remove_4 rfl rfl ?_
  refine dk_isub C dX5_remove_5 ?_
  refine dk_iconst C (1) dX5_remove_6 rfl ?_
  refine dk_isub C dX5_remove_7 ?_
  have e0 : hi t 4 - nI p - 1 = nI (n - p - 1) := by rw [hn, pk_sub (by omega), show (1 : Int32) = nI 1 from rfl, pk_sub (by omega)]
  rw [e0]
  have e1 : nI p + 1 = nI (p + 1) := nI_1 p
  refine dk_istore_n C dX5_remove_8 rfl (by decide) rfl ?_
  refine dk_aload_n C dX5_remove_9 rfl rfl ?_
  refine ek_getR C fX5_11 T.s0 T.l0 rfl (t + 1) (T.r0 _) dX5_remove_10 ?_
  refine dk_iload_n C dX5_remove_13 rfl rfl ?_
  refine dk_iconst C (1) dX5_remove_14 rfl ?_
  refine dk_iadd C dX5_remove_15 ?_
  refine dk_aload_n C dX5_remove_16 rfl rfl ?_
  refine ek_getR C fX5_11 T.s0 T.l0 rfl (t + 1) (T.r0 _) dX5_remove_17 ?_
  refine dk_iload_n C dX5_remove_20 rfl rfl ?_
  refine dk_iload_n C dX5_remove_21 rfl rfl ?_
  refine ek_copyi C acX5_32 T.s1 T.l1 (p + 1) (p) (n - p - 1) (e1) (rfl) (rfl) (by omega) (by omega) (by decide) (by decide) (Nat.le_of_ble_eq_true rfl) dX5_remove_22 ?_
  refine dk_aload_n C dX5_remove_25 rfl rfl ?_
  refine ek_getR C fX5_15 T.s0 T.l0 rfl (t + 2) (T.r1 _) dX5_remove_26 ?_
  refine dk_iload_n C dX5_remove_29 rfl rfl ?_
  refine dk_iconst C (1) dX5_remove_30 rfl ?_
  refine dk_iadd C dX5_remove_31 ?_
  refine dk_iconst C (4) dX5_remove_32 rfl ?_
  refine dk_imul C dX5_remove_33 ?_
  refine dk_aload_n C dX5_remove_34 rfl rfl ?_
  refine ek_getR C fX5_15 T.s0 T.l0 rfl (t + 2) (T.r1 _) dX5_remove_35 ?_
  refine dk_iload_n C dX5_remove_38 rfl rfl ?_
  refine dk_iconst C (4) dX5_remove_39 rfl ?_
  refine dk_imul C dX5_remove_40 ?_
  refine dk_iload_n C dX5_remove_41 rfl rfl ?_
  refine dk_iconst C (4) dX5_remove_42 rfl ?_
  refine dk_imul C dX5_remove_43 ?_
  refine ek_copyi C acX5_32 T.s2 T.l2 ((p + 1) * 4) (p * 4) ((n - p - 1) * 4) (by rw [e1, nI4k]) (nI4k p) (nI4k _) (by omega) (by omega) (by decide) (by decide) (Nat.le_of_ble_eq_true rfl) dX5_remove_44 ?_
  have e2 : dk_cp (dk_cp hi (t + 1) (p + 1) p (n - p - 1)) (t + 2) ((p + 1) * 4) (p * 4) ((n - p - 1) * 4) t 4 = nI n := by simp [dk_cp, hn]
  refine dk_aload_n C dX5_remove_47 rfl rfl ?_
  refine dk_dup C dX5_remove_48 rfl ?_
  refine ek_getI C fX5_26 T.s0 T.l0 rfl dX5_remove_49 ?_
  refine dk_iconst C (1) dX5_remove_52 rfl ?_
  refine dk_isub C dX5_remove_53 ?_
  refine ek_putI C fX5_26 fwX5_4 T.s0 T.l0 rfl dX5_remove_54 ?_
  rw [e2]
  exact dk_vret C E dX5_remove_57 (Nat.zero_le _) (Nat.zero_le _) (⟨rfl, by rw [tb_rem, show (1 : Int32) = nI 1 from rfl, pk_sub (by omega)]⟩)
end
section
/-! ===== Condition, Join, Question ===== -/
def bI (b : Bool) : Int32 := if b = true then 1 else 0
theorem bI_or (b : Bool) : bI b = 0 ∨ bI b = 1 := by cases b <;> simp [bI]
theorem bI_t {b : Bool} (h : b = true) : (1 : Int32) = bI b := by rw [h]; rfl
theorem bI_f {b : Bool} (h : b = false) : (0 : Int32) = bI b := by rw [h]; rfl
theorem bI_n1 {b : Bool} (h : ¬ bI b = 0) : b = true := by cases b <;> simp_all [bI]
theorem bI_n0 {b : Bool} (h : bI b = 0) : b = false := by cases b <;> simp_all [bI]
/-- a condition: operator, value, number -/
def cn_b (o : Nat) (v num : Int32) : Bool := match o with
  | 0 => decide (v = num)
  | 1 => decide (v < num)
  | 2 => decide (num < v)
  | _ => decide (v ≠ num)
set_option maxHeartbeats 4000000 in
set_option maxRecDepth 100000 in
theorem c_X0_holds (G : dk_G) (sr : Nat → Option Nat) (hi : Nat → Nat → Int32) (hf : Nat → Nat → UInt32) (z : (Nat → Nat → Int64) × (Nat → Nat → UInt64)) {c : Nat} (Q : dk_Q0 c) (v : Int32) (o : Nat) (ho : hi c 2 = nI o) (ho' : o < 4) :
    dk_MF G yX0_holds cX0_holds 2 (some .boolean) 0 0 [.ref c, .int v] (hi, hf, dk_RF sr, z) (some (.int (bI (cn_b o v (hi c 3))))) (hi, hf, dk_RF sr, z) := by
  refine dk_met (L := [some (.ref c), some (.int v)]) pnX0 rfl (Nat.le_of_ble_eq_true rfl) ?_
  intro X C E hNm
  refine dk_aload_n C dX0_holds_0 rfl rfl ?_
  refine ek_getI C fX0_9 Q.s0 Q.l0 rfl dX0_holds_1 ?_
  rw [ho]
  rcases (show o = 0 ∨ o = 1 ∨ o = 2 ∨ o = 3 by omega) with rfl | rfl | rfl | rfl
  · refine dk_tableIn C 32 dX0_holds_4 (by decide) (by decide) rfl (by decide) ?_
    refine dk_iload_n C dX0_holds_32 rfl rfl ?_
    refine dk_aload_n C dX0_holds_33 rfl rfl ?_
    refine ek_getI C fX0_15 Q.s0 Q.l0 rfl dX0_holds_34 ?_
    refine dk_icmp_ne C 44 dX0_holds_37 (by decide) (fun c1 => ?_) (fun c1 => ?_)
    · refine dk_iconst C (0) dX0_holds_44 rfl ?_
      exact dk_zret C E rfl dX0_holds_45 (Nat.zero_le _) (Nat.zero_le _) (⟨pI (bI_f (by simpa [cn_b] using c1)), rfl⟩)
    · refine dk_iconst C (1) dX0_holds_40 rfl ?_
      refine dk_goto C 45 dX0_holds_41 (by decide) ?_
      exact dk_zret C E rfl dX0_holds_45 (Nat.zero_le _) (Nat.zero_le _) (⟨pI (bI_t (by simpa [cn_b] using c1)), rfl⟩)
  · refine dk_tableIn C 46 dX0_holds_4 (by decide) (by decide) rfl (by decide) ?_
    refine dk_iload_n C dX0_holds_46 rfl rfl ?_
    refine dk_aload_n C dX0_holds_47 rfl rfl ?_
    refine ek_getI C fX0_15 Q.s0 Q.l0 rfl dX0_holds_48 ?_
    refine dk_icmp_ge C 58 dX0_holds_51 (by decide) (fun c1 => ?_) (fun c1 => ?_)
    · refine dk_iconst C (0) dX0_holds_58 rfl ?_
      exact dk_zret C E rfl dX0_holds_59 (Nat.zero_le _) (Nat.zero_le _) (⟨pI (bI_f (by simpa [cn_b] using c1)), rfl⟩)
    · refine dk_iconst C (1) dX0_holds_54 rfl ?_
      refine dk_goto C 59 dX0_holds_55 (by decide) ?_
      exact dk_zret C E rfl dX0_holds_59 (Nat.zero_le _) (Nat.zero_le _) (⟨pI (bI_t (by simpa [cn_b] using c1)), rfl⟩)
  · refine dk_tableIn C 60 dX0_holds_4 (by decide) (by decide) rfl (by decide) ?_
    refine dk_iload_n C dX0_holds_60 rfl rfl ?_
    refine dk_aload_n C dX0_holds_61 rfl rfl ?_
    refine ek_getI C fX0_15 Q.s0 Q.l0 rfl dX0_holds_62 ?_
    refine dk_icmp_le C 72 dX0_holds_65 (by decide) (fun c1 => ?_) (fun c1 => ?_)
    · refine dk_iconst C (0) dX0_holds_72 rfl ?_
      exact dk_zret C E rfl dX0_holds_73 (Nat.zero_le _) (Nat.zero_le _) (⟨pI (bI_f (by simpa [cn_b] using c1)), rfl⟩)
    · refine dk_iconst C (1) dX0_holds_68 rfl ?_
      refine dk_goto C 73 dX0_holds_69 (by decide) ?_
      exact dk_zret C E rfl dX0_holds_73 (Nat.zero_le _) (Nat.zero_le _) (⟨pI (bI_t (by simpa [cn_b] using c1)), rfl⟩)
  · refine dk_tableOut C 74 dX0_holds_4 (by decide) (by decide) ?_
    refine dk_iload_n C dX0_holds_74 rfl rfl ?_
    refine dk_aload_n C dX0_holds_75 rfl rfl ?_
    refine ek_getI C fX0_15 Q.s0 Q.l0 rfl dX0_holds_76 ?_
    refine dk_icmp_eq C 86 dX0_holds_79 (by decide) (fun c1 => ?_) (fun c1 => ?_)
    · refine dk_iconst C (0) dX0_holds_86 rfl ?_
      exact dk_zret C E rfl dX0_holds_87 (Nat.zero_le _) (Nat.zero_le _) (⟨pI (bI_f (by simpa [cn_b] using c1)), rfl⟩)
    · refine dk_iconst C (1) dX0_holds_82 rfl ?_
      refine dk_goto C 87 dX0_holds_83 (by decide) ?_
      exact dk_zret C E rfl dX0_holds_87 (Nat.zero_le _) (Nat.zero_le _) (⟨pI (bI_t (by simpa [cn_b] using c1)), rfl⟩)
set_option maxHeartbeats 4000000 in
set_option maxRecDepth 100000 in
theorem c_X1_ties (G : dk_G) (sr : Nat → Option Nat) (hi : Nat → Nat → Int32) (hf : Nat → Nat → UInt32) (z : (Nat → Nat → Int64) × (Nat → Nat → UInt64)) {c : Nat} (Q : dk_Q1 c) (s : Int32) :
    dk_MF G yX1_ties cX1_ties 2 (some .boolean) 0 0 [.ref c, .int s] (hi, hf, dk_RF sr, z) (some (.int (bI (decide (hi c 0 = s ∨ hi c 2 = s))))) (hi, hf, dk_RF sr, z) := by
  refine dk_met (L := [some (.ref c), some (.int s)]) pnX1 rfl (Nat.le_of_ble_eq_true rfl) ?_
  intro X C E hNm
  refine dk_aload_n C dX1_ties_0 rfl rfl ?_
  refine ek_getI C fX1_7 Q.s0 Q.l0 rfl dX1_ties_1 ?_
  refine dk_iload_n C dX1_ties_4 rfl rfl ?_
  refine dk_icmp_eq C 16 dX1_ties_5 (by decide) (fun c1 => ?_) (fun c1 => ?_)
  · refine dk_iconst C (1) dX1_ties_16 rfl ?_
    refine dk_goto C 21 dX1_ties_17 (by decide) ?_
    exact dk_zret C E rfl dX1_ties_21 (Nat.zero_le _) (Nat.zero_le _) (⟨pI (bI_t (by simp [c1])), rfl⟩)
  · refine dk_aload_n C dX1_ties_8 rfl rfl ?_
    refine ek_getI C fX1_13 Q.s0 Q.l0 rfl dX1_ties_9 ?_
    refine dk_iload_n C dX1_ties_12 rfl rfl ?_
    refine dk_icmp_ne C 20 dX1_ties_13 (by decide) (fun c2 => ?_) (fun c2 => ?_)
    · refine dk_iconst C (0) dX1_ties_20 rfl ?_
      exact dk_zret C E rfl dX1_ties_21 (Nat.zero_le _) (Nat.zero_le _) (⟨pI (bI_f (by simp [c1, c2])), rfl⟩)
    · refine dk_iconst C (1) dX1_ties_16 rfl ?_
      refine dk_goto C 21 dX1_ties_17 (by decide) ?_
      exact dk_zret C E rfl dX1_ties_21 (Nat.zero_le _) (Nat.zero_le _) (⟨pI (bI_t (by simp [c2])), rfl⟩)
set_option maxHeartbeats 4000000 in
set_option maxRecDepth 100000 in
theorem c_X1_partnerOf (G : dk_G) (sr : Nat → Option Nat) (hi : Nat → Nat → Int32) (hf : Nat → Nat → UInt32) (z : (Nat → Nat → Int64) × (Nat → Nat → UInt64)) {c : Nat} (Q : dk_Q1 c) (s : Int32) :
    dk_MF G yX1_partnerOf cX1_partnerOf 2 (some .int) 0 0 [.ref c, .int s] (hi, hf, dk_RF sr, z) (some (.int (if hi c 0 = s then hi c 2 else hi c 0))) (hi, hf, dk_RF sr, z) := by
  refine dk_met (L := [some (.ref c), some (.int s)]) pnX1 rfl (Nat.le_of_ble_eq_true rfl) ?_
  intro X C E hNm
  refine dk_aload_n C dX1_partnerOf_0 rfl rfl ?_
  refine ek_getI C fX1_7 Q.s0 Q.l0 rfl dX1_partnerOf_1 ?_
  refine dk_iload_n C dX1_partnerOf_4 rfl rfl ?_
  refine dk_icmp_ne C 15 dX1_partnerOf_5 (by decide) (fun c1 => ?_) (fun c1 => ?_)
  · refine dk_aload_n C dX1_partnerOf_15 rfl rfl ?_
    refine ek_getI C fX1_7 Q.s0 Q.l0 rfl dX1_partnerOf_16 ?_
    exact dk_iret C E dX1_partnerOf_19 (Nat.zero_le _) (Nat.zero_le _) (⟨pI (by rw [if_neg c1]), rfl⟩)
  · refine dk_aload_n C dX1_partnerOf_8 rfl rfl ?_
    refine ek_getI C fX1_13 Q.s0 Q.l0 rfl dX1_partnerOf_9 ?_
    refine dk_goto C 19 dX1_partnerOf_12 (by decide) ?_
    exact dk_iret C E dX1_partnerOf_19 (Nat.zero_le _) (Nat.zero_le _) (⟨pI (by rw [if_pos c1]), rfl⟩)
set_option maxHeartbeats 4000000 in
set_option maxRecDepth 100000 in
theorem c_X1_columnOf (G : dk_G) (sr : Nat → Option Nat) (hi : Nat → Nat → Int32) (hf : Nat → Nat → UInt32) (z : (Nat → Nat → Int64) × (Nat → Nat → UInt64)) {c : Nat} (Q : dk_Q1 c) (s : Int32) :
    dk_MF G yX1_columnOf cX1_columnOf 2 (some .int) 0 0 [.ref c, .int s] (hi, hf, dk_RF sr, z) (some (.int (if hi c 0 = s then hi c 1 else hi c 3))) (hi, hf, dk_RF sr, z) := by
  refine dk_met (L := [some (.ref c), some (.int s)]) pnX1 rfl (Nat.le_of_ble_eq_true rfl) ?_
  intro X C E hNm
  refine dk_aload_n C dX1_columnOf_0 rfl rfl ?_
  refine ek_getI C fX1_7 Q.s0 Q.l0 rfl dX1_columnOf_1 ?_
  refine dk_iload_n C dX1_columnOf_4 rfl rfl ?_
  refine dk_icmp_ne C 15 dX1_columnOf_5 (by decide) (fun c1 => ?_) (fun c1 => ?_)
  · refine dk_aload_n C dX1_columnOf_15 rfl rfl ?_
    refine ek_getI C fX1_19 Q.s0 Q.l0 rfl dX1_columnOf_16 ?_
    exact dk_iret C E dX1_columnOf_19 (Nat.zero_le _) (Nat.zero_le _) (⟨pI (by rw [if_neg c1]), rfl⟩)
  · refine dk_aload_n C dX1_columnOf_8 rfl rfl ?_
    refine ek_getI C fX1_16 Q.s0 Q.l0 rfl dX1_columnOf_9 ?_
    refine dk_goto C 19 dX1_columnOf_12 (by decide) ?_
    exact dk_iret C E dX1_columnOf_19 (Nat.zero_le _) (Nat.zero_le _) (⟨pI (by rw [if_pos c1]), rfl⟩)
/-- the question, emptied -/
def qu_clear (hi : Nat → Nat → Int32) : Nat → Nat → Int32 := dk_up (dk_up (dk_up (dk_up (dk_up (dk_up (dk_up hi 14 4 0) 14 5 0) 14 6 0) 14 7 0) 14 8 (-1)) 14 9 0) 14 10 64
set_option maxHeartbeats 4000000 in
set_option maxRecDepth 100000 in
theorem c_X4_clear (G : dk_G) (sr : Nat → Option Nat) (hi : Nat → Nat → Int32) (hf : Nat → Nat → UInt32) (z : (Nat → Nat → Int64) × (Nat → Nat → UInt64))  :
    dk_MF G yX4_clear cX4_clear 1 none 0 0 [.ref 14] (hi, hf, dk_RF sr, z) (none) (qu_clear hi, hf, dk_RF sr, z) := by
  refine dk_met (L := [some (.ref 14)]) pnX4 rfl (Nat.le_of_ble_eq_true rfl) ?_
  intro X C E hNm
  refine dk_aload_n C dX4_clear_0 rfl rfl ?_
  refine dk_iconst C (0) dX4_clear_1 rfl ?_
  refine ek_putI C fX4_45 fwX4_4 rfl (by decide) rfl dX4_clear_2 ?_
  refine dk_aload_n C dX4_clear_5 rfl rfl ?_
  refine dk_iconst C (0) dX4_clear_6 rfl ?_
  refine ek_putI C fX4_48 fwX4_5 rfl (by decide) rfl dX4_clear_7 ?_
  refine dk_aload_n C dX4_clear_10 rfl rfl ?_
  refine dk_iconst C (0) dX4_clear_11 rfl ?_
  refine ek_putI C fX4_51 fwX4_6 rfl (by decide) rfl dX4_clear_12 ?_
  refine dk_aload_n C dX4_clear_15 rfl rfl ?_
  refine dk_iconst C (0) dX4_clear_16 rfl ?_
  refine ek_putI C fX4_54 fwX4_7 rfl (by decide) rfl dX4_clear_17 ?_
  refine dk_aload_n C dX4_clear_20 rfl rfl ?_
  refine dk_iconst C (-1) dX4_clear_21 rfl ?_
  refine ek_putI C fX4_38 fwX4_8 rfl (by decide) rfl dX4_clear_22 ?_
  refine dk_aload_n C dX4_clear_25 rfl rfl ?_
  refine dk_iconst C (0) dX4_clear_26 rfl ?_
  refine ek_putZ C fX4_57 fwX4_9 rfl (by decide) rfl (Or.inl rfl) dX4_clear_27 ?_
  refine dk_aload_n C dX4_clear_30 rfl rfl ?_
  refine dk_bipush C (64) dX4_clear_31 rfl ?_
  refine ek_putI C fX4_42 fwX4_10 rfl (by decide) rfl dX4_clear_33 ?_
  exact dk_vret C E dX4_clear_36 (Nat.zero_le _) (Nat.zero_le _) (⟨rfl, rfl⟩)
/-- the sources stand: n of them, each a table's cell -/
def qu_S (sr : Nat → Option Nat) (n : Nat) (st : Nat → Nat) : Prop := n ≤ 3 ∧ ∀ k, k < n → sr k = some (st k) ∧ dk_T (st k)
def qu_has (hi : Nat → Nat → Int32) (n : Nat) (st : Nat → Nat) (s c : Int32) : Bool := decide (0 ≤ s ∧ s < nI n ∧ 0 ≤ c ∧ c < hi (st s.toNatClampNeg) 3)
set_option maxHeartbeats 4000000 in
set_option maxRecDepth 100000 in
theorem c_X4_hasColumn (G : dk_G) (sr : Nat → Option Nat) (hi : Nat → Nat → Int32) (hf : Nat → Nat → UInt32) (z : (Nat → Nat → Int64) × (Nat → Nat → UInt64)) (n : Nat) (st : Nat → Nat) (Sn : qu_S sr n st) (hn : hi 14 4 = nI n) (s c : Int32) :
    dk_MF G yX4_hasColumn cX4_hasColumn 3 (some .boolean) 1 21 [.ref 14, .int s, .int c] (hi, hf, dk_RF sr, z) (some (.int (bI (qu_has hi n st s c)))) (hi, hf, dk_RF sr, z) := by
  refine dk_met (L := [some (.ref 14), some (.int s), some (.int c)]) pnX4 rfl (Nat.le_of_ble_eq_true rfl) ?_
  intro X C E hNm
  have hn3 := Sn.1
  refine dk_iload_n C dX4_hasColumn_0 rfl rfl ?_
  rcases pk_ix s (n := n) (by omega) with h | h | ⟨j, hj, rfl⟩
  · refine dk_if_lt C 29 dX4_hasColumn_1 (by decide) (fun _ => ?_) (fun hz => absurd (h) hz)
    refine dk_iconst C (0) dX4_hasColumn_29 rfl ?_
    exact dk_zret C E rfl dX4_hasColumn_30 (Nat.zero_le _) (Nat.zero_le _) (⟨pI (bI_f (by simp [qu_has, Int32.not_le.mpr h])), rfl⟩)
  · have h0 : ¬ s < 0 := Int32.not_lt.mpr (Int32.le_trans (nI_pos' (by omega)) h)
    refine dk_if_lt C 29 dX4_hasColumn_1 (by decide) (fun hz => absurd hz (h0)) (fun _ => ?_)
    refine dk_iload_n C dX4_hasColumn_4 rfl rfl ?_
    refine dk_aload_n C dX4_hasColumn_5 rfl rfl ?_
    refine ek_getI C fX4_45 rfl (by decide) rfl dX4_hasColumn_6 ?_
    refine dk_icmp_ge C 29 dX4_hasColumn_9 (by decide) (fun _ => ?_) (fun hz => absurd (by rw [hn]; exact h) hz)
    refine dk_iconst C (0) dX4_hasColumn_29 rfl ?_
    exact dk_zret C E rfl dX4_hasColumn_30 (Nat.zero_le _) (Nat.zero_le _) (⟨pI (bI_f (by simp [qu_has, Int32.not_lt.mpr h])), rfl⟩)
  · obtain ⟨hs, T⟩ := Sn.2 j hj
    refine dk_if_lt C 29 dX4_hasColumn_1 (by decide) (fun hz => absurd hz (nI_pos (by omega))) (fun _ => ?_)
    refine dk_iload_n C dX4_hasColumn_4 rfl rfl ?_
    refine dk_aload_n C dX4_hasColumn_5 rfl rfl ?_
    refine ek_getI C fX4_45 rfl (by decide) rfl dX4_hasColumn_6 ?_
    refine dk_icmp_ge C 29 dX4_hasColumn_9 (by decide) (fun hz => absurd hz (by rw [hn]; exact nI_ge hj (by omega))) (fun _ => ?_)
    have hcl : (nI j).toNatClampNeg = j := nI_clamp (by omega)
    have hjl := nI_lt hj (show n < 2 ^ 31 by omega)
    refine dk_aload_n C dX4_hasColumn_12 rfl rfl ?_
    refine ek_getR C fX4_13 rfl (by decide) rfl 15 rfl dX4_hasColumn_13 ?_
    refine dk_iload_n C dX4_hasColumn_16 rfl rfl ?_
    refine ek_aald C rfl (by decide) (by decide) (j) (rfl) (by omega) (by decide) (st j) (hs) dX4_hasColumn_17 ?_
    refine dk_iload_n C dX4_hasColumn_18 rfl rfl ?_
    refine ek_callV C mX4_61 (c_X5_hasColumn _ _ _ _ _ T c) T.s0 T.l0 rfl rfl (Nat.le_of_ble_eq_true rfl) (by decide) (by decide) (Nat.zero_le _) (Nat.zero_le _) dX4_hasColumn_19 ?_
    refine dk_if_eq C 29 dX4_hasColumn_22 (by decide) (fun c1 => ?_) (fun c1 => ?_)
    · have e : qu_has hi n st (nI j) c = false := by
        have : ¬ (0 ≤ c ∧ c < hi (st j) 3) := fun q => by rw [if_pos q] at c1; exact absurd c1 (by decide)
        simp only [qu_has, hcl, decide_eq_false_iff_not]
        exact fun q => this q.2.2
      refine dk_iconst C (0) dX4_hasColumn_29 rfl ?_
      exact dk_zret C E rfl dX4_hasColumn_30 (Nat.zero_le _) (Nat.zero_le _) (⟨pI (bI_f e), rfl⟩)
    · have e : qu_has hi n st (nI j) c = true := by
        have : 0 ≤ c ∧ c < hi (st j) 3 := Classical.byContradiction fun q => c1 (by rw [if_neg q])
        simp only [qu_has, hcl, decide_eq_true_eq]
        exact ⟨nI_pos' (by omega), hjl, this⟩
      refine dk_iconst C (1) dX4_hasColumn_25 rfl ?_
      refine dk_goto C 30 dX4_hasColumn_26 (by decide) ?_
      exact dk_zret C E rfl dX4_hasColumn_30 (Nat.zero_le _) (Nat.zero_le _) (⟨pI (bI_t e), rfl⟩)
set_option maxHeartbeats 4000000 in
set_option maxRecDepth 100000 in
theorem c_X4_addSource (G : dk_G) (sr : Nat → Option Nat) (hi : Nat → Nat → Int32) (hf : Nat → Nat → UInt32) (z : (Nat → Nat → Int64) × (Nat → Nat → UInt64)) (n : Nat) {t : Nat} (T : dk_T t) (hn : hi 14 4 = nI n) (hn3 : n < 3) :
    dk_MF G yX4_addSource cX4_addSource 3 (some .int) 0 0 [.ref 14, .ref t] (hi, hf, dk_RF sr, z) (some (.int (nI n))) (dk_up hi 14 4 (nI (n + 1)), hf, dk_RF (sr_up sr n (some t)), z) := by
  refine dk_met (L := [some (.ref 14), some (.ref t), none]) pnX4 rfl (Nat.le_of_ble_eq_true rfl) ?_
  intro X C E hNm
  refine dk_aload_n C dX4_addSource_0 rfl rfl ?_
  refine ek_getI C fX4_45 rfl (by decide) rfl dX4_addSource_1 ?_
  refine dk_istore_n C dX4_addSource_4 rfl (by decide) rfl ?_
  refine dk_aload_n C dX4_addSource_5 rfl rfl ?_
  refine ek_getR C fX4_13 rfl (by decide) rfl 15 rfl dX4_addSource_6 ?_
  refine dk_iload_n C dX4_addSource_9 rfl rfl ?_
  refine dk_aload_n C dX4_addSource_10 rfl rfl ?_
  refine ek_aast C (n) (hn) (hn3) (T) dX4_addSource_11 ?_
  refine dk_aload_n C dX4_addSource_12 rfl rfl ?_
  refine dk_dup C dX4_addSource_13 rfl ?_
  refine ek_getI C fX4_45 rfl (by decide) rfl dX4_addSource_14 ?_
  refine dk_iconst C (1) dX4_addSource_17 rfl ?_
  refine dk_iadd C dX4_addSource_18 ?_
  refine ek_putI C fX4_45 fwX4_4 rfl (by decide) rfl dX4_addSource_19 ?_
  rw [hn]
  refine dk_iload_n C dX4_addSource_22 rfl rfl ?_
  exact dk_iret C E dX4_addSource_23 (Nat.zero_le _) (Nat.zero_le _) (⟨rfl, by rw [nI_1]⟩)
/-- a condition, a join, an output more -/
def qu_addC (hi : Nat → Nat → Int32) (n : Nat) (s c o x : Int32) : Nat → Nat → Int32 := dk_up (dk_up (dk_up (dk_up (dk_up hi (17 + n) 0 s) (17 + n) 1 c) (17 + n) 2 o) (17 + n) 3 x) 14 5 (nI (n + 1))
theorem dk_RF16 (sr : Nat → Option Nat) {n : Nat} (h : n < 4) : dk_RF sr 16 n = some (17 + n) := by rcases (show n = 0 ∨ n = 1 ∨ n = 2 ∨ n = 3 by omega) with rfl | rfl | rfl | rfl <;> rfl
theorem dk_RF21 (sr : Nat → Option Nat) {n : Nat} (h : n < 3) : dk_RF sr 21 n = some (22 + n) := by rcases (show n = 0 ∨ n = 1 ∨ n = 2 by omega) with rfl | rfl | rfl <;> rfl
theorem dk_RF25 (sr : Nat → Option Nat) {n : Nat} (h : n < 4) : dk_RF sr 25 n = some (26 + n) := by rcases (show n = 0 ∨ n = 1 ∨ n = 2 ∨ n = 3 by omega) with rfl | rfl | rfl | rfl <;> rfl
theorem dk_RF1 (sr : Nat → Option Nat) {n : Nat} (h : n < 3) : dk_RF sr 1 n = some (2 + 4 * n) := by rcases (show n = 0 ∨ n = 1 ∨ n = 2 by omega) with rfl | rfl | rfl <;> rfl
theorem dk_T1 {n : Nat} (h : n < 3) : dk_T (2 + 4 * n) := by unfold dk_T; omega
theorem dk_Q0i {n : Nat} (h : n < 4) : dk_Q0 (17 + n) := by unfold dk_Q0; omega
theorem dk_Q1i {n : Nat} (h : n < 3) : dk_Q1 (22 + n) := by unfold dk_Q1; omega
theorem dk_Q2i {n : Nat} (h : n < 4) : dk_Q2 (26 + n) := by unfold dk_Q2; omega
set_option maxHeartbeats 4000000 in
set_option maxRecDepth 100000 in
theorem c_X4_addCondition (G : dk_G) (sr : Nat → Option Nat) (hi : Nat → Nat → Int32) (hf : Nat → Nat → UInt32) (z : (Nat → Nat → Int64) × (Nat → Nat → UInt64)) (n : Nat) (hn : hi 14 5 = nI n) (hn4 : n < 4) (s c o x : Int32) :
    dk_MF G yX4_addCondition cX4_addCondition 6 none 0 0 [.ref 14, .int s, .int c, .int o, .int x] (hi, hf, dk_RF sr, z) (none) (qu_addC hi n s c o x, hf, dk_RF sr, z) := by
  refine dk_met (L := [some (.ref 14), some (.int s), some (.int c), some (.int o), some (.int x), none]) pnX4 rfl (Nat.le_of_ble_eq_true rfl) ?_
  intro X C E hNm
  have Q := dk_Q0i hn4
  refine dk_aload_n C dX4_addCondition_0 rfl rfl ?_
  refine ek_getR C fX4_19 rfl (by decide) rfl 16 rfl dX4_addCondition_1 ?_
  refine dk_aload_n C dX4_addCondition_4 rfl rfl ?_
  refine ek_getI C fX4_48 rfl (by decide) rfl dX4_addCondition_5 ?_
  refine ek_aald C rfl (by decide) (by decide) (n) (hn) (hn4) (by decide) (17 + n) (dk_RF16 sr hn4) dX4_addCondition_8 ?_
  refine dk_astore C dX4_addCondition_9 (by decide) rfl ?_
  refine dk_aload C dX4_addCondition_11 rfl ?_
  refine dk_iload_n C dX4_addCondition_13 rfl rfl ?_
  refine ek_putI C fX4_65 fwX0_0 Q.s0 Q.l0 rfl dX4_addCondition_14 ?_
  refine dk_aload C dX4_addCondition_17 rfl ?_
  refine dk_iload_n C dX4_addCondition_19 rfl rfl ?_
  refine ek_putI C fX4_68 fwX0_1 Q.s0 Q.l0 rfl dX4_addCondition_20 ?_
  refine dk_aload C dX4_addCondition_23 rfl ?_
  refine dk_iload_n C dX4_addCondition_25 rfl rfl ?_
  refine ek_putI C fX4_71 fwX0_2 Q.s0 Q.l0 rfl dX4_addCondition_26 ?_
  refine dk_aload C dX4_addCondition_29 rfl ?_
  refine dk_iload C dX4_addCondition_31 rfl ?_
  refine ek_putI C fX4_74 fwX0_3 Q.s0 Q.l0 rfl dX4_addCondition_33 ?_
  refine dk_aload_n C dX4_addCondition_36 rfl rfl ?_
  refine dk_dup C dX4_addCondition_37 rfl ?_
  refine ek_getI C fX4_48 rfl (by decide) rfl dX4_addCondition_38 ?_
  refine dk_iconst C (1) dX4_addCondition_41 rfl ?_
  refine dk_iadd C dX4_addCondition_42 ?_
  refine ek_putI C fX4_48 fwX4_5 rfl (by decide) rfl dX4_addCondition_43 ?_
  have e : dk_up (dk_up (dk_up (dk_up hi (17 + n) 0 s) (17 + n) 1 c) (17 + n) 2 o) (17 + n) 3 x 14 5 = nI n := by
    rw [dk_up_ne _ _ (Or.inl (by omega)), dk_up_ne _ _ (Or.inl (by omega)), dk_up_ne _ _ (Or.inl (by omega)), dk_up_ne _ _ (Or.inl (by omega)), hn]
  rw [e, nI_1]
  exact dk_vret C E dX4_addCondition_46 (Nat.zero_le _) (Nat.zero_le _) (⟨rfl, rfl⟩)
def qu_addJ (hi : Nat → Nat → Int32) (n : Nat) (s c o x : Int32) : Nat → Nat → Int32 := dk_up (dk_up (dk_up (dk_up (dk_up hi (22 + n) 0 s) (22 + n) 1 c) (22 + n) 2 o) (22 + n) 3 x) 14 6 (nI (n + 1))
set_option maxHeartbeats 4000000 in
set_option maxRecDepth 100000 in
theorem c_X4_addJoin (G : dk_G) (sr : Nat → Option Nat) (hi : Nat → Nat → Int32) (hf : Nat → Nat → UInt32) (z : (Nat → Nat → Int64) × (Nat → Nat → UInt64)) (n : Nat) (hn : hi 14 6 = nI n) (hn3 : n < 3) (s c o x : Int32) :
    dk_MF G yX4_addJoin cX4_addJoin 6 none 0 0 [.ref 14, .int s, .int c, .int o, .int x] (hi, hf, dk_RF sr, z) (none) (qu_addJ hi n s c o x, hf, dk_RF sr, z) := by
  refine dk_met (L := [some (.ref 14), some (.int s), some (.int c), some (.int o), some (.int x), none]) pnX4 rfl (Nat.le_of_ble_eq_true rfl) ?_
  intro X C E hNm
  have Q := dk_Q1i hn3
  refine dk_aload_n C dX4_addJoin_0 rfl rfl ?_
  refine ek_getR C fX4_26 rfl (by decide) rfl 21 rfl dX4_addJoin_1 ?_
  refine dk_aload_n C dX4_addJoin_4 rfl rfl ?_
  refine ek_getI C fX4_51 rfl (by decide) rfl dX4_addJoin_5 ?_
  refine ek_aald C rfl (by decide) (by decide) (n) (hn) (hn3) (by decide) (22 + n) (dk_RF21 sr hn3) dX4_addJoin_8 ?_
  refine dk_astore C dX4_addJoin_9 (by decide) rfl ?_
  refine dk_aload C dX4_addJoin_11 rfl ?_
  refine dk_iload_n C dX4_addJoin_13 rfl rfl ?_
  refine ek_putI C fX4_77 fwX1_0 Q.s0 Q.l0 rfl dX4_addJoin_14 ?_
  refine dk_aload C dX4_addJoin_17 rfl ?_
  refine dk_iload_n C dX4_addJoin_19 rfl rfl ?_
  refine ek_putI C fX4_80 fwX1_1 Q.s0 Q.l0 rfl dX4_addJoin_20 ?_
  refine dk_aload C dX4_addJoin_23 rfl ?_
  refine dk_iload_n C dX4_addJoin_25 rfl rfl ?_
  refine ek_putI C fX4_83 fwX1_2 Q.s0 Q.l0 rfl dX4_addJoin_26 ?_
  refine dk_aload C dX4_addJoin_29 rfl ?_
  refine dk_iload C dX4_addJoin_31 rfl ?_
  refine ek_putI C fX4_86 fwX1_3 Q.s0 Q.l0 rfl dX4_addJoin_33 ?_
  refine dk_aload_n C dX4_addJoin_36 rfl rfl ?_
  refine dk_dup C dX4_addJoin_37 rfl ?_
  refine ek_getI C fX4_51 rfl (by decide) rfl dX4_addJoin_38 ?_
  refine dk_iconst C (1) dX4_addJoin_41 rfl ?_
  refine dk_iadd C dX4_addJoin_42 ?_
  refine ek_putI C fX4_51 fwX4_6 rfl (by decide) rfl dX4_addJoin_43 ?_
  have e : dk_up (dk_up (dk_up (dk_up hi (22 + n) 0 s) (22 + n) 1 c) (22 + n) 2 o) (22 + n) 3 x 14 6 = nI n := by
    rw [dk_up_ne _ _ (Or.inl (by omega)), dk_up_ne _ _ (Or.inl (by omega)), dk_up_ne _ _ (Or.inl (by omega)), dk_up_ne _ _ (Or.inl (by omega)), hn]
  rw [e, nI_1]
  exact dk_vret C E dX4_addJoin_46 (Nat.zero_le _) (Nat.zero_le _) (⟨rfl, rfl⟩)
def qu_addO (hi : Nat → Nat → Int32) (n : Nat) (s c : Int32) : Nat → Nat → Int32 := dk_up (dk_up (dk_up hi (26 + n) 0 s) (26 + n) 1 c) 14 7 (nI (n + 1))
set_option maxHeartbeats 4000000 in
set_option maxRecDepth 100000 in
theorem c_X4_addOutput (G : dk_G) (sr : Nat → Option Nat) (hi : Nat → Nat → Int32) (hf : Nat → Nat → UInt32) (z : (Nat → Nat → Int64) × (Nat → Nat → UInt64)) (n : Nat) (hn : hi 14 7 = nI n) (hn4 : n < 4) (s c : Int32) :
    dk_MF G yX4_addOutput cX4_addOutput 4 (some .int) 0 0 [.ref 14, .int s, .int c] (hi, hf, dk_RF sr, z) (some (.int (nI n))) (qu_addO hi n s c, hf, dk_RF sr, z) := by
  refine dk_met (L := [some (.ref 14), some (.int s), some (.int c), none]) pnX4 rfl (Nat.le_of_ble_eq_true rfl) ?_
  intro X C E hNm
  have Q := dk_Q2i hn4
  refine dk_aload_n C dX4_addOutput_0 rfl rfl ?_
  refine ek_getI C fX4_54 rfl (by decide) rfl dX4_addOutput_1 ?_
  refine dk_istore_n C dX4_addOutput_4 rfl (by decide) rfl ?_
  refine dk_aload_n C dX4_addOutput_5 rfl rfl ?_
  refine ek_getR C fX4_33 rfl (by decide) rfl 25 rfl dX4_addOutput_6 ?_
  refine dk_iload_n C dX4_addOutput_9 rfl rfl ?_
  refine ek_aald C rfl (by decide) (by decide) (n) (hn) (hn4) (by decide) (26 + n) (dk_RF25 sr hn4) dX4_addOutput_10 ?_
  refine dk_iload_n C dX4_addOutput_11 rfl rfl ?_
  refine ek_putI C fX4_89 fwX2_0 Q.s0 Q.l0 rfl dX4_addOutput_12 ?_
  refine dk_aload_n C dX4_addOutput_15 rfl rfl ?_
  refine ek_getR C fX4_33 rfl (by decide) rfl 25 rfl dX4_addOutput_16 ?_
  refine dk_iload_n C dX4_addOutput_19 rfl rfl ?_
  refine ek_aald C rfl (by decide) (by decide) (n) (hn) (hn4) (by decide) (26 + n) (dk_RF25 sr hn4) dX4_addOutput_20 ?_
  refine dk_iload_n C dX4_addOutput_21 rfl rfl ?_
  refine ek_putI C fX4_90 fwX2_1 Q.s0 Q.l0 rfl dX4_addOutput_22 ?_
  have e : dk_up (dk_up hi (26 + n) 0 s) (26 + n) 1 c 14 7 = nI n := by
    rw [dk_up_ne _ _ (Or.inl (by omega)), dk_up_ne _ _ (Or.inl (by omega)), hn]
  refine dk_aload_n C dX4_addOutput_25 rfl rfl ?_
  refine dk_dup C dX4_addOutput_26 rfl ?_
  refine ek_getI C fX4_54 rfl (by decide) rfl dX4_addOutput_27 ?_
  refine dk_iconst C (1) dX4_addOutput_30 rfl ?_
  refine dk_iadd C dX4_addOutput_31 ?_
  refine ek_putI C fX4_54 fwX4_7 rfl (by decide) rfl dX4_addOutput_32 ?_
  rw [e, nI_1, hn]
  refine dk_iload_n C dX4_addOutput_35 rfl rfl ?_
  exact dk_iret C E dX4_addOutput_36 (Nat.zero_le _) (Nat.zero_le _) (⟨rfl, rfl⟩)
set_option maxHeartbeats 4000000 in
set_option maxRecDepth 100000 in
theorem c_X4_isOrdered (G : dk_G) (sr : Nat → Option Nat) (hi : Nat → Nat → Int32) (hf : Nat → Nat → UInt32) (z : (Nat → Nat → Int64) × (Nat → Nat → UInt64))  :
    dk_MF G yX4_isOrdered cX4_isOrdered 1 (some .boolean) 0 0 [.ref 14] (hi, hf, dk_RF sr, z) (some (.int (bI (decide (hi 14 8 ≠ -1))))) (hi, hf, dk_RF sr, z) := by
  refine dk_met (L := [some (.ref 14)]) pnX4 rfl (Nat.le_of_ble_eq_true rfl) ?_
  intro X C E hNm
  refine dk_aload_n C dX4_isOrdered_0 rfl rfl ?_
  refine ek_getI C fX4_38 rfl (by decide) rfl dX4_isOrdered_1 ?_
  refine dk_iconst C (-1) dX4_isOrdered_4 rfl ?_
  refine dk_icmp_eq C 12 dX4_isOrdered_5 (by decide) (fun c1 => ?_) (fun c1 => ?_)
  · refine dk_iconst C (0) dX4_isOrdered_12 rfl ?_
    exact dk_zret C E rfl dX4_isOrdered_13 (Nat.zero_le _) (Nat.zero_le _) (⟨pI (bI_f (by simp [c1])), rfl⟩)
  · refine dk_iconst C (1) dX4_isOrdered_8 rfl ?_
    refine dk_goto C 13 dX4_isOrdered_9 (by decide) ?_
    exact dk_zret C E rfl dX4_isOrdered_13 (Nat.zero_le _) (Nat.zero_le _) (⟨pI (bI_t (by simpa using c1)), rfl⟩)
set_option maxHeartbeats 4000000 in
set_option maxRecDepth 100000 in
theorem c_X4_enoughAnswers (G : dk_G) (sr : Nat → Option Nat) (hi : Nat → Nat → Int32) (hf : Nat → Nat → UInt32) (z : (Nat → Nat → Int64) × (Nat → Nat → UInt64))  :
    dk_MF G yX4_enoughAnswers cX4_enoughAnswers 1 (some .int) 1 20 [.ref 14] (hi, hf, dk_RF sr, z) (some (.int (if hi 14 8 = -1 then hi 14 10 else 64))) (hi, hf, dk_RF sr, z) := by
  refine dk_met (L := [some (.ref 14)]) pnX4 rfl (Nat.le_of_ble_eq_true rfl) ?_
  intro X C E hNm
  refine dk_aload_n C dX4_enoughAnswers_0 rfl rfl ?_
  refine ek_callV C mX4_91 (c_X4_isOrdered _ _ _ _ _) rfl (by decide) rfl rfl (Nat.le_of_ble_eq_true rfl) (by decide) (by decide) (Nat.zero_le _) (Nat.zero_le _) dX4_enoughAnswers_1 ?_
  refine dk_if_eq C 12 dX4_enoughAnswers_4 (by decide) (fun c1 => ?_) (fun c1 => ?_)
  · refine dk_aload_n C dX4_enoughAnswers_12 rfl rfl ?_
    refine ek_getI C fX4_42 rfl (by decide) rfl dX4_enoughAnswers_13 ?_
    exact dk_iret C E dX4_enoughAnswers_16 (Nat.zero_le _) (Nat.zero_le _) (⟨pI (by rw [if_pos]; simpa using bI_n0 c1), rfl⟩)
  · refine dk_bipush C (64) dX4_enoughAnswers_7 rfl ?_
    refine dk_goto C 16 dX4_enoughAnswers_9 (by decide) ?_
    exact dk_iret C E dX4_enoughAnswers_16 (Nat.zero_le _) (Nat.zero_le _) (⟨pI (by rw [if_neg]; simpa using bI_n1 c1), rfl⟩)
end
section
/-! ===== QueryDesk$Work: the leaves ===== -/
def wk_clear (hi : Nat → Nat → Int32) : Nat → Nat → Int32 := dk_up (dk_up (dk_up hi 38 6 0) 38 7 0) 38 8 (-1)
set_option maxHeartbeats 4000000 in
set_option maxRecDepth 100000 in
theorem c_X6_clear (G : dk_G) (sr : Nat → Option Nat) (hi : Nat → Nat → Int32) (hf : Nat → Nat → UInt32) (z : (Nat → Nat → Int64) × (Nat → Nat → UInt64))  :
    dk_MF G yX6_clear cX6_clear 1 none 0 0 [.ref 38] (hi, hf, dk_RF sr, z) (none) (wk_clear hi, hf, dk_RF sr, z) := by
  refine dk_met (L := [some (.ref 38)]) pnX6 rfl (Nat.le_of_ble_eq_true rfl) ?_
  intro X C E hNm
  refine dk_aload_n C dX6_clear_0 rfl rfl ?_
  refine dk_iconst C (0) dX6_clear_1 rfl ?_
  refine ek_putI C fX6_38 fwX6_6 rfl (by decide) rfl dX6_clear_2 ?_
  refine dk_aload_n C dX6_clear_5 rfl rfl ?_
  refine dk_iconst C (0) dX6_clear_6 rfl ?_
  refine ek_putI C fX6_41 fwX6_7 rfl (by decide) rfl dX6_clear_7 ?_
  refine dk_aload_n C dX6_clear_10 rfl rfl ?_
  refine dk_iconst C (-1) dX6_clear_11 rfl ?_
  refine ek_putI C fX6_34 fwX6_8 rfl (by decide) rfl dX6_clear_12 ?_
  exact dk_vret C E dX6_clear_15 (Nat.zero_le _) (Nat.zero_le _) (⟨rfl, rfl⟩)
theorem nI24 (d m : Nat) : nI d * 24 + nI m = nI (d * 24 + m) := by rw [show (24 : Int32) = nI 24 from rfl, pk_mul, nI_add]
theorem nI24k (d : Nat) : nI d * 24 = nI (d * 24) := by rw [show (24 : Int32) = nI 24 from rfl, pk_mul]
theorem nIm1 {k : Nat} (h : 0 < k) : nI k - 1 = nI (k - 1) := by rw [show (1 : Int32) = nI 1 from rfl, pk_sub (by omega)]
def wk_add (hi : Nat → Nat → Int32) (d m : Nat) (x : Int32) : Nat → Nat → Int32 := dk_up (dk_up hi 39 (d * 24 + m) x) 40 d (nI (m + 1))
set_option maxHeartbeats 4000000 in
set_option maxRecDepth 100000 in
theorem c_X6_addPlace (G : dk_G) (sr : Nat → Option Nat) (hi : Nat → Nat → Int32) (hf : Nat → Nat → UInt32) (z : (Nat → Nat → Int64) × (Nat → Nat → UInt64)) (d m : Nat) (x : Int32) (hd : hi 38 8 = nI d) (hd' : d < 3) (hm : hi 40 d = nI m) (hm' : m < 24) :
    dk_MF G yX6_addPlace cX6_addPlace 2 none 0 0 [.ref 38, .int x] (hi, hf, dk_RF sr, z) (none) (wk_add hi d m x, hf, dk_RF sr, z) := by
  refine dk_met (L := [some (.ref 38), some (.int x)]) pnX6 rfl (Nat.le_of_ble_eq_true rfl) ?_
  intro X C E hNm
  refine dk_aload_n C dX6_addPlace_0 rfl rfl ?_
  refine ek_getR C fX6_13 rfl (by decide) rfl 39 rfl dX6_addPlace_1 ?_
  refine dk_aload_n C dX6_addPlace_4 rfl rfl ?_
  refine ek_getI C fX6_34 rfl (by decide) rfl dX6_addPlace_5 ?_
  refine dk_bipush C (24) dX6_addPlace_8 rfl ?_
  refine dk_imul C dX6_addPlace_10 ?_
  refine dk_aload_n C dX6_addPlace_11 rfl rfl ?_
  refine ek_getR C fX6_19 rfl (by decide) rfl 40 rfl dX6_addPlace_12 ?_
  refine dk_aload_n C dX6_addPlace_15 rfl rfl ?_
  refine ek_getI C fX6_34 rfl (by decide) rfl dX6_addPlace_16 ?_
  refine ek_iald C rfl (by decide) (d) (hd) (hd') (by decide) dX6_addPlace_19 ?_
  refine dk_iadd C dX6_addPlace_20 ?_
  refine dk_iload_n C dX6_addPlace_21 rfl rfl ?_
  refine ek_iast C rfl (by decide) (d * 24 + m) (by rw [hd, hm, nI24]) (by omega) (by decide) dX6_addPlace_22 ?_
  have e1 : dk_up hi 39 (d * 24 + m) x 38 8 = nI d := by rw [dk_up_ne _ _ (Or.inl (by decide)), hd]
  have e2 : dk_up hi 39 (d * 24 + m) x 40 d = nI m := by rw [dk_up_ne _ _ (Or.inl (by decide)), hm]
  refine dk_aload_n C dX6_addPlace_23 rfl rfl ?_
  refine ek_getR C fX6_19 rfl (by decide) rfl 40 rfl dX6_addPlace_24 ?_
  refine dk_aload_n C dX6_addPlace_27 rfl rfl ?_
  refine ek_getI C fX6_34 rfl (by decide) rfl dX6_addPlace_28 ?_
  refine dk_dup2 C dX6_addPlace_31 rfl rfl ?_
  refine ek_iald C rfl (by decide) (d) (e1) (hd') (by decide) dX6_addPlace_32 ?_
  refine dk_iconst C (1) dX6_addPlace_33 rfl ?_
  refine dk_iadd C dX6_addPlace_34 ?_
  refine ek_iast C rfl (by decide) (d) (e1) (hd') (by decide) dX6_addPlace_35 ?_
  rw [e2, nI_1]
  exact dk_vret C E dX6_addPlace_36 (Nat.zero_le _) (Nat.zero_le _) (⟨rfl, rfl⟩)
theorem dk_cp_0 (hi : Nat → Nat → Int32) (a s d : Nat) : dk_cp hi a s d 0 = hi := by
  funext i j
  simp only [dk_cp, va_cpy]
  by_cases h : i = a
  · subst h; rw [if_pos rfl, if_neg (by omega)]
  · rw [if_neg h]
theorem dk_cp_s (hi : Nat → Nat → Int32) (a s n : Nat) : dk_up (dk_cp hi a (s + 1) (s + 2) n) a (s + 1) (hi a s) = dk_cp hi a s (s + 1) (n + 1) := by
  funext i j
  simp only [dk_cp, va_cpy, dk_up]
  by_cases h : i = a
  · subst h
    by_cases h2 : j = s + 1
    · subst h2; rw [if_pos ⟨rfl, rfl⟩, if_pos rfl, if_pos (by omega)]; congr 1; omega
    · rw [if_neg (fun q => h2 q.2), if_pos rfl, if_pos rfl]
      by_cases h3 : s + 2 ≤ j ∧ j < s + 2 + n
      · rw [if_pos h3, if_pos (by omega)]; congr 1; omega
      · rw [if_neg h3, if_neg (by omega)]
  · simp [h]
theorem dk_cp_at (hi : Nat → Nat → Int32) {a s n j : Nat} (h : j ≤ s) : dk_cp hi a s (s + 1) n a j = hi a j := by
  simp only [dk_cp, va_cpy, if_true]
  rw [if_neg (by omega)]
theorem dk_cp_ne (hi : Nat → Nat → Int32) {a s d n i j : Nat} (h : i ≠ a) : dk_cp hi a s d n i j = hi i j := by
  simp only [dk_cp]
  rw [if_neg h]
def wk_sink (hi : Nat → Nat → Int32) (s m k : Nat) : Nat → Nat → Int32 := dk_up (dk_cp hi 39 (s + k) (s + k + 1) (m - k)) 39 (s + k) (hi 39 (s + m))
set_option maxHeartbeats 4000000 in
set_option maxRecDepth 100000 in
/-- the place added last sinks before those with greater values -/
theorem c_X6_sinkLastPlace (G : dk_G) (sr : Nat → Option Nat) (hi : Nat → Nat → Int32) (hf : Nat → Nat → UInt32) (z : (Nat → Nat → Int64) × (Nat → Nat → UInt64)) {t : Nat} (T : dk_T t) (c d m : Nat) (P : Nat → Nat) (hc : c < 4) (hd : hi 38 8 = nI d) (hd' : d < 3) (hm : hi 40 d = nI (m + 1)) (hm' : m < 24) (hP : ∀ i, i ≤ m → hi 39 (d * 24 + i) = nI (P i) ∧ P i < 24) :
    dk_M G yX6_sinkLastPlace cX6_sinkLastPlace 7 none { frames := 1, cells := 0, slots := 0, locals := 22 } [.ref 38, .ref t, .int (nI c)] 63 (hi, hf, dk_RF sr, z) 63 (fun r' h' => r' = none ∧ ∃ k, k ≤ m ∧ (k = 0 ∨ tb_c hi t c (P (k - 1)) ≤ tb_c hi t c (P m)) ∧ (∀ i, k ≤ i → i < m → tb_c hi t c (P m) < tb_c hi t c (P i)) ∧ h' = (wk_sink hi (d * 24) m k, hf, dk_RF sr, z)) := by
  refine dk_met (L := [some (.ref 38), some (.ref t), some (.int (nI c)), none, none, none, none]) pnX6 rfl (Nat.le_of_ble_eq_true rfl) ?_
  intro X C E hNm
  have hpm := hP m (Nat.le_refl m)
  have tne : t + 2 ≠ 39 := by rcases T with rfl | rfl | rfl <;> decide
  have loop : ∀ k, k ≤ m → (∀ i, k ≤ i → i < m → tb_c hi t c (P m) < tb_c hi t c (P i)) → dk_W X 41 [some (.ref 38), some (.ref t), some (.int (nI c)), some (.int (nI (d * 24))), some (.int (nI (d * 24 + k))), some (.int (nI (P m))), some (.int (tb_c hi t c (P m)))] [] 63 (dk_cp hi 39 (d * 24 + k) (d * 24 + k + 1) (m - k), hf, dk_RF sr, z) 0 0 := by
    intro k
    induction k with
    | zero =>
      intro hk hg
      refine dk_iload C dX6_sinkLastPlace_41 rfl ?_
      refine dk_iload_n C dX6_sinkLastPlace_43 rfl rfl ?_
      refine dk_icmp_le C 88 dX6_sinkLastPlace_44 (by decide) (fun _ => ?_) (fun hz => absurd (Int32.le_refl _) hz)
      refine dk_aload_n C dX6_sinkLastPlace_88 rfl rfl ?_
      refine ek_getR C fX6_13 rfl (by decide) rfl 39 rfl dX6_sinkLastPlace_89 ?_
      refine dk_iload C dX6_sinkLastPlace_92 rfl ?_
      refine dk_iload C dX6_sinkLastPlace_94 rfl ?_
      refine ek_iast C rfl (by decide) (d * 24 + 0) (rfl) (by omega) (by decide) dX6_sinkLastPlace_96 ?_
      exact dk_vret C E dX6_sinkLastPlace_97 (Nat.zero_le _) (Nat.zero_le _) (⟨rfl, 0, Nat.zero_le _, Or.inl rfl, hg, by rw [wk_sink, hpm.1]⟩)
    | succ k ih =>
      intro hk hg
      have hpk := hP k (by omega)
      have e1 : nI (d * 24 + (k + 1)) - 1 = nI (d * 24 + k) := nIm1 (by omega)
      have e2 : dk_cp hi 39 (d * 24 + (k + 1)) (d * 24 + (k + 1) + 1) (m - (k + 1)) 39 (d * 24 + k) = nI (P k) := by rw [dk_cp_at hi (by omega), hpk.1]
      refine dk_iload C dX6_sinkLastPlace_41 rfl ?_
      refine dk_iload_n C dX6_sinkLastPlace_43 rfl rfl ?_
      refine dk_icmp_le C 88 dX6_sinkLastPlace_44 (by decide) (fun hz => absurd hz (nI_ge (by omega) (by omega))) (fun _ => ?_)
      refine dk_aload_n C dX6_sinkLastPlace_47 rfl rfl ?_
      refine dk_aload_n C dX6_sinkLastPlace_48 rfl rfl ?_
      refine ek_getR C fX6_13 rfl (by decide) rfl 39 rfl dX6_sinkLastPlace_49 ?_
      refine dk_iload C dX6_sinkLastPlace_52 rfl ?_
      refine dk_iconst C (1) dX6_sinkLastPlace_54 rfl ?_
      refine dk_isub C dX6_sinkLastPlace_55 ?_
      refine ek_iald C rfl (by decide) (d * 24 + k) (e1) (by omega) (by decide) dX6_sinkLastPlace_56 ?_
      rw [e2]
      refine dk_iload_n C dX6_sinkLastPlace_57 rfl rfl ?_
      refine ek_callV C mX6_126 (c_X5_value _ _ _ _ _ T (P k) c hpk.2 hc) T.s0 T.l0 rfl rfl (Nat.le_of_ble_eq_true rfl) (by decide) (by decide) (Nat.zero_le _) (Nat.zero_le _) dX6_sinkLastPlace_58 ?_
      refine dk_iload C dX6_sinkLastPlace_61 rfl ?_
      have e3 : dk_cp hi 39 (d * 24 + (k + 1)) (d * 24 + (k + 1) + 1) (m - (k + 1)) (t + 2) (P k * 4 + c) = tb_c hi t c (P k) := dk_cp_ne hi tne
      rw [e3]
      refine dk_icmp_le C 88 dX6_sinkLastPlace_63 (by decide) (fun c1 => ?_) (fun c1 => ?_)
      · refine dk_aload_n C dX6_sinkLastPlace_88 rfl rfl ?_
        refine ek_getR C fX6_13 rfl (by decide) rfl 39 rfl dX6_sinkLastPlace_89 ?_
        refine dk_iload C dX6_sinkLastPlace_92 rfl ?_
        refine dk_iload C dX6_sinkLastPlace_94 rfl ?_
        refine ek_iast C rfl (by decide) (d * 24 + (k + 1)) (rfl) (by omega) (by decide) dX6_sinkLastPlace_96 ?_
        exact dk_vret C E dX6_sinkLastPlace_97 (Nat.zero_le _) (Nat.zero_le _) (⟨rfl, k + 1, hk, Or.inr c1, hg, by rw [wk_sink, hpm.1]⟩)
      · refine dk_aload_n C dX6_sinkLastPlace_66 rfl rfl ?_
        refine ek_getR C fX6_13 rfl (by decide) rfl 39 rfl dX6_sinkLastPlace_67 ?_
        refine dk_iload C dX6_sinkLastPlace_70 rfl ?_
        refine dk_aload_n C dX6_sinkLastPlace_72 rfl rfl ?_
        refine ek_getR C fX6_13 rfl (by decide) rfl 39 rfl dX6_sinkLastPlace_73 ?_
        refine dk_iload C dX6_sinkLastPlace_76 rfl ?_
        refine dk_iconst C (1) dX6_sinkLastPlace_78 rfl ?_
        refine dk_isub C dX6_sinkLastPlace_79 ?_
        refine ek_iald C rfl (by decide) (d * 24 + k) (e1) (by omega) (by decide) dX6_sinkLastPlace_80 ?_
        rw [e2, ← hpk.1]
        refine ek_iast C rfl (by decide) (d * 24 + (k + 1)) (rfl) (by omega) (by decide) dX6_sinkLastPlace_81 ?_
        refine dk_iinc C (nI (d * 24 + k)) dX6_sinkLastPlace_82 rfl (by rw [litm1]; exact pk_m1 _) (by decide) rfl ?_
        refine dk_goto C 41 dX6_sinkLastPlace_85 (by decide) ?_
        have e4 : dk_up (dk_cp hi 39 (d * 24 + (k + 1)) (d * 24 + (k + 1) + 1) (m - (k + 1))) 39 (d * 24 + (k + 1)) (hi 39 (d * 24 + k)) = dk_cp hi 39 (d * 24 + k) (d * 24 + k + 1) (m - k) := by
          rw [show m - k = m - (k + 1) + 1 by omega]
          exact dk_cp_s hi 39 (d * 24 + k) (m - (k + 1))
        rw [e4]
        refine ih (by omega) (fun i h1 h2 => ?_)
        by_cases e : i = k
        · subst e; exact Int32.not_le.mp c1
        · exact hg i (by omega) h2
  have e0 : nI (d * 24) + nI (m + 1) - 1 = nI (d * 24 + m) := by rw [nI_add, nIm1 (by omega)]; congr 1
  refine dk_aload_n C dX6_sinkLastPlace_0 rfl rfl ?_
  refine ek_getI C fX6_34 rfl (by decide) rfl dX6_sinkLastPlace_1 ?_
  refine dk_bipush C (24) dX6_sinkLastPlace_4 rfl ?_
  refine dk_imul C dX6_sinkLastPlace_6 ?_
  rw [hd, nI24k]
  refine dk_istore_n C dX6_sinkLastPlace_7 rfl (by decide) rfl ?_
  refine dk_iload_n C dX6_sinkLastPlace_8 rfl rfl ?_
  refine dk_aload_n C dX6_sinkLastPlace_9 rfl rfl ?_
  refine ek_getR C fX6_19 rfl (by decide) rfl 40 rfl dX6_sinkLastPlace_10 ?_
  refine dk_aload_n C dX6_sinkLastPlace_13 rfl rfl ?_
  refine ek_getI C fX6_34 rfl (by decide) rfl dX6_sinkLastPlace_14 ?_
  refine ek_iald C rfl (by decide) (d) (hd) (hd') (by decide) dX6_sinkLastPlace_17 ?_
  rw [hm]
  refine dk_iadd C dX6_sinkLastPlace_18 ?_
  refine dk_iconst C (1) dX6_sinkLastPlace_19 rfl ?_
  refine dk_isub C dX6_sinkLastPlace_20 ?_
  rw [e0]
  refine dk_istore C dX6_sinkLastPlace_21 (by decide) rfl ?_
  refine dk_aload_n C dX6_sinkLastPlace_23 rfl rfl ?_
  refine ek_getR C fX6_13 rfl (by decide) rfl 39 rfl dX6_sinkLastPlace_24 ?_
  refine dk_iload C dX6_sinkLastPlace_27 rfl ?_
  refine ek_iald C rfl (by decide) (d * 24 + m) (rfl) (by omega) (by decide) dX6_sinkLastPlace_29 ?_
  rw [hpm.1]
  refine dk_istore C dX6_sinkLastPlace_30 (by decide) rfl ?_
  refine dk_aload_n C dX6_sinkLastPlace_32 rfl rfl ?_
  refine dk_iload C dX6_sinkLastPlace_33 rfl ?_
  refine dk_iload_n C dX6_sinkLastPlace_35 rfl rfl ?_
  refine ek_callV C mX6_126 (c_X5_value _ _ _ _ _ T (P m) c hpm.2 hc) T.s0 T.l0 rfl rfl (Nat.le_of_ble_eq_true rfl) (by decide) (by decide) (Nat.zero_le _) (Nat.zero_le _) dX6_sinkLastPlace_36 ?_
  refine dk_istore C dX6_sinkLastPlace_39 (by decide) rfl ?_
  have h9 := loop m (Nat.le_refl m) (fun i h1 h2 => by omega)
  rw [Nat.sub_self, dk_cp_0] at h9
  exact h9
set_option maxHeartbeats 4000000 in
set_option maxRecDepth 100000 in
theorem c_X6_readValue (G : dk_G) (sr : Nat → Option Nat) (hi : Nat → Nat → Int32) (hf : Nat → Nat → UInt32) (z : (Nat → Nat → Int64) × (Nat → Nat → UInt64)) (s c p : Nat) {t : Nat} (T : dk_T t) (hs : sr s = some t) (hs' : s < 3) (hc : c < 4) (hp : hi 42 s = nI p) (hp' : p < 24) :
    dk_MF G yX6_readValue cX6_readValue 4 (some .int) 1 22 [.ref 38, .ref 14, .int (nI s), .int (nI c)] (hi, hf, dk_RF sr, z) (some (.int (tb_c hi t c p))) (hi, hf, dk_RF sr, z) := by
  refine dk_met (L := [some (.ref 38), some (.ref 14), some (.int (nI s)), some (.int (nI c))]) pnX6 rfl (Nat.le_of_ble_eq_true rfl) ?_
  intro X C E hNm
  refine dk_aload_n C dX6_readValue_0 rfl rfl ?_
  refine ek_getR C fX6_122 rfl (by decide) rfl 15 rfl dX6_readValue_1 ?_
  refine dk_iload_n C dX6_readValue_4 rfl rfl ?_
  refine ek_aald C rfl (by decide) (by decide) (s) (rfl) (hs') (by decide) t (hs) dX6_readValue_5 ?_
  refine dk_aload_n C dX6_readValue_6 rfl rfl ?_
  refine ek_getR C fX6_25 rfl (by decide) rfl 42 rfl dX6_readValue_7 ?_
  refine dk_iload_n C dX6_readValue_10 rfl rfl ?_
  refine ek_iald C rfl (by decide) (s) (rfl) (hs') (by decide) dX6_readValue_11 ?_
  rw [hp]
  refine dk_iload_n C dX6_readValue_12 rfl rfl ?_
  refine ek_callV C mX6_126 (c_X5_value _ _ _ _ _ T p c hp' hc) T.s0 T.l0 rfl rfl (Nat.le_of_ble_eq_true rfl) (by decide) (by decide) (Nat.zero_le _) (Nat.zero_le _) dX6_readValue_13 ?_
  exact dk_iret C E dX6_readValue_16 (Nat.zero_le _) (Nat.zero_le _) (⟨rfl, rfl⟩)
set_option maxHeartbeats 4000000 in
set_option maxRecDepth 100000 in
theorem c_X6_isDone (G : dk_G) (sr : Nat → Option Nat) (hi : Nat → Nat → Int32) (hf : Nat → Nat → UInt32) (z : (Nat → Nat → Int64) × (Nat → Nat → UInt64))  :
    dk_MF G yX6_isDone cX6_isDone 2 (some .boolean) 2 40 [.ref 38, .ref 14] (hi, hf, dk_RF sr, z) (some (.int (bI (decide (hi 38 8 = -1 ∨ (if hi 14 8 = -1 then hi 14 10 else 64) ≤ hi 38 6))))) (hi, hf, dk_RF sr, z) := by
  refine dk_met (L := [some (.ref 38), some (.ref 14)]) pnX6 rfl (Nat.le_of_ble_eq_true rfl) ?_
  intro X C E hNm
  refine dk_aload_n C dX6_isDone_0 rfl rfl ?_
  refine ek_getI C fX6_34 rfl (by decide) rfl dX6_isDone_1 ?_
  refine dk_iconst C (-1) dX6_isDone_4 rfl ?_
  refine dk_icmp_eq C 19 dX6_isDone_5 (by decide) (fun c1 => ?_) (fun c1 => ?_)
  · refine dk_iconst C (1) dX6_isDone_19 rfl ?_
    refine dk_goto C 24 dX6_isDone_20 (by decide) ?_
    exact dk_zret C E rfl dX6_isDone_24 (Nat.zero_le _) (Nat.zero_le _) (⟨pI (bI_t (by simp [c1])), rfl⟩)
  · refine dk_aload_n C dX6_isDone_8 rfl rfl ?_
    refine ek_getI C fX6_38 rfl (by decide) rfl dX6_isDone_9 ?_
    refine dk_aload_n C dX6_isDone_12 rfl rfl ?_
    refine ek_callV C mX6_54 (c_X4_enoughAnswers _ _ _ _ _) rfl (by decide) rfl rfl (Nat.le_of_ble_eq_true rfl) (by decide) (by decide) (Nat.zero_le _) (Nat.zero_le _) dX6_isDone_13 ?_
    refine dk_icmp_lt C 23 dX6_isDone_16 (by decide) (fun c2 => ?_) (fun c2 => ?_)
    · refine dk_iconst C (0) dX6_isDone_23 rfl ?_
      exact dk_zret C E rfl dX6_isDone_24 (Nat.zero_le _) (Nat.zero_le _) (⟨pI (bI_f (by rw [decide_eq_false_iff_not]; exact fun q => q.elim c1 (fun q => Int32.not_le.mpr c2 q))), rfl⟩)
    · refine dk_iconst C (1) dX6_isDone_19 rfl ?_
      refine dk_goto C 24 dX6_isDone_20 (by decide) ?_
      exact dk_zret C E rfl dX6_isDone_24 (Nat.zero_le _) (Nat.zero_le _) (⟨pI (bI_t (by rw [decide_eq_true_eq]; exact Or.inr (Int32.not_lt.mp c2))), rfl⟩)
set_option maxHeartbeats 4000000 in
set_option maxRecDepth 100000 in
theorem c_X6_valueOf (G : dk_G) (sr : Nat → Option Nat) (hi : Nat → Nat → Int32) (hf : Nat → Nat → UInt32) (z : (Nat → Nat → Int64) × (Nat → Nat → UInt64)) (i k r : Nat) (hi' : i < 64) (hk : k < 4) (hr : hi 44 i = nI r) (hr' : r < 64) :
    dk_MF G yX6_valueOf cX6_valueOf 3 (some .int) 0 0 [.ref 38, .int (nI i), .int (nI k)] (hi, hf, dk_RF sr, z) (some (.int (hi 43 (r * 4 + k)))) (hi, hf, dk_RF sr, z) := by
  refine dk_met (L := [some (.ref 38), some (.int (nI i)), some (.int (nI k))]) pnX6 rfl (Nat.le_of_ble_eq_true rfl) ?_
  intro X C E hNm
  refine dk_aload_n C dX6_valueOf_0 rfl rfl ?_
  refine ek_getR C fX6_28 rfl (by decide) rfl 43 rfl dX6_valueOf_1 ?_
  refine dk_aload_n C dX6_valueOf_4 rfl rfl ?_
  refine ek_getR C fX6_31 rfl (by decide) rfl 44 rfl dX6_valueOf_5 ?_
  refine dk_iload_n C dX6_valueOf_8 rfl rfl ?_
  refine ek_iald C rfl (by decide) (i) (rfl) (hi') (by decide) dX6_valueOf_9 ?_
  refine dk_iconst C (4) dX6_valueOf_10 rfl ?_
  refine dk_imul C dX6_valueOf_11 ?_
  refine dk_iload_n C dX6_valueOf_12 rfl rfl ?_
  refine dk_iadd C dX6_valueOf_13 ?_
  refine ek_iald C rfl (by decide) (r * 4 + k) (by rw [hr, nI4]) (by omega) (by decide) dX6_valueOf_14 ?_
  exact dk_iret C E dX6_valueOf_15 (Nat.zero_le _) (Nat.zero_le _) (⟨rfl, rfl⟩)
/-- whether an answer goes before another, by the ORDER -/
def wk_b (fl : Int32) (x y : Int32) : Bool := if fl = 0 then decide (x < y) else decide (y < x)
set_option maxHeartbeats 4000000 in
set_option maxRecDepth 100000 in
theorem c_X6_goesBefore (G : dk_G) (sr : Nat → Option Nat) (hi : Nat → Nat → Int32) (hf : Nat → Nat → UInt32) (z : (Nat → Nat → Int64) × (Nat → Nat → UInt64)) (a b o : Nat) (ha : a < 64) (hb : b < 64) (ho : hi 14 8 = nI o) (ho' : o < 4) :
    dk_MF G yX6_goesBefore cX6_goesBefore 6 (some .boolean) 0 0 [.ref 38, .ref 14, .int (nI a), .int (nI b)] (hi, hf, dk_RF sr, z) (some (.int (bI (wk_b (hi 14 9) (hi 43 (a * 4 + o)) (hi 43 (b * 4 + o)))))) (hi, hf, dk_RF sr, z) := by
  refine dk_met (L := [some (.ref 38), some (.ref 14), some (.int (nI a)), some (.int (nI b)), none, none]) pnX6 rfl (Nat.le_of_ble_eq_true rfl) ?_
  intro X C E hNm
  refine dk_aload_n C dX6_goesBefore_0 rfl rfl ?_
  refine ek_getR C fX6_28 rfl (by decide) rfl 43 rfl dX6_goesBefore_1 ?_
  refine dk_iload_n C dX6_goesBefore_4 rfl rfl ?_
  refine dk_iconst C (4) dX6_goesBefore_5 rfl ?_
  refine dk_imul C dX6_goesBefore_6 ?_
  refine dk_aload_n C dX6_goesBefore_7 rfl rfl ?_
  refine ek_getI C fX6_184 rfl (by decide) rfl dX6_goesBefore_8 ?_
  refine dk_iadd C dX6_goesBefore_11 ?_
  refine ek_iald C rfl (by decide) (a * 4 + o) (by rw [ho, nI4]) (by omega) (by decide) dX6_goesBefore_12 ?_
  refine dk_istore C dX6_goesBefore_13 (by decide) rfl ?_
  refine dk_aload_n C dX6_goesBefore_15 rfl rfl ?_
  refine ek_getR C fX6_28 rfl (by decide) rfl 43 rfl dX6_goesBefore_16 ?_
  refine dk_iload_n C dX6_goesBefore_19 rfl rfl ?_
  refine dk_iconst C (4) dX6_goesBefore_20 rfl ?_
  refine dk_imul C dX6_goesBefore_21 ?_
  refine dk_aload_n C dX6_goesBefore_22 rfl rfl ?_
  refine ek_getI C fX6_184 rfl (by decide) rfl dX6_goesBefore_23 ?_
  refine dk_iadd C dX6_goesBefore_26 ?_
  refine ek_iald C rfl (by decide) (b * 4 + o) (by rw [ho, nI4]) (by omega) (by decide) dX6_goesBefore_27 ?_
  refine dk_istore C dX6_goesBefore_28 (by decide) rfl ?_
  refine dk_aload_n C dX6_goesBefore_30 rfl rfl ?_
  refine ek_getI C fX6_187 rfl (by decide) rfl dX6_goesBefore_31 ?_
  refine dk_if_eq C 52 dX6_goesBefore_34 (by decide) (fun c1 => ?_) (fun c1 => ?_)
  · refine dk_iload C dX6_goesBefore_52 rfl ?_
    refine dk_iload C dX6_goesBefore_54 rfl ?_
    refine dk_icmp_ge C 63 dX6_goesBefore_56 (by decide) (fun c2 => ?_) (fun c2 => ?_)
    · refine dk_iconst C (0) dX6_goesBefore_63 rfl ?_
      exact dk_zret C E rfl dX6_goesBefore_64 (Nat.zero_le _) (Nat.zero_le _) (⟨pI (bI_f (by rw [wk_b, if_pos c1]; simpa using c2)), rfl⟩)
    · refine dk_iconst C (1) dX6_goesBefore_59 rfl ?_
      refine dk_goto C 64 dX6_goesBefore_60 (by decide) ?_
      exact dk_zret C E rfl dX6_goesBefore_64 (Nat.zero_le _) (Nat.zero_le _) (⟨pI (bI_t (by rw [wk_b, if_pos c1]; simpa using c2)), rfl⟩)
  · refine dk_iload C dX6_goesBefore_37 rfl ?_
    refine dk_iload C dX6_goesBefore_39 rfl ?_
    refine dk_icmp_le C 48 dX6_goesBefore_41 (by decide) (fun c2 => ?_) (fun c2 => ?_)
    · refine dk_iconst C (0) dX6_goesBefore_48 rfl ?_
      refine dk_goto C 64 dX6_goesBefore_49 (by decide) ?_
      exact dk_zret C E rfl dX6_goesBefore_64 (Nat.zero_le _) (Nat.zero_le _) (⟨pI (bI_f (by rw [wk_b, if_neg c1]; simpa using c2)), rfl⟩)
    · refine dk_iconst C (1) dX6_goesBefore_44 rfl ?_
      refine dk_goto C 64 dX6_goesBefore_45 (by decide) ?_
      exact dk_zret C E rfl dX6_goesBefore_64 (Nat.zero_le _) (Nat.zero_le _) (⟨pI (bI_t (by rw [wk_b, if_neg c1]; simpa using c2)), rfl⟩)
end
section
/-! ===== QueryDesk$Work: opening a source ===== -/
/-- insertion before the first greater one -/
def insL (f : Nat → Int32) (q : Nat) : List Nat → List Nat
  | [] => [q]
  | x :: l => if f q < f x then q :: x :: l else x :: insL f q l
theorem insL_mem (f : Nat → Int32) (q x : Nat) : ∀ l : List Nat, x ∈ insL f q l ↔ x = q ∨ x ∈ l
  | [] => by simp [insL]
  | y :: l => by
    unfold insL
    by_cases h : f q < f y
    · rw [if_pos h]; simp
    · rw [if_neg h, List.mem_cons, insL_mem f q x l, List.mem_cons]
      constructor
      · rintro (h | h | h)
        · exact Or.inr (Or.inl h)
        · exact Or.inl h
        · exact Or.inr (Or.inr h)
      · rintro (h | h | h)
        · exact Or.inr (Or.inl h)
        · exact Or.inl h
        · exact Or.inr (Or.inr h)
theorem insL_length (f : Nat → Int32) (q : Nat) : ∀ l : List Nat, (insL f q l).length = l.length + 1
  | [] => rfl
  | y :: l => by
    unfold insL
    by_cases h : f q < f y
    · rw [if_pos h]; rfl
    · rw [if_neg h, List.length_cons, insL_length f q l]; rfl
theorem insL_sorted (f : Nat → Int32) (q : Nat) : ∀ l : List Nat, l.Pairwise (fun a b => f a ≤ f b) → (insL f q l).Pairwise (fun a b => f a ≤ f b)
  | [], _ => by simp [insL]
  | y :: l, hl => by
    obtain ⟨h1, h2⟩ := List.pairwise_cons.mp hl
    unfold insL
    by_cases h : f q < f y
    · rw [if_pos h]
      refine List.pairwise_cons.mpr ⟨fun x hx => ?_, hl⟩
      rcases List.mem_cons.mp hx with rfl | hx
      · exact Int32.le_of_lt h
      · exact Int32.le_trans (Int32.le_of_lt h) (h1 x hx)
    · rw [if_neg h]
      refine List.pairwise_cons.mpr ⟨fun x hx => ?_, insL_sorted f q l h2⟩
      rcases (insL_mem f q x l).mp hx with rfl | hx
      · exact Int32.not_lt.mp h
      · exact h1 x hx
theorem insL_cut (f : Nat → Int32) (q : Nat) : ∀ (l : List Nat) (k : Nat), l.Pairwise (fun a b => f a ≤ f b) → k ≤ l.length → (k = 0 ∨ f (l.getD (k - 1) 0) ≤ f q) → (∀ i, k ≤ i → i < l.length → f q < f (l.getD i 0)) → l.take k ++ q :: l.drop k = insL f q l
  | [], k, _, hk, _, _ => by
    obtain rfl : k = 0 := by simpa using hk
    rfl
  | x :: l, 0, _, _, _, hg => by
    have h := hg 0 (Nat.le_refl 0) (by simp)
    unfold insL
    rw [if_pos (by simpa using h)]
    rfl
  | x :: l, k + 1, hl, hk, hc, hg => by
    obtain ⟨h1, h2⟩ := List.pairwise_cons.mp hl
    have hx : f x ≤ f q := by
      rcases hc with h | h
      · omega
      · cases k with
        | zero => simpa using h
        | succ k =>
          have hlt : k < l.length := by simp at hk; omega
          refine Int32.le_trans (h1 (l.getD k 0) ?_) (by simpa using h)
          rw [List.getD_eq_getElem?_getD, List.getElem?_eq_getElem hlt]
          exact List.getElem_mem hlt
    unfold insL
    rw [if_neg (Int32.not_lt.mpr hx), ← insL_cut f q l k h2 (by simpa using hk) ?_ ?_]
    · rfl
    · cases k with
      | zero => exact Or.inl rfl
      | succ k => exact hc.elim (fun h => by omega) (fun h => Or.inr (by simpa using h))
    · intro i h3 h4
      simpa using hg (i + 1) (by omega) (by simpa using h4)
theorem getD_app {l m : List Nat} {i : Nat} (h : i < l.length) : (l ++ m).getD i 0 = l.getD i 0 := by
  rw [List.getD_eq_getElem?_getD, List.getD_eq_getElem?_getD, List.getElem?_append_left h]
/-- the places at depth d are l -/
def wk_L (hi : Nat → Nat → Int32) (d : Nat) (l : List Nat) : Prop := hi 40 d = nI l.length ∧ l.length ≤ 24 ∧ (∀ i, i < l.length → hi 39 (d * 24 + i) = nI (l.getD i 0)) ∧ ∀ x ∈ l, x < 24
/-- nothing but the places at depth d has changed -/
def wk_F (hi hi' : Nat → Nat → Int32) (d : Nat) : Prop := ∀ i j, ¬ (i = 40 ∧ j = d) → ¬ (i = 39 ∧ d * 24 ≤ j ∧ j < d * 24 + 24) → hi' i j = hi i j
theorem wk_F.refl (hi : Nat → Nat → Int32) (d : Nat) : wk_F hi hi d := fun _ _ _ _ => rfl
theorem wk_F.trans {hi h2 h3 : Nat → Nat → Int32} {d : Nat} (a : wk_F hi h2 d) (b : wk_F h2 h3 d) : wk_F hi h3 d := fun i j h1 h2 => (b i j h1 h2).trans (a i j h1 h2)
theorem wk_F.cell {hi h2 : Nat → Nat → Int32} {d i j : Nat} (a : wk_F hi h2 d) (h : i ≠ 39 ∧ i ≠ 40) : h2 i j = hi i j := a i j (fun q => h.2 q.1) (fun q => h.1 q.1)
theorem wk_F.col {hi h2 : Nat → Nat → Int32} {d t c : Nat} (a : wk_F hi h2 d) (T : dk_T t) : tb_c h2 t c = tb_c hi t c := by
  funext p
  exact a.cell (by rcases T with rfl | rfl | rfl <;> decide)
theorem wk_add_L {hi : Nat → Nat → Int32} {d p : Nat} {l : List Nat} (h : wk_L hi d l) (hl : l.length < 24) (hp : p < 24) : wk_L (wk_add hi d l.length (nI p)) d (l ++ [p]) ∧ wk_F hi (wk_add hi d l.length (nI p)) d := by
  obtain ⟨h1, h2, h3, h4⟩ := h
  refine ⟨⟨?_, by simp; omega, fun i hi' => ?_, fun x hx => ?_⟩, fun i j n1 n2 => ?_⟩
  · simp [wk_add, dk_up]
  · simp only [List.length_append, List.length_cons, List.length_nil] at hi'
    simp only [wk_add]
    rw [dk_up_ne _ _ (Or.inl (by decide))]
    by_cases e : i = l.length
    · subst e
      rw [dk_up_same]
      simp
    · rw [dk_up_ne _ _ (Or.inr (by omega)), h3 i (by omega), getD_app (by omega)]
  · rcases List.mem_append.mp hx with h | h
    · exact h4 x h
    · rw [List.mem_singleton.mp h]; exact hp
  · simp only [wk_add]
    rw [dk_up_ne _ _ (by omega), dk_up_ne _ _ (by omega)]
theorem getD_mid (l : List Nat) (k q i : Nat) (hk : k ≤ l.length) : (l.take k ++ q :: l.drop k).getD i 0 = if i < k then l.getD i 0 else if i = k then q else l.getD (i - 1) 0 := by
  simp only [List.getD_eq_getElem?_getD]
  by_cases h1 : i < k
  · rw [if_pos h1, List.getElem?_append_left (by simp; omega), List.getElem?_take, if_pos h1]
  · rw [if_neg h1, List.getElem?_append_right (by simp; omega)]
    have e : (l.take k).length = k := by simp; omega
    rw [e]
    by_cases h2 : i = k
    · subst h2; rw [if_pos rfl, Nat.sub_self]; rfl
    · rw [if_neg h2, show i - k = (i - k - 1) + 1 by omega, List.getElem?_cons_succ, List.getElem?_drop]
      congr 2; omega
theorem wk_sink_L {hi : Nat → Nat → Int32} {d p k : Nat} {l : List Nat} (h : wk_L hi d (l ++ [p])) (hk : k ≤ l.length) : wk_L (wk_sink hi (d * 24) l.length k) d (l.take k ++ p :: l.drop k) ∧ wk_F hi (wk_sink hi (d * 24) l.length k) d := by
  obtain ⟨h1, h2, h3, h4⟩ := h
  simp only [List.length_append, List.length_cons, List.length_nil] at h1 h2 h3
  have hlen : (l.take k ++ p :: l.drop k).length = l.length + 1 := by simp; omega
  have hold : ∀ i, i < l.length → hi 39 (d * 24 + i) = nI (l.getD i 0) := fun i hi' => by rw [h3 i (by omega), getD_app hi']
  refine ⟨⟨?_, by rw [hlen]; exact h2, fun i hi' => ?_, fun x hx => ?_⟩, fun i j n1 n2 => ?_⟩
  · rw [hlen, wk_sink, dk_up_ne _ _ (Or.inl (by decide)), dk_cp_ne _ (by decide), h1]
  · rw [hlen] at hi'
    rw [getD_mid _ _ _ _ hk]
    unfold wk_sink
    by_cases e1 : i = k
    · subst e1
      rw [dk_up_same, if_neg (by omega), if_pos rfl, h3 l.length (by omega)]
      simp
    · rw [dk_up_ne _ _ (Or.inr (by omega))]
      simp only [dk_cp, va_cpy, if_true]
      by_cases e2 : i < k
      · rw [if_neg (by omega), if_pos e2, hold i (by omega)]
      · rw [if_pos (by omega), if_neg e2, if_neg e1, show d * 24 + k + (d * 24 + i - (d * 24 + k + 1)) = d * 24 + (i - 1) by omega, hold (i - 1) (by omega)]
  · refine h4 x ?_
    rcases List.mem_append.mp hx with h | h
    · exact List.mem_append_left _ (List.mem_of_mem_take h)
    · rcases List.mem_cons.mp h with rfl | h
      · exact List.mem_append_right _ (List.mem_singleton.mpr rfl)
      · exact List.mem_append_left _ (List.mem_of_mem_drop h)
  · unfold wk_sink
    have e3 : dk_cp hi 39 (d * 24 + k) (d * 24 + k + 1) (l.length - k) i j = hi i j := by
      by_cases e : i = 39
      · subst e
        simp only [dk_cp, va_cpy, if_true]
        rw [if_neg (fun q => n2 ⟨rfl, by omega, by omega⟩)]
      · exact dk_cp_ne hi e
    rw [dk_up_ne _ _ (by omega), e3]
/-- one place more, or not; sorted, or not -/
def op_1 (P : Nat → Bool) (srt : Bool) (f : Nat → Int32) (p : Nat) (l : List Nat) : List Nat := if P p = true then (if srt = true then insL f p l else l ++ [p]) else l
def op_L (P : Nat → Bool) (srt : Bool) (f : Nat → Int32) : Nat → List Nat
  | 0 => []
  | p + 1 => op_1 P srt f p (op_L P srt f p)
theorem op_L_len (P : Nat → Bool) (srt : Bool) (f : Nat → Int32) : ∀ n, (op_L P srt f n).length ≤ n
  | 0 => Nat.le_refl 0
  | n + 1 => by
    have := op_L_len P srt f n
    unfold op_L op_1
    split
    · split
      · rw [insL_length]; omega
      · simp; omega
    · omega
theorem op_L_sorted (P : Nat → Bool) (f : Nat → Int32) : ∀ n, (op_L P true f n).Pairwise (fun a b => f a ≤ f b)
  | 0 => List.Pairwise.nil
  | n + 1 => by
    have := op_L_sorted P f n
    unfold op_L op_1
    rw [if_pos rfl]
    split
    · exact insL_sorted f n _ this
    · exact this
/-- a post about the places at depth d -/
def wk_Po (hi : Nat → Nat → Int32) (hf : Nat → Nat → UInt32) (sr : Nat → Option Nat) (z : (Nat → Nat → Int64) × (Nat → Nat → UInt64)) (d : Nat) (l : List Nat) : Option Value → dk_H → Prop := fun r' h' => r' = none ∧ ∃ hi', wk_F hi hi' d ∧ wk_L hi' d l ∧ h' = (hi', hf, dk_RF sr, z)
set_option maxHeartbeats 4000000 in
set_option maxRecDepth 100000 in
theorem c_X6_openByCondition (G : dk_G) (sr : Nat → Option Nat) (hi : Nat → Nat → Int32) (hf : Nat → Nat → UInt32) (z : (Nat → Nat → Int64) × (Nat → Nat → UInt64)) {t c : Nat} (T : dk_T t) (Q : dk_Q0 c) (bv : Bool) (p d col o : Nat) (l : List Nat) (hcol : hi c 1 = nI col) (hcol' : col < 4) (ho : hi c 2 = nI o) (ho' : o < 4) (hp : p < 24) (hd : hi 38 8 = nI d) (hd' : d < 3) (hl : wk_L hi d l) (hl' : l.length < 24) (hs : bv = true → l.Pairwise (fun a b => tb_c hi t col a ≤ tb_c hi t col b)) :
    dk_M G yX6_openByCondition cX6_openByCondition 5 none { frames := 2, cells := 0, slots := 0, locals := 48 } [.ref 38, .ref t, .ref c, .int (bI bv), .int (nI p)] 63 (hi, hf, dk_RF sr, z) 63 (wk_Po hi hf sr z d (op_1 (fun q => cn_b o (tb_c hi t col q) (hi c 3)) bv (tb_c hi t col) p l)) := by
  refine dk_met (L := [some (.ref 38), some (.ref t), some (.ref c), some (.int (bI bv)), some (.int (nI p))]) pnX6 rfl (Nat.le_of_ble_eq_true rfl) ?_
  intro X C E hNm
  refine dk_aload_n C dX6_openByCondition_0 rfl rfl ?_
  refine dk_aload_n C dX6_openByCondition_1 rfl rfl ?_
  refine dk_iload C dX6_openByCondition_2 rfl ?_
  refine dk_aload_n C dX6_openByCondition_4 rfl rfl ?_
  refine ek_getI C fX6_86 Q.s0 Q.l0 rfl dX6_openByCondition_5 ?_
  rw [hcol]
  refine ek_callV C mX6_126 (c_X5_value _ _ _ _ _ T p col hp hcol') T.s0 T.l0 rfl rfl (Nat.le_of_ble_eq_true rfl) (by decide) (by decide) (Nat.zero_le _) (Nat.zero_le _) dX6_openByCondition_8 ?_
  refine ek_callV C mX6_93 (c_X0_holds _ _ _ _ _ Q (tb_c hi t col p) o ho ho') Q.s0 Q.l0 rfl rfl (Nat.le_of_ble_eq_true rfl) (by decide) (by decide) (Nat.zero_le _) (Nat.zero_le _) dX6_openByCondition_11 ?_
  refine dk_if_eq C 36 dX6_openByCondition_14 (by decide) (fun c1 => ?_) (fun c1 => ?_)
  · exact dk_vret C E dX6_openByCondition_36 (Nat.zero_le _) (Nat.zero_le _) (⟨rfl, hi, wk_F.refl hi d, by rw [op_1, if_neg (by rw [bI_n0 c1]; decide)]; exact hl, rfl⟩)
  · obtain ⟨a1, a2⟩ := wk_add_L hl hl' hp
    refine dk_aload_n C dX6_openByCondition_17 rfl rfl ?_
    refine dk_iload C dX6_openByCondition_18 rfl ?_
    refine ek_callVv C mX6_150 (c_X6_addPlace _ _ _ _ _ d l.length (nI p) hd hd' hl.1 hl') rfl (by decide) rfl rfl (Nat.le_of_ble_eq_true rfl) (by decide) (by decide) (Nat.zero_le _) (Nat.zero_le _) dX6_openByCondition_20 ?_
    refine dk_iload_n C dX6_openByCondition_23 rfl rfl ?_
    refine dk_if_eq C 36 dX6_openByCondition_24 (by decide) (fun c2 => ?_) (fun c2 => ?_)
    · exact dk_vret C E dX6_openByCondition_36 (Nat.zero_le _) (Nat.zero_le _) (⟨rfl, _, a2, by rw [op_1, if_pos (bI_n1 c1), if_neg (by rw [bI_n0 c2]; decide)]; exact a1, rfl⟩)
    · have hbv := bI_n1 c2
      have e1 : wk_add hi d l.length (nI p) c 1 = nI col := by rw [a2.cell (by unfold dk_Q0 at Q; omega), hcol]
      refine dk_aload_n C dX6_openByCondition_27 rfl rfl ?_
      refine dk_aload_n C dX6_openByCondition_28 rfl rfl ?_
      refine dk_aload_n C dX6_openByCondition_29 rfl rfl ?_
      refine ek_getI C fX6_86 Q.s0 Q.l0 rfl dX6_openByCondition_30 ?_
      rw [e1]
      refine dk_callV C mX6_154 (c_X6_sinkLastPlace _ _ (wk_add hi d l.length (nI p)) _ _ T col d l.length (fun i => (l ++ [p]).getD i 0) hcol' (by rw [a2.cell (by decide), hd]) hd' (by rw [a1.1]; simp) hl' (fun i hi' => ⟨a1.2.2.1 i (by simp; omega), a1.2.2.2 _ ?_⟩)) rfl (by decide) rfl rfl (Nat.le_of_ble_eq_true rfl) ⟨by decide, by decide⟩ ⟨Nat.zero_le _, Nat.zero_le _⟩ dX6_openByCondition_33 ?_
      · rw [List.getD_eq_getElem?_getD, List.getElem?_eq_getElem (by simp; omega)]
        exact List.getElem_mem _
      · rintro r h' ⟨rfl, k, hk, hk1, hk2, rfl⟩
        obtain ⟨b1, b2⟩ := wk_sink_L a1 hk
        have ec : tb_c (wk_add hi d l.length (nI p)) t col = tb_c hi t col := a2.col T
        have hlast : (l ++ [p]).getD l.length 0 = p := by simp
        have hbef : ∀ i, i < l.length → (l ++ [p]).getD i 0 = l.getD i 0 := fun i hi' => getD_app hi'
        have e2 := insL_cut (tb_c hi t col) p l k (hs hbv) hk (by
          rcases hk1 with h | h
          · exact Or.inl h
          · by_cases e : k = 0
            · exact Or.inl e
            · rw [ec, hlast, hbef _ (by omega)] at h
              exact Or.inr h) (fun i h1 h2 => by
          have := hk2 i h1 h2
          rw [ec, hlast, hbef _ h2] at this
          exact this)
        exact dk_vret C E dX6_openByCondition_36 (Nat.zero_le _) (Nat.zero_le _) (⟨rfl, _, a2.trans b2, by rw [op_1, if_pos (bI_n1 c1), if_pos hbv, ← e2]; exact b1, rfl⟩)
end
section
theorem dk_forgetAt {X : dk_X} {pc : Nat} {L : List (Option Value)} {S : List Value} {n : Nat} {h : dk_H} {kc ks : Nat} (k : Nat) (hk : dk_W X pc (L.set k none) S n h kc ks) : dk_W X pc L S n h kc ks := by
  obtain ⟨p, e, R, s, m, args, below, meth, c, Q, G'⟩ := X
  intro H locs ls hR hf hl
  refine hk H locs ls hR hf ⟨hl.1, hl.2.1, fun q hq => ?_⟩
  obtain ⟨j, w, h1, rfl⟩ := (dk_pr_mem _ 0 q).mp hq
  refine hl.2.2 _ ((dk_pr_mem L 0 _).mpr ⟨j, w, ?_, rfl⟩)
  by_cases e9 : j = k
  · subst e9
    have hlt : j < L.length := by
      have := (List.getElem?_eq_some_iff.mp h1).1
      simpa using this
    rw [List.getElem?_set_self hlt] at h1
    cases h1
  · rw [List.getElem?_set_ne (Ne.symm e9)] at h1
    exact h1
set_option maxHeartbeats 4000000 in
set_option maxRecDepth 100000 in
theorem c_X6_openByJoin (G : dk_G) (sr : Nat → Option Nat) (hi : Nat → Nat → Int32) (hf : Nat → Nat → UInt32) (z : (Nat → Nat → Int64) × (Nat → Nat → UInt64)) {ts tp c : Nat} (Ts : dk_T ts) (Tp : dk_T tp) (Q : dk_Q1 c) (s pt cs cp rp p d : Nat) (l : List Nat) (hs : sr s = some ts) (hs' : s < 3) (hpt : sr pt = some tp) (hpt' : pt < 3)
    (h1 : (if hi c 0 = nI s then hi c 2 else hi c 0) = nI pt) (h2 : (if hi c 0 = nI s then hi c 1 else hi c 3) = nI cs) (h3 : (if hi c 0 = nI pt then hi c 1 else hi c 3) = nI cp) (hcs : cs < 4) (hcp : cp < 4) (hrp : hi 42 pt = nI rp) (hrp' : rp < 24) (hp : p < 24) (hd : hi 38 8 = nI d) (hd' : d < 3) (hl : wk_L hi d l) (hl' : l.length < 24) (f : Nat → Int32) :
    dk_M G yX6_openByJoin cX6_openByJoin 7 none { frames := 2, cells := 0, slots := 0, locals := 45 } [.ref 38, .ref 14, .ref c, .int (nI s), .int (nI p)] 63 (hi, hf, dk_RF sr, z) 63 (wk_Po hi hf sr z d (op_1 (fun q => decide (tb_c hi ts cs q = tb_c hi tp cp rp)) false f p l)) := by
  refine dk_met (L := [some (.ref 38), some (.ref 14), some (.ref c), some (.int (nI s)), some (.int (nI p)), none, none]) pnX6 rfl (Nat.le_of_ble_eq_true rfl) ?_
  intro X C E hNm
  refine dk_aload_n C dX6_openByJoin_0 rfl rfl ?_
  refine dk_iload_n C dX6_openByJoin_1 rfl rfl ?_
  refine ek_callV C mX6_158 (c_X1_partnerOf _ _ _ _ _ Q (nI s)) Q.s0 Q.l0 rfl rfl (Nat.le_of_ble_eq_true rfl) (by decide) (by decide) (Nat.zero_le _) (Nat.zero_le _) dX6_openByJoin_2 ?_
  rw [h1]
  refine dk_istore C dX6_openByJoin_5 (by decide) rfl ?_
  refine dk_aload_n C dX6_openByJoin_7 rfl rfl ?_
  refine dk_aload_n C dX6_openByJoin_8 rfl rfl ?_
  refine dk_iload C dX6_openByJoin_9 rfl ?_
  refine dk_aload_n C dX6_openByJoin_11 rfl rfl ?_
  refine dk_iload C dX6_openByJoin_12 rfl ?_
  refine ek_callV C mX6_162 (c_X1_columnOf _ _ _ _ _ Q (nI pt)) Q.s0 Q.l0 rfl rfl (Nat.le_of_ble_eq_true rfl) (by decide) (by decide) (Nat.zero_le _) (Nat.zero_le _) dX6_openByJoin_14 ?_
  rw [h3]
  refine ek_callV C mX6_89 (c_X6_readValue _ _ _ _ _ pt cp rp Tp hpt hpt' hcp hrp hrp') rfl (by decide) rfl rfl (Nat.le_of_ble_eq_true rfl) (by decide) (by decide) (Nat.zero_le _) (Nat.zero_le _) dX6_openByJoin_17 ?_
  refine dk_istore C dX6_openByJoin_20 (by decide) rfl ?_
  refine dk_aload_n C dX6_openByJoin_22 rfl rfl ?_
  refine ek_getR C fX6_122 rfl (by decide) rfl 15 rfl dX6_openByJoin_23 ?_
  refine dk_iload_n C dX6_openByJoin_26 rfl rfl ?_
  refine ek_aald C rfl (by decide) (by decide) (s) (rfl) (hs') (by decide) ts (hs) dX6_openByJoin_27 ?_
  refine dk_iload C dX6_openByJoin_28 rfl ?_
  refine dk_aload_n C dX6_openByJoin_30 rfl rfl ?_
  refine dk_iload_n C dX6_openByJoin_31 rfl rfl ?_
  refine ek_callV C mX6_162 (c_X1_columnOf _ _ _ _ _ Q (nI s)) Q.s0 Q.l0 rfl rfl (Nat.le_of_ble_eq_true rfl) (by decide) (by decide) (Nat.zero_le _) (Nat.zero_le _) dX6_openByJoin_32 ?_
  rw [h2]
  refine ek_callV C mX6_126 (c_X5_value _ _ _ _ _ Ts p cs hp hcs) Ts.s0 Ts.l0 rfl rfl (Nat.le_of_ble_eq_true rfl) (by decide) (by decide) (Nat.zero_le _) (Nat.zero_le _) dX6_openByJoin_35 ?_
  refine dk_iload C dX6_openByJoin_38 rfl ?_
  refine dk_icmp_ne C 49 dX6_openByJoin_40 (by decide) (fun c1 => ?_) (fun c1 => ?_)
  · exact dk_vret C E dX6_openByJoin_49 (Nat.zero_le _) (Nat.zero_le _) (⟨rfl, hi, wk_F.refl hi d, by rw [op_1, if_neg (by simpa using c1)]; exact hl, rfl⟩)
  · obtain ⟨a1, a2⟩ := wk_add_L hl hl' hp
    refine dk_aload_n C dX6_openByJoin_43 rfl rfl ?_
    refine dk_iload C dX6_openByJoin_44 rfl ?_
    refine ek_callVv C mX6_150 (c_X6_addPlace _ _ _ _ _ d l.length (nI p) hd hd' hl.1 hl') rfl (by decide) rfl rfl (Nat.le_of_ble_eq_true rfl) (by decide) (by decide) (Nat.zero_le _) (Nat.zero_le _) dX6_openByJoin_46 ?_
    exact dk_vret C E dX6_openByJoin_49 (Nat.zero_le _) (Nat.zero_le _) (⟨rfl, _, a2, by rw [op_1, if_pos (by simpa using c1), if_neg (by decide)]; exact a1, rfl⟩)
/-- what the way of the k-th source of the plan (source s, table t) leads to -/
def op_W (hi : Nat → Nat → Int32) (sr : Nat → Option Nat) (k s t : Nat) (P : Nat → Bool) (srt : Bool) (f : Nat → Int32) : Prop :=
  (∃ wc col o, wc < 4 ∧ col < 4 ∧ o < 4 ∧ hi 36 k = nI wc ∧ hi (17 + wc) 1 = nI col ∧ hi (17 + wc) 2 = nI o ∧ P = (fun q => cn_b o (tb_c hi t col q) (hi (17 + wc) 3)) ∧ srt = decide (hi 35 k = 2) ∧ f = tb_c hi t col) ∨
  (∃ wj pt cs cp tp rp, (wj < 3 ∧ pt < 3 ∧ cs < 4 ∧ cp < 4 ∧ rp < 24 ∧ dk_T tp) ∧ (hi 36 k = -1 ∧ hi 37 k = nI wj) ∧ ((if hi (22 + wj) 0 = nI s then hi (22 + wj) 2 else hi (22 + wj) 0) = nI pt ∧ (if hi (22 + wj) 0 = nI s then hi (22 + wj) 1 else hi (22 + wj) 3) = nI cs ∧ (if hi (22 + wj) 0 = nI pt then hi (22 + wj) 1 else hi (22 + wj) 3) = nI cp) ∧ sr pt = some tp ∧ hi 42 pt = nI rp ∧ P = (fun q => decide (tb_c hi t cs q = tb_c hi tp cp rp)) ∧ srt = false) ∨
  (hi 36 k = -1 ∧ hi 37 k = -1 ∧ P = (fun _ => true) ∧ srt = false)
def wk_open (hi : Nat → Nat → Int32) (k : Nat) : Nat → Nat → Int32 := dk_up (dk_up (dk_up hi 38 8 (nI k)) 41 k 0) 40 k 0
theorem nI_ne_m1 {n : Nat} (h : n < 2 ^ 31) : ¬ nI n = -1 := by
  intro e
  have := nI_pos h
  rw [e] at this
  exact this (by decide)
set_option maxHeartbeats 4000000 in
set_option maxRecDepth 100000 in
theorem c_X6_openSource (G : dk_G) (sr : Nat → Option Nat) (hi : Nat → Nat → Int32) (hf : Nat → Nat → UInt32) (z : (Nat → Nat → Int64) × (Nat → Nat → UInt64)) {t : Nat} (T : dk_T t) (k s n : Nat) (P : Nat → Bool) (srt : Bool) (f : Nat → Int32) (hk : k < 3) (hs : hi 34 k = nI s) (hs' : s < 3) (hst : sr s = some t) (hn : hi t 4 = nI n) (hn' : n ≤ 24) (hW : op_W hi sr k s t P srt f) :
    dk_M G yX6_openSource cX6_openSource 7 none { frames := 3, cells := 0, slots := 0, locals := 72 } [.ref 38, .ref 14, .ref 30, .int (nI k)] 63 (hi, hf, dk_RF sr, z) 63 (wk_Po (wk_open hi k) hf sr z k (op_L P srt f n)) := by
  refine dk_met (L := [some (.ref 38), some (.ref 14), some (.ref 30), some (.int (nI k)), none, none, none]) pnX6 rfl (Nat.le_of_ble_eq_true rfl) ?_
  intro X C E hNm
  have tl : t + 2 < 38 := by rcases T with rfl | rfl | rfl <;> decide
  have loop : ∀ r p, p + r = n → ∀ h', wk_F (wk_open hi k) h' k → wk_L h' k (op_L P srt f p) → dk_W X 35 [some (.ref 38), some (.ref 14), some (.ref 30), some (.int (nI k)), some (.ref t), some (.int (nI p)), none] [] 63 (h', hf, dk_RF sr, z) 0 0 := by
    intro r
    induction r with
    | zero =>
      intro p hp h' hF hL
      obtain rfl : p = n := by omega
      have fr : ∀ i j, i < 38 → h' i j = hi i j := fun i j h => by
        rw [hF.cell (by omega), wk_open, dk_up_ne _ _ (Or.inl (by omega)), dk_up_ne _ _ (Or.inl (by omega)), dk_up_ne _ _ (Or.inl (by omega))]
      refine dk_iload C dX6_openSource_35 rfl ?_
      refine dk_aload C dX6_openSource_37 rfl ?_
      refine ek_getI C fX6_130 T.s0 T.l0 rfl dX6_openSource_39 ?_
      rw [fr t 4 (by omega), hn]
      refine dk_icmp_ge C 145 dX6_openSource_42 (by decide) (fun _ => ?_) (fun hz => absurd (Int32.le_refl _) hz)
      exact dk_vret C E dX6_openSource_145 (Nat.zero_le _) (Nat.zero_le _) (⟨rfl, h', hF, hL, rfl⟩)
    | succ r ih =>
      intro p hp h' hF hL
      have fr : ∀ i j, i < 38 → h' i j = hi i j := fun i j h => by
        rw [hF.cell (by omega), wk_open, dk_up_ne _ _ (Or.inl (by omega)), dk_up_ne _ _ (Or.inl (by omega)), dk_up_ne _ _ (Or.inl (by omega))]
      have hd : h' 38 8 = nI k := by
        rw [hF.cell (by omega), wk_open, dk_up_ne _ _ (Or.inl (by omega)), dk_up_ne _ _ (Or.inl (by omega)), dk_up_same]
      have hlen := op_L_len P srt f p
      have hcol : ∀ c, tb_c h' t c = tb_c hi t c := fun c => by funext q; exact fr _ _ (by omega)
      refine dk_iload C dX6_openSource_35 rfl ?_
      refine dk_aload C dX6_openSource_37 rfl ?_
      refine ek_getI C fX6_130 T.s0 T.l0 rfl dX6_openSource_39 ?_
      rw [fr t 4 (by omega), hn]
      refine dk_icmp_ge C 145 dX6_openSource_42 (by decide) (fun hz => absurd hz (nI_ge (by omega) (by omega))) (fun _ => ?_)
      refine dk_aload_n C dX6_openSource_45 rfl rfl ?_
      refine ek_getR C fX6_133 rfl (by decide) rfl 36 rfl dX6_openSource_46 ?_
      refine dk_iload_n C dX6_openSource_49 rfl rfl ?_
      refine ek_iald C rfl (by decide) (k) (rfl) (hk) (by decide) dX6_openSource_50 ?_
      refine dk_iconst C (-1) dX6_openSource_51 rfl ?_
      rw [fr 36 k (by omega)]
      rcases hW with ⟨wc, col, o, w1, w2, w3, w4, w5, w6, rfl, hsrt, rfl⟩ | ⟨wj, pt, cs, cp, tp, rp, ⟨w1, w2, w3, w4, w5, Tp⟩, ⟨w6, w7⟩, ⟨w8, w9, w10⟩, w11, w12, rfl, rfl⟩ | ⟨w1, w2, rfl, rfl⟩
      · have Q := dk_Q0i w1
        refine dk_icmp_eq C 96 dX6_openSource_52 (by decide) (fun hz => absurd hz (by rw [w4]; exact nI_ne_m1 (by omega))) (fun _ => ?_)
        refine dk_aload_n C dX6_openSource_55 rfl rfl ?_
        refine ek_getR C fX6_77 rfl (by decide) rfl 16 rfl dX6_openSource_56 ?_
        refine dk_aload_n C dX6_openSource_59 rfl rfl ?_
        refine ek_getR C fX6_133 rfl (by decide) rfl 36 rfl dX6_openSource_60 ?_
        refine dk_iload_n C dX6_openSource_63 rfl rfl ?_
        refine ek_iald C rfl (by decide) (k) (rfl) (hk) (by decide) dX6_openSource_64 ?_
        refine ek_aald C rfl (by decide) (by decide) (wc) (by rw [fr 36 k (by omega)]; exact w4) (w1) (by decide) (17 + wc) (dk_RF16 sr w1) dX6_openSource_65 ?_
        refine dk_astore C dX6_openSource_66 (by decide) rfl ?_
        refine dk_aload_n C dX6_openSource_68 rfl rfl ?_
        refine dk_aload C dX6_openSource_69 rfl ?_
        refine dk_aload C dX6_openSource_71 rfl ?_
        refine dk_aload_n C dX6_openSource_73 rfl rfl ?_
        refine ek_getR C fX6_136 rfl (by decide) rfl 35 rfl dX6_openSource_74 ?_
        refine dk_iload_n C dX6_openSource_77 rfl rfl ?_
        refine ek_iald C rfl (by decide) (k) (rfl) (hk) (by decide) dX6_openSource_78 ?_
        rw [fr 35 k (by omega)]
        have key : ∀ bv : Bool, srt = bv → dk_W X 90 [some (.ref 38), some (.ref 14), some (.ref 30), some (.int (nI k)), some (.ref t), some (.int (nI p)), some (.ref (17 + wc))] [.int (nI p), .int (bI bv), .ref (17 + wc), .ref t, .ref 38] 63 (h', hf, dk_RF sr, z) 0 0 := by
          intro bv hbv
          refine dk_callV C mX6_139 (c_X6_openByCondition _ _ h' _ _ T Q bv p k col o (op_L _ srt _ p) (by rw [fr _ _ (by omega)]; exact w5) w2 (by rw [fr _ _ (by omega)]; exact w6) w3 (by omega) hd hk hL (by omega) (fun hb => by rw [hcol]; subst hbv; rw [hb]; exact op_L_sorted _ _ p)) rfl (by decide) rfl rfl (Nat.le_of_ble_eq_true rfl) ⟨by decide, by decide⟩ ⟨Nat.zero_le _, Nat.zero_le _⟩ dX6_openSource_90 ?_
          rintro r' h9 ⟨rfl, h2, b1, b2, rfl⟩
          rw [hcol, fr _ _ (by omega), ← hbv] at b2
          refine dk_goto C 139 dX6_openSource_93 (by decide) ?_
          refine dk_iinc C (nI (p + 1)) dX6_openSource_139 rfl (nI_1 p) (by decide) rfl ?_
          refine dk_goto C 35 dX6_openSource_142 (by decide) ?_
          refine dk_forgetAt 6 ?_
          exact ih (p + 1) (by omega) h2 (hF.trans b1) b2
        refine dk_iconst C (2) dX6_openSource_79 rfl ?_
        refine dk_icmp_ne C 87 dX6_openSource_80 (by decide) (fun c1 => ?_) (fun c1 => ?_)
        · refine dk_iconst C (0) dX6_openSource_87 rfl ?_
          refine dk_iload C dX6_openSource_88 rfl ?_
          exact key false (by rw [hsrt]; simpa using c1)
        · refine dk_iconst C (1) dX6_openSource_83 rfl ?_
          refine dk_goto C 88 dX6_openSource_84 (by decide) ?_
          refine dk_iload C dX6_openSource_88 rfl ?_
          exact key true (by rw [hsrt]; simpa using c1)
      · have Q := dk_Q1i w1
        refine dk_icmp_eq C 96 dX6_openSource_52 (by decide) (fun _ => ?_) (fun hz => absurd (w6) hz)
        refine dk_aload_n C dX6_openSource_96 rfl rfl ?_
        refine ek_getR C fX6_143 rfl (by decide) rfl 37 rfl dX6_openSource_97 ?_
        refine dk_iload_n C dX6_openSource_100 rfl rfl ?_
        refine ek_iald C rfl (by decide) (k) (rfl) (hk) (by decide) dX6_openSource_101 ?_
        refine dk_iconst C (-1) dX6_openSource_102 rfl ?_
        rw [fr 37 k (by omega)]
        refine dk_icmp_eq C 133 dX6_openSource_103 (by decide) (fun hz => absurd hz (by rw [w7]; exact nI_ne_m1 (by omega))) (fun _ => ?_)
        refine dk_aload_n C dX6_openSource_106 rfl rfl ?_
        refine dk_aload_n C dX6_openSource_107 rfl rfl ?_
        refine dk_aload_n C dX6_openSource_108 rfl rfl ?_
        refine ek_getR C fX6_100 rfl (by decide) rfl 21 rfl dX6_openSource_109 ?_
        refine dk_aload_n C dX6_openSource_112 rfl rfl ?_
        refine ek_getR C fX6_143 rfl (by decide) rfl 37 rfl dX6_openSource_113 ?_
        refine dk_iload_n C dX6_openSource_116 rfl rfl ?_
        refine ek_iald C rfl (by decide) (k) (rfl) (hk) (by decide) dX6_openSource_117 ?_
        refine ek_aald C rfl (by decide) (by decide) (wj) (by rw [fr 37 k (by omega)]; exact w7) (w1) (by decide) (22 + wj) (dk_RF21 sr w1) dX6_openSource_118 ?_
        refine dk_aload_n C dX6_openSource_119 rfl rfl ?_
        refine ek_getR C fX6_58 rfl (by decide) rfl 34 rfl dX6_openSource_120 ?_
        refine dk_iload_n C dX6_openSource_123 rfl rfl ?_
        refine ek_iald C rfl (by decide) (k) (rfl) (hk) (by decide) dX6_openSource_124 ?_
        rw [fr 34 k (by omega), hs]
        have tpl : tp + 2 < 38 := by rcases Tp with rfl | rfl | rfl <;> decide
        have hcolp : ∀ c, tb_c h' tp c = tb_c hi tp c := fun c => by funext q; exact fr _ _ (by omega)
        have h42 : h' 42 pt = nI rp := by
          rw [hF.cell (by omega), wk_open, dk_up_ne _ _ (Or.inl (by omega)), dk_up_ne _ _ (Or.inl (by omega)), dk_up_ne _ _ (Or.inl (by omega))]
          exact w12
        refine dk_iload C dX6_openSource_125 rfl ?_
        refine dk_callV C mX6_146 (c_X6_openByJoin _ _ h' _ _ T Tp Q s pt cs cp rp p k (op_L _ false f p) hst hs' w11 w2 (by rw [fr _ _ (by omega), fr _ _ (by omega)]; exact w8) (by rw [fr _ _ (by omega), fr _ _ (by omega), fr _ _ (by omega)]; exact w9) (by rw [fr _ _ (by omega), fr _ _ (by omega), fr _ _ (by omega)]; exact w10) w3 w4 h42 w5 (by omega) hd hk hL (by omega) f) rfl (by decide) rfl rfl (Nat.le_of_ble_eq_true rfl) ⟨by decide, by decide⟩ ⟨Nat.zero_le _, Nat.zero_le _⟩ dX6_openSource_127 ?_
        rintro r' h9 ⟨rfl, h2, b1, b2, rfl⟩
        rw [hcol, hcolp] at b2
        refine dk_goto C 139 dX6_openSource_130 (by decide) ?_
        refine dk_iinc C (nI (p + 1)) dX6_openSource_139 rfl (nI_1 p) (by decide) rfl ?_
        refine dk_goto C 35 dX6_openSource_142 (by decide) ?_
        exact ih (p + 1) (by omega) h2 (hF.trans b1) b2
      · refine dk_icmp_eq C 96 dX6_openSource_52 (by decide) (fun _ => ?_) (fun hz => absurd (w1) hz)
        refine dk_aload_n C dX6_openSource_96 rfl rfl ?_
        refine ek_getR C fX6_143 rfl (by decide) rfl 37 rfl dX6_openSource_97 ?_
        refine dk_iload_n C dX6_openSource_100 rfl rfl ?_
        refine ek_iald C rfl (by decide) (k) (rfl) (hk) (by decide) dX6_openSource_101 ?_
        refine dk_iconst C (-1) dX6_openSource_102 rfl ?_
        rw [fr 37 k (by omega)]
        refine dk_icmp_eq C 133 dX6_openSource_103 (by decide) (fun _ => ?_) (fun hz => absurd (w2) hz)
        obtain ⟨a1, a2⟩ := wk_add_L (p := p) hL (by omega) (by omega)
        refine dk_aload_n C dX6_openSource_133 rfl rfl ?_
        refine dk_iload C dX6_openSource_134 rfl ?_
        refine ek_callVv C mX6_150 (c_X6_addPlace _ _ _ _ _ k (op_L _ false f p).length (nI p) hd hk hL.1 (by omega)) rfl (by decide) rfl rfl (Nat.le_of_ble_eq_true rfl) (by decide) (by decide) (Nat.zero_le _) (Nat.zero_le _) dX6_openSource_136 ?_
        refine dk_iinc C (nI (p + 1)) dX6_openSource_139 rfl (nI_1 p) (by decide) rfl ?_
        refine dk_goto C 35 dX6_openSource_142 (by decide) ?_
        exact ih (p + 1) (by omega) _ (hF.trans a2) a1
  refine dk_aload_n C dX6_openSource_0 rfl rfl ?_
  refine dk_iload_n C dX6_openSource_1 rfl rfl ?_
  refine ek_putI C fX6_34 fwX6_8 rfl (by decide) rfl dX6_openSource_2 ?_
  refine dk_aload_n C dX6_openSource_5 rfl rfl ?_
  refine ek_getR C fX6_22 rfl (by decide) rfl 41 rfl dX6_openSource_6 ?_
  refine dk_iload_n C dX6_openSource_9 rfl rfl ?_
  refine dk_iconst C (0) dX6_openSource_10 rfl ?_
  refine ek_iast C rfl (by decide) (k) (rfl) (hk) (by decide) dX6_openSource_11 ?_
  refine dk_aload_n C dX6_openSource_12 rfl rfl ?_
  refine ek_getR C fX6_19 rfl (by decide) rfl 40 rfl dX6_openSource_13 ?_
  refine dk_iload_n C dX6_openSource_16 rfl rfl ?_
  refine dk_iconst C (0) dX6_openSource_17 rfl ?_
  refine ek_iast C rfl (by decide) (k) (rfl) (hk) (by decide) dX6_openSource_18 ?_
  refine dk_aload_n C dX6_openSource_19 rfl rfl ?_
  refine ek_getR C fX6_122 rfl (by decide) rfl 15 rfl dX6_openSource_20 ?_
  refine dk_aload_n C dX6_openSource_23 rfl rfl ?_
  refine ek_getR C fX6_58 rfl (by decide) rfl 34 rfl dX6_openSource_24 ?_
  refine dk_iload_n C dX6_openSource_27 rfl rfl ?_
  refine ek_iald C rfl (by decide) (k) (rfl) (hk) (by decide) dX6_openSource_28 ?_
  have e1 : dk_up (dk_up (dk_up hi 38 8 (nI k)) 41 k 0) 40 k 0 34 k = nI s := by
    rw [dk_up_ne _ _ (Or.inl (by omega)), dk_up_ne _ _ (Or.inl (by omega)), dk_up_ne _ _ (Or.inl (by omega)), hs]
  refine ek_aald C rfl (by decide) (by decide) (s) (e1) (hs') (by decide) t (hst) dX6_openSource_29 ?_
  refine dk_astore C dX6_openSource_30 (by decide) rfl ?_
  refine dk_iconst C (0) dX6_openSource_32 rfl ?_
  refine dk_istore C dX6_openSource_33 (by decide) rfl ?_
  exact loop n 0 (by omega) _ (wk_F.refl _ k) ⟨by simp [wk_open, dk_up, op_L, nI], by simp [op_L], fun i h => by simp [op_L] at h, fun x h => by simp [op_L] at h⟩
end
section
/-! ===== QueryDesk$Plan: the leaves ===== -/
/-- magnitude of a float, by its exponent field -/
def fb (K : Nat) (x : UInt32) : Prop := x.toNat % 2 ^ 31 < K * 2 ^ 23
theorem fb_n {K : Nat} {x : UInt32} (h : fb K x) (hK : K ≤ 255) : vf_n32 x := by
  unfold fb at h
  unfold vf_n32
  rw [UInt32.le_iff_toNat_le, UInt32.toNat_and]
  have e : (0x7fffffff : UInt32).toNat = 2 ^ 31 - 1 := rfl
  rw [e, Nat.and_two_pow_sub_one_eq_mod]
  have e2 : (0x7f800000 : UInt32).toNat = 255 * 2 ^ 23 := rfl
  rw [e2]
  have : K * 2 ^ 23 ≤ 255 * 2 ^ 23 := Nat.mul_le_mul_right _ hK
  omega
theorem fb_w {K K' : Nat} {x : UInt32} (h : fb K x) (hK : K ≤ K') : fb K' x := Nat.lt_of_lt_of_le h (Nat.mul_le_mul_right _ hK)
theorem fb_mul {Ka Kb : Nat} {x y : UInt32} (ha : fb Ka x) (hb : fb Kb y) (h1 : Ka ≤ 255) (h2 : Kb ≤ 255) : fb (Ka + Kb - 129 + 3) (FP.fmul x y) := FP.Core.fmul_mag ha hb h1 h2
theorem fb_add {K : Nat} {x y : UInt32} (ha : fb K x) (hb : fb K y) (h1 : K ≤ 255) : fb (K + 2) (FP.fadd x y) := FP.Core.fadd_mag ha hb h1
theorem fb_sub {K : Nat} {x y : UInt32} (ha : fb K x) (hb : fb K y) (h1 : K ≤ 255) : fb (K + 2) (FP.fsub x y) := FP.Core.fsub_mag ha hb h1
theorem fb_0 : fb 1 FP.fconst0 := by unfold fb FP.fconst0; decide
theorem fb_1 : fb 128 FP.fconst1 := by unfold fb FP.fconst1; decide
theorem fb_2 : fb 129 FP.fconst2 := by unfold fb FP.fconst2; decide
theorem fb_i {n : Nat} (h : n ≤ 24) : fb 133 (FP.i2f (nI n)) := by
  have h1 : (nI n).toInt.natAbs ≤ 2 ^ 5 := by rw [nI_toInt (by omega)]; omega
  have := FP.Core.fromInt_mag32 (FP.Core.toNat_i2f (nI n)) h1 (K := 132) (by decide) (by decide)
  unfold fb
  exact Nat.lt_of_le_of_lt this (by decide)
/-- less, as fcmpg and ifge have it -/
def flt (x y : UInt32) : Prop := ¬ (0 ≤ Op.cmpValue (FP.fcmp x y) .g)
/-- the way chosen so far: its rows, its kind, condition and join -/
abbrev pl_B : Type := UInt32 × Int32 × Int32 × Int32
def pl_cand (b : pl_B) (r : UInt32) (w c j : Int32) : pl_B := if 0 ≤ Op.cmpValue (FP.fcmp r b.1) .g then b else (r, w, c, j)
def pl_hi (hi : Nat → Nat → Int32) (k : Nat) (b : pl_B) : Nat → Nat → Int32 := dk_up (dk_up (dk_up hi 35 k b.2.1) 36 k b.2.2.1) 37 k b.2.2.2
def pl_hf (hf : Nat → Nat → UInt32) (b : pl_B) : Nat → Nat → UInt32 := dk_up hf 30 7 b.1
theorem dk_up_up {α : Type} (f : Nat → Nat → α) (i k : Nat) (v w : α) : dk_up (dk_up f i k v) i k w = dk_up f i k w := by
  funext a b
  unfold dk_up
  by_cases h : a = i ∧ b = k
  · rw [if_pos h, if_pos h]
  · rw [if_neg h, if_neg h, if_neg h]
theorem dk_up_comm {α : Type} (f : Nat → Nat → α) {i k i' k' : Nat} (v w : α) (h : i ≠ i' ∨ k ≠ k') : dk_up (dk_up f i k v) i' k' w = dk_up (dk_up f i' k' w) i k v := by
  funext a b
  unfold dk_up
  by_cases h1 : a = i' ∧ b = k' <;> by_cases h2 : a = i ∧ b = k
  · omega
  · rw [if_pos h1, if_neg h2, if_pos h1]
  · rw [if_neg h1, if_pos h2, if_pos h2]
  · rw [if_neg h1, if_neg h2, if_neg h2, if_neg h1]
theorem pl_hi_hi (hi : Nat → Nat → Int32) (k : Nat) (b : pl_B) (w c j : Int32) : dk_up (dk_up (dk_up (pl_hi hi k b) 35 k w) 36 k c) 37 k j = dk_up (dk_up (dk_up hi 35 k w) 36 k c) 37 k j := by
  unfold pl_hi
  rw [dk_up_comm (dk_up (dk_up hi 35 k b.2.1) 36 k b.2.2.1) _ w (Or.inl (by decide)), dk_up_comm (dk_up hi 35 k b.2.1) _ w (Or.inl (by decide)), dk_up_up]
  rw [dk_up_comm (dk_up (dk_up hi 35 k w) 36 k b.2.2.1) _ c (Or.inl (by decide)), dk_up_up, dk_up_up]
theorem pl_hf_hf (hf : Nat → Nat → UInt32) (b : pl_B) (r : UInt32) : dk_up (pl_hf hf b) 30 7 r = dk_up hf 30 7 r := dk_up_up _ _ _ _ _
set_option maxHeartbeats 4000000 in
set_option maxRecDepth 100000 in
theorem c_X3_takeWay (G : dk_G) (sr : Nat → Option Nat) (hi : Nat → Nat → Int32) (hf : Nat → Nat → UInt32) (z : (Nat → Nat → Int64) × (Nat → Nat → UInt64)) (k : Nat) (hk : k < 3) (w c j : Int32) :
    dk_MF G yX3_takeWay cX3_takeWay 5 none 0 0 [.ref 30, .int (nI k), .int w, .int c, .int j] (hi, hf, dk_RF sr, z) (none) (dk_up (dk_up (dk_up hi 35 k w) 36 k c) 37 k j, hf, dk_RF sr, z) := by
  refine dk_met (L := [some (.ref 30), some (.int (nI k)), some (.int w), some (.int c), some (.int j)]) pnX3 rfl (Nat.le_of_ble_eq_true rfl) ?_
  intro X C E hNm
  refine dk_aload_n C dX3_takeWay_0 rfl rfl ?_
  refine ek_getR C fX3_27 rfl (by decide) rfl 35 rfl dX3_takeWay_1 ?_
  refine dk_iload_n C dX3_takeWay_4 rfl rfl ?_
  refine dk_iload_n C dX3_takeWay_5 rfl rfl ?_
  refine ek_iast C rfl (by decide) (k) (rfl) (hk) (by decide) dX3_takeWay_6 ?_
  refine dk_aload_n C dX3_takeWay_7 rfl rfl ?_
  refine ek_getR C fX3_30 rfl (by decide) rfl 36 rfl dX3_takeWay_8 ?_
  refine dk_iload_n C dX3_takeWay_11 rfl rfl ?_
  refine dk_iload_n C dX3_takeWay_12 rfl rfl ?_
  refine ek_iast C rfl (by decide) (k) (rfl) (hk) (by decide) dX3_takeWay_13 ?_
  refine dk_aload_n C dX3_takeWay_14 rfl rfl ?_
  refine ek_getR C fX3_33 rfl (by decide) rfl 37 rfl dX3_takeWay_15 ?_
  refine dk_iload_n C dX3_takeWay_18 rfl rfl ?_
  refine dk_iload C dX3_takeWay_19 rfl ?_
  refine ek_iast C rfl (by decide) (k) (rfl) (hk) (by decide) dX3_takeWay_21 ?_
  exact dk_vret C E dX3_takeWay_22 (Nat.zero_le _) (Nat.zero_le _) (⟨rfl, rfl⟩)
set_option maxHeartbeats 4000000 in
set_option maxRecDepth 100000 in
theorem c_X3_considerWay (G : dk_G) (sr : Nat → Option Nat) (hi : Nat → Nat → Int32) (hf : Nat → Nat → UInt32) (z : (Nat → Nat → Int64) × (Nat → Nat → UInt64)) (k : Nat) (hk : k < 3) (b : pl_B) (r : UInt32) (w c j : Int32) :
    dk_MF G yX3_considerWay cX3_considerWay 6 none 1 24 [.ref 30, .float r, .int (nI k), .int w, .int c, .int j] (pl_hi hi k b, pl_hf hf b, dk_RF sr, z) none (pl_hi hi k (pl_cand b r w c j), pl_hf hf (pl_cand b r w c j), dk_RF sr, z) := by
  refine dk_met (L := [some (.ref 30), some (.float r), some (.int (nI k)), some (.int w), some (.int c), some (.int j)]) pnX3 rfl (Nat.le_of_ble_eq_true rfl) ?_
  intro X C E hNm
  have e : pl_hf hf b 30 7 = b.1 := dk_up_same _ _ _ _
  refine dk_fload_n C dX3_considerWay_0 rfl rfl ?_
  refine dk_aload_n C dX3_considerWay_1 rfl rfl ?_
  refine ek_getF C fX3_152 rfl (by decide) rfl dX3_considerWay_2 ?_
  rw [e]
  refine dk_fcmp C dX3_considerWay_5 ?_
  refine dk_if_ge C 24 dX3_considerWay_6 (by decide) (fun c1 => ?_) (fun c1 => ?_)
  · exact dk_vret C E dX3_considerWay_24 (Nat.zero_le _) (Nat.zero_le _) (⟨rfl, by rw [pl_cand, if_pos c1]⟩)
  · refine dk_aload_n C dX3_considerWay_9 rfl rfl ?_
    refine dk_fload_n C dX3_considerWay_10 rfl rfl ?_
    refine ek_putF C fX3_152 fwX3_7 rfl (by decide) rfl dX3_considerWay_11 ?_
    refine dk_aload_n C dX3_considerWay_14 rfl rfl ?_
    refine dk_iload_n C dX3_considerWay_15 rfl rfl ?_
    refine dk_iload_n C dX3_considerWay_16 rfl rfl ?_
    refine dk_iload C dX3_considerWay_17 rfl ?_
    refine dk_iload C dX3_considerWay_19 rfl ?_
    refine ek_callVv C mX3_168 (c_X3_takeWay _ _ _ _ _ k hk w c j) rfl (by decide) rfl rfl (Nat.le_of_ble_eq_true rfl) (by decide) (by decide) (Nat.zero_le _) (Nat.zero_le _) dX3_considerWay_21 ?_
    rw [pl_hi_hi, pl_hf_hf]
    exact dk_vret C E dX3_considerWay_24 (Nat.zero_le _) (Nat.zero_le _) (⟨rfl, by rw [pl_cand, if_neg c1]; rfl⟩)
set_option maxHeartbeats 4000000 in
set_option maxRecDepth 100000 in
theorem c_X3_orderCountOf (G : dk_G) (sr : Nat → Option Nat) (hi : Nat → Nat → Int32) (hf : Nat → Nat → UInt32) (z : (Nat → Nat → Int64) × (Nat → Nat → UInt64)) (n : Nat) (hn : n ≤ 3) :
    dk_MF G yX3_orderCountOf cX3_orderCountOf 1 (some .int) 0 0 [.int (nI n)] (hi, hf, dk_RF sr, z) (some (.int (nI (if n = 3 then 6 else n)))) (hi, hf, dk_RF sr, z) := by
  refine dk_met (L := [some (.int (nI n))]) pnX3 rfl (Nat.le_of_ble_eq_true rfl) ?_
  intro X C E hNm
  refine dk_iload_n C dX3_orderCountOf_0 rfl rfl ?_
  refine dk_iconst C (3) dX3_orderCountOf_1 rfl ?_
  refine dk_icmp_ne C 10 dX3_orderCountOf_2 (by decide) (fun c1 => ?_) (fun c1 => ?_)
  · refine dk_iload_n C dX3_orderCountOf_10 rfl rfl ?_
    exact dk_iret C E dX3_orderCountOf_11 (Nat.zero_le _) (Nat.zero_le _) (⟨pI (by rw [if_neg (fun q => c1 (by rw [q]; rfl))]), rfl⟩)
  · have e : n = 3 := (nI_eq (by omega) (by decide)).mp c1
    refine dk_bipush C (6) dX3_orderCountOf_5 rfl ?_
    refine dk_goto C 11 dX3_orderCountOf_7 (by decide) ?_
    exact dk_iret C E dX3_orderCountOf_11 (Nat.zero_le _) (Nat.zero_le _) (⟨pI (by rw [if_pos e]; rfl), rfl⟩)
/-- which static array holds the orders of n sources -/
def pl_o (n : Nat) : Nat := if n = 1 then 0 else if n = 2 then 1 else 2
set_option maxHeartbeats 4000000 in
set_option maxRecDepth 100000 in
theorem c_X3_ordersOf (G : dk_G) (sr : Nat → Option Nat) (hi : Nat → Nat → Int32) (hf : Nat → Nat → UInt32) (z : (Nat → Nat → Int64) × (Nat → Nat → UInt64)) (n : Nat) (hn : n ≤ 3) :
    dk_MF G yX3_ordersOf cX3_ordersOf 1 (some (.array .int)) 0 0 [.int (nI n)] (hi, hf, dk_RF sr, z) (some (.retAddr (pl_o n))) (hi, hf, dk_RF sr, z) := by
  refine dk_met (L := [some (.int (nI n))]) pnX3 rfl (Nat.le_of_ble_eq_true rfl) ?_
  intro X C E hNm
  refine dk_iload_n C dX3_ordersOf_0 rfl rfl ?_
  refine dk_iconst C (1) dX3_ordersOf_1 rfl ?_
  refine dk_icmp_ne C 9 dX3_ordersOf_2 (by decide) (fun c1 => ?_) (fun c1 => ?_)
  · have e1 : n ≠ 1 := fun q => c1 (by rw [q]; rfl)
    refine dk_iload_n C dX3_ordersOf_9 rfl rfl ?_
    refine dk_iconst C (2) dX3_ordersOf_10 rfl ?_
    refine dk_icmp_ne C 20 dX3_ordersOf_11 (by decide) (fun c2 => ?_) (fun c2 => ?_)
    · have e2 : n ≠ 2 := fun q => c2 (by rw [q]; rfl)
      refine dk_gets C 2 (by decide) gsX3_75 dX3_ordersOf_20 ?_
      exact dk_aret C E rfl (Or.inr ⟨_, rfl⟩) dX3_ordersOf_23 (Nat.zero_le _) (Nat.zero_le _) ⟨by rw [pl_o, if_neg e1, if_neg e2], rfl⟩
    · have e2 : n = 2 := (nI_eq (by omega) (by decide)).mp c2
      refine dk_gets C 1 (by decide) gsX3_72 dX3_ordersOf_14 ?_
      refine dk_goto C 23 dX3_ordersOf_17 (by decide) ?_
      exact dk_aret C E rfl (Or.inr ⟨_, rfl⟩) dX3_ordersOf_23 (Nat.zero_le _) (Nat.zero_le _) ⟨by rw [pl_o, if_neg e1, if_pos e2], rfl⟩
  · have e1 : n = 1 := (nI_eq (by omega) (by decide)).mp c1
    refine dk_gets C 0 (by decide) gsX3_69 dX3_ordersOf_5 ?_
    exact dk_aret C E rfl (Or.inr ⟨_, rfl⟩) dX3_ordersOf_8 (Nat.zero_le _) (Nat.zero_le _) ⟨by rw [pl_o, if_pos e1], rfl⟩
/-- whether the source x stands among the first k of the order -/
def pl_bef (hi : Nat → Nat → Int32) (x : Int32) (k : Nat) : Bool := (List.range k).any (fun i => decide (hi 34 i = x))
theorem pl_bef_t {hi : Nat → Nat → Int32} {x : Int32} {k i : Nat} (h : i < k) (e : hi 34 i = x) : pl_bef hi x k = true := List.any_eq_true.mpr ⟨i, List.mem_range.mpr h, by simpa using e⟩
theorem pl_bef_f {hi : Nat → Nat → Int32} {x : Int32} {k : Nat} (h : ∀ i, i < k → hi 34 i ≠ x) : pl_bef hi x k = false := by
  cases e : pl_bef hi x k with
  | false => rfl
  | true =>
    obtain ⟨i, h1, h2⟩ := List.any_eq_true.mp e
    exact absurd (by simpa using h2) (h i (List.mem_range.mp h1))
set_option maxHeartbeats 4000000 in
set_option maxRecDepth 100000 in
theorem c_X3_isBefore (G : dk_G) (sr : Nat → Option Nat) (hi : Nat → Nat → Int32) (hf : Nat → Nat → UInt32) (z : (Nat → Nat → Int64) × (Nat → Nat → UInt64)) (x : Int32) (k : Nat) (hk : k ≤ 3) :
    dk_MF G yX3_isBefore cX3_isBefore 4 (some .boolean) 0 0 [.ref 30, .int x, .int (nI k)] (hi, hf, dk_RF sr, z) (some (.int (bI (pl_bef hi x k)))) (hi, hf, dk_RF sr, z) := by
  refine dk_met (L := [some (.ref 30), some (.int x), some (.int (nI k)), none]) pnX3 rfl (Nat.le_of_ble_eq_true rfl) ?_
  intro X C E hNm
  have loop : ∀ r p, p + r = k → (∀ i, i < p → hi 34 i ≠ x) → dk_W X 2 [some (.ref 30), some (.int x), some (.int (nI k)), some (.int (nI p))] [] 63 (hi, hf, dk_RF sr, z) 0 0 := by
    intro r
    induction r with
    | zero =>
      intro p hp he
      obtain rfl : p = k := by omega
      refine dk_iload_n C dX3_isBefore_2 rfl rfl ?_
      refine dk_iload_n C dX3_isBefore_3 rfl rfl ?_
      refine dk_icmp_ge C 25 dX3_isBefore_4 (by decide) (fun _ => ?_) (fun hz => absurd (Int32.le_refl _) hz)
      refine dk_iconst C (0) dX3_isBefore_25 rfl ?_
      exact dk_zret C E rfl dX3_isBefore_26 (Nat.zero_le _) (Nat.zero_le _) (⟨pI (bI_f (pl_bef_f he)), rfl⟩)
    | succ r ih =>
      intro p hp he
      refine dk_iload_n C dX3_isBefore_2 rfl rfl ?_
      refine dk_iload_n C dX3_isBefore_3 rfl rfl ?_
      refine dk_icmp_ge C 25 dX3_isBefore_4 (by decide) (fun hz => absurd hz (nI_ge (by omega) (by omega))) (fun _ => ?_)
      refine dk_aload_n C dX3_isBefore_7 rfl rfl ?_
      refine ek_getR C fX3_23 rfl (by decide) rfl 34 rfl dX3_isBefore_8 ?_
      refine dk_iload_n C dX3_isBefore_11 rfl rfl ?_
      refine ek_iald C rfl (by decide) (p) (rfl) (by omega) (by decide) dX3_isBefore_12 ?_
      refine dk_iload_n C dX3_isBefore_13 rfl rfl ?_
      refine dk_icmp_ne C 19 dX3_isBefore_14 (by decide) (fun c1 => ?_) (fun c1 => ?_)
      · refine dk_iinc C (nI (p + 1)) dX3_isBefore_19 rfl (nI_1 p) (by decide) rfl ?_
        refine dk_goto C 2 dX3_isBefore_22 (by decide) ?_
        exact ih (p + 1) (by omega) (lt_s he c1)
      · refine dk_iconst C (1) dX3_isBefore_17 rfl ?_
        exact dk_zret C E rfl dX3_isBefore_18 (Nat.zero_le _) (Nat.zero_le _) (⟨pI (bI_t (pl_bef_t (by omega) c1)), rfl⟩)
  refine dk_iconst C (0) dX3_isBefore_0 rfl ?_
  refine dk_istore_n C dX3_isBefore_1 rfl (by decide) rfl ?_
  exact loop k 0 (by omega) lt_0
/-- whether a join asks something of the k-th source with one before it -/
def pl_ties (hi : Nat → Nat → Int32) (c k : Nat) : Bool := decide (hi c 0 = hi 34 k ∨ hi c 2 = hi 34 k) && pl_bef hi (if hi c 0 = hi 34 k then hi c 2 else hi c 0) k
set_option maxHeartbeats 4000000 in
set_option maxRecDepth 100000 in
theorem c_X3_tiesBack (G : dk_G) (sr : Nat → Option Nat) (hi : Nat → Nat → Int32) (hf : Nat → Nat → UInt32) (z : (Nat → Nat → Int64) × (Nat → Nat → UInt64)) {c : Nat} (Q : dk_Q1 c) (k : Nat) (hk : k < 3) :
    dk_MF G yX3_tiesBack cX3_tiesBack 3 (some .boolean) 1 23 [.ref 30, .ref c, .int (nI k)] (hi, hf, dk_RF sr, z) (some (.int (bI (pl_ties hi c k)))) (hi, hf, dk_RF sr, z) := by
  refine dk_met (L := [some (.ref 30), some (.ref c), some (.int (nI k))]) pnX3 rfl (Nat.le_of_ble_eq_true rfl) ?_
  intro X C E hNm
  refine dk_aload_n C dX3_tiesBack_0 rfl rfl ?_
  refine dk_aload_n C dX3_tiesBack_1 rfl rfl ?_
  refine ek_getR C fX3_23 rfl (by decide) rfl 34 rfl dX3_tiesBack_2 ?_
  refine dk_iload_n C dX3_tiesBack_5 rfl rfl ?_
  refine ek_iald C rfl (by decide) (k) (rfl) (hk) (by decide) dX3_tiesBack_6 ?_
  refine ek_callV C mX3_56 (c_X1_ties _ _ _ _ _ Q (hi 34 k)) Q.s0 Q.l0 rfl rfl (Nat.le_of_ble_eq_true rfl) (by decide) (by decide) (Nat.zero_le _) (Nat.zero_le _) dX3_tiesBack_7 ?_
  refine dk_if_eq C 35 dX3_tiesBack_10 (by decide) (fun c1 => ?_) (fun c1 => ?_)
  · refine dk_iconst C (0) dX3_tiesBack_35 rfl ?_
    exact dk_zret C E rfl dX3_tiesBack_36 (Nat.zero_le _) (Nat.zero_le _) (⟨pI (bI_f (by rw [pl_ties, bI_n0 c1]; rfl)), rfl⟩)
  · refine dk_aload_n C dX3_tiesBack_13 rfl rfl ?_
    refine dk_aload_n C dX3_tiesBack_14 rfl rfl ?_
    refine dk_aload_n C dX3_tiesBack_15 rfl rfl ?_
    refine ek_getR C fX3_23 rfl (by decide) rfl 34 rfl dX3_tiesBack_16 ?_
    refine dk_iload_n C dX3_tiesBack_19 rfl rfl ?_
    refine ek_iald C rfl (by decide) (k) (rfl) (hk) (by decide) dX3_tiesBack_20 ?_
    refine ek_callV C mX3_62 (c_X1_partnerOf _ _ _ _ _ Q (hi 34 k)) Q.s0 Q.l0 rfl rfl (Nat.le_of_ble_eq_true rfl) (by decide) (by decide) (Nat.zero_le _) (Nat.zero_le _) dX3_tiesBack_21 ?_
    refine dk_iload_n C dX3_tiesBack_24 rfl rfl ?_
    refine ek_callV C mX3_65 (c_X3_isBefore _ _ _ _ _ _ k (by omega)) rfl (by decide) rfl rfl (Nat.le_of_ble_eq_true rfl) (by decide) (by decide) (Nat.zero_le _) (Nat.zero_le _) dX3_tiesBack_25 ?_
    refine dk_if_eq C 35 dX3_tiesBack_28 (by decide) (fun c2 => ?_) (fun c2 => ?_)
    · refine dk_iconst C (0) dX3_tiesBack_35 rfl ?_
      exact dk_zret C E rfl dX3_tiesBack_36 (Nat.zero_le _) (Nat.zero_le _) (⟨pI (bI_f (by rw [pl_ties, bI_n1 c1, bI_n0 c2]; rfl)), rfl⟩)
    · refine dk_iconst C (1) dX3_tiesBack_31 rfl ?_
      refine dk_goto C 36 dX3_tiesBack_32 (by decide) ?_
      exact dk_zret C E rfl dX3_tiesBack_36 (Nat.zero_le _) (Nat.zero_le _) (⟨pI (bI_t (by rw [pl_ties, bI_n1 c1, bI_n1 c2]; rfl)), rfl⟩)
set_option maxHeartbeats 4000000 in
set_option maxRecDepth 100000 in
theorem c_X3_joinShare (G : dk_G) (sr : Nat → Option Nat) (hi : Nat → Nat → Int32) (hf : Nat → Nat → UInt32) (z : (Nat → Nat → Int64) × (Nat → Nat → UInt64)) {c : Nat} (Q : dk_Q1 c) (j : Nat) (hj : j < 3) (s : Int32) :
    dk_MF G yX3_joinShare cX3_joinShare 4 (some .float) 0 0 [.ref 30, .ref c, .int (nI j), .int s] (hi, hf, dk_RF sr, z) (some (.float (if hi c 0 = s then hf 32 j else hf 33 j))) (hi, hf, dk_RF sr, z) := by
  refine dk_met (L := [some (.ref 30), some (.ref c), some (.int (nI j)), some (.int s)]) pnX3 rfl (Nat.le_of_ble_eq_true rfl) ?_
  intro X C E hNm
  refine dk_aload_n C dX3_joinShare_0 rfl rfl ?_
  refine ek_getI C fX3_105 Q.s0 Q.l0 rfl dX3_joinShare_1 ?_
  refine dk_iload_n C dX3_joinShare_4 rfl rfl ?_
  refine dk_icmp_ne C 17 dX3_joinShare_5 (by decide) (fun c1 => ?_) (fun c1 => ?_)
  · refine dk_aload_n C dX3_joinShare_17 rfl rfl ?_
    refine ek_getR C fX3_20 rfl (by decide) rfl 33 rfl dX3_joinShare_18 ?_
    refine dk_iload_n C dX3_joinShare_21 rfl rfl ?_
    refine ek_fald C rfl (by decide) (j) (rfl) (hj) (by decide) dX3_joinShare_22 ?_
    exact dk_fret C E dX3_joinShare_23 (Nat.zero_le _) (Nat.zero_le _) (⟨pF (by rw [if_neg c1]), rfl⟩)
  · refine dk_aload_n C dX3_joinShare_8 rfl rfl ?_
    refine ek_getR C fX3_17 rfl (by decide) rfl 32 rfl dX3_joinShare_9 ?_
    refine dk_iload_n C dX3_joinShare_12 rfl rfl ?_
    refine ek_fald C rfl (by decide) (j) (rfl) (hj) (by decide) dX3_joinShare_13 ?_
    refine dk_goto C 23 dX3_joinShare_14 (by decide) ?_
    exact dk_fret C E dX3_joinShare_23 (Nat.zero_le _) (Nat.zero_le _) (⟨pF (by rw [if_pos c1]), rfl⟩)
end
section
/-! ===== QueryDesk$Plan: the best way, the count behind ===== -/
theorem pl_hi_ne {hi : Nat → Nat → Int32} {k i j : Nat} {b : pl_B} (h : i < 35 ∨ 37 < i) : pl_hi hi k b i j = hi i j := by
  unfold pl_hi
  rw [dk_up_ne _ _ (Or.inl (by omega)), dk_up_ne _ _ (Or.inl (by omega)), dk_up_ne _ _ (Or.inl (by omega))]
theorem pl_hf_ne {hf : Nat → Nat → UInt32} {i j : Nat} {b : pl_B} (h : i ≠ 30) : pl_hf hf b i j = hf i j := dk_up_ne _ _ (Or.inl h)
/-- the question as the class holds it: sources, conditions, joins; the indices' marks -/
def qC (hi : Nat → Nat → Int32) (sr : Nat → Option Nat) (ns nc nj : Nat) (st nR : Nat → Nat) : Prop :=
  (hi 14 4 = nI ns ∧ ns ≤ 3 ∧ ∀ s, s < ns → sr s = some (st s) ∧ dk_T (st s) ∧ hi (st s) 4 = nI (nR s) ∧ nR s ≤ 24) ∧
  (hi 14 5 = nI nc ∧ nc ≤ 4 ∧ ∀ i, i < nc → ∃ s c o, s < ns ∧ c < 4 ∧ o < 4 ∧ hi (17 + i) 0 = nI s ∧ hi (17 + i) 1 = nI c ∧ hi (17 + i) 2 = nI o) ∧
  (hi 14 6 = nI nj ∧ nj ≤ 3 ∧ ∀ j, j < nj → ∃ a ca b cb, (a < ns ∧ ca < 4 ∧ b < ns ∧ cb < 4 ∧ a ≠ b) ∧ hi (22 + j) 0 = nI a ∧ hi (22 + j) 1 = nI ca ∧ hi (22 + j) 2 = nI b ∧ hi (22 + j) 3 = nI cb) ∧
  ∀ t, dk_T t → ∀ q, q < 8 → hi (t + 3) q = 0 ∨ hi (t + 3) q = 1
theorem qC.fr {hi hi' : Nat → Nat → Int32} {sr : Nat → Option Nat} {ns nc nj : Nat} {st nR : Nat → Nat} (h : qC hi sr ns nc nj st nR) (hh : ∀ i j, i < 30 → hi' i j = hi i j) : qC hi' sr ns nc nj st nR := by
  obtain ⟨⟨a1, a2, a3⟩, ⟨b1, b2, b3⟩, ⟨c1, c2, c3⟩, d⟩ := h
  refine ⟨⟨by rw [hh _ _ (by decide)]; exact a1, a2, fun s hs => ?_⟩, ⟨by rw [hh _ _ (by decide)]; exact b1, b2, fun i hi' => ?_⟩, ⟨by rw [hh _ _ (by decide)]; exact c1, c2, fun j hj => ?_⟩, fun t T q hq => ?_⟩
  · obtain ⟨x1, x2, x3, x4⟩ := a3 s hs
    exact ⟨x1, x2, by rw [hh _ _ (by have := x2; unfold dk_T at this; omega)]; exact x3, x4⟩
  · obtain ⟨s, c, o, y1, y2, y3, y4, y5, y6⟩ := b3 i hi'
    exact ⟨s, c, o, y1, y2, y3, by rw [hh _ _ (by omega)]; exact y4, by rw [hh _ _ (by omega)]; exact y5, by rw [hh _ _ (by omega)]; exact y6⟩
  · obtain ⟨a, ca, b, cb, y1, y2, y3, y4, y5⟩ := c3 j hj
    exact ⟨a, ca, b, cb, y1, by rw [hh _ _ (by omega)]; exact y2, by rw [hh _ _ (by omega)]; exact y3, by rw [hh _ _ (by omega)]; exact y4, by rw [hh _ _ (by omega)]; exact y5⟩
  · rw [hh _ _ (by unfold dk_T at T; omega)]; exact d t T q hq
/-- one condition, one join considered: marks x0 (HASH), x1 (ORDERED); m the rows that match -/
def pl_cond (b : pl_B) (m : UInt32) (o x0 x1 : Int32) (c j : Int32) : pl_B :=
  let b1 := if o = 0 ∧ ¬ x0 = 0 then pl_cand b (FP.fadd FP.fconst1 m) 1 c j else b
  if ¬ o = 3 ∧ ¬ x1 = 0 then pl_cand b1 (FP.fadd FP.fconst2 m) 2 c j else b1
theorem fb_m {n : Nat} {x : UInt32} (hn : n ≤ 24) (h : fb 131 x) : fb 138 (FP.fmul (FP.i2f (nI n)) x) := fb_w (fb_mul (fb_i hn) h (by decide) (by decide)) (by decide)
theorem fb_m1 {n : Nat} {x : UInt32} (hn : n ≤ 24) (h : fb 131 x) : fb 140 (FP.fadd FP.fconst1 (FP.fmul (FP.i2f (nI n)) x)) := fb_w (fb_add (fb_w fb_1 (by decide)) (fb_m hn h) (by decide)) (by decide)
theorem fb_m2 {n : Nat} {x : UInt32} (hn : n ≤ 24) (h : fb 131 x) : fb 140 (FP.fadd FP.fconst2 (FP.fmul (FP.i2f (nI n)) x)) := fb_w (fb_add (fb_w fb_2 (by decide)) (fb_m hn h) (by decide)) (by decide)
set_option maxHeartbeats 4000000 in
set_option maxRecDepth 100000 in
theorem c_X3_considerCondition (G : dk_G) (sr : Nat → Option Nat) (hi : Nat → Nat → Int32) (hf : Nat → Nat → UInt32) (z : (Nat → Nat → Int64) × (Nat → Nat → UInt64)) {ns nc nj : Nat} {st nR : Nat → Nat} (hq : qC hi sr ns nc nj st nR) (k i s c : Nat) (hk : k < 3) (hi4 : i < nc) (hs : hi 34 k = nI s) (hs' : s < ns) (hc : hi (17 + i) 1 = nI c) (hc' : c < 4) (hsh : fb 131 (hf 31 i)) (b : pl_B) :
    dk_MF G yX3_considerCondition cX3_considerCondition 7 none 2 49 [.ref 30, .ref 14, .int (nI k), .int (nI i)] (pl_hi hi k b, pl_hf hf b, dk_RF sr, z) none (pl_hi hi k (pl_cond b (FP.fmul (FP.i2f (nI (nR s))) (hf 31 i)) (hi (17 + i) 2) (hi (st s + 3) (c * 2)) (hi (st s + 3) (c * 2 + 1)) (nI i) (-1)), pl_hf hf (pl_cond b (FP.fmul (FP.i2f (nI (nR s))) (hf 31 i)) (hi (17 + i) 2) (hi (st s + 3) (c * 2)) (hi (st s + 3) (c * 2 + 1)) (nI i) (-1)), dk_RF sr, z) := by
  refine dk_met (L := [some (.ref 30), some (.ref 14), some (.int (nI k)), some (.int (nI i)), none, none, none]) pnX3 rfl (Nat.le_of_ble_eq_true rfl) ?_
  intro X C E hNm
  have hns := hq.1.2.1
  have hnc := hq.2.1.2.1
  obtain ⟨x1, T, x3, x4⟩ := hq.1.2.2 s hs'
  have Q := dk_Q0i (n := i) (by omega)
  have tl : st s + 3 < 14 := by unfold dk_T at T; omega
  have hx0 := hq.2.2.2 _ T (c * 2) (by omega)
  have hx1 := hq.2.2.2 _ T (c * 2 + 1) (by omega)
  have ek : ∀ b, pl_hi hi k b 34 k = nI s := fun b => by rw [pl_hi_ne (by omega)]; exact hs
  refine dk_aload_n C dX3_considerCondition_0 rfl rfl ?_
  refine ek_getR C fX3_81 rfl (by decide) rfl 16 rfl dX3_considerCondition_1 ?_
  refine dk_iload_n C dX3_considerCondition_4 rfl rfl ?_
  refine ek_aald C rfl (by decide) (by decide) (i) (rfl) (by omega) (by decide) (17 + i) (dk_RF16 sr (by omega)) dX3_considerCondition_5 ?_
  refine dk_astore C dX3_considerCondition_6 (by decide) rfl ?_
  refine dk_aload_n C dX3_considerCondition_8 rfl rfl ?_
  refine ek_getR C fX3_85 rfl (by decide) rfl 15 rfl dX3_considerCondition_9 ?_
  refine dk_aload_n C dX3_considerCondition_12 rfl rfl ?_
  refine ek_getR C fX3_23 rfl (by decide) rfl 34 rfl dX3_considerCondition_13 ?_
  refine dk_iload_n C dX3_considerCondition_16 rfl rfl ?_
  refine ek_iald C rfl (by decide) (k) (rfl) (hk) (by decide) dX3_considerCondition_17 ?_
  refine ek_aald C rfl (by decide) (by decide) (s) (ek b) (by omega) (by decide) (st s) (x1) dX3_considerCondition_18 ?_
  refine dk_astore C dX3_considerCondition_19 (by decide) rfl ?_
  refine dk_aload C dX3_considerCondition_21 rfl ?_
  refine ek_getI C fX3_121 T.s0 T.l0 rfl dX3_considerCondition_23 ?_
  rw [pl_hi_ne (by omega), x3]
  refine dk_i2f C dX3_considerCondition_26 ?_
  refine dk_aload_n C dX3_considerCondition_27 rfl rfl ?_
  refine ek_getR C fX3_11 rfl (by decide) rfl 31 rfl dX3_considerCondition_28 ?_
  refine dk_iload_n C dX3_considerCondition_31 rfl rfl ?_
  refine ek_fald C rfl (by decide) (i) (rfl) (by omega) (by decide) dX3_considerCondition_32 ?_
  rw [pl_hf_ne (by decide)]
  refine dk_fmul C dX3_considerCondition_33 (fb_n (fb_m x4 hsh) (by decide)) ?_
  refine dk_fstore C dX3_considerCondition_34 (by decide) rfl ?_
  generalize hm : FP.fmul (FP.i2f (nI (nR s))) (hf 31 i) = m
  have hm1 : vf_n32 (FP.fadd FP.fconst1 m) := by rw [← hm]; exact fb_n (fb_m1 x4 hsh) (by decide)
  have hm2 : vf_n32 (FP.fadd FP.fconst2 m) := by rw [← hm]; exact fb_n (fb_m2 x4 hsh) (by decide)
  rw [hm] at E
  have second : ∀ b1, pl_cond b m (hi (17 + i) 2) (hi (st s + 3) (c * 2)) (hi (st s + 3) (c * 2 + 1)) (nI i) (-1) = (if ¬ hi (17 + i) 2 = 3 ∧ ¬ hi (st s + 3) (c * 2 + 1) = 0 then pl_cand b1 (FP.fadd FP.fconst2 m) 2 (nI i) (-1) else b1) → dk_W X 70 [some (.ref 30), some (.ref 14), some (.int (nI k)), some (.int (nI i)), some (.ref (17 + i)), some (.ref (st s)), some (.float m)] [] 63 (pl_hi hi k b1, pl_hf hf b1, dk_RF sr, z) 0 0 := by
    intro b1 hb
    rw [hb] at E
    refine dk_aload C dX3_considerCondition_70 rfl ?_
    refine ek_getI C fX3_129 Q.s0 Q.l0 rfl dX3_considerCondition_72 ?_
    refine dk_iconst C (3) dX3_considerCondition_75 rfl ?_
    rw [pl_hi_ne (by omega)]
    refine dk_icmp_eq C 105 dX3_considerCondition_76 (by decide) (fun c1 => ?_) (fun c1 => ?_)
    · exact dk_vret C E dX3_considerCondition_105 (Nat.zero_le _) (Nat.zero_le _) (⟨rfl, by rw [if_neg (fun q => q.1 c1)]⟩)
    · refine dk_aload C dX3_considerCondition_79 rfl ?_
      refine dk_aload C dX3_considerCondition_81 rfl ?_
      refine ek_getI C fX3_126 Q.s0 Q.l0 rfl dX3_considerCondition_83 ?_
      rw [pl_hi_ne (by omega), hc]
      refine dk_iconst C (1) dX3_considerCondition_86 rfl ?_
      refine ek_callV C mX3_179 (c_X5_hasIndex _ _ _ _ _ T c 1 hc' (by decide) (by rw [pl_hi_ne (by omega)]; exact hx1)) T.s0 T.l0 rfl rfl (Nat.le_of_ble_eq_true rfl) (by decide) (by decide) (Nat.zero_le _) (Nat.zero_le _) dX3_considerCondition_87 ?_
      rw [pl_hi_ne (by omega)]
      refine dk_if_eq C 105 dX3_considerCondition_90 (by decide) (fun c2 => ?_) (fun c2 => ?_)
      · exact dk_vret C E dX3_considerCondition_105 (Nat.zero_le _) (Nat.zero_le _) (⟨rfl, by rw [if_neg (fun q => q.2 c2)]⟩)
      · refine dk_aload_n C dX3_considerCondition_93 rfl rfl ?_
        refine dk_fconst2 C dX3_considerCondition_94 ?_
        refine dk_fload C dX3_considerCondition_95 rfl ?_
        refine dk_fadd C dX3_considerCondition_97 (hm2) ?_
        refine dk_iload_n C dX3_considerCondition_98 rfl rfl ?_
        refine dk_iconst C (2) dX3_considerCondition_99 rfl ?_
        refine dk_iload_n C dX3_considerCondition_100 rfl rfl ?_
        refine dk_iconst C (-1) dX3_considerCondition_101 rfl ?_
        refine ek_callVv C mX3_182 (c_X3_considerWay _ _ _ _ _ k hk b1 _ 2 (nI i) (-1)) rfl (by decide) rfl rfl (Nat.le_of_ble_eq_true rfl) (by decide) (by decide) (Nat.zero_le _) (Nat.zero_le _) dX3_considerCondition_102 ?_
        exact dk_vret C E dX3_considerCondition_105 (Nat.zero_le _) (Nat.zero_le _) (⟨rfl, by rw [if_pos ⟨c1, c2⟩]⟩)
  refine dk_aload C dX3_considerCondition_36 rfl ?_
  refine ek_getI C fX3_129 Q.s0 Q.l0 rfl dX3_considerCondition_38 ?_
  rw [pl_hi_ne (by omega)]
  refine dk_if_ne C 70 dX3_considerCondition_41 (by decide) (fun c1 => ?_) (fun c1 => ?_)
  · exact second b (by rw [pl_cond, if_neg (show ¬ (hi (17 + i) 2 = 0 ∧ ¬ hi (st s + 3) (c * 2) = 0) from fun q => c1 q.1)])
  · refine dk_aload C dX3_considerCondition_44 rfl ?_
    refine dk_aload C dX3_considerCondition_46 rfl ?_
    refine ek_getI C fX3_126 Q.s0 Q.l0 rfl dX3_considerCondition_48 ?_
    rw [pl_hi_ne (by omega), hc]
    refine dk_iconst C (0) dX3_considerCondition_51 rfl ?_
    refine ek_callV C mX3_179 (c_X5_hasIndex _ _ _ _ _ T c 0 hc' (by decide) (by rw [pl_hi_ne (by omega)]; exact hx0)) T.s0 T.l0 rfl rfl (Nat.le_of_ble_eq_true rfl) (by decide) (by decide) (Nat.zero_le _) (Nat.zero_le _) dX3_considerCondition_52 ?_
    rw [pl_hi_ne (by omega)]
    refine dk_if_eq C 70 dX3_considerCondition_55 (by decide) (fun c2 => ?_) (fun c2 => ?_)
    · exact second b (by rw [pl_cond, if_neg (show ¬ (hi (17 + i) 2 = 0 ∧ ¬ hi (st s + 3) (c * 2) = 0) from fun q => q.2 c2)])
    · refine dk_aload_n C dX3_considerCondition_58 rfl rfl ?_
      refine dk_fconst1 C dX3_considerCondition_59 ?_
      refine dk_fload C dX3_considerCondition_60 rfl ?_
      refine dk_fadd C dX3_considerCondition_62 (hm1) ?_
      refine dk_iload_n C dX3_considerCondition_63 rfl rfl ?_
      refine dk_iconst C (1) dX3_considerCondition_64 rfl ?_
      refine dk_iload_n C dX3_considerCondition_65 rfl rfl ?_
      refine dk_iconst C (-1) dX3_considerCondition_66 rfl ?_
      refine ek_callVv C mX3_182 (c_X3_considerWay _ _ _ _ _ k hk b _ 1 (nI i) (-1)) rfl (by decide) rfl rfl (Nat.le_of_ble_eq_true rfl) (by decide) (by decide) (Nat.zero_le _) (Nat.zero_le _) dX3_considerCondition_67 ?_
      exact second _ (by rw [pl_cond, if_pos (show hi (17 + i) 2 = 0 ∧ ¬ hi (st s + 3) (c * 2) = 0 from ⟨c1, c2⟩)])
end
section
/-- the column and the share of a join at the k-th source -/
def pl_jc (hi : Nat → Nat → Int32) (c k : Nat) : Int32 := if hi c 0 = hi 34 k then hi c 1 else hi c 3
def pl_js (hi : Nat → Nat → Int32) (hf : Nat → Nat → UInt32) (j k : Nat) : UInt32 := if hi (22 + j) 0 = hi 34 k then hf 32 j else hf 33 j
set_option maxHeartbeats 4000000 in
set_option maxRecDepth 100000 in
theorem c_X3_considerJoin (G : dk_G) (sr : Nat → Option Nat) (hi : Nat → Nat → Int32) (hf : Nat → Nat → UInt32) (z : (Nat → Nat → Int64) × (Nat → Nat → UInt64)) {ns nc nj : Nat} {st nR : Nat → Nat} (hq : qC hi sr ns nc nj st nR) (k j s c : Nat) (hk : k < 3) (hj4 : j < nj) (hs : hi 34 k = nI s) (hs' : s < ns) (hc : pl_jc hi (22 + j) k = nI c) (hc' : c < 4) (hsh : fb 131 (pl_js hi hf j k)) (b : pl_B) :
    dk_MF G yX3_considerJoin cX3_considerJoin 8 none 2 49 [.ref 30, .ref 14, .int (nI k), .int (nI j)] (pl_hi hi k b, pl_hf hf b, dk_RF sr, z) none (pl_hi hi k (pl_cond b (FP.fmul (FP.i2f (nI (nR s))) (pl_js hi hf j k)) 0 (hi (st s + 3) (c * 2)) (hi (st s + 3) (c * 2 + 1)) (-1) (nI j)), pl_hf hf (pl_cond b (FP.fmul (FP.i2f (nI (nR s))) (pl_js hi hf j k)) 0 (hi (st s + 3) (c * 2)) (hi (st s + 3) (c * 2 + 1)) (-1) (nI j)), dk_RF sr, z) := by
  refine dk_met (L := [some (.ref 30), some (.ref 14), some (.int (nI k)), some (.int (nI j)), none, none, none, none]) pnX3 rfl (Nat.le_of_ble_eq_true rfl) ?_
  intro X C E hNm
  have hns := hq.1.2.1
  have hnj := hq.2.2.1.2.1
  obtain ⟨x1, T, x3, x4⟩ := hq.1.2.2 s hs'
  have Q := dk_Q1i (n := j) (by omega)
  have tl : st s + 3 < 14 := by unfold dk_T at T; omega
  have hx0 := hq.2.2.2 _ T (c * 2) (by omega)
  have hx1 := hq.2.2.2 _ T (c * 2 + 1) (by omega)
  have ek : ∀ b, pl_hi hi k b 34 k = nI s := fun b => by rw [pl_hi_ne (by omega)]; exact hs
  refine dk_aload_n C dX3_considerJoin_0 rfl rfl ?_
  refine ek_getR C fX3_101 rfl (by decide) rfl 21 rfl dX3_considerJoin_1 ?_
  refine dk_iload_n C dX3_considerJoin_4 rfl rfl ?_
  refine ek_aald C rfl (by decide) (by decide) (j) (rfl) (by omega) (by decide) (22 + j) (dk_RF21 sr (by omega)) dX3_considerJoin_5 ?_
  refine dk_astore C dX3_considerJoin_6 (by decide) rfl ?_
  refine dk_aload_n C dX3_considerJoin_8 rfl rfl ?_
  refine ek_getR C fX3_85 rfl (by decide) rfl 15 rfl dX3_considerJoin_9 ?_
  refine dk_aload_n C dX3_considerJoin_12 rfl rfl ?_
  refine ek_getR C fX3_23 rfl (by decide) rfl 34 rfl dX3_considerJoin_13 ?_
  refine dk_iload_n C dX3_considerJoin_16 rfl rfl ?_
  refine ek_iald C rfl (by decide) (k) (rfl) (hk) (by decide) dX3_considerJoin_17 ?_
  refine ek_aald C rfl (by decide) (by decide) (s) (ek b) (by omega) (by decide) (st s) (x1) dX3_considerJoin_18 ?_
  refine dk_astore C dX3_considerJoin_19 (by decide) rfl ?_
  refine dk_aload C dX3_considerJoin_21 rfl ?_
  refine dk_aload_n C dX3_considerJoin_23 rfl rfl ?_
  refine ek_getR C fX3_23 rfl (by decide) rfl 34 rfl dX3_considerJoin_24 ?_
  refine dk_iload_n C dX3_considerJoin_27 rfl rfl ?_
  refine ek_iald C rfl (by decide) (k) (rfl) (hk) (by decide) dX3_considerJoin_28 ?_
  refine ek_callV C mX3_186 (c_X1_columnOf _ _ _ _ _ Q _) Q.s0 Q.l0 rfl rfl (Nat.le_of_ble_eq_true rfl) (by decide) (by decide) (Nat.zero_le _) (Nat.zero_le _) dX3_considerJoin_29 ?_
  have e1 : (if pl_hi hi k b (22 + j) 0 = pl_hi hi k b 34 k then pl_hi hi k b (22 + j) 1 else pl_hi hi k b (22 + j) 3) = nI c := by
    rw [pl_hi_ne (by omega), pl_hi_ne (by omega), pl_hi_ne (by omega), pl_hi_ne (by omega)]; exact hc
  rw [e1]
  refine dk_istore C dX3_considerJoin_32 (by decide) rfl ?_
  refine dk_aload C dX3_considerJoin_34 rfl ?_
  refine ek_getI C fX3_121 T.s0 T.l0 rfl dX3_considerJoin_36 ?_
  rw [pl_hi_ne (by omega), x3]
  refine dk_i2f C dX3_considerJoin_39 ?_
  refine dk_aload_n C dX3_considerJoin_40 rfl rfl ?_
  refine dk_aload C dX3_considerJoin_41 rfl ?_
  refine dk_iload_n C dX3_considerJoin_43 rfl rfl ?_
  refine dk_aload_n C dX3_considerJoin_44 rfl rfl ?_
  refine ek_getR C fX3_23 rfl (by decide) rfl 34 rfl dX3_considerJoin_45 ?_
  refine dk_iload_n C dX3_considerJoin_48 rfl rfl ?_
  refine ek_iald C rfl (by decide) (k) (rfl) (hk) (by decide) dX3_considerJoin_49 ?_
  refine ek_callV C mX3_164 (c_X3_joinShare _ _ _ _ _ Q j (by omega) _) rfl (by decide) rfl rfl (Nat.le_of_ble_eq_true rfl) (by decide) (by decide) (Nat.zero_le _) (Nat.zero_le _) dX3_considerJoin_50 ?_
  have e2 : (if pl_hi hi k b (22 + j) 0 = pl_hi hi k b 34 k then pl_hf hf b 32 j else pl_hf hf b 33 j) = pl_js hi hf j k := by
    rw [pl_hi_ne (by omega), pl_hi_ne (by omega), pl_hf_ne (by decide), pl_hf_ne (by decide)]; rfl
  rw [e2]
  refine dk_fmul C dX3_considerJoin_53 (fb_n (fb_m x4 hsh) (by decide)) ?_
  refine dk_fstore C dX3_considerJoin_54 (by decide) rfl ?_
  generalize hm : FP.fmul (FP.i2f (nI (nR s))) (pl_js hi hf j k) = m
  have hm1 : vf_n32 (FP.fadd FP.fconst1 m) := by rw [← hm]; exact fb_n (fb_m1 x4 hsh) (by decide)
  have hm2 : vf_n32 (FP.fadd FP.fconst2 m) := by rw [← hm]; exact fb_n (fb_m2 x4 hsh) (by decide)
  rw [hm] at E
  have second : ∀ b1, pl_cond b m 0 (hi (st s + 3) (c * 2)) (hi (st s + 3) (c * 2 + 1)) (-1) (nI j) = (if ¬ (0 : Int32) = 3 ∧ ¬ hi (st s + 3) (c * 2 + 1) = 0 then pl_cand b1 (FP.fadd FP.fconst2 m) 2 (-1) (nI j) else b1) → dk_W X 79 [some (.ref 30), some (.ref 14), some (.int (nI k)), some (.int (nI j)), some (.ref (22 + j)), some (.ref (st s)), some (.int (nI c)), some (.float m)] [] 63 (pl_hi hi k b1, pl_hf hf b1, dk_RF sr, z) 0 0 := by
    intro b1 hb
    rw [hb] at E
    refine dk_aload C dX3_considerJoin_79 rfl ?_
    refine dk_iload C dX3_considerJoin_81 rfl ?_
    refine dk_iconst C (1) dX3_considerJoin_83 rfl ?_
    refine ek_callV C mX3_179 (c_X5_hasIndex _ _ _ _ _ T c 1 hc' (by decide) (by rw [pl_hi_ne (by omega)]; exact hx1)) T.s0 T.l0 rfl rfl (Nat.le_of_ble_eq_true rfl) (by decide) (by decide) (Nat.zero_le _) (Nat.zero_le _) dX3_considerJoin_84 ?_
    rw [pl_hi_ne (by omega)]
    refine dk_if_eq C 102 dX3_considerJoin_87 (by decide) (fun c2 => ?_) (fun c2 => ?_)
    · exact dk_vret C E dX3_considerJoin_102 (Nat.zero_le _) (Nat.zero_le _) (⟨rfl, by rw [if_neg (fun q => q.2 c2)]⟩)
    · refine dk_aload_n C dX3_considerJoin_90 rfl rfl ?_
      refine dk_fconst2 C dX3_considerJoin_91 ?_
      refine dk_fload C dX3_considerJoin_92 rfl ?_
      refine dk_fadd C dX3_considerJoin_94 (hm2) ?_
      refine dk_iload_n C dX3_considerJoin_95 rfl rfl ?_
      refine dk_iconst C (2) dX3_considerJoin_96 rfl ?_
      refine dk_iconst C (-1) dX3_considerJoin_97 rfl ?_
      refine dk_iload_n C dX3_considerJoin_98 rfl rfl ?_
      refine ek_callVv C mX3_182 (c_X3_considerWay _ _ _ _ _ k hk b1 _ 2 (-1) (nI j)) rfl (by decide) rfl rfl (Nat.le_of_ble_eq_true rfl) (by decide) (by decide) (Nat.zero_le _) (Nat.zero_le _) dX3_considerJoin_99 ?_
      exact dk_vret C E dX3_considerJoin_102 (Nat.zero_le _) (Nat.zero_le _) (⟨rfl, by rw [if_pos ⟨by decide, c2⟩]⟩)
  refine dk_aload C dX3_considerJoin_56 rfl ?_
  refine dk_iload C dX3_considerJoin_58 rfl ?_
  refine dk_iconst C (0) dX3_considerJoin_60 rfl ?_
  refine ek_callV C mX3_179 (c_X5_hasIndex _ _ _ _ _ T c 0 hc' (by decide) (by rw [pl_hi_ne (by omega)]; exact hx0)) T.s0 T.l0 rfl rfl (Nat.le_of_ble_eq_true rfl) (by decide) (by decide) (Nat.zero_le _) (Nat.zero_le _) dX3_considerJoin_61 ?_
  rw [pl_hi_ne (by omega)]
  refine dk_if_eq C 79 dX3_considerJoin_64 (by decide) (fun c2 => ?_) (fun c2 => ?_)
  · exact second b (by rw [pl_cond, if_neg (show ¬ ((0 : Int32) = 0 ∧ ¬ hi (st s + 3) (c * 2) = 0) from fun q => q.2 c2)])
  · refine dk_aload_n C dX3_considerJoin_67 rfl rfl ?_
    refine dk_fconst1 C dX3_considerJoin_68 ?_
    refine dk_fload C dX3_considerJoin_69 rfl ?_
    refine dk_fadd C dX3_considerJoin_71 (hm1) ?_
    refine dk_iload_n C dX3_considerJoin_72 rfl rfl ?_
    refine dk_iconst C (1) dX3_considerJoin_73 rfl ?_
    refine dk_iconst C (-1) dX3_considerJoin_74 rfl ?_
    refine dk_iload_n C dX3_considerJoin_75 rfl rfl ?_
    refine ek_callVv C mX3_182 (c_X3_considerWay _ _ _ _ _ k hk b _ 1 (-1) (nI j)) rfl (by decide) rfl rfl (Nat.le_of_ble_eq_true rfl) (by decide) (by decide) (Nat.zero_le _) (Nat.zero_le _) dX3_considerJoin_76 ?_
    exact second _ (by rw [pl_cond, if_pos (show (0 : Int32) = 0 ∧ ¬ hi (st s + 3) (c * 2) = 0 from ⟨rfl, c2⟩)])
/-- all conditions on the k-th source, all joins of it with one before, considered -/
def pl_fC (hi : Nat → Nat → Int32) (hf : Nat → Nat → UInt32) (k t n : Nat) : Nat → pl_B → pl_B
  | 0, b => b
  | i + 1, b => if hi (17 + i) 0 = hi 34 k then pl_cond (pl_fC hi hf k t n i b) (FP.fmul (FP.i2f (nI n)) (hf 31 i)) (hi (17 + i) 2) (hi (t + 3) ((hi (17 + i) 1).toNatClampNeg * 2)) (hi (t + 3) ((hi (17 + i) 1).toNatClampNeg * 2 + 1)) (nI i) (-1) else pl_fC hi hf k t n i b
def pl_fJ (hi : Nat → Nat → Int32) (hf : Nat → Nat → UInt32) (k t n : Nat) : Nat → pl_B → pl_B
  | 0, b => b
  | j + 1, b => if pl_ties hi (22 + j) k = true then pl_cond (pl_fJ hi hf k t n j b) (FP.fmul (FP.i2f (nI n)) (pl_js hi hf j k)) 0 (hi (t + 3) ((pl_jc hi (22 + j) k).toNatClampNeg * 2)) (hi (t + 3) ((pl_jc hi (22 + j) k).toNatClampNeg * 2 + 1)) (-1) (nI j) else pl_fJ hi hf k t n j b
def pl_best (hi : Nat → Nat → Int32) (hf : Nat → Nat → UInt32) (k t n nc nj : Nat) : pl_B := pl_fJ hi hf k t n nj (pl_fC hi hf k t n nc (FP.i2f (nI n), 0, -1, -1))
/-- the shares are small -/
def qF (hf : Nat → Nat → UInt32) : Prop := (∀ i, i < 4 → fb 131 (hf 31 i)) ∧ (∀ j, j < 3 → fb 131 (hf 32 j)) ∧ ∀ j, j < 3 → fb 131 (hf 33 j)
theorem qF.js {hf : Nat → Nat → UInt32} (h : qF hf) (hi : Nat → Nat → Int32) {j : Nat} (k : Nat) (hj : j < 3) : fb 131 (pl_js hi hf j k) := by
  unfold pl_js
  split
  · exact h.2.1 j hj
  · exact h.2.2 j hj
theorem pl_ties_hi (hi : Nat → Nat → Int32) (b : pl_B) (j k k' : Nat) (hj : j < 3) : pl_ties (pl_hi hi k' b) (22 + j) k = pl_ties hi (22 + j) k := by
  unfold pl_ties pl_bef
  simp only [pl_hi_ne (hi := hi) (k := k') (b := b) (show 34 < 35 ∨ 37 < 34 by omega), pl_hi_ne (hi := hi) (k := k') (b := b) (show 22 + j < 35 ∨ 37 < 22 + j by omega)]
theorem qC.jc {hi : Nat → Nat → Int32} {sr : Nat → Option Nat} {ns nc nj : Nat} {st nR : Nat → Nat} (h : qC hi sr ns nc nj st nR) (k : Nat) {j : Nat} (hj : j < nj) : ∃ c, c < 4 ∧ pl_jc hi (22 + j) k = nI c := by
  obtain ⟨a, ca, b, cb, y1, y2, y3, y4, y5⟩ := h.2.2.1.2.2 j hj
  unfold pl_jc
  split
  · exact ⟨ca, y1.2.1, y3⟩
  · exact ⟨cb, y1.2.2.2.1, y5⟩
set_option maxHeartbeats 4000000 in
set_option maxRecDepth 100000 in
theorem c_X3_takeBestWay (G : dk_G) (sr : Nat → Option Nat) (hi : Nat → Nat → Int32) (hf : Nat → Nat → UInt32) (z : (Nat → Nat → Int64) × (Nat → Nat → UInt64)) {ns nc nj : Nat} {st nR : Nat → Nat} (hq : qC hi sr ns nc nj st nR) (hF : qF hf) (k s : Nat) (hk : k < 3) (hs : hi 34 k = nI s) (hs' : s < ns) :
    dk_MF G yX3_takeBestWay cX3_takeBestWay 4 none 3 76 [.ref 30, .ref 14, .int (nI k)] (hi, hf, dk_RF sr, z) none (pl_hi hi k (pl_best hi hf k (st s) (nR s) nc nj), pl_hf hf (pl_best hi hf k (st s) (nR s) nc nj), dk_RF sr, z) := by
  refine dk_met (L := [some (.ref 30), some (.ref 14), some (.int (nI k)), none]) pnX3 rfl (Nat.le_of_ble_eq_true rfl) ?_
  intro X C E hNm
  have hns := hq.1.2.1
  have hnc := hq.2.1.2.1
  have hnj := hq.2.2.1.2.1
  obtain ⟨x1, T, x3, x4⟩ := hq.1.2.2 s hs'
  have tl : st s + 3 < 14 := by unfold dk_T at T; omega
  have hcl : ∀ c, c < 4 → (nI c).toNatClampNeg = c := fun c h => nI_clamp (by omega)
  have loop2 : ∀ r j, j + r = nj → dk_W X 70 [some (.ref 30), some (.ref 14), some (.int (nI k)), some (.int (nI j))] [] 63 (pl_hi hi k (pl_fJ hi hf k (st s) (nR s) j (pl_fC hi hf k (st s) (nR s) nc (FP.i2f (nI (nR s)), 0, -1, -1))), pl_hf hf (pl_fJ hi hf k (st s) (nR s) j (pl_fC hi hf k (st s) (nR s) nc (FP.i2f (nI (nR s)), 0, -1, -1))), dk_RF sr, z) 0 0 := by
    intro r
    induction r with
    | zero =>
      intro j hj
      obtain rfl : j = nj := by omega
      refine dk_iload_n C dX3_takeBestWay_70 rfl rfl ?_
      refine dk_aload_n C dX3_takeBestWay_71 rfl rfl ?_
      refine ek_getI C fX3_98 rfl (by decide) rfl dX3_takeBestWay_72 ?_
      rw [pl_hi_ne (by omega), hq.2.2.1.1]
      refine dk_icmp_ge C 105 dX3_takeBestWay_75 (by decide) (fun _ => ?_) (fun hz => absurd (Int32.le_refl _) hz)
      exact dk_vret C E dX3_takeBestWay_105 (Nat.zero_le _) (Nat.zero_le _) (⟨rfl, rfl⟩)
    | succ r ih =>
      intro j hj
      have Q := dk_Q1i (n := j) (by omega)
      obtain ⟨c, hc, ec⟩ := hq.jc k (j := j) (by omega)
      refine dk_iload_n C dX3_takeBestWay_70 rfl rfl ?_
      refine dk_aload_n C dX3_takeBestWay_71 rfl rfl ?_
      refine ek_getI C fX3_98 rfl (by decide) rfl dX3_takeBestWay_72 ?_
      rw [pl_hi_ne (by omega), hq.2.2.1.1]
      refine dk_icmp_ge C 105 dX3_takeBestWay_75 (by decide) (fun hz => absurd hz (nI_ge (by omega) (by omega))) (fun _ => ?_)
      refine dk_aload_n C dX3_takeBestWay_78 rfl rfl ?_
      refine dk_aload_n C dX3_takeBestWay_79 rfl rfl ?_
      refine ek_getR C fX3_101 rfl (by decide) rfl 21 rfl dX3_takeBestWay_80 ?_
      refine dk_iload_n C dX3_takeBestWay_83 rfl rfl ?_
      refine ek_aald C rfl (by decide) (by decide) (j) (rfl) (by omega) (by decide) (22 + j) (dk_RF21 sr (by omega)) dX3_takeBestWay_84 ?_
      refine dk_iload_n C dX3_takeBestWay_85 rfl rfl ?_
      refine ek_callV C mX3_160 (c_X3_tiesBack _ _ _ _ _ Q k hk) rfl (by decide) rfl rfl (Nat.le_of_ble_eq_true rfl) (by decide) (by decide) (Nat.zero_le _) (Nat.zero_le _) dX3_takeBestWay_86 ?_
      rw [pl_ties_hi hi _ j k k (by omega)]
      refine dk_if_eq C 99 dX3_takeBestWay_89 (by decide) (fun c1 => ?_) (fun c1 => ?_)
      · have e : ∀ b, pl_fJ hi hf k (st s) (nR s) (j + 1) b = pl_fJ hi hf k (st s) (nR s) j b := fun b => by rw [pl_fJ, if_neg (by rw [bI_n0 c1]; decide)]
        refine dk_iinc C (nI (j + 1)) dX3_takeBestWay_99 rfl (nI_1 j) (by decide) rfl ?_
        refine dk_goto C 70 dX3_takeBestWay_102 (by decide) ?_
        rw [← e]
        exact ih (j + 1) (by omega)
      · have e : ∀ b, pl_fJ hi hf k (st s) (nR s) (j + 1) b = pl_cond (pl_fJ hi hf k (st s) (nR s) j b) (FP.fmul (FP.i2f (nI (nR s))) (pl_js hi hf j k)) 0 (hi (st s + 3) (c * 2)) (hi (st s + 3) (c * 2 + 1)) (-1) (nI j) := fun b => by
          rw [pl_fJ, if_pos (bI_n1 c1), ec, hcl c hc]
        refine dk_aload_n C dX3_takeBestWay_92 rfl rfl ?_
        refine dk_aload_n C dX3_takeBestWay_93 rfl rfl ?_
        refine dk_iload_n C dX3_takeBestWay_94 rfl rfl ?_
        refine dk_iload_n C dX3_takeBestWay_95 rfl rfl ?_
        refine ek_callVv C mX3_176 (c_X3_considerJoin _ _ hi hf _ hq k j s c hk (by omega) hs hs' ec hc (hF.js hi k (by omega)) _) rfl (by decide) rfl rfl (Nat.le_of_ble_eq_true rfl) (by decide) (by decide) (Nat.zero_le _) (Nat.zero_le _) dX3_takeBestWay_96 ?_
        refine dk_iinc C (nI (j + 1)) dX3_takeBestWay_99 rfl (nI_1 j) (by decide) rfl ?_
        refine dk_goto C 70 dX3_takeBestWay_102 (by decide) ?_
        rw [← e]
        exact ih (j + 1) (by omega)
  have loop1 : ∀ r i, i + r = nc → dk_W X 29 [some (.ref 30), some (.ref 14), some (.int (nI k)), some (.int (nI i))] [] 63 (pl_hi hi k (pl_fC hi hf k (st s) (nR s) i (FP.i2f (nI (nR s)), 0, -1, -1)), pl_hf hf (pl_fC hi hf k (st s) (nR s) i (FP.i2f (nI (nR s)), 0, -1, -1)), dk_RF sr, z) 0 0 := by
    intro r
    induction r with
    | zero =>
      intro i hi'
      obtain rfl : i = nc := by omega
      refine dk_iload_n C dX3_takeBestWay_29 rfl rfl ?_
      refine dk_aload_n C dX3_takeBestWay_30 rfl rfl ?_
      refine ek_getI C fX3_78 rfl (by decide) rfl dX3_takeBestWay_31 ?_
      rw [pl_hi_ne (by omega), hq.2.1.1]
      refine dk_icmp_ge C 68 dX3_takeBestWay_34 (by decide) (fun _ => ?_) (fun hz => absurd (Int32.le_refl _) hz)
      refine dk_iconst C (0) dX3_takeBestWay_68 rfl ?_
      refine dk_istore_n C dX3_takeBestWay_69 rfl (by decide) rfl ?_
      exact loop2 nj 0 (by omega)
    | succ r ih =>
      intro i hi'
      have Q := dk_Q0i (n := i) (by omega)
      obtain ⟨s9, c, o, y1, y2, y3, y4, y5, y6⟩ := hq.2.1.2.2 i (by omega)
      refine dk_iload_n C dX3_takeBestWay_29 rfl rfl ?_
      refine dk_aload_n C dX3_takeBestWay_30 rfl rfl ?_
      refine ek_getI C fX3_78 rfl (by decide) rfl dX3_takeBestWay_31 ?_
      rw [pl_hi_ne (by omega), hq.2.1.1]
      refine dk_icmp_ge C 68 dX3_takeBestWay_34 (by decide) (fun hz => absurd hz (nI_ge (by omega) (by omega))) (fun _ => ?_)
      refine dk_aload_n C dX3_takeBestWay_37 rfl rfl ?_
      refine ek_getR C fX3_81 rfl (by decide) rfl 16 rfl dX3_takeBestWay_38 ?_
      refine dk_iload_n C dX3_takeBestWay_41 rfl rfl ?_
      refine ek_aald C rfl (by decide) (by decide) (i) (rfl) (by omega) (by decide) (17 + i) (dk_RF16 sr (by omega)) dX3_takeBestWay_42 ?_
      refine ek_getI C fX3_89 Q.s0 Q.l0 rfl dX3_takeBestWay_43 ?_
      refine dk_aload_n C dX3_takeBestWay_46 rfl rfl ?_
      refine ek_getR C fX3_23 rfl (by decide) rfl 34 rfl dX3_takeBestWay_47 ?_
      refine dk_iload_n C dX3_takeBestWay_50 rfl rfl ?_
      refine ek_iald C rfl (by decide) (k) (rfl) (hk) (by decide) dX3_takeBestWay_51 ?_
      rw [pl_hi_ne (by omega), pl_hi_ne (by omega)]
      refine dk_icmp_ne C 62 dX3_takeBestWay_52 (by decide) (fun c1 => ?_) (fun c1 => ?_)
      · have e : ∀ b, pl_fC hi hf k (st s) (nR s) (i + 1) b = pl_fC hi hf k (st s) (nR s) i b := fun b => by rw [pl_fC, if_neg c1]
        refine dk_iinc C (nI (i + 1)) dX3_takeBestWay_62 rfl (nI_1 i) (by decide) rfl ?_
        refine dk_goto C 29 dX3_takeBestWay_65 (by decide) ?_
        rw [← e]
        exact ih (i + 1) (by omega)
      · have e : ∀ b, pl_fC hi hf k (st s) (nR s) (i + 1) b = pl_cond (pl_fC hi hf k (st s) (nR s) i b) (FP.fmul (FP.i2f (nI (nR s))) (hf 31 i)) (hi (17 + i) 2) (hi (st s + 3) (c * 2)) (hi (st s + 3) (c * 2 + 1)) (nI i) (-1) := fun b => by
          rw [pl_fC, if_pos c1, y5, hcl c y2]
        refine dk_aload_n C dX3_takeBestWay_55 rfl rfl ?_
        refine dk_aload_n C dX3_takeBestWay_56 rfl rfl ?_
        refine dk_iload_n C dX3_takeBestWay_57 rfl rfl ?_
        refine dk_iload_n C dX3_takeBestWay_58 rfl rfl ?_
        refine ek_callVv C mX3_172 (c_X3_considerCondition _ _ hi hf _ hq k i s c hk (by omega) hs hs' y5 y2 (hF.1 i (by omega)) _) rfl (by decide) rfl rfl (Nat.le_of_ble_eq_true rfl) (by decide) (by decide) (Nat.zero_le _) (Nat.zero_le _) dX3_takeBestWay_59 ?_
        refine dk_iinc C (nI (i + 1)) dX3_takeBestWay_62 rfl (nI_1 i) (by decide) rfl ?_
        refine dk_goto C 29 dX3_takeBestWay_65 (by decide) ?_
        rw [← e]
        exact ih (i + 1) (by omega)
  have e0 : dk_up (dk_up (dk_up hi 35 k 0) 36 k (-1)) 37 k (-1) = pl_hi hi k (FP.i2f (nI (nR s)), 0, -1, -1) := rfl
  refine dk_aload_n C dX3_takeBestWay_0 rfl rfl ?_
  refine dk_iload_n C dX3_takeBestWay_1 rfl rfl ?_
  refine dk_iconst C (0) dX3_takeBestWay_2 rfl ?_
  refine dk_iconst C (-1) dX3_takeBestWay_3 rfl ?_
  refine dk_iconst C (-1) dX3_takeBestWay_4 rfl ?_
  refine ek_callVv C mX3_168 (c_X3_takeWay _ _ _ _ _ k hk 0 (-1) (-1)) rfl (by decide) rfl rfl (Nat.le_of_ble_eq_true rfl) (by decide) (by decide) (Nat.zero_le _) (Nat.zero_le _) dX3_takeBestWay_5 ?_
  rw [e0]
  have e1 : pl_hi hi k (FP.i2f (nI (nR s)), 0, -1, -1) 34 k = nI s := by rw [pl_hi_ne (by omega)]; exact hs
  refine dk_aload_n C dX3_takeBestWay_8 rfl rfl ?_
  refine dk_aload_n C dX3_takeBestWay_9 rfl rfl ?_
  refine ek_getR C fX3_85 rfl (by decide) rfl 15 rfl dX3_takeBestWay_10 ?_
  refine dk_aload_n C dX3_takeBestWay_13 rfl rfl ?_
  refine ek_getR C fX3_23 rfl (by decide) rfl 34 rfl dX3_takeBestWay_14 ?_
  refine dk_iload_n C dX3_takeBestWay_17 rfl rfl ?_
  refine ek_iald C rfl (by decide) (k) (rfl) (hk) (by decide) dX3_takeBestWay_18 ?_
  refine ek_aald C rfl (by decide) (by decide) (s) (e1) (by omega) (by decide) (st s) (x1) dX3_takeBestWay_19 ?_
  refine ek_getI C fX3_121 T.s0 T.l0 rfl dX3_takeBestWay_20 ?_
  rw [pl_hi_ne (by omega), x3]
  refine dk_i2f C dX3_takeBestWay_23 ?_
  refine ek_putF C fX3_152 fwX3_7 rfl (by decide) rfl dX3_takeBestWay_24 ?_
  refine dk_iconst C (0) dX3_takeBestWay_27 rfl ?_
  refine dk_istore_n C dX3_takeBestWay_28 rfl (by decide) rfl ?_
  exact loop1 nc 0 (by omega)
end
section
/-! ===== QueryDesk$Plan: counts and costs of an order ===== -/
def pl_nC (hi : Nat → Nat → Int32) (hf : Nat → Nat → UInt32) (k : Nat) : Nat → UInt32 → UInt32
  | 0, c => c
  | i + 1, c => if hi (17 + i) 0 = hi 34 k then FP.fmul (pl_nC hi hf k i c) (hf 31 i) else pl_nC hi hf k i c
def pl_nJ (hi : Nat → Nat → Int32) (hf : Nat → Nat → UInt32) (k : Nat) : Nat → UInt32 → UInt32
  | 0, c => c
  | j + 1, c => if pl_ties hi (22 + j) k = true then FP.fmul (pl_nJ hi hf k j c) (pl_js hi hf j k) else pl_nJ hi hf k j c
def pl_cnt (hi : Nat → Nat → Int32) (hf : Nat → Nat → UInt32) (k n nc nj : Nat) (c : UInt32) : UInt32 := pl_nJ hi hf k nj (pl_nC hi hf k nc (FP.fmul c (FP.i2f (nI n))))
theorem fb_nC {hi : Nat → Nat → Int32} {hf : Nat → Nat → UInt32} (hF : qF hf) (k : Nat) {K : Nat} {c : UInt32} (hc : fb K c) (hK : K ≤ 235) : ∀ i, i ≤ 4 → fb (K + 5 * i) (pl_nC hi hf k i c)
  | 0, _ => hc
  | i + 1, hi' => by
    have h := fb_nC (hi := hi) hF k hc hK i (by omega)
    unfold pl_nC
    split
    · exact fb_w (fb_mul h (hF.1 i (by omega)) (by omega) (by decide)) (by omega)
    · exact fb_w h (by omega)
theorem fb_nJ {hi : Nat → Nat → Int32} {hf : Nat → Nat → UInt32} (hF : qF hf) (k : Nat) {K : Nat} {c : UInt32} (hc : fb K c) (hK : K ≤ 240) : ∀ i, i ≤ 3 → fb (K + 5 * i) (pl_nJ hi hf k i c)
  | 0, _ => hc
  | i + 1, hi' => by
    have h := fb_nJ (hi := hi) hF k hc hK i (by omega)
    unfold pl_nJ
    split
    · exact fb_w (fb_mul h (hF.js hi k (by omega)) (by omega) (by decide)) (by omega)
    · exact fb_w h (by omega)
set_option maxHeartbeats 4000000 in
set_option maxRecDepth 100000 in
theorem c_X3_countBehind (G : dk_G) (sr : Nat → Option Nat) (hi : Nat → Nat → Int32) (hf : Nat → Nat → UInt32) (z : (Nat → Nat → Int64) × (Nat → Nat → UInt64)) {ns nc nj : Nat} {st nR : Nat → Nat} (hq : qC hi sr ns nc nj st nR) (hF : qF hf) (k s : Nat) (hk : k < 3) (hs : hi 34 k = nI s) (hs' : s < ns) {K : Nat} {c : UInt32} (hc : fb K c) (hK : 20 ≤ K ∧ K ≤ 212) :
    dk_MF G yX3_countBehind cX3_countBehind 7 (some .float) 2 45 [.ref 30, .ref 14, .int (nI k), .float c] (hi, hf, dk_RF sr, z) (some (.float (pl_cnt hi hf k (nR s) nc nj c))) (hi, hf, dk_RF sr, z) := by
  refine dk_met (L := [some (.ref 30), some (.ref 14), some (.int (nI k)), some (.float c), none, none, none]) pnX3 rfl (Nat.le_of_ble_eq_true rfl) ?_
  intro X C E hNm
  have hns := hq.1.2.1
  have hnc := hq.2.1.2.1
  have hnj := hq.2.2.1.2.1
  obtain ⟨x1, T, x3, x4⟩ := hq.1.2.2 s hs'
  have hb0 : fb (K + 7) (FP.fmul c (FP.i2f (nI (nR s)))) := fb_w (fb_mul hc (fb_i x4) (by omega) (by decide)) (by omega)
  have loop2 : ∀ r j, j + r = nj → dk_W X 71 [some (.ref 30), some (.ref 14), some (.int (nI k)), some (.float c), some (.int (nI s)), some (.float (pl_nJ hi hf k j (pl_nC hi hf k nc (FP.fmul c (FP.i2f (nI (nR s))))))), some (.int (nI j))] [] 63 (hi, hf, dk_RF sr, z) 0 0 := by
    intro r
    induction r with
    | zero =>
      intro j hj
      obtain rfl : j = nj := by omega
      refine dk_iload C dX3_countBehind_71 rfl ?_
      refine dk_aload_n C dX3_countBehind_73 rfl rfl ?_
      refine ek_getI C fX3_98 rfl (by decide) rfl dX3_countBehind_74 ?_
      rw [hq.2.2.1.1]
      refine dk_icmp_ge C 121 dX3_countBehind_77 (by decide) (fun _ => ?_) (fun hz => absurd (Int32.le_refl _) hz)
      refine dk_fload C dX3_countBehind_121 rfl ?_
      exact dk_fret C E dX3_countBehind_123 (Nat.zero_le _) (Nat.zero_le _) (⟨rfl, rfl⟩)
    | succ r ih =>
      intro j hj
      have Q := dk_Q1i (n := j) (by omega)
      have hbb := fb_nJ (hi := hi) hF k (fb_nC (hi := hi) hF k hb0 (by omega) nc (by omega)) (by omega) j (by omega)
      refine dk_iload C dX3_countBehind_71 rfl ?_
      refine dk_aload_n C dX3_countBehind_73 rfl rfl ?_
      refine ek_getI C fX3_98 rfl (by decide) rfl dX3_countBehind_74 ?_
      rw [hq.2.2.1.1]
      refine dk_icmp_ge C 121 dX3_countBehind_77 (by decide) (fun hz => absurd hz (nI_ge (by omega) (by omega))) (fun _ => ?_)
      refine dk_aload_n C dX3_countBehind_80 rfl rfl ?_
      refine dk_aload_n C dX3_countBehind_81 rfl rfl ?_
      refine ek_getR C fX3_101 rfl (by decide) rfl 21 rfl dX3_countBehind_82 ?_
      refine dk_iload C dX3_countBehind_85 rfl ?_
      refine ek_aald C rfl (by decide) (by decide) (j) (rfl) (by omega) (by decide) (22 + j) (dk_RF21 sr (by omega)) dX3_countBehind_87 ?_
      refine dk_iload_n C dX3_countBehind_88 rfl rfl ?_
      refine ek_callV C mX3_160 (c_X3_tiesBack _ _ _ _ _ Q k hk) rfl (by decide) rfl rfl (Nat.le_of_ble_eq_true rfl) (by decide) (by decide) (Nat.zero_le _) (Nat.zero_le _) dX3_countBehind_89 ?_
      refine dk_if_eq C 115 dX3_countBehind_92 (by decide) (fun c1 => ?_) (fun c1 => ?_)
      · have e : ∀ b, pl_nJ hi hf k (j + 1) b = pl_nJ hi hf k j b := fun b => by rw [pl_nJ, if_neg (by rw [bI_n0 c1]; decide)]
        refine dk_iinc C (nI (j + 1)) dX3_countBehind_115 rfl (nI_1 j) (by decide) rfl ?_
        refine dk_goto C 71 dX3_countBehind_118 (by decide) ?_
        rw [← e]
        exact ih (j + 1) (by omega)
      · have e : ∀ b, pl_nJ hi hf k (j + 1) b = FP.fmul (pl_nJ hi hf k j b) (pl_js hi hf j k) := fun b => by rw [pl_nJ, if_pos (bI_n1 c1)]
        have e2 : (if hi (22 + j) 0 = nI s then hf 32 j else hf 33 j) = pl_js hi hf j k := by rw [pl_js, hs]
        refine dk_fload C dX3_countBehind_95 rfl ?_
        refine dk_aload_n C dX3_countBehind_97 rfl rfl ?_
        refine dk_aload_n C dX3_countBehind_98 rfl rfl ?_
        refine ek_getR C fX3_101 rfl (by decide) rfl 21 rfl dX3_countBehind_99 ?_
        refine dk_iload C dX3_countBehind_102 rfl ?_
        refine ek_aald C rfl (by decide) (by decide) (j) (rfl) (by omega) (by decide) (22 + j) (dk_RF21 sr (by omega)) dX3_countBehind_104 ?_
        refine dk_iload C dX3_countBehind_105 rfl ?_
        refine dk_iload C dX3_countBehind_107 rfl ?_
        refine ek_callV C mX3_164 (c_X3_joinShare _ _ _ _ _ Q j (by omega) (nI s)) rfl (by decide) rfl rfl (Nat.le_of_ble_eq_true rfl) (by decide) (by decide) (Nat.zero_le _) (Nat.zero_le _) dX3_countBehind_109 ?_
        rw [e2]
        refine dk_fmul C dX3_countBehind_112 (fb_n (fb_mul hbb (hF.js hi k (by omega)) (by omega) (by decide)) (by omega)) ?_
        refine dk_fstore C dX3_countBehind_113 (by decide) rfl ?_
        refine dk_iinc C (nI (j + 1)) dX3_countBehind_115 rfl (nI_1 j) (by decide) rfl ?_
        refine dk_goto C 71 dX3_countBehind_118 (by decide) ?_
        rw [← e]
        exact ih (j + 1) (by omega)
  have loop1 : ∀ r i, i + r = nc → dk_W X 26 [some (.ref 30), some (.ref 14), some (.int (nI k)), some (.float c), some (.int (nI s)), some (.float (pl_nC hi hf k i (FP.fmul c (FP.i2f (nI (nR s)))))), some (.int (nI i))] [] 63 (hi, hf, dk_RF sr, z) 0 0 := by
    intro r
    induction r with
    | zero =>
      intro i hi'
      obtain rfl : i = nc := by omega
      refine dk_iload C dX3_countBehind_26 rfl ?_
      refine dk_aload_n C dX3_countBehind_28 rfl rfl ?_
      refine ek_getI C fX3_78 rfl (by decide) rfl dX3_countBehind_29 ?_
      rw [hq.2.1.1]
      refine dk_icmp_ge C 68 dX3_countBehind_32 (by decide) (fun _ => ?_) (fun hz => absurd (Int32.le_refl _) hz)
      refine dk_iconst C (0) dX3_countBehind_68 rfl ?_
      refine dk_istore C dX3_countBehind_69 (by decide) rfl ?_
      exact loop2 nj 0 (by omega)
    | succ r ih =>
      intro i hi'
      have Q := dk_Q0i (n := i) (by omega)
      have hbb := fb_nC (hi := hi) hF k hb0 (by omega) i (by omega)
      refine dk_iload C dX3_countBehind_26 rfl ?_
      refine dk_aload_n C dX3_countBehind_28 rfl rfl ?_
      refine ek_getI C fX3_78 rfl (by decide) rfl dX3_countBehind_29 ?_
      rw [hq.2.1.1]
      refine dk_icmp_ge C 68 dX3_countBehind_32 (by decide) (fun hz => absurd hz (nI_ge (by omega) (by omega))) (fun _ => ?_)
      refine dk_aload_n C dX3_countBehind_35 rfl rfl ?_
      refine ek_getR C fX3_81 rfl (by decide) rfl 16 rfl dX3_countBehind_36 ?_
      refine dk_iload C dX3_countBehind_39 rfl ?_
      refine ek_aald C rfl (by decide) (by decide) (i) (rfl) (by omega) (by decide) (17 + i) (dk_RF16 sr (by omega)) dX3_countBehind_41 ?_
      refine ek_getI C fX3_89 Q.s0 Q.l0 rfl dX3_countBehind_42 ?_
      refine dk_iload C dX3_countBehind_45 rfl ?_
      refine dk_icmp_ne C 62 dX3_countBehind_47 (by decide) (fun c1 => ?_) (fun c1 => ?_)
      · have e : ∀ b, pl_nC hi hf k (i + 1) b = pl_nC hi hf k i b := fun b => by rw [pl_nC, hs, if_neg c1]
        refine dk_iinc C (nI (i + 1)) dX3_countBehind_62 rfl (nI_1 i) (by decide) rfl ?_
        refine dk_goto C 26 dX3_countBehind_65 (by decide) ?_
        rw [← e]
        exact ih (i + 1) (by omega)
      · have e : ∀ b, pl_nC hi hf k (i + 1) b = FP.fmul (pl_nC hi hf k i b) (hf 31 i) := fun b => by rw [pl_nC, hs, if_pos c1]
        refine dk_fload C dX3_countBehind_50 rfl ?_
        refine dk_aload_n C dX3_countBehind_52 rfl rfl ?_
        refine ek_getR C fX3_11 rfl (by decide) rfl 31 rfl dX3_countBehind_53 ?_
        refine dk_iload C dX3_countBehind_56 rfl ?_
        refine ek_fald C rfl (by decide) (i) (rfl) (by omega) (by decide) dX3_countBehind_58 ?_
        refine dk_fmul C dX3_countBehind_59 (fb_n (fb_mul hbb (hF.1 i (by omega)) (by omega) (by decide)) (by omega)) ?_
        refine dk_fstore C dX3_countBehind_60 (by decide) rfl ?_
        refine dk_iinc C (nI (i + 1)) dX3_countBehind_62 rfl (nI_1 i) (by decide) rfl ?_
        refine dk_goto C 26 dX3_countBehind_65 (by decide) ?_
        rw [← e]
        exact ih (i + 1) (by omega)
  refine dk_aload_n C dX3_countBehind_0 rfl rfl ?_
  refine ek_getR C fX3_23 rfl (by decide) rfl 34 rfl dX3_countBehind_1 ?_
  refine dk_iload_n C dX3_countBehind_4 rfl rfl ?_
  refine ek_iald C rfl (by decide) (k) (rfl) (hk) (by decide) dX3_countBehind_5 ?_
  rw [hs]
  refine dk_istore C dX3_countBehind_6 (by decide) rfl ?_
  refine dk_fload_n C dX3_countBehind_8 rfl rfl ?_
  refine dk_aload_n C dX3_countBehind_9 rfl rfl ?_
  refine ek_getR C fX3_85 rfl (by decide) rfl 15 rfl dX3_countBehind_10 ?_
  refine dk_iload C dX3_countBehind_13 rfl ?_
  refine ek_aald C rfl (by decide) (by decide) (s) (rfl) (by omega) (by decide) (st s) (x1) dX3_countBehind_15 ?_
  refine ek_getI C fX3_121 T.s0 T.l0 rfl dX3_countBehind_16 ?_
  rw [x3]
  refine dk_i2f C dX3_countBehind_19 ?_
  refine dk_fmul C dX3_countBehind_20 (fb_n hb0 (by omega)) ?_
  refine dk_fstore C dX3_countBehind_21 (by decide) rfl ?_
  refine dk_iconst C (0) dX3_countBehind_23 rfl ?_
  refine dk_istore C dX3_countBehind_24 (by decide) rfl ?_
  exact loop1 nc 0 (by omega)
theorem fb_cand {K : Nat} {b : pl_B} {r : UInt32} {w c j : Int32} (h1 : fb K b.1) (h2 : fb K r) : fb K (pl_cand b r w c j).1 := by
  unfold pl_cand
  split
  · exact h1
  · exact h2
theorem fb_cond {b : pl_B} {n : Nat} {x : UInt32} {o x0 x1 c j : Int32} (hn : n ≤ 24) (hx : fb 131 x) (h1 : fb 140 b.1) : fb 140 (pl_cond b (FP.fmul (FP.i2f (nI n)) x) o x0 x1 c j).1 := by
  unfold pl_cond
  have hb1 : fb 140 (if o = 0 ∧ ¬ x0 = 0 then pl_cand b (FP.fadd FP.fconst1 (FP.fmul (FP.i2f (nI n)) x)) 1 c j else b).1 := by
    split
    · exact fb_cand h1 (fb_m1 hn hx)
    · exact h1
  simp only []
  split
  · exact fb_cand hb1 (fb_m2 hn hx)
  · exact hb1
theorem fb_fC {hi : Nat → Nat → Int32} {hf : Nat → Nat → UInt32} (hF : qF hf) (k t : Nat) {n : Nat} (hn : n ≤ 24) {b : pl_B} (hb : fb 140 b.1) : ∀ i, i ≤ 4 → fb 140 (pl_fC hi hf k t n i b).1
  | 0, _ => hb
  | i + 1, hi' => by
    have h := fb_fC (hi := hi) hF k t hn hb i (by omega)
    unfold pl_fC
    split
    · exact fb_cond hn (hF.1 i (by omega)) h
    · exact h
theorem fb_fJ {hi : Nat → Nat → Int32} {hf : Nat → Nat → UInt32} (hF : qF hf) (k t : Nat) {n : Nat} (hn : n ≤ 24) {b : pl_B} (hb : fb 140 b.1) : ∀ i, i ≤ 3 → fb 140 (pl_fJ hi hf k t n i b).1
  | 0, _ => hb
  | i + 1, hi' => by
    have h := fb_fJ (hi := hi) hF k t hn hb i (by omega)
    unfold pl_fJ
    split
    · exact fb_cond hn (hF.js hi k (by omega)) h
    · exact h
theorem fb_best {hi : Nat → Nat → Int32} {hf : Nat → Nat → UInt32} (hF : qF hf) (k t : Nat) {n nc nj : Nat} (hn : n ≤ 24) (hc : nc ≤ 4) (hj : nj ≤ 3) : fb 140 (pl_best hi hf k t n nc nj).1 :=
  fb_fJ hF k t hn (fb_fC hF k t hn (fb_w (fb_i hn) (by decide)) nc hc) nj hj
/-- an order tried: heaps, count and cost behind k sources -/
def pl_try (hi : Nat → Nat → Int32) (hf : Nat → Nat → UInt32) (od st nR : Nat → Nat) (nc nj : Nat) : Nat → (Nat → Nat → Int32) × (Nat → Nat → UInt32) × UInt32 × UInt32
  | 0 => (hi, hf, FP.fconst1, FP.fconst0)
  | k + 1 =>
    let p := pl_try hi hf od st nR nc nj k
    let h1 := dk_up p.1 34 k (nI (od k))
    let b := pl_best h1 p.2.1 k (st (od k)) (nR (od k)) nc nj
    (pl_hi h1 k b, pl_hf p.2.1 b, pl_cnt (pl_hi h1 k b) (pl_hf p.2.1 b) k (nR (od k)) nc nj p.2.2.1, FP.fadd p.2.2.2 (FP.fmul p.2.2.1 b.1))
theorem pl_try_fr {hi : Nat → Nat → Int32} {hf : Nat → Nat → UInt32} {od st nR : Nat → Nat} {nc nj : Nat} : ∀ k, (∀ i j, i < 34 ∨ 37 < i → (pl_try hi hf od st nR nc nj k).1 i j = hi i j) ∧ (∀ i j, i ≠ 30 → (pl_try hi hf od st nR nc nj k).2.1 i j = hf i j)
  | 0 => ⟨fun _ _ _ => rfl, fun _ _ _ => rfl⟩
  | k + 1 => by
    obtain ⟨h1, h2⟩ := pl_try_fr (hi := hi) (hf := hf) (od := od) (st := st) (nR := nR) (nc := nc) (nj := nj) k
    refine ⟨fun i j h => ?_, fun i j h => ?_⟩
    · show pl_hi _ k _ i j = _
      rw [pl_hi_ne (by omega), dk_up_ne _ _ (Or.inl (by omega)), h1 i j h]
    · show pl_hf _ _ i j = _
      rw [pl_hf_ne h, h2 i j h]
theorem qF.fr {hf hf' : Nat → Nat → UInt32} (h : qF hf) (hh : ∀ i j, i ≠ 30 → hf' i j = hf i j) : qF hf' :=
  ⟨fun i hi => by rw [hh _ _ (by decide)]; exact h.1 i hi, fun i hi => by rw [hh _ _ (by decide)]; exact h.2.1 i hi, fun i hi => by rw [hh _ _ (by decide)]; exact h.2.2 i hi⟩
theorem fb_cnt {hi : Nat → Nat → Int32} {hf : Nat → Nat → UInt32} (hF : qF hf) (k : Nat) {n nc nj K : Nat} {c : UInt32} (hn : n ≤ 24) (hc : nc ≤ 4) (hj : nj ≤ 3) (h : fb K c) (hK : 20 ≤ K ∧ K ≤ 212) : fb (K + 42) (pl_cnt hi hf k n nc nj c) :=
  fb_w (fb_nJ (hi := hi) hF k (fb_nC (hi := hi) hF k (K := K + 7) (fb_w (fb_mul h (fb_i hn) (by omega) (by decide)) (by omega)) (by omega) nc hc) (by omega) nj hj) (by omega)
/-- the orders of ns sources, by number -/
def pl_od (ns num k : Nat) : Nat := (dk_sv (pl_o ns) (num * ns + k)).toNatClampNeg
def pl_oc (ns : Nat) : Nat := if ns = 3 then 6 else ns
theorem pl_od_ok : ∀ ns, ns < 4 → 1 ≤ ns → ∀ num, num < pl_oc ns → ∀ k, k < ns → dk_sv (pl_o ns) (num * ns + k) = nI (pl_od ns num k) ∧ pl_od ns num k < ns ∧ num * ns + k < dk_sl (pl_o ns) := by decide +kernel
end
section
/-! ===== QueryDesk$Plan: shares ===== -/
theorem fb_of {K : Nat} {x : UInt32} (h : x.toNat % 2 ^ 31 < K * 2 ^ 23) : fb K x := h
theorem fb_div {K L M : Nat} {x y : UInt32} (ha : fb K x) (hb : L * 2 ^ 23 ≤ y.toNat % 2 ^ 31) (hb2 : fb 255 y) (hK : K ≤ 255) (hL : 1 ≤ L) (hM : K + (149 - 23 - 1) - L + 3 ≤ M) : fb M (FP.fdiv x y) := fb_w (FP.Core.fdiv_mag ha hb hb2 hK hL) hM
/-- the share of one value among n rows of f -/
noncomputable def sh1 (f : Nat → Int32) (n : Nat) : UInt32 := if n = 0 then FP.fconst0 else FP.fdiv FP.fconst1 (FP.i2f (nI (dvc f n)))
theorem dvc_pos (f : Nat → Int32) : ∀ n, 1 ≤ dvc f (n + 1)
  | 0 => by
    unfold dvc
    rw [if_pos (sbI_0 (fun q h => absurd h (Nat.not_lt_zero q)))]
    omega
  | n + 1 => by
    have := dvc_pos f n
    rw [dvc]
    omega
theorem dvc_le (f : Nat → Int32) : ∀ n, dvc f n ≤ n
  | 0 => Nat.le_refl 0
  | n + 1 => by
    have := dvc_le f n
    rw [dvc]
    split <;> omega
theorem fb_q1 {v : Nat} (h1 : 1 ≤ v) (h2 : v ≤ 24) : fb 129 (FP.fdiv FP.fconst1 (FP.i2f (nI v))) := by
  have hv : (nI v).toInt ≠ 0 := by rw [nI_toInt (by omega)]; omega
  obtain ⟨b1, b2⟩ := FP.Core.i2f_big hv
  exact fb_div fb_1 b1 b2 (by decide) (by decide) (by decide)
theorem fb_sh1 (f : Nat → Int32) {n : Nat} (hn : n ≤ 24) : fb 129 (sh1 f n) := by
  unfold sh1
  split
  · exact fb_w fb_0 (by decide)
  · rename_i h
    obtain ⟨m, rfl⟩ : ∃ m, n = m + 1 := ⟨n - 1, by omega⟩
    have := dvc_pos f m
    have := dvc_le f (m + 1)
    exact fb_q1 (by omega) (by omega)
set_option maxHeartbeats 4000000 in
set_option maxRecDepth 100000 in
theorem c_X3_shareOfOneValue (G : dk_G) (sr : Nat → Option Nat) (hi : Nat → Nat → Int32) (hf : Nat → Nat → UInt32) (z : (Nat → Nat → Int64) × (Nat → Nat → UInt64)) {t : Nat} (T : dk_T t) (c n : Nat) (hc : c < 4) (hn : hi t 4 = nI n) (hn' : n ≤ 24) :
    dk_MF G yX3_shareOfOneValue cX3_shareOfOneValue 2 (some .float) 3 69 [.ref t, .int (nI c)] (hi, hf, dk_RF sr, z) (some (.float (sh1 (tb_c hi t c) n))) (hi, hf, dk_RF sr, z) := by
  refine dk_met (L := [some (.ref t), some (.int (nI c))]) pnX3 rfl (Nat.le_of_ble_eq_true rfl) ?_
  intro X C E hNm
  refine dk_aload_n C dX3_shareOfOneValue_0 rfl rfl ?_
  refine ek_getI C fX3_121 T.s0 T.l0 rfl dX3_shareOfOneValue_1 ?_
  rw [hn]
  refine dk_if_ne C 11 dX3_shareOfOneValue_4 (by decide) (fun c1 => ?_) (fun c1 => ?_)
  · have hn0 : n ≠ 0 := fun q => c1 (by rw [q]; rfl)
    obtain ⟨m, rfl⟩ : ∃ m, n = m + 1 := ⟨n - 1, by omega⟩
    have h1 := dvc_pos (tb_c hi t c) m
    have h2 := dvc_le (tb_c hi t c) (m + 1)
    refine dk_fconst1 C dX3_shareOfOneValue_11 ?_
    refine dk_aload_n C dX3_shareOfOneValue_12 rfl rfl ?_
    refine dk_iload_n C dX3_shareOfOneValue_13 rfl rfl ?_
    refine ek_callV C mX3_145 (c_X5_differentValues _ _ _ _ _ T c (m + 1) hc hn hn') T.s0 T.l0 rfl rfl (Nat.le_of_ble_eq_true rfl) (by decide) (by decide) (Nat.zero_le _) (Nat.zero_le _) dX3_shareOfOneValue_14 ?_
    refine dk_i2f C dX3_shareOfOneValue_17 ?_
    refine dk_fdiv C dX3_shareOfOneValue_18 (fb_n (fb_q1 (by omega) (by omega)) (by decide)) ?_
    exact dk_fret C E dX3_shareOfOneValue_19 (Nat.zero_le _) (Nat.zero_le _) (⟨pF (by rw [sh1, if_neg hn0]), rfl⟩)
  · have hn0 : n = 0 := (nI_eq (by omega) (by decide)).mp c1
    refine dk_fconst0 C dX3_shareOfOneValue_7 ?_
    refine dk_goto C 19 dX3_shareOfOneValue_8 (by decide) ?_
    exact dk_fret C E dX3_shareOfOneValue_19 (Nat.zero_le _) (Nat.zero_le _) (⟨pF (by rw [sh1, if_pos hn0]), rfl⟩)
/-- a span's share of the whole between the least and the greatest value, held between 0 and 1 -/
def shq (span : Int64) (mn mx : Int32) : UInt32 := FP.fdiv (FP.l2f span) (FP.l2f (mx.toInt64 - mn.toInt64 + 1))
def shc (q : UInt32) : UInt32 := if 0 ≤ Op.cmpValue (FP.fcmp q FP.fconst0) .g then (if Op.cmpValue (FP.fcmp q FP.fconst1) .l ≤ 0 then q else FP.fconst1) else FP.fconst0
theorem span_pos {mn mx : Int32} (h : mn ≤ mx) : (mx.toInt64 - mn.toInt64 + 1).toInt ≠ 0 := by
  have h1 := Int32.le_iff_toInt_le.mp h
  have a1 := Int32.toInt_lt mx
  have a2 := Int32.le_toInt mx
  have a3 := Int32.toInt_lt mn
  have a4 := Int32.le_toInt mn
  have e1 : mx.toInt64.toInt = mx.toInt := Int32.toInt_toInt64 mx
  have e2 : mn.toInt64.toInt = mn.toInt := Int32.toInt_toInt64 mn
  have e3 : (1 : Int64).toInt = 1 := rfl
  have e4 : (mx.toInt64 - mn.toInt64).toInt = mx.toInt - mn.toInt := by
    rw [FP.Core.int64_sub (by rw [e1, e2]; omega) (by rw [e1, e2]; omega), e1, e2]
  rw [FP.Core.int64_add (by rw [e4, e3]; omega) (by rw [e4, e3]; omega), e4, e3]
  omega
theorem fb_shq (span : Int64) {mn mx : Int32} (h : mn ≤ mx) : fb 193 (shq span mn mx) := by
  obtain ⟨b1, b2⟩ := FP.Core.l2f_big (span_pos h)
  exact fb_div (FP.Core.l2f_mag span) b1 b2 (by decide) (by decide) (by decide)
theorem fb_shc {q : UInt32} (h : fb 255 q) : fb 128 (shc q) := by
  have hq : FP.Core.val32 q ≠ .nan := (FP.Core.ne_nan32 q).mpr (by unfold fb at h; omega)
  have h0 : FP.Core.val32 FP.fconst0 ≠ .nan := (FP.Core.ne_nan32 _).mpr (by decide)
  have h1 : FP.Core.val32 FP.fconst1 ≠ .nan := (FP.Core.ne_nan32 _).mpr (by decide)
  unfold shc
  split
  · rename_i c1
    split
    · rename_i c2
      have g1 : ¬ FP.Core.fkey q < FP.Core.fkey FP.fconst0 := fun z => by
        rw [show FP.fcmp q FP.fconst0 = some .lt from (FP.Core.fcmp_lt_key hq h0).mpr z] at c1
        exact absurd c1 (by decide)
      have g2 : ¬ FP.Core.fkey FP.fconst1 < FP.Core.fkey q := fun z => by
        rw [show FP.fcmp q FP.fconst1 = some .gt from (FP.Core.fcmp_gt_key hq h1).mpr z] at c2
        exact absurd c2 (by decide)
      have k0 : FP.Core.fkey FP.fconst0 = 0 := by decide
      have k1 : FP.Core.fkey FP.fconst1 = 127 * 2 ^ 23 := by decide
      rw [k0] at g1
      rw [k1] at g2
      unfold FP.Core.fkey at g1 g2
      refine fb_of ?_
      have := q.toNat_lt
      split at g1 <;> omega
    · exact fb_1
  · exact fb_w fb_0 (by decide)
theorem mn_le_mx (f : Nat → Int32) : ∀ n, mnc f n ≤ mxc f n
  | 0 => Int32.le_refl _
  | n + 1 => by
    have h := mn_le_mx f n
    unfold mnc mxc
    split <;> split
    · exact Int32.le_refl _
    · rename_i a b; exact Int32.le_trans (Int32.le_of_lt a) h
    · rename_i a b; exact Int32.le_trans h (Int32.le_of_lt b)
    · exact h
set_option maxHeartbeats 4000000 in
set_option maxRecDepth 100000 in
theorem c_X3_shareOfSpan (G : dk_G) (sr : Nat → Option Nat) (hi : Nat → Nat → Int32) (hf : Nat → Nat → UInt32) (z : (Nat → Nat → Int64) × (Nat → Nat → UInt64)) {t : Nat} (T : dk_T t) (span : Int64) (c n : Nat) (hc : c < 4) (hn : hi t 4 = nI (n + 1)) (hn' : n + 1 ≤ 24) :
    dk_MF G yX3_shareOfSpan cX3_shareOfSpan 7 (some .float) 2 45 [.long span, .ref t, .int (nI c)] (hi, hf, dk_RF sr, z) (some (.float (shc (shq span (mnc (tb_c hi t c) n) (mxc (tb_c hi t c) n))))) (hi, hf, dk_RF sr, z) := by
  refine dk_met (L := [some (.long span), none, some (.ref t), some (.int (nI c)), none, none, none]) pnX3 rfl (Nat.le_of_ble_eq_true rfl) ?_
  intro X C E hNm
  have hb := fb_shq span (mn_le_mx (tb_c hi t c) n)
  refine dk_aload_n C dX3_shareOfSpan_0 rfl rfl ?_
  refine dk_iload_n C dX3_shareOfSpan_1 rfl rfl ?_
  refine ek_callV C mX3_142 (c_X5_greatest _ _ _ _ _ T c n hc hn hn') T.s0 T.l0 rfl rfl (Nat.le_of_ble_eq_true rfl) (by decide) (by decide) (Nat.zero_le _) (Nat.zero_le _) dX3_shareOfSpan_2 ?_
  refine dk_i2l C dX3_shareOfSpan_5 ?_
  refine dk_aload_n C dX3_shareOfSpan_6 rfl rfl ?_
  refine dk_iload_n C dX3_shareOfSpan_7 rfl rfl ?_
  refine ek_callV C mX3_135 (c_X5_least _ _ _ _ _ T c n hc hn hn') T.s0 T.l0 rfl rfl (Nat.le_of_ble_eq_true rfl) (by decide) (by decide) (Nat.zero_le _) (Nat.zero_le _) dX3_shareOfSpan_8 ?_
  refine dk_i2l C dX3_shareOfSpan_11 ?_
  refine dk_lsub C dX3_shareOfSpan_12 ?_
  refine dk_lconst C (1) dX3_shareOfSpan_13 rfl ?_
  refine dk_ladd C dX3_shareOfSpan_14 ?_
  refine dk_lstore C dX3_shareOfSpan_15 (by decide) rfl ?_
  refine dk_lload_n C dX3_shareOfSpan_17 rfl rfl ?_
  refine dk_l2f C dX3_shareOfSpan_18 ?_
  refine dk_lload C dX3_shareOfSpan_19 rfl ?_
  refine dk_l2f C dX3_shareOfSpan_21 ?_
  refine dk_fdiv C dX3_shareOfSpan_22 (fb_n hb (by decide)) ?_
  refine dk_fstore C dX3_shareOfSpan_23 (by decide) rfl ?_
  refine dk_fload C dX3_shareOfSpan_25 rfl ?_
  refine dk_fconst0 C dX3_shareOfSpan_27 ?_
  refine dk_fcmp C dX3_shareOfSpan_28 ?_
  refine dk_if_ge C 34 dX3_shareOfSpan_29 (by decide) (fun c1 => ?_) (fun c1 => ?_)
  · refine dk_fload C dX3_shareOfSpan_34 rfl ?_
    refine dk_fconst1 C dX3_shareOfSpan_36 ?_
    refine dk_fcmp C dX3_shareOfSpan_37 ?_
    refine dk_if_le C 45 dX3_shareOfSpan_38 (by decide) (fun c2 => ?_) (fun c2 => ?_)
    · refine dk_fload C dX3_shareOfSpan_45 rfl ?_
      exact dk_fret C E dX3_shareOfSpan_47 (Nat.zero_le _) (Nat.zero_le _) (⟨pF (by unfold shc shq; rw [if_pos c1, if_pos c2]), rfl⟩)
    · refine dk_fconst1 C dX3_shareOfSpan_41 ?_
      refine dk_goto C 47 dX3_shareOfSpan_42 (by decide) ?_
      exact dk_fret C E dX3_shareOfSpan_47 (Nat.zero_le _) (Nat.zero_le _) (⟨pF (by unfold shc shq; rw [if_pos c1, if_neg c2]), rfl⟩)
  · refine dk_fconst0 C dX3_shareOfSpan_32 ?_
    exact dk_fret C E dX3_shareOfSpan_33 (Nat.zero_le _) (Nat.zero_le _) (⟨pF (by unfold shc shq; rw [if_neg c1]), rfl⟩)
/-- the share of a condition: operator o, number x, among n rows of f -/
noncomputable def shO (o : Nat) (x : Int32) (f : Nat → Int32) (n : Nat) : UInt32 :=
  if n = 0 then FP.fconst0 else if o = 0 then sh1 f n else if o = 1 then shc (shq (x.toInt64 - (mnc f (n - 1)).toInt64) (mnc f (n - 1)) (mxc f (n - 1)))
  else if o = 2 then shc (shq ((mxc f (n - 1)).toInt64 - x.toInt64) (mnc f (n - 1)) (mxc f (n - 1))) else FP.fsub FP.fconst1 (sh1 f n)
theorem fb_shO (o : Nat) (x : Int32) (f : Nat → Int32) {n : Nat} (hn : n ≤ 24) : fb 131 (shO o x f n) := by
  unfold shO
  split
  · exact fb_w fb_0 (by decide)
  · split
    · exact fb_w (fb_sh1 f hn) (by decide)
    · split
      · exact fb_w (fb_shc (fb_w (fb_shq _ (mn_le_mx f _)) (by decide))) (by decide)
      · split
        · exact fb_w (fb_shc (fb_w (fb_shq _ (mn_le_mx f _)) (by decide))) (by decide)
        · exact fb_w (fb_sub (fb_w fb_1 (by decide)) (fb_sh1 f hn) (by decide)) (by decide)
set_option maxHeartbeats 4000000 in
set_option maxRecDepth 100000 in
theorem c_X3_shareOf (G : dk_G) (sr : Nat → Option Nat) (hi : Nat → Nat → Int32) (hf : Nat → Nat → UInt32) (z : (Nat → Nat → Int64) × (Nat → Nat → UInt64)) {t q : Nat} (T : dk_T t) (Q : dk_Q0 q) (c o n : Nat) (hc : hi q 1 = nI c) (hc' : c < 4) (ho : hi q 2 = nI o) (ho' : o < 4) (hn : hi t 4 = nI n) (hn' : n ≤ 24) :
    dk_MF G yX3_shareOf cX3_shareOf 3 (some .float) 4 90 [.ref q, .ref t] (hi, hf, dk_RF sr, z) (some (.float (shO o (hi q 3) (tb_c hi t c) n))) (hi, hf, dk_RF sr, z) := by
  refine dk_met (L := [some (.ref q), some (.ref t), none]) pnX3 rfl (Nat.le_of_ble_eq_true rfl) ?_
  intro X C E hNm
  refine dk_aload_n C dX3_shareOf_0 rfl rfl ?_
  refine ek_getI C fX3_121 T.s0 T.l0 rfl dX3_shareOf_1 ?_
  rw [hn]
  refine dk_if_ne C 9 dX3_shareOf_4 (by decide) (fun c1 => ?_) (fun c1 => ?_)
  · have hn0 : n ≠ 0 := fun q => c1 (by rw [q]; rfl)
    obtain ⟨m, rfl⟩ : ∃ m, n = m + 1 := ⟨n - 1, by omega⟩
    refine dk_aload_n C dX3_shareOf_9 rfl rfl ?_
    refine ek_getI C fX3_126 Q.s0 Q.l0 rfl dX3_shareOf_10 ?_
    rw [hc]
    refine dk_istore_n C dX3_shareOf_13 rfl (by decide) rfl ?_
    refine dk_aload_n C dX3_shareOf_14 rfl rfl ?_
    refine ek_getI C fX3_129 Q.s0 Q.l0 rfl dX3_shareOf_15 ?_
    rw [ho]
    rcases (show o = 0 ∨ o = 1 ∨ o = 2 ∨ o = 3 by omega) with rfl | rfl | rfl | rfl
    · refine dk_tableIn C 44 dX3_shareOf_18 (by decide) (by decide) rfl (by decide) ?_
      refine dk_aload_n C dX3_shareOf_44 rfl rfl ?_
      refine dk_iload_n C dX3_shareOf_45 rfl rfl ?_
      refine ek_callS C mX3_111 (c_X3_shareOfOneValue _ _ _ _ _ T c (m + 1) hc' hn hn') rfl rfl (Nat.le_of_ble_eq_true rfl) (by decide) (by decide) (Nat.zero_le _) (Nat.zero_le _) dX3_shareOf_46 ?_
      exact dk_fret C E dX3_shareOf_49 (Nat.zero_le _) (Nat.zero_le _) (⟨pF (by unfold shO; rw [if_neg hn0]; rfl), rfl⟩)
    · refine dk_tableIn C 50 dX3_shareOf_18 (by decide) (by decide) rfl (by decide) ?_
      refine dk_aload_n C dX3_shareOf_50 rfl rfl ?_
      refine ek_getI C fX3_132 Q.s0 Q.l0 rfl dX3_shareOf_51 ?_
      refine dk_i2l C dX3_shareOf_54 ?_
      refine dk_aload_n C dX3_shareOf_55 rfl rfl ?_
      refine dk_iload_n C dX3_shareOf_56 rfl rfl ?_
      refine ek_callV C mX3_135 (c_X5_least _ _ _ _ _ T c m hc' hn hn') T.s0 T.l0 rfl rfl (Nat.le_of_ble_eq_true rfl) (by decide) (by decide) (Nat.zero_le _) (Nat.zero_le _) dX3_shareOf_57 ?_
      refine dk_i2l C dX3_shareOf_60 ?_
      refine dk_lsub C dX3_shareOf_61 ?_
      refine dk_aload_n C dX3_shareOf_62 rfl rfl ?_
      refine dk_iload_n C dX3_shareOf_63 rfl rfl ?_
      refine ek_callS C mX3_138 (c_X3_shareOfSpan _ _ _ _ _ T _ c m hc' hn hn') rfl rfl (Nat.le_of_ble_eq_true rfl) (by decide) (by decide) (Nat.zero_le _) (Nat.zero_le _) dX3_shareOf_64 ?_
      exact dk_fret C E dX3_shareOf_67 (Nat.zero_le _) (Nat.zero_le _) (⟨pF (by unfold shO; rw [if_neg hn0]; rfl), rfl⟩)
    · refine dk_tableIn C 68 dX3_shareOf_18 (by decide) (by decide) rfl (by decide) ?_
      refine dk_aload_n C dX3_shareOf_68 rfl rfl ?_
      refine dk_iload_n C dX3_shareOf_69 rfl rfl ?_
      refine ek_callV C mX3_142 (c_X5_greatest _ _ _ _ _ T c m hc' hn hn') T.s0 T.l0 rfl rfl (Nat.le_of_ble_eq_true rfl) (by decide) (by decide) (Nat.zero_le _) (Nat.zero_le _) dX3_shareOf_70 ?_
      refine dk_i2l C dX3_shareOf_73 ?_
      refine dk_aload_n C dX3_shareOf_74 rfl rfl ?_
      refine ek_getI C fX3_132 Q.s0 Q.l0 rfl dX3_shareOf_75 ?_
      refine dk_i2l C dX3_shareOf_78 ?_
      refine dk_lsub C dX3_shareOf_79 ?_
      refine dk_aload_n C dX3_shareOf_80 rfl rfl ?_
      refine dk_iload_n C dX3_shareOf_81 rfl rfl ?_
      refine ek_callS C mX3_138 (c_X3_shareOfSpan _ _ _ _ _ T _ c m hc' hn hn') rfl rfl (Nat.le_of_ble_eq_true rfl) (by decide) (by decide) (Nat.zero_le _) (Nat.zero_le _) dX3_shareOf_82 ?_
      exact dk_fret C E dX3_shareOf_85 (Nat.zero_le _) (Nat.zero_le _) (⟨pF (by unfold shO; rw [if_neg hn0]; rfl), rfl⟩)
    · refine dk_tableOut C 86 dX3_shareOf_18 (by decide) (by decide) ?_
      refine dk_fconst1 C dX3_shareOf_86 ?_
      refine dk_aload_n C dX3_shareOf_87 rfl rfl ?_
      refine dk_iload_n C dX3_shareOf_88 rfl rfl ?_
      refine ek_callS C mX3_111 (c_X3_shareOfOneValue _ _ _ _ _ T c (m + 1) hc' hn hn') rfl rfl (Nat.le_of_ble_eq_true rfl) (by decide) (by decide) (Nat.zero_le _) (Nat.zero_le _) dX3_shareOf_89 ?_
      refine dk_fsub C dX3_shareOf_92 (fb_n (fb_sub (fb_w fb_1 (by decide)) (fb_sh1 _ hn') (by decide)) (by decide)) ?_
      exact dk_fret C E dX3_shareOf_93 (Nat.zero_le _) (Nat.zero_le _) (⟨pF (by unfold shO; rw [if_neg hn0]; rfl), rfl⟩)
  · have hn0 : n = 0 := (nI_eq (by omega) (by decide)).mp c1
    refine dk_fconst0 C dX3_shareOf_7 ?_
    exact dk_fret C E dX3_shareOf_8 (Nat.zero_le _) (Nat.zero_le _) (⟨pF (by rw [shO, if_pos hn0]), rfl⟩)
end
section
/-! ===== QueryDesk$Plan: an order tried, shares measured, the plan chosen ===== -/
theorem pl_try_fb {hi : Nat → Nat → Int32} {hf : Nat → Nat → UInt32} {od st nR : Nat → Nat} {nc nj : Nat} (hF : qF hf) (hc : nc ≤ 4) (hj : nj ≤ 3) : ∀ k, k ≤ 3 → (∀ i, i < k → nR (od i) ≤ 24) → fb (128 + 42 * k) (pl_try hi hf od st nR nc nj k).2.2.1 ∧ fb (102 + 44 * k) (pl_try hi hf od st nR nc nj k).2.2.2
  | 0, _, _ => ⟨fb_1, fb_w fb_0 (by decide)⟩
  | k + 1, hk, hn => by
    obtain ⟨h1, h2⟩ := pl_try_fb (hi := hi) (od := od) (st := st) (nR := nR) hF hc hj k (by omega) (fun i h => hn i (by omega))
    have f := pl_try_fr (hi := hi) (hf := hf) (od := od) (st := st) (nR := nR) (nc := nc) (nj := nj) k
    have hF' := hF.fr f.2
    have hnk := hn k (by omega)
    refine ⟨?_, ?_⟩
    · exact fb_w (fb_cnt (hF'.fr (fun i j h => pl_hf_ne h)) k hnk hc hj h1 (by omega)) (by omega)
    · have hb := fb_best (hi := dk_up (pl_try hi hf od st nR nc nj k).1 34 k (nI (od k))) hF' k (st (od k)) hnk hc hj
      exact fb_w (fb_add (K := 142 + 42 * k) (fb_w h2 (by omega)) (fb_w (fb_mul h1 hb (by omega) (by decide)) (by omega)) (by omega)) (by omega)
set_option maxHeartbeats 4000000 in
set_option maxRecDepth 100000 in
theorem c_X3_tryOrder (G : dk_G) (sr : Nat → Option Nat) (hi : Nat → Nat → Int32) (hf : Nat → Nat → UInt32) (z : (Nat → Nat → Int64) × (Nat → Nat → UInt64)) {ns nc nj : Nat} {st nR : Nat → Nat} (hq : qC hi sr ns nc nj st nR) (hF : qF hf) (hns1 : 1 ≤ ns) (num : Nat) (hnum : num < pl_oc ns) :
    dk_MF G yX3_tryOrder cX3_tryOrder 7 (some .float) 4 99 [.ref 30, .ref 14, .retAddr (pl_o ns), .int (nI num)] (hi, hf, dk_RF sr, z) (some (.float (pl_try hi hf (pl_od ns num) st nR nc nj ns).2.2.2)) ((pl_try hi hf (pl_od ns num) st nR nc nj ns).1, (pl_try hi hf (pl_od ns num) st nR nc nj ns).2.1, dk_RF sr, z) := by
  refine dk_met (L := [some (.ref 30), some (.ref 14), some (.retAddr (pl_o ns)), some (.int (nI num)), none, none, none]) pnX3 rfl (Nat.le_of_ble_eq_true rfl) ?_
  intro X C E hNm
  have hns := hq.1.2.1
  have hnc := hq.2.1.2.1
  have hnj := hq.2.2.1.2.1
  have hod : ∀ k, k < ns → dk_sv (pl_o ns) (num * ns + k) = nI (pl_od ns num k) ∧ pl_od ns num k < ns ∧ num * ns + k < dk_sl (pl_o ns) := fun k hk => pl_od_ok ns (by omega) hns1 num hnum k hk
  have hsl : dk_sl (pl_o ns) ≤ 18 := by
    unfold pl_o; split
    · decide
    · split <;> decide
  have hpo : pl_o ns < 3 := by
    unfold pl_o; split
    · decide
    · split <;> decide
  have loop : ∀ r k, k + r = ns → dk_W X 9 [some (.ref 30), some (.ref 14), some (.retAddr (pl_o ns)), some (.int (nI num)), some (.float (pl_try hi hf (pl_od ns num) st nR nc nj k).2.2.1), some (.float (pl_try hi hf (pl_od ns num) st nR nc nj k).2.2.2), some (.int (nI k))] [] 63 ((pl_try hi hf (pl_od ns num) st nR nc nj k).1, (pl_try hi hf (pl_od ns num) st nR nc nj k).2.1, dk_RF sr, z) 0 0 := by
    intro r
    induction r with
    | zero =>
      intro k hk
      obtain rfl : k = ns := by omega
      obtain ⟨f1, f2⟩ := pl_try_fr (hi := hi) (hf := hf) (od := pl_od k num) (st := st) (nR := nR) (nc := nc) (nj := nj) k
      refine dk_iload C dX3_tryOrder_9 rfl ?_
      refine dk_aload_n C dX3_tryOrder_11 rfl rfl ?_
      refine ek_getI C fX3_40 rfl (by decide) rfl dX3_tryOrder_12 ?_
      rw [f1 14 4 (by omega), hq.1.1]
      refine dk_icmp_ge C 72 dX3_tryOrder_15 (by decide) (fun _ => ?_) (fun hz => absurd (Int32.le_refl _) hz)
      refine dk_fload C dX3_tryOrder_72 rfl ?_
      exact dk_fret C E dX3_tryOrder_74 (Nat.zero_le _) (Nat.zero_le _) (⟨rfl, rfl⟩)
    | succ r ih =>
      intro k hk
      obtain ⟨f1, f2⟩ := pl_try_fr (hi := hi) (hf := hf) (od := pl_od ns num) (st := st) (nR := nR) (nc := nc) (nj := nj) k
      obtain ⟨o1, o2, o3⟩ := hod k (by omega)
      obtain ⟨b1, b2⟩ := pl_try_fb (hi := hi) (od := pl_od ns num) (st := st) (nR := nR) hF hnc hnj k (by omega) (fun i h => (hq.1.2.2 _ (hod i (by omega)).2.1).2.2.2)
      have hnk := (hq.1.2.2 _ o2).2.2.2
      have e14 := f1 14 4 (by omega)
      rw [hq.1.1] at e14
      have hqk : qC (dk_up (pl_try hi hf (pl_od ns num) st nR nc nj k).1 34 k (nI (pl_od ns num k))) sr ns nc nj st nR := hq.fr (fun i j h => by rw [dk_up_ne _ _ (Or.inl (by omega)), f1 i j (by omega)])
      have hFk : qF (pl_try hi hf (pl_od ns num) st nR nc nj k).2.1 := hF.fr f2
      have hstep : pl_try hi hf (pl_od ns num) st nR nc nj (k + 1) = (pl_hi (dk_up (pl_try hi hf (pl_od ns num) st nR nc nj k).1 34 k (nI (pl_od ns num k))) k (pl_best (dk_up (pl_try hi hf (pl_od ns num) st nR nc nj k).1 34 k (nI (pl_od ns num k))) (pl_try hi hf (pl_od ns num) st nR nc nj k).2.1 k (st (pl_od ns num k)) (nR (pl_od ns num k)) nc nj), pl_hf (pl_try hi hf (pl_od ns num) st nR nc nj k).2.1 (pl_best (dk_up (pl_try hi hf (pl_od ns num) st nR nc nj k).1 34 k (nI (pl_od ns num k))) (pl_try hi hf (pl_od ns num) st nR nc nj k).2.1 k (st (pl_od ns num k)) (nR (pl_od ns num k)) nc nj), pl_cnt (pl_hi (dk_up (pl_try hi hf (pl_od ns num) st nR nc nj k).1 34 k (nI (pl_od ns num k))) k (pl_best (dk_up (pl_try hi hf (pl_od ns num) st nR nc nj k).1 34 k (nI (pl_od ns num k))) (pl_try hi hf (pl_od ns num) st nR nc nj k).2.1 k (st (pl_od ns num k)) (nR (pl_od ns num k)) nc nj)) (pl_hf (pl_try hi hf (pl_od ns num) st nR nc nj k).2.1 (pl_best (dk_up (pl_try hi hf (pl_od ns num) st nR nc nj k).1 34 k (nI (pl_od ns num k))) (pl_try hi hf (pl_od ns num) st nR nc nj k).2.1 k (st (pl_od ns num k)) (nR (pl_od ns num k)) nc nj)) k (nR (pl_od ns num k)) nc nj (pl_try hi hf (pl_od ns num) st nR nc nj k).2.2.1, FP.fadd (pl_try hi hf (pl_od ns num) st nR nc nj k).2.2.2 (FP.fmul (pl_try hi hf (pl_od ns num) st nR nc nj k).2.2.1 (pl_best (dk_up (pl_try hi hf (pl_od ns num) st nR nc nj k).1 34 k (nI (pl_od ns num k))) (pl_try hi hf (pl_od ns num) st nR nc nj k).2.1 k (st (pl_od ns num k)) (nR (pl_od ns num k)) nc nj).1)) := rfl
      generalize pl_try hi hf (pl_od ns num) st nR nc nj k = p at *
      obtain ⟨ph, pf, pc9, pcost⟩ := p
      dsimp only at *
      refine dk_iload C dX3_tryOrder_9 rfl ?_
      refine dk_aload_n C dX3_tryOrder_11 rfl rfl ?_
      refine ek_getI C fX3_40 rfl (by decide) rfl dX3_tryOrder_12 ?_
      rw [e14]
      refine dk_icmp_ge C 72 dX3_tryOrder_15 (by decide) (fun hz => absurd hz (nI_ge (by omega) (by omega))) (fun _ => ?_)
      refine dk_aload_n C dX3_tryOrder_18 rfl rfl ?_
      refine ek_getR C fX3_23 rfl (by decide) rfl 34 rfl dX3_tryOrder_19 ?_
      refine dk_iload C dX3_tryOrder_22 rfl ?_
      refine dk_rload_n C dX3_tryOrder_24 rfl rfl ?_
      refine dk_iload_n C dX3_tryOrder_25 rfl rfl ?_
      refine dk_aload_n C dX3_tryOrder_26 rfl rfl ?_
      refine ek_getI C fX3_40 rfl (by decide) rfl dX3_tryOrder_27 ?_
      refine dk_imul C dX3_tryOrder_30 ?_
      refine dk_iload C dX3_tryOrder_31 rfl ?_
      refine dk_iadd C dX3_tryOrder_33 ?_
      rw [e14, pk_mul, nI_add]
      refine dk_saldS C (pl_o ns) hpo (vp_in_nI o3 (by omega)) dX3_tryOrder_34 ?_
      rw [nI_clamp (by omega), o1]
      refine ek_iast C rfl (by decide) (k) (rfl) (by omega) (by decide) dX3_tryOrder_35 ?_
      have hb := fb_best (hi := dk_up ph 34 k (nI (pl_od ns num k))) hFk k (st (pl_od ns num k)) hnk hnc hnj
      have m1 := fb_mul b1 hb (by omega) (by decide)
      generalize hbest : pl_best (dk_up ph 34 k (nI (pl_od ns num k))) pf k (st (pl_od ns num k)) (nR (pl_od ns num k)) nc nj = b at *
      have e30 : pl_hf pf b 30 7 = b.1 := dk_up_same _ _ _ _
      have cbest := c_X3_takeBestWay G sr _ _ z hqk hFk k (pl_od ns num k) (by omega) (dk_up_same _ _ _ _) o2
      rw [hbest] at cbest
      refine dk_aload_n C dX3_tryOrder_36 rfl rfl ?_
      refine dk_aload_n C dX3_tryOrder_37 rfl rfl ?_
      refine dk_iload C dX3_tryOrder_38 rfl ?_
      refine ek_callVv C mX3_148 (cbest) rfl (by decide) rfl rfl (Nat.le_of_ble_eq_true rfl) (by decide) (by decide) (Nat.zero_le _) (Nat.zero_le _) dX3_tryOrder_40 ?_
      refine dk_fload C dX3_tryOrder_43 rfl ?_
      refine dk_fload C dX3_tryOrder_45 rfl ?_
      refine dk_aload_n C dX3_tryOrder_47 rfl rfl ?_
      refine ek_getF C fX3_152 rfl (by decide) rfl dX3_tryOrder_48 ?_
      rw [e30]
      refine dk_fmul C dX3_tryOrder_51 (fb_n m1 (by omega)) ?_
      refine dk_fadd C dX3_tryOrder_52 (fb_n (fb_add (K := 142 + 42 * k) (fb_w b2 (by omega)) (fb_w m1 (by omega)) (by omega)) (by omega)) ?_
      refine dk_fstore C dX3_tryOrder_53 (by decide) rfl ?_
      refine dk_aload_n C dX3_tryOrder_55 rfl rfl ?_
      refine dk_aload_n C dX3_tryOrder_56 rfl rfl ?_
      refine dk_iload C dX3_tryOrder_57 rfl ?_
      refine dk_fload C dX3_tryOrder_59 rfl ?_
      refine ek_callV C mX3_156 (c_X3_countBehind _ _ _ _ _ (hqk.fr (fun i j h => pl_hi_ne (by omega))) (hFk.fr (fun i j h => pl_hf_ne h)) k (pl_od ns num k) (by omega) (by rw [pl_hi_ne (by omega)]; exact dk_up_same _ _ _ _) o2 b1 (by omega)) rfl (by decide) rfl rfl (Nat.le_of_ble_eq_true rfl) (by decide) (by decide) (Nat.zero_le _) (Nat.zero_le _) dX3_tryOrder_61 ?_
      refine dk_fstore C dX3_tryOrder_64 (by decide) rfl ?_
      refine dk_iinc C (nI (k + 1)) dX3_tryOrder_66 rfl (nI_1 k) (by decide) rfl ?_
      refine dk_goto C 9 dX3_tryOrder_69 (by decide) ?_
      have h9 := ih (k + 1) (by omega)
      rw [hstep] at h9
      exact h9
  refine dk_fconst1 C dX3_tryOrder_0 ?_
  refine dk_fstore C dX3_tryOrder_1 (by decide) rfl ?_
  refine dk_fconst0 C dX3_tryOrder_3 ?_
  refine dk_fstore C dX3_tryOrder_4 (by decide) rfl ?_
  refine dk_iconst C (0) dX3_tryOrder_6 rfl ?_
  refine dk_istore C dX3_tryOrder_7 (by decide) rfl ?_
  exact loop ns 0 (by omega)
end
section
/-- a number as it stands in a slot -/
abbrev cl (x : Int32) : Nat := x.toNatClampNeg
theorem cl_nI {n : Nat} (h : n < 2 ^ 31) : cl (nI n) = n := nI_clamp h
noncomputable def ms_c (hi : Nat → Nat → Int32) (st nR : Nat → Nat) (i : Nat) : UInt32 := shO (cl (hi (17 + i) 2)) (hi (17 + i) 3) (tb_c hi (st (cl (hi (17 + i) 0))) (cl (hi (17 + i) 1))) (nR (cl (hi (17 + i) 0)))
noncomputable def ms_j (hi : Nat → Nat → Int32) (st nR : Nat → Nat) (c s k : Nat) : UInt32 := sh1 (tb_c hi (st (cl (hi c s))) (cl (hi c k))) (nR (cl (hi c s)))
noncomputable def ms_C (hi : Nat → Nat → Int32) (hf : Nat → Nat → UInt32) (st nR : Nat → Nat) : Nat → Nat → Nat → UInt32
  | 0 => hf
  | i + 1 => dk_up (ms_C hi hf st nR i) 31 i (ms_c hi st nR i)
noncomputable def ms_J (hi : Nat → Nat → Int32) (hf : Nat → Nat → UInt32) (st nR : Nat → Nat) : Nat → Nat → Nat → UInt32
  | 0 => hf
  | j + 1 => dk_up (dk_up (ms_J hi hf st nR j) 32 j (ms_j hi st nR (22 + j) 0 1)) 33 j (ms_j hi st nR (22 + j) 2 3)
theorem dk_up_fb {K : Nat} {hf : Nat → Nat → UInt32} {a b i k : Nat} {v : UInt32} (h : fb K (hf a b)) (hv : fb K v) : fb K (dk_up hf i k v a b) := by
  unfold dk_up
  split
  · exact hv
  · exact h
theorem qF_up {hf : Nat → Nat → UInt32} {i k : Nat} {v : UInt32} (h : qF hf) (hv : fb 131 v) : qF (dk_up hf i k v) :=
  ⟨fun a ha => dk_up_fb (h.1 a ha) hv, fun a ha => dk_up_fb (h.2.1 a ha) hv, fun a ha => dk_up_fb (h.2.2 a ha) hv⟩
theorem ms_c_fb {hi : Nat → Nat → Int32} {sr : Nat → Option Nat} {ns nc nj : Nat} {st nR : Nat → Nat} (hq : qC hi sr ns nc nj st nR) {i : Nat} (h : i < nc) : fb 131 (ms_c hi st nR i) := by
  obtain ⟨s, c, o, y1, y2, y3, y4, y5, y6⟩ := hq.2.1.2.2 i h
  have hns := hq.1.2.1
  unfold ms_c
  rw [y4, cl_nI (by omega)]
  exact fb_shO _ _ _ (hq.1.2.2 s y1).2.2.2
theorem ms_j_fb {hi : Nat → Nat → Int32} {sr : Nat → Option Nat} {ns nc nj : Nat} {st nR : Nat → Nat} (hq : qC hi sr ns nc nj st nR) {j : Nat} (h : j < nj) : fb 131 (ms_j hi st nR (22 + j) 0 1) ∧ fb 131 (ms_j hi st nR (22 + j) 2 3) := by
  obtain ⟨a, ca, b, cb, ⟨y1, y2, y3, y4, y5⟩, y6, y7, y8, y9⟩ := hq.2.2.1.2.2 j h
  have hns := hq.1.2.1
  unfold ms_j
  rw [y6, y8, cl_nI (by omega), cl_nI (by omega)]
  exact ⟨fb_w (fb_sh1 _ (hq.1.2.2 a y1).2.2.2) (by decide), fb_w (fb_sh1 _ (hq.1.2.2 b y3).2.2.2) (by decide)⟩
theorem ms_C_F {hi : Nat → Nat → Int32} {hf : Nat → Nat → UInt32} {sr : Nat → Option Nat} {ns nc nj : Nat} {st nR : Nat → Nat} (hq : qC hi sr ns nc nj st nR) (hF : qF hf) : ∀ i, i ≤ nc → qF (ms_C hi hf st nR i)
  | 0, _ => hF
  | i + 1, h => qF_up (ms_C_F hq hF i (by omega)) (ms_c_fb hq (by omega))
theorem ms_J_F {hi : Nat → Nat → Int32} {hf : Nat → Nat → UInt32} {sr : Nat → Option Nat} {ns nc nj : Nat} {st nR : Nat → Nat} (hq : qC hi sr ns nc nj st nR) (hF : qF hf) : ∀ i, i ≤ nj → qF (ms_J hi hf st nR i)
  | 0, _ => hF
  | i + 1, h => qF_up (qF_up (ms_J_F hq hF i (by omega)) (ms_j_fb hq (by omega)).1) (ms_j_fb hq (by omega)).2
noncomputable def ms_F (hi : Nat → Nat → Int32) (hf : Nat → Nat → UInt32) (st nR : Nat → Nat) (nc nj : Nat) : Nat → Nat → UInt32 := ms_J hi (ms_C hi hf st nR nc) st nR nj
set_option maxHeartbeats 4000000 in
set_option maxRecDepth 100000 in
theorem c_X3_measureShares (G : dk_G) (sr : Nat → Option Nat) (hi : Nat → Nat → Int32) (hf : Nat → Nat → UInt32) (z : (Nat → Nat → Int64) × (Nat → Nat → UInt64)) {ns nc nj : Nat} {st nR : Nat → Nat} (hq : qC hi sr ns nc nj st nR) :
    dk_MF G yX3_measureShares cX3_measureShares 4 none 5 112 [.ref 30, .ref 14] (hi, hf, dk_RF sr, z) none (hi, ms_F hi hf st nR nc nj, dk_RF sr, z) := by
  refine dk_met (L := [some (.ref 30), some (.ref 14), none, none]) pnX3 rfl (Nat.le_of_ble_eq_true rfl) ?_
  intro X C E hNm
  have hns := hq.1.2.1
  have hnc := hq.2.1.2.1
  have hnj := hq.2.2.1.2.1
  have loop2 : ∀ r j, j + r = nj → dk_W X 44 [some (.ref 30), some (.ref 14), some (.int (nI j)), none] [] 63 (hi, ms_J hi (ms_C hi hf st nR nc) st nR j, dk_RF sr, z) 0 0 := by
    intro r
    induction r with
    | zero =>
      intro j hj
      obtain rfl : j = nj := by omega
      refine dk_iload_n C dX3_measureShares_44 rfl rfl ?_
      refine dk_aload_n C dX3_measureShares_45 rfl rfl ?_
      refine ek_getI C fX3_98 rfl (by decide) rfl dX3_measureShares_46 ?_
      rw [hq.2.2.1.1]
      refine dk_icmp_ge C 109 dX3_measureShares_49 (by decide) (fun _ => ?_) (fun hz => absurd (Int32.le_refl _) hz)
      exact dk_vret C E dX3_measureShares_109 (Nat.zero_le _) (Nat.zero_le _) (⟨rfl, rfl⟩)
    | succ r ih =>
      intro j hj
      have Q := dk_Q1i (n := j) (by omega)
      obtain ⟨a, ca, b, cb, ⟨y1, y2, y3, y4, y5⟩, y6, y7, y8, y9⟩ := hq.2.2.1.2.2 j (by omega)
      obtain ⟨p1, Ta, p3, p4⟩ := hq.1.2.2 a y1
      obtain ⟨q1, Tb, q3, q4⟩ := hq.1.2.2 b y3
      refine dk_iload_n C dX3_measureShares_44 rfl rfl ?_
      refine dk_aload_n C dX3_measureShares_45 rfl rfl ?_
      refine ek_getI C fX3_98 rfl (by decide) rfl dX3_measureShares_46 ?_
      rw [hq.2.2.1.1]
      refine dk_icmp_ge C 109 dX3_measureShares_49 (by decide) (fun hz => absurd hz (nI_ge (by omega) (by omega))) (fun _ => ?_)
      refine dk_aload_n C dX3_measureShares_52 rfl rfl ?_
      refine ek_getR C fX3_101 rfl (by decide) rfl 21 rfl dX3_measureShares_53 ?_
      refine dk_iload_n C dX3_measureShares_56 rfl rfl ?_
      refine ek_aald C rfl (by decide) (by decide) (j) (rfl) (by omega) (by decide) (22 + j) (dk_RF21 sr (by omega)) dX3_measureShares_57 ?_
      refine dk_astore_n C dX3_measureShares_58 rfl (by decide) rfl ?_
      refine dk_aload_n C dX3_measureShares_59 rfl rfl ?_
      refine ek_getR C fX3_17 rfl (by decide) rfl 32 rfl dX3_measureShares_60 ?_
      refine dk_iload_n C dX3_measureShares_63 rfl rfl ?_
      refine dk_aload_n C dX3_measureShares_64 rfl rfl ?_
      refine ek_getR C fX3_85 rfl (by decide) rfl 15 rfl dX3_measureShares_65 ?_
      refine dk_aload_n C dX3_measureShares_68 rfl rfl ?_
      refine ek_getI C fX3_105 Q.s0 Q.l0 rfl dX3_measureShares_69 ?_
      refine ek_aald C rfl (by decide) (by decide) (a) (y6) (by omega) (by decide) (st a) (p1) dX3_measureShares_72 ?_
      refine dk_aload_n C dX3_measureShares_73 rfl rfl ?_
      refine ek_getI C fX3_108 Q.s0 Q.l0 rfl dX3_measureShares_74 ?_
      rw [y7]
      have e1 : sh1 (tb_c hi (st a) ca) (nR a) = ms_j hi st nR (22 + j) 0 1 := by rw [ms_j, y6, y7, cl_nI (by omega), cl_nI (by omega)]
      have e2 : sh1 (tb_c hi (st b) cb) (nR b) = ms_j hi st nR (22 + j) 2 3 := by rw [ms_j, y8, y9, cl_nI (by omega), cl_nI (by omega)]
      refine ek_callS C mX3_111 (c_X3_shareOfOneValue _ _ _ _ _ Ta ca (nR a) y2 p3 p4) rfl rfl (Nat.le_of_ble_eq_true rfl) (by decide) (by decide) (Nat.zero_le _) (Nat.zero_le _) dX3_measureShares_77 ?_
      refine ek_fast C rfl (by decide) (j) (rfl) (by omega) (by decide) dX3_measureShares_80 ?_
      refine dk_aload_n C dX3_measureShares_81 rfl rfl ?_
      refine ek_getR C fX3_20 rfl (by decide) rfl 33 rfl dX3_measureShares_82 ?_
      refine dk_iload_n C dX3_measureShares_85 rfl rfl ?_
      refine dk_aload_n C dX3_measureShares_86 rfl rfl ?_
      refine ek_getR C fX3_85 rfl (by decide) rfl 15 rfl dX3_measureShares_87 ?_
      refine dk_aload_n C dX3_measureShares_90 rfl rfl ?_
      refine ek_getI C fX3_115 Q.s0 Q.l0 rfl dX3_measureShares_91 ?_
      refine ek_aald C rfl (by decide) (by decide) (b) (y8) (by omega) (by decide) (st b) (q1) dX3_measureShares_94 ?_
      refine dk_aload_n C dX3_measureShares_95 rfl rfl ?_
      refine ek_getI C fX3_118 Q.s0 Q.l0 rfl dX3_measureShares_96 ?_
      rw [y9]
      refine ek_callS C mX3_111 (c_X3_shareOfOneValue _ _ _ _ _ Tb cb (nR b) y4 q3 q4) rfl rfl (Nat.le_of_ble_eq_true rfl) (by decide) (by decide) (Nat.zero_le _) (Nat.zero_le _) dX3_measureShares_99 ?_
      refine ek_fast C rfl (by decide) (j) (rfl) (by omega) (by decide) dX3_measureShares_102 ?_
      refine dk_iinc C (nI (j + 1)) dX3_measureShares_103 rfl (nI_1 j) (by decide) rfl ?_
      refine dk_goto C 44 dX3_measureShares_106 (by decide) ?_
      rw [e1, e2]
      refine dk_forgetAt 3 ?_
      exact ih (j + 1) (by omega)
  have loop1 : ∀ r i, i + r = nc → dk_W X 2 [some (.ref 30), some (.ref 14), some (.int (nI i)), none] [] 63 (hi, ms_C hi hf st nR i, dk_RF sr, z) 0 0 := by
    intro r
    induction r with
    | zero =>
      intro i hi'
      obtain rfl : i = nc := by omega
      refine dk_iload_n C dX3_measureShares_2 rfl rfl ?_
      refine dk_aload_n C dX3_measureShares_3 rfl rfl ?_
      refine ek_getI C fX3_78 rfl (by decide) rfl dX3_measureShares_4 ?_
      rw [hq.2.1.1]
      refine dk_icmp_ge C 42 dX3_measureShares_7 (by decide) (fun _ => ?_) (fun hz => absurd (Int32.le_refl _) hz)
      refine dk_iconst C (0) dX3_measureShares_42 rfl ?_
      refine dk_istore_n C dX3_measureShares_43 rfl (by decide) rfl ?_
      exact loop2 nj 0 (by omega)
    | succ r ih =>
      intro i hi'
      have Q := dk_Q0i (n := i) (by omega)
      obtain ⟨s, c, o, y1, y2, y3, y4, y5, y6⟩ := hq.2.1.2.2 i (by omega)
      obtain ⟨p1, T, p3, p4⟩ := hq.1.2.2 s y1
      have e1 : shO o (hi (17 + i) 3) (tb_c hi (st s) c) (nR s) = ms_c hi st nR i := by rw [ms_c, y4, y5, y6, cl_nI (by omega), cl_nI (by omega), cl_nI (by omega)]
      refine dk_iload_n C dX3_measureShares_2 rfl rfl ?_
      refine dk_aload_n C dX3_measureShares_3 rfl rfl ?_
      refine ek_getI C fX3_78 rfl (by decide) rfl dX3_measureShares_4 ?_
      rw [hq.2.1.1]
      refine dk_icmp_ge C 42 dX3_measureShares_7 (by decide) (fun hz => absurd hz (nI_ge (by omega) (by omega))) (fun _ => ?_)
      refine dk_aload_n C dX3_measureShares_10 rfl rfl ?_
      refine ek_getR C fX3_81 rfl (by decide) rfl 16 rfl dX3_measureShares_11 ?_
      refine dk_iload_n C dX3_measureShares_14 rfl rfl ?_
      refine ek_aald C rfl (by decide) (by decide) (i) (rfl) (by omega) (by decide) (17 + i) (dk_RF16 sr (by omega)) dX3_measureShares_15 ?_
      refine dk_astore_n C dX3_measureShares_16 rfl (by decide) rfl ?_
      refine dk_aload_n C dX3_measureShares_17 rfl rfl ?_
      refine ek_getR C fX3_11 rfl (by decide) rfl 31 rfl dX3_measureShares_18 ?_
      refine dk_iload_n C dX3_measureShares_21 rfl rfl ?_
      refine dk_aload_n C dX3_measureShares_22 rfl rfl ?_
      refine dk_aload_n C dX3_measureShares_23 rfl rfl ?_
      refine ek_getR C fX3_85 rfl (by decide) rfl 15 rfl dX3_measureShares_24 ?_
      refine dk_aload_n C dX3_measureShares_27 rfl rfl ?_
      refine ek_getI C fX3_89 Q.s0 Q.l0 rfl dX3_measureShares_28 ?_
      refine ek_aald C rfl (by decide) (by decide) (s) (y4) (by omega) (by decide) (st s) (p1) dX3_measureShares_31 ?_
      refine ek_callS C mX3_94 (c_X3_shareOf _ _ _ _ _ T Q c o (nR s) y5 y2 y6 y3 p3 p4) rfl rfl (Nat.le_of_ble_eq_true rfl) (by decide) (by decide) (Nat.zero_le _) (Nat.zero_le _) dX3_measureShares_32 ?_
      refine ek_fast C rfl (by decide) (i) (rfl) (by omega) (by decide) dX3_measureShares_35 ?_
      refine dk_iinc C (nI (i + 1)) dX3_measureShares_36 rfl (nI_1 i) (by decide) rfl ?_
      refine dk_goto C 2 dX3_measureShares_39 (by decide) ?_
      rw [e1]
      refine dk_forgetAt 3 ?_
      exact ih (i + 1) (by omega)
  refine dk_iconst C (0) dX3_measureShares_0 rfl ?_
  refine dk_istore_n C dX3_measureShares_1 rfl (by decide) rfl ?_
  exact loop1 nc 0 (by omega)
/-- orders tried one behind the other: heaps, the best order's number, the least cost -/
def pl_ch (hi : Nat → Nat → Int32) (hf : Nat → Nat → UInt32) (st nR : Nat → Nat) (ns nc nj : Nat) : Nat → (Nat → Nat → Int32) × (Nat → Nat → UInt32) × Nat × UInt32
  | 0 => ((pl_try hi hf (pl_od ns 0) st nR nc nj ns).1, (pl_try hi hf (pl_od ns 0) st nR nc nj ns).2.1, 0, (pl_try hi hf (pl_od ns 0) st nR nc nj ns).2.2.2)
  | i + 1 =>
    let q := pl_ch hi hf st nR ns nc nj i
    let p := pl_try q.1 q.2.1 (pl_od ns (i + 1)) st nR nc nj ns
    (p.1, p.2.1, if 0 ≤ Op.cmpValue (FP.fcmp p.2.2.2 q.2.2.2) .g then q.2.2.1 else i + 1, if 0 ≤ Op.cmpValue (FP.fcmp p.2.2.2 q.2.2.2) .g then q.2.2.2 else p.2.2.2)
theorem pl_ch_fr {hi : Nat → Nat → Int32} {hf : Nat → Nat → UInt32} {st nR : Nat → Nat} {ns nc nj : Nat} : ∀ k, (∀ i j, i < 34 ∨ 37 < i → (pl_ch hi hf st nR ns nc nj k).1 i j = hi i j) ∧ (∀ i j, i ≠ 30 → (pl_ch hi hf st nR ns nc nj k).2.1 i j = hf i j) ∧ (pl_ch hi hf st nR ns nc nj k).2.2.1 ≤ k
  | 0 => ⟨(pl_try_fr ns).1, (pl_try_fr ns).2, Nat.le_refl 0⟩
  | k + 1 => by
    obtain ⟨h1, h2, h3⟩ := pl_ch_fr (hi := hi) (hf := hf) (st := st) (nR := nR) (ns := ns) (nc := nc) (nj := nj) k
    refine ⟨fun i j h => ?_, fun i j h => ?_, ?_⟩
    · exact ((pl_try_fr ns).1 i j h).trans (h1 i j h)
    · exact ((pl_try_fr ns).2 i j h).trans (h2 i j h)
    · show (if _ then _ else _) ≤ _
      split
      · exact Nat.le_succ_of_le h3
      · exact Nat.le_refl _
/-- what choose answers and leaves -/
noncomputable def pl_fin (hi : Nat → Nat → Int32) (hf : Nat → Nat → UInt32) (st nR : Nat → Nat) (ns nc nj : Nat) : (Nat → Nat → Int32) × (Nat → Nat → UInt32) × UInt32 × UInt32 :=
  pl_try (pl_ch hi (ms_F hi hf st nR nc nj) st nR ns nc nj (pl_oc ns - 1)).1 (pl_ch hi (ms_F hi hf st nR nc nj) st nR ns nc nj (pl_oc ns - 1)).2.1 (pl_od ns (pl_ch hi (ms_F hi hf st nR nc nj) st nR ns nc nj (pl_oc ns - 1)).2.2.1) st nR nc nj ns
set_option maxHeartbeats 4000000 in
set_option maxRecDepth 100000 in
theorem c_X3_choose (G : dk_G) (sr : Nat → Option Nat) (hi : Nat → Nat → Int32) (hf : Nat → Nat → UInt32) (z : (Nat → Nat → Int64) × (Nat → Nat → UInt64)) {ns nc nj : Nat} {st nR : Nat → Nat} (hq : qC hi sr ns nc nj st nR) (hF : qF hf) (hns1 : 1 ≤ ns) :
    dk_MF G yX3_choose cX3_choose 7 (some .float) 6 135 [.ref 30, .ref 14] (hi, hf, dk_RF sr, z) (some (.float (pl_fin hi hf st nR ns nc nj).2.2.2)) ((pl_fin hi hf st nR ns nc nj).1, (pl_fin hi hf st nR ns nc nj).2.1, dk_RF sr, z) := by
  refine dk_met (L := [some (.ref 30), some (.ref 14), none, none, none, none, none]) pnX3 rfl (Nat.le_of_ble_eq_true rfl) ?_
  intro X C E hNm
  have hns := hq.1.2.1
  have hnc := hq.2.1.2.1
  have hnj := hq.2.2.1.2.1
  have hoc : 1 ≤ pl_oc ns ∧ pl_oc ns ≤ 6 := by unfold pl_oc; split <;> omega
  have hF2 : qF (ms_F hi hf st nR nc nj) := ms_J_F hq (ms_C_F hq hF nc (Nat.le_refl _)) nj (Nat.le_refl _)
  have cms := c_X3_measureShares G sr hi hf z hq
  rw [pl_fin] at E
  generalize ms_F hi hf st nR nc nj = hf2 at *
  have hpq : ∀ m, qC (pl_ch hi hf2 st nR ns nc nj m).1 sr ns nc nj st nR := fun m => hq.fr (fun i j h => (pl_ch_fr m).1 i j (by omega))
  have hpF : ∀ m, qF (pl_ch hi hf2 st nR ns nc nj m).2.1 := fun m => hF2.fr (pl_ch_fr m).2.1
  have hoce : (if ns = 3 then 6 else ns) = pl_oc ns := rfl
  have loop : ∀ r m, m + r + 1 = pl_oc ns → dk_W X 27 [some (.ref 30), some (.ref 14), some (.retAddr (pl_o ns)), some (.int (nI (pl_ch hi hf2 st nR ns nc nj m).2.2.1)), some (.float (pl_ch hi hf2 st nR ns nc nj m).2.2.2), some (.int (nI (m + 1))), none] [] 63 ((pl_ch hi hf2 st nR ns nc nj m).1, (pl_ch hi hf2 st nR ns nc nj m).2.1, dk_RF sr, z) 0 0 := by
    intro r
    induction r with
    | zero =>
      intro m hm
      have e14 := (hpq m).1.1
      have hbest := (pl_ch_fr (hi := hi) (hf := hf2) (st := st) (nR := nR) (ns := ns) (nc := nc) (nj := nj) m).2.2
      have em : pl_oc ns - 1 = m := by omega
      rw [em] at E
      refine dk_iload C dX3_choose_27 rfl ?_
      refine dk_aload_n C dX3_choose_29 rfl rfl ?_
      refine ek_getI C fX3_40 rfl (by decide) rfl dX3_choose_30 ?_
      rw [e14]
      refine ek_callS C mX3_52 (c_X3_orderCountOf _ _ _ _ _ ns (by omega)) rfl rfl (Nat.le_of_ble_eq_true rfl) (by decide) (by decide) (Nat.zero_le _) (Nat.zero_le _) dX3_choose_33 ?_
      rw [hoce]
      refine dk_icmp_ge C 70 dX3_choose_36 (by decide) (fun _ => ?_) (fun hz => absurd (by rw [show m + 1 = pl_oc ns by omega]; exact Int32.le_refl _) hz)
      refine dk_aload_n C dX3_choose_70 rfl rfl ?_
      refine dk_aload_n C dX3_choose_71 rfl rfl ?_
      refine dk_rload_n C dX3_choose_72 rfl rfl ?_
      refine dk_iload_n C dX3_choose_73 rfl rfl ?_
      refine ek_callV C mX3_48 (c_X3_tryOrder _ _ _ _ _ (hpq m) (hpF m) hns1 _ (by omega)) rfl (by decide) rfl rfl (Nat.le_of_ble_eq_true rfl) (by decide) (by decide) (Nat.zero_le _) (Nat.zero_le _) dX3_choose_74 ?_
      exact dk_fret C E dX3_choose_77 (Nat.zero_le _) (Nat.zero_le _) (⟨rfl, rfl⟩)
    | succ r ih =>
      intro m hm
      have e14 := (hpq m).1.1
      have hstep : pl_ch hi hf2 st nR ns nc nj (m + 1) = ((pl_try (pl_ch hi hf2 st nR ns nc nj m).1 (pl_ch hi hf2 st nR ns nc nj m).2.1 (pl_od ns (m + 1)) st nR nc nj ns).1, (pl_try (pl_ch hi hf2 st nR ns nc nj m).1 (pl_ch hi hf2 st nR ns nc nj m).2.1 (pl_od ns (m + 1)) st nR nc nj ns).2.1, if 0 ≤ Op.cmpValue (FP.fcmp (pl_try (pl_ch hi hf2 st nR ns nc nj m).1 (pl_ch hi hf2 st nR ns nc nj m).2.1 (pl_od ns (m + 1)) st nR nc nj ns).2.2.2 (pl_ch hi hf2 st nR ns nc nj m).2.2.2) .g then (pl_ch hi hf2 st nR ns nc nj m).2.2.1 else m + 1, if 0 ≤ Op.cmpValue (FP.fcmp (pl_try (pl_ch hi hf2 st nR ns nc nj m).1 (pl_ch hi hf2 st nR ns nc nj m).2.1 (pl_od ns (m + 1)) st nR nc nj ns).2.2.2 (pl_ch hi hf2 st nR ns nc nj m).2.2.2) .g then (pl_ch hi hf2 st nR ns nc nj m).2.2.2 else (pl_try (pl_ch hi hf2 st nR ns nc nj m).1 (pl_ch hi hf2 st nR ns nc nj m).2.1 (pl_od ns (m + 1)) st nR nc nj ns).2.2.2) := rfl
      have h9 := ih (m + 1) (by omega)
      rw [hstep] at h9
      refine dk_iload C dX3_choose_27 rfl ?_
      refine dk_aload_n C dX3_choose_29 rfl rfl ?_
      refine ek_getI C fX3_40 rfl (by decide) rfl dX3_choose_30 ?_
      rw [e14]
      refine ek_callS C mX3_52 (c_X3_orderCountOf _ _ _ _ _ ns (by omega)) rfl rfl (Nat.le_of_ble_eq_true rfl) (by decide) (by decide) (Nat.zero_le _) (Nat.zero_le _) dX3_choose_33 ?_
      rw [hoce]
      refine dk_icmp_ge C 70 dX3_choose_36 (by decide) (fun hz => absurd hz (nI_ge (by omega) (by omega))) (fun _ => ?_)
      refine dk_aload_n C dX3_choose_39 rfl rfl ?_
      refine dk_aload_n C dX3_choose_40 rfl rfl ?_
      refine dk_rload_n C dX3_choose_41 rfl rfl ?_
      refine dk_iload C dX3_choose_42 rfl ?_
      refine ek_callV C mX3_48 (c_X3_tryOrder _ _ _ _ _ (hpq m) (hpF m) hns1 (m + 1) (by omega)) rfl (by decide) rfl rfl (Nat.le_of_ble_eq_true rfl) (by decide) (by decide) (Nat.zero_le _) (Nat.zero_le _) dX3_choose_44 ?_
      refine dk_fstore C dX3_choose_47 (by decide) rfl ?_
      refine dk_fload C dX3_choose_49 rfl ?_
      refine dk_fload C dX3_choose_51 rfl ?_
      refine dk_fcmp C dX3_choose_53 ?_
      refine dk_if_ge C 64 dX3_choose_54 (by decide) (fun c1 => ?_) (fun c1 => ?_)
      · rw [if_pos c1, if_pos c1] at h9
        refine dk_iinc C (nI (m + 1 + 1)) dX3_choose_64 rfl (nI_1 _) (by decide) rfl ?_
        refine dk_goto C 27 dX3_choose_67 (by decide) ?_
        refine dk_forgetAt 6 ?_
        exact h9
      · rw [if_neg c1, if_neg c1] at h9
        refine dk_iload C dX3_choose_57 rfl ?_
        refine dk_istore_n C dX3_choose_59 rfl (by decide) rfl ?_
        refine dk_fload C dX3_choose_60 rfl ?_
        refine dk_fstore C dX3_choose_62 (by decide) rfl ?_
        refine dk_iinc C (nI (m + 1 + 1)) dX3_choose_64 rfl (nI_1 _) (by decide) rfl ?_
        refine dk_goto C 27 dX3_choose_67 (by decide) ?_
        refine dk_forgetAt 6 ?_
        exact h9
  refine dk_aload_n C dX3_choose_0 rfl rfl ?_
  refine dk_aload_n C dX3_choose_1 rfl rfl ?_
  refine ek_callVv C mX3_36 (cms) rfl (by decide) rfl rfl (Nat.le_of_ble_eq_true rfl) (by decide) (by decide) (Nat.zero_le _) (Nat.zero_le _) dX3_choose_2 ?_
  refine dk_aload_n C dX3_choose_5 rfl rfl ?_
  refine ek_getI C fX3_40 rfl (by decide) rfl dX3_choose_6 ?_
  rw [hq.1.1]
  refine ek_callS C mX3_44 (c_X3_ordersOf _ _ _ _ _ ns hns) rfl rfl (Nat.le_of_ble_eq_true rfl) (by decide) (by decide) (Nat.zero_le _) (Nat.zero_le _) dX3_choose_9 ?_
  refine dk_rstore_n C dX3_choose_12 rfl (by decide) rfl ?_
  refine dk_iconst C (0) dX3_choose_13 rfl ?_
  refine dk_istore_n C dX3_choose_14 rfl (by decide) rfl ?_
  refine dk_aload_n C dX3_choose_15 rfl rfl ?_
  refine dk_aload_n C dX3_choose_16 rfl rfl ?_
  refine dk_rload_n C dX3_choose_17 rfl rfl ?_
  refine dk_iconst C (0) dX3_choose_18 rfl ?_
  refine ek_callV C mX3_48 (c_X3_tryOrder _ _ _ _ _ hq hF2 hns1 0 (by omega)) rfl (by decide) rfl rfl (Nat.le_of_ble_eq_true rfl) (by decide) (by decide) (Nat.zero_le _) (Nat.zero_le _) dX3_choose_19 ?_
  refine dk_fstore C dX3_choose_22 (by decide) rfl ?_
  refine dk_iconst C (1) dX3_choose_24 rfl ?_
  refine dk_istore C dX3_choose_25 (by decide) rfl ?_
  exact loop (pl_oc ns - 1) 0 (by omega)
end
section
/-! ===== QueryDesk$Work: leaving, passing, keeping ===== -/
theorem dk_up_id {α : Type} (f : Nat → Nat → α) (i k : Nat) : dk_up f i k (f i k) = f := by
  funext a b
  unfold dk_up
  by_cases h : a = i ∧ b = k
  · rw [if_pos h, h.1, h.2]
  · rw [if_neg h]
/-- the depth d - 1 -/
def dpI (d : Nat) : Int32 := nI d - 1
theorem dpI_0 : dpI 0 = -1 := by decide
theorem dpI_s (d : Nat) : dpI (d + 1) = nI d := nI_pred d
/-- sources that are gone through are left -/
def lfd (nx ct : Nat → Int32) : Nat → Nat
  | 0 => 0
  | d + 1 => if nx d < ct d then d + 1 else lfd nx ct d
theorem lfd_le (nx ct : Nat → Int32) : ∀ d, lfd nx ct d ≤ d
  | 0 => Nat.le_refl 0
  | d + 1 => by
    unfold lfd
    split
    · exact Nat.le_refl _
    · exact Nat.le_succ_of_le (lfd_le nx ct d)
set_option maxHeartbeats 4000000 in
set_option maxRecDepth 100000 in
theorem c_X6_leaveFinishedSources (G : dk_G) (sr : Nat → Option Nat) (hi : Nat → Nat → Int32) (hf : Nat → Nat → UInt32) (z : (Nat → Nat → Int64) × (Nat → Nat → UInt64)) (dd : Nat) (hd : hi 38 8 = dpI dd) (hd' : dd ≤ 3) :
    dk_MF G yX6_leaveFinishedSources cX6_leaveFinishedSources 1 none 0 0 [.ref 38] (hi, hf, dk_RF sr, z) (none) (dk_up hi 38 8 (dpI (lfd (hi 41) (hi 40) dd)), hf, dk_RF sr, z) := by
  refine dk_met (L := [some (.ref 38)]) pnX6 rfl (Nat.le_of_ble_eq_true rfl) ?_
  intro X C E hNm
  have loop : ∀ d, d ≤ 3 → lfd (hi 41) (hi 40) d = lfd (hi 41) (hi 40) dd → dk_W X 0 [some (.ref 38)] [] 63 (dk_up hi 38 8 (dpI d), hf, dk_RF sr, z) 0 0 := by
    intro d
    induction d with
    | zero =>
      intro _ he
      refine dk_aload_n C dX6_leaveFinishedSources_0 rfl rfl ?_
      refine ek_getI C fX6_34 rfl (by decide) rfl dX6_leaveFinishedSources_1 ?_
      rw [dk_up_same, dpI_0]
      refine dk_if_lt C 41 dX6_leaveFinishedSources_4 (by decide) (fun _ => ?_) (fun hz => absurd (by decide) hz)
      exact dk_vret C E dX6_leaveFinishedSources_41 (Nat.zero_le _) (Nat.zero_le _) (⟨rfl, by rw [← he, lfd]; rfl⟩)
    | succ d ih =>
      intro h3 he
      refine dk_aload_n C dX6_leaveFinishedSources_0 rfl rfl ?_
      refine ek_getI C fX6_34 rfl (by decide) rfl dX6_leaveFinishedSources_1 ?_
      rw [dk_up_same, dpI_s]
      refine dk_if_lt C 41 dX6_leaveFinishedSources_4 (by decide) (fun hz => absurd hz (nI_pos (by omega))) (fun _ => ?_)
      refine dk_aload_n C dX6_leaveFinishedSources_7 rfl rfl ?_
      refine ek_getR C fX6_22 rfl (by decide) rfl 41 rfl dX6_leaveFinishedSources_8 ?_
      refine dk_aload_n C dX6_leaveFinishedSources_11 rfl rfl ?_
      refine ek_getI C fX6_34 rfl (by decide) rfl dX6_leaveFinishedSources_12 ?_
      refine ek_iald C rfl (by decide) (d) (by rw [dk_up_same]) (by omega) (by decide) dX6_leaveFinishedSources_15 ?_
      refine dk_aload_n C dX6_leaveFinishedSources_16 rfl rfl ?_
      refine ek_getR C fX6_19 rfl (by decide) rfl 40 rfl dX6_leaveFinishedSources_17 ?_
      refine dk_aload_n C dX6_leaveFinishedSources_20 rfl rfl ?_
      refine ek_getI C fX6_34 rfl (by decide) rfl dX6_leaveFinishedSources_21 ?_
      refine ek_iald C rfl (by decide) (d) (by rw [dk_up_same]) (by omega) (by decide) dX6_leaveFinishedSources_24 ?_
      rw [dk_up_ne _ _ (Or.inl (by decide)), dk_up_ne _ _ (Or.inl (by decide))]
      refine dk_icmp_lt C 41 dX6_leaveFinishedSources_25 (by decide) (fun c1 => ?_) (fun c1 => ?_)
      · exact dk_vret C E dX6_leaveFinishedSources_41 (Nat.zero_le _) (Nat.zero_le _) (⟨rfl, by rw [← he, lfd, if_pos c1, dpI_s]⟩)
      · refine dk_aload_n C dX6_leaveFinishedSources_28 rfl rfl ?_
        refine dk_dup C dX6_leaveFinishedSources_29 rfl ?_
        refine ek_getI C fX6_34 rfl (by decide) rfl dX6_leaveFinishedSources_30 ?_
        refine dk_iconst C (1) dX6_leaveFinishedSources_33 rfl ?_
        refine dk_isub C dX6_leaveFinishedSources_34 ?_
        refine ek_putI C fX6_34 fwX6_8 rfl (by decide) rfl dX6_leaveFinishedSources_35 ?_
        refine dk_goto C 0 dX6_leaveFinishedSources_38 (by decide) ?_
        rw [dk_up_same, dk_up_up]
        exact ih (by omega) (by rw [← he, lfd, if_neg c1])
  have h9 := loop dd hd' rfl
  rw [← hd, dk_up_id] at h9
  exact h9
noncomputable def bP (p : Prop) : Bool := @decide p (Classical.propDecidable p)
theorem bP_t {p : Prop} (h : p) : bP p = true := @decide_eq_true p (Classical.propDecidable p) h
theorem bP_f {p : Prop} (h : ¬ p) : bP p = false := @decide_eq_false p (Classical.propDecidable p) h
theorem bP_1 {p : Prop} (h : bP p = true) : p := @of_decide_eq_true p (Classical.propDecidable p) h
theorem bP_0 {p : Prop} (h : bP p = false) : ¬ p := @of_decide_eq_false p (Classical.propDecidable p) h
/-- the value that a source's column has in the row read last -/
abbrev rdv (hi : Nat → Nat → Int32) (st rp : Nat → Nat) (s c : Nat) : Int32 := tb_c hi (st s) c (rp s)
def psC (hi : Nat → Nat → Int32) (st rp : Nat → Nat) (s : Nat) (i : Nat) : Prop := hi (17 + i) 0 = nI s → cn_b (cl (hi (17 + i) 2)) (rdv hi st rp s (cl (hi (17 + i) 1))) (hi (17 + i) 3) = true
def psJ (hi : Nat → Nat → Int32) (st rp : Nat → Nat) (d : Nat) (j : Nat) : Prop := pl_ties hi (22 + j) d = true → rdv hi st rp (cl (hi (22 + j) 0)) (cl (hi (22 + j) 1)) = rdv hi st rp (cl (hi (22 + j) 2)) (cl (hi (22 + j) 3))
/-- whether the row read at depth d, of source s, passes -/
def psA (hi : Nat → Nat → Int32) (st rp : Nat → Nat) (d s nc nj : Nat) : Prop := (∀ i, i < nc → psC hi st rp s i) ∧ ∀ j, j < nj → psJ hi st rp d j
set_option maxHeartbeats 4000000 in
set_option maxRecDepth 100000 in
theorem c_X6_passes (G : dk_G) (sr : Nat → Option Nat) (hi : Nat → Nat → Int32) (hf : Nat → Nat → UInt32) (z : (Nat → Nat → Int64) × (Nat → Nat → UInt64)) {ns nc nj : Nat} {st nR : Nat → Nat} (hq : qC hi sr ns nc nj st nR) (rp : Nat → Nat) (hrp : ∀ s, s < 3 → hi 42 s = nI (rp s) ∧ rp s < 24) (d s : Nat) (hd : hi 38 8 = nI d) (hd' : d < 3) (hs : hi 34 d = nI s) (hs' : s < ns) :
    dk_MF G yX6_passes cX6_passes 6 (some .boolean) 2 45 [.ref 38, .ref 14, .ref 30] (hi, hf, dk_RF sr, z) (some (.int (bI (bP (psA hi st rp d s nc nj))))) (hi, hf, dk_RF sr, z) := by
  refine dk_met (L := [some (.ref 38), some (.ref 14), some (.ref 30), none, none, none]) pnX6 rfl (Nat.le_of_ble_eq_true rfl) ?_
  intro X C E hNm
  have hns := hq.1.2.1
  have hnc := hq.2.1.2.1
  have hnj := hq.2.2.1.2.1
  have loop2 : ∀ r j, j + r = nj → (∀ i, i < nc → psC hi st rp s i) → (∀ i, i < j → psJ hi st rp d i) → dk_W X 70 [some (.ref 38), some (.ref 14), some (.ref 30), some (.int (nI s)), some (.int (nI j)), none] [] 63 (hi, hf, dk_RF sr, z) 0 0 := by
    intro r
    induction r with
    | zero =>
      intro j hj h1 h2
      obtain rfl : j = nj := by omega
      refine dk_iload C dX6_passes_70 rfl ?_
      refine dk_aload_n C dX6_passes_72 rfl rfl ?_
      refine ek_getI C fX6_97 rfl (by decide) rfl dX6_passes_73 ?_
      rw [hq.2.2.1.1]
      refine dk_icmp_ge C 142 dX6_passes_76 (by decide) (fun _ => ?_) (fun hz => absurd (Int32.le_refl _) hz)
      refine dk_iconst C (1) dX6_passes_142 rfl ?_
      exact dk_zret C E rfl dX6_passes_143 (Nat.zero_le _) (Nat.zero_le _) (⟨pI (bI_t (bP_t ⟨h1, h2⟩)), rfl⟩)
    | succ r ih =>
      intro j hj h1 h2
      have Q := dk_Q1i (n := j) (by omega)
      obtain ⟨a, ca, b, cb, ⟨y1, y2, y3, y4, y5⟩, y6, y7, y8, y9⟩ := hq.2.2.1.2.2 j (by omega)
      obtain ⟨p1, Ta, p3, p4⟩ := hq.1.2.2 a y1
      obtain ⟨q1, Tb, q3, q4⟩ := hq.1.2.2 b y3
      refine dk_iload C dX6_passes_70 rfl ?_
      refine dk_aload_n C dX6_passes_72 rfl rfl ?_
      refine ek_getI C fX6_97 rfl (by decide) rfl dX6_passes_73 ?_
      rw [hq.2.2.1.1]
      refine dk_icmp_ge C 142 dX6_passes_76 (by decide) (fun hz => absurd hz (nI_ge (by omega) (by omega))) (fun _ => ?_)
      refine dk_aload_n C dX6_passes_79 rfl rfl ?_
      refine ek_getR C fX6_100 rfl (by decide) rfl 21 rfl dX6_passes_80 ?_
      refine dk_iload C dX6_passes_83 rfl ?_
      refine ek_aald C rfl (by decide) (by decide) (j) (rfl) (by omega) (by decide) (22 + j) (dk_RF21 sr (by omega)) dX6_passes_85 ?_
      refine dk_astore C dX6_passes_86 (by decide) rfl ?_
      refine dk_aload_n C dX6_passes_88 rfl rfl ?_
      refine dk_aload C dX6_passes_89 rfl ?_
      refine dk_aload_n C dX6_passes_91 rfl rfl ?_
      refine ek_getI C fX6_34 rfl (by decide) rfl dX6_passes_92 ?_
      rw [hd]
      refine ek_callV C mX6_104 (c_X3_tiesBack _ _ _ _ _ Q d hd') rfl (by decide) rfl rfl (Nat.le_of_ble_eq_true rfl) (by decide) (by decide) (Nat.zero_le _) (Nat.zero_le _) dX6_passes_95 ?_
      refine dk_if_eq C 136 dX6_passes_98 (by decide) (fun c1 => ?_) (fun c1 => ?_)
      · refine dk_iinc C (nI (j + 1)) dX6_passes_136 rfl (nI_1 j) (by decide) rfl ?_
        refine dk_goto C 70 dX6_passes_139 (by decide) ?_
        refine dk_forgetAt 5 ?_
        exact ih (j + 1) (by omega) h1 (lt_s h2 (fun q => by rw [bI_n0 c1] at q; exact absurd q (by decide)))
      · refine dk_aload_n C dX6_passes_101 rfl rfl ?_
        refine dk_aload_n C dX6_passes_102 rfl rfl ?_
        refine dk_aload C dX6_passes_103 rfl ?_
        refine ek_getI C fX6_108 Q.s0 Q.l0 rfl dX6_passes_105 ?_
        refine dk_aload C dX6_passes_108 rfl ?_
        refine ek_getI C fX6_113 Q.s0 Q.l0 rfl dX6_passes_110 ?_
        rw [y6, y7]
        refine ek_callV C mX6_89 (c_X6_readValue _ _ _ _ _ a ca (rp a) Ta p1 (by omega) y2 (hrp a (by omega)).1 (hrp a (by omega)).2) rfl (by decide) rfl rfl (Nat.le_of_ble_eq_true rfl) (by decide) (by decide) (Nat.zero_le _) (Nat.zero_le _) dX6_passes_113 ?_
        refine dk_aload_n C dX6_passes_116 rfl rfl ?_
        refine dk_aload_n C dX6_passes_117 rfl rfl ?_
        refine dk_aload C dX6_passes_118 rfl ?_
        refine ek_getI C fX6_116 Q.s0 Q.l0 rfl dX6_passes_120 ?_
        refine dk_aload C dX6_passes_123 rfl ?_
        refine ek_getI C fX6_119 Q.s0 Q.l0 rfl dX6_passes_125 ?_
        rw [y8, y9]
        refine ek_callV C mX6_89 (c_X6_readValue _ _ _ _ _ b cb (rp b) Tb q1 (by omega) y4 (hrp b (by omega)).1 (hrp b (by omega)).2) rfl (by decide) rfl rfl (Nat.le_of_ble_eq_true rfl) (by decide) (by decide) (Nat.zero_le _) (Nat.zero_le _) dX6_passes_128 ?_
        have e : psJ hi st rp d j ↔ (pl_ties hi (22 + j) d = true → rdv hi st rp a ca = rdv hi st rp b cb) := by
          unfold psJ
          rw [y6, y7, y8, y9, cl_nI (by omega), cl_nI (by omega), cl_nI (by omega), cl_nI (by omega)]
        refine dk_icmp_eq C 136 dX6_passes_131 (by decide) (fun c2 => ?_) (fun c2 => ?_)
        · refine dk_iinc C (nI (j + 1)) dX6_passes_136 rfl (nI_1 j) (by decide) rfl ?_
          refine dk_goto C 70 dX6_passes_139 (by decide) ?_
          refine dk_forgetAt 5 ?_
          exact ih (j + 1) (by omega) h1 (lt_s h2 (e.mpr (fun _ => c2)))
        · refine dk_iconst C (0) dX6_passes_134 rfl ?_
          exact dk_zret C E rfl dX6_passes_135 (Nat.zero_le _) (Nat.zero_le _) (⟨pI (bI_f (bP_f (fun q => c2 (e.mp (q.2 j (by omega)) (bI_n1 c1))))), rfl⟩)
  have loop1 : ∀ r i, i + r = nc → (∀ k, k < i → psC hi st rp s k) → dk_W X 13 [some (.ref 38), some (.ref 14), some (.ref 30), some (.int (nI s)), some (.int (nI i)), none] [] 63 (hi, hf, dk_RF sr, z) 0 0 := by
    intro r
    induction r with
    | zero =>
      intro i hi' h1
      obtain rfl : i = nc := by omega
      refine dk_iload C dX6_passes_13 rfl ?_
      refine dk_aload_n C dX6_passes_15 rfl rfl ?_
      refine ek_getI C fX6_74 rfl (by decide) rfl dX6_passes_16 ?_
      rw [hq.2.1.1]
      refine dk_icmp_ge C 67 dX6_passes_19 (by decide) (fun _ => ?_) (fun hz => absurd (Int32.le_refl _) hz)
      refine dk_iconst C (0) dX6_passes_67 rfl ?_
      refine dk_istore C dX6_passes_68 (by decide) rfl ?_
      exact loop2 nj 0 (by omega) h1 lt_0
    | succ r ih =>
      intro i hi' h1
      have Q := dk_Q0i (n := i) (by omega)
      obtain ⟨s9, c, o, y1, y2, y3, y4, y5, y6⟩ := hq.2.1.2.2 i (by omega)
      obtain ⟨p1, T, p3, p4⟩ := hq.1.2.2 s hs'
      refine dk_iload C dX6_passes_13 rfl ?_
      refine dk_aload_n C dX6_passes_15 rfl rfl ?_
      refine ek_getI C fX6_74 rfl (by decide) rfl dX6_passes_16 ?_
      rw [hq.2.1.1]
      refine dk_icmp_ge C 67 dX6_passes_19 (by decide) (fun hz => absurd hz (nI_ge (by omega) (by omega))) (fun _ => ?_)
      refine dk_aload_n C dX6_passes_22 rfl rfl ?_
      refine ek_getR C fX6_77 rfl (by decide) rfl 16 rfl dX6_passes_23 ?_
      refine dk_iload C dX6_passes_26 rfl ?_
      refine ek_aald C rfl (by decide) (by decide) (i) (rfl) (by omega) (by decide) (17 + i) (dk_RF16 sr (by omega)) dX6_passes_28 ?_
      refine dk_astore C dX6_passes_29 (by decide) rfl ?_
      refine dk_aload C dX6_passes_31 rfl ?_
      refine ek_getI C fX6_81 Q.s0 Q.l0 rfl dX6_passes_33 ?_
      refine dk_iload_n C dX6_passes_36 rfl rfl ?_
      refine dk_icmp_ne C 61 dX6_passes_37 (by decide) (fun c1 => ?_) (fun c1 => ?_)
      · refine dk_iinc C (nI (i + 1)) dX6_passes_61 rfl (nI_1 i) (by decide) rfl ?_
        refine dk_goto C 13 dX6_passes_64 (by decide) ?_
        refine dk_forgetAt 5 ?_
        exact ih (i + 1) (by omega) (lt_s h1 (fun q => absurd q c1))
      · refine dk_aload C dX6_passes_40 rfl ?_
        refine dk_aload_n C dX6_passes_42 rfl rfl ?_
        refine dk_aload_n C dX6_passes_43 rfl rfl ?_
        refine dk_iload_n C dX6_passes_44 rfl rfl ?_
        refine dk_aload C dX6_passes_45 rfl ?_
        refine ek_getI C fX6_86 Q.s0 Q.l0 rfl dX6_passes_47 ?_
        rw [y5]
        have e : psC hi st rp s i ↔ (hi (17 + i) 0 = nI s → cn_b o (rdv hi st rp s c) (hi (17 + i) 3) = true) := by
          unfold psC
          rw [y5, y6, cl_nI (by omega), cl_nI (by omega)]
        refine ek_callV C mX6_89 (c_X6_readValue _ _ _ _ _ s c (rp s) T p1 (by omega) y2 (hrp s (by omega)).1 (hrp s (by omega)).2) rfl (by decide) rfl rfl (Nat.le_of_ble_eq_true rfl) (by decide) (by decide) (Nat.zero_le _) (Nat.zero_le _) dX6_passes_50 ?_
        refine ek_callV C mX6_93 (c_X0_holds _ _ _ _ _ Q _ o y6 y3) Q.s0 Q.l0 rfl rfl (Nat.le_of_ble_eq_true rfl) (by decide) (by decide) (Nat.zero_le _) (Nat.zero_le _) dX6_passes_53 ?_
        refine dk_if_ne C 61 dX6_passes_56 (by decide) (fun c2 => ?_) (fun c2 => ?_)
        · refine dk_iinc C (nI (i + 1)) dX6_passes_61 rfl (nI_1 i) (by decide) rfl ?_
          refine dk_goto C 13 dX6_passes_64 (by decide) ?_
          refine dk_forgetAt 5 ?_
          exact ih (i + 1) (by omega) (lt_s h1 (e.mpr (fun _ => bI_n1 c2)))
        · refine dk_iconst C (0) dX6_passes_59 rfl ?_
          exact dk_zret C E rfl dX6_passes_60 (Nat.zero_le _) (Nat.zero_le _) (⟨pI (bI_f (bP_f (fun q => by have := e.mp (q.1 i (by omega)) c1; rw [bI_n0 c2] at this; exact absurd this (by decide)))), rfl⟩)
  refine dk_aload_n C dX6_passes_0 rfl rfl ?_
  refine ek_getR C fX6_58 rfl (by decide) rfl 34 rfl dX6_passes_1 ?_
  refine dk_aload_n C dX6_passes_4 rfl rfl ?_
  refine ek_getI C fX6_34 rfl (by decide) rfl dX6_passes_5 ?_
  rw [hd]
  refine ek_iald C rfl (by decide) (d) (rfl) (hd') (by decide) dX6_passes_8 ?_
  rw [hs]
  refine dk_istore_n C dX6_passes_9 rfl (by decide) rfl ?_
  refine dk_iconst C (0) dX6_passes_10 rfl ?_
  refine dk_istore C dX6_passes_11 (by decide) rfl ?_
  exact loop1 nc 0 (by omega) lt_0
end
section
/-! ===== QueryDesk$Work: an answer kept, a step, the beginning ===== -/
/-- the outputs as the class holds them -/
def qO (hi : Nat → Nat → Int32) (ns no : Nat) : Prop := hi 14 7 = nI no ∧ no ≤ 4 ∧ (∀ i, i < no → ∃ s c, s < ns ∧ c < 4 ∧ hi (26 + i) 0 = nI s ∧ hi (26 + i) 1 = nI c) ∧ (hi 14 8 = -1 ∨ ∃ o, o < no ∧ hi 14 8 = nI o)
theorem qO.fr {hi hi' : Nat → Nat → Int32} {ns no : Nat} (h : qO hi ns no) (hh : ∀ i j, i < 30 → hi' i j = hi i j) : qO hi' ns no := by
  obtain ⟨a1, a2, a3, a4⟩ := h
  refine ⟨by rw [hh _ _ (by decide)]; exact a1, a2, fun i hi' => ?_, by rw [hh _ _ (by decide)]; exact a4⟩
  obtain ⟨s, c, y1, y2, y3, y4⟩ := a3 i hi'
  exact ⟨s, c, y1, y2, by rw [hh _ _ (by omega)]; exact y3, by rw [hh _ _ (by omega)]; exact y4⟩
def ov (hi : Nat → Nat → Int32) (st rp : Nat → Nat) (i : Nat) : Int32 := rdv hi st rp (cl (hi (26 + i) 0)) (cl (hi (26 + i) 1))
/-- the outputs' values of the rows read, written as answer a -/
def ka_w (hi : Nat → Nat → Int32) (st rp : Nat → Nat) (a : Nat) : Nat → Nat → Nat → Int32
  | 0 => hi
  | i + 1 => dk_up (ka_w hi st rp a i) 43 (a * 4 + i) (ov hi st rp i)
theorem ka_w_ne {hi : Nat → Nat → Int32} {st rp : Nat → Nat} {a : Nat} {i j : Nat} (h : i ≠ 43) : ∀ k, ka_w hi st rp a k i j = hi i j
  | 0 => rfl
  | k + 1 => by
    show dk_up _ _ _ _ _ _ = _
    rw [dk_up_ne _ _ (Or.inl h), ka_w_ne h k]
def ka_f (hi : Nat → Nat → Int32) (st rp : Nat → Nat) (a no k : Nat) : Nat → Nat → Int32 := dk_up (dk_up (dk_cp (ka_w hi st rp a no) 44 k (k + 1) (a - k)) 44 k (nI a)) 38 6 (nI (a + 1))
/-- whether answer a goes before the one of rank i -/
def ka_b (hi : Nat → Nat → Int32) (R : Nat → Nat) (a i : Nat) : Prop := ¬ hi 14 8 = -1 ∧ wk_b (hi 14 9) (hi 43 (a * 4 + cl (hi 14 8))) (hi 43 (R i * 4 + cl (hi 14 8))) = true
def ka_Po (hi : Nat → Nat → Int32) (hf : Nat → Nat → UInt32) (sr : Nat → Option Nat) (z : (Nat → Nat → Int64) × (Nat → Nat → UInt64)) (st rp R : Nat → Nat) (a no : Nat) : Option Value → dk_H → Prop := fun r' h' => r' = none ∧ ∃ k, k ≤ a ∧ (k = 0 ∨ ¬ ka_b (ka_w hi st rp a no) R a (k - 1)) ∧ (∀ i, k ≤ i → i < a → ka_b (ka_w hi st rp a no) R a i) ∧ h' = (ka_f hi st rp a no k, hf, dk_RF sr, z)
set_option maxHeartbeats 4000000 in
set_option maxRecDepth 100000 in
theorem c_X6_keepAnswer (G : dk_G) (sr : Nat → Option Nat) (hi : Nat → Nat → Int32) (hf : Nat → Nat → UInt32) (z : (Nat → Nat → Int64) × (Nat → Nat → UInt64)) {ns nc nj no : Nat} {st nR : Nat → Nat} (hq : qC hi sr ns nc nj st nR) (ho : qO hi ns no) (rp R : Nat → Nat) (hrp : ∀ s, s < 3 → hi 42 s = nI (rp s) ∧ rp s < 24) (a : Nat) (ha : hi 38 6 = nI a) (ha' : a < 64) (hR : ∀ i, i < a → hi 44 i = nI (R i) ∧ R i < 64) :
    dk_M G yX6_keepAnswer cX6_keepAnswer 5 none { frames := 2, cells := 0, slots := 0, locals := 45 } [.ref 38, .ref 14] 63 (hi, hf, dk_RF sr, z) 63 (ka_Po hi hf sr z st rp R a no) := by
  refine dk_met (L := [some (.ref 38), some (.ref 14), none, none, none]) pnX6 rfl (Nat.le_of_ble_eq_true rfl) ?_
  intro X C E hNm
  have hns := hq.1.2.1
  obtain ⟨o1, o2, o3, o4⟩ := ho
  have fin : ∀ k, k ≤ a → (k = 0 ∨ ¬ ka_b (ka_w hi st rp a no) R a (k - 1)) → (∀ i, k ≤ i → i < a → ka_b (ka_w hi st rp a no) R a i) → dk_W X 110 [some (.ref 38), some (.ref 14), some (.int (nI (a * 4))), some (.int (nI k)), none] [] 63 (dk_cp (ka_w hi st rp a no) 44 k (k + 1) (a - k), hf, dk_RF sr, z) 0 0 := by
    intro k hk h1 h2
    have e1 : dk_cp (ka_w hi st rp a no) 44 k (k + 1) (a - k) 38 6 = nI a := by rw [dk_cp_ne _ (by decide), ka_w_ne (by decide), ha]
    refine dk_aload_n C dX6_keepAnswer_110 rfl rfl ?_
    refine ek_getR C fX6_31 rfl (by decide) rfl 44 rfl dX6_keepAnswer_111 ?_
    refine dk_iload_n C dX6_keepAnswer_114 rfl rfl ?_
    refine dk_aload_n C dX6_keepAnswer_115 rfl rfl ?_
    refine ek_getI C fX6_38 rfl (by decide) rfl dX6_keepAnswer_116 ?_
    rw [e1]
    refine ek_iast C rfl (by decide) (k) (rfl) (by omega) (by decide) dX6_keepAnswer_119 ?_
    refine dk_aload_n C dX6_keepAnswer_120 rfl rfl ?_
    refine dk_dup C dX6_keepAnswer_121 rfl ?_
    refine ek_getI C fX6_38 rfl (by decide) rfl dX6_keepAnswer_122 ?_
    refine dk_iconst C (1) dX6_keepAnswer_125 rfl ?_
    refine dk_iadd C dX6_keepAnswer_126 ?_
    refine ek_putI C fX6_38 fwX6_6 rfl (by decide) rfl dX6_keepAnswer_127 ?_
    rw [dk_up_ne _ _ (Or.inl (by decide)), e1, nI_1]
    exact dk_vret C E dX6_keepAnswer_130 (Nat.zero_le _) (Nat.zero_le _) (⟨rfl, k, hk, h1, h2, rfl⟩)
  have loop2 : ∀ k, k ≤ a → (∀ i, k ≤ i → i < a → ka_b (ka_w hi st rp a no) R a i) → dk_W X 59 [some (.ref 38), some (.ref 14), some (.int (nI (a * 4))), some (.int (nI k)), none] [] 63 (dk_cp (ka_w hi st rp a no) 44 k (k + 1) (a - k), hf, dk_RF sr, z) 0 0 := by
    intro k
    induction k with
    | zero =>
      intro hk h2
      refine dk_iload_n C dX6_keepAnswer_59 rfl rfl ?_
      refine dk_if_le C 110 dX6_keepAnswer_60 (by decide) (fun _ => ?_) (fun hz => absurd (Int32.le_refl _) hz)
      exact fin 0 hk (Or.inl rfl) h2
    | succ k ih =>
      intro hk h2
      have c14 : ∀ j, dk_cp (ka_w hi st rp a no) 44 (k + 1) (k + 1 + 1) (a - (k + 1)) 14 j = ka_w hi st rp a no 14 j := fun j => dk_cp_ne _ (by decide)
      have c43 : ∀ j, dk_cp (ka_w hi st rp a no) 44 (k + 1) (k + 1 + 1) (a - (k + 1)) 43 j = ka_w hi st rp a no 43 j := fun j => dk_cp_ne _ (by decide)
      have e38 : dk_cp (ka_w hi st rp a no) 44 (k + 1) (k + 1 + 1) (a - (k + 1)) 38 6 = nI a := by rw [dk_cp_ne _ (by decide), ka_w_ne (by decide), ha]
      have e44 : dk_cp (ka_w hi st rp a no) 44 (k + 1) (k + 1 + 1) (a - (k + 1)) 44 k = nI (R k) := by rw [dk_cp_at _ (by omega), ka_w_ne (by decide), (hR k (by omega)).1]
      refine dk_iload_n C dX6_keepAnswer_59 rfl rfl ?_
      refine dk_if_le C 110 dX6_keepAnswer_60 (by decide) (fun hz => absurd hz (nI_nle (by omega) (by omega))) (fun _ => ?_)
      refine dk_aload_n C dX6_keepAnswer_63 rfl rfl ?_
      refine ek_callV C mX6_176 (c_X4_isOrdered _ _ _ _ _) rfl (by decide) rfl rfl (Nat.le_of_ble_eq_true rfl) (by decide) (by decide) (Nat.zero_le _) (Nat.zero_le _) dX6_keepAnswer_64 ?_
      rw [c14]
      refine dk_if_eq C 110 dX6_keepAnswer_67 (by decide) (fun c1 => ?_) (fun c1 => ?_)
      · refine fin (k + 1) hk (Or.inr (fun q => q.1 ?_)) h2
        have := bI_n0 c1
        simpa using this
      · have hord : ¬ ka_w hi st rp a no 14 8 = -1 := by simpa using bI_n1 c1
        obtain ⟨o, oo, eo⟩ : ∃ o, o < no ∧ ka_w hi st rp a no 14 8 = nI o := by
          rw [ka_w_ne (by decide)] at hord ⊢
          rcases o4 with h | h
          · exact absurd h hord
          · exact h
        refine dk_aload_n C dX6_keepAnswer_70 rfl rfl ?_
        refine dk_aload_n C dX6_keepAnswer_71 rfl rfl ?_
        refine dk_aload_n C dX6_keepAnswer_72 rfl rfl ?_
        refine ek_getI C fX6_38 rfl (by decide) rfl dX6_keepAnswer_73 ?_
        rw [e38]
        refine dk_aload_n C dX6_keepAnswer_76 rfl rfl ?_
        refine ek_getR C fX6_31 rfl (by decide) rfl 44 rfl dX6_keepAnswer_77 ?_
        refine dk_iload_n C dX6_keepAnswer_80 rfl rfl ?_
        refine dk_iconst C (1) dX6_keepAnswer_81 rfl ?_
        refine dk_isub C dX6_keepAnswer_82 ?_
        refine ek_iald C rfl (by decide) (k) (nIm1 (k := k + 1) (by omega)) (by omega) (by decide) dX6_keepAnswer_83 ?_
        rw [e44]
        refine ek_callV C mX6_180 (c_X6_goesBefore _ _ _ _ _ a (R k) o (by omega) (hR k (by omega)).2 (by rw [c14]; exact eo) (by omega)) rfl (by decide) rfl rfl (Nat.le_of_ble_eq_true rfl) (by decide) (by decide) (Nat.zero_le _) (Nat.zero_le _) dX6_keepAnswer_84 ?_
        rw [c14, c43, c43]
        have ekb : ka_b (ka_w hi st rp a no) R a k ↔ wk_b (ka_w hi st rp a no 14 9) (ka_w hi st rp a no 43 (a * 4 + o)) (ka_w hi st rp a no 43 (R k * 4 + o)) = true := by
          unfold ka_b
          rw [eo, cl_nI (by omega)]
          exact ⟨fun q => q.2, fun q => ⟨by rw [← eo]; exact hord, q⟩⟩
        refine dk_if_eq C 110 dX6_keepAnswer_87 (by decide) (fun c2 => ?_) (fun c2 => ?_)
        · refine fin (k + 1) hk (Or.inr (fun q => ?_)) h2
          have := ekb.mp q
          rw [bI_n0 c2] at this
          exact absurd this (by decide)
        · refine dk_aload_n C dX6_keepAnswer_90 rfl rfl ?_
          refine ek_getR C fX6_31 rfl (by decide) rfl 44 rfl dX6_keepAnswer_91 ?_
          refine dk_iload_n C dX6_keepAnswer_94 rfl rfl ?_
          refine dk_aload_n C dX6_keepAnswer_95 rfl rfl ?_
          refine ek_getR C fX6_31 rfl (by decide) rfl 44 rfl dX6_keepAnswer_96 ?_
          refine dk_iload_n C dX6_keepAnswer_99 rfl rfl ?_
          refine dk_iconst C (1) dX6_keepAnswer_100 rfl ?_
          refine dk_isub C dX6_keepAnswer_101 ?_
          refine ek_iald C rfl (by decide) (k) (nIm1 (k := k + 1) (by omega)) (by omega) (by decide) dX6_keepAnswer_102 ?_
          rw [e44, ← (hR k (by omega)).1, ← ka_w_ne (hi := hi) (st := st) (rp := rp) (a := a) (show 44 ≠ 43 by decide) no]
          refine ek_iast C rfl (by decide) (k + 1) (rfl) (by omega) (by decide) dX6_keepAnswer_103 ?_
          refine dk_iinc C (nI k) dX6_keepAnswer_104 rfl (by rw [litm1]; exact pk_m1 k) (by decide) rfl ?_
          refine dk_goto C 59 dX6_keepAnswer_107 (by decide) ?_
          have e4 : dk_up (dk_cp (ka_w hi st rp a no) 44 (k + 1) (k + 1 + 1) (a - (k + 1))) 44 (k + 1) (ka_w hi st rp a no 44 k) = dk_cp (ka_w hi st rp a no) 44 k (k + 1) (a - k) := by
            rw [show a - k = a - (k + 1) + 1 by omega]
            exact dk_cp_s _ 44 k (a - (k + 1))
          rw [e4]
          refine ih (by omega) (fun i g1 g2 => ?_)
          by_cases e : i = k
          · subst e; exact ekb.mpr (bI_n1 c2)
          · exact h2 i (by omega) g2
  have loop1 : ∀ r i, i + r = no → dk_W X 9 [some (.ref 38), some (.ref 14), some (.int (nI (a * 4))), some (.int (nI i)), none] [] 63 (ka_w hi st rp a i, hf, dk_RF sr, z) 0 0 := by
    intro r
    induction r with
    | zero =>
      intro i hi'
      obtain rfl : i = no := by omega
      have e1 : ka_w hi st rp a i 38 6 = nI a := by rw [ka_w_ne (by decide), ha]
      refine dk_iload_n C dX6_keepAnswer_9 rfl rfl ?_
      refine dk_aload_n C dX6_keepAnswer_10 rfl rfl ?_
      refine ek_getI C fX6_165 rfl (by decide) rfl dX6_keepAnswer_11 ?_
      rw [ka_w_ne (by decide), o1]
      refine dk_icmp_ge C 54 dX6_keepAnswer_14 (by decide) (fun _ => ?_) (fun hz => absurd (Int32.le_refl _) hz)
      refine dk_aload_n C dX6_keepAnswer_54 rfl rfl ?_
      refine ek_getI C fX6_38 rfl (by decide) rfl dX6_keepAnswer_55 ?_
      rw [e1]
      refine dk_istore_n C dX6_keepAnswer_58 rfl (by decide) rfl ?_
      have h9 := loop2 a (Nat.le_refl a) (fun i g1 g2 => by omega)
      rw [Nat.sub_self, dk_cp_0] at h9
      exact h9
    | succ r ih =>
      intro i hi'
      have Q := dk_Q2i (n := i) (by omega)
      obtain ⟨s, c, y1, y2, y3, y4⟩ := o3 i (by omega)
      obtain ⟨p1, T, p3, p4⟩ := hq.1.2.2 s y1
      have tl : st s + 2 < 43 := by unfold dk_T at T; omega
      refine dk_iload_n C dX6_keepAnswer_9 rfl rfl ?_
      refine dk_aload_n C dX6_keepAnswer_10 rfl rfl ?_
      refine ek_getI C fX6_165 rfl (by decide) rfl dX6_keepAnswer_11 ?_
      rw [ka_w_ne (by decide), o1]
      refine dk_icmp_ge C 54 dX6_keepAnswer_14 (by decide) (fun hz => absurd hz (nI_ge (by omega) (by omega))) (fun _ => ?_)
      refine dk_aload_n C dX6_keepAnswer_17 rfl rfl ?_
      refine ek_getR C fX6_168 rfl (by decide) rfl 25 rfl dX6_keepAnswer_18 ?_
      refine dk_iload_n C dX6_keepAnswer_21 rfl rfl ?_
      refine ek_aald C rfl (by decide) (by decide) (i) (rfl) (by omega) (by decide) (26 + i) (dk_RF25 sr (by omega)) dX6_keepAnswer_22 ?_
      refine dk_astore C dX6_keepAnswer_23 (by decide) rfl ?_
      refine dk_aload_n C dX6_keepAnswer_25 rfl rfl ?_
      refine ek_getR C fX6_28 rfl (by decide) rfl 43 rfl dX6_keepAnswer_26 ?_
      refine dk_iload_n C dX6_keepAnswer_29 rfl rfl ?_
      refine dk_iload_n C dX6_keepAnswer_30 rfl rfl ?_
      refine dk_iadd C dX6_keepAnswer_31 ?_
      refine dk_aload_n C dX6_keepAnswer_32 rfl rfl ?_
      refine dk_aload_n C dX6_keepAnswer_33 rfl rfl ?_
      refine dk_aload C dX6_keepAnswer_34 rfl ?_
      refine ek_getI C fX6_172 Q.s0 Q.l0 rfl dX6_keepAnswer_36 ?_
      refine dk_aload C dX6_keepAnswer_39 rfl ?_
      refine ek_getI C fX6_175 Q.s0 Q.l0 rfl dX6_keepAnswer_41 ?_
      rw [ka_w_ne (by omega), ka_w_ne (by omega), y3, y4]
      have ev : tb_c (ka_w hi st rp a i) (st s) c (rp s) = ov hi st rp i := by
        unfold ov rdv
        rw [y3, y4, cl_nI (by omega), cl_nI (by omega)]
        exact ka_w_ne (by omega) i
      refine ek_callV C mX6_89 (c_X6_readValue _ _ _ _ _ s c (rp s) T p1 (by omega) y2 (by rw [ka_w_ne (by decide)]; exact (hrp s (by omega)).1) (hrp s (by omega)).2) rfl (by decide) rfl rfl (Nat.le_of_ble_eq_true rfl) (by decide) (by decide) (Nat.zero_le _) (Nat.zero_le _) dX6_keepAnswer_44 ?_
      rw [ev]
      refine ek_iast C rfl (by decide) (a * 4 + i) (nI_add (a * 4) i) (by omega) (by decide) dX6_keepAnswer_47 ?_
      refine dk_iinc C (nI (i + 1)) dX6_keepAnswer_48 rfl (nI_1 i) (by decide) rfl ?_
      refine dk_goto C 9 dX6_keepAnswer_51 (by decide) ?_
      refine dk_forgetAt 4 ?_
      exact ih (i + 1) (by omega)
  refine dk_aload_n C dX6_keepAnswer_0 rfl rfl ?_
  refine ek_getI C fX6_38 rfl (by decide) rfl dX6_keepAnswer_1 ?_
  refine dk_iconst C (4) dX6_keepAnswer_4 rfl ?_
  refine dk_imul C dX6_keepAnswer_5 ?_
  rw [ha, nI4k]
  refine dk_istore_n C dX6_keepAnswer_6 rfl (by decide) rfl ?_
  refine dk_iconst C (0) dX6_keepAnswer_7 rfl ?_
  refine dk_istore_n C dX6_keepAnswer_8 rfl (by decide) rfl ?_
  exact loop1 no 0 (by omega)
/-- a row read: the place, the next one, the step -/
def wk_read (hi : Nat → Nat → Int32) (d s q nx : Nat) : Nat → Nat → Int32 := dk_up (dk_up (dk_up hi 42 s (nI q)) 41 d (nI (nx + 1))) 38 7 (hi 38 7 + 1)
theorem wk_read_ne {hi : Nat → Nat → Int32} {d s q nx i j : Nat} (h : i ≠ 42 ∧ i ≠ 41 ∧ (i ≠ 38 ∨ j ≠ 7)) : wk_read hi d s q nx i j = hi i j := by
  unfold wk_read
  rw [dk_up_ne _ _ (by omega), dk_up_ne _ _ (by omega), dk_up_ne _ _ (by omega)]
def ms_end (hi : Nat → Nat → Int32) (d : Nat) : Nat → Nat → Int32 := dk_up hi 38 8 (dpI (lfd (hi 41) (hi 40) d))
def ms_Po (h3 : Nat → Nat → Int32) (hf : Nat → Nat → UInt32) (sr : Nat → Option Nat) (z : (Nat → Nat → Int64) × (Nat → Nat → UInt64)) (st rp R : Nat → Nat) (d s ns nc nj no a : Nat) (l : List Nat) : Option Value → dk_H → Prop := fun r' h' => r' = none ∧ ∃ h4 d4, h' = (ms_end h4 d4, hf, dk_RF sr, z) ∧
  ((¬ psA h3 st rp d s nc nj ∧ h4 = h3 ∧ d4 = d + 1) ∨
   (psA h3 st rp d s nc nj ∧ d + 1 = ns ∧ d4 = d + 1 ∧ ∃ k, k ≤ a ∧ (k = 0 ∨ ¬ ka_b (ka_w h3 st rp a no) R a (k - 1)) ∧ (∀ i, k ≤ i → i < a → ka_b (ka_w h3 st rp a no) R a i) ∧ h4 = ka_f h3 st rp a no k) ∨
   (psA h3 st rp d s nc nj ∧ d + 1 < ns ∧ d4 = d + 2 ∧ wk_F (wk_open h3 (d + 1)) h4 (d + 1) ∧ wk_L h4 (d + 1) l))
set_option maxHeartbeats 4000000 in
set_option maxRecDepth 100000 in
theorem c_X6_makeStep (G : dk_G) (sr : Nat → Option Nat) (hi : Nat → Nat → Int32) (hf : Nat → Nat → UInt32) (z : (Nat → Nat → Int64) × (Nat → Nat → UInt64)) {ns nc nj no : Nat} {st nR : Nat → Nat} (hq : qC hi sr ns nc nj st nR) (ho : qO hi ns no) (rp R : Nat → Nat) (d s q nx a : Nat) (hrp : ∀ x, x < 3 → wk_read hi d s q nx 42 x = nI (rp x) ∧ rp x < 24) (ha : hi 38 6 = nI a) (ha' : a < 64) (hR : ∀ i, i < a → hi 44 i = nI (R i) ∧ R i < 64)
    (hd : hi 38 8 = nI d) (hd' : d < ns) (hs : hi 34 d = nI s) (hs' : s < ns) (hnx : hi 41 d = nI nx) (hnx' : nx < 24) (hqq : hi 39 (d * 24 + nx) = nI q) (l : List Nat) (t9 : Nat) (s9 : Nat) (P : Nat → Bool) (srt : Bool) (f : Nat → Int32) (hop : d + 1 < ns → dk_T t9 ∧ hi 34 (d + 1) = nI s9 ∧ s9 < 3 ∧ sr s9 = some t9 ∧ (∃ n9, hi t9 4 = nI n9 ∧ n9 ≤ 24 ∧ l = op_L P srt f n9) ∧ op_W (wk_read hi d s q nx) sr (d + 1) s9 t9 P srt f) :
    dk_M G yX6_makeStep cX6_makeStep 4 none { frames := 4, cells := 0, slots := 0, locals := 98 } [.ref 38, .ref 14, .ref 30] 63 (hi, hf, dk_RF sr, z) 63 (ms_Po (wk_read hi d s q nx) hf sr z st rp R d s ns nc nj no a l) := by
  refine dk_met (L := [some (.ref 38), some (.ref 14), some (.ref 30), none]) pnX6 rfl (Nat.le_of_ble_eq_true rfl) ?_
  intro X C E hNm
  have hns := hq.1.2.1
  have e24 : hi 38 8 * 24 + hi 41 d = nI (d * 24 + nx) := by rw [hd, hnx, nI24]
  have leave : ∀ h4 d4, d4 ≤ 3 → h4 38 8 = dpI d4 → (∀ E9 : ms_Po (wk_read hi d s q nx) hf sr z st rp R d s ns nc nj no a l none (ms_end h4 d4, hf, dk_RF sr, z), dk_W X 103 [some (.ref 38), some (.ref 14), some (.ref 30), some (.int (nI s))] [] 63 (h4, hf, dk_RF sr, z) 0 0) := by
    intro h4 d4 g1 g2 E9
    refine dk_aload_n C dX6_makeStep_103 rfl rfl ?_
    refine ek_callVv C mX6_51 (c_X6_leaveFinishedSources _ _ _ _ _ d4 g2 g1) rfl (by decide) rfl rfl (Nat.le_of_ble_eq_true rfl) (by decide) (by decide) (Nat.zero_le _) (Nat.zero_le _) dX6_makeStep_104 ?_
    exact dk_vret C E dX6_makeStep_107 (Nat.zero_le _) (Nat.zero_le _) (E9)
  refine dk_aload_n C dX6_makeStep_0 rfl rfl ?_
  refine ek_getR C fX6_58 rfl (by decide) rfl 34 rfl dX6_makeStep_1 ?_
  refine dk_aload_n C dX6_makeStep_4 rfl rfl ?_
  refine ek_getI C fX6_34 rfl (by decide) rfl dX6_makeStep_5 ?_
  rw [hd]
  refine ek_iald C rfl (by decide) (d) (rfl) (by omega) (by decide) dX6_makeStep_8 ?_
  rw [hs]
  refine dk_istore_n C dX6_makeStep_9 rfl (by decide) rfl ?_
  refine dk_aload_n C dX6_makeStep_10 rfl rfl ?_
  refine ek_getR C fX6_25 rfl (by decide) rfl 42 rfl dX6_makeStep_11 ?_
  refine dk_iload_n C dX6_makeStep_14 rfl rfl ?_
  refine dk_aload_n C dX6_makeStep_15 rfl rfl ?_
  refine ek_getR C fX6_13 rfl (by decide) rfl 39 rfl dX6_makeStep_16 ?_
  refine dk_aload_n C dX6_makeStep_19 rfl rfl ?_
  refine ek_getI C fX6_34 rfl (by decide) rfl dX6_makeStep_20 ?_
  refine dk_bipush C (24) dX6_makeStep_23 rfl ?_
  refine dk_imul C dX6_makeStep_25 ?_
  refine dk_aload_n C dX6_makeStep_26 rfl rfl ?_
  refine ek_getR C fX6_22 rfl (by decide) rfl 41 rfl dX6_makeStep_27 ?_
  refine dk_aload_n C dX6_makeStep_30 rfl rfl ?_
  refine ek_getI C fX6_34 rfl (by decide) rfl dX6_makeStep_31 ?_
  refine ek_iald C rfl (by decide) (d) (hd) (by omega) (by decide) dX6_makeStep_34 ?_
  refine dk_iadd C dX6_makeStep_35 ?_
  refine ek_iald C rfl (by decide) (d * 24 + nx) (e24) (by omega) (by decide) dX6_makeStep_36 ?_
  refine ek_iast C rfl (by decide) (s) (rfl) (by omega) (by decide) dX6_makeStep_37 ?_
  rw [hqq]
  have f1 : dk_up hi 42 s (nI q) 38 8 = nI d := by rw [dk_up_ne _ _ (Or.inl (by decide)), hd]
  have f2 : dk_up hi 42 s (nI q) 41 d = nI nx := by rw [dk_up_ne _ _ (Or.inl (by decide)), hnx]
  refine dk_aload_n C dX6_makeStep_38 rfl rfl ?_
  refine ek_getR C fX6_22 rfl (by decide) rfl 41 rfl dX6_makeStep_39 ?_
  refine dk_aload_n C dX6_makeStep_42 rfl rfl ?_
  refine ek_getI C fX6_34 rfl (by decide) rfl dX6_makeStep_43 ?_
  refine dk_dup2 C dX6_makeStep_46 rfl rfl ?_
  refine ek_iald C rfl (by decide) (d) (f1) (by omega) (by decide) dX6_makeStep_47 ?_
  refine dk_iconst C (1) dX6_makeStep_48 rfl ?_
  refine dk_iadd C dX6_makeStep_49 ?_
  refine ek_iast C rfl (by decide) (d) (f1) (by omega) (by decide) dX6_makeStep_50 ?_
  rw [f2, nI_1]
  refine dk_aload_n C dX6_makeStep_51 rfl rfl ?_
  refine dk_dup C dX6_makeStep_52 rfl ?_
  refine ek_getI C fX6_41 rfl (by decide) rfl dX6_makeStep_53 ?_
  refine dk_iconst C (1) dX6_makeStep_56 rfl ?_
  refine dk_iadd C dX6_makeStep_57 ?_
  refine ek_putI C fX6_41 fwX6_7 rfl (by decide) rfl dX6_makeStep_58 ?_
  have f3 : dk_up (dk_up hi 42 s (nI q)) 41 d (nI (nx + 1)) 38 7 = hi 38 7 := by rw [dk_up_ne _ _ (Or.inl (by decide)), dk_up_ne _ _ (Or.inl (by decide))]
  rw [f3]
  have eh3 : dk_up (dk_up (dk_up hi 42 s (nI q)) 41 d (nI (nx + 1))) 38 7 (hi 38 7 + 1) = wk_read hi d s q nx := rfl
  rw [eh3]
  have hq3 : qC (wk_read hi d s q nx) sr ns nc nj st nR := hq.fr (fun i j h => wk_read_ne (by omega))
  have ho3 : qO (wk_read hi d s q nx) ns no := ho.fr (fun i j h => wk_read_ne (by omega))
  have d3 : wk_read hi d s q nx 38 8 = nI d := by rw [wk_read_ne (by omega), hd]
  have a3 : wk_read hi d s q nx 38 6 = nI a := by rw [wk_read_ne (by omega), ha]
  have g34 : ∀ j, wk_read hi d s q nx 34 j = hi 34 j := fun j => wk_read_ne (by omega)
  refine dk_aload_n C dX6_makeStep_61 rfl rfl ?_
  refine dk_aload_n C dX6_makeStep_62 rfl rfl ?_
  refine dk_aload_n C dX6_makeStep_63 rfl rfl ?_
  refine ek_callV C mX6_63 (c_X6_passes _ _ _ _ _ hq3 rp hrp d s d3 (by omega) (by rw [g34]; exact hs) hs') rfl (by decide) rfl rfl (Nat.le_of_ble_eq_true rfl) (by decide) (by decide) (Nat.zero_le _) (Nat.zero_le _) dX6_makeStep_64 ?_
  refine dk_if_eq C 103 dX6_makeStep_67 (by decide) (fun c1 => ?_) (fun c1 => ?_)
  · exact leave _ (d + 1) (by omega) (by rw [d3, dpI_s]) ⟨rfl, _, _, rfl, Or.inl ⟨bP_0 (bI_n0 c1), rfl, rfl⟩⟩
  · have hps := bP_1 (bI_n1 c1)
    refine dk_aload_n C dX6_makeStep_70 rfl rfl ?_
    refine ek_getI C fX6_34 rfl (by decide) rfl dX6_makeStep_71 ?_
    refine dk_aload_n C dX6_makeStep_74 rfl rfl ?_
    refine ek_getI C fX6_67 rfl (by decide) rfl dX6_makeStep_75 ?_
    refine dk_iconst C (1) dX6_makeStep_78 rfl ?_
    refine dk_isub C dX6_makeStep_79 ?_
    rw [d3, hq3.1.1, nIm1 (by omega)]
    refine dk_icmp_ne C 91 dX6_makeStep_80 (by decide) (fun c2 => ?_) (fun c2 => ?_)
    · have hlt : d + 1 < ns := by
        have : d ≠ ns - 1 := fun e => c2 (by rw [e])
        omega
      obtain ⟨T9, g1, g2, g3, ⟨n9, g4, g5, g6⟩, g7⟩ := hop hlt
      have t9l : t9 < 38 := by unfold dk_T at T9; omega
      refine dk_aload_n C dX6_makeStep_91 rfl rfl ?_
      refine dk_aload_n C dX6_makeStep_92 rfl rfl ?_
      refine dk_aload_n C dX6_makeStep_93 rfl rfl ?_
      refine dk_aload_n C dX6_makeStep_94 rfl rfl ?_
      refine ek_getI C fX6_34 rfl (by decide) rfl dX6_makeStep_95 ?_
      refine dk_iconst C (1) dX6_makeStep_98 rfl ?_
      refine dk_iadd C dX6_makeStep_99 ?_
      rw [d3, nI_1]
      refine dk_callV C mX6_47 (c_X6_openSource _ _ _ _ _ T9 (d + 1) s9 n9 P srt f (by omega) (by rw [g34]; exact g1) g2 g3 (by rw [wk_read_ne (by omega)]; exact g4) g5 g7) rfl (by decide) rfl rfl (Nat.le_of_ble_eq_true rfl) ⟨by decide, by decide⟩ ⟨Nat.zero_le _, Nat.zero_le _⟩ dX6_makeStep_100 ?_
      rintro r h' ⟨rfl, h4, b1, b2, rfl⟩
      refine leave h4 (d + 2) (by omega) ?_ ⟨rfl, h4, _, rfl, Or.inr (Or.inr ⟨hps, hlt, rfl, b1, by rw [g6]; exact b2⟩)⟩
      rw [b1.cell (by decide), wk_open, dk_up_ne _ _ (Or.inl (by decide)), dk_up_ne _ _ (Or.inl (by decide)), dk_up_same, dpI_s]
    · have he : d + 1 = ns := by
        have : d = ns - 1 := (nI_eq (by omega) (by omega)).mp c2
        omega
      refine dk_aload_n C dX6_makeStep_83 rfl rfl ?_
      refine dk_aload_n C dX6_makeStep_84 rfl rfl ?_
      refine dk_callV C mX6_70 (c_X6_keepAnswer _ _ _ _ _ hq3 ho3 rp R hrp a a3 ha' (fun i h => by rw [wk_read_ne (by omega)]; exact hR i h)) rfl (by decide) rfl rfl (Nat.le_of_ble_eq_true rfl) ⟨by decide, by decide⟩ ⟨Nat.zero_le _, Nat.zero_le _⟩ dX6_makeStep_85 ?_
      rintro r h' ⟨rfl, k, b1, b2, b3, rfl⟩
      refine dk_goto C 103 dX6_makeStep_88 (by decide) ?_
      refine leave _ (d + 1) (by omega) ?_ ⟨rfl, _, _, rfl, Or.inr (Or.inl ⟨hps, he, rfl, k, b1, b2, b3, rfl⟩)⟩
      rw [ka_f, dk_up_ne _ _ (Or.inr (by decide)), dk_up_ne _ _ (Or.inl (by decide)), dk_cp_ne _ (by decide), ka_w_ne (by decide), d3, dpI_s]
/-- the first source opened, or left at once -/
def bg_Po (h0 : Nat → Nat → Int32) (hf : Nat → Nat → UInt32) (sr : Nat → Option Nat) (z : (Nat → Nat → Int64) × (Nat → Nat → UInt64)) (l : List Nat) : Option Value → dk_H → Prop := fun r' h' => r' = none ∧ ∃ h4, wk_F (wk_open (wk_clear h0) 0) h4 0 ∧ wk_L h4 0 l ∧ h' = (ms_end h4 1, hf, dk_RF sr, z)
theorem wk_clear_ne {hi : Nat → Nat → Int32} {i j : Nat} (h : i ≠ 38) : wk_clear hi i j = hi i j := by
  unfold wk_clear
  rw [dk_up_ne _ _ (Or.inl h), dk_up_ne _ _ (Or.inl h), dk_up_ne _ _ (Or.inl h)]
set_option maxHeartbeats 4000000 in
set_option maxRecDepth 100000 in
theorem c_X6_begin (G : dk_G) (sr : Nat → Option Nat) (hi : Nat → Nat → Int32) (hf : Nat → Nat → UInt32) (z : (Nat → Nat → Int64) × (Nat → Nat → UInt64)) {t : Nat} (T : dk_T t) (s n : Nat) (P : Nat → Bool) (srt : Bool) (f : Nat → Int32) (hs : hi 34 0 = nI s) (hs' : s < 3) (hst : sr s = some t) (hn : hi t 4 = nI n) (hn' : n ≤ 24) (hW : op_W (wk_clear hi) sr 0 s t P srt f) :
    dk_M G yX6_begin cX6_begin 3 none { frames := 4, cells := 0, slots := 0, locals := 98 } [.ref 38, .ref 14, .ref 30] 63 (hi, hf, dk_RF sr, z) 63 (bg_Po hi hf sr z (op_L P srt f n)) := by
  refine dk_met (L := [some (.ref 38), some (.ref 14), some (.ref 30)]) pnX6 rfl (Nat.le_of_ble_eq_true rfl) ?_
  intro X C E hNm
  have tl : t < 38 := by unfold dk_T at T; omega
  refine dk_aload_n C dX6_begin_0 rfl rfl ?_
  refine ek_callVv C mX6_44 (c_X6_clear _ _ _ _ _) rfl (by decide) rfl rfl (Nat.le_of_ble_eq_true rfl) (by decide) (by decide) (Nat.zero_le _) (Nat.zero_le _) dX6_begin_1 ?_
  refine dk_aload_n C dX6_begin_4 rfl rfl ?_
  refine dk_aload_n C dX6_begin_5 rfl rfl ?_
  refine dk_aload_n C dX6_begin_6 rfl rfl ?_
  refine dk_iconst C (0) dX6_begin_7 rfl ?_
  refine dk_callV C mX6_47 (c_X6_openSource _ _ (wk_clear hi) _ _ T 0 s n P srt f (by decide) (by rw [wk_clear_ne (by decide)]; exact hs) hs' hst (by rw [wk_clear_ne (by omega)]; exact hn) hn' hW) rfl (by decide) rfl rfl (Nat.le_of_ble_eq_true rfl) ⟨by decide, by decide⟩ ⟨Nat.zero_le _, Nat.zero_le _⟩ dX6_begin_8 ?_
  rintro r h' ⟨rfl, h4, b1, b2, rfl⟩
  refine dk_aload_n C dX6_begin_11 rfl rfl ?_
  refine ek_callVv C mX6_51 (c_X6_leaveFinishedSources _ _ _ _ _ 1 (by rw [b1.cell (by decide), wk_open, dk_up_ne _ _ (Or.inl (by decide)), dk_up_ne _ _ (Or.inl (by decide)), dk_up_same]; rfl) (by decide)) rfl (by decide) rfl rfl (Nat.le_of_ble_eq_true rfl) (by decide) (by decide) (Nat.zero_le _) (Nat.zero_le _) dX6_begin_12 ?_
  exact dk_vret C E dX6_begin_15 (Nat.zero_le _) (Nat.zero_le _) (⟨rfl, h4, b1, b2, rfl⟩)
end
