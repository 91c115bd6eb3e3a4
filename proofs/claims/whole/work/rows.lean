section
-- ===== PART A: goes FIRST, ahead of the names: the tables' words, and 'selects' of the private methods out of them =====
/-- a private method of a class that the tables say can be made, by its rows of tables_1 -/
def lw_okq (q : MethodName × Nat) : Prop := (q.1.cls ≠ "java/lang/invoke/MethodHandle" ∧ q.1.cls ≠ "java/lang/invoke/VarHandle") ∧ Cond.instantiable q.1.cls q.2 ∈ tables_1 ∧ Cond.privateMethod q.1 ∈ tables_1 ∧ Cond.instanceMethod q.1 ∈ tables_1
theorem lw_p0 : lw_okq (⟨"QueryDesk", "beginQuestion", "()V"⟩, 5) := ⟨⟨by decide +kernel, by decide +kernel⟩, List.mem_of_getElem? (i := 19) (by decide +kernel), List.mem_of_getElem? (i := 299) (by decide +kernel), List.mem_of_getElem? (i := 300) (by decide +kernel)⟩
theorem lw_p1 : lw_okq (⟨"QueryDesk", "hasColumn", "(II)Z"⟩, 5) := ⟨⟨by decide +kernel, by decide +kernel⟩, List.mem_of_getElem? (i := 19) (by decide +kernel), List.mem_of_getElem? (i := 315) (by decide +kernel), List.mem_of_getElem? (i := 316) (by decide +kernel)⟩
theorem lw_p2 : lw_okq (⟨"QueryDesk", "hasTable", "(I)Z"⟩, 5) := ⟨⟨by decide +kernel, by decide +kernel⟩, List.mem_of_getElem? (i := 19) (by decide +kernel), List.mem_of_getElem? (i := 319) (by decide +kernel), List.mem_of_getElem? (i := 320) (by decide +kernel)⟩
theorem lw_p3 : lw_okq (⟨"QueryDesk", "endQuestion", "()V"⟩, 5) := ⟨⟨by decide +kernel, by decide +kernel⟩, List.mem_of_getElem? (i := 19) (by decide +kernel), List.mem_of_getElem? (i := 334) (by decide +kernel), List.mem_of_getElem? (i := 335) (by decide +kernel)⟩
theorem lw_p4 : lw_okq (⟨"QueryDesk$Work", "passes", "(LQueryDesk$Question;LQueryDesk$Plan;)Z"⟩, 9) := ⟨⟨by decide +kernel, by decide +kernel⟩, List.mem_of_getElem? (i := 239) (by decide +kernel), List.mem_of_getElem? (i := 415) (by decide +kernel), List.mem_of_getElem? (i := 416) (by decide +kernel)⟩
theorem lw_p5 : lw_okq (⟨"QueryDesk$Work", "readValue", "(LQueryDesk$Question;II)I"⟩, 9) := ⟨⟨by decide +kernel, by decide +kernel⟩, List.mem_of_getElem? (i := 239) (by decide +kernel), List.mem_of_getElem? (i := 419) (by decide +kernel), List.mem_of_getElem? (i := 420) (by decide +kernel)⟩
theorem lw_p6 : lw_okq (⟨"QueryDesk$Plan", "isBefore", "(II)Z"⟩, 8) := ⟨⟨by decide +kernel, by decide +kernel⟩, List.mem_of_getElem? (i := 199) (by decide +kernel), List.mem_of_getElem? (i := 443) (by decide +kernel), List.mem_of_getElem? (i := 444) (by decide +kernel)⟩
theorem lw_p7 : lw_okq (⟨"QueryDesk$Work", "keepAnswer", "(LQueryDesk$Question;)V"⟩, 9) := ⟨⟨by decide +kernel, by decide +kernel⟩, List.mem_of_getElem? (i := 239) (by decide +kernel), List.mem_of_getElem? (i := 447) (by decide +kernel), List.mem_of_getElem? (i := 448) (by decide +kernel)⟩
theorem lw_p8 : lw_okq (⟨"QueryDesk$Work", "goesBefore", "(LQueryDesk$Question;II)Z"⟩, 9) := ⟨⟨by decide +kernel, by decide +kernel⟩, List.mem_of_getElem? (i := 239) (by decide +kernel), List.mem_of_getElem? (i := 452) (by decide +kernel), List.mem_of_getElem? (i := 453) (by decide +kernel)⟩
theorem lw_p9 : lw_okq (⟨"QueryDesk$Work", "openSource", "(LQueryDesk$Question;LQueryDesk$Plan;I)V"⟩, 9) := ⟨⟨by decide +kernel, by decide +kernel⟩, List.mem_of_getElem? (i := 239) (by decide +kernel), List.mem_of_getElem? (i := 456) (by decide +kernel), List.mem_of_getElem? (i := 457) (by decide +kernel)⟩
theorem lw_p10 : lw_okq (⟨"QueryDesk$Work", "openByCondition", "(LQueryDesk$Table;LQueryDesk$Condition;ZI)V"⟩, 9) := ⟨⟨by decide +kernel, by decide +kernel⟩, List.mem_of_getElem? (i := 239) (by decide +kernel), List.mem_of_getElem? (i := 460) (by decide +kernel), List.mem_of_getElem? (i := 461) (by decide +kernel)⟩
theorem lw_p11 : lw_okq (⟨"QueryDesk$Work", "addPlace", "(I)V"⟩, 9) := ⟨⟨by decide +kernel, by decide +kernel⟩, List.mem_of_getElem? (i := 239) (by decide +kernel), List.mem_of_getElem? (i := 464) (by decide +kernel), List.mem_of_getElem? (i := 465) (by decide +kernel)⟩
theorem lw_p12 : lw_okq (⟨"QueryDesk$Work", "sinkLastPlace", "(LQueryDesk$Table;I)V"⟩, 9) := ⟨⟨by decide +kernel, by decide +kernel⟩, List.mem_of_getElem? (i := 239) (by decide +kernel), List.mem_of_getElem? (i := 468) (by decide +kernel), List.mem_of_getElem? (i := 469) (by decide +kernel)⟩
theorem lw_p13 : lw_okq (⟨"QueryDesk$Work", "openByJoin", "(LQueryDesk$Question;LQueryDesk$Join;II)V"⟩, 9) := ⟨⟨by decide +kernel, by decide +kernel⟩, List.mem_of_getElem? (i := 239) (by decide +kernel), List.mem_of_getElem? (i := 472) (by decide +kernel), List.mem_of_getElem? (i := 473) (by decide +kernel)⟩
theorem lw_p14 : lw_okq (⟨"QueryDesk$Work", "leaveFinishedSources", "()V"⟩, 9) := ⟨⟨by decide +kernel, by decide +kernel⟩, List.mem_of_getElem? (i := 239) (by decide +kernel), List.mem_of_getElem? (i := 481) (by decide +kernel), List.mem_of_getElem? (i := 482) (by decide +kernel)⟩
theorem lw_p15 : lw_okq (⟨"QueryDesk", "givenAnswers", "()I"⟩, 5) := ⟨⟨by decide +kernel, by decide +kernel⟩, List.mem_of_getElem? (i := 19) (by decide +kernel), List.mem_of_getElem? (i := 489) (by decide +kernel), List.mem_of_getElem? (i := 490) (by decide +kernel)⟩
def lw_privs_1 : List (MethodName × Nat) := [(⟨"QueryDesk", "beginQuestion", "()V"⟩, 5), (⟨"QueryDesk", "hasColumn", "(II)Z"⟩, 5), (⟨"QueryDesk", "hasTable", "(I)Z"⟩, 5), (⟨"QueryDesk", "endQuestion", "()V"⟩, 5), (⟨"QueryDesk$Work", "passes", "(LQueryDesk$Question;LQueryDesk$Plan;)Z"⟩, 9), (⟨"QueryDesk$Work", "readValue", "(LQueryDesk$Question;II)I"⟩, 9), (⟨"QueryDesk$Plan", "isBefore", "(II)Z"⟩, 8), (⟨"QueryDesk$Work", "keepAnswer", "(LQueryDesk$Question;)V"⟩, 9), (⟨"QueryDesk$Work", "goesBefore", "(LQueryDesk$Question;II)Z"⟩, 9), (⟨"QueryDesk$Work", "openSource", "(LQueryDesk$Question;LQueryDesk$Plan;I)V"⟩, 9), (⟨"QueryDesk$Work", "openByCondition", "(LQueryDesk$Table;LQueryDesk$Condition;ZI)V"⟩, 9), (⟨"QueryDesk$Work", "addPlace", "(I)V"⟩, 9), (⟨"QueryDesk$Work", "sinkLastPlace", "(LQueryDesk$Table;I)V"⟩, 9), (⟨"QueryDesk$Work", "openByJoin", "(LQueryDesk$Question;LQueryDesk$Join;II)V"⟩, 9), (⟨"QueryDesk$Work", "leaveFinishedSources", "()V"⟩, 9), (⟨"QueryDesk", "givenAnswers", "()I"⟩, 5)]
theorem lw_r1 : ∀ q ∈ lw_privs_1, lw_okq q := List.forall_mem_cons.mpr ⟨lw_p0, List.forall_mem_cons.mpr ⟨lw_p1, List.forall_mem_cons.mpr ⟨lw_p2, List.forall_mem_cons.mpr ⟨lw_p3, List.forall_mem_cons.mpr ⟨lw_p4, List.forall_mem_cons.mpr ⟨lw_p5, List.forall_mem_cons.mpr ⟨lw_p6, List.forall_mem_cons.mpr ⟨lw_p7, List.forall_mem_cons.mpr ⟨lw_p8, List.forall_mem_cons.mpr ⟨lw_p9, List.forall_mem_cons.mpr ⟨lw_p10, List.forall_mem_cons.mpr ⟨lw_p11, List.forall_mem_cons.mpr ⟨lw_p12, List.forall_mem_cons.mpr ⟨lw_p13, List.forall_mem_cons.mpr ⟨lw_p14, List.forall_mem_cons.mpr ⟨lw_p15, fun _ h => absurd h List.not_mem_nil⟩⟩⟩⟩⟩⟩⟩⟩⟩⟩⟩⟩⟩⟩⟩⟩
theorem lw_p16 : lw_okq (⟨"java/lang/Throwable", "fillInStackTrace", "(I)Ljava/lang/Throwable;"⟩, 6) := ⟨⟨by decide +kernel, by decide +kernel⟩, List.mem_of_getElem? (i := 543) (by decide +kernel), List.mem_of_getElem? (i := 541) (by decide +kernel), List.mem_of_getElem? (i := 542) (by decide +kernel)⟩
theorem lw_p17 : lw_okq (⟨"QueryDesk", "hasRow", "(II)Z"⟩, 5) := ⟨⟨by decide +kernel, by decide +kernel⟩, List.mem_of_getElem? (i := 19) (by decide +kernel), List.mem_of_getElem? (i := 604) (by decide +kernel), List.mem_of_getElem? (i := 605) (by decide +kernel)⟩
theorem lw_p18 : lw_okq (⟨"QueryDesk$Plan", "measureShares", "(LQueryDesk$Question;)V"⟩, 8) := ⟨⟨by decide +kernel, by decide +kernel⟩, List.mem_of_getElem? (i := 199) (by decide +kernel), List.mem_of_getElem? (i := 652) (by decide +kernel), List.mem_of_getElem? (i := 653) (by decide +kernel)⟩
theorem lw_p19 : lw_okq (⟨"QueryDesk$Table", "standsBefore", "(II)Z"⟩, 6) := ⟨⟨by decide +kernel, by decide +kernel⟩, List.mem_of_getElem? (i := 28) (by decide +kernel), List.mem_of_getElem? (i := 666) (by decide +kernel), List.mem_of_getElem? (i := 667) (by decide +kernel)⟩
theorem lw_p20 : lw_okq (⟨"QueryDesk$Plan", "tryOrder", "(LQueryDesk$Question;[II)F"⟩, 8) := ⟨⟨by decide +kernel, by decide +kernel⟩, List.mem_of_getElem? (i := 199) (by decide +kernel), List.mem_of_getElem? (i := 695) (by decide +kernel), List.mem_of_getElem? (i := 696) (by decide +kernel)⟩
theorem lw_p21 : lw_okq (⟨"QueryDesk$Plan", "takeBestWay", "(LQueryDesk$Question;I)V"⟩, 8) := ⟨⟨by decide +kernel, by decide +kernel⟩, List.mem_of_getElem? (i := 199) (by decide +kernel), List.mem_of_getElem? (i := 699) (by decide +kernel), List.mem_of_getElem? (i := 700) (by decide +kernel)⟩
theorem lw_p22 : lw_okq (⟨"QueryDesk$Plan", "takeWay", "(IIII)V"⟩, 8) := ⟨⟨by decide +kernel, by decide +kernel⟩, List.mem_of_getElem? (i := 199) (by decide +kernel), List.mem_of_getElem? (i := 703) (by decide +kernel), List.mem_of_getElem? (i := 704) (by decide +kernel)⟩
theorem lw_p23 : lw_okq (⟨"QueryDesk$Plan", "considerCondition", "(LQueryDesk$Question;II)V"⟩, 8) := ⟨⟨by decide +kernel, by decide +kernel⟩, List.mem_of_getElem? (i := 199) (by decide +kernel), List.mem_of_getElem? (i := 707) (by decide +kernel), List.mem_of_getElem? (i := 708) (by decide +kernel)⟩
theorem lw_p24 : lw_okq (⟨"QueryDesk$Plan", "considerWay", "(FIIII)V"⟩, 8) := ⟨⟨by decide +kernel, by decide +kernel⟩, List.mem_of_getElem? (i := 199) (by decide +kernel), List.mem_of_getElem? (i := 712) (by decide +kernel), List.mem_of_getElem? (i := 713) (by decide +kernel)⟩
theorem lw_p25 : lw_okq (⟨"QueryDesk$Plan", "considerJoin", "(LQueryDesk$Question;II)V"⟩, 8) := ⟨⟨by decide +kernel, by decide +kernel⟩, List.mem_of_getElem? (i := 199) (by decide +kernel), List.mem_of_getElem? (i := 717) (by decide +kernel), List.mem_of_getElem? (i := 718) (by decide +kernel)⟩
theorem lw_p26 : lw_okq (⟨"QueryDesk$Plan", "joinShare", "(LQueryDesk$Join;II)F"⟩, 8) := ⟨⟨by decide +kernel, by decide +kernel⟩, List.mem_of_getElem? (i := 199) (by decide +kernel), List.mem_of_getElem? (i := 722) (by decide +kernel), List.mem_of_getElem? (i := 723) (by decide +kernel)⟩
theorem lw_p27 : lw_okq (⟨"QueryDesk$Plan", "countBehind", "(LQueryDesk$Question;IF)F"⟩, 8) := ⟨⟨by decide +kernel, by decide +kernel⟩, List.mem_of_getElem? (i := 199) (by decide +kernel), List.mem_of_getElem? (i := 726) (by decide +kernel), List.mem_of_getElem? (i := 727) (by decide +kernel)⟩
theorem lw_p28 : lw_okq (⟨"QueryDeskModel", "empty", "()V"⟩, 30) := ⟨⟨by decide +kernel, by decide +kernel⟩, List.mem_of_getElem? (i := 775) (by decide +kernel), List.mem_of_getElem? (i := 781) (by decide +kernel), List.mem_of_getElem? (i := 782) (by decide +kernel)⟩
theorem lw_p29 : lw_okq (⟨"QueryDeskModel", "isTable", "(I)Z"⟩, 30) := ⟨⟨by decide +kernel, by decide +kernel⟩, List.mem_of_getElem? (i := 775) (by decide +kernel), List.mem_of_getElem? (i := 891) (by decide +kernel), List.mem_of_getElem? (i := 892) (by decide +kernel)⟩
theorem lw_p30 : lw_okq (⟨"QueryDeskModel", "rowsOf", "(I)I"⟩, 30) := ⟨⟨by decide +kernel, by decide +kernel⟩, List.mem_of_getElem? (i := 775) (by decide +kernel), List.mem_of_getElem? (i := 895) (by decide +kernel), List.mem_of_getElem? (i := 896) (by decide +kernel)⟩
theorem lw_p31 : lw_okq (⟨"QueryDeskModel", "changed", "()V"⟩, 30) := ⟨⟨by decide +kernel, by decide +kernel⟩, List.mem_of_getElem? (i := 775) (by decide +kernel), List.mem_of_getElem? (i := 899) (by decide +kernel), List.mem_of_getElem? (i := 900) (by decide +kernel)⟩
def lw_privs_2 : List (MethodName × Nat) := [(⟨"java/lang/Throwable", "fillInStackTrace", "(I)Ljava/lang/Throwable;"⟩, 6), (⟨"QueryDesk", "hasRow", "(II)Z"⟩, 5), (⟨"QueryDesk$Plan", "measureShares", "(LQueryDesk$Question;)V"⟩, 8), (⟨"QueryDesk$Table", "standsBefore", "(II)Z"⟩, 6), (⟨"QueryDesk$Plan", "tryOrder", "(LQueryDesk$Question;[II)F"⟩, 8), (⟨"QueryDesk$Plan", "takeBestWay", "(LQueryDesk$Question;I)V"⟩, 8), (⟨"QueryDesk$Plan", "takeWay", "(IIII)V"⟩, 8), (⟨"QueryDesk$Plan", "considerCondition", "(LQueryDesk$Question;II)V"⟩, 8), (⟨"QueryDesk$Plan", "considerWay", "(FIIII)V"⟩, 8), (⟨"QueryDesk$Plan", "considerJoin", "(LQueryDesk$Question;II)V"⟩, 8), (⟨"QueryDesk$Plan", "joinShare", "(LQueryDesk$Join;II)F"⟩, 8), (⟨"QueryDesk$Plan", "countBehind", "(LQueryDesk$Question;IF)F"⟩, 8), (⟨"QueryDeskModel", "empty", "()V"⟩, 30), (⟨"QueryDeskModel", "isTable", "(I)Z"⟩, 30), (⟨"QueryDeskModel", "rowsOf", "(I)I"⟩, 30), (⟨"QueryDeskModel", "changed", "()V"⟩, 30)]
theorem lw_r2 : ∀ q ∈ lw_privs_2, lw_okq q := List.forall_mem_cons.mpr ⟨lw_p16, List.forall_mem_cons.mpr ⟨lw_p17, List.forall_mem_cons.mpr ⟨lw_p18, List.forall_mem_cons.mpr ⟨lw_p19, List.forall_mem_cons.mpr ⟨lw_p20, List.forall_mem_cons.mpr ⟨lw_p21, List.forall_mem_cons.mpr ⟨lw_p22, List.forall_mem_cons.mpr ⟨lw_p23, List.forall_mem_cons.mpr ⟨lw_p24, List.forall_mem_cons.mpr ⟨lw_p25, List.forall_mem_cons.mpr ⟨lw_p26, List.forall_mem_cons.mpr ⟨lw_p27, List.forall_mem_cons.mpr ⟨lw_p28, List.forall_mem_cons.mpr ⟨lw_p29, List.forall_mem_cons.mpr ⟨lw_p30, List.forall_mem_cons.mpr ⟨lw_p31, fun _ h => absurd h List.not_mem_nil⟩⟩⟩⟩⟩⟩⟩⟩⟩⟩⟩⟩⟩⟩⟩⟩
theorem lw_p32 : lw_okq (⟨"QueryDeskModel", "isRow", "(II)Z"⟩, 30) := ⟨⟨by decide +kernel, by decide +kernel⟩, List.mem_of_getElem? (i := 775) (by decide +kernel), List.mem_of_getElem? (i := 907) (by decide +kernel), List.mem_of_getElem? (i := 908) (by decide +kernel)⟩
theorem lw_p33 : lw_okq (⟨"QueryDeskModel", "isColumn", "(II)Z"⟩, 30) := ⟨⟨by decide +kernel, by decide +kernel⟩, List.mem_of_getElem? (i := 775) (by decide +kernel), List.mem_of_getElem? (i := 915) (by decide +kernel), List.mem_of_getElem? (i := 916) (by decide +kernel)⟩
theorem lw_p34 : lw_okq (⟨"QueryDeskModel", "get", "(III)I"⟩, 30) := ⟨⟨by decide +kernel, by decide +kernel⟩, List.mem_of_getElem? (i := 775) (by decide +kernel), List.mem_of_getElem? (i := 923) (by decide +kernel), List.mem_of_getElem? (i := 924) (by decide +kernel)⟩
theorem lw_p35 : lw_okq (⟨"QueryDeskModel", "setIndex", "(IIIZ)Z"⟩, 30) := ⟨⟨by decide +kernel, by decide +kernel⟩, List.mem_of_getElem? (i := 775) (by decide +kernel), List.mem_of_getElem? (i := 931) (by decide +kernel), List.mem_of_getElem? (i := 932) (by decide +kernel)⟩
theorem lw_p36 : lw_okq (⟨"QueryDeskModel", "has", "(II)Z"⟩, 30) := ⟨⟨by decide +kernel, by decide +kernel⟩, List.mem_of_getElem? (i := 775) (by decide +kernel), List.mem_of_getElem? (i := 951) (by decide +kernel), List.mem_of_getElem? (i := 952) (by decide +kernel)⟩
theorem lw_p37 : lw_okq (⟨"QueryDeskModel", "cost", "(I)F"⟩, 30) := ⟨⟨by decide +kernel, by decide +kernel⟩, List.mem_of_getElem? (i := 775) (by decide +kernel), List.mem_of_getElem? (i := 975) (by decide +kernel), List.mem_of_getElem? (i := 976) (by decide +kernel)⟩
theorem lw_p38 : lw_okq (⟨"QueryDeskModel", "fewest", "(II)F"⟩, 30) := ⟨⟨by decide +kernel, by decide +kernel⟩, List.mem_of_getElem? (i := 775) (by decide +kernel), List.mem_of_getElem? (i := 982) (by decide +kernel), List.mem_of_getElem? (i := 983) (by decide +kernel)⟩
theorem lw_p39 : lw_okq (⟨"QueryDeskModel", "share", "(IIII)F"⟩, 30) := ⟨⟨by decide +kernel, by decide +kernel⟩, List.mem_of_getElem? (i := 775) (by decide +kernel), List.mem_of_getElem? (i := 986) (by decide +kernel), List.mem_of_getElem? (i := 987) (by decide +kernel)⟩
theorem lw_p40 : lw_okq (⟨"QueryDeskModel", "bettered", "(FFIII)F"⟩, 30) := ⟨⟨by decide +kernel, by decide +kernel⟩, List.mem_of_getElem? (i := 775) (by decide +kernel), List.mem_of_getElem? (i := 990) (by decide +kernel), List.mem_of_getElem? (i := 991) (by decide +kernel)⟩
theorem lw_p41 : lw_okq (⟨"QueryDeskModel", "sideOf", "(III)I"⟩, 30) := ⟨⟨by decide +kernel, by decide +kernel⟩, List.mem_of_getElem? (i := 775) (by decide +kernel), List.mem_of_getElem? (i := 994) (by decide +kernel), List.mem_of_getElem? (i := 995) (by decide +kernel)⟩
theorem lw_p42 : lw_okq (⟨"QueryDeskModel", "lessened", "(FII)F"⟩, 30) := ⟨⟨by decide +kernel, by decide +kernel⟩, List.mem_of_getElem? (i := 775) (by decide +kernel), List.mem_of_getElem? (i := 998) (by decide +kernel), List.mem_of_getElem? (i := 999) (by decide +kernel)⟩
theorem lw_p43 : lw_okq (⟨"QueryDeskModel", "following", "(I)I"⟩, 30) := ⟨⟨by decide +kernel, by decide +kernel⟩, List.mem_of_getElem? (i := 775) (by decide +kernel), List.mem_of_getElem? (i := 1010) (by decide +kernel), List.mem_of_getElem? (i := 1011) (by decide +kernel)⟩
theorem lw_p44 : lw_okq (⟨"QueryDeskModel", "wanted", "(II)I"⟩, 30) := ⟨⟨by decide +kernel, by decide +kernel⟩, List.mem_of_getElem? (i := 775) (by decide +kernel), List.mem_of_getElem? (i := 1014) (by decide +kernel), List.mem_of_getElem? (i := 1015) (by decide +kernel)⟩
theorem lw_p45 : lw_okq (⟨"QueryDeskModel", "rowAt", "(I)I"⟩, 30) := ⟨⟨by decide +kernel, by decide +kernel⟩, List.mem_of_getElem? (i := 775) (by decide +kernel), List.mem_of_getElem? (i := 1018) (by decide +kernel), List.mem_of_getElem? (i := 1019) (by decide +kernel)⟩
theorem lw_p46 : lw_okq (⟨"QueryDeskModel", "before", "(IIIII)Z"⟩, 30) := ⟨⟨by decide +kernel, by decide +kernel⟩, List.mem_of_getElem? (i := 775) (by decide +kernel), List.mem_of_getElem? (i := 1025) (by decide +kernel), List.mem_of_getElem? (i := 1026) (by decide +kernel)⟩
theorem lw_p47 : lw_okq (⟨"QueryDeskModel", "finish", "()V"⟩, 30) := ⟨⟨by decide +kernel, by decide +kernel⟩, List.mem_of_getElem? (i := 775) (by decide +kernel), List.mem_of_getElem? (i := 1029) (by decide +kernel), List.mem_of_getElem? (i := 1030) (by decide +kernel)⟩
def lw_privs_3 : List (MethodName × Nat) := [(⟨"QueryDeskModel", "isRow", "(II)Z"⟩, 30), (⟨"QueryDeskModel", "isColumn", "(II)Z"⟩, 30), (⟨"QueryDeskModel", "get", "(III)I"⟩, 30), (⟨"QueryDeskModel", "setIndex", "(IIIZ)Z"⟩, 30), (⟨"QueryDeskModel", "has", "(II)Z"⟩, 30), (⟨"QueryDeskModel", "cost", "(I)F"⟩, 30), (⟨"QueryDeskModel", "fewest", "(II)F"⟩, 30), (⟨"QueryDeskModel", "share", "(IIII)F"⟩, 30), (⟨"QueryDeskModel", "bettered", "(FFIII)F"⟩, 30), (⟨"QueryDeskModel", "sideOf", "(III)I"⟩, 30), (⟨"QueryDeskModel", "lessened", "(FII)F"⟩, 30), (⟨"QueryDeskModel", "following", "(I)I"⟩, 30), (⟨"QueryDeskModel", "wanted", "(II)I"⟩, 30), (⟨"QueryDeskModel", "rowAt", "(I)I"⟩, 30), (⟨"QueryDeskModel", "before", "(IIIII)Z"⟩, 30), (⟨"QueryDeskModel", "finish", "()V"⟩, 30)]
theorem lw_r3 : ∀ q ∈ lw_privs_3, lw_okq q := List.forall_mem_cons.mpr ⟨lw_p32, List.forall_mem_cons.mpr ⟨lw_p33, List.forall_mem_cons.mpr ⟨lw_p34, List.forall_mem_cons.mpr ⟨lw_p35, List.forall_mem_cons.mpr ⟨lw_p36, List.forall_mem_cons.mpr ⟨lw_p37, List.forall_mem_cons.mpr ⟨lw_p38, List.forall_mem_cons.mpr ⟨lw_p39, List.forall_mem_cons.mpr ⟨lw_p40, List.forall_mem_cons.mpr ⟨lw_p41, List.forall_mem_cons.mpr ⟨lw_p42, List.forall_mem_cons.mpr ⟨lw_p43, List.forall_mem_cons.mpr ⟨lw_p44, List.forall_mem_cons.mpr ⟨lw_p45, List.forall_mem_cons.mpr ⟨lw_p46, List.forall_mem_cons.mpr ⟨lw_p47, fun _ h => absurd h List.not_mem_nil⟩⟩⟩⟩⟩⟩⟩⟩⟩⟩⟩⟩⟩⟩⟩⟩
theorem lw_p48 : lw_okq (⟨"QueryDeskModel", "swapped", "(I)Z"⟩, 30) := ⟨⟨by decide +kernel, by decide +kernel⟩, List.mem_of_getElem? (i := 775) (by decide +kernel), List.mem_of_getElem? (i := 1033) (by decide +kernel), List.mem_of_getElem? (i := 1034) (by decide +kernel)⟩
theorem lw_p49 : lw_okq (⟨"QueryDeskModel", "step", "()V"⟩, 30) := ⟨⟨by decide +kernel, by decide +kernel⟩, List.mem_of_getElem? (i := 775) (by decide +kernel), List.mem_of_getElem? (i := 1037) (by decide +kernel), List.mem_of_getElem? (i := 1038) (by decide +kernel)⟩
theorem lw_p50 : lw_okq (⟨"QueryDeskModel", "passes", "(I)Z"⟩, 30) := ⟨⟨by decide +kernel, by decide +kernel⟩, List.mem_of_getElem? (i := 775) (by decide +kernel), List.mem_of_getElem? (i := 1041) (by decide +kernel), List.mem_of_getElem? (i := 1042) (by decide +kernel)⟩
theorem lw_p51 : lw_okq (⟨"QueryDeskModel", "give", "()V"⟩, 30) := ⟨⟨by decide +kernel, by decide +kernel⟩, List.mem_of_getElem? (i := 775) (by decide +kernel), List.mem_of_getElem? (i := 1045) (by decide +kernel), List.mem_of_getElem? (i := 1046) (by decide +kernel)⟩
def lw_privs_4 : List (MethodName × Nat) := [(⟨"QueryDeskModel", "swapped", "(I)Z"⟩, 30), (⟨"QueryDeskModel", "step", "()V"⟩, 30), (⟨"QueryDeskModel", "passes", "(I)Z"⟩, 30), (⟨"QueryDeskModel", "give", "()V"⟩, 30)]
theorem lw_r4 : ∀ q ∈ lw_privs_4, lw_okq q := List.forall_mem_cons.mpr ⟨lw_p48, List.forall_mem_cons.mpr ⟨lw_p49, List.forall_mem_cons.mpr ⟨lw_p50, List.forall_mem_cons.mpr ⟨lw_p51, fun _ h => absurd h List.not_mem_nil⟩⟩⟩⟩
def lw_privs : List (MethodName × Nat) := lw_privs_1 ++ (lw_privs_2 ++ (lw_privs_3 ++ (lw_privs_4)))
def lw_tbl : List Cond := k2_sels lw_privs ++ tables_1
theorem lw_privs_ok : ∀ q ∈ lw_privs, lw_okq q := by
  show ∀ q ∈ lw_privs_1 ++ (lw_privs_2 ++ (lw_privs_3 ++ (lw_privs_4))), lw_okq q
  exact List.forall_mem_append.mpr ⟨lw_r1, List.forall_mem_append.mpr ⟨lw_r2, List.forall_mem_append.mpr ⟨lw_r3, lw_r4⟩⟩⟩
def RX0 : String := "QueryDesk$Condition"
def TX0 : u_T := fun k => match k with
  | 0 => ("QueryDesk$Condition", "source", "I", false)
  | 1 => ("QueryDesk$Condition", "column", "I", false)
  | 2 => ("QueryDesk$Condition", "operator", "I", false)
  | _ => ("QueryDesk$Condition", "number", "I", false)
def tyX0 : Nat → FieldType := fun k => match k with
  | 0 => .int
  | 1 => .int
  | 2 => .int
  | _ => .int
abbrev wsX00 : List Cond := u_ws RX0 TX0 4
theorem nmX0 : ∀ a, a < 4 → ∀ b, b < 4 → a ≠ b → (TX0 a).2.1 ≠ (TX0 b).2.1 := by decide +kernel
theorem tyX0_ok : ∀ k, k < 4 → parseFieldDescriptor (TX0 k).2.2.1 = some (tyX0 k) := by decide +kernel
abbrev cX0_init : ByteArray := prog_2_method_1_code
def yX0_init : MethodName := ⟨RX0, "<init>", "()V"⟩
abbrev cX0_holds : ByteArray := prog_2_method_2_code
def yX0_holds : MethodName := ⟨RX0, "holds", "(I)Z"⟩
def RX1 : String := "QueryDesk$Join"
def TX1 : u_T := fun k => match k with
  | 0 => ("QueryDesk$Join", "first", "I", false)
  | 1 => ("QueryDesk$Join", "firstColumn", "I", false)
  | 2 => ("QueryDesk$Join", "second", "I", false)
  | _ => ("QueryDesk$Join", "secondColumn", "I", false)
def tyX1 : Nat → FieldType := fun k => match k with
  | 0 => .int
  | 1 => .int
  | 2 => .int
  | _ => .int
abbrev wsX10 : List Cond := u_ws RX1 TX1 4
theorem nmX1 : ∀ a, a < 4 → ∀ b, b < 4 → a ≠ b → (TX1 a).2.1 ≠ (TX1 b).2.1 := by decide +kernel
theorem tyX1_ok : ∀ k, k < 4 → parseFieldDescriptor (TX1 k).2.2.1 = some (tyX1 k) := by decide +kernel
abbrev cX1_init : ByteArray := prog_3_method_1_code
def yX1_init : MethodName := ⟨RX1, "<init>", "()V"⟩
abbrev cX1_ties : ByteArray := prog_3_method_2_code
def yX1_ties : MethodName := ⟨RX1, "ties", "(I)Z"⟩
abbrev cX1_partnerOf : ByteArray := prog_3_method_3_code
def yX1_partnerOf : MethodName := ⟨RX1, "partnerOf", "(I)I"⟩
abbrev cX1_columnOf : ByteArray := prog_3_method_4_code
def yX1_columnOf : MethodName := ⟨RX1, "columnOf", "(I)I"⟩
def RX2 : String := "QueryDesk$Output"
def TX2 : u_T := fun k => match k with
  | 0 => ("QueryDesk$Output", "source", "I", false)
  | _ => ("QueryDesk$Output", "column", "I", false)
def tyX2 : Nat → FieldType := fun k => match k with
  | 0 => .int
  | _ => .int
abbrev wsX20 : List Cond := u_ws RX2 TX2 2
theorem nmX2 : ∀ a, a < 2 → ∀ b, b < 2 → a ≠ b → (TX2 a).2.1 ≠ (TX2 b).2.1 := by decide +kernel
theorem tyX2_ok : ∀ k, k < 2 → parseFieldDescriptor (TX2 k).2.2.1 = some (tyX2 k) := by decide +kernel
abbrev cX2_init : ByteArray := prog_4_method_1_code
def yX2_init : MethodName := ⟨RX2, "<init>", "()V"⟩
def RX3 : String := "QueryDesk$Plan"
def TX3 : u_T := fun k => match k with
  | 0 => ("QueryDesk$Plan", "conditionShares", "[F", true)
  | 1 => ("QueryDesk$Plan", "firstShares", "[F", true)
  | 2 => ("QueryDesk$Plan", "secondShares", "[F", true)
  | 3 => ("QueryDesk$Plan", "order", "[I", true)
  | 4 => ("QueryDesk$Plan", "ways", "[I", true)
  | 5 => ("QueryDesk$Plan", "wayConditions", "[I", true)
  | 6 => ("QueryDesk$Plan", "wayJoins", "[I", true)
  | _ => ("QueryDesk$Plan", "fewestRows", "F", false)
def tyX3 : Nat → FieldType := fun k => match k with
  | 0 => .array .float
  | 1 => .array .float
  | 2 => .array .float
  | 3 => .array .int
  | 4 => .array .int
  | 5 => .array .int
  | 6 => .array .int
  | _ => .float
abbrev wsX30 : List Cond := u_ws RX3 TX3 8
theorem nmX3 : ∀ a, a < 8 → ∀ b, b < 8 → a ≠ b → (TX3 a).2.1 ≠ (TX3 b).2.1 := by decide +kernel
theorem tyX3_ok : ∀ k, k < 8 → parseFieldDescriptor (TX3 k).2.2.1 = some (tyX3 k) := by decide +kernel
abbrev cX3_init : ByteArray := prog_5_method_1_code
def yX3_init : MethodName := ⟨RX3, "<init>", "()V"⟩
abbrev cX3_choose : ByteArray := prog_5_method_2_code
def yX3_choose : MethodName := ⟨RX3, "choose", "(LQueryDesk$Question;)F"⟩
abbrev cX3_tiesBack : ByteArray := prog_5_method_3_code
def yX3_tiesBack : MethodName := ⟨RX3, "tiesBack", "(LQueryDesk$Join;I)Z"⟩
abbrev cX3_isBefore : ByteArray := prog_5_method_4_code
def yX3_isBefore : MethodName := ⟨RX3, "isBefore", "(II)Z"⟩
abbrev cX3_ordersOf : ByteArray := prog_5_method_5_code
def yX3_ordersOf : MethodName := ⟨RX3, "ordersOf", "(I)[I"⟩
abbrev cX3_orderCountOf : ByteArray := prog_5_method_6_code
def yX3_orderCountOf : MethodName := ⟨RX3, "orderCountOf", "(I)I"⟩
abbrev cX3_measureShares : ByteArray := prog_5_method_7_code
def yX3_measureShares : MethodName := ⟨RX3, "measureShares", "(LQueryDesk$Question;)V"⟩
abbrev cX3_shareOf : ByteArray := prog_5_method_8_code
def yX3_shareOf : MethodName := ⟨RX3, "shareOf", "(LQueryDesk$Condition;LQueryDesk$Table;)F"⟩
abbrev cX3_shareOfOneValue : ByteArray := prog_5_method_9_code
def yX3_shareOfOneValue : MethodName := ⟨RX3, "shareOfOneValue", "(LQueryDesk$Table;I)F"⟩
abbrev cX3_shareOfSpan : ByteArray := prog_5_method_10_code
def yX3_shareOfSpan : MethodName := ⟨RX3, "shareOfSpan", "(JLQueryDesk$Table;I)F"⟩
abbrev cX3_joinShare : ByteArray := prog_5_method_11_code
def yX3_joinShare : MethodName := ⟨RX3, "joinShare", "(LQueryDesk$Join;II)F"⟩
abbrev cX3_tryOrder : ByteArray := prog_5_method_12_code
def yX3_tryOrder : MethodName := ⟨RX3, "tryOrder", "(LQueryDesk$Question;[II)F"⟩
abbrev cX3_countBehind : ByteArray := prog_5_method_13_code
def yX3_countBehind : MethodName := ⟨RX3, "countBehind", "(LQueryDesk$Question;IF)F"⟩
abbrev cX3_takeBestWay : ByteArray := prog_5_method_14_code
def yX3_takeBestWay : MethodName := ⟨RX3, "takeBestWay", "(LQueryDesk$Question;I)V"⟩
abbrev cX3_considerCondition : ByteArray := prog_5_method_15_code
def yX3_considerCondition : MethodName := ⟨RX3, "considerCondition", "(LQueryDesk$Question;II)V"⟩
abbrev cX3_considerJoin : ByteArray := prog_5_method_16_code
def yX3_considerJoin : MethodName := ⟨RX3, "considerJoin", "(LQueryDesk$Question;II)V"⟩
abbrev cX3_considerWay : ByteArray := prog_5_method_17_code
def yX3_considerWay : MethodName := ⟨RX3, "considerWay", "(FIIII)V"⟩
abbrev cX3_takeWay : ByteArray := prog_5_method_18_code
def yX3_takeWay : MethodName := ⟨RX3, "takeWay", "(IIII)V"⟩
def RX4 : String := "QueryDesk$Question"
def TX4 : u_T := fun k => match k with
  | 0 => ("QueryDesk$Question", "tables", "[LQueryDesk$Table;", true)
  | 1 => ("QueryDesk$Question", "conditions", "[LQueryDesk$Condition;", true)
  | 2 => ("QueryDesk$Question", "joins", "[LQueryDesk$Join;", true)
  | 3 => ("QueryDesk$Question", "outputs", "[LQueryDesk$Output;", true)
  | 4 => ("QueryDesk$Question", "sources", "I", false)
  | 5 => ("QueryDesk$Question", "conditionCount", "I", false)
  | 6 => ("QueryDesk$Question", "joinCount", "I", false)
  | 7 => ("QueryDesk$Question", "outputCount", "I", false)
  | 8 => ("QueryDesk$Question", "orderOutput", "I", false)
  | 9 => ("QueryDesk$Question", "falling", "Z", false)
  | _ => ("QueryDesk$Question", "limit", "I", false)
def tyX4 : Nat → FieldType := fun k => match k with
  | 0 => .array (.object "QueryDesk$Table")
  | 1 => .array (.object "QueryDesk$Condition")
  | 2 => .array (.object "QueryDesk$Join")
  | 3 => .array (.object "QueryDesk$Output")
  | 4 => .int
  | 5 => .int
  | 6 => .int
  | 7 => .int
  | 8 => .int
  | 9 => .boolean
  | _ => .int
abbrev wsX40 : List Cond := u_ws RX4 TX4 11
theorem nmX4 : ∀ a, a < 11 → ∀ b, b < 11 → a ≠ b → (TX4 a).2.1 ≠ (TX4 b).2.1 := by decide +kernel
theorem tyX4_ok : ∀ k, k < 11 → parseFieldDescriptor (TX4 k).2.2.1 = some (tyX4 k) := by decide +kernel
abbrev cX4_init : ByteArray := prog_6_method_1_code
def yX4_init : MethodName := ⟨RX4, "<init>", "()V"⟩
abbrev cX4_clear : ByteArray := prog_6_method_2_code
def yX4_clear : MethodName := ⟨RX4, "clear", "()V"⟩
abbrev cX4_hasColumn : ByteArray := prog_6_method_3_code
def yX4_hasColumn : MethodName := ⟨RX4, "hasColumn", "(II)Z"⟩
abbrev cX4_addSource : ByteArray := prog_6_method_4_code
def yX4_addSource : MethodName := ⟨RX4, "addSource", "(LQueryDesk$Table;)I"⟩
abbrev cX4_addCondition : ByteArray := prog_6_method_5_code
def yX4_addCondition : MethodName := ⟨RX4, "addCondition", "(IIII)V"⟩
abbrev cX4_addJoin : ByteArray := prog_6_method_6_code
def yX4_addJoin : MethodName := ⟨RX4, "addJoin", "(IIII)V"⟩
abbrev cX4_addOutput : ByteArray := prog_6_method_7_code
def yX4_addOutput : MethodName := ⟨RX4, "addOutput", "(II)I"⟩
abbrev cX4_isOrdered : ByteArray := prog_6_method_8_code
def yX4_isOrdered : MethodName := ⟨RX4, "isOrdered", "()Z"⟩
abbrev cX4_enoughAnswers : ByteArray := prog_6_method_9_code
def yX4_enoughAnswers : MethodName := ⟨RX4, "enoughAnswers", "()I"⟩
def RX5 : String := "QueryDesk$Table"
def TX5 : u_T := fun k => match k with
  | 0 => ("QueryDesk$Table", "numbers", "[I", true)
  | 1 => ("QueryDesk$Table", "cells", "[I", true)
  | 2 => ("QueryDesk$Table", "indices", "[Z", true)
  | 3 => ("QueryDesk$Table", "columns", "I", false)
  | 4 => ("QueryDesk$Table", "rows", "I", false)
  | _ => ("QueryDesk$Table", "numbersGiven", "I", false)
def tyX5 : Nat → FieldType := fun k => match k with
  | 0 => .array .int
  | 1 => .array .int
  | 2 => .array .boolean
  | 3 => .int
  | 4 => .int
  | _ => .int
abbrev wsX50 : List Cond := u_ws RX5 TX5 6
theorem nmX5 : ∀ a, a < 6 → ∀ b, b < 6 → a ≠ b → (TX5 a).2.1 ≠ (TX5 b).2.1 := by decide +kernel
theorem tyX5_ok : ∀ k, k < 6 → parseFieldDescriptor (TX5 k).2.2.1 = some (tyX5 k) := by decide +kernel
abbrev cX5_init : ByteArray := prog_7_method_1_code
def yX5_init : MethodName := ⟨RX5, "<init>", "()V"⟩
abbrev cX5_makeAnew : ByteArray := prog_7_method_2_code
def yX5_makeAnew : MethodName := ⟨RX5, "makeAnew", "(I)V"⟩
abbrev cX5_isFull : ByteArray := prog_7_method_3_code
def yX5_isFull : MethodName := ⟨RX5, "isFull", "()Z"⟩
abbrev cX5_add : ByteArray := prog_7_method_4_code
def yX5_add : MethodName := ⟨RX5, "add", "(IIII)I"⟩
abbrev cX5_remove : ByteArray := prog_7_method_5_code
def yX5_remove : MethodName := ⟨RX5, "remove", "(I)V"⟩
abbrev cX5_placeOf : ByteArray := prog_7_method_6_code
def yX5_placeOf : MethodName := ⟨RX5, "placeOf", "(I)I"⟩
abbrev cX5_hasColumn : ByteArray := prog_7_method_7_code
def yX5_hasColumn : MethodName := ⟨RX5, "hasColumn", "(I)Z"⟩
abbrev cX5_value : ByteArray := prog_7_method_8_code
def yX5_value : MethodName := ⟨RX5, "value", "(II)I"⟩
abbrev cX5_put : ByteArray := prog_7_method_9_code
def yX5_put : MethodName := ⟨RX5, "put", "(III)V"⟩
abbrev cX5_hasIndex : ByteArray := prog_7_method_10_code
def yX5_hasIndex : MethodName := ⟨RX5, "hasIndex", "(II)Z"⟩
abbrev cX5_setIndex : ByteArray := prog_7_method_11_code
def yX5_setIndex : MethodName := ⟨RX5, "setIndex", "(IIZ)V"⟩
abbrev cX5_differentValues : ByteArray := prog_7_method_12_code
def yX5_differentValues : MethodName := ⟨RX5, "differentValues", "(I)I"⟩
abbrev cX5_standsBefore : ByteArray := prog_7_method_13_code
def yX5_standsBefore : MethodName := ⟨RX5, "standsBefore", "(II)Z"⟩
abbrev cX5_least : ByteArray := prog_7_method_14_code
def yX5_least : MethodName := ⟨RX5, "least", "(I)I"⟩
abbrev cX5_greatest : ByteArray := prog_7_method_15_code
def yX5_greatest : MethodName := ⟨RX5, "greatest", "(I)I"⟩
def RX6 : String := "QueryDesk$Work"
def TX6 : u_T := fun k => match k with
  | 0 => ("QueryDesk$Work", "places", "[I", true)
  | 1 => ("QueryDesk$Work", "placeCounts", "[I", true)
  | 2 => ("QueryDesk$Work", "nextPlaces", "[I", true)
  | 3 => ("QueryDesk$Work", "readPlaces", "[I", true)
  | 4 => ("QueryDesk$Work", "found", "[I", true)
  | 5 => ("QueryDesk$Work", "ranks", "[I", true)
  | 6 => ("QueryDesk$Work", "answers", "I", false)
  | 7 => ("QueryDesk$Work", "steps", "I", false)
  | _ => ("QueryDesk$Work", "depth", "I", false)
def tyX6 : Nat → FieldType := fun k => match k with
  | 0 => .array .int
  | 1 => .array .int
  | 2 => .array .int
  | 3 => .array .int
  | 4 => .array .int
  | 5 => .array .int
  | 6 => .int
  | 7 => .int
  | _ => .int
abbrev wsX60 : List Cond := u_ws RX6 TX6 9
theorem nmX6 : ∀ a, a < 9 → ∀ b, b < 9 → a ≠ b → (TX6 a).2.1 ≠ (TX6 b).2.1 := by decide +kernel
theorem tyX6_ok : ∀ k, k < 9 → parseFieldDescriptor (TX6 k).2.2.1 = some (tyX6 k) := by decide +kernel
abbrev cX6_init : ByteArray := prog_8_method_1_code
def yX6_init : MethodName := ⟨RX6, "<init>", "()V"⟩
abbrev cX6_clear : ByteArray := prog_8_method_2_code
def yX6_clear : MethodName := ⟨RX6, "clear", "()V"⟩
abbrev cX6_begin : ByteArray := prog_8_method_3_code
def yX6_begin : MethodName := ⟨RX6, "begin", "(LQueryDesk$Question;LQueryDesk$Plan;)V"⟩
abbrev cX6_isDone : ByteArray := prog_8_method_4_code
def yX6_isDone : MethodName := ⟨RX6, "isDone", "(LQueryDesk$Question;)Z"⟩
abbrev cX6_makeStep : ByteArray := prog_8_method_5_code
def yX6_makeStep : MethodName := ⟨RX6, "makeStep", "(LQueryDesk$Question;LQueryDesk$Plan;)V"⟩
abbrev cX6_valueOf : ByteArray := prog_8_method_6_code
def yX6_valueOf : MethodName := ⟨RX6, "valueOf", "(II)I"⟩
abbrev cX6_leaveFinishedSources : ByteArray := prog_8_method_7_code
def yX6_leaveFinishedSources : MethodName := ⟨RX6, "leaveFinishedSources", "()V"⟩
abbrev cX6_passes : ByteArray := prog_8_method_8_code
def yX6_passes : MethodName := ⟨RX6, "passes", "(LQueryDesk$Question;LQueryDesk$Plan;)Z"⟩
abbrev cX6_readValue : ByteArray := prog_8_method_9_code
def yX6_readValue : MethodName := ⟨RX6, "readValue", "(LQueryDesk$Question;II)I"⟩
abbrev cX6_openSource : ByteArray := prog_8_method_10_code
def yX6_openSource : MethodName := ⟨RX6, "openSource", "(LQueryDesk$Question;LQueryDesk$Plan;I)V"⟩
abbrev cX6_openByCondition : ByteArray := prog_8_method_11_code
def yX6_openByCondition : MethodName := ⟨RX6, "openByCondition", "(LQueryDesk$Table;LQueryDesk$Condition;ZI)V"⟩
abbrev cX6_openByJoin : ByteArray := prog_8_method_12_code
def yX6_openByJoin : MethodName := ⟨RX6, "openByJoin", "(LQueryDesk$Question;LQueryDesk$Join;II)V"⟩
abbrev cX6_addPlace : ByteArray := prog_8_method_13_code
def yX6_addPlace : MethodName := ⟨RX6, "addPlace", "(I)V"⟩
abbrev cX6_sinkLastPlace : ByteArray := prog_8_method_14_code
def yX6_sinkLastPlace : MethodName := ⟨RX6, "sinkLastPlace", "(LQueryDesk$Table;I)V"⟩
abbrev cX6_keepAnswer : ByteArray := prog_8_method_15_code
def yX6_keepAnswer : MethodName := ⟨RX6, "keepAnswer", "(LQueryDesk$Question;)V"⟩
abbrev cX6_goesBefore : ByteArray := prog_8_method_16_code
def yX6_goesBefore : MethodName := ⟨RX6, "goesBefore", "(LQueryDesk$Question;II)Z"⟩
def RX7 : String := "QueryDesk"
def TX7 : u_T := fun k => match k with
  | 0 => ("QueryDesk", "tables", "[LQueryDesk$Table;", true)
  | 1 => ("QueryDesk", "question", "LQueryDesk$Question;", true)
  | 2 => ("QueryDesk", "chosen", "LQueryDesk$Plan;", true)
  | 3 => ("QueryDesk", "work", "LQueryDesk$Work;", true)
  | _ => ("QueryDesk", "state", "I", false)
def tyX7 : Nat → FieldType := fun k => match k with
  | 0 => .array (.object "QueryDesk$Table")
  | 1 => .object "QueryDesk$Question"
  | 2 => .object "QueryDesk$Plan"
  | 3 => .object "QueryDesk$Work"
  | _ => .int
abbrev wsX70 : List Cond := u_ws RX7 TX7 5
theorem nmX7 : ∀ a, a < 5 → ∀ b, b < 5 → a ≠ b → (TX7 a).2.1 ≠ (TX7 b).2.1 := by decide +kernel
theorem tyX7_ok : ∀ k, k < 5 → parseFieldDescriptor (TX7 k).2.2.1 = some (tyX7 k) := by decide +kernel
abbrev cX7_init : ByteArray := prog_1_method_1_code
def yX7_init : MethodName := ⟨RX7, "<init>", "()V"⟩
abbrev cX7_create : ByteArray := prog_1_method_2_code
def yX7_create : MethodName := ⟨RX7, "create", "(II)Z"⟩
abbrev cX7_insert : ByteArray := prog_1_method_3_code
def yX7_insert : MethodName := ⟨RX7, "insert", "(IIIII)I"⟩
abbrev cX7_delete : ByteArray := prog_1_method_4_code
def yX7_delete : MethodName := ⟨RX7, "delete", "(II)V"⟩
abbrev cX7_update : ByteArray := prog_1_method_5_code
def yX7_update : MethodName := ⟨RX7, "update", "(IIII)V"⟩
abbrev cX7_cell : ByteArray := prog_1_method_6_code
def yX7_cell : MethodName := ⟨RX7, "cell", "(III)I"⟩
abbrev cX7_index : ByteArray := prog_1_method_7_code
def yX7_index : MethodName := ⟨RX7, "index", "(III)Z"⟩
abbrev cX7_drop : ByteArray := prog_1_method_8_code
def yX7_drop : MethodName := ⟨RX7, "drop", "(III)Z"⟩
abbrev cX7_ask : ByteArray := prog_1_method_9_code
def yX7_ask : MethodName := ⟨RX7, "ask", "()V"⟩
abbrev cX7_from : ByteArray := prog_1_method_10_code
def yX7_from : MethodName := ⟨RX7, "from", "(I)I"⟩
abbrev cX7_where : ByteArray := prog_1_method_11_code
def yX7_where : MethodName := ⟨RX7, "where", "(IIII)Z"⟩
abbrev cX7_join : ByteArray := prog_1_method_12_code
def yX7_join : MethodName := ⟨RX7, "join", "(IIII)Z"⟩
abbrev cX7_select : ByteArray := prog_1_method_13_code
def yX7_select : MethodName := ⟨RX7, "select", "(II)I"⟩
abbrev cX7_order : ByteArray := prog_1_method_14_code
def yX7_order : MethodName := ⟨RX7, "order", "(IZ)Z"⟩
abbrev cX7_limit : ByteArray := prog_1_method_15_code
def yX7_limit : MethodName := ⟨RX7, "limit", "(I)Z"⟩
abbrev cX7_plan : ByteArray := prog_1_method_16_code
def yX7_plan : MethodName := ⟨RX7, "plan", "()F"⟩
abbrev cX7_explain : ByteArray := prog_1_method_17_code
def yX7_explain : MethodName := ⟨RX7, "explain", "(II)I"⟩
abbrev cX7_run : ByteArray := prog_1_method_18_code
def yX7_run : MethodName := ⟨RX7, "run", "(I)I"⟩
abbrev cX7_look : ByteArray := prog_1_method_19_code
def yX7_look : MethodName := ⟨RX7, "look", "(I)I"⟩
abbrev cX7_answer : ByteArray := prog_1_method_20_code
def yX7_answer : MethodName := ⟨RX7, "answer", "(II)I"⟩
abbrev cX7_hasTable : ByteArray := prog_1_method_21_code
def yX7_hasTable : MethodName := ⟨RX7, "hasTable", "(I)Z"⟩
abbrev cX7_hasRow : ByteArray := prog_1_method_22_code
def yX7_hasRow : MethodName := ⟨RX7, "hasRow", "(II)Z"⟩
abbrev cX7_hasColumn : ByteArray := prog_1_method_23_code
def yX7_hasColumn : MethodName := ⟨RX7, "hasColumn", "(II)Z"⟩
abbrev cX7_isKind : ByteArray := prog_1_method_24_code
def yX7_isKind : MethodName := ⟨RX7, "isKind", "(I)Z"⟩
abbrev cX7_beginQuestion : ByteArray := prog_1_method_25_code
def yX7_beginQuestion : MethodName := ⟨RX7, "beginQuestion", "()V"⟩
abbrev cX7_endQuestion : ByteArray := prog_1_method_26_code
def yX7_endQuestion : MethodName := ⟨RX7, "endQuestion", "()V"⟩
abbrev cX7_givenAnswers : ByteArray := prog_1_method_27_code
def yX7_givenAnswers : MethodName := ⟨RX7, "givenAnswers", "()I"⟩
def RX8 : String := "QueryDeskModel"
def TX8 : u_T := fun k => match k with
  | 0 => ("QueryDeskModel", "thrown", "I", false)
  | 1 => ("QueryDeskModel", "columns", "[I", true)
  | 2 => ("QueryDeskModel", "made", "[I", true)
  | 3 => ("QueryDeskModel", "there", "[Z", true)
  | 4 => ("QueryDeskModel", "cell", "[I", true)
  | 5 => ("QueryDeskModel", "indexed", "[Z", true)
  | 6 => ("QueryDeskModel", "state", "I", false)
  | 7 => ("QueryDeskModel", "sources", "I", false)
  | 8 => ("QueryDeskModel", "source", "[I", true)
  | 9 => ("QueryDeskModel", "conditions", "I", false)
  | 10 => ("QueryDeskModel", "condition", "[I", true)
  | 11 => ("QueryDeskModel", "joins", "I", false)
  | 12 => ("QueryDeskModel", "join", "[I", true)
  | 13 => ("QueryDeskModel", "outputs", "I", false)
  | 14 => ("QueryDeskModel", "output", "[I", true)
  | 15 => ("QueryDeskModel", "sorts", "I", false)
  | 16 => ("QueryDeskModel", "falling", "Z", false)
  | 17 => ("QueryDeskModel", "most", "I", false)
  | 18 => ("QueryDeskModel", "plan", "[I", true)
  | 19 => ("QueryDeskModel", "way", "[I", true)
  | 20 => ("QueryDeskModel", "byCondition", "[I", true)
  | 21 => ("QueryDeskModel", "byJoin", "[I", true)
  | 22 => ("QueryDeskModel", "newWay", "I", false)
  | 23 => ("QueryDeskModel", "newCondition", "I", false)
  | 24 => ("QueryDeskModel", "newJoin", "I", false)
  | 25 => ("QueryDeskModel", "at", "[I", true)
  | 26 => ("QueryDeskModel", "deep", "I", false)
  | 27 => ("QueryDeskModel", "steps", "I", false)
  | 28 => ("QueryDeskModel", "found", "I", false)
  | _ => ("QueryDeskModel", "answers", "[I", true)
def tyX8 : Nat → FieldType := fun k => match k with
  | 0 => .int
  | 1 => .array .int
  | 2 => .array .int
  | 3 => .array .boolean
  | 4 => .array .int
  | 5 => .array .boolean
  | 6 => .int
  | 7 => .int
  | 8 => .array .int
  | 9 => .int
  | 10 => .array .int
  | 11 => .int
  | 12 => .array .int
  | 13 => .int
  | 14 => .array .int
  | 15 => .int
  | 16 => .boolean
  | 17 => .int
  | 18 => .array .int
  | 19 => .array .int
  | 20 => .array .int
  | 21 => .array .int
  | 22 => .int
  | 23 => .int
  | 24 => .int
  | 25 => .array .int
  | 26 => .int
  | 27 => .int
  | 28 => .int
  | _ => .array .int
abbrev wsX80 : List Cond := u_ws RX8 TX8 30
theorem nmX8 : ∀ a, a < 30 → ∀ b, b < 30 → a ≠ b → (TX8 a).2.1 ≠ (TX8 b).2.1 := by decide +kernel
theorem tyX8_ok : ∀ k, k < 30 → parseFieldDescriptor (TX8 k).2.2.1 = some (tyX8 k) := by decide +kernel
abbrev cX8_init : ByteArray := prog_10_method_1_code
def yX8_init : MethodName := ⟨RX8, "<init>", "()V"⟩
abbrev cX8_thrown : ByteArray := prog_10_method_2_code
def yX8_thrown : MethodName := ⟨RX8, "thrown", "()I"⟩
abbrev cX8_in : ByteArray := prog_10_method_3_code
def yX8_in : MethodName := ⟨RX8, "in", "(III)Z"⟩
abbrev cX8_isTable : ByteArray := prog_10_method_4_code
def yX8_isTable : MethodName := ⟨RX8, "isTable", "(I)Z"⟩
abbrev cX8_isRow : ByteArray := prog_10_method_5_code
def yX8_isRow : MethodName := ⟨RX8, "isRow", "(II)Z"⟩
abbrev cX8_isColumn : ByteArray := prog_10_method_6_code
def yX8_isColumn : MethodName := ⟨RX8, "isColumn", "(II)Z"⟩
abbrev cX8_rowsOf : ByteArray := prog_10_method_7_code
def yX8_rowsOf : MethodName := ⟨RX8, "rowsOf", "(I)I"⟩
abbrev cX8_get : ByteArray := prog_10_method_8_code
def yX8_get : MethodName := ⟨RX8, "get", "(III)I"⟩
abbrev cX8_changed : ByteArray := prog_10_method_9_code
def yX8_changed : MethodName := ⟨RX8, "changed", "()V"⟩
abbrev cX8_create : ByteArray := prog_10_method_10_code
def yX8_create : MethodName := ⟨RX8, "create", "(II)Z"⟩
abbrev cX8_insert : ByteArray := prog_10_method_11_code
def yX8_insert : MethodName := ⟨RX8, "insert", "(IIIII)I"⟩
abbrev cX8_delete : ByteArray := prog_10_method_12_code
def yX8_delete : MethodName := ⟨RX8, "delete", "(II)V"⟩
abbrev cX8_update : ByteArray := prog_10_method_13_code
def yX8_update : MethodName := ⟨RX8, "update", "(IIII)V"⟩
abbrev cX8_cell : ByteArray := prog_10_method_14_code
def yX8_cell : MethodName := ⟨RX8, "cell", "(III)I"⟩
abbrev cX8_setIndex : ByteArray := prog_10_method_15_code
def yX8_setIndex : MethodName := ⟨RX8, "setIndex", "(IIIZ)Z"⟩
abbrev cX8_index : ByteArray := prog_10_method_16_code
def yX8_index : MethodName := ⟨RX8, "index", "(III)Z"⟩
abbrev cX8_drop : ByteArray := prog_10_method_17_code
def yX8_drop : MethodName := ⟨RX8, "drop", "(III)Z"⟩
abbrev cX8_empty : ByteArray := prog_10_method_18_code
def yX8_empty : MethodName := ⟨RX8, "empty", "()V"⟩
abbrev cX8_ask : ByteArray := prog_10_method_19_code
def yX8_ask : MethodName := ⟨RX8, "ask", "()V"⟩
abbrev cX8_from : ByteArray := prog_10_method_20_code
def yX8_from : MethodName := ⟨RX8, "from", "(I)I"⟩
abbrev cX8_has : ByteArray := prog_10_method_21_code
def yX8_has : MethodName := ⟨RX8, "has", "(II)Z"⟩
abbrev cX8_where : ByteArray := prog_10_method_22_code
def yX8_where : MethodName := ⟨RX8, "where", "(IIII)Z"⟩
abbrev cX8_join : ByteArray := prog_10_method_23_code
def yX8_join : MethodName := ⟨RX8, "join", "(IIII)Z"⟩
abbrev cX8_select : ByteArray := prog_10_method_24_code
def yX8_select : MethodName := ⟨RX8, "select", "(II)I"⟩
abbrev cX8_order : ByteArray := prog_10_method_25_code
def yX8_order : MethodName := ⟨RX8, "order", "(IZ)Z"⟩
abbrev cX8_limit : ByteArray := prog_10_method_26_code
def yX8_limit : MethodName := ⟨RX8, "limit", "(I)Z"⟩
abbrev cX8_share : ByteArray := prog_10_method_27_code
def yX8_share : MethodName := ⟨RX8, "share", "(IIII)F"⟩
abbrev cX8_sideOf : ByteArray := prog_10_method_28_code
def yX8_sideOf : MethodName := ⟨RX8, "sideOf", "(III)I"⟩
abbrev cX8_bettered : ByteArray := prog_10_method_29_code
def yX8_bettered : MethodName := ⟨RX8, "bettered", "(FFIII)F"⟩
abbrev cX8_fewest : ByteArray := prog_10_method_30_code
def yX8_fewest : MethodName := ⟨RX8, "fewest", "(II)F"⟩
abbrev cX8_lessened : ByteArray := prog_10_method_31_code
def yX8_lessened : MethodName := ⟨RX8, "lessened", "(FII)F"⟩
abbrev cX8_ordered : ByteArray := prog_10_method_32_code
def yX8_ordered : MethodName := ⟨RX8, "ordered", "(II)I"⟩
abbrev cX8_cost : ByteArray := prog_10_method_33_code
def yX8_cost : MethodName := ⟨RX8, "cost", "(I)F"⟩
abbrev cX8_plan : ByteArray := prog_10_method_34_code
def yX8_plan : MethodName := ⟨RX8, "plan", "()F"⟩
abbrev cX8_explain : ByteArray := prog_10_method_35_code
def yX8_explain : MethodName := ⟨RX8, "explain", "(II)I"⟩
abbrev cX8_holds : ByteArray := prog_10_method_36_code
def yX8_holds : MethodName := ⟨RX8, "holds", "(III)Z"⟩
abbrev cX8_rowAt : ByteArray := prog_10_method_37_code
def yX8_rowAt : MethodName := ⟨RX8, "rowAt", "(I)I"⟩
abbrev cX8_wanted : ByteArray := prog_10_method_38_code
def yX8_wanted : MethodName := ⟨RX8, "wanted", "(II)I"⟩
abbrev cX8_following : ByteArray := prog_10_method_39_code
def yX8_following : MethodName := ⟨RX8, "following", "(I)I"⟩
abbrev cX8_before : ByteArray := prog_10_method_40_code
def yX8_before : MethodName := ⟨RX8, "before", "(IIIII)Z"⟩
abbrev cX8_passes : ByteArray := prog_10_method_41_code
def yX8_passes : MethodName := ⟨RX8, "passes", "(I)Z"⟩
abbrev cX8_give : ByteArray := prog_10_method_42_code
def yX8_give : MethodName := ⟨RX8, "give", "()V"⟩
abbrev cX8_swapped : ByteArray := prog_10_method_43_code
def yX8_swapped : MethodName := ⟨RX8, "swapped", "(I)Z"⟩
abbrev cX8_finish : ByteArray := prog_10_method_44_code
def yX8_finish : MethodName := ⟨RX8, "finish", "()V"⟩
abbrev cX8_run : ByteArray := prog_10_method_45_code
def yX8_run : MethodName := ⟨RX8, "run", "(I)I"⟩
abbrev cX8_step : ByteArray := prog_10_method_46_code
def yX8_step : MethodName := ⟨RX8, "step", "()V"⟩
abbrev cX8_look : ByteArray := prog_10_method_47_code
def yX8_look : MethodName := ⟨RX8, "look", "(I)I"⟩
abbrev cX8_answer : ByteArray := prog_10_method_48_code
def yX8_answer : MethodName := ⟨RX8, "answer", "(II)I"⟩
def RJ9 : String := "java/lang/Math"
def TJ9 : u_T := fun k => match k with
  | _ => ("", "", "", false)
def tyJ9 : Nat → FieldType := fun k => match k with
  | _ => .int
abbrev wsJ90 : List Cond := u_ws RJ9 TJ9 0
theorem nmJ9 : ∀ a, a < 0 → ∀ b, b < 0 → a ≠ b → (TJ9 a).2.1 ≠ (TJ9 b).2.1 := by decide +kernel
theorem tyJ9_ok : ∀ k, k < 0 → parseFieldDescriptor (TJ9 k).2.2.1 = some (tyJ9 k) := by decide +kernel
abbrev cJ9_max_7cf53 : ByteArray := prog_14_method_65_code
def yJ9_max_7cf53 : MethodName := ⟨RJ9, "max", "(II)I"⟩
abbrev cJ9_min_7cf53 : ByteArray := prog_14_method_69_code
def yJ9_min_7cf53 : MethodName := ⟨RJ9, "min", "(II)I"⟩
def RJ0 : String := "java/lang/String"
def TJ0 : u_T := fun k => match k with
  | _ => ("", "", "", false)
def tyJ0 : Nat → FieldType := fun k => match k with
  | _ => .int
abbrev wsJ00 : List Cond := u_ws RJ0 TJ0 0
theorem nmJ0 : ∀ a, a < 0 → ∀ b, b < 0 → a ≠ b → (TJ0 a).2.1 ≠ (TJ0 b).2.1 := by decide +kernel
theorem tyJ0_ok : ∀ k, k < 0 → parseFieldDescriptor (TJ0 k).2.2.1 = some (tyJ0 k) := by decide +kernel
def RJ10 : String := "java/lang/System"
def TJ10 : u_T := fun k => match k with
  | _ => ("", "", "", false)
def tyJ10 : Nat → FieldType := fun k => match k with
  | _ => .int
abbrev wsJ100 : List Cond := u_ws RJ10 TJ10 0
theorem nmJ10 : ∀ a, a < 0 → ∀ b, b < 0 → a ≠ b → (TJ10 a).2.1 ≠ (TJ10 b).2.1 := by decide +kernel
theorem tyJ10_ok : ∀ k, k < 0 → parseFieldDescriptor (TJ10 k).2.2.1 = some (tyJ10 k) := by decide +kernel
def RL : String := "QueryDeskLaw"
abbrev cL_insert : ByteArray := method_3_code
def yL_insert : MethodName := ⟨RL, "insert", "(LQueryDesk;IIIII[J)I"⟩
abbrev cL_delete : ByteArray := method_4_code
def yL_delete : MethodName := ⟨RL, "delete", "(LQueryDesk;II)I"⟩
abbrev cL_update : ByteArray := method_5_code
def yL_update : MethodName := ⟨RL, "update", "(LQueryDesk;IIII)I"⟩
abbrev cL_cell : ByteArray := method_6_code
def yL_cell : MethodName := ⟨RL, "cell", "(LQueryDesk;III[J)I"⟩
abbrev cL_plan : ByteArray := method_7_code
def yL_plan : MethodName := ⟨RL, "plan", "(LQueryDesk;[D)I"⟩
abbrev cL_explain : ByteArray := method_8_code
def yL_explain : MethodName := ⟨RL, "explain", "(LQueryDesk;II[J)I"⟩
abbrev cL_answer : ByteArray := method_9_code
def yL_answer : MethodName := ⟨RL, "answer", "(LQueryDesk;II[J)I"⟩
abbrev cL_law : ByteArray := code
def yL_law : MethodName := ⟨RL, "law", "([I)Z"⟩
abbrev vwCl : List vw_C := [(RX0, TX0, 4), (RX1, TX1, 4), (RX2, TX2, 2), (RX3, TX3, 8), (RX4, TX4, 11), (RX5, TX5, 6), (RX6, TX6, 9), (RX7, TX7, 5), (RX8, TX8, 30)]
end
section
/-! ===== THE DESK LAYER: the machine over an abstract heap of numbered cells ===== -/
def dk_tbl : List Cond := lw_tbl.filter (fun w => goodWord w)
theorem dk_goodIn {ws : List Cond} (h : ∀ w ∈ ws, w ∈ dk_tbl) : GoodIn dk_tbl ws := fun w hw => ⟨h w hw, good_of_word (List.mem_filter.mp (h w hw)).2⟩
theorem dk_sub {w : Cond} (h : w ∈ dk_tbl) : w ∈ lw_tbl := (List.mem_filter.mp h).1
/-- the abstract heap: ints, floats, references, longs, doubles of a cell, by slot -/
abbrev dk_H : Type := (Nat → Nat → Int32) × (Nat → Nat → UInt32) × (Nat → Nat → Option Nat) × (Nat → Nat → Int64) × (Nat → Nat → UInt64)
/-- launch, class ids, slots of fields, ids of array classes, the heap before the first cell, old addresses, whether nothing else was made -/
abbrev dk_G : Type := Launch × (Nat → ClassId) × (Nat → Nat → Nat) × (Nat → ClassId) × Heap × (Nat → Nat) × Bool
abbrev dk_H0 (G : dk_G) : Heap := G.2.2.2.2.1
abbrev dk_b (G : dk_G) : Nat := G.2.2.2.2.1.size
abbrev dk_sa (G : dk_G) : Nat → Nat := G.2.2.2.2.2.1
abbrev dk_cT (G : dk_G) : Nat → ClassId := G.2.2.2.1
def dk_rv (G : dk_G) (v : Value) : Value := match v with
  | .ref i => .ref (dk_b G + i)
  | .retAddr j => .ref (dk_sa G j)
  | .int x => .int x
  | .long x => .long x
  | .float x => .float x
  | .double x => .double x
  | .null => .null
theorem dk_rv_cat (G : dk_G) (v : Value) : (dk_rv G v).category = v.category := by cases v <;> rfl
def dk_av (h : dk_H) (kd i k : Nat) : Value := match kd with
  | 0 => .int (h.1 i k)
  | 1 => .float (h.2.1 i k)
  | 2 => va_rf (h.2.2.1 i k)
  | 3 => .long (h.2.2.2.1 i k)
  | _ => .double (h.2.2.2.2 i k)
def dk_up {α : Type} (f : Nat → Nat → α) (i k : Nat) (v : α) : Nat → Nat → α := fun a b => if a = i ∧ b = k then v else f a b
theorem dk_up_same {α : Type} (f : Nat → Nat → α) (i k : Nat) (v : α) : dk_up f i k v i k = v := by simp [dk_up]
theorem dk_up_ne {α : Type} (f : Nat → Nat → α) {i k a b : Nat} (v : α) (h : a ≠ i ∨ b ≠ k) : dk_up f i k v a b = f a b := by
  unfold dk_up
  rw [if_neg (fun q => h.elim (fun z => z q.1) (fun z => z q.2))]
def dk_sI (h : dk_H) (i k : Nat) (x : Int32) : dk_H := (dk_up h.1 i k x, h.2)
def dk_sF (h : dk_H) (i k : Nat) (x : UInt32) : dk_H := (h.1, dk_up h.2.1 i k x, h.2.2)
def dk_sR (h : dk_H) (i k : Nat) (x : Option Nat) : dk_H := (h.1, h.2.1, dk_up h.2.2.1 i k x, h.2.2.2)
def dk_sL (h : dk_H) (i k : Nat) (x : Int64) : dk_H := (h.1, h.2.1, h.2.2.1, dk_up h.2.2.2.1 i k x, h.2.2.2.2)
def dk_sD (h : dk_H) (i k : Nat) (x : UInt64) : dk_H := (h.1, h.2.1, h.2.2.1, h.2.2.2.1, dk_up h.2.2.2.2 i k x)
/-- h' is h but for the slot k of the cell a, where it holds v (read as kind kd) -/
def dk_Up (h h' : dk_H) (kd a k : Nat) (v : Value) : Prop := dk_av h' kd a k = v ∧ ∀ (kd' i j : Nat), (i ≠ a ∨ j ≠ k) → dk_av h' kd' i j = dk_av h kd' i j
theorem dk_upI (h : dk_H) (a k : Nat) (x : Int32) : dk_Up h (dk_sI h a k x) 0 a k (.int x) := by
  refine ⟨by simp [dk_av, dk_sI, dk_up], fun kd' i j hn => ?_⟩
  match kd' with
  | 0 => simp only [dk_av, dk_sI]; rw [dk_up_ne _ _ hn]
  | 1 => rfl
  | 2 => rfl
  | 3 => rfl
  | _ + 4 => rfl
theorem dk_upF (h : dk_H) (a k : Nat) (x : UInt32) : dk_Up h (dk_sF h a k x) 1 a k (.float x) := by
  refine ⟨by simp [dk_av, dk_sF, dk_up], fun kd' i j hn => ?_⟩
  match kd' with
  | 0 => rfl
  | 1 => simp only [dk_av, dk_sF]; rw [dk_up_ne _ _ hn]
  | 2 => rfl
  | 3 => rfl
  | _ + 4 => rfl
theorem dk_upR (h : dk_H) (a k : Nat) (x : Option Nat) : dk_Up h (dk_sR h a k x) 2 a k (va_rf x) := by
  refine ⟨by simp [dk_av, dk_sR, dk_up], fun kd' i j hn => ?_⟩
  match kd' with
  | 0 => rfl
  | 1 => rfl
  | 2 => simp only [dk_av, dk_sR]; rw [dk_up_ne _ _ hn]
  | 3 => rfl
  | _ + 4 => rfl
theorem dk_upL (h : dk_H) (a k : Nat) (x : Int64) : dk_Up h (dk_sL h a k x) 3 a k (.long x) := by
  refine ⟨by simp [dk_av, dk_sL, dk_up], fun kd' i j hn => ?_⟩
  match kd' with
  | 0 => rfl
  | 1 => rfl
  | 2 => rfl
  | 3 => simp only [dk_av, dk_sL]; rw [dk_up_ne _ _ hn]
  | _ + 4 => rfl
theorem dk_upD (h : dk_H) (a k : Nat) (x : UInt64) : dk_Up h (dk_sD h a k x) 4 a k (.double x) := by
  refine ⟨by simp [dk_av, dk_sD, dk_up], fun kd' i j hn => ?_⟩
  match kd' with
  | 0 => rfl
  | 1 => rfl
  | 2 => rfl
  | 3 => rfl
  | _ + 4 => simp only [dk_av, dk_sD]; rw [dk_up_ne _ _ hn]
/-- the kinds of a class's fields: 0 int or boolean, 1 float, 2 reference -/
def dk_ks (ci : Nat) : List Nat := match ci with
  | 0 => [0, 0, 0, 0]
  | 1 => [0, 0, 0, 0]
  | 2 => [0, 0]
  | 3 => [2, 2, 2, 2, 2, 2, 2, 1]
  | 4 => [2, 2, 2, 2, 0, 0, 0, 0, 0, 0, 0]
  | 5 => [2, 2, 2, 0, 0, 0]
  | 6 => [2, 2, 2, 2, 2, 2, 0, 0, 0]
  | 7 => [2, 2, 2, 2, 0]
  | _ => [0, 2, 2, 2, 2, 2, 0, 0, 2, 0, 2, 0, 2, 0, 2, 0, 0, 0, 2, 2, 2, 2, 0, 0, 0, 2, 0, 0, 0, 2]
/-- what the cells are: an object of a class, or an array (its kind, its length) -/
def dk_shapes : List (Nat ⊕ (Nat × Nat)) :=
  [.inl 7, .inr (5, 3),
   .inl 5, .inr (0, 24), .inr (0, 96), .inr (1, 8),
   .inl 5, .inr (0, 24), .inr (0, 96), .inr (1, 8),
   .inl 5, .inr (0, 24), .inr (0, 96), .inr (1, 8),
   .inl 4, .inr (5, 3), .inr (6, 4), .inl 0, .inl 0, .inl 0, .inl 0, .inr (7, 3), .inl 1, .inl 1, .inl 1, .inr (8, 4), .inl 2, .inl 2, .inl 2, .inl 2,
   .inl 3, .inr (2, 4), .inr (2, 3), .inr (2, 3), .inr (0, 3), .inr (0, 3), .inr (0, 3), .inr (0, 3),
   .inl 6, .inr (0, 72), .inr (0, 3), .inr (0, 3), .inr (0, 3), .inr (0, 256), .inr (0, 64),
   .inl 8, .inr (0, 3), .inr (0, 3), .inr (1, 180), .inr (0, 720), .inr (1, 24), .inr (0, 3), .inr (0, 16), .inr (0, 12), .inr (0, 8), .inr (0, 3), .inr (0, 3), .inr (0, 3), .inr (0, 3), .inr (0, 3), .inr (0, 256),
   .inr (3, 1), .inr (4, 1)]
def dk_SH (i : Nat) : Nat ⊕ (Nat × Nat) := dk_shapes.getD i (.inr (0, 0))
def dk_ek (t : Nat) : Nat := match t with
  | 0 => 0
  | 1 => 0
  | 2 => 1
  | 3 => 3
  | 4 => 4
  | _ => 2
def dk_ty (t : Nat) : FieldType := match t with
  | 0 => .int
  | 1 => .boolean
  | 2 => .float
  | 3 => .long
  | 4 => .double
  | 5 => .object RX5
  | 6 => .object RX0
  | 7 => .object RX1
  | _ => .object RX2
def dk_tys (cT : Nat → ClassId) : List (ClassId × FieldType) := (List.range 9).map fun t => (cT t, dk_ty t)
theorem dk_tys_at (cT : Nat → ClassId) {t : Nat} (h : t < 9) : (dk_tys cT)[t]? = some (cT t, dk_ty t) := by
  simp [dk_tys, h]
def dk_at (G : dk_G) (h : dk_H) (H : Heap) (i : Nat) : Prop := match dk_SH i with
  | .inl ci => t_OB (dk_b G + i) (G.2.1 ci) (dk_ks ci).length (G.2.2.1 ci) H (fun k => dk_rv G (dk_av h ((dk_ks ci).getD k 0) i k))
  | .inr x => H[dk_b G + i]? = some (arrV (dk_cT G x.1) x.2 (fun j => dk_rv G (dk_av h (dk_ek x.1) i j)))
def dk_R (G : dk_G) (n : Nat) (h : dk_H) (H : Heap) : Prop := (G.2.2.2.2.2.2 = true → H.size = dk_b G + n) ∧ dk_b G + n ≤ H.size ∧ (∀ i, i < n → dk_at G h H i) ∧ ∀ q : Nat, q < dk_b G → H[q]? = (dk_H0 G)[q]?
theorem dk_at.kept {G : dk_G} {h h' : dk_H} {H H' : Heap} {i : Nat} (hat : dk_at G h H i) (hv : ∀ kd j : Nat, dk_av h' kd i j = dk_av h kd i j) (hq : H'[dk_b G + i]? = H[dk_b G + i]?) : dk_at G h' H' i := by
  unfold dk_at at hat ⊢
  split at hat
  · exact (hat.kept hq).to (fun k _ => by rw [hv])
  · show H'[dk_b G + i]? = _
    rw [hq, hat]
    simp only [hv]
theorem dk_R.set {G : dk_G} {n : Nat} {h h' : dk_H} {H H' : Heap} {kd a k : Nat} {v : Value} (hR : dk_R G n h H) (hup : dk_Up h h' kd a k v) (hz : H'.size = H.size) (ho : ∀ q : Nat, q ≠ dk_b G + a → H'[q]? = H[q]?) (hat : a < n → dk_at G h' H' a) : dk_R G n h' H' := by
  obtain ⟨h1, h2, h3, h4⟩ := hR
  refine ⟨fun z => by rw [hz]; exact h1 z, by rw [hz]; exact h2, fun i hi => ?_, fun q hq => by rw [ho q (by omega)]; exact h4 q hq⟩
  by_cases e : i = a
  · subst e; exact hat hi
  · exact (h3 i hi).kept (fun kd' j => hup.2 kd' i j (Or.inl e)) (ho _ (by omega))
/-- static arrays of Plan: their lengths and contents -/
def dk_sl (j : Nat) : Nat := match j with
  | 0 => 1
  | 1 => 4
  | _ => 18
def dk_sv (j k : Nat) : Int32 := match j with
  | 0 => 0
  | 1 => ([0, 1, 1, 0] : List Int32).getD k 0
  | _ => ([0, 1, 2, 0, 2, 1, 1, 0, 2, 1, 2, 0, 2, 0, 1, 2, 1, 0] : List Int32).getD k 0
def dk_sn (j : Nat) : String := match j with
  | 0 => "ORDERS_OF_ONE"
  | 1 => "ORDERS_OF_TWO"
  | _ => "ORDERS_OF_THREE"
/-- words that are carried beside the tables: nest mates' constructors, arrays of references -/
def dk_K (G : dk_G) (U : State) : Prop := va_K (G.2.1, G.2.2.1) vwCl (dk_tys (dk_cT G)) U ∧
  (∀ j, j < 3 → va_Z RX3 (dk_sn j) "[I" (.ref (dk_sa G j)) (fun q => dk_b G ≤ q) U (dk_H0 G) ∧ va_T .int (dk_sa G j) (dk_sl j) (fun k => .int (dk_sv j k)) (fun q => dk_b G ≤ q) U (dk_H0 G)) ∧
  (va_Nw (.methodLinkNest RX4 23 yX0_init RX7) U ∧ va_Nw (.methodLinkNest RX4 30 yX1_init RX7) U ∧ va_Nw (.methodLinkNest RX4 37 yX2_init RX7) U) ∧
  (va_AO RX5 U ∧ va_AO RX0 U ∧ va_AO RX1 U ∧ va_AO RX2 U)
theorem dk_K.warm {G : dk_G} {s U : State} (hW : s.WarmedH U.vm) (h : dk_K G s) : dk_K G U :=
  ⟨va_K.moved hW.alike h.1, fun j hj => ⟨va_Z.moved hW.alike (h.2.1 j hj).1, va_T.moved hW.alike (h.2.1 j hj).2⟩, ⟨va_Nw.warmM hW h.2.2.1.1, va_Nw.warmM hW h.2.2.1.2.1, va_Nw.warmM hW h.2.2.1.2.2⟩,
   va_AO.moved hW.alike h.2.2.2.1, va_AO.moved hW.alike h.2.2.2.2.1, va_AO.moved hW.alike h.2.2.2.2.2.1, va_AO.moved hW.alike h.2.2.2.2.2.2⟩
theorem dk_K.same {G : dk_G} {s U : State} (hv : s.vm = U.vm) (h : dk_K G s) : dk_K G U := by
  have ha : s.vm.Alike U.vm := by rw [hv]; exact Vm.Alike.refl U.vm
  exact ⟨va_K.moved ha h.1, fun j hj => ⟨va_Z.moved ha (h.2.1 j hj).1, va_T.moved ha (h.2.1 j hj).2⟩, ⟨va_Nw.same rfl hv h.2.2.1.1, va_Nw.same rfl hv h.2.2.1.2.1, va_Nw.same rfl hv h.2.2.1.2.2⟩,
   va_AO.moved ha h.2.2.2.1, va_AO.moved ha h.2.2.2.2.1, va_AO.moved ha h.2.2.2.2.2.1, va_AO.moved ha h.2.2.2.2.2.2⟩
/-- the locals that are known -/
def dk_pr (G : dk_G) : Nat → List (Option Value) → List (Nat × Value)
  | _, [] => []
  | i, none :: L => dk_pr G (i + 1) L
  | i, some v :: L => (i, dk_rv G v) :: dk_pr G (i + 1) L
theorem dk_pr_mem {G : dk_G} : ∀ (L : List (Option Value)) (i : Nat) (q : Nat × Value), q ∈ dk_pr G i L ↔ ∃ (j : Nat) (v : Value), L[j]? = some (some v) ∧ q = (i + j, dk_rv G v)
  | [], i, q => by simp [dk_pr]
  | none :: L, i, q => by
    rw [dk_pr, dk_pr_mem L (i + 1) q]
    constructor
    · rintro ⟨j, v, h1, h2⟩
      exact ⟨j + 1, v, by simpa using h1, by rw [h2]; congr 1; omega⟩
    · rintro ⟨j, v, h1, h2⟩
      cases j with
      | zero => simp at h1
      | succ j => exact ⟨j, v, by simpa using h1, by rw [h2]; congr 1; omega⟩
  | some w :: L, i, q => by
    rw [dk_pr, List.mem_cons, dk_pr_mem L (i + 1) q]
    constructor
    · rintro (h | ⟨j, v, h1, h2⟩)
      · exact ⟨0, w, by simp, by simpa using h⟩
      · exact ⟨j + 1, v, by simpa using h1, by rw [h2]; congr 1; omega⟩
    · rintro ⟨j, v, h1, h2⟩
      cases j with
      | zero =>
        simp at h1
        left; rw [h2, h1]; rfl
      | succ j => exact Or.inr ⟨j, v, by simpa using h1, by rw [h2]; congr 1; omega⟩
theorem dk_pr_at {G : dk_G} {ls : Array Slot} {nL : Nat} {L : List (Option Value)} {i : Nat} {v : Value} (h : lv_has ls nL (dk_pr G 0 L)) (hL : L[i]? = some (some v)) : ls[i]? = some (.val (dk_rv G v)) :=
  h.2.2 (i, dk_rv G v) ((dk_pr_mem L 0 _).mpr ⟨i, v, hL, by simp⟩)
/-- a store at i spoils no wide value before it -/
def dk_ok (L : List (Option Value)) (i : Nat) : Bool := match i with
  | 0 => true
  | j + 1 => match L[j]? with
    | some (some (.long _)) => false
    | some (some (.double _)) => false
    | _ => true
theorem dk_ok_cat {L : List (Option Value)} {i j : Nat} {v : Value} (h : dk_ok L i = true) (hj : L[j]? = some (some v)) (e : j + 1 = i) : v.category ≠ 2 := by
  subst e
  unfold dk_ok at h
  simp only [hj] at h
  cases v <;> simp_all [Value.category]
theorem dk_store1 {G : dk_G} {ls : Array Slot} {nL i : Nat} {L : List (Option Value)} {v : Value} (hok : dk_ok L i = true)
    (h : lv_has ls nL ((i, dk_rv G v) :: (dk_pr G 0 L).filter (fun q => !(q.1 == i) && !(q.1 + 1 == i && q.2.category == 2)))) : lv_has ls nL (dk_pr G 0 (L.set i (some v))) := by
  refine ⟨h.1, h.2.1, fun q hq => ?_⟩
  obtain ⟨j, w, h1, rfl⟩ := (dk_pr_mem _ 0 q).mp hq
  rw [Nat.zero_add]
  by_cases e : j = i
  · subst e
    have hlt : j < L.length := by
      have := (List.getElem?_eq_some_iff.mp h1).1
      simpa using this
    rw [List.getElem?_set_self hlt] at h1
    cases h1
    exact h.2.2 (j, dk_rv G v) List.mem_cons_self
  · rw [List.getElem?_set_ne (Ne.symm e)] at h1
    refine h.2.2 (j, dk_rv G w) (List.mem_cons_of_mem _ (List.mem_filter.mpr ⟨(dk_pr_mem L 0 _).mpr ⟨j, w, h1, by simp⟩, ?_⟩))
    have hc : j + 1 = i → w.category ≠ 2 := fun z => dk_ok_cat hok h1 z
    simp only [Bool.and_eq_true, Bool.not_eq_true', beq_eq_false_iff_ne, Bool.and_eq_false_iff, dk_rv_cat]
    refine ⟨e, ?_⟩
    by_cases z : j + 1 = i
    · exact Or.inr (hc z)
    · exact Or.inl z
theorem dk_store2 {G : dk_G} {ls : Array Slot} {nL i : Nat} {L : List (Option Value)} {v : Value} (hok : dk_ok L i = true)
    (h : lv_has ls nL ((i, dk_rv G v) :: (dk_pr G 0 L).filter (fun q => !(q.1 == i) && (!(q.1 == i + 1) && !(q.1 + 1 == i && q.2.category == 2))))) : lv_has ls nL (dk_pr G 0 ((L.set (i + 1) none).set i (some v))) := by
  refine ⟨h.1, h.2.1, fun q hq => ?_⟩
  obtain ⟨j, w, h1, rfl⟩ := (dk_pr_mem _ 0 q).mp hq
  rw [Nat.zero_add]
  by_cases e : j = i
  · subst e
    have hlt : j < (L.set (j + 1) none).length := by
      have := (List.getElem?_eq_some_iff.mp h1).1
      simpa using this
    rw [List.getElem?_set_self hlt] at h1
    cases h1
    exact h.2.2 (j, dk_rv G v) List.mem_cons_self
  · rw [List.getElem?_set_ne (Ne.symm e)] at h1
    by_cases e2 : j = i + 1
    · subst e2
      have hlt : i + 1 < L.length := by
        have := (List.getElem?_eq_some_iff.mp h1).1
        simpa using this
      rw [List.getElem?_set_self hlt] at h1
      cases h1
    · rw [List.getElem?_set_ne (Ne.symm e2)] at h1
      refine h.2.2 (j, dk_rv G w) (List.mem_cons_of_mem _ (List.mem_filter.mpr ⟨(dk_pr_mem L 0 _).mpr ⟨j, w, h1, by simp⟩, ?_⟩))
      have hc : j + 1 = i → w.category ≠ 2 := fun z => dk_ok_cat hok h1 z
      simp only [Bool.and_eq_true, Bool.not_eq_true', beq_eq_false_iff_ne, Bool.and_eq_false_iff, dk_rv_cat]
      refine ⟨e, e2, ?_⟩
      by_cases z : j + 1 = i
      · exact Or.inr (hc z)
      · exact Or.inl z
/-- where a walk stands: machine, environment, room, start, method, arguments, stack below, code, end, globals -/
abbrev dk_X : Type := Program × Env × Room × State × MethodId × Array Value × List Frame × Method × Code × (State → Prop) × dk_G
def dk_C (X : dk_X) (cc : ByteArray) (own : String) (nL : Nat) (ret : Option FieldType) (rm : Room) (G : dk_G) : Prop := match X with
  | (p, _, R, s, m, args, _, meth, c, _, G') => p.tables.exec = Jvm.exec ∧ c.code = cc ∧ c.maxLocals = nL ∧ s.vm.findClass own = some m.cls ∧ (∀ w ∈ dk_tbl, w.before args s = true) ∧ meth.sig.returnType = ret ∧ meth.locks = false ∧ R = rm ∧ G' = G ∧ dk_K G s
def dk_W (X : dk_X) (pc : Nat) (L : List (Option Value)) (S : List Value) (n : Nat) (h : dk_H) (kc ks : Nat) : Prop := match X with
  | (p, e, R, s, m, args, below, meth, c, Q, G) => ∀ (H : Heap) (locs : List Loc) (ls : Array Slot), dk_R G n h H → (∀ q ∈ locs, dk_b G ≤ q.base) → lv_has ls c.maxLocals (dk_pr G 0 L) → W p G.1 e R s m args below meth c H locs kc ks Q (F0 m pc ls (S.map (dk_rv G)))
/-- a field: the place idx of own's pool names slot k of class ci -/
def dk_F (own : String) (idx ci k : Nat) : Prop := ∃ (Cn : String) (T : u_T), vwCl[ci]? = some (Cn, T, (dk_ks ci).length) ∧ (∀ w ∈ u_ws Cn T (dk_ks ci).length, w ∈ dk_tbl) ∧ k < (dk_ks ci).length ∧ Cond.fieldLink own idx (T k).1 (T k).2.1 (T k).2.2.1 ∈ dk_tbl
/-- names and types of a class -/
def dk_N (ci : Nat) : Prop := ∀ (Cn : String) (T : u_T) (N : Nat), vwCl[ci]? = some (Cn, T, N) → (∃ ty : Nat → FieldType, ∀ k, k < N → parseFieldDescriptor (T k).2.2.1 = some (ty k)) ∧ ∀ a, a < N → ∀ b, b < N → a ≠ b → (T a).2.1 ≠ (T b).2.1
def dk_Fw (ci k : Nat) (ty : FieldType) : Prop := dk_N ci ∧ ∀ (Cn : String) (T : u_T) (N : Nat), vwCl[ci]? = some (Cn, T, N) → (T k).2.2.2 = false ∧ parseFieldDescriptor (T k).2.2.1 = some ty
def dk_Fz (own : String) (ci k : Nat) (ty : FieldType) : Prop := dk_N ci ∧ ∀ (Cn : String) (T : u_T) (N : Nat), vwCl[ci]? = some (Cn, T, N) → (T k).2.2.2 = true ∧ (T k).1 = own ∧ parseFieldDescriptor (T k).2.2.1 = some ty
section DK
variable {X : dk_X} {cc : ByteArray} {own : String} {nL : Nat} {ret : Option FieldType} {rm : Room} {G : dk_G} {pc : Nat} {L : List (Option Value)} {S : List Value} {n : Nat} {h : dk_H} {kc ks : Nat}

theorem dk_iconst (C : dk_C X cc own nL ret rm G) {i : Int} (v : Int32) (d : decode cc pc = .ok (.iconst i, 1)) (hv : Int32.ofInt i = v) (k : dk_W X (pc + 1) L (.int v :: S) n h kc ks) : dk_W X pc L (S) n h kc ks := by
  obtain ⟨p, e, R, s, m, args, below, meth, c, Q, G'⟩ := X
  obtain ⟨hx, hb, -⟩ := C
  exact fun H locs ls hR hf hl => lv_iconst hx hb d hv (k H locs ls hR hf hl)
theorem dk_bipush (C : dk_C X cc own nL ret rm G) {i : Int} (v : Int32) (d : decode cc pc = .ok (.bipush i, 2)) (hv : (Int8.ofInt i).toInt32 = v) (k : dk_W X (pc + 2) L (.int v :: S) n h kc ks) : dk_W X pc L (S) n h kc ks := by
  obtain ⟨p, e, R, s, m, args, below, meth, c, Q, G'⟩ := X
  obtain ⟨hx, hb, -⟩ := C
  exact fun H locs ls hR hf hl => lv_bipush hx hb d hv (k H locs ls hR hf hl)
theorem dk_sipush (C : dk_C X cc own nL ret rm G) {i : Int} (v : Int32) (d : decode cc pc = .ok (.sipush i, 3)) (hv : (Int16.ofInt i).toInt32 = v) (k : dk_W X (pc + 3) L (.int v :: S) n h kc ks) : dk_W X pc L (S) n h kc ks := by
  obtain ⟨p, e, R, s, m, args, below, meth, c, Q, G'⟩ := X
  obtain ⟨hx, hb, -⟩ := C
  exact fun H locs ls hR hf hl => lv_sipush hx hb d hv (k H locs ls hR hf hl)
theorem dk_lconst (C : dk_C X cc own nL ret rm G) {i : Fin 2} (v : Int64) (d : decode cc pc = .ok (.lconst i, 1)) (hv : Int64.ofNat (i : Nat) = v) (k : dk_W X (pc + 1) L (.long v :: S) n h kc ks) : dk_W X pc L (S) n h kc ks := by
  obtain ⟨p, e, R, s, m, args, below, meth, c, Q, G'⟩ := X
  obtain ⟨hx, hb, -⟩ := C
  exact fun H locs ls hR hf hl => lv_lconst hx hb d hv (k H locs ls hR hf hl)
theorem dk_fconst0 (C : dk_C X cc own nL ret rm G)  (d : decode cc pc = .ok (.fconst 0, 1)) (k : dk_W X (pc + 1) L (.float FP.fconst0 :: S) n h kc ks) : dk_W X pc L (S) n h kc ks := by
  obtain ⟨p, e, R, s, m, args, below, meth, c, Q, G'⟩ := X
  obtain ⟨hx, hb, -⟩ := C
  exact fun H locs ls hR hf hl => lv_fconst0 hx hb d (k H locs ls hR hf hl)
theorem dk_fconst1 (C : dk_C X cc own nL ret rm G)  (d : decode cc pc = .ok (.fconst 1, 1)) (k : dk_W X (pc + 1) L (.float FP.fconst1 :: S) n h kc ks) : dk_W X pc L (S) n h kc ks := by
  obtain ⟨p, e, R, s, m, args, below, meth, c, Q, G'⟩ := X
  obtain ⟨hx, hb, -⟩ := C
  exact fun H locs ls hR hf hl => lv_fconst1 hx hb d (k H locs ls hR hf hl)
theorem dk_fconst2 (C : dk_C X cc own nL ret rm G)  (d : decode cc pc = .ok (.fconst 2, 1)) (k : dk_W X (pc + 1) L (.float FP.fconst2 :: S) n h kc ks) : dk_W X pc L (S) n h kc ks := by
  obtain ⟨p, e, R, s, m, args, below, meth, c, Q, G'⟩ := X
  obtain ⟨hx, hb, -⟩ := C
  exact fun H locs ls hR hf hl => lv_fconst2 hx hb d (k H locs ls hR hf hl)
theorem dk_iload_n (C : dk_C X cc own nL ret rm G) {j : Fin 4} {i : Nat} {x : Int32} (d : decode cc pc = .ok (.iload_n j, 1)) (hi : (j : Nat) = i) (hL : L[i]? = some (some (.int x))) (k : dk_W X (pc + 1) L (.int x :: S) n h kc ks) : dk_W X pc L (S) n h kc ks := by
  obtain ⟨p, e, R, s, m, args, below, meth, c, Q, G'⟩ := X
  obtain ⟨hx, hb, -⟩ := C
  exact fun H locs ls hR hf hl => lv_iload_n hx hb d hi (dk_pr_at hl hL) (k H locs ls hR hf hl)
theorem dk_iload (C : dk_C X cc own nL ret rm G) {i : Nat} {x : Int32} (d : decode cc pc = .ok (.iload i, 2)) (hL : L[i]? = some (some (.int x))) (k : dk_W X (pc + 2) L (.int x :: S) n h kc ks) : dk_W X pc L (S) n h kc ks := by
  obtain ⟨p, e, R, s, m, args, below, meth, c, Q, G'⟩ := X
  obtain ⟨hx, hb, -⟩ := C
  exact fun H locs ls hR hf hl => lv_iload hx hb d (dk_pr_at hl hL) (k H locs ls hR hf hl)
theorem dk_lload_n (C : dk_C X cc own nL ret rm G) {j : Fin 4} {i : Nat} {x : Int64} (d : decode cc pc = .ok (.lload_n j, 1)) (hi : (j : Nat) = i) (hL : L[i]? = some (some (.long x))) (k : dk_W X (pc + 1) L (.long x :: S) n h kc ks) : dk_W X pc L (S) n h kc ks := by
  obtain ⟨p, e, R, s, m, args, below, meth, c, Q, G'⟩ := X
  obtain ⟨hx, hb, -⟩ := C
  exact fun H locs ls hR hf hl => lv_lload_n hx hb d hi (dk_pr_at hl hL) (k H locs ls hR hf hl)
theorem dk_lload (C : dk_C X cc own nL ret rm G) {i : Nat} {x : Int64} (d : decode cc pc = .ok (.lload i, 2)) (hL : L[i]? = some (some (.long x))) (k : dk_W X (pc + 2) L (.long x :: S) n h kc ks) : dk_W X pc L (S) n h kc ks := by
  obtain ⟨p, e, R, s, m, args, below, meth, c, Q, G'⟩ := X
  obtain ⟨hx, hb, -⟩ := C
  exact fun H locs ls hR hf hl => lv_lload hx hb d (dk_pr_at hl hL) (k H locs ls hR hf hl)
theorem dk_fload_n (C : dk_C X cc own nL ret rm G) {j : Fin 4} {i : Nat} {x : UInt32} (d : decode cc pc = .ok (.fload_n j, 1)) (hi : (j : Nat) = i) (hL : L[i]? = some (some (.float x))) (k : dk_W X (pc + 1) L (.float x :: S) n h kc ks) : dk_W X pc L (S) n h kc ks := by
  obtain ⟨p, e, R, s, m, args, below, meth, c, Q, G'⟩ := X
  obtain ⟨hx, hb, -⟩ := C
  exact fun H locs ls hR hf hl => lv_fload_n hx hb d hi (dk_pr_at hl hL) (k H locs ls hR hf hl)
theorem dk_fload (C : dk_C X cc own nL ret rm G) {i : Nat} {x : UInt32} (d : decode cc pc = .ok (.fload i, 2)) (hL : L[i]? = some (some (.float x))) (k : dk_W X (pc + 2) L (.float x :: S) n h kc ks) : dk_W X pc L (S) n h kc ks := by
  obtain ⟨p, e, R, s, m, args, below, meth, c, Q, G'⟩ := X
  obtain ⟨hx, hb, -⟩ := C
  exact fun H locs ls hR hf hl => lv_fload hx hb d (dk_pr_at hl hL) (k H locs ls hR hf hl)
theorem dk_aload_n (C : dk_C X cc own nL ret rm G) {j : Fin 4} {i : Nat} {x : Nat} (d : decode cc pc = .ok (.aload_n j, 1)) (hi : (j : Nat) = i) (hL : L[i]? = some (some (.ref x))) (k : dk_W X (pc + 1) L (.ref x :: S) n h kc ks) : dk_W X pc L (S) n h kc ks := by
  obtain ⟨p, e, R, s, m, args, below, meth, c, Q, G'⟩ := X
  obtain ⟨hx, hb, -⟩ := C
  exact fun H locs ls hR hf hl => lv_aload_n hx hb d hi (dk_pr_at hl hL) (k H locs ls hR hf hl)
theorem dk_aload (C : dk_C X cc own nL ret rm G) {i : Nat} {x : Nat} (d : decode cc pc = .ok (.aload i, 2)) (hL : L[i]? = some (some (.ref x))) (k : dk_W X (pc + 2) L (.ref x :: S) n h kc ks) : dk_W X pc L (S) n h kc ks := by
  obtain ⟨p, e, R, s, m, args, below, meth, c, Q, G'⟩ := X
  obtain ⟨hx, hb, -⟩ := C
  exact fun H locs ls hR hf hl => lv_aload hx hb d (dk_pr_at hl hL) (k H locs ls hR hf hl)
theorem dk_rload_n (C : dk_C X cc own nL ret rm G) {j : Fin 4} {i : Nat} {x : Nat} (d : decode cc pc = .ok (.aload_n j, 1)) (hi : (j : Nat) = i) (hL : L[i]? = some (some (.retAddr x))) (k : dk_W X (pc + 1) L (.retAddr x :: S) n h kc ks) : dk_W X pc L (S) n h kc ks := by
  obtain ⟨p, e, R, s, m, args, below, meth, c, Q, G'⟩ := X
  obtain ⟨hx, hb, -⟩ := C
  exact fun H locs ls hR hf hl => lv_aload_n hx hb d hi (dk_pr_at hl hL) (k H locs ls hR hf hl)
theorem dk_rload (C : dk_C X cc own nL ret rm G) {i : Nat} {x : Nat} (d : decode cc pc = .ok (.aload i, 2)) (hL : L[i]? = some (some (.retAddr x))) (k : dk_W X (pc + 2) L (.retAddr x :: S) n h kc ks) : dk_W X pc L (S) n h kc ks := by
  obtain ⟨p, e, R, s, m, args, below, meth, c, Q, G'⟩ := X
  obtain ⟨hx, hb, -⟩ := C
  exact fun H locs ls hR hf hl => lv_aload hx hb d (dk_pr_at hl hL) (k H locs ls hR hf hl)
theorem dk_istore_n (C : dk_C X cc own nL ret rm G) {j : Fin 4} {i : Nat} {x : Int32} (d : decode cc pc = .ok (.istore_n j, 1)) (hi : (j : Nat) = i) (hn : i < nL) (hok : dk_ok L i = true) (k : dk_W X (pc + 1) (L.set i (some (.int x))) S n h kc ks) : dk_W X pc L (.int x :: S) n h kc ks := by
  obtain ⟨p, e, R, s, m, args, below, meth, c, Q, G'⟩ := X
  obtain ⟨hx, hb, hml, -⟩ := C
  exact fun H locs ls hR hf hl => lv_istore_n hx hb d hi hl (by rw [hml]; exact hn) rfl (fun ls' hl' => k H locs ls' hR hf (dk_store1 (v := .int x) hok hl'))
theorem dk_istore (C : dk_C X cc own nL ret rm G) {i : Nat} {x : Int32} (d : decode cc pc = .ok (.istore i, 2)) (hn : i < nL) (hok : dk_ok L i = true) (k : dk_W X (pc + 2) (L.set i (some (.int x))) S n h kc ks) : dk_W X pc L (.int x :: S) n h kc ks := by
  obtain ⟨p, e, R, s, m, args, below, meth, c, Q, G'⟩ := X
  obtain ⟨hx, hb, hml, -⟩ := C
  exact fun H locs ls hR hf hl => lv_istore hx hb d hl (by rw [hml]; exact hn) rfl (fun ls' hl' => k H locs ls' hR hf (dk_store1 (v := .int x) hok hl'))
theorem dk_lstore_n (C : dk_C X cc own nL ret rm G) {j : Fin 4} {i : Nat} {x : Int64} (d : decode cc pc = .ok (.lstore_n j, 1)) (hi : (j : Nat) = i) (hn : i + 1 < nL) (hok : dk_ok L i = true) (k : dk_W X (pc + 1) ((L.set (i + 1) none).set i (some (.long x))) S n h kc ks) : dk_W X pc L (.long x :: S) n h kc ks := by
  obtain ⟨p, e, R, s, m, args, below, meth, c, Q, G'⟩ := X
  obtain ⟨hx, hb, hml, -⟩ := C
  exact fun H locs ls hR hf hl => lv_lstore_n hx hb d hi hl (by rw [hml]; exact hn) rfl (fun ls' hl' => k H locs ls' hR hf (dk_store2 (v := .long x) hok hl'))
theorem dk_lstore (C : dk_C X cc own nL ret rm G) {i : Nat} {x : Int64} (d : decode cc pc = .ok (.lstore i, 2)) (hn : i + 1 < nL) (hok : dk_ok L i = true) (k : dk_W X (pc + 2) ((L.set (i + 1) none).set i (some (.long x))) S n h kc ks) : dk_W X pc L (.long x :: S) n h kc ks := by
  obtain ⟨p, e, R, s, m, args, below, meth, c, Q, G'⟩ := X
  obtain ⟨hx, hb, hml, -⟩ := C
  exact fun H locs ls hR hf hl => lv_lstore hx hb d hl (by rw [hml]; exact hn) rfl (fun ls' hl' => k H locs ls' hR hf (dk_store2 (v := .long x) hok hl'))
theorem dk_fstore_n (C : dk_C X cc own nL ret rm G) {j : Fin 4} {i : Nat} {x : UInt32} (d : decode cc pc = .ok (.fstore_n j, 1)) (hi : (j : Nat) = i) (hn : i < nL) (hok : dk_ok L i = true) (k : dk_W X (pc + 1) (L.set i (some (.float x))) S n h kc ks) : dk_W X pc L (.float x :: S) n h kc ks := by
  obtain ⟨p, e, R, s, m, args, below, meth, c, Q, G'⟩ := X
  obtain ⟨hx, hb, hml, -⟩ := C
  exact fun H locs ls hR hf hl => lv_fstore_n hx hb d hi hl (by rw [hml]; exact hn) rfl (fun ls' hl' => k H locs ls' hR hf (dk_store1 (v := .float x) hok hl'))
theorem dk_fstore (C : dk_C X cc own nL ret rm G) {i : Nat} {x : UInt32} (d : decode cc pc = .ok (.fstore i, 2)) (hn : i < nL) (hok : dk_ok L i = true) (k : dk_W X (pc + 2) (L.set i (some (.float x))) S n h kc ks) : dk_W X pc L (.float x :: S) n h kc ks := by
  obtain ⟨p, e, R, s, m, args, below, meth, c, Q, G'⟩ := X
  obtain ⟨hx, hb, hml, -⟩ := C
  exact fun H locs ls hR hf hl => lv_fstore hx hb d hl (by rw [hml]; exact hn) rfl (fun ls' hl' => k H locs ls' hR hf (dk_store1 (v := .float x) hok hl'))
theorem dk_astore_n (C : dk_C X cc own nL ret rm G) {j : Fin 4} {i : Nat} {x : Nat} (d : decode cc pc = .ok (.astore_n j, 1)) (hi : (j : Nat) = i) (hn : i < nL) (hok : dk_ok L i = true) (k : dk_W X (pc + 1) (L.set i (some (.ref x))) S n h kc ks) : dk_W X pc L (.ref x :: S) n h kc ks := by
  obtain ⟨p, e, R, s, m, args, below, meth, c, Q, G'⟩ := X
  obtain ⟨hx, hb, hml, -⟩ := C
  exact fun H locs ls hR hf hl => lv_astore_n hx hb d hi hl (by rw [hml]; exact hn) rfl (fun ls' hl' => k H locs ls' hR hf (dk_store1 (v := .ref x) hok hl'))
theorem dk_astore (C : dk_C X cc own nL ret rm G) {i : Nat} {x : Nat} (d : decode cc pc = .ok (.astore i, 2)) (hn : i < nL) (hok : dk_ok L i = true) (k : dk_W X (pc + 2) (L.set i (some (.ref x))) S n h kc ks) : dk_W X pc L (.ref x :: S) n h kc ks := by
  obtain ⟨p, e, R, s, m, args, below, meth, c, Q, G'⟩ := X
  obtain ⟨hx, hb, hml, -⟩ := C
  exact fun H locs ls hR hf hl => lv_astore hx hb d hl (by rw [hml]; exact hn) rfl (fun ls' hl' => k H locs ls' hR hf (dk_store1 (v := .ref x) hok hl'))
theorem dk_rstore_n (C : dk_C X cc own nL ret rm G) {j : Fin 4} {i : Nat} {x : Nat} (d : decode cc pc = .ok (.astore_n j, 1)) (hi : (j : Nat) = i) (hn : i < nL) (hok : dk_ok L i = true) (k : dk_W X (pc + 1) (L.set i (some (.retAddr x))) S n h kc ks) : dk_W X pc L (.retAddr x :: S) n h kc ks := by
  obtain ⟨p, e, R, s, m, args, below, meth, c, Q, G'⟩ := X
  obtain ⟨hx, hb, hml, -⟩ := C
  exact fun H locs ls hR hf hl => lv_astore_n hx hb d hi hl (by rw [hml]; exact hn) rfl (fun ls' hl' => k H locs ls' hR hf (dk_store1 (v := .retAddr x) hok hl'))
theorem dk_rstore (C : dk_C X cc own nL ret rm G) {i : Nat} {x : Nat} (d : decode cc pc = .ok (.astore i, 2)) (hn : i < nL) (hok : dk_ok L i = true) (k : dk_W X (pc + 2) (L.set i (some (.retAddr x))) S n h kc ks) : dk_W X pc L (.retAddr x :: S) n h kc ks := by
  obtain ⟨p, e, R, s, m, args, below, meth, c, Q, G'⟩ := X
  obtain ⟨hx, hb, hml, -⟩ := C
  exact fun H locs ls hR hf hl => lv_astore hx hb d hl (by rw [hml]; exact hn) rfl (fun ls' hl' => k H locs ls' hR hf (dk_store1 (v := .retAddr x) hok hl'))
theorem dk_iinc (C : dk_C X cc own nL ret rm G) {i : Nat} {j : Int} {x : Int32} (v : Int32) (d : decode cc pc = .ok (.iinc i j, 3)) (hL : L[i]? = some (some (.int x))) (hv : x + Int32.ofInt j = v) (hn : i < nL) (hok : dk_ok L i = true) (k : dk_W X (pc + 3) (L.set i (some (.int v))) S n h kc ks) : dk_W X pc L S n h kc ks := by
  obtain ⟨p, e, R, s, m, args, below, meth, c, Q, G'⟩ := X
  obtain ⟨hx, hb, hml, -⟩ := C
  intro H locs ls hR hf hl
  obtain ⟨q, hq⟩ := List.getElem?_of_mem ((dk_pr_mem (G := G') L 0 (i, dk_rv G' (.int x))).mpr ⟨i, .int x, hL, by simp⟩)
  exact lv_iinc (v := v) hx hb d hl hq hv (by rw [hml]; exact hn) rfl (fun ls' hl' => k H locs ls' hR hf (dk_store1 (v := .int v) hok hl'))
theorem dk_iadd (C : dk_C X cc own nL ret rm G) {x y : Int32} (d : decode cc pc = .ok (.iadd, 1)) (k : dk_W X (pc + 1) L (.int (x + y) :: S) n h kc ks) : dk_W X pc L (.int y :: .int x :: S) n h kc ks := by
  obtain ⟨p, e, R, s, m, args, below, meth, c, Q, G'⟩ := X
  obtain ⟨hx, hb, -⟩ := C
  exact fun H locs ls hR hf hl => lv_iadd hx hb d (k H locs ls hR hf hl)
theorem dk_isub (C : dk_C X cc own nL ret rm G) {x y : Int32} (d : decode cc pc = .ok (.isub, 1)) (k : dk_W X (pc + 1) L (.int (x - y) :: S) n h kc ks) : dk_W X pc L (.int y :: .int x :: S) n h kc ks := by
  obtain ⟨p, e, R, s, m, args, below, meth, c, Q, G'⟩ := X
  obtain ⟨hx, hb, -⟩ := C
  exact fun H locs ls hR hf hl => lv_isub hx hb d (k H locs ls hR hf hl)
theorem dk_imul (C : dk_C X cc own nL ret rm G) {x y : Int32} (d : decode cc pc = .ok (.imul, 1)) (k : dk_W X (pc + 1) L (.int (x * y) :: S) n h kc ks) : dk_W X pc L (.int y :: .int x :: S) n h kc ks := by
  obtain ⟨p, e, R, s, m, args, below, meth, c, Q, G'⟩ := X
  obtain ⟨hx, hb, -⟩ := C
  exact fun H locs ls hR hf hl => lv_imul hx hb d (k H locs ls hR hf hl)
theorem dk_iand (C : dk_C X cc own nL ret rm G) {x y : Int32} (d : decode cc pc = .ok (.iand, 1)) (k : dk_W X (pc + 1) L (.int (x &&& y) :: S) n h kc ks) : dk_W X pc L (.int y :: .int x :: S) n h kc ks := by
  obtain ⟨p, e, R, s, m, args, below, meth, c, Q, G'⟩ := X
  obtain ⟨hx, hb, -⟩ := C
  exact fun H locs ls hR hf hl => lv_iand hx hb d (k H locs ls hR hf hl)
theorem dk_ior (C : dk_C X cc own nL ret rm G) {x y : Int32} (d : decode cc pc = .ok (.ior, 1)) (k : dk_W X (pc + 1) L (.int (x ||| y) :: S) n h kc ks) : dk_W X pc L (.int y :: .int x :: S) n h kc ks := by
  obtain ⟨p, e, R, s, m, args, below, meth, c, Q, G'⟩ := X
  obtain ⟨hx, hb, -⟩ := C
  exact fun H locs ls hR hf hl => lv_ior hx hb d (k H locs ls hR hf hl)
theorem dk_ishl (C : dk_C X cc own nL ret rm G) {x y : Int32} (d : decode cc pc = .ok (.ishl, 1)) (k : dk_W X (pc + 1) L (.int (x <<< (y &&& 31)) :: S) n h kc ks) : dk_W X pc L (.int y :: .int x :: S) n h kc ks := by
  obtain ⟨p, e, R, s, m, args, below, meth, c, Q, G'⟩ := X
  obtain ⟨hx, hb, -⟩ := C
  exact fun H locs ls hR hf hl => lv_ishl hx hb d (k H locs ls hR hf hl)
theorem dk_ishr (C : dk_C X cc own nL ret rm G) {x y : Int32} (d : decode cc pc = .ok (.ishr, 1)) (k : dk_W X (pc + 1) L (.int (x >>> (y &&& 31)) :: S) n h kc ks) : dk_W X pc L (.int y :: .int x :: S) n h kc ks := by
  obtain ⟨p, e, R, s, m, args, below, meth, c, Q, G'⟩ := X
  obtain ⟨hx, hb, -⟩ := C
  exact fun H locs ls hR hf hl => lv_ishr hx hb d (k H locs ls hR hf hl)
theorem dk_idiv (C : dk_C X cc own nL ret rm G) {x y : Int32} (d : decode cc pc = .ok (.idiv, 1)) (hne : ¬ y = 0) (k : dk_W X (pc + 1) L (.int (x / y) :: S) n h kc ks) : dk_W X pc L (.int y :: .int x :: S) n h kc ks := by
  obtain ⟨p, e, R, s, m, args, below, meth, c, Q, G'⟩ := X
  obtain ⟨hx, hb, -⟩ := C
  exact fun H locs ls hR hf hl => lv_idiv hx hb d hne (k H locs ls hR hf hl)
theorem dk_irem (C : dk_C X cc own nL ret rm G) {x y : Int32} (d : decode cc pc = .ok (.irem, 1)) (hne : ¬ y = 0) (k : dk_W X (pc + 1) L (.int (x - x / y * y) :: S) n h kc ks) : dk_W X pc L (.int y :: .int x :: S) n h kc ks := by
  obtain ⟨p, e, R, s, m, args, below, meth, c, Q, G'⟩ := X
  obtain ⟨hx, hb, -⟩ := C
  exact fun H locs ls hR hf hl => lv_irem hx hb d hne (k H locs ls hR hf hl)
theorem dk_ladd (C : dk_C X cc own nL ret rm G) {x y : Int64} (d : decode cc pc = .ok (.ladd, 1)) (k : dk_W X (pc + 1) L (.long (x + y) :: S) n h kc ks) : dk_W X pc L (.long y :: .long x :: S) n h kc ks := by
  obtain ⟨p, e, R, s, m, args, below, meth, c, Q, G'⟩ := X
  obtain ⟨hx, hb, -⟩ := C
  exact fun H locs ls hR hf hl => lv_ladd hx hb d (k H locs ls hR hf hl)
theorem dk_lsub (C : dk_C X cc own nL ret rm G) {x y : Int64} (d : decode cc pc = .ok (.lsub, 1)) (k : dk_W X (pc + 1) L (.long (x - y) :: S) n h kc ks) : dk_W X pc L (.long y :: .long x :: S) n h kc ks := by
  obtain ⟨p, e, R, s, m, args, below, meth, c, Q, G'⟩ := X
  obtain ⟨hx, hb, -⟩ := C
  exact fun H locs ls hR hf hl => lv_lsub hx hb d (k H locs ls hR hf hl)
theorem dk_fadd (C : dk_C X cc own nL ret rm G) {x y : UInt32} (d : decode cc pc = .ok (.fadd, 1)) (hne : vf_n32 (FP.fadd x y)) (k : dk_W X (pc + 1) L (.float (FP.fadd x y) :: S) n h kc ks) : dk_W X pc L (.float y :: .float x :: S) n h kc ks := by
  obtain ⟨p, e, R, s, m, args, below, meth, c, Q, G'⟩ := X
  obtain ⟨hx, hb, -⟩ := C
  exact fun H locs ls hR hf hl => lv_fadd hx hb d hne (k H locs ls hR hf hl)
theorem dk_fsub (C : dk_C X cc own nL ret rm G) {x y : UInt32} (d : decode cc pc = .ok (.fsub, 1)) (hne : vf_n32 (FP.fsub x y)) (k : dk_W X (pc + 1) L (.float (FP.fsub x y) :: S) n h kc ks) : dk_W X pc L (.float y :: .float x :: S) n h kc ks := by
  obtain ⟨p, e, R, s, m, args, below, meth, c, Q, G'⟩ := X
  obtain ⟨hx, hb, -⟩ := C
  exact fun H locs ls hR hf hl => lv_fsub hx hb d hne (k H locs ls hR hf hl)
theorem dk_fmul (C : dk_C X cc own nL ret rm G) {x y : UInt32} (d : decode cc pc = .ok (.fmul, 1)) (hne : vf_n32 (FP.fmul x y)) (k : dk_W X (pc + 1) L (.float (FP.fmul x y) :: S) n h kc ks) : dk_W X pc L (.float y :: .float x :: S) n h kc ks := by
  obtain ⟨p, e, R, s, m, args, below, meth, c, Q, G'⟩ := X
  obtain ⟨hx, hb, -⟩ := C
  exact fun H locs ls hR hf hl => lv_fmul hx hb d hne (k H locs ls hR hf hl)
theorem dk_fdiv (C : dk_C X cc own nL ret rm G) {x y : UInt32} (d : decode cc pc = .ok (.fdiv, 1)) (hne : vf_n32 (FP.fdiv x y)) (k : dk_W X (pc + 1) L (.float (FP.fdiv x y) :: S) n h kc ks) : dk_W X pc L (.float y :: .float x :: S) n h kc ks := by
  obtain ⟨p, e, R, s, m, args, below, meth, c, Q, G'⟩ := X
  obtain ⟨hx, hb, -⟩ := C
  exact fun H locs ls hR hf hl => lv_fdiv hx hb d hne (k H locs ls hR hf hl)
theorem dk_i2l (C : dk_C X cc own nL ret rm G) {x : Int32} (d : decode cc pc = .ok (.i2l, 1)) (k : dk_W X (pc + 1) L (.long x.toInt64 :: S) n h kc ks) : dk_W X pc L (.int x :: S) n h kc ks := by
  obtain ⟨p, e, R, s, m, args, below, meth, c, Q, G'⟩ := X
  obtain ⟨hx, hb, -⟩ := C
  exact fun H locs ls hR hf hl => lv_i2l hx hb d rfl (k H locs ls hR hf hl)
theorem dk_i2f (C : dk_C X cc own nL ret rm G) {x : Int32} (d : decode cc pc = .ok (.i2f, 1)) (k : dk_W X (pc + 1) L (.float (FP.i2f x) :: S) n h kc ks) : dk_W X pc L (.int x :: S) n h kc ks := by
  obtain ⟨p, e, R, s, m, args, below, meth, c, Q, G'⟩ := X
  obtain ⟨hx, hb, -⟩ := C
  exact fun H locs ls hR hf hl => lv_i2f hx hb d (k H locs ls hR hf hl)
theorem dk_l2f (C : dk_C X cc own nL ret rm G) {x : Int64} (d : decode cc pc = .ok (.l2f, 1)) (k : dk_W X (pc + 1) L (.float (FP.l2f x) :: S) n h kc ks) : dk_W X pc L (.long x :: S) n h kc ks := by
  obtain ⟨p, e, R, s, m, args, below, meth, c, Q, G'⟩ := X
  obtain ⟨hx, hb, -⟩ := C
  exact fun H locs ls hR hf hl => lv_l2f hx hb d (k H locs ls hR hf hl)
theorem dk_f2d (C : dk_C X cc own nL ret rm G) {x : UInt32} (d : decode cc pc = .ok (.f2d, 1)) (hne : vf_n64 (FP.f2d x)) (k : dk_W X (pc + 1) L (.double (FP.f2d x) :: S) n h kc ks) : dk_W X pc L (.float x :: S) n h kc ks := by
  obtain ⟨p, e, R, s, m, args, below, meth, c, Q, G'⟩ := X
  obtain ⟨hx, hb, -⟩ := C
  exact fun H locs ls hR hf hl => lv_f2d hx hb d hne (k H locs ls hR hf hl)
theorem dk_lcmp (C : dk_C X cc own nL ret rm G) {x y : Int64} (d : decode cc pc = .ok (.lcmp, 1)) (k : dk_W X (pc + 1) L (.int (lg_cmp x y) :: S) n h kc ks) : dk_W X pc L (.long y :: .long x :: S) n h kc ks := by
  obtain ⟨p, e, R, s, m, args, below, meth, c, Q, G'⟩ := X
  obtain ⟨hx, hb, -⟩ := C
  exact fun H locs ls hR hf hl => W.lcmp hx hb d (k H locs ls hR hf hl)
theorem dk_fcmp (C : dk_C X cc own nL ret rm G) {x y : UInt32} {op : CmpOp} (d : decode cc pc = .ok (.fcmp op, 1)) (k : dk_W X (pc + 1) L (.int (Op.cmpValue (FP.fcmp x y) op) :: S) n h kc ks) : dk_W X pc L (.float y :: .float x :: S) n h kc ks := by
  obtain ⟨p, e, R, s, m, args, below, meth, c, Q, G'⟩ := X
  obtain ⟨hx, hb, -⟩ := C
  exact fun H locs ls hR hf hl => lv_fcmp hx hb d (k H locs ls hR hf hl)
theorem dk_dcmp (C : dk_C X cc own nL ret rm G) {x y : UInt64} {op : CmpOp} (d : decode cc pc = .ok (.dcmp op, 1)) (k : dk_W X (pc + 1) L (.int (Op.cmpValue (FP.dcmp x y) op) :: S) n h kc ks) : dk_W X pc L (.double y :: .double x :: S) n h kc ks := by
  obtain ⟨p, e, R, s, m, args, below, meth, c, Q, G'⟩ := X
  obtain ⟨hx, hb, -⟩ := C
  exact fun H locs ls hR hf hl => lv_dcmp hx hb d (k H locs ls hR hf hl)
theorem dk_dup (C : dk_C X cc own nL ret rm G) {v : Value} (d : decode cc pc = .ok (.dup, 1)) (hv : v.category = 1) (k : dk_W X (pc + 1) L (v :: v :: S) n h kc ks) : dk_W X pc L (v :: S) n h kc ks := by
  obtain ⟨p, e, R, s, m, args, below, meth, c, Q, G'⟩ := X
  obtain ⟨hx, hb, -⟩ := C
  exact fun H locs ls hR hf hl => lv_dup hx hb d (by rw [dk_rv_cat]; exact hv) (k H locs ls hR hf hl)
theorem dk_dup2 (C : dk_C X cc own nL ret rm G) {v u : Value} (d : decode cc pc = .ok (.dup2, 1)) (hv : v.category = 1) (hu : u.category = 1) (k : dk_W X (pc + 1) L (v :: u :: v :: u :: S) n h kc ks) : dk_W X pc L (v :: u :: S) n h kc ks := by
  obtain ⟨p, e, R, s, m, args, below, meth, c, Q, G'⟩ := X
  obtain ⟨hx, hb, -⟩ := C
  exact fun H locs ls hR hf hl => lv_dup2_11 hx hb d (by rw [dk_rv_cat]; exact hv) (by rw [dk_rv_cat]; exact hu) (k H locs ls hR hf hl)
theorem dk_if_eq (C : dk_C X cc own nL ret rm G) {x : Int32} {off : Int} (tgt : Nat) (d : decode cc pc = .ok (.ifCond .eq off, 3)) (ht : (pc : Int) + off = (tgt : Int)) (kt : x = 0 → dk_W X tgt L S n h kc ks) (kf : ¬ x = 0 → dk_W X (pc + 3) L S n h kc ks) : dk_W X pc L (.int x :: S) n h kc ks := by
  obtain ⟨p, e, R, s, m, args, below, meth, c, Q, G'⟩ := X
  obtain ⟨hx, hb, -⟩ := C
  exact fun H locs ls hR hf hl => lv_if_eq hx hb d ht (fun z => kt z H locs ls hR hf hl) (fun z => kf z H locs ls hR hf hl)
theorem dk_if_ne (C : dk_C X cc own nL ret rm G) {x : Int32} {off : Int} (tgt : Nat) (d : decode cc pc = .ok (.ifCond .ne off, 3)) (ht : (pc : Int) + off = (tgt : Int)) (kt : ¬ x = 0 → dk_W X tgt L S n h kc ks) (kf : x = 0 → dk_W X (pc + 3) L S n h kc ks) : dk_W X pc L (.int x :: S) n h kc ks := by
  obtain ⟨p, e, R, s, m, args, below, meth, c, Q, G'⟩ := X
  obtain ⟨hx, hb, -⟩ := C
  exact fun H locs ls hR hf hl => lv_if_ne hx hb d ht (fun z => kt z H locs ls hR hf hl) (fun z => kf z H locs ls hR hf hl)
theorem dk_if_lt (C : dk_C X cc own nL ret rm G) {x : Int32} {off : Int} (tgt : Nat) (d : decode cc pc = .ok (.ifCond .lt off, 3)) (ht : (pc : Int) + off = (tgt : Int)) (kt : x < 0 → dk_W X tgt L S n h kc ks) (kf : ¬ x < 0 → dk_W X (pc + 3) L S n h kc ks) : dk_W X pc L (.int x :: S) n h kc ks := by
  obtain ⟨p, e, R, s, m, args, below, meth, c, Q, G'⟩ := X
  obtain ⟨hx, hb, -⟩ := C
  exact fun H locs ls hR hf hl => lv_if_lt hx hb d ht (fun z => kt z H locs ls hR hf hl) (fun z => kf z H locs ls hR hf hl)
theorem dk_if_ge (C : dk_C X cc own nL ret rm G) {x : Int32} {off : Int} (tgt : Nat) (d : decode cc pc = .ok (.ifCond .ge off, 3)) (ht : (pc : Int) + off = (tgt : Int)) (kt : 0 ≤ x → dk_W X tgt L S n h kc ks) (kf : ¬ 0 ≤ x → dk_W X (pc + 3) L S n h kc ks) : dk_W X pc L (.int x :: S) n h kc ks := by
  obtain ⟨p, e, R, s, m, args, below, meth, c, Q, G'⟩ := X
  obtain ⟨hx, hb, -⟩ := C
  exact fun H locs ls hR hf hl => lv_if_ge hx hb d ht (fun z => kt z H locs ls hR hf hl) (fun z => kf z H locs ls hR hf hl)
theorem dk_if_gt (C : dk_C X cc own nL ret rm G) {x : Int32} {off : Int} (tgt : Nat) (d : decode cc pc = .ok (.ifCond .gt off, 3)) (ht : (pc : Int) + off = (tgt : Int)) (kt : 0 < x → dk_W X tgt L S n h kc ks) (kf : ¬ 0 < x → dk_W X (pc + 3) L S n h kc ks) : dk_W X pc L (.int x :: S) n h kc ks := by
  obtain ⟨p, e, R, s, m, args, below, meth, c, Q, G'⟩ := X
  obtain ⟨hx, hb, -⟩ := C
  exact fun H locs ls hR hf hl => lv_if_gt hx hb d ht (fun z => kt z H locs ls hR hf hl) (fun z => kf z H locs ls hR hf hl)
theorem dk_if_le (C : dk_C X cc own nL ret rm G) {x : Int32} {off : Int} (tgt : Nat) (d : decode cc pc = .ok (.ifCond .le off, 3)) (ht : (pc : Int) + off = (tgt : Int)) (kt : x ≤ 0 → dk_W X tgt L S n h kc ks) (kf : ¬ x ≤ 0 → dk_W X (pc + 3) L S n h kc ks) : dk_W X pc L (.int x :: S) n h kc ks := by
  obtain ⟨p, e, R, s, m, args, below, meth, c, Q, G'⟩ := X
  obtain ⟨hx, hb, -⟩ := C
  exact fun H locs ls hR hf hl => lv_if_le hx hb d ht (fun z => kt z H locs ls hR hf hl) (fun z => kf z H locs ls hR hf hl)
theorem dk_icmp_eq (C : dk_C X cc own nL ret rm G) {x y : Int32} {off : Int} (tgt : Nat) (d : decode cc pc = .ok (.if_icmp .eq off, 3)) (ht : (pc : Int) + off = (tgt : Int)) (kt : x = y → dk_W X tgt L S n h kc ks) (kf : ¬ x = y → dk_W X (pc + 3) L S n h kc ks) : dk_W X pc L (.int y :: .int x :: S) n h kc ks := by
  obtain ⟨p, e, R, s, m, args, below, meth, c, Q, G'⟩ := X
  obtain ⟨hx, hb, -⟩ := C
  exact fun H locs ls hR hf hl => lv_icmp_eq hx hb d ht (fun z => kt z H locs ls hR hf hl) (fun z => kf z H locs ls hR hf hl)
theorem dk_icmp_ne (C : dk_C X cc own nL ret rm G) {x y : Int32} {off : Int} (tgt : Nat) (d : decode cc pc = .ok (.if_icmp .ne off, 3)) (ht : (pc : Int) + off = (tgt : Int)) (kt : ¬ x = y → dk_W X tgt L S n h kc ks) (kf : x = y → dk_W X (pc + 3) L S n h kc ks) : dk_W X pc L (.int y :: .int x :: S) n h kc ks := by
  obtain ⟨p, e, R, s, m, args, below, meth, c, Q, G'⟩ := X
  obtain ⟨hx, hb, -⟩ := C
  exact fun H locs ls hR hf hl => lv_icmp_ne hx hb d ht (fun z => kt z H locs ls hR hf hl) (fun z => kf z H locs ls hR hf hl)
theorem dk_icmp_lt (C : dk_C X cc own nL ret rm G) {x y : Int32} {off : Int} (tgt : Nat) (d : decode cc pc = .ok (.if_icmp .lt off, 3)) (ht : (pc : Int) + off = (tgt : Int)) (kt : x < y → dk_W X tgt L S n h kc ks) (kf : ¬ x < y → dk_W X (pc + 3) L S n h kc ks) : dk_W X pc L (.int y :: .int x :: S) n h kc ks := by
  obtain ⟨p, e, R, s, m, args, below, meth, c, Q, G'⟩ := X
  obtain ⟨hx, hb, -⟩ := C
  exact fun H locs ls hR hf hl => lv_icmp_lt hx hb d ht (fun z => kt z H locs ls hR hf hl) (fun z => kf z H locs ls hR hf hl)
theorem dk_icmp_ge (C : dk_C X cc own nL ret rm G) {x y : Int32} {off : Int} (tgt : Nat) (d : decode cc pc = .ok (.if_icmp .ge off, 3)) (ht : (pc : Int) + off = (tgt : Int)) (kt : y ≤ x → dk_W X tgt L S n h kc ks) (kf : ¬ y ≤ x → dk_W X (pc + 3) L S n h kc ks) : dk_W X pc L (.int y :: .int x :: S) n h kc ks := by
  obtain ⟨p, e, R, s, m, args, below, meth, c, Q, G'⟩ := X
  obtain ⟨hx, hb, -⟩ := C
  exact fun H locs ls hR hf hl => lv_icmp_ge hx hb d ht (fun z => kt z H locs ls hR hf hl) (fun z => kf z H locs ls hR hf hl)
theorem dk_icmp_gt (C : dk_C X cc own nL ret rm G) {x y : Int32} {off : Int} (tgt : Nat) (d : decode cc pc = .ok (.if_icmp .gt off, 3)) (ht : (pc : Int) + off = (tgt : Int)) (kt : y < x → dk_W X tgt L S n h kc ks) (kf : ¬ y < x → dk_W X (pc + 3) L S n h kc ks) : dk_W X pc L (.int y :: .int x :: S) n h kc ks := by
  obtain ⟨p, e, R, s, m, args, below, meth, c, Q, G'⟩ := X
  obtain ⟨hx, hb, -⟩ := C
  exact fun H locs ls hR hf hl => lv_icmp_gt hx hb d ht (fun z => kt z H locs ls hR hf hl) (fun z => kf z H locs ls hR hf hl)
theorem dk_icmp_le (C : dk_C X cc own nL ret rm G) {x y : Int32} {off : Int} (tgt : Nat) (d : decode cc pc = .ok (.if_icmp .le off, 3)) (ht : (pc : Int) + off = (tgt : Int)) (kt : x ≤ y → dk_W X tgt L S n h kc ks) (kf : ¬ x ≤ y → dk_W X (pc + 3) L S n h kc ks) : dk_W X pc L (.int y :: .int x :: S) n h kc ks := by
  obtain ⟨p, e, R, s, m, args, below, meth, c, Q, G'⟩ := X
  obtain ⟨hx, hb, -⟩ := C
  exact fun H locs ls hR hf hl => lv_icmp_le hx hb d ht (fun z => kt z H locs ls hR hf hl) (fun z => kf z H locs ls hR hf hl)
theorem dk_goto (C : dk_C X cc own nL ret rm G) {off : Int} (tgt : Nat) (d : decode cc pc = .ok (.goto off, 3)) (ht : (pc : Int) + off = (tgt : Int)) (k : dk_W X tgt L S n h kc ks) : dk_W X pc L S n h kc ks := by
  obtain ⟨p, e, R, s, m, args, below, meth, c, Q, G'⟩ := X
  obtain ⟨hx, hb, -⟩ := C
  exact fun H locs ls hR hf hl => lv_goto hx hb d ht (k H locs ls hR hf hl)
theorem dk_tableIn (C : dk_C X cc own nL ret rm G) {dflt lo hi : Int} {offs : Array Int} {len : Nat} {x : Int32} {off : Int} (tgt : Nat) (d : decode cc pc = .ok (.tableswitch dflt lo hi offs, len)) (h1 : ¬ x.toInt < lo) (h2 : ¬ hi < x.toInt) (ho : offs[(x.toInt - lo).toNat]? = some off) (ht : (pc : Int) + off = (tgt : Int)) (k : dk_W X tgt L S n h kc ks) : dk_W X pc L (.int x :: S) n h kc ks := by
  obtain ⟨p, e, R, s, m, args, below, meth, c, Q, G'⟩ := X
  obtain ⟨hx, hb, -⟩ := C
  exact fun H locs ls hR hf hl => lv_tableIn hx hb d h1 h2 ho ht (k H locs ls hR hf hl)
theorem dk_tableOut (C : dk_C X cc own nL ret rm G) {dflt lo hi : Int} {offs : Array Int} {len : Nat} {x : Int32} (tgt : Nat) (d : decode cc pc = .ok (.tableswitch dflt lo hi offs, len)) (h1 : x.toInt < lo ∨ hi < x.toInt) (ht : (pc : Int) + dflt = (tgt : Int)) (k : dk_W X tgt L S n h kc ks) : dk_W X pc L (.int x :: S) n h kc ks := by
  obtain ⟨p, e, R, s, m, args, below, meth, c, Q, G'⟩ := X
  obtain ⟨hx, hb, -⟩ := C
  exact fun H locs ls hR hf hl => lv_tableOut hx hb d h1 ht (k H locs ls hR hf hl)
theorem dk_getf (C : dk_C X cc own nL ret rm G) {idx ci kf a : Nat} (F : dk_F own idx ci kf) (hs : dk_SH a = .inl ci) (ha : a < n) (v : Value) (hv : dk_av h ((dk_ks ci).getD kf 0) a kf = v) (d : decode cc pc = .ok (.getfield idx, 3)) (k : dk_W X (pc + 3) L (v :: S) n h kc ks) : dk_W X pc L (.ref a :: S) n h kc ks := by
  obtain ⟨p, e, R, s, m, args, below, meth, c, Q, G'⟩ := X
  obtain ⟨hx, hb, hml, hown, hts, hr, hlk, hRm, hG, hK⟩ := C
  subst hG
  intro H locs ls hR hf hl
  obtain ⟨Cn, T, hc, hin, hkN, hlink⟩ := F
  have hat := hR.2.2.1 a ha
  unfold dk_at at hat
  rw [hs] at hat
  obtain ⟨cell, q1, q2, q3, q4⟩ := hat
  obtain ⟨hS, hfc, kC, hkC, hkind⟩ := hK.1.1 ci _ hc
  obtain ⟨cf, kf', fi, f, hi, hsl⟩ := hS kf hkN
  refine W.getf (v := dk_rv _ v) hx hb hown (hts _ hlink) hi (u_facts hfc hkC (u_lays hts hin hkN) hi).1 q1 (by rw [q3]; exact fun h => by cases h) ?_ rfl rfl d (k H locs ls hR hf hl)
  rw [hsl, q4 kf hkN]
  show some (dk_rv _ (dk_av h ((dk_ks ci).getD kf 0) a kf)) = _
  rw [hv]
theorem dk_putf (C : dk_C X cc own nL ret rm G) {idx ci kf a : Nat} {ty : FieldType} (F : dk_F own idx ci kf) (Fw : dk_Fw ci kf ty) (hs : dk_SH a = .inl ci) (ha : a < n) {v : Value} (hn : narrow ty (dk_rv G v) = dk_rv G v) (hfit : fits ty (dk_rv G v) = true) (h' : dk_H) (hup : dk_Up h h' ((dk_ks ci).getD kf 0) a kf v) (d : decode cc pc = .ok (.putfield idx, 3)) (k : dk_W X (pc + 3) L S n h' kc ks) : dk_W X pc L (v :: .ref a :: S) n h kc ks := by
  obtain ⟨p, e, R, s, m, args, below, meth, c, Q, G'⟩ := X
  obtain ⟨hx, hb, hml, hown, hts, hr, hlk, hRm, hG, hK⟩ := C
  subst hG
  intro H locs ls hR hf hl
  obtain ⟨Cn, T, hc, hin, hkN, hlink⟩ := F
  obtain ⟨hN, hFw⟩ := Fw
  obtain ⟨hfin, hd⟩ := hFw _ _ _ hc
  obtain ⟨⟨ty0, hty⟩, hnm⟩ := hN _ _ _ hc
  have hap := va_apart (own := own) hts hin ty0 hty hnm hK.1 hc
  have hat := hR.2.2.1 a ha
  unfold dk_at at hat
  rw [hs] at hat
  obtain ⟨cell, q1, q2, q3, q4⟩ := hat
  obtain ⟨hS, hfc, kC, hkC, hkind⟩ := hK.1.1 ci _ hc
  obtain ⟨cf, kf', fi, f, hi, hsl⟩ := hS kf hkN
  have hlay := hts _ (hin _ (u_in_lay hkN))
  unfold u_lay at hlay
  rw [if_neg (by rw [hfin]; decide)] at hlay
  have hst := (u_facts hfc hkC (u_lays hts hin hkN) hi).1
  have h6 := u_store hfc hkC hkind hlay hi hd hn hfit
  refine W.putK hx hb (f := f) ⟨hown, hts _ hlink, ⟨_, _, _, hi⟩, hst⟩ (by rw [q2]; exact h6) q1 q3 (by rw [hsl]; exact k2_hasslot (q4 kf hkN)) rfl rfl d fun H' e1 e2 e3 => ?_
  rw [hsl] at e1 ⊢
  refine k H' _ ls (hR.set hup e2 e3 fun _ => ?_) (fun q hq => ?_) hl
  · unfold dk_at
    rw [hs]
    refine t_OB.to (V := updV (fun k => dk_rv _ (dk_av h ((dk_ks ci).getD k 0) a k)) kf (dk_rv _ v)) ⟨_, e1, q2, q3, t_set q4 hap hkN _⟩ (fun j _ => ?_)
    unfold updV
    by_cases e9 : j = kf
    · subst e9; rw [if_pos rfl, hup.1]
    · rw [if_neg e9, hup.2 _ a j (Or.inr e9)]
  · rcases List.mem_append.mp hq with h1 | h1
    · exact hf q h1
    · rw [List.mem_singleton.mp h1]; exact Nat.le_add_right _ _
theorem dk_putz (C : dk_C X cc own nL ret rm G) (hin2 : X.2.2.2.2.2.2.2.1.name = "<init>") {idx ci kf a : Nat} {ty : FieldType} (F : dk_F own idx ci kf) (Fw : dk_Fz own ci kf ty) (hs : dk_SH a = .inl ci) (ha : a < n) {v : Value} (hn : narrow ty (dk_rv G v) = dk_rv G v) (hfit : fits ty (dk_rv G v) = true) (h' : dk_H) (hup : dk_Up h h' ((dk_ks ci).getD kf 0) a kf v) (d : decode cc pc = .ok (.putfield idx, 3)) (k : dk_W X (pc + 3) L S n h' kc ks) : dk_W X pc L (v :: .ref a :: S) n h kc ks := by
  obtain ⟨p, e, R, s, m, args, below, meth, c, Q, G'⟩ := X
  obtain ⟨hx, hb, hml, hown, hts, hr, hlk, hRm, hG, hK⟩ := C
  subst hG
  intro H locs ls hR hf hl
  obtain ⟨Cn, T, hc, hin, hkN, hlink⟩ := F
  obtain ⟨hN, hFw⟩ := Fw
  obtain ⟨hfin, hdecl, hd⟩ := hFw _ _ _ hc
  obtain ⟨⟨ty0, hty⟩, hnm⟩ := hN _ _ _ hc
  have hap := va_apart (own := own) hts hin ty0 hty hnm hK.1 hc
  have hat := hR.2.2.1 a ha
  unfold dk_at at hat
  rw [hs] at hat
  obtain ⟨cell, q1, q2, q3, q4⟩ := hat
  obtain ⟨hS, hfc, kC, hkC, hkind⟩ := hK.1.1 ci _ hc
  obtain ⟨cf, kf', fi, f, hi, hsl⟩ := hS kf hkN
  have hlay := hts _ (hin _ (u_in_lay hkN))
  unfold u_lay at hlay
  rw [if_pos hfin] at hlay
  have hst := (u_facts hfc hkC (u_lays hts hin hkN) hi).1
  have hcf : m.cls = cf := by
    obtain ⟨_, _, c', _, _, _, -, -, hf', -, -, -, hown2, -⟩ := Cond.laysFinal_spec hlay
    have e1 : c' = cf := by have := hi.symm.trans hf'; simp at this; exact this.1.symm
    rw [hdecl] at hown2
    rw [← e1]; exact Option.some.inj (hown.symm.trans hown2)
  have h6 := u_fits hfc hkC hkind (Or.inr hlay) hi hd hn hfit
  refine W.putFinK hx hb hown (hts _ hlink) hi hst hcf hin2 (by rw [q2]; exact h6) q1 q3 (by rw [hsl]; exact k2_hasslot (q4 kf hkN)) rfl rfl d fun H' e1 e2 e3 => ?_
  rw [hsl] at e1 ⊢
  refine k H' _ ls (hR.set hup e2 e3 fun _ => ?_) (fun q hq => ?_) hl
  · unfold dk_at
    rw [hs]
    refine t_OB.to (V := updV (fun k => dk_rv _ (dk_av h ((dk_ks ci).getD k 0) a k)) kf (dk_rv _ v)) ⟨_, e1, q2, q3, t_set q4 hap hkN _⟩ (fun j _ => ?_)
    unfold updV
    by_cases e9 : j = kf
    · subst e9; rw [if_pos rfl, hup.1]
    · rw [if_neg e9, hup.2 _ a j (Or.inr e9)]
  · rcases List.mem_append.mp hq with h1 | h1
    · exact hf q h1
    · rw [List.mem_singleton.mp h1]; exact Nat.le_add_right _ _
theorem dk_iald (C : dk_C X cc own nL ret rm G) {a N : Nat} {i : Int32} (hs : dk_SH a = .inr (0, N)) (ha : a < n) (hin : vp_in i N) (d : decode cc pc = .ok (.iaload, 1)) (k : dk_W X (pc + 1) L (.int (h.1 a i.toNatClampNeg) :: S) n h kc ks) : dk_W X pc L (.int i :: .ref a :: S) n h kc ks := by
  obtain ⟨p, e, R, s, m, args, below, meth, c, Q, G'⟩ := X
  obtain ⟨hx, hb, hml, hown, hts, hr, hlk, hRm, hG, hK⟩ := C
  subst hG
  intro H locs ls hR hf hl
  have hat := hR.2.2.1 a ha
  unfold dk_at at hat
  rw [hs] at hat
  have hlt : i.toNatClampNeg < N := Nat.not_le.mp fun q => hin (Or.inr q)
  exact W.iald (v := .int (h.1 a i.toNatClampNeg)) hx hb hat ((hK.1.2 0 _ (dk_tys_at _ (by decide))).1 N _) (fun q => by cases q) (by rw [arrV_size]; exact hin) (by rw [arrV_read _ _ hlt]; rfl) rfl rfl d (k H locs ls hR hf hl)
theorem dk_zald (C : dk_C X cc own nL ret rm G) {a N : Nat} {i : Int32} (hs : dk_SH a = .inr (1, N)) (ha : a < n) (hin : vp_in i N) (d : decode cc pc = .ok (.baload, 1)) (k : dk_W X (pc + 1) L (.int (h.1 a i.toNatClampNeg) :: S) n h kc ks) : dk_W X pc L (.int i :: .ref a :: S) n h kc ks := by
  obtain ⟨p, e, R, s, m, args, below, meth, c, Q, G'⟩ := X
  obtain ⟨hx, hb, hml, hown, hts, hr, hlk, hRm, hG, hK⟩ := C
  subst hG
  intro H locs ls hR hf hl
  have hat := hR.2.2.1 a ha
  unfold dk_at at hat
  rw [hs] at hat
  have hlt : i.toNatClampNeg < N := Nat.not_le.mp fun q => hin (Or.inr q)
  exact W.zald (v := .int (h.1 a i.toNatClampNeg)) hx hb hat ((hK.1.2 1 _ (dk_tys_at _ (by decide))).1 N _) (fun q => by cases q) (by rw [arrV_size]; exact hin) (by rw [arrV_read _ _ hlt]; rfl) rfl rfl d (k H locs ls hR hf hl)
theorem dk_fald (C : dk_C X cc own nL ret rm G) {a N : Nat} {i : Int32} (hs : dk_SH a = .inr (2, N)) (ha : a < n) (hin : vp_in i N) (d : decode cc pc = .ok (.faload, 1)) (k : dk_W X (pc + 1) L (.float (h.2.1 a i.toNatClampNeg) :: S) n h kc ks) : dk_W X pc L (.int i :: .ref a :: S) n h kc ks := by
  obtain ⟨p, e, R, s, m, args, below, meth, c, Q, G'⟩ := X
  obtain ⟨hx, hb, hml, hown, hts, hr, hlk, hRm, hG, hK⟩ := C
  subst hG
  intro H locs ls hR hf hl
  have hat := hR.2.2.1 a ha
  unfold dk_at at hat
  rw [hs] at hat
  have hlt : i.toNatClampNeg < N := Nat.not_le.mp fun q => hin (Or.inr q)
  exact W.fald (v := .float (h.2.1 a i.toNatClampNeg)) hx hb hat ((hK.1.2 2 _ (dk_tys_at _ (by decide))).1 N _) (fun q => by cases q) (by rw [arrV_size]; exact hin) (by rw [arrV_read _ _ hlt]; rfl) rfl rfl d (k H locs ls hR hf hl)
theorem dk_lald (C : dk_C X cc own nL ret rm G) {a N : Nat} {i : Int32} (hs : dk_SH a = .inr (3, N)) (ha : a < n) (hin : vp_in i N) (d : decode cc pc = .ok (.laload, 1)) (k : dk_W X (pc + 1) L (.long (h.2.2.2.1 a i.toNatClampNeg) :: S) n h kc ks) : dk_W X pc L (.int i :: .ref a :: S) n h kc ks := by
  obtain ⟨p, e, R, s, m, args, below, meth, c, Q, G'⟩ := X
  obtain ⟨hx, hb, hml, hown, hts, hr, hlk, hRm, hG, hK⟩ := C
  subst hG
  intro H locs ls hR hf hl
  have hat := hR.2.2.1 a ha
  unfold dk_at at hat
  rw [hs] at hat
  have hlt : i.toNatClampNeg < N := Nat.not_le.mp fun q => hin (Or.inr q)
  exact W.lald (v := .long (h.2.2.2.1 a i.toNatClampNeg)) hx hb hat ((hK.1.2 3 _ (dk_tys_at _ (by decide))).1 N _) (fun q => by cases q) (by rw [arrV_size]; exact hin) (by rw [arrV_read _ _ hlt]; rfl) rfl rfl d (k H locs ls hR hf hl)
theorem dk_dald (C : dk_C X cc own nL ret rm G) {a N : Nat} {i : Int32} (hs : dk_SH a = .inr (4, N)) (ha : a < n) (hin : vp_in i N) (d : decode cc pc = .ok (.daload, 1)) (k : dk_W X (pc + 1) L (.double (h.2.2.2.2 a i.toNatClampNeg) :: S) n h kc ks) : dk_W X pc L (.int i :: .ref a :: S) n h kc ks := by
  obtain ⟨p, e, R, s, m, args, below, meth, c, Q, G'⟩ := X
  obtain ⟨hx, hb, hml, hown, hts, hr, hlk, hRm, hG, hK⟩ := C
  subst hG
  intro H locs ls hR hf hl
  have hat := hR.2.2.1 a ha
  unfold dk_at at hat
  rw [hs] at hat
  have hlt : i.toNatClampNeg < N := Nat.not_le.mp fun q => hin (Or.inr q)
  exact W.dald (v := .double (h.2.2.2.2 a i.toNatClampNeg)) hx hb hat ((hK.1.2 4 _ (dk_tys_at _ (by decide))).1 N _) (fun q => by cases q) (by rw [arrV_size]; exact hin) (by rw [arrV_read _ _ hlt]; rfl) rfl rfl d (k H locs ls hR hf hl)
theorem dk_aald (C : dk_C X cc own nL ret rm G) {a N t : Nat} {i : Int32} (hs : dk_SH a = .inr (t, N)) (ht : 5 ≤ t ∧ t < 9) (ha : a < n) (hin : vp_in i N) (v : Value) (hv : va_rf (h.2.2.1 a i.toNatClampNeg) = v) (d : decode cc pc = .ok (.aaload, 1)) (k : dk_W X (pc + 1) L (v :: S) n h kc ks) : dk_W X pc L (.int i :: .ref a :: S) n h kc ks := by
  obtain ⟨p, e, R, s, m, args, below, meth, c, Q, G'⟩ := X
  obtain ⟨hx, hb, hml, hown, hts, hr, hlk, hRm, hG, hK⟩ := C
  subst hG
  intro H locs ls hR hf hl
  have hat := hR.2.2.1 a ha
  unfold dk_at at hat
  rw [hs] at hat
  have hlt : i.toNatClampNeg < N := Nat.not_le.mp fun q => hin (Or.inr q)
  have he : dk_ek t = 2 := by
    obtain ⟨h5, h9⟩ := ht
    rcases (show t = 5 ∨ t = 6 ∨ t = 7 ∨ t = 8 by omega) with rfl | rfl | rfl | rfl <;> rfl
  have hre : (dk_ty t).isReference = true := by
    obtain ⟨h5, h9⟩ := ht
    rcases (show t = 5 ∨ t = 6 ∨ t = 7 ∨ t = 8 by omega) with rfl | rfl | rfl | rfl <;> rfl
  refine W.aald (v := dk_rv _ v) (ty := dk_ty t) hx hb hat ((hK.1.2 t _ (dk_tys_at _ ht.2)).1 N _) hre (fun q => by cases q) (by rw [arrV_size]; exact hin) ?_ rfl rfl d (k H locs ls hR hf hl)
  rw [arrV_read _ _ hlt]
  show some (dk_rv _ (dk_av h (dk_ek t) a i.toNatClampNeg)) = _
  rw [he, ← hv]
  rfl
theorem dk_iast (C : dk_C X cc own nL ret rm G) {a N : Nat} {i : Int32} {x : Int32} (hs : dk_SH a = .inr (0, N)) (ha : a < n) (hin : vp_in i N) (d : decode cc pc = .ok (.iastore, 1)) (k : dk_W X (pc + 1) L S n (dk_sI h a i.toNatClampNeg x) kc ks) : dk_W X pc L (.int x :: .int i :: .ref a :: S) n h kc ks := by
  obtain ⟨p, e, R, s, m, args, below, meth, c, Q, G'⟩ := X
  obtain ⟨hx, hb, hml, hown, hts, hr, hlk, hRm, hG, hK⟩ := C
  subst hG
  intro H locs ls hR hf hl
  have hat := hR.2.2.1 a ha
  unfold dk_at at hat
  rw [hs] at hat
  have hup := dk_upI h a i.toNatClampNeg x
  refine W.iast hx hb hat ((hK.1.2 0 _ (dk_tys_at _ (by decide))).1 N _) (fun q => by cases q) (by rw [arrV_size]; exact hin) rfl rfl d fun H' e1 e2 e3 => ?_
  refine k H' _ ls (hR.set hup e2 e3 fun _ => ?_) (fun q hq => ?_) hl
  · unfold dk_at
    rw [hs]
    show H'[dk_b _ + a]? = _
    rw [e1, arrV_store]
    congr 2
    funext j
    unfold updV
    by_cases e9 : j = i.toNatClampNeg
    · subst e9; rw [if_pos rfl]; show _ = dk_rv _ (dk_av (dk_sI h a _ x) 0 a _); rw [hup.1]; rfl
    · rw [if_neg e9, hup.2 _ a j (Or.inr e9)]
  · rcases List.mem_append.mp hq with h1 | h1
    · exact hf q h1
    · rw [List.mem_singleton.mp h1]; exact Nat.le_add_right _ _
theorem dk_fast (C : dk_C X cc own nL ret rm G) {a N : Nat} {i : Int32} {x : UInt32} (hs : dk_SH a = .inr (2, N)) (ha : a < n) (hin : vp_in i N) (d : decode cc pc = .ok (.fastore, 1)) (k : dk_W X (pc + 1) L S n (dk_sF h a i.toNatClampNeg x) kc ks) : dk_W X pc L (.float x :: .int i :: .ref a :: S) n h kc ks := by
  obtain ⟨p, e, R, s, m, args, below, meth, c, Q, G'⟩ := X
  obtain ⟨hx, hb, hml, hown, hts, hr, hlk, hRm, hG, hK⟩ := C
  subst hG
  intro H locs ls hR hf hl
  have hat := hR.2.2.1 a ha
  unfold dk_at at hat
  rw [hs] at hat
  have hup := dk_upF h a i.toNatClampNeg x
  refine W.fast hx hb hat ((hK.1.2 2 _ (dk_tys_at _ (by decide))).1 N _) (fun q => by cases q) (by rw [arrV_size]; exact hin) rfl rfl d fun H' e1 e2 e3 => ?_
  refine k H' _ ls (hR.set hup e2 e3 fun _ => ?_) (fun q hq => ?_) hl
  · unfold dk_at
    rw [hs]
    show H'[dk_b _ + a]? = _
    rw [e1, arrV_store]
    congr 2
    funext j
    unfold updV
    by_cases e9 : j = i.toNatClampNeg
    · subst e9; rw [if_pos rfl]; show _ = dk_rv _ (dk_av (dk_sF h a _ x) 1 a _); rw [hup.1]; rfl
    · rw [if_neg e9, hup.2 _ a j (Or.inr e9)]
  · rcases List.mem_append.mp hq with h1 | h1
    · exact hf q h1
    · rw [List.mem_singleton.mp h1]; exact Nat.le_add_right _ _
theorem dk_last (C : dk_C X cc own nL ret rm G) {a N : Nat} {i : Int32} {x : Int64} (hs : dk_SH a = .inr (3, N)) (ha : a < n) (hin : vp_in i N) (d : decode cc pc = .ok (.lastore, 1)) (k : dk_W X (pc + 1) L S n (dk_sL h a i.toNatClampNeg x) kc ks) : dk_W X pc L (.long x :: .int i :: .ref a :: S) n h kc ks := by
  obtain ⟨p, e, R, s, m, args, below, meth, c, Q, G'⟩ := X
  obtain ⟨hx, hb, hml, hown, hts, hr, hlk, hRm, hG, hK⟩ := C
  subst hG
  intro H locs ls hR hf hl
  have hat := hR.2.2.1 a ha
  unfold dk_at at hat
  rw [hs] at hat
  have hup := dk_upL h a i.toNatClampNeg x
  refine W.last hx hb hat ((hK.1.2 3 _ (dk_tys_at _ (by decide))).1 N _) (fun q => by cases q) (by rw [arrV_size]; exact hin) rfl rfl d fun H' e1 e2 e3 => ?_
  refine k H' _ ls (hR.set hup e2 e3 fun _ => ?_) (fun q hq => ?_) hl
  · unfold dk_at
    rw [hs]
    show H'[dk_b _ + a]? = _
    rw [e1, arrV_store]
    congr 2
    funext j
    unfold updV
    by_cases e9 : j = i.toNatClampNeg
    · subst e9; rw [if_pos rfl]; show _ = dk_rv _ (dk_av (dk_sL h a _ x) 3 a _); rw [hup.1]; rfl
    · rw [if_neg e9, hup.2 _ a j (Or.inr e9)]
  · rcases List.mem_append.mp hq with h1 | h1
    · exact hf q h1
    · rw [List.mem_singleton.mp h1]; exact Nat.le_add_right _ _
theorem dk_dast (C : dk_C X cc own nL ret rm G) {a N : Nat} {i : Int32} {x : UInt64} (hs : dk_SH a = .inr (4, N)) (ha : a < n) (hin : vp_in i N) (d : decode cc pc = .ok (.dastore, 1)) (k : dk_W X (pc + 1) L S n (dk_sD h a i.toNatClampNeg x) kc ks) : dk_W X pc L (.double x :: .int i :: .ref a :: S) n h kc ks := by
  obtain ⟨p, e, R, s, m, args, below, meth, c, Q, G'⟩ := X
  obtain ⟨hx, hb, hml, hown, hts, hr, hlk, hRm, hG, hK⟩ := C
  subst hG
  intro H locs ls hR hf hl
  have hat := hR.2.2.1 a ha
  unfold dk_at at hat
  rw [hs] at hat
  have hup := dk_upD h a i.toNatClampNeg x
  refine W.dast hx hb hat ((hK.1.2 4 _ (dk_tys_at _ (by decide))).1 N _) (fun q => by cases q) (by rw [arrV_size]; exact hin) rfl rfl d fun H' e1 e2 e3 => ?_
  refine k H' _ ls (hR.set hup e2 e3 fun _ => ?_) (fun q hq => ?_) hl
  · unfold dk_at
    rw [hs]
    show H'[dk_b _ + a]? = _
    rw [e1, arrV_store]
    congr 2
    funext j
    unfold updV
    by_cases e9 : j = i.toNatClampNeg
    · subst e9; rw [if_pos rfl]; show _ = dk_rv _ (dk_av (dk_sD h a _ x) 4 a _); rw [hup.1]; rfl
    · rw [if_neg e9, hup.2 _ a j (Or.inr e9)]
  · rcases List.mem_append.mp hq with h1 | h1
    · exact hf q h1
    · rw [List.mem_singleton.mp h1]; exact Nat.le_add_right _ _
theorem dk_zast (C : dk_C X cc own nL ret rm G) {a N : Nat} {i : Int32} {x : Int32} (hs : dk_SH a = .inr (1, N)) (ha : a < n) (hin : vp_in i N) (hx0 : narrow .boolean (.int x) = .int x) (d : decode cc pc = .ok (.bastore, 1)) (k : dk_W X (pc + 1) L S n (dk_sI h a i.toNatClampNeg x) kc ks) : dk_W X pc L (.int x :: .int i :: .ref a :: S) n h kc ks := by
  obtain ⟨p, e, R, s, m, args, below, meth, c, Q, G'⟩ := X
  obtain ⟨hx, hb, hml, hown, hts, hr, hlk, hRm, hG, hK⟩ := C
  subst hG
  intro H locs ls hR hf hl
  have hat := hR.2.2.1 a ha
  unfold dk_at at hat
  rw [hs] at hat
  have hup := dk_upI h a i.toNatClampNeg x
  refine W.zast hx hb hat ((hK.1.2 1 _ (dk_tys_at _ (by decide))).1 N _) (fun q => by cases q) (by rw [arrV_size]; exact hin) rfl rfl d fun H' e1 e2 e3 => ?_
  rw [hx0] at e1
  refine k H' _ ls (hR.set hup e2 e3 fun _ => ?_) (fun q hq => ?_) hl
  · unfold dk_at
    rw [hs]
    show H'[dk_b _ + a]? = _
    rw [e1, arrV_store]
    congr 2
    funext j
    unfold updV
    by_cases e9 : j = i.toNatClampNeg
    · subst e9; rw [if_pos rfl]; show _ = dk_rv _ (dk_av (dk_sI h a _ x) 0 a _); rw [hup.1]; rfl
    · rw [if_neg e9, hup.2 _ a j (Or.inr e9)]
  · rcases List.mem_append.mp hq with h1 | h1
    · exact hf q h1
    · rw [List.mem_singleton.mp h1]; exact Nat.le_add_right _ _
theorem dk_aast (C : dk_C X cc own nL ret rm G) {a N t v ci : Nat} {i : Int32} {q : vw_C} (hs : dk_SH a = .inr (t, N)) (ht : 5 ≤ t ∧ t < 9) (ha : a < n) (hin : vp_in i N) (hsv : dk_SH v = .inl ci) (hv : v < n) (hc : vwCl[ci]? = some q) (hq : dk_ty t = .object q.1) (d : decode cc pc = .ok (.aastore, 1)) (k : dk_W X (pc + 1) L S n (dk_sR h a i.toNatClampNeg (some v)) kc ks) : dk_W X pc L (.ref v :: .int i :: .ref a :: S) n h kc ks := by
  obtain ⟨p, e, R, s, m, args, below, meth, c, Q, G'⟩ := X
  obtain ⟨hx, hb, hml, hown, hts, hr, hlk, hRm, hG, hK⟩ := C
  subst hG
  intro H locs ls hR hf hl
  have hat := hR.2.2.1 a ha
  unfold dk_at at hat
  rw [hs] at hat
  have hav := hR.2.2.1 v hv
  unfold dk_at at hav
  rw [hsv] at hav
  obtain ⟨cellV, g1, g2, g3, -⟩ := hav
  have hlt : i.toNatClampNeg < N := Nat.not_le.mp fun q => hin (Or.inr q)
  have h0 : ¬ i < 0 := fun q => hin (Or.inl q)
  have hcls := (hK.1.1 ci q hc).2
  have hRA := (hK.1.2 t _ (dk_tys_at _ ht.2)).2
  rw [show (dk_cT _ t, dk_ty t).2 = .object q.1 from hq] at hRA
  obtain ⟨kA, comp, k1, k2, k3, -⟩ := hRA
  have hcomp : comp = _ := Option.some.inj (k3.symm.trans hcls.1)
  subst hcomp
  obtain ⟨kC, hkC, -⟩ := hcls.2
  have he : dk_ek t = 2 := by
    obtain ⟨h5, h9⟩ := ht
    rcases (show t = 5 ∨ t = 6 ∨ t = 7 ∨ t = 8 by omega) with rfl | rfl | rfl | rfl <;> rfl
  have hup := dk_upR h a i.toNatClampNeg (some v)
  refine W.aast hx hb hat (fun q h => by cases h) (fun h => by cases h) k1 k2 rfl hkC ⟨h0, by rw [arrV_size]; exact hlt⟩ g1 (fun q h => by rw [g3] at h; cases h) (by rw [g2]; exact hkC) (by rw [g2]; exact va_assign hcls) rfl rfl d fun H' e1 e2 e3 => ?_
  refine k H' _ ls (hR.set hup e2 e3 fun _ => ?_) (fun q hq => ?_) hl
  · unfold dk_at
    rw [hs]
    show H'[dk_b _ + a]? = _
    rw [e1, arrV_store]
    congr 2
    funext j
    unfold updV
    by_cases e9 : j = i.toNatClampNeg
    · subst e9; rw [if_pos rfl]; show _ = dk_rv _ (dk_av (dk_sR h a _ (some v)) (dk_ek t) a _); rw [he, hup.1]; rfl
    · rw [if_neg e9, hup.2 _ a j (Or.inr e9)]
  · rcases List.mem_append.mp hq with h1 | h1
    · exact hf q h1
    · rw [List.mem_singleton.mp h1]; exact Nat.le_add_right _ _
theorem dk_widen {kc' ks' : Nat} (h1 : kc ≤ kc') (h2 : ks ≤ ks') (k : dk_W X pc L S n h kc' ks') : dk_W X pc L S n h kc ks := by
  obtain ⟨p, e, R, s, m, args, below, meth, c, Q, G'⟩ := X
  exact fun H locs ls hR hf hl => W.widen h1 h2 (k H locs ls hR hf hl)
end DK
end
section
/-! ===== contracts over the desk layer ===== -/
def dk_Qc (G : dk_G) (n' : Nat) (post : Option Value → dk_H → Prop) : Array Value → State → Outcome → State → Prop := fun _ _ o t => ∃ (r : Option Value) (h' : dk_H), o = .returned (r.map (dk_rv G)) ∧ post r h' ∧ dk_R G n' h' t.heap
def dk_Pc (G : dk_G) (as : List Value) (n : Nat) (h : dk_H) : Array Value → State → Prop := va_Pc (as.map (dk_rv G)) (fun U => dk_K G U ∧ dk_R G n h U.heap)
abbrev dk_ws (y : MethodName) (cc : ByteArray) (nL : Nat) (ret : Option FieldType) : List Cond := .code y cc nL ret :: dk_tbl
/-- the contract of y: at these arguments and this heap it returns, and post holds of its answer and of the heap behind it -/
def dk_M (G : dk_G) (y : MethodName) (cc : ByteArray) (nL : Nat) (ret : Option FieldType) (rm : Room) (as : List Value) (n : Nat) (h : dk_H) (n' : Nat) (post : Option Value → dk_H → Prop) : Prop :=
  Met G.1 y (dk_ws y cc nL ret) rm (dk_Pc G as n h) (dk_Qc G n' post) rm.cells rm.slots (fun q => dk_b G ≤ q)
/-- how a walk of y may end -/
def dk_E (X : dk_X) (n' mc ms : Nat) (post : Option Value → dk_H → Prop) : Prop := match X with
  | (p, e, R, s, m, args, below, meth, c, Q, G) => ∀ (H : Heap) (locs : List Loc) (g : JFrame), W p G.1 e R s m args below meth c H locs mc ms (MQ below (dk_Qc G n' post) args s mc ms (fun q => dk_b G ≤ q)) g → W p G.1 e R s m args below meth c H locs mc ms Q g
theorem dk_blind {G : dk_G} {as : List Value} {n : Nat} {h : dk_H} : FrameBlind (dk_Pc G as n h) := fun a U g mk q => ⟨q.1, q.2.1.same rfl, q.2.2⟩
/-- a contract by a walk of its body -/
theorem dk_met {G : dk_G} {y : MethodName} {cc : ByteArray} {nL : Nat} {ret : Option FieldType} {rm : Room} {as : List Value} {n : Nat} {h : dk_H} {n' : Nat} {post : Option Value → dk_H → Prop} (L : List (Option Value)) (hy : plainName y.cls = true) (hL : dk_pr G 0 L = lv_args 0 (as.map (dk_rv G))) (hlen : (lg_sl (as.map (dk_rv G))).length ≤ nL)
    (body : ∀ X : dk_X, dk_C X cc y.cls nL ret rm G → dk_E X n' rm.cells rm.slots post → X.2.2.2.2.2.2.2.1.name = y.name → dk_W X 0 L [] n h 0 0) : dk_M G y cc nL ret rm as n h n' post := by
  refine Met.ofW (cc := cc) (maxL := nL) (ret := ret) hy rfl ?_
  intro p e s m args below meth c s₁ B hml hv
  obtain ⟨hargs, hK, hR⟩ := hv
  have hts : ∀ w ∈ dk_tbl, w.before args s = true := fun w hw => atoms_spec (ws := dk_ws y cc nL ret) B.pre w (List.mem_cons_of_mem _ hw)
  have hb := body (p, e, rm, s, m, args, below, meth, c, MQ below (dk_Qc G n' post) args s rm.cells rm.slots (fun q => dk_b G ≤ q), G)
    ⟨B.exec, B.bytes, hml, findClass_of_methodNamed B.named, hts, B.returns, B.notSynchronized, rfl, rfl, hK⟩ (fun _ _ _ z => z) (name_of_methodNamed B.named B.method).1
  subst hargs
  rw [lg_entry_eq]
  refine hb s.heap [] _ hR (fun q hq => by cases hq) ?_
  have hl := lv_entry (as.map (dk_rv G)) (n := nL) hlen
  rw [hml, hL]
  exact hl
section DKC
variable {X : dk_X} {cc : ByteArray} {own : String} {nL : Nat} {ret : Option FieldType} {rm : Room} {G : dk_G} {pc : Nat} {L : List (Option Value)} {S : List Value} {n : Nat} {h : dk_H} {kc ks : Nat} {n' mc ms : Nat} {post : Option Value → dk_H → Prop}
theorem dk_iret (C : dk_C X cc own nL (some .int) rm G) (E : dk_E X n mc ms post) {v : Int32} (d : decode cc pc = .ok (.ireturn, 1)) (hc : kc ≤ mc) (hs : ks ≤ ms) (hp : post (some (.int v)) h) : dk_W X pc L [.int v] n h kc ks := by
  obtain ⟨p, e, R, s, m, args, below, meth, c, Q, G'⟩ := X
  obtain ⟨hx, hb, hml, hown, hts, hr, hlk, hRm, hG, hK⟩ := C
  subst hG
  exact fun H locs ls hR hf hl => W.widen hc hs (E H locs _ (W.iret hx hb hr (fun t ht _ => ⟨some (.int v), h, rfl, hp, by rw [ht]; exact hR⟩) hf d hlk))
theorem dk_zret (C : dk_C X cc own nL (some .boolean) rm G) (E : dk_E X n mc ms post) {v : Int32} (hv : narrow .boolean (.int v) = .int v) (d : decode cc pc = .ok (.ireturn, 1)) (hc : kc ≤ mc) (hs : ks ≤ ms) (hp : post (some (.int v)) h) : dk_W X pc L [.int v] n h kc ks := by
  obtain ⟨p, e, R, s, m, args, below, meth, c, Q, G'⟩ := X
  obtain ⟨hx, hb, hml, hown, hts, hr, hlk, hRm, hG, hK⟩ := C
  subst hG
  exact fun H locs ls hR hf hl => W.widen hc hs (E H locs _ (W.zret hx hb hr hv (fun t ht _ => ⟨some (.int v), h, rfl, hp, by rw [ht]; exact hR⟩) hf d hlk))
theorem dk_fret (C : dk_C X cc own nL (some .float) rm G) (E : dk_E X n mc ms post) {v : UInt32} (d : decode cc pc = .ok (.freturn, 1)) (hc : kc ≤ mc) (hs : ks ≤ ms) (hp : post (some (.float v)) h) : dk_W X pc L [.float v] n h kc ks := by
  obtain ⟨p, e, R, s, m, args, below, meth, c, Q, G'⟩ := X
  obtain ⟨hx, hb, hml, hown, hts, hr, hlk, hRm, hG, hK⟩ := C
  subst hG
  exact fun H locs ls hR hf hl => W.widen hc hs (E H locs _ (W.fret hx hb hr (fun t ht _ => ⟨some (.float v), h, rfl, hp, by rw [ht]; exact hR⟩) hf d hlk))
theorem dk_vret (C : dk_C X cc own nL none rm G) (E : dk_E X n mc ms post) (d : decode cc pc = .ok (.return_, 1)) (hc : kc ≤ mc) (hs : ks ≤ ms) (hp : post none h) : dk_W X pc L [] n h kc ks := by
  obtain ⟨p, e, R, s, m, args, below, meth, c, Q, G'⟩ := X
  obtain ⟨hx, hb, hml, hown, hts, hr, hlk, hRm, hG, hK⟩ := C
  subst hG
  exact fun H locs ls hR hf hl => W.widen hc hs (E H locs _ (W.vret hx hb hr (fun t ht _ => ⟨none, h, rfl, hp, by rw [ht]; exact hR⟩) hf d hlk))
theorem dk_aret (C : dk_C X cc own nL ret rm G) (E : dk_E X n mc ms post) {rt : FieldType} (hrt : ret = some rt) (hra : (∃ n, rt = .object n) ∨ ∃ t, rt = .array t) {j : Nat} (d : decode cc pc = .ok (.areturn, 1)) (hc : kc ≤ mc) (hs : ks ≤ ms) (hp : post (some (.retAddr j)) h) : dk_W X pc L [.retAddr j] n h kc ks := by
  obtain ⟨p, e, R, s, m, args, below, meth, c, Q, G'⟩ := X
  obtain ⟨hx, hb, hml, hown, hts, hr, hlk, hRm, hG, hK⟩ := C
  subst hG
  exact fun H locs ls hR hf hl => W.widen hc hs (E H locs _ (W.aret hx hb (hr.trans hrt) hra (Or.inr ⟨_, rfl⟩) (fun t ht _ => ⟨some (.retAddr j), h, rfl, hp, by rw [ht]; exact hR⟩) hf d hlk))
def dk_push (r : Option Value) (S : List Value) : List Value := match r with
  | some v => v :: S
  | none => S
theorem dk_push_map (G : dk_G) (r : Option Value) (S : List Value) : (r.map (dk_rv G)).toList ++ S.map (dk_rv G) = (dk_push r S).map (dk_rv G) := by cases r <;> rfl
theorem dk_cats (G : dk_G) (S : List Value) : ((S.map (dk_rv G)).map fun v => v.category).sum = (S.map fun v => v.category).sum := by
  simp only [List.map_map]
  congr 2
  funext v
  exact dk_rv_cat G v
/-- behind a call -/
theorem dk_back {p : Program} {e : Env} {R : Room} {s : State} {m : MethodId} {args : Array Value} {below : List Frame} {meth : Method} {c : Code} {Q : State → Prop} {G : dk_G} {H : Heap} {locs : List Loc} {ls : Array Slot} {st0 : List Value} {a : Array Value}
    (hr : va_Run p G.1 e R s m args below meth c H locs kc ks mc ms (F0 m pc ls st0) (S.map (dk_rv G)) (dk_Qc G n' post a) (fun q => dk_b G ≤ q)) (hf : ∀ q ∈ locs, dk_b G ≤ q.base) (hl : lv_has ls c.maxLocals (dk_pr G 0 L))
    (k : ∀ (r : Option Value) (h' : dk_H), post r h' → dk_W (p, e, R, s, m, args, below, meth, c, Q, G) (pc + 3) L (dk_push r S) n' h' (kc + mc) (ks + ms)) : W p G.1 e R s m args below meth c H locs kc ks Q (F0 m pc ls st0) := by
  intro T hT X
  obtain ⟨v, st₀, t, T', L', h0, X', hL, e1, e2, ⟨r, h', hv, hp, hR'⟩, st⟩ := hr T hT X
  cases hv
  obtain ⟨t2, a1, b1⟩ := k r h' hp T'.heap (locs ++ L') ls (by rw [e1]; exact hR') (fun q hq => by
      rcases List.mem_append.mp hq with h | h
      · exact hf q h
      · exact hL q h) hl T' rfl X'
  refine ⟨t2, st t2 ?_, b1⟩
  rw [dk_push_map]
  exact a1
/-- a method's place in the tables, for a call -/
def dk_LB (own : String) (idx : Nat) (y : MethodName) (cc : ByteArray) (nL : Nat) (ret : Option FieldType) (np : Nat) : Prop :=
  (Cond.methodLink own idx y ∈ dk_tbl ∧ Cond.initialized y.cls ∈ dk_tbl ∧ Cond.code y cc nL ret ∈ dk_tbl) ∧ y.cls ≠ "java/lang/invoke/MethodHandle" ∧ y.cls ≠ "java/lang/invoke/VarHandle" ∧ (parseMethodDescriptor y.desc).map (fun d => d.parameters.length) = some np
def dk_LV (own : String) (idx : Nat) (y : MethodName) (cc : ByteArray) (nL : Nat) (ret : Option FieldType) (np ci : Nat) : Prop :=
  dk_LB own idx y cc nL ret np ∧ (Cond.instanceMethod y ∈ dk_tbl ∧ Cond.selects y.cls y y ∈ dk_tbl) ∧ ∃ q : vw_C, vwCl[ci]? = some q ∧ q.1 = y.cls
def dk_LS (own : String) (idx : Nat) (y : MethodName) (cc : ByteArray) (nL : Nat) (ret : Option FieldType) (np : Nat) : Prop :=
  dk_LB own idx y cc nL ret np ∧ Cond.static y ∈ dk_tbl
def dk_LI (own : String) (idx : Nat) (y : MethodName) (cc : ByteArray) (nL : Nat) (np : Nat) : Prop :=
  dk_LB own idx y cc nL none np ∧ Cond.instanceMethod y ∈ dk_tbl ∧ y.name = "<init>"
theorem dk_lenR {G : dk_G} {as : List Value} {np : Nat} (h : as.length = np) : (as.map (dk_rv G)).length = np := by rw [List.length_map]; exact h
theorem dk_callV (C : dk_C X cc own nL ret rm G) {y : MethodName} {cc' : ByteArray} {nL' : Nat} {ret' : Option FieldType} {rm' : Room} {a : Nat} {as : List Value} {St : List Value} {idx np ci : Nat}
    (K : dk_LV own idx y cc' nL' ret' np ci) (M : dk_M G y cc' nL' ret' rm' (.ref a :: as) n h n' post) (hs : dk_SH a = .inl ci) (ha : a < n) (hst : St = as.reverse ++ .ref a :: S) (hnp : as.length = np) (hw : (S.map fun v => v.category).sum ≤ 8)
    (hroom : rm'.frames + 1 ≤ rm.frames ∧ 8 + (nL' + 11) + rm'.locals ≤ rm.locals) (hcell : kc + rm'.cells ≤ rm.cells ∧ ks + rm'.slots ≤ rm.slots) (d : decode cc pc = .ok (.invokevirtual idx, 3))
    (k : ∀ (r : Option Value) (h' : dk_H), post r h' → dk_W X (pc + 3) L (dk_push r S) n' h' (kc + rm'.cells) (ks + rm'.slots)) : dk_W X pc L St n h kc ks := by
  obtain ⟨p, e, R, s, m, args, below, meth, c, Q, G'⟩ := X
  obtain ⟨hx, hb, hml, hown, hts, hr, hlk, hRm, hG, hK⟩ := C
  subst hG hst hRm
  intro H locs ls hR hf hl
  obtain ⟨⟨⟨k1, k2, k3⟩, k4, k5, k6⟩, ⟨k7, k8⟩, q, hq, hqn⟩ := K
  have hat := hR.2.2.1 a ha
  unfold dk_at at hat
  rw [hs] at hat
  obtain ⟨cellB, g1, g2, g3, -⟩ := hat
  have hfc := (hK.1.1 ci q hq).2.1
  rw [hqn] at hfc
  refine dk_back (va_runV (As := as.map (dk_rv _)) (C := y.cls) ⟨hx, hb, hml, hown, hts⟩ M (cwV np hts (dk_goodIn ?_) rfl rfl rfl ⟨rfl, k4, k5, k6⟩ hroom) ⟨dk_blind, ⟨cellB, g1, by rw [g3]; rfl, by rw [g2]; exact hfc⟩, fun U hU hW => ⟨rfl, hK.warm hW, by rw [hU]; exact hR⟩⟩ rfl (dk_lenR hnp) (hl.1.trans hml) ?_ (lv_room (by rw [dk_cats]; exact hw)) d hcell) hf hl k
  · intro w hw9
    unfold wsV at hw9
    rcases List.mem_append.mp hw9 with h1 | h1
    · simp only [List.mem_cons, List.not_mem_nil, or_false] at h1
      rcases h1 with rfl | rfl | rfl | rfl
      · exact k1
      · exact k7
      · exact k8
      · exact k2
    · rcases List.mem_cons.mp h1 with rfl | h1
      · exact k3
      · exact h1
  · simp [dk_rv]
theorem dk_callS (C : dk_C X cc own nL ret rm G) {y : MethodName} {cc' : ByteArray} {nL' : Nat} {ret' : Option FieldType} {rm' : Room} {as : List Value} {St : List Value} {idx np : Nat}
    (K : dk_LS own idx y cc' nL' ret' np) (M : dk_M G y cc' nL' ret' rm' as n h n' post) (hst : St = as.reverse ++ S) (hnp : as.length = np) (hw : (S.map fun v => v.category).sum ≤ 8)
    (hroom : rm'.frames + 1 ≤ rm.frames ∧ 8 + (nL' + 11) + rm'.locals ≤ rm.locals) (hcell : kc + rm'.cells ≤ rm.cells ∧ ks + rm'.slots ≤ rm.slots) (d : decode cc pc = .ok (.invokestatic idx, 3))
    (k : ∀ (r : Option Value) (h' : dk_H), post r h' → dk_W X (pc + 3) L (dk_push r S) n' h' (kc + rm'.cells) (ks + rm'.slots)) : dk_W X pc L St n h kc ks := by
  obtain ⟨p, e, R, s, m, args, below, meth, c, Q, G'⟩ := X
  obtain ⟨hx, hb, hml, hown, hts, hr, hlk, hRm, hG, hK⟩ := C
  subst hG hst hRm
  intro H locs ls hR hf hl
  obtain ⟨⟨⟨k1, k2, k3⟩, k4, k5, k6⟩, k7⟩ := K
  refine dk_back (va_runS (As := as.map (dk_rv _)) ⟨hx, hb, hml, hown, hts⟩ M (va_cwS np hts (dk_goodIn ?_) rfl rfl rfl ⟨k4, k5, k6⟩ hroom) ⟨dk_blind, fun U hU hW => ⟨rfl, hK.warm hW, by rw [hU]; exact hR⟩⟩ rfl (dk_lenR hnp) (hl.1.trans hml) ?_ (lv_room (by rw [dk_cats]; exact hw)) d hcell) hf hl k
  · intro w hw9
    unfold va_wsS at hw9
    rcases List.mem_append.mp hw9 with h1 | h1
    · simp only [List.mem_cons, List.not_mem_nil, or_false] at h1
      rcases h1 with rfl | rfl | rfl
      · exact k1
      · exact k7
      · exact k2
    · rcases List.mem_cons.mp h1 with rfl | h1
      · exact k3
      · exact h1
  · simp
theorem dk_callI (C : dk_C X cc own nL ret rm G) {y : MethodName} {cc' : ByteArray} {nL' : Nat} {rm' : Room} {a : Nat} {as : List Value} {St : List Value} {idx np : Nat}
    (K : dk_LI own idx y cc' nL' np) (M : dk_M G y cc' nL' none rm' (.ref a :: as) n h n' post) (hst : St = as.reverse ++ .ref a :: S) (hnp : as.length = np) (hw : (S.map fun v => v.category).sum ≤ 8)
    (hroom : rm'.frames + 1 ≤ rm.frames ∧ 8 + (nL' + 11) + rm'.locals ≤ rm.locals) (hcell : kc + rm'.cells ≤ rm.cells ∧ ks + rm'.slots ≤ rm.slots) (d : decode cc pc = .ok (.invokespecial idx, 3))
    (k : ∀ (r : Option Value) (h' : dk_H), post r h' → dk_W X (pc + 3) L (dk_push r S) n' h' (kc + rm'.cells) (ks + rm'.slots)) : dk_W X pc L St n h kc ks := by
  obtain ⟨p, e, R, s, m, args, below, meth, c, Q, G'⟩ := X
  obtain ⟨hx, hb, hml, hown, hts, hr, hlk, hRm, hG, hK⟩ := C
  subst hG hst hRm
  intro H locs ls hR hf hl
  obtain ⟨⟨⟨k1, k2, k3⟩, k4, k5, k6⟩, k7, k8⟩ := K
  refine dk_back (va_runI (As := as.map (dk_rv _)) (b := dk_b _ + a) ⟨hx, hb, hml, hown, hts⟩ M (cwI np hts (dk_goodIn ?_) rfl rfl rfl (hts _ k2) (hts _ k1) (hts _ k7) k8 ⟨k4, k5, k6⟩ hroom) ⟨dk_blind, fun U hU hW => ⟨rfl, hK.warm hW, by rw [hU]; exact hR⟩⟩ rfl (dk_lenR hnp) (hl.1.trans hml) ?_ (lv_room (by rw [dk_cats]; exact hw)) d hcell) hf hl k
  · intro w hw9
    rcases List.mem_cons.mp hw9 with rfl | h1
    · exact k3
    · exact h1
  · simp [dk_rv]
def dk_LN (own : String) (idx : Nat) (y : MethodName) (cc : ByteArray) (nL : Nat) (np : Nat) : Prop :=
  (Cond.initialized y.cls ∈ dk_tbl ∧ Cond.code y cc nL none ∈ dk_tbl ∧ Cond.instanceMethod y ∈ dk_tbl ∧ y.name = "<init>") ∧ (y.cls ≠ "java/lang/invoke/MethodHandle" ∧ y.cls ≠ "java/lang/invoke/VarHandle" ∧ (parseMethodDescriptor y.desc).map (fun d => d.parameters.length) = some np) ∧ ∀ (G : dk_G) (U : State), dk_K G U → va_Nw (.methodLinkNest own idx y RX7) U
theorem dk_callIN (C : dk_C X cc own nL ret rm G) {y : MethodName} {cc' : ByteArray} {nL' : Nat} {rm' : Room} {a : Nat} {as : List Value} {St : List Value} {idx np : Nat}
    (K : dk_LN own idx y cc' nL' np) (M : dk_M G y cc' nL' none rm' (.ref a :: as) n h n' post) (hst : St = as.reverse ++ .ref a :: S) (hnp : as.length = np) (hw : (S.map fun v => v.category).sum ≤ 8)
    (hroom : rm'.frames + 1 ≤ rm.frames ∧ 8 + (nL' + 11) + rm'.locals ≤ rm.locals) (hcell : kc + rm'.cells ≤ rm.cells ∧ ks + rm'.slots ≤ rm.slots) (d : decode cc pc = .ok (.invokespecial idx, 3))
    (k : ∀ (r : Option Value) (h' : dk_H), post r h' → dk_W X (pc + 3) L (dk_push r S) n' h' (kc + rm'.cells) (ks + rm'.slots)) : dk_W X pc L St n h kc ks := by
  obtain ⟨p, e, R, s, m, args, below, meth, c, Q, G'⟩ := X
  obtain ⟨hx, hb, hml, hown, hts, hr, hlk, hRm, hG, hK⟩ := C
  subst hG hst hRm
  intro H locs ls hR hf hl
  obtain ⟨⟨k2, k3, k7, k8⟩, ⟨k4, k5, k6⟩, k1⟩ := K
  refine dk_back (va_runIN (As := as.map (dk_rv _)) (b := dk_b _ + a) ⟨hx, hb, hml, hown, hts⟩ M ⟨va_cnB np hts (dk_goodIn ?_) rfl rfl rfl (k1 _ _ hK) (hts _ k2) ⟨k4, k5, k6⟩ hroom, k8, hts _ k7⟩ ⟨dk_blind, fun U hU hW => ⟨rfl, hK.warm hW, by rw [hU]; exact hR⟩⟩ rfl (dk_lenR hnp) (hl.1.trans hml) ?_ (lv_room (by rw [dk_cats]; exact hw)) d hcell) hf hl k
  · intro w hw9
    rcases List.mem_cons.mp hw9 with rfl | h1
    · exact k3
    · exact h1
  · simp [dk_rv]
theorem dk_objInit (C : dk_C X cc own nL ret rm G) {idx a : Nat} (hk : Cond.methodLink own idx objectInit ∈ dk_tbl) (h1 : Cond.instanceMethod objectInit ∈ dk_tbl) (h2 : Cond.code objectInit ⟨#[0xb1]⟩ 1 none ∈ dk_tbl) (d : decode cc pc = .ok (.invokespecial idx, 3)) (hfr : 1 ≤ rm.frames) (hlo : (S.map fun v => v.category).sum + 12 ≤ rm.locals)
    (k : dk_W X (pc + 3) L S n h kc ks) : dk_W X pc L (.ref a :: S) n h kc ks := by
  obtain ⟨p, e, R, s, m, args, below, meth, c, Q, G'⟩ := X
  obtain ⟨hx, hb, hml, hown, hts, hr, hlk, hRm, hG, hK⟩ := C
  subst hG hRm
  intro H locs ls hR hf hl
  exact W.objInit hx hb hown (hts _ hk) (hts _ h1) (hts _ h2) rfl hl.1 rfl d hfr (by rw [dk_cats]; show 2 * 0 + _ + 12 ≤ _; omega) (k H locs ls hR hf hl)
theorem dk_mmin (C : dk_C X cc own nL ret rm G) {idx : Nat} (h0 : Cond.methodLink own idx Lib.Math.min.name ∈ dk_tbl) (h1 : Cond.static Lib.Math.min.name ∈ dk_tbl) (h2 : Cond.initialized "java/lang/Math" ∈ dk_tbl) (h3 : Cond.code Lib.Math.min.name Lib.Math.min.code 2 (some .int) ∈ dk_tbl) {x y : Int32} (d : decode cc pc = .ok (.invokestatic idx, 3)) (hfr : 1 ≤ rm.frames) (hlo : (S.map fun v => v.category).sum + 13 ≤ rm.locals) (hc : kc ≤ rm.cells) (hs : ks ≤ rm.slots)
    (k : dk_W X (pc + 3) L (.int (if y < x then y else x) :: S) n h kc ks) : dk_W X pc L (.int y :: .int x :: S) n h kc ks := by
  obtain ⟨p, e, R, s, m, args, below, meth, c, Q, G'⟩ := X
  obtain ⟨hx, hb, hml, hown, hts, hr, hlk, hRm, hG, hK⟩ := C
  subst hG hRm
  intro H locs ls hR hf hl
  exact va_mmin hx hb hl.1.symm hown (hts _ h0) (hts _ h1) (hts _ h2) (hts _ h3) hfr (by rw [dk_cats]; exact hlo) hc hs d (k H locs ls hR hf hl)
theorem dk_mmax (C : dk_C X cc own nL ret rm G) {idx : Nat} (h0 : Cond.methodLink own idx Lib.Math.max.name ∈ dk_tbl) (h1 : Cond.static Lib.Math.max.name ∈ dk_tbl) (h2 : Cond.initialized "java/lang/Math" ∈ dk_tbl) (h3 : Cond.code Lib.Math.max.name Lib.Math.max.code 2 (some .int) ∈ dk_tbl) {x y : Int32} (d : decode cc pc = .ok (.invokestatic idx, 3)) (hfr : 1 ≤ rm.frames) (hlo : (S.map fun v => v.category).sum + 13 ≤ rm.locals) (hc : kc ≤ rm.cells) (hs : ks ≤ rm.slots)
    (k : dk_W X (pc + 3) L (.int (if x < y then y else x) :: S) n h kc ks) : dk_W X pc L (.int y :: .int x :: S) n h kc ks := by
  obtain ⟨p, e, R, s, m, args, below, meth, c, Q, G'⟩ := X
  obtain ⟨hx, hb, hml, hown, hts, hr, hlk, hRm, hG, hK⟩ := C
  subst hG hRm
  intro H locs ls hR hf hl
  exact va_mmax hx hb hl.1.symm hown (hts _ h0) (hts _ h1) (hts _ h2) (hts _ h3) hfr (by rw [dk_cats]; exact hlo) hc hs d (k H locs ls hR hf hl)
theorem dk_gets (C : dk_C X cc own nL ret rm G) {idx : Nat} (j : Nat) (hj : j < 3) (hk : Cond.fieldLink own idx RX3 (dk_sn j) "[I" ∈ dk_tbl) (d : decode cc pc = .ok (.getstatic idx, 3)) (k : dk_W X (pc + 3) L (.retAddr j :: S) n h kc ks) : dk_W X pc L S n h kc ks := by
  obtain ⟨p, e, R, s, m, args, below, meth, c, Q, G'⟩ := X
  obtain ⟨hx, hb, hml, hown, hts, hr, hlk, hRm, hG, hK⟩ := C
  subst hG
  intro H locs ls hR hf hl
  obtain ⟨cf, kf, fi, f, a, cell, h1, h2, h3, h4, h5, h6, h7, h8⟩ := (hK.2.1 j hj).1
  exact W.gets hx hb hown (hts _ hk) h1 h2 h3 h4 (by rw [hR.2.2.2 a (Nat.not_le.mp h8)]; exact h5) (fun e => by rw [e] at h6; cases h6) h7 rfl d (k H locs ls hR hf hl)
theorem dk_saldS (C : dk_C X cc own nL ret rm G) (j : Nat) (hj : j < 3) {i : Int32} (hin : vp_in i (dk_sl j)) (d : decode cc pc = .ok (.iaload, 1)) (k : dk_W X (pc + 1) L (.int (dk_sv j i.toNatClampNeg) :: S) n h kc ks) : dk_W X pc L (.int i :: .retAddr j :: S) n h kc ks := by
  obtain ⟨p, e, R, s, m, args, below, meth, c, Q, G'⟩ := X
  obtain ⟨hx, hb, hml, hown, hts, hr, hlk, hRm, hG, hK⟩ := C
  subst hG
  intro H locs ls hR hf hl
  obtain ⟨cell, h1, h2, h3, h4, h5, h6, h7⟩ := (hK.2.1 j hj).2
  have hlt : i.toNatClampNeg < dk_sl j := Nat.not_le.mp fun q => hin (Or.inr q)
  have hin' : ¬ (i < 0 ∨ cell.slots.size ≤ i.toNatClampNeg) := by
    intro q
    rcases q with q | q
    · exact hin (Or.inl q)
    · omega
  exact W.iald (v := .int (dk_sv j i.toNatClampNeg)) hx hb (by rw [hR.2.2.2 _ (Nat.not_le.mp h7)]; exact h1) h2 h3 hin' (h6 _ hlt) rfl rfl d (k H locs ls hR hf hl)
end DKC
end
section
/-! ===== making cells; copying ints ===== -/
def dk_def (h : dk_H) (i : Nat) : Prop := ∀ k : Nat, h.1 i k = 0 ∧ h.2.1 i k = 0 ∧ h.2.2.1 i k = none ∧ h.2.2.2.1 i k = 0 ∧ h.2.2.2.2 i k = 0
def dk_dv (kd : Nat) : Value := match kd with
  | 0 => .int 0
  | 1 => .float 0
  | 2 => .null
  | 3 => .long 0
  | _ => .double 0
theorem dk_def.av {h : dk_H} {i : Nat} (hd : dk_def h i) (G : dk_G) (kd k : Nat) : dk_rv G (dk_av h kd i k) = dk_dv kd := by
  obtain ⟨h1, h2, h3, h4, h5⟩ := hd k
  match kd with
  | 0 => simp [dk_av, dk_dv, dk_rv, h1]
  | 1 => simp [dk_av, dk_dv, dk_rv, h2]
  | 2 => simp [dk_av, dk_dv, dk_rv, h3, va_rf]
  | 3 => simp [dk_av, dk_dv, dk_rv, h4]
  | _ + 4 => simp [dk_av, dk_dv, dk_rv, h5]
/-- a new cell at the end -/
theorem dk_R.push {G : dk_G} {n : Nat} {h : dk_H} {H H' : Heap} (hR : dk_R G n h H) (htt : G.2.2.2.2.2.2 = true) (hz : H'.size = H.size + 1) (ho : ∀ q : Nat, q < H.size → H'[q]? = H[q]?) (hat : dk_at G h H' n) : dk_R G (n + 1) h H' := by
  obtain ⟨h1, h2, h3, h4⟩ := hR
  have e := h1 htt
  refine ⟨fun _ => by omega, by omega, fun i hi => ?_, fun q hq => by rw [ho q (by omega)]; exact h4 q hq⟩
  by_cases e : i = n
  · subst e; exact hat
  · exact (h3 i (by omega)).kept (fun _ _ => rfl) (ho _ (by omega))
/-- a class whose objects are made -/
def dk_Mk (own : String) (idx ci : Nat) : Prop := ∃ (Cn : String) (T : u_T) (ty : Nat → FieldType), vwCl[ci]? = some (Cn, T, (dk_ks ci).length) ∧ (∀ w ∈ u_ws Cn T (dk_ks ci).length, w ∈ dk_tbl) ∧ (∀ k, k < (dk_ks ci).length → parseFieldDescriptor (T k).2.2.1 = some (ty k)) ∧ (∀ k, k < (dk_ks ci).length → defaultValue (ty k) = dk_dv ((dk_ks ci).getD k 0)) ∧ Cond.classLink own idx Cn ∈ dk_tbl ∧ Cond.instantiable Cn (dk_ks ci).length ∈ dk_tbl ∧ Cond.initialized Cn ∈ dk_tbl
section DKN
variable {X : dk_X} {cc : ByteArray} {own : String} {nL : Nat} {ret : Option FieldType} {rm : Room} {G : dk_G} {pc : Nat} {L : List (Option Value)} {S : List Value} {n : Nat} {h : dk_H} {kc ks : Nat}
theorem dk_new (C : dk_C X cc own nL ret rm G) (htt : G.2.2.2.2.2.2 = true) {idx ci : Nat} (Mk : dk_Mk own idx ci) (hs : dk_SH n = .inl ci) (hd : dk_def h n) (hc : kc + 1 ≤ rm.cells) (hsl : ks + (dk_ks ci).length ≤ rm.slots) (d : decode cc pc = .ok (.new idx, 3)) (k : dk_W X (pc + 3) L (.ref n :: S) (n + 1) h (kc + 1) (ks + (dk_ks ci).length)) : dk_W X pc L S n h kc ks := by
  obtain ⟨p, e, R, s, m, args, below, meth, c, Q, G'⟩ := X
  obtain ⟨hx, hb, hml, hown, hts, hr, hlk, hRm, hG, hK⟩ := C
  subst hG hRm
  intro H locs ls hR hf hl
  obtain ⟨Cn, T, ty, h1, h2, h3, h4, h5, h6, h7⟩ := Mk
  have hKn := hK.1.1 ci _ h1
  have hsz := hR.1 htt
  refine W.newcK hx hb hown (hts _ h5) (hts _ h6) (hts _ h7) rfl d hc hsl hKn.2.1 hsz fun H' kC hkC e1 z1 o1 => ?_
  refine k H' locs ls (hR.push htt (by rw [z1, hsz]) (by rw [hsz]; exact o1) ?_) hf hl
  unfold dk_at
  rw [hs]
  exact (u_born ty hts h2 hKn hkC e1 h3).to (fun j hj => by rw [hd.av, h4 j hj])
theorem dk_newa (C : dk_C X cc own nL ret rm G) (htt : G.2.2.2.2.2.2 = true) {atype : ArrayType} {t N : Nat} {i : Int32} (ht : t < 5) (hty : newarray.typeOf atype = dk_ty t) (harr : Cond.arrayClass (newarray.typeOf atype) ∈ dk_tbl) (hs : dk_SH n = .inr (t, N)) (hd : dk_def h n) (hi : ¬ i < 0) (hN : i.toNatClampNeg = N) (hby : N * 8 ≤ 536870912) (hc : kc + 1 ≤ rm.cells) (hsl : ks + N ≤ rm.slots) (d : decode cc pc = .ok (.newarray atype, 2)) (k : dk_W X (pc + 2) L (.ref n :: S) (n + 1) h (kc + 1) (ks + N)) : dk_W X pc L (.int i :: S) n h kc ks := by
  obtain ⟨p, e, R, s, m, args, below, meth, c, Q, G'⟩ := X
  obtain ⟨hx, hb, hml, hown, hts, hr, hlk, hRm, hG, hK⟩ := C
  subst hG hRm
  intro H locs ls hR hf hl
  have hsz := hR.1 htt
  have hcb : componentBytes (newarray.typeOf atype) ≤ 8 := by cases atype <;> decide
  refine va_newaK hx hb (hts _ harr) rfl d rfl hi hN (Nat.le_trans (Nat.mul_le_mul_left _ hcb) hby) hc hsl hsz fun H' cA e1 z1 o1 hAr hNm => ?_
  refine k H' locs ls (hR.push htt (by rw [z1, hsz]) (by rw [hsz]; exact o1) ?_) hf hl
  have hRA := (hK.1.2 t _ (dk_tys_at _ (by omega))).2
  have hcA : cA = dk_cT G' t := by
    have e2 : s.vm.findClass ("[" ++ (dk_ty t).toString) = some (dk_cT G' t) := by
      rcases (show t = 0 ∨ t = 1 ∨ t = 2 ∨ t = 3 ∨ t = 4 by omega) with rfl | rfl | rfl | rfl | rfl <;> exact hRA
    rw [hty, e2] at hNm
    exact (Option.some.inj hNm).symm
  unfold dk_at
  rw [hs]
  show H'[dk_b _ + n]? = _
  rw [e1, hcA, hty]
  congr 2
  funext j
  rw [hd.av]
  rcases (show t = 0 ∨ t = 1 ∨ t = 2 ∨ t = 3 ∨ t = 4 by omega) with rfl | rfl | rfl | rfl | rfl <;> rfl
theorem dk_anew (C : dk_C X cc own nL ret rm G) (htt : G.2.2.2.2.2.2 = true) {idx t N : Nat} {Cn : String} {i : Int32} (ht : 5 ≤ t ∧ t < 9) (hty : dk_ty t = .object Cn) (hlk0 : Cond.classLink own idx Cn ∈ dk_tbl) (hs : dk_SH n = .inr (t, N)) (hd : dk_def h n) (hi : ¬ i < 0) (hN : i.toNatClampNeg = N) (hby : N * 4 ≤ 536870912) (hc : kc + 1 ≤ rm.cells) (hsl : ks + N ≤ rm.slots) (d : decode cc pc = .ok (.anewarray idx, 3)) (k : dk_W X (pc + 3) L (.ref n :: S) (n + 1) h (kc + 1) (ks + N)) : dk_W X pc L (.int i :: S) n h kc ks := by
  obtain ⟨p, e, R, s, m, args, below, meth, c, Q, G'⟩ := X
  obtain ⟨hx, hb, hml, hown, hts, hr, hlk, hRm, hG, hK⟩ := C
  subst hG hRm
  intro H locs ls hR hf hl
  have hsz := hR.1 htt
  subst hN
  have hover : va_AO Cn s := by
    obtain ⟨-, -, -, a5, a6, a7, a8⟩ := hK
    rcases (show t = 5 ∨ t = 6 ∨ t = 7 ∨ t = 8 by omega) with rfl | rfl | rfl | rfl
    · cases hty; exact a5
    · cases hty; exact a6
    · cases hty; exact a7
    · cases hty; exact a8
  refine W.anew hx hb hown (hts _ hlk0) (va_AO.use hover) rfl d rfl hi hby hc hsl fun cA kA comp f1 f2 f3 f4 => ?_
  generalize hH1 : H.push ({ cls := cA, slots := Array.replicate i.toNatClampNeg .null, vm := .none } : Cell) = H1
  have z1 : H1.size = H.size + 1 := by rw [← hH1, Array.size_push]
  have e1 : H1[H.size]? = some (arrV cA i.toNatClampNeg (fun _ => .null)) := by rw [← hH1, Array.getElem?_push_size, ← arrV_new]
  have o1 : ∀ q : Nat, q < H.size → H1[q]? = H[q]? := fun q hq => by rw [← hH1, Array.getElem?_push, if_neg (Nat.ne_of_lt hq)]
  rw [hsz]
  refine k H1 locs ls (hR.push htt z1 o1 ?_) hf hl
  have hRA := (hK.1.2 t _ (dk_tys_at _ (by omega))).2
  have hcA : cA = dk_cT G' t := by
    rw [show (dk_cT G' t, dk_ty t).2 = .object Cn from hty] at hRA
    obtain ⟨-, -, -, -, -, e2⟩ := hRA
    rw [f1] at e2
    exact Option.some.inj e2
  unfold dk_at
  rw [hs]
  show H1[dk_b _ + n]? = _
  rw [← hsz, e1, hcA]
  congr 2
  funext j
  have he : dk_ek t = 2 := by
    rcases (show t = 5 ∨ t = 6 ∨ t = 7 ∨ t = 8 by omega) with rfl | rfl | rfl | rfl <;> rfl
  rw [hd.av]
  show _ = dk_dv (dk_ek t)
  rw [he]
  rfl
/-- System.arraycopy within one array of ints -/
def dk_cpI (h : dk_H) (a sp dp k : Nat) : dk_H := (fun i j => if i = a then va_cpy (h.1 a) (h.1 a) sp dp k j else h.1 i j, h.2)
theorem dk_copyi (C : dk_C X cc own nL ret rm G) {idx a N : Nat} {sp dp i : Int32} (h01 : Cond.methodLink own idx arraycopyName ∈ dk_tbl) (h02 : Cond.native arraycopyName ∈ dk_tbl) (h03 : Cond.static arraycopyName ∈ dk_tbl) (h04 : Cond.initialized "java/lang/System" ∈ dk_tbl) (hs : dk_SH a = .inr (0, N)) (ha : a < n)
    (h1 : ¬ sp < 0) (h2 : ¬ dp < 0) (h3 : ¬ i < 0) (h4 : sp.toNatClampNeg + i.toNatClampNeg ≤ N) (h5 : dp.toNatClampNeg + i.toNatClampNeg ≤ N) (hfr : 1 ≤ rm.frames) (hlo : (S.map fun v => v.category).sum + (nativeFrameWords "java/lang/System" "arraycopy" 5 + 11) ≤ rm.locals) (d : decode cc pc = .ok (.invokestatic idx, 3))
    (k : dk_W X (pc + 3) L S n (dk_cpI h a sp.toNatClampNeg dp.toNatClampNeg i.toNatClampNeg) kc ks) : dk_W X pc L (.int i :: .int dp :: .ref a :: .int sp :: .ref a :: S) n h kc ks := by
  obtain ⟨p, e, R, s, m, args, below, meth, c, Q, G'⟩ := X
  obtain ⟨hx, hb, hml, hown, hts, hr, hlk, hRm, hG, hK⟩ := C
  subst hG hRm
  intro H locs ls hR hf hl
  have hat := hR.2.2.1 a ha
  unfold dk_at at hat
  rw [hs] at hat
  have hat : H[dk_b G' + a]? = some (arrV (dk_cT G' 0) N (fun j => .int (h.1 a j))) := hat
  have nn : ∀ z : Int32, ¬ z < 0 → z.toInt = (z.toNatClampNeg : Int) := by
    intro z hz
    have hz0 : (0 : Int) ≤ z.toInt := by
      have := Int32.not_lt.mp hz
      simpa using Int32.le_iff_toInt_le.mp this
    show z.toInt = ((z.toInt.toNat : Nat) : Int)
    omega
  intro T hT XX
  obtain ⟨-, k0, hk0, cm0, hkk0⟩ := (hK.1.2 0 _ (dk_tys_at _ (by decide))).1 N (fun j => .int (h.1 a j))
  obtain ⟨vm', X', step⟩ := XX.arraycopy hx hown (hts _ h01) (hts _ h02) (hts _ h03) (hts _ h04) (src := dk_b G' + a) (dst := dk_b G' + a) (srcPos := sp) (destPos := dp) (n := i) (by rw [hT]; exact hat) (by rw [hT]; exact hat)
    (fun _ h => by cases h) (fun _ h => by cases h) (fun h => by cases h) (fun h => by cases h) hk0 hk0 hkk0 hkk0 (by simp [dk_ty, refKind]) h1 h2 h3
    (by rw [nn sp h1, nn i h3, arrV_size]; omega)
    (by rw [nn dp h2, nn i h3, arrV_size]; omega)
    (fun vm₁ _ j hj => by
      have e : (arrV (dk_cT G' 0) N (fun j => .int (h.1 a j))).slots.getD (sp.toNatClampNeg + j) .null = .int (h.1 a (sp.toNatClampNeg + j)) := by
        rw [Array.getD_eq_getD_getElem?, arrV_read _ _ (by omega)]
        rfl
      refine ⟨?_, ?_⟩
      · rw [e]; rfl
      · rw [e]; exact trivial)
    (g := F0 m pc ls (.int i :: .int dp :: .ref (dk_b G' + a) :: .int sp :: .ref (dk_b G' + a) :: S.map (dk_rv G'))) rfl hl.1 (rest := S.map (dk_rv G')) rfl (by rw [hb]; exact d) hfr (by rw [dk_cats]; show 2 * 0 + _ + _ ≤ _; omega)
  have e1 : copied (arrV (dk_cT G' 0) N (fun j => .int (h.1 a j))) (arrV (dk_cT G' 0) N (fun j => .int (h.1 a j))) sp dp i = arrV (dk_cT G' 0) N (fun j => .int (va_cpy (h.1 a) (h.1 a) sp.toNatClampNeg dp.toNatClampNeg i.toNatClampNeg j)) := va_copied (fun z => .int z) _ _ _ _ h4
  rw [e1] at X' step
  have hlt : dk_b G' + a < H.size := (Array.getElem?_eq_some_iff.mp hat).1
  generalize hcl : arrV (dk_cT G' 0) N (fun j => .int (va_cpy (h.1 a) (h.1 a) sp.toNatClampNeg dp.toNatClampNeg i.toNatClampNeg j)) = cl at X' step
  have hheap : ((T.setVm vm').setCell (dk_b G' + a) cl).heap = H.setIfInBounds (dk_b G' + a) cl := by rw [← hT]; rfl
  have oq : ∀ q : Nat, q ≠ dk_b G' + a → (H.setIfInBounds (dk_b G' + a) cl)[q]? = H[q]? := fun q hq => by simp [Array.getElem?_setIfInBounds, Ne.symm hq]
  have hR' : dk_R G' n (dk_cpI h a sp.toNatClampNeg dp.toNatClampNeg i.toNatClampNeg) (H.setIfInBounds (dk_b G' + a) cl) := by
    obtain ⟨r1, r2, r3, r4⟩ := hR
    refine ⟨fun z => by simp; exact r1 z, by simp; exact r2, fun j hj => ?_, fun q hq => by rw [oq q (by omega)]; exact r4 q hq⟩
    by_cases ej : j = a
    · subst ej
      unfold dk_at
      rw [hs]
      show (H.setIfInBounds (dk_b G' + j) cl)[dk_b G' + j]? = _
      rw [Array.getElem?_setIfInBounds, if_pos rfl, if_pos hlt, ← hcl]
      congr 2
      funext z
      show _ = dk_rv _ (Value.int ((dk_cpI h j _ _ _).1 j z))
      simp [dk_cpI, dk_rv]
    · refine (r3 j hj).kept (fun kd z => ?_) (oq _ (by omega))
      match kd with
      | 0 => simp [dk_av, dk_cpI, ej]
      | 1 => rfl
      | 2 => rfl
      | 3 => rfl
      | _ + 4 => rfl
  obtain ⟨t, a1, b1⟩ := k _ _ ls hR' (fun q hq => by
      rcases List.mem_append.mp hq with h | h
      · exact hf q h
      · obtain ⟨z, -, hz⟩ := List.mem_map.mp h
        rw [← hz]
        exact Nat.le_add_right _ _) hl _ hheap X'
  exact ⟨t, step t a1, b1⟩
end DKN
end
section
theorem dk_m0 {w : Cond} (i : Nat) (h : (k2_sels lw_privs)[i]? = some w) (g : goodWord w = true) : w ∈ dk_tbl := List.mem_filter.mpr ⟨List.mem_append_left _ (List.mem_of_getElem? h), g⟩
theorem dk_m1 {w : Cond} (i : Nat) (h : tables_1_1[i]? = some w) (g : goodWord w = true) : w ∈ dk_tbl := List.mem_filter.mpr ⟨List.mem_append_right _ (List.mem_append_left _ (List.mem_of_getElem? h)), g⟩
theorem dk_m2 {w : Cond} (i : Nat) (h : tables_1_2[i]? = some w) (g : goodWord w = true) : w ∈ dk_tbl := List.mem_filter.mpr ⟨List.mem_append_right _ (List.mem_append_right _ (List.mem_append_left _ (List.mem_of_getElem? h))), g⟩
theorem dk_m3 {w : Cond} (i : Nat) (h : tables_1_3[i]? = some w) (g : goodWord w = true) : w ∈ dk_tbl := List.mem_filter.mpr ⟨List.mem_append_right _ (List.mem_append_right _ (List.mem_append_right _ (List.mem_append_left _ (List.mem_of_getElem? h)))), g⟩
theorem dk_m4 {w : Cond} (i : Nat) (h : tables_1_4[i]? = some w) (g : goodWord w = true) : w ∈ dk_tbl := List.mem_filter.mpr ⟨List.mem_append_right _ (List.mem_append_right _ (List.mem_append_right _ (List.mem_append_right _ (List.mem_append_left _ (List.mem_of_getElem? h))))), g⟩
theorem dk_m5 {w : Cond} (i : Nat) (h : tables_1_5[i]? = some w) (g : goodWord w = true) : w ∈ dk_tbl := List.mem_filter.mpr ⟨List.mem_append_right _ (List.mem_append_right _ (List.mem_append_right _ (List.mem_append_right _ (List.mem_append_right _ (List.mem_of_getElem? h))))), g⟩
theorem ne1X0 : RX0 ≠ "java/lang/invoke/MethodHandle" := by decide +kernel
theorem ne2X0 : RX0 ≠ "java/lang/invoke/VarHandle" := by decide +kernel
theorem ne1X1 : RX1 ≠ "java/lang/invoke/MethodHandle" := by decide +kernel
theorem ne2X1 : RX1 ≠ "java/lang/invoke/VarHandle" := by decide +kernel
theorem ne1X2 : RX2 ≠ "java/lang/invoke/MethodHandle" := by decide +kernel
theorem ne2X2 : RX2 ≠ "java/lang/invoke/VarHandle" := by decide +kernel
theorem ne1X3 : RX3 ≠ "java/lang/invoke/MethodHandle" := by decide +kernel
theorem ne2X3 : RX3 ≠ "java/lang/invoke/VarHandle" := by decide +kernel
theorem ne1X4 : RX4 ≠ "java/lang/invoke/MethodHandle" := by decide +kernel
theorem ne2X4 : RX4 ≠ "java/lang/invoke/VarHandle" := by decide +kernel
theorem ne1X5 : RX5 ≠ "java/lang/invoke/MethodHandle" := by decide +kernel
theorem ne2X5 : RX5 ≠ "java/lang/invoke/VarHandle" := by decide +kernel
theorem ne1X6 : RX6 ≠ "java/lang/invoke/MethodHandle" := by decide +kernel
theorem ne2X6 : RX6 ≠ "java/lang/invoke/VarHandle" := by decide +kernel
theorem ne1X7 : RX7 ≠ "java/lang/invoke/MethodHandle" := by decide +kernel
theorem ne2X7 : RX7 ≠ "java/lang/invoke/VarHandle" := by decide +kernel
theorem ne1X8 : RX8 ≠ "java/lang/invoke/MethodHandle" := by decide +kernel
theorem ne2X8 : RX8 ≠ "java/lang/invoke/VarHandle" := by decide +kernel
theorem ne1L : RL ≠ "java/lang/invoke/MethodHandle" := by decide +kernel
theorem ne2L : RL ≠ "java/lang/invoke/VarHandle" := by decide +kernel
theorem inX0 : ∀ w ∈ u_ws RX0 TX0 4, w ∈ dk_tbl := by
  show ∀ w ∈ [u_lay RX0 TX0 0, u_lay RX0 TX0 1, u_lay RX0 TX0 2, u_lay RX0 TX0 3], w ∈ dk_tbl
  exact (List.forall_mem_cons.mpr ⟨(dk_m1 84 rfl rfl), (List.forall_mem_cons.mpr ⟨(dk_m1 86 rfl rfl), (List.forall_mem_cons.mpr ⟨(dk_m1 88 rfl rfl), (List.forall_mem_cons.mpr ⟨(dk_m1 90 rfl rfl), (fun _ h => absurd h List.not_mem_nil)⟩)⟩)⟩)⟩)
theorem nnX0 : dk_N 0 := fun Cn T N h => by
  have h' : (RX0, TX0, 4) = (Cn, T, N) := Option.some.inj h
  cases h'
  exact ⟨⟨tyX0, tyX0_ok⟩, nmX0⟩
theorem inX1 : ∀ w ∈ u_ws RX1 TX1 4, w ∈ dk_tbl := by
  show ∀ w ∈ [u_lay RX1 TX1 0, u_lay RX1 TX1 1, u_lay RX1 TX1 2, u_lay RX1 TX1 3], w ∈ dk_tbl
  exact (List.forall_mem_cons.mpr ⟨(dk_m1 116 rfl rfl), (List.forall_mem_cons.mpr ⟨(dk_m1 118 rfl rfl), (List.forall_mem_cons.mpr ⟨(dk_m1 120 rfl rfl), (List.forall_mem_cons.mpr ⟨(dk_m1 122 rfl rfl), (fun _ h => absurd h List.not_mem_nil)⟩)⟩)⟩)⟩)
theorem nnX1 : dk_N 1 := fun Cn T N h => by
  have h' : (RX1, TX1, 4) = (Cn, T, N) := Option.some.inj h
  cases h'
  exact ⟨⟨tyX1, tyX1_ok⟩, nmX1⟩
theorem inX2 : ∀ w ∈ u_ws RX2 TX2 2, w ∈ dk_tbl := by
  show ∀ w ∈ [u_lay RX2 TX2 0, u_lay RX2 TX2 1], w ∈ dk_tbl
  exact (List.forall_mem_cons.mpr ⟨(dk_m1 136 rfl rfl), (List.forall_mem_cons.mpr ⟨(dk_m1 138 rfl rfl), (fun _ h => absurd h List.not_mem_nil)⟩)⟩)
theorem nnX2 : dk_N 2 := fun Cn T N h => by
  have h' : (RX2, TX2, 2) = (Cn, T, N) := Option.some.inj h
  cases h'
  exact ⟨⟨tyX2, tyX2_ok⟩, nmX2⟩
theorem inX3 : ∀ w ∈ u_ws RX3 TX3 8, w ∈ dk_tbl := by
  show ∀ w ∈ [u_lay RX3 TX3 0, u_lay RX3 TX3 1, u_lay RX3 TX3 2, u_lay RX3 TX3 3, u_lay RX3 TX3 4, u_lay RX3 TX3 5, u_lay RX3 TX3 6, u_lay RX3 TX3 7], w ∈ dk_tbl
  exact (List.forall_mem_cons.mpr ⟨(dk_m1 220 rfl rfl), (List.forall_mem_cons.mpr ⟨(dk_m1 222 rfl rfl), (List.forall_mem_cons.mpr ⟨(dk_m1 224 rfl rfl), (List.forall_mem_cons.mpr ⟨(dk_m1 226 rfl rfl), (List.forall_mem_cons.mpr ⟨(dk_m1 228 rfl rfl), (List.forall_mem_cons.mpr ⟨(dk_m1 230 rfl rfl), (List.forall_mem_cons.mpr ⟨(dk_m1 232 rfl rfl), (List.forall_mem_cons.mpr ⟨(dk_m1 234 rfl rfl), (fun _ h => absurd h List.not_mem_nil)⟩)⟩)⟩)⟩)⟩)⟩)⟩)⟩)
theorem nnX3 : dk_N 3 := fun Cn T N h => by
  have h' : (RX3, TX3, 8) = (Cn, T, N) := Option.some.inj h
  cases h'
  exact ⟨⟨tyX3, tyX3_ok⟩, nmX3⟩
theorem inX4 : ∀ w ∈ u_ws RX4 TX4 11, w ∈ dk_tbl := by
  show ∀ w ∈ [u_lay RX4 TX4 0, u_lay RX4 TX4 1, u_lay RX4 TX4 2, u_lay RX4 TX4 3, u_lay RX4 TX4 4, u_lay RX4 TX4 5, u_lay RX4 TX4 6, u_lay RX4 TX4 7, u_lay RX4 TX4 8, u_lay RX4 TX4 9, u_lay RX4 TX4 10], w ∈ dk_tbl
  exact (List.forall_mem_cons.mpr ⟨(dk_m1 175 rfl rfl), (List.forall_mem_cons.mpr ⟨(dk_m1 177 rfl rfl), (List.forall_mem_cons.mpr ⟨(dk_m1 179 rfl rfl), (List.forall_mem_cons.mpr ⟨(dk_m1 181 rfl rfl), (List.forall_mem_cons.mpr ⟨(dk_m1 183 rfl rfl), (List.forall_mem_cons.mpr ⟨(dk_m1 185 rfl rfl), (List.forall_mem_cons.mpr ⟨(dk_m1 187 rfl rfl), (List.forall_mem_cons.mpr ⟨(dk_m1 189 rfl rfl), (List.forall_mem_cons.mpr ⟨(dk_m1 191 rfl rfl), (List.forall_mem_cons.mpr ⟨(dk_m1 193 rfl rfl), (List.forall_mem_cons.mpr ⟨(dk_m1 195 rfl rfl), (fun _ h => absurd h List.not_mem_nil)⟩)⟩)⟩)⟩)⟩)⟩)⟩)⟩)⟩)⟩)⟩)
theorem nnX4 : dk_N 4 := fun Cn T N h => by
  have h' : (RX4, TX4, 11) = (Cn, T, N) := Option.some.inj h
  cases h'
  exact ⟨⟨tyX4, tyX4_ok⟩, nmX4⟩
theorem inX5 : ∀ w ∈ u_ws RX5 TX5 6, w ∈ dk_tbl := by
  show ∀ w ∈ [u_lay RX5 TX5 0, u_lay RX5 TX5 1, u_lay RX5 TX5 2, u_lay RX5 TX5 3, u_lay RX5 TX5 4, u_lay RX5 TX5 5], w ∈ dk_tbl
  exact (List.forall_mem_cons.mpr ⟨(dk_m1 43 rfl rfl), (List.forall_mem_cons.mpr ⟨(dk_m1 45 rfl rfl), (List.forall_mem_cons.mpr ⟨(dk_m1 47 rfl rfl), (List.forall_mem_cons.mpr ⟨(dk_m1 49 rfl rfl), (List.forall_mem_cons.mpr ⟨(dk_m1 51 rfl rfl), (List.forall_mem_cons.mpr ⟨(dk_m1 53 rfl rfl), (fun _ h => absurd h List.not_mem_nil)⟩)⟩)⟩)⟩)⟩)⟩)
theorem nnX5 : dk_N 5 := fun Cn T N h => by
  have h' : (RX5, TX5, 6) = (Cn, T, N) := Option.some.inj h
  cases h'
  exact ⟨⟨tyX5, tyX5_ok⟩, nmX5⟩
theorem inX6 : ∀ w ∈ u_ws RX6 TX6 9, w ∈ dk_tbl := by
  show ∀ w ∈ [u_lay RX6 TX6 0, u_lay RX6 TX6 1, u_lay RX6 TX6 2, u_lay RX6 TX6 3, u_lay RX6 TX6 4, u_lay RX6 TX6 5, u_lay RX6 TX6 6, u_lay RX6 TX6 7, u_lay RX6 TX6 8], w ∈ dk_tbl
  exact (List.forall_mem_cons.mpr ⟨(dk_m2 15 rfl rfl), (List.forall_mem_cons.mpr ⟨(dk_m2 17 rfl rfl), (List.forall_mem_cons.mpr ⟨(dk_m2 19 rfl rfl), (List.forall_mem_cons.mpr ⟨(dk_m2 21 rfl rfl), (List.forall_mem_cons.mpr ⟨(dk_m2 23 rfl rfl), (List.forall_mem_cons.mpr ⟨(dk_m2 25 rfl rfl), (List.forall_mem_cons.mpr ⟨(dk_m2 27 rfl rfl), (List.forall_mem_cons.mpr ⟨(dk_m2 29 rfl rfl), (List.forall_mem_cons.mpr ⟨(dk_m2 31 rfl rfl), (fun _ h => absurd h List.not_mem_nil)⟩)⟩)⟩)⟩)⟩)⟩)⟩)⟩)⟩)
theorem nnX6 : dk_N 6 := fun Cn T N h => by
  have h' : (RX6, TX6, 9) = (Cn, T, N) := Option.some.inj h
  cases h'
  exact ⟨⟨tyX6, tyX6_ok⟩, nmX6⟩
theorem inX7 : ∀ w ∈ u_ws RX7 TX7 5, w ∈ dk_tbl := by
  show ∀ w ∈ [u_lay RX7 TX7 0, u_lay RX7 TX7 1, u_lay RX7 TX7 2, u_lay RX7 TX7 3, u_lay RX7 TX7 4], w ∈ dk_tbl
  exact (List.forall_mem_cons.mpr ⟨(dk_m2 39 rfl rfl), (List.forall_mem_cons.mpr ⟨(dk_m2 41 rfl rfl), (List.forall_mem_cons.mpr ⟨(dk_m2 43 rfl rfl), (List.forall_mem_cons.mpr ⟨(dk_m2 45 rfl rfl), (List.forall_mem_cons.mpr ⟨(dk_m2 47 rfl rfl), (fun _ h => absurd h List.not_mem_nil)⟩)⟩)⟩)⟩)⟩)
theorem nnX7 : dk_N 7 := fun Cn T N h => by
  have h' : (RX7, TX7, 5) = (Cn, T, N) := Option.some.inj h
  cases h'
  exact ⟨⟨tyX7, tyX7_ok⟩, nmX7⟩
theorem inX8 : ∀ w ∈ u_ws RX8 TX8 30, w ∈ dk_tbl := by
  show ∀ w ∈ [u_lay RX8 TX8 0, u_lay RX8 TX8 1, u_lay RX8 TX8 2, u_lay RX8 TX8 3, u_lay RX8 TX8 4, u_lay RX8 TX8 5, u_lay RX8 TX8 6, u_lay RX8 TX8 7, u_lay RX8 TX8 8, u_lay RX8 TX8 9, u_lay RX8 TX8 10, u_lay RX8 TX8 11, u_lay RX8 TX8 12, u_lay RX8 TX8 13, u_lay RX8 TX8 14, u_lay RX8 TX8 15, u_lay RX8 TX8 16, u_lay RX8 TX8 17, u_lay RX8 TX8 18, u_lay RX8 TX8 19, u_lay RX8 TX8 20, u_lay RX8 TX8 21, u_lay RX8 TX8 22, u_lay RX8 TX8 23, u_lay RX8 TX8 24, u_lay RX8 TX8 25, u_lay RX8 TX8 26, u_lay RX8 TX8 27, u_lay RX8 TX8 28, u_lay RX8 TX8 29], w ∈ dk_tbl
  exact (List.forall_mem_cons.mpr ⟨(dk_m4 94 rfl rfl), (List.forall_mem_cons.mpr ⟨(dk_m4 96 rfl rfl), (List.forall_mem_cons.mpr ⟨(dk_m4 98 rfl rfl), (List.forall_mem_cons.mpr ⟨(dk_m4 100 rfl rfl), (List.forall_mem_cons.mpr ⟨(dk_m4 102 rfl rfl), (List.forall_mem_cons.mpr ⟨(dk_m4 104 rfl rfl), (List.forall_mem_cons.mpr ⟨(dk_m4 106 rfl rfl), (List.forall_mem_cons.mpr ⟨(dk_m4 108 rfl rfl), (List.forall_mem_cons.mpr ⟨(dk_m4 110 rfl rfl), (List.forall_mem_cons.mpr ⟨(dk_m4 112 rfl rfl), (List.forall_mem_cons.mpr ⟨(dk_m4 114 rfl rfl), (List.forall_mem_cons.mpr ⟨(dk_m4 116 rfl rfl), (List.forall_mem_cons.mpr ⟨(dk_m4 118 rfl rfl), (List.forall_mem_cons.mpr ⟨(dk_m4 120 rfl rfl), (List.forall_mem_cons.mpr ⟨(dk_m4 122 rfl rfl), (List.forall_mem_cons.mpr ⟨(dk_m4 124 rfl rfl), (List.forall_mem_cons.mpr ⟨(dk_m4 126 rfl rfl), (List.forall_mem_cons.mpr ⟨(dk_m4 128 rfl rfl), (List.forall_mem_cons.mpr ⟨(dk_m4 130 rfl rfl), (List.forall_mem_cons.mpr ⟨(dk_m4 132 rfl rfl), (List.forall_mem_cons.mpr ⟨(dk_m4 134 rfl rfl), (List.forall_mem_cons.mpr ⟨(dk_m4 136 rfl rfl), (List.forall_mem_cons.mpr ⟨(dk_m4 138 rfl rfl), (List.forall_mem_cons.mpr ⟨(dk_m4 140 rfl rfl), (List.forall_mem_cons.mpr ⟨(dk_m4 142 rfl rfl), (List.forall_mem_cons.mpr ⟨(dk_m4 144 rfl rfl), (List.forall_mem_cons.mpr ⟨(dk_m4 146 rfl rfl), (List.forall_mem_cons.mpr ⟨(dk_m4 148 rfl rfl), (List.forall_mem_cons.mpr ⟨(dk_m4 150 rfl rfl), (List.forall_mem_cons.mpr ⟨(dk_m4 152 rfl rfl), (fun _ h => absurd h List.not_mem_nil)⟩)⟩)⟩)⟩)⟩)⟩)⟩)⟩)⟩)⟩)⟩)⟩)⟩)⟩)⟩)⟩)⟩)⟩)⟩)⟩)⟩)⟩)⟩)⟩)⟩)⟩)⟩)⟩)⟩)⟩)
theorem nnX8 : dk_N 8 := fun Cn T N h => by
  have h' : (RX8, TX8, 30) = (Cn, T, N) := Option.some.inj h
  cases h'
  exact ⟨⟨tyX8, tyX8_ok⟩, nmX8⟩
theorem oi1 : Cond.instanceMethod objectInit ∈ dk_tbl := (dk_m1 24 rfl rfl)
theorem oi2 : Cond.code objectInit ⟨#[0xb1]⟩ 1 none ∈ dk_tbl := (dk_m1 25 rfl rfl)
theorem mm1min : Cond.static Lib.Math.min.name ∈ dk_tbl := (dk_m3 13 rfl rfl)
theorem mm3min : Cond.code Lib.Math.min.name Lib.Math.min.code 2 (some .int) ∈ dk_tbl := (dk_m3 14 rfl rfl)
theorem mm1max : Cond.static Lib.Math.max.name ∈ dk_tbl := (dk_m3 203 rfl rfl)
theorem mm3max : Cond.code Lib.Math.max.name Lib.Math.max.code 2 (some .int) ∈ dk_tbl := (dk_m3 204 rfl rfl)
theorem mm2 : Cond.initialized "java/lang/Math" ∈ dk_tbl := (dk_m1 16 rfl rfl)
theorem ac2 : Cond.native arraycopyName ∈ dk_tbl := (dk_m3 138 rfl rfl)
theorem ac3 : Cond.static arraycopyName ∈ dk_tbl := (dk_m3 137 rfl rfl)
theorem ac4 : Cond.initialized "java/lang/System" ∈ dk_tbl := (dk_m1 15 rfl rfl)
theorem ar_int : Cond.arrayClass .int ∈ dk_tbl := (dk_m1 56 rfl rfl)
theorem ar_boolean : Cond.arrayClass .boolean ∈ dk_tbl := (dk_m1 57 rfl rfl)
theorem ar_float : Cond.arrayClass .float ∈ dk_tbl := (dk_m1 237 rfl rfl)
theorem ar_long : Cond.arrayClass .long ∈ dk_tbl := (dk_m5 96 rfl rfl)
theorem ar_double : Cond.arrayClass .double ∈ dk_tbl := (dk_m5 97 rfl rfl)
theorem oiX0_3 : Cond.methodLink RX0 3 objectInit ∈ dk_tbl := (dk_m1 71 rfl rfl)
theorem fX0_9 : dk_F RX0 9 0 2 := ⟨RX0, TX0, rfl, inX0, by decide, (dk_m1 78 rfl rfl)⟩
theorem fX0_15 : dk_F RX0 15 0 3 := ⟨RX0, TX0, rfl, inX0, by decide, (dk_m1 81 rfl rfl)⟩
theorem oiX1_1 : Cond.methodLink RX1 1 objectInit ∈ dk_tbl := (dk_m1 99 rfl rfl)
theorem fX1_7 : dk_F RX1 7 1 0 := ⟨RX1, TX1, rfl, inX1, by decide, (dk_m1 100 rfl rfl)⟩
theorem fX1_13 : dk_F RX1 13 1 2 := ⟨RX1, TX1, rfl, inX1, by decide, (dk_m1 108 rfl rfl)⟩
theorem fX1_16 : dk_F RX1 16 1 1 := ⟨RX1, TX1, rfl, inX1, by decide, (dk_m1 104 rfl rfl)⟩
theorem fX1_19 : dk_F RX1 19 1 3 := ⟨RX1, TX1, rfl, inX1, by decide, (dk_m1 112 rfl rfl)⟩
theorem oiX2_1 : Cond.methodLink RX2 1 objectInit ∈ dk_tbl := (dk_m1 131 rfl rfl)
theorem oiX3_3 : Cond.methodLink RX3 3 objectInit ∈ dk_tbl := (dk_m1 203 rfl rfl)
theorem fX3_11 : dk_F RX3 11 3 0 := ⟨RX3, TX3, rfl, inX3, by decide, (dk_m1 204 rfl rfl)⟩
theorem fzX3_0 : dk_Fz RX3 3 0 (.array .float) := ⟨nnX3, fun Cn T N h => by
  have h' : (RX3, TX3, 8) = (Cn, T, N) := Option.some.inj h
  cases h'
  exact ⟨rfl, rfl, by decide +kernel⟩⟩
theorem fX3_17 : dk_F RX3 17 3 1 := ⟨RX3, TX3, rfl, inX3, by decide, (dk_m1 205 rfl rfl)⟩
theorem fzX3_1 : dk_Fz RX3 3 1 (.array .float) := ⟨nnX3, fun Cn T N h => by
  have h' : (RX3, TX3, 8) = (Cn, T, N) := Option.some.inj h
  cases h'
  exact ⟨rfl, rfl, by decide +kernel⟩⟩
theorem fX3_20 : dk_F RX3 20 3 2 := ⟨RX3, TX3, rfl, inX3, by decide, (dk_m1 206 rfl rfl)⟩
theorem fzX3_2 : dk_Fz RX3 3 2 (.array .float) := ⟨nnX3, fun Cn T N h => by
  have h' : (RX3, TX3, 8) = (Cn, T, N) := Option.some.inj h
  cases h'
  exact ⟨rfl, rfl, by decide +kernel⟩⟩
theorem fX3_23 : dk_F RX3 23 3 3 := ⟨RX3, TX3, rfl, inX3, by decide, (dk_m1 207 rfl rfl)⟩
theorem fzX3_3 : dk_Fz RX3 3 3 (.array .int) := ⟨nnX3, fun Cn T N h => by
  have h' : (RX3, TX3, 8) = (Cn, T, N) := Option.some.inj h
  cases h'
  exact ⟨rfl, rfl, by decide +kernel⟩⟩
theorem fX3_27 : dk_F RX3 27 3 4 := ⟨RX3, TX3, rfl, inX3, by decide, (dk_m1 210 rfl rfl)⟩
theorem fzX3_4 : dk_Fz RX3 3 4 (.array .int) := ⟨nnX3, fun Cn T N h => by
  have h' : (RX3, TX3, 8) = (Cn, T, N) := Option.some.inj h
  cases h'
  exact ⟨rfl, rfl, by decide +kernel⟩⟩
theorem fX3_30 : dk_F RX3 30 3 5 := ⟨RX3, TX3, rfl, inX3, by decide, (dk_m1 213 rfl rfl)⟩
theorem fzX3_5 : dk_Fz RX3 3 5 (.array .int) := ⟨nnX3, fun Cn T N h => by
  have h' : (RX3, TX3, 8) = (Cn, T, N) := Option.some.inj h
  cases h'
  exact ⟨rfl, rfl, by decide +kernel⟩⟩
theorem fX3_33 : dk_F RX3 33 3 6 := ⟨RX3, TX3, rfl, inX3, by decide, (dk_m1 216 rfl rfl)⟩
theorem fzX3_6 : dk_Fz RX3 3 6 (.array .int) := ⟨nnX3, fun Cn T N h => by
  have h' : (RX3, TX3, 8) = (Cn, T, N) := Option.some.inj h
  cases h'
  exact ⟨rfl, rfl, by decide +kernel⟩⟩
theorem fX5_15 : dk_F RX5 15 5 1 := ⟨RX5, TX5, rfl, inX5, by decide, (dk_m1 34 rfl rfl)⟩
theorem mX5_42 : dk_LV RX5 42 yX5_value cX5_value 3 (some .int) 2 5 := ⟨⟨⟨(dk_m3 189 rfl rfl), (dk_m1 2 rfl rfl), (dk_m2 185 rfl rfl)⟩, ne1X5, ne2X5, by decide +kernel⟩, ⟨(dk_m2 183 rfl rfl), (dk_m2 184 rfl rfl)⟩, _, rfl, rfl⟩
theorem fX5_26 : dk_F RX5 26 5 4 := ⟨RX5, TX5, rfl, inX5, by decide, (dk_m1 38 rfl rfl)⟩
theorem mX5_38 : dk_LV RX5 38 yX5_standsBefore cX5_standsBefore 5 (some .boolean) 2 5 := ⟨⟨⟨(dk_m3 185 rfl rfl), (dk_m1 2 rfl rfl), (dk_m3 188 rfl rfl)⟩, ne1X5, ne2X5, by decide +kernel⟩, ⟨(dk_m3 187 rfl rfl), (dk_m0 19 rfl rfl)⟩, _, rfl, rfl⟩
theorem fX3_121 : dk_F RX3 121 5 4 := ⟨RX5, TX5, rfl, inX5, by decide, (dk_m1 39 rfl rfl)⟩
theorem mX3_145 : dk_LV RX3 145 yX5_differentValues cX5_differentValues 4 (some .int) 1 5 := ⟨⟨⟨(dk_m3 181 rfl rfl), (dk_m1 2 rfl rfl), (dk_m3 184 rfl rfl)⟩, ne1X5, ne2X5, by decide +kernel⟩, ⟨(dk_m3 182 rfl rfl), (dk_m3 183 rfl rfl)⟩, _, rfl, rfl⟩
theorem mmX5_46 : Cond.methodLink RX5 46 Lib.Math.min.name ∈ dk_tbl := (dk_m3 194 rfl rfl)
theorem mmX5_51 : Cond.methodLink RX5 51 Lib.Math.max.name ∈ dk_tbl := (dk_m3 202 rfl rfl)
theorem mX3_142 : dk_LV RX3 142 yX5_greatest cX5_greatest 4 (some .int) 1 5 := ⟨⟨⟨(dk_m3 198 rfl rfl), (dk_m1 2 rfl rfl), (dk_m3 201 rfl rfl)⟩, ne1X5, ne2X5, by decide +kernel⟩, ⟨(dk_m3 199 rfl rfl), (dk_m3 200 rfl rfl)⟩, _, rfl, rfl⟩
theorem mX3_135 : dk_LV RX3 135 yX5_least cX5_least 4 (some .int) 1 5 := ⟨⟨⟨(dk_m3 190 rfl rfl), (dk_m1 2 rfl rfl), (dk_m3 193 rfl rfl)⟩, ne1X5, ne2X5, by decide +kernel⟩, ⟨(dk_m3 191 rfl rfl), (dk_m3 192 rfl rfl)⟩, _, rfl, rfl⟩
theorem fX3_126 : dk_F RX3 126 0 1 := ⟨RX0, TX0, rfl, inX0, by decide, (dk_m1 76 rfl rfl)⟩
theorem fX3_129 : dk_F RX3 129 0 2 := ⟨RX0, TX0, rfl, inX0, by decide, (dk_m1 80 rfl rfl)⟩
theorem mX3_111 : dk_LS RX3 111 yX3_shareOfOneValue cX3_shareOfOneValue 2 (some .float) 2 := ⟨⟨⟨(dk_m3 178 rfl rfl), (dk_m1 7 rfl rfl), (dk_m3 180 rfl rfl)⟩, ne1X3, ne2X3, by decide +kernel⟩, (dk_m3 179 rfl rfl)⟩
theorem fX3_132 : dk_F RX3 132 0 3 := ⟨RX0, TX0, rfl, inX0, by decide, (dk_m1 83 rfl rfl)⟩
theorem mX3_138 : dk_LS RX3 138 yX3_shareOfSpan cX3_shareOfSpan 7 (some .float) 3 := ⟨⟨⟨(dk_m3 195 rfl rfl), (dk_m1 7 rfl rfl), (dk_m3 197 rfl rfl)⟩, ne1X3, ne2X3, by decide +kernel⟩, (dk_m3 196 rfl rfl)⟩
theorem fX3_78 : dk_F RX3 78 4 5 := ⟨RX4, TX4, rfl, inX4, by decide, (dk_m1 157 rfl rfl)⟩
theorem fX3_81 : dk_F RX3 81 4 1 := ⟨RX4, TX4, rfl, inX4, by decide, (dk_m1 145 rfl rfl)⟩
theorem fX3_85 : dk_F RX3 85 4 0 := ⟨RX4, TX4, rfl, inX4, by decide, (dk_m1 142 rfl rfl)⟩
theorem fX3_89 : dk_F RX3 89 0 0 := ⟨RX0, TX0, rfl, inX0, by decide, (dk_m1 73 rfl rfl)⟩
theorem mX3_94 : dk_LS RX3 94 yX3_shareOf cX3_shareOf 3 (some .float) 2 := ⟨⟨⟨(dk_m3 175 rfl rfl), (dk_m1 7 rfl rfl), (dk_m3 177 rfl rfl)⟩, ne1X3, ne2X3, by decide +kernel⟩, (dk_m3 176 rfl rfl)⟩
theorem fX3_98 : dk_F RX3 98 4 6 := ⟨RX4, TX4, rfl, inX4, by decide, (dk_m1 161 rfl rfl)⟩
theorem fX3_101 : dk_F RX3 101 4 2 := ⟨RX4, TX4, rfl, inX4, by decide, (dk_m1 148 rfl rfl)⟩
theorem fX3_105 : dk_F RX3 105 1 0 := ⟨RX1, TX1, rfl, inX1, by decide, (dk_m1 102 rfl rfl)⟩
theorem fX3_108 : dk_F RX3 108 1 1 := ⟨RX1, TX1, rfl, inX1, by decide, (dk_m1 106 rfl rfl)⟩
theorem fX3_115 : dk_F RX3 115 1 2 := ⟨RX1, TX1, rfl, inX1, by decide, (dk_m1 110 rfl rfl)⟩
theorem fX3_118 : dk_F RX3 118 1 3 := ⟨RX1, TX1, rfl, inX1, by decide, (dk_m1 114 rfl rfl)⟩
theorem gsX3_69 : Cond.fieldLink RX3 69 RX3 (dk_sn 0) "[I" ∈ dk_tbl := (dk_m3 208 rfl rfl)
theorem gsX3_72 : Cond.fieldLink RX3 72 RX3 (dk_sn 1) "[I" ∈ dk_tbl := (dk_m3 210 rfl rfl)
theorem gsX3_75 : Cond.fieldLink RX3 75 RX3 (dk_sn 2) "[I" ∈ dk_tbl := (dk_m3 212 rfl rfl)
theorem fX5_18 : dk_F RX5 18 5 2 := ⟨RX5, TX5, rfl, inX5, by decide, (dk_m1 35 rfl rfl)⟩
theorem fX3_152 : dk_F RX3 152 3 7 := ⟨RX3, TX3, rfl, inX3, by decide, (dk_m1 219 rfl rfl)⟩
theorem fwX3_7 : dk_Fw 3 7 .float := ⟨nnX3, fun Cn T N h => by
  have h' : (RX3, TX3, 8) = (Cn, T, N) := Option.some.inj h
  cases h'
  exact ⟨rfl, by decide +kernel⟩⟩
theorem mX3_168 : dk_LV RX3 168 yX3_takeWay cX3_takeWay 5 none 4 3 := ⟨⟨⟨(dk_m3 222 rfl rfl), (dk_m1 7 rfl rfl), (dk_m3 225 rfl rfl)⟩, ne1X3, ne2X3, by decide +kernel⟩, ⟨(dk_m3 224 rfl rfl), (dk_m0 22 rfl rfl)⟩, _, rfl, rfl⟩
theorem mX3_179 : dk_LV RX3 179 yX5_hasIndex cX5_hasIndex 3 (some .boolean) 2 5 := ⟨⟨⟨(dk_m3 230 rfl rfl), (dk_m1 2 rfl rfl), (dk_m2 92 rfl rfl)⟩, ne1X5, ne2X5, by decide +kernel⟩, ⟨(dk_m2 90 rfl rfl), (dk_m2 91 rfl rfl)⟩, _, rfl, rfl⟩
theorem mX3_182 : dk_LV RX3 182 yX3_considerWay cX3_considerWay 6 none 5 3 := ⟨⟨⟨(dk_m3 231 rfl rfl), (dk_m1 7 rfl rfl), (dk_m3 234 rfl rfl)⟩, ne1X3, ne2X3, by decide +kernel⟩, ⟨(dk_m3 233 rfl rfl), (dk_m0 24 rfl rfl)⟩, _, rfl, rfl⟩
theorem mX3_56 : dk_LV RX3 56 yX1_ties cX1_ties 2 (some .boolean) 1 1 := ⟨⟨⟨(dk_m2 194 rfl rfl), (dk_m1 5 rfl rfl), (dk_m2 197 rfl rfl)⟩, ne1X1, ne2X1, by decide +kernel⟩, ⟨(dk_m2 195 rfl rfl), (dk_m2 196 rfl rfl)⟩, _, rfl, rfl⟩
theorem mX3_62 : dk_LV RX3 62 yX1_partnerOf cX1_partnerOf 2 (some .int) 1 1 := ⟨⟨⟨(dk_m2 198 rfl rfl), (dk_m1 5 rfl rfl), (dk_m2 201 rfl rfl)⟩, ne1X1, ne2X1, by decide +kernel⟩, ⟨(dk_m2 199 rfl rfl), (dk_m2 200 rfl rfl)⟩, _, rfl, rfl⟩
theorem mX3_65 : dk_LV RX3 65 yX3_isBefore cX3_isBefore 4 (some .boolean) 2 3 := ⟨⟨⟨(dk_m2 202 rfl rfl), (dk_m1 7 rfl rfl), (dk_m2 205 rfl rfl)⟩, ne1X3, ne2X3, by decide +kernel⟩, ⟨(dk_m2 204 rfl rfl), (dk_m0 6 rfl rfl)⟩, _, rfl, rfl⟩
theorem mX3_186 : dk_LV RX3 186 yX1_columnOf cX1_columnOf 2 (some .int) 1 1 := ⟨⟨⟨(dk_m4 0 rfl rfl), (dk_m1 5 rfl rfl), (dk_m2 239 rfl rfl)⟩, ne1X1, ne2X1, by decide +kernel⟩, ⟨(dk_m2 237 rfl rfl), (dk_m2 238 rfl rfl)⟩, _, rfl, rfl⟩
theorem mX3_164 : dk_LV RX3 164 yX3_joinShare cX3_joinShare 4 (some .float) 3 3 := ⟨⟨⟨(dk_m4 1 rfl rfl), (dk_m1 7 rfl rfl), (dk_m4 4 rfl rfl)⟩, ne1X3, ne2X3, by decide +kernel⟩, ⟨(dk_m4 3 rfl rfl), (dk_m0 26 rfl rfl)⟩, _, rfl, rfl⟩
theorem mX3_172 : dk_LV RX3 172 yX3_considerCondition cX3_considerCondition 7 none 3 3 := ⟨⟨⟨(dk_m3 226 rfl rfl), (dk_m1 7 rfl rfl), (dk_m3 229 rfl rfl)⟩, ne1X3, ne2X3, by decide +kernel⟩, ⟨(dk_m3 228 rfl rfl), (dk_m0 23 rfl rfl)⟩, _, rfl, rfl⟩
theorem mX3_160 : dk_LV RX3 160 yX3_tiesBack cX3_tiesBack 3 (some .boolean) 2 3 := ⟨⟨⟨(dk_m3 235 rfl rfl), (dk_m1 7 rfl rfl), (dk_m2 193 rfl rfl)⟩, ne1X3, ne2X3, by decide +kernel⟩, ⟨(dk_m2 191 rfl rfl), (dk_m2 192 rfl rfl)⟩, _, rfl, rfl⟩
theorem mX3_176 : dk_LV RX3 176 yX3_considerJoin cX3_considerJoin 8 none 3 3 := ⟨⟨⟨(dk_m3 236 rfl rfl), (dk_m1 7 rfl rfl), (dk_m3 239 rfl rfl)⟩, ne1X3, ne2X3, by decide +kernel⟩, ⟨(dk_m3 238 rfl rfl), (dk_m0 25 rfl rfl)⟩, _, rfl, rfl⟩
theorem fX3_40 : dk_F RX3 40 4 4 := ⟨RX4, TX4, rfl, inX4, by decide, (dk_m1 153 rfl rfl)⟩
theorem mX3_148 : dk_LV RX3 148 yX3_takeBestWay cX3_takeBestWay 4 none 2 3 := ⟨⟨⟨(dk_m3 218 rfl rfl), (dk_m1 7 rfl rfl), (dk_m3 221 rfl rfl)⟩, ne1X3, ne2X3, by decide +kernel⟩, ⟨(dk_m3 220 rfl rfl), (dk_m0 21 rfl rfl)⟩, _, rfl, rfl⟩
theorem mX3_156 : dk_LV RX3 156 yX3_countBehind cX3_countBehind 7 (some .float) 3 3 := ⟨⟨⟨(dk_m4 5 rfl rfl), (dk_m1 7 rfl rfl), (dk_m4 8 rfl rfl)⟩, ne1X3, ne2X3, by decide +kernel⟩, ⟨(dk_m4 7 rfl rfl), (dk_m0 27 rfl rfl)⟩, _, rfl, rfl⟩
theorem mX3_36 : dk_LV RX3 36 yX3_measureShares cX3_measureShares 4 none 1 3 := ⟨⟨⟨(dk_m3 171 rfl rfl), (dk_m1 7 rfl rfl), (dk_m3 174 rfl rfl)⟩, ne1X3, ne2X3, by decide +kernel⟩, ⟨(dk_m3 173 rfl rfl), (dk_m0 18 rfl rfl)⟩, _, rfl, rfl⟩
theorem mX3_44 : dk_LS RX3 44 yX3_ordersOf cX3_ordersOf 1 (some (.array .int)) 1 := ⟨⟨⟨(dk_m3 205 rfl rfl), (dk_m1 7 rfl rfl), (dk_m3 207 rfl rfl)⟩, ne1X3, ne2X3, by decide +kernel⟩, (dk_m3 206 rfl rfl)⟩
theorem mX3_48 : dk_LV RX3 48 yX3_tryOrder cX3_tryOrder 7 (some .float) 3 3 := ⟨⟨⟨(dk_m3 214 rfl rfl), (dk_m1 7 rfl rfl), (dk_m3 217 rfl rfl)⟩, ne1X3, ne2X3, by decide +kernel⟩, ⟨(dk_m3 216 rfl rfl), (dk_m0 20 rfl rfl)⟩, _, rfl, rfl⟩
theorem mX3_52 : dk_LS RX3 52 yX3_orderCountOf cX3_orderCountOf 1 (some .int) 1 := ⟨⟨⟨(dk_m4 9 rfl rfl), (dk_m1 7 rfl rfl), (dk_m4 11 rfl rfl)⟩, ne1X3, ne2X3, by decide +kernel⟩, (dk_m4 10 rfl rfl)⟩
theorem oiX4_3 : Cond.methodLink RX4 3 objectInit ∈ dk_tbl := (dk_m1 63 rfl rfl)
theorem anX4_11 : Cond.classLink RX4 11 RX5 ∈ dk_tbl := (dk_m1 64 rfl rfl)
theorem fX4_13 : dk_F RX4 13 4 0 := ⟨RX4, TX4, rfl, inX4, by decide, (dk_m1 141 rfl rfl)⟩
theorem fzX4_0 : dk_Fz RX4 4 0 (.array (.object "QueryDesk$Table")) := ⟨nnX4, fun Cn T N h => by
  have h' : (RX4, TX4, 11) = (Cn, T, N) := Option.some.inj h
  cases h'
  exact ⟨rfl, rfl, by decide +kernel⟩⟩
theorem anX4_17 : Cond.classLink RX4 17 RX0 ∈ dk_tbl := (dk_m1 65 rfl rfl)
theorem fX4_19 : dk_F RX4 19 4 1 := ⟨RX4, TX4, rfl, inX4, by decide, (dk_m1 144 rfl rfl)⟩
theorem fzX4_1 : dk_Fz RX4 4 1 (.array (.object "QueryDesk$Condition")) := ⟨nnX4, fun Cn T N h => by
  have h' : (RX4, TX4, 11) = (Cn, T, N) := Option.some.inj h
  cases h'
  exact ⟨rfl, rfl, by decide +kernel⟩⟩
theorem mkX4_17 : dk_Mk RX4 17 0 := ⟨RX0, TX0, tyX0, rfl, inX0, tyX0_ok, by decide +kernel, (dk_m1 65 rfl rfl), (dk_m1 67 rfl rfl), (dk_m1 4 rfl rfl)⟩
theorem mX4_23 : dk_LN RX4 23 yX0_init cX0_init 1 0 := ⟨⟨(dk_m1 4 rfl rfl), (dk_m1 70 rfl rfl), (dk_m1 69 rfl rfl), rfl⟩, ⟨ne1X0, ne2X0, by decide +kernel⟩, fun G U h => h.2.2.1.1⟩
theorem anX4_24 : Cond.classLink RX4 24 RX1 ∈ dk_tbl := (dk_m1 93 rfl rfl)
theorem fX4_26 : dk_F RX4 26 4 2 := ⟨RX4, TX4, rfl, inX4, by decide, (dk_m1 147 rfl rfl)⟩
theorem fzX4_2 : dk_Fz RX4 4 2 (.array (.object "QueryDesk$Join")) := ⟨nnX4, fun Cn T N h => by
  have h' : (RX4, TX4, 11) = (Cn, T, N) := Option.some.inj h
  cases h'
  exact ⟨rfl, rfl, by decide +kernel⟩⟩
theorem mkX4_24 : dk_Mk RX4 24 1 := ⟨RX1, TX1, tyX1, rfl, inX1, tyX1_ok, by decide +kernel, (dk_m1 93 rfl rfl), (dk_m1 95 rfl rfl), (dk_m1 5 rfl rfl)⟩
theorem mX4_30 : dk_LN RX4 30 yX1_init cX1_init 1 0 := ⟨⟨(dk_m1 5 rfl rfl), (dk_m1 98 rfl rfl), (dk_m1 97 rfl rfl), rfl⟩, ⟨ne1X1, ne2X1, by decide +kernel⟩, fun G U h => h.2.2.1.2.1⟩
theorem anX4_31 : Cond.classLink RX4 31 RX2 ∈ dk_tbl := (dk_m1 125 rfl rfl)
theorem fX4_33 : dk_F RX4 33 4 3 := ⟨RX4, TX4, rfl, inX4, by decide, (dk_m1 150 rfl rfl)⟩
theorem fzX4_3 : dk_Fz RX4 4 3 (.array (.object "QueryDesk$Output")) := ⟨nnX4, fun Cn T N h => by
  have h' : (RX4, TX4, 11) = (Cn, T, N) := Option.some.inj h
  cases h'
  exact ⟨rfl, rfl, by decide +kernel⟩⟩
theorem mkX4_31 : dk_Mk RX4 31 2 := ⟨RX2, TX2, tyX2, rfl, inX2, tyX2_ok, by decide +kernel, (dk_m1 125 rfl rfl), (dk_m1 127 rfl rfl), (dk_m1 6 rfl rfl)⟩
theorem mX4_37 : dk_LN RX4 37 yX2_init cX2_init 1 0 := ⟨⟨(dk_m1 6 rfl rfl), (dk_m1 130 rfl rfl), (dk_m1 129 rfl rfl), rfl⟩, ⟨ne1X2, ne2X2, by decide +kernel⟩, fun G U h => h.2.2.1.2.2⟩
theorem fX4_38 : dk_F RX4 38 4 8 := ⟨RX4, TX4, rfl, inX4, by decide, (dk_m1 167 rfl rfl)⟩
theorem fwX4_8 : dk_Fw 4 8 .int := ⟨nnX4, fun Cn T N h => by
  have h' : (RX4, TX4, 11) = (Cn, T, N) := Option.some.inj h
  cases h'
  exact ⟨rfl, by decide +kernel⟩⟩
theorem fX4_42 : dk_F RX4 42 4 10 := ⟨RX4, TX4, rfl, inX4, by decide, (dk_m1 173 rfl rfl)⟩
theorem fwX4_10 : dk_Fw 4 10 .int := ⟨nnX4, fun Cn T N h => by
  have h' : (RX4, TX4, 11) = (Cn, T, N) := Option.some.inj h
  cases h'
  exact ⟨rfl, by decide +kernel⟩⟩
theorem fX4_45 : dk_F RX4 45 4 4 := ⟨RX4, TX4, rfl, inX4, by decide, (dk_m1 152 rfl rfl)⟩
theorem fwX4_4 : dk_Fw 4 4 .int := ⟨nnX4, fun Cn T N h => by
  have h' : (RX4, TX4, 11) = (Cn, T, N) := Option.some.inj h
  cases h'
  exact ⟨rfl, by decide +kernel⟩⟩
theorem fX4_48 : dk_F RX4 48 4 5 := ⟨RX4, TX4, rfl, inX4, by decide, (dk_m1 156 rfl rfl)⟩
theorem fwX4_5 : dk_Fw 4 5 .int := ⟨nnX4, fun Cn T N h => by
  have h' : (RX4, TX4, 11) = (Cn, T, N) := Option.some.inj h
  cases h'
  exact ⟨rfl, by decide +kernel⟩⟩
theorem fX4_51 : dk_F RX4 51 4 6 := ⟨RX4, TX4, rfl, inX4, by decide, (dk_m1 160 rfl rfl)⟩
theorem fwX4_6 : dk_Fw 4 6 .int := ⟨nnX4, fun Cn T N h => by
  have h' : (RX4, TX4, 11) = (Cn, T, N) := Option.some.inj h
  cases h'
  exact ⟨rfl, by decide +kernel⟩⟩
theorem fX4_54 : dk_F RX4 54 4 7 := ⟨RX4, TX4, rfl, inX4, by decide, (dk_m1 164 rfl rfl)⟩
theorem fwX4_7 : dk_Fw 4 7 .int := ⟨nnX4, fun Cn T N h => by
  have h' : (RX4, TX4, 11) = (Cn, T, N) := Option.some.inj h
  cases h'
  exact ⟨rfl, by decide +kernel⟩⟩
theorem fX4_57 : dk_F RX4 57 4 9 := ⟨RX4, TX4, rfl, inX4, by decide, (dk_m1 170 rfl rfl)⟩
theorem fwX4_9 : dk_Fw 4 9 .boolean := ⟨nnX4, fun Cn T N h => by
  have h' : (RX4, TX4, 11) = (Cn, T, N) := Option.some.inj h
  cases h'
  exact ⟨rfl, by decide +kernel⟩⟩
theorem fX5_22 : dk_F RX5 22 5 3 := ⟨RX5, TX5, rfl, inX5, by decide, (dk_m1 36 rfl rfl)⟩
theorem mX4_61 : dk_LV RX4 61 yX5_hasColumn cX5_hasColumn 2 (some .boolean) 1 5 := ⟨⟨⟨(dk_m2 125 rfl rfl), (dk_m1 2 rfl rfl), (dk_m2 85 rfl rfl)⟩, ne1X5, ne2X5, by decide +kernel⟩, ⟨(dk_m2 83 rfl rfl), (dk_m2 84 rfl rfl)⟩, _, rfl, rfl⟩
theorem fX4_65 : dk_F RX4 65 0 0 := ⟨RX0, TX0, rfl, inX0, by decide, (dk_m1 72 rfl rfl)⟩
theorem fwX0_0 : dk_Fw 0 0 .int := ⟨nnX0, fun Cn T N h => by
  have h' : (RX0, TX0, 4) = (Cn, T, N) := Option.some.inj h
  cases h'
  exact ⟨rfl, by decide +kernel⟩⟩
theorem fX4_68 : dk_F RX4 68 0 1 := ⟨RX0, TX0, rfl, inX0, by decide, (dk_m1 75 rfl rfl)⟩
theorem fwX0_1 : dk_Fw 0 1 .int := ⟨nnX0, fun Cn T N h => by
  have h' : (RX0, TX0, 4) = (Cn, T, N) := Option.some.inj h
  cases h'
  exact ⟨rfl, by decide +kernel⟩⟩
theorem fX4_71 : dk_F RX4 71 0 2 := ⟨RX0, TX0, rfl, inX0, by decide, (dk_m1 79 rfl rfl)⟩
theorem fwX0_2 : dk_Fw 0 2 .int := ⟨nnX0, fun Cn T N h => by
  have h' : (RX0, TX0, 4) = (Cn, T, N) := Option.some.inj h
  cases h'
  exact ⟨rfl, by decide +kernel⟩⟩
theorem fX4_74 : dk_F RX4 74 0 3 := ⟨RX0, TX0, rfl, inX0, by decide, (dk_m1 82 rfl rfl)⟩
theorem fwX0_3 : dk_Fw 0 3 .int := ⟨nnX0, fun Cn T N h => by
  have h' : (RX0, TX0, 4) = (Cn, T, N) := Option.some.inj h
  cases h'
  exact ⟨rfl, by decide +kernel⟩⟩
theorem fX4_77 : dk_F RX4 77 1 0 := ⟨RX1, TX1, rfl, inX1, by decide, (dk_m1 101 rfl rfl)⟩
theorem fwX1_0 : dk_Fw 1 0 .int := ⟨nnX1, fun Cn T N h => by
  have h' : (RX1, TX1, 4) = (Cn, T, N) := Option.some.inj h
  cases h'
  exact ⟨rfl, by decide +kernel⟩⟩
theorem fX4_80 : dk_F RX4 80 1 1 := ⟨RX1, TX1, rfl, inX1, by decide, (dk_m1 105 rfl rfl)⟩
theorem fwX1_1 : dk_Fw 1 1 .int := ⟨nnX1, fun Cn T N h => by
  have h' : (RX1, TX1, 4) = (Cn, T, N) := Option.some.inj h
  cases h'
  exact ⟨rfl, by decide +kernel⟩⟩
theorem fX4_83 : dk_F RX4 83 1 2 := ⟨RX1, TX1, rfl, inX1, by decide, (dk_m1 109 rfl rfl)⟩
theorem fwX1_2 : dk_Fw 1 2 .int := ⟨nnX1, fun Cn T N h => by
  have h' : (RX1, TX1, 4) = (Cn, T, N) := Option.some.inj h
  cases h'
  exact ⟨rfl, by decide +kernel⟩⟩
theorem fX4_86 : dk_F RX4 86 1 3 := ⟨RX1, TX1, rfl, inX1, by decide, (dk_m1 113 rfl rfl)⟩
theorem fwX1_3 : dk_Fw 1 3 .int := ⟨nnX1, fun Cn T N h => by
  have h' : (RX1, TX1, 4) = (Cn, T, N) := Option.some.inj h
  cases h'
  exact ⟨rfl, by decide +kernel⟩⟩
theorem fX4_89 : dk_F RX4 89 2 0 := ⟨RX2, TX2, rfl, inX2, by decide, (dk_m1 132 rfl rfl)⟩
theorem fwX2_0 : dk_Fw 2 0 .int := ⟨nnX2, fun Cn T N h => by
  have h' : (RX2, TX2, 2) = (Cn, T, N) := Option.some.inj h
  cases h'
  exact ⟨rfl, by decide +kernel⟩⟩
theorem fX4_90 : dk_F RX4 90 2 1 := ⟨RX2, TX2, rfl, inX2, by decide, (dk_m1 134 rfl rfl)⟩
theorem fwX2_1 : dk_Fw 2 1 .int := ⟨nnX2, fun Cn T N h => by
  have h' : (RX2, TX2, 2) = (Cn, T, N) := Option.some.inj h
  cases h'
  exact ⟨rfl, by decide +kernel⟩⟩
theorem mX4_91 : dk_LV RX4 91 yX4_isOrdered cX4_isOrdered 1 (some .boolean) 0 4 := ⟨⟨⟨(dk_m2 166 rfl rfl), (dk_m1 3 rfl rfl), (dk_m2 169 rfl rfl)⟩, ne1X4, ne2X4, by decide +kernel⟩, ⟨(dk_m2 167 rfl rfl), (dk_m2 168 rfl rfl)⟩, _, rfl, rfl⟩
theorem oiX5_3 : Cond.methodLink RX5 3 objectInit ∈ dk_tbl := (dk_m1 32 rfl rfl)
theorem fX5_11 : dk_F RX5 11 5 0 := ⟨RX5, TX5, rfl, inX5, by decide, (dk_m1 33 rfl rfl)⟩
theorem fzX5_0 : dk_Fz RX5 5 0 (.array .int) := ⟨nnX5, fun Cn T N h => by
  have h' : (RX5, TX5, 6) = (Cn, T, N) := Option.some.inj h
  cases h'
  exact ⟨rfl, rfl, by decide +kernel⟩⟩
theorem fzX5_1 : dk_Fz RX5 5 1 (.array .int) := ⟨nnX5, fun Cn T N h => by
  have h' : (RX5, TX5, 6) = (Cn, T, N) := Option.some.inj h
  cases h'
  exact ⟨rfl, rfl, by decide +kernel⟩⟩
theorem fzX5_2 : dk_Fz RX5 5 2 (.array .boolean) := ⟨nnX5, fun Cn T N h => by
  have h' : (RX5, TX5, 6) = (Cn, T, N) := Option.some.inj h
  cases h'
  exact ⟨rfl, rfl, by decide +kernel⟩⟩
theorem fwX5_3 : dk_Fw 5 3 .int := ⟨nnX5, fun Cn T N h => by
  have h' : (RX5, TX5, 6) = (Cn, T, N) := Option.some.inj h
  cases h'
  exact ⟨rfl, by decide +kernel⟩⟩
theorem fwX5_4 : dk_Fw 5 4 .int := ⟨nnX5, fun Cn T N h => by
  have h' : (RX5, TX5, 6) = (Cn, T, N) := Option.some.inj h
  cases h'
  exact ⟨rfl, by decide +kernel⟩⟩
theorem fX5_29 : dk_F RX5 29 5 5 := ⟨RX5, TX5, rfl, inX5, by decide, (dk_m1 42 rfl rfl)⟩
theorem fwX5_5 : dk_Fw 5 5 .int := ⟨nnX5, fun Cn T N h => by
  have h' : (RX5, TX5, 6) = (Cn, T, N) := Option.some.inj h
  cases h'
  exact ⟨rfl, by decide +kernel⟩⟩
theorem acX5_32 : Cond.methodLink RX5 32 arraycopyName ∈ dk_tbl := (dk_m3 136 rfl rfl)
theorem oiX6_3 : Cond.methodLink RX6 3 objectInit ∈ dk_tbl := (dk_m2 3 rfl rfl)
theorem fX6_13 : dk_F RX6 13 6 0 := ⟨RX6, TX6, rfl, inX6, by decide, (dk_m2 4 rfl rfl)⟩
theorem fzX6_0 : dk_Fz RX6 6 0 (.array .int) := ⟨nnX6, fun Cn T N h => by
  have h' : (RX6, TX6, 9) = (Cn, T, N) := Option.some.inj h
  cases h'
  exact ⟨rfl, rfl, by decide +kernel⟩⟩
theorem fX6_19 : dk_F RX6 19 6 1 := ⟨RX6, TX6, rfl, inX6, by decide, (dk_m2 5 rfl rfl)⟩
theorem fzX6_1 : dk_Fz RX6 6 1 (.array .int) := ⟨nnX6, fun Cn T N h => by
  have h' : (RX6, TX6, 9) = (Cn, T, N) := Option.some.inj h
  cases h'
  exact ⟨rfl, rfl, by decide +kernel⟩⟩
theorem fX6_22 : dk_F RX6 22 6 2 := ⟨RX6, TX6, rfl, inX6, by decide, (dk_m2 6 rfl rfl)⟩
theorem fzX6_2 : dk_Fz RX6 6 2 (.array .int) := ⟨nnX6, fun Cn T N h => by
  have h' : (RX6, TX6, 9) = (Cn, T, N) := Option.some.inj h
  cases h'
  exact ⟨rfl, rfl, by decide +kernel⟩⟩
theorem fX6_25 : dk_F RX6 25 6 3 := ⟨RX6, TX6, rfl, inX6, by decide, (dk_m2 7 rfl rfl)⟩
theorem fzX6_3 : dk_Fz RX6 6 3 (.array .int) := ⟨nnX6, fun Cn T N h => by
  have h' : (RX6, TX6, 9) = (Cn, T, N) := Option.some.inj h
  cases h'
  exact ⟨rfl, rfl, by decide +kernel⟩⟩
theorem fX6_28 : dk_F RX6 28 6 4 := ⟨RX6, TX6, rfl, inX6, by decide, (dk_m2 8 rfl rfl)⟩
theorem fzX6_4 : dk_Fz RX6 6 4 (.array .int) := ⟨nnX6, fun Cn T N h => by
  have h' : (RX6, TX6, 9) = (Cn, T, N) := Option.some.inj h
  cases h'
  exact ⟨rfl, rfl, by decide +kernel⟩⟩
theorem fX6_31 : dk_F RX6 31 6 5 := ⟨RX6, TX6, rfl, inX6, by decide, (dk_m2 9 rfl rfl)⟩
theorem fzX6_5 : dk_Fz RX6 6 5 (.array .int) := ⟨nnX6, fun Cn T N h => by
  have h' : (RX6, TX6, 9) = (Cn, T, N) := Option.some.inj h
  cases h'
  exact ⟨rfl, rfl, by decide +kernel⟩⟩
theorem fX6_34 : dk_F RX6 34 6 8 := ⟨RX6, TX6, rfl, inX6, by decide, (dk_m2 14 rfl rfl)⟩
theorem fwX6_8 : dk_Fw 6 8 .int := ⟨nnX6, fun Cn T N h => by
  have h' : (RX6, TX6, 9) = (Cn, T, N) := Option.some.inj h
  cases h'
  exact ⟨rfl, by decide +kernel⟩⟩
theorem fX6_38 : dk_F RX6 38 6 6 := ⟨RX6, TX6, rfl, inX6, by decide, (dk_m2 10 rfl rfl)⟩
theorem fwX6_6 : dk_Fw 6 6 .int := ⟨nnX6, fun Cn T N h => by
  have h' : (RX6, TX6, 9) = (Cn, T, N) := Option.some.inj h
  cases h'
  exact ⟨rfl, by decide +kernel⟩⟩
theorem fX6_41 : dk_F RX6 41 6 7 := ⟨RX6, TX6, rfl, inX6, by decide, (dk_m2 12 rfl rfl)⟩
theorem fwX6_7 : dk_Fw 6 7 .int := ⟨nnX6, fun Cn T N h => by
  have h' : (RX6, TX6, 9) = (Cn, T, N) := Option.some.inj h
  cases h'
  exact ⟨rfl, by decide +kernel⟩⟩
theorem mX6_126 : dk_LV RX6 126 yX5_value cX5_value 3 (some .int) 2 5 := ⟨⟨⟨(dk_m2 182 rfl rfl), (dk_m1 2 rfl rfl), (dk_m2 185 rfl rfl)⟩, ne1X5, ne2X5, by decide +kernel⟩, ⟨(dk_m2 183 rfl rfl), (dk_m2 184 rfl rfl)⟩, _, rfl, rfl⟩
theorem fX6_86 : dk_F RX6 86 0 1 := ⟨RX0, TX0, rfl, inX0, by decide, (dk_m1 77 rfl rfl)⟩
theorem mX6_93 : dk_LV RX6 93 yX0_holds cX0_holds 2 (some .boolean) 1 0 := ⟨⟨⟨(dk_m2 186 rfl rfl), (dk_m1 4 rfl rfl), (dk_m2 189 rfl rfl)⟩, ne1X0, ne2X0, by decide +kernel⟩, ⟨(dk_m2 187 rfl rfl), (dk_m2 188 rfl rfl)⟩, _, rfl, rfl⟩
theorem mX6_150 : dk_LV RX6 150 yX6_addPlace cX6_addPlace 2 none 1 6 := ⟨⟨⟨(dk_m2 223 rfl rfl), (dk_m1 8 rfl rfl), (dk_m2 226 rfl rfl)⟩, ne1X6, ne2X6, by decide +kernel⟩, ⟨(dk_m2 225 rfl rfl), (dk_m0 11 rfl rfl)⟩, _, rfl, rfl⟩
theorem mX6_154 : dk_LV RX6 154 yX6_sinkLastPlace cX6_sinkLastPlace 7 none 2 6 := ⟨⟨⟨(dk_m2 227 rfl rfl), (dk_m1 8 rfl rfl), (dk_m2 230 rfl rfl)⟩, ne1X6, ne2X6, by decide +kernel⟩, ⟨(dk_m2 229 rfl rfl), (dk_m0 12 rfl rfl)⟩, _, rfl, rfl⟩
theorem fX6_122 : dk_F RX6 122 4 0 := ⟨RX4, TX4, rfl, inX4, by decide, (dk_m1 143 rfl rfl)⟩
theorem mX6_158 : dk_LV RX6 158 yX1_partnerOf cX1_partnerOf 2 (some .int) 1 1 := ⟨⟨⟨(dk_m2 235 rfl rfl), (dk_m1 5 rfl rfl), (dk_m2 201 rfl rfl)⟩, ne1X1, ne2X1, by decide +kernel⟩, ⟨(dk_m2 199 rfl rfl), (dk_m2 200 rfl rfl)⟩, _, rfl, rfl⟩
theorem mX6_162 : dk_LV RX6 162 yX1_columnOf cX1_columnOf 2 (some .int) 1 1 := ⟨⟨⟨(dk_m2 236 rfl rfl), (dk_m1 5 rfl rfl), (dk_m2 239 rfl rfl)⟩, ne1X1, ne2X1, by decide +kernel⟩, ⟨(dk_m2 237 rfl rfl), (dk_m2 238 rfl rfl)⟩, _, rfl, rfl⟩
theorem mX6_89 : dk_LV RX6 89 yX6_readValue cX6_readValue 4 (some .int) 3 6 := ⟨⟨⟨(dk_m2 178 rfl rfl), (dk_m1 8 rfl rfl), (dk_m2 181 rfl rfl)⟩, ne1X6, ne2X6, by decide +kernel⟩, ⟨(dk_m2 180 rfl rfl), (dk_m0 5 rfl rfl)⟩, _, rfl, rfl⟩
theorem fX6_58 : dk_F RX6 58 3 3 := ⟨RX3, TX3, rfl, inX3, by decide, (dk_m1 208 rfl rfl)⟩
theorem fX6_130 : dk_F RX6 130 5 4 := ⟨RX5, TX5, rfl, inX5, by decide, (dk_m1 40 rfl rfl)⟩
theorem fX6_133 : dk_F RX6 133 3 5 := ⟨RX3, TX3, rfl, inX3, by decide, (dk_m1 214 rfl rfl)⟩
theorem fX6_77 : dk_F RX6 77 4 1 := ⟨RX4, TX4, rfl, inX4, by decide, (dk_m1 146 rfl rfl)⟩
theorem fX6_136 : dk_F RX6 136 3 4 := ⟨RX3, TX3, rfl, inX3, by decide, (dk_m1 211 rfl rfl)⟩
theorem mX6_139 : dk_LV RX6 139 yX6_openByCondition cX6_openByCondition 5 none 4 6 := ⟨⟨⟨(dk_m2 219 rfl rfl), (dk_m1 8 rfl rfl), (dk_m2 222 rfl rfl)⟩, ne1X6, ne2X6, by decide +kernel⟩, ⟨(dk_m2 221 rfl rfl), (dk_m0 10 rfl rfl)⟩, _, rfl, rfl⟩
theorem fX6_143 : dk_F RX6 143 3 6 := ⟨RX3, TX3, rfl, inX3, by decide, (dk_m1 217 rfl rfl)⟩
theorem fX6_100 : dk_F RX6 100 4 2 := ⟨RX4, TX4, rfl, inX4, by decide, (dk_m1 149 rfl rfl)⟩
theorem mX6_146 : dk_LV RX6 146 yX6_openByJoin cX6_openByJoin 7 none 4 6 := ⟨⟨⟨(dk_m2 231 rfl rfl), (dk_m1 8 rfl rfl), (dk_m2 234 rfl rfl)⟩, ne1X6, ne2X6, by decide +kernel⟩, ⟨(dk_m2 233 rfl rfl), (dk_m0 13 rfl rfl)⟩, _, rfl, rfl⟩
theorem mX6_44 : dk_LV RX6 44 yX6_clear cX6_clear 1 none 0 6 := ⟨⟨⟨(dk_m4 16 rfl rfl), (dk_m1 8 rfl rfl), (dk_m2 69 rfl rfl)⟩, ne1X6, ne2X6, by decide +kernel⟩, ⟨(dk_m2 67 rfl rfl), (dk_m2 68 rfl rfl)⟩, _, rfl, rfl⟩
theorem mX6_47 : dk_LV RX6 47 yX6_openSource cX6_openSource 7 none 3 6 := ⟨⟨⟨(dk_m2 215 rfl rfl), (dk_m1 8 rfl rfl), (dk_m2 218 rfl rfl)⟩, ne1X6, ne2X6, by decide +kernel⟩, ⟨(dk_m2 217 rfl rfl), (dk_m0 9 rfl rfl)⟩, _, rfl, rfl⟩
theorem mX6_51 : dk_LV RX6 51 yX6_leaveFinishedSources cX6_leaveFinishedSources 1 none 0 6 := ⟨⟨⟨(dk_m3 0 rfl rfl), (dk_m1 8 rfl rfl), (dk_m3 3 rfl rfl)⟩, ne1X6, ne2X6, by decide +kernel⟩, ⟨(dk_m3 2 rfl rfl), (dk_m0 14 rfl rfl)⟩, _, rfl, rfl⟩
theorem mX6_54 : dk_LV RX6 54 yX4_enoughAnswers cX4_enoughAnswers 1 (some .int) 0 4 := ⟨⟨⟨(dk_m2 162 rfl rfl), (dk_m1 3 rfl rfl), (dk_m2 165 rfl rfl)⟩, ne1X4, ne2X4, by decide +kernel⟩, ⟨(dk_m2 163 rfl rfl), (dk_m2 164 rfl rfl)⟩, _, rfl, rfl⟩
theorem fX6_74 : dk_F RX6 74 4 5 := ⟨RX4, TX4, rfl, inX4, by decide, (dk_m1 158 rfl rfl)⟩
theorem fX6_81 : dk_F RX6 81 0 0 := ⟨RX0, TX0, rfl, inX0, by decide, (dk_m1 74 rfl rfl)⟩
theorem fX6_97 : dk_F RX6 97 4 6 := ⟨RX4, TX4, rfl, inX4, by decide, (dk_m1 162 rfl rfl)⟩
theorem mX6_104 : dk_LV RX6 104 yX3_tiesBack cX3_tiesBack 3 (some .boolean) 2 3 := ⟨⟨⟨(dk_m2 190 rfl rfl), (dk_m1 7 rfl rfl), (dk_m2 193 rfl rfl)⟩, ne1X3, ne2X3, by decide +kernel⟩, ⟨(dk_m2 191 rfl rfl), (dk_m2 192 rfl rfl)⟩, _, rfl, rfl⟩
theorem fX6_108 : dk_F RX6 108 1 0 := ⟨RX1, TX1, rfl, inX1, by decide, (dk_m1 103 rfl rfl)⟩
theorem fX6_113 : dk_F RX6 113 1 1 := ⟨RX1, TX1, rfl, inX1, by decide, (dk_m1 107 rfl rfl)⟩
theorem fX6_116 : dk_F RX6 116 1 2 := ⟨RX1, TX1, rfl, inX1, by decide, (dk_m1 111 rfl rfl)⟩
theorem fX6_119 : dk_F RX6 119 1 3 := ⟨RX1, TX1, rfl, inX1, by decide, (dk_m1 115 rfl rfl)⟩
theorem fX6_184 : dk_F RX6 184 4 8 := ⟨RX4, TX4, rfl, inX4, by decide, (dk_m1 169 rfl rfl)⟩
theorem fX6_187 : dk_F RX6 187 4 9 := ⟨RX4, TX4, rfl, inX4, by decide, (dk_m1 172 rfl rfl)⟩
theorem fX6_165 : dk_F RX6 165 4 7 := ⟨RX4, TX4, rfl, inX4, by decide, (dk_m1 166 rfl rfl)⟩
theorem fX6_168 : dk_F RX6 168 4 3 := ⟨RX4, TX4, rfl, inX4, by decide, (dk_m1 151 rfl rfl)⟩
theorem fX6_172 : dk_F RX6 172 2 0 := ⟨RX2, TX2, rfl, inX2, by decide, (dk_m1 133 rfl rfl)⟩
theorem fX6_175 : dk_F RX6 175 2 1 := ⟨RX2, TX2, rfl, inX2, by decide, (dk_m1 135 rfl rfl)⟩
theorem mX6_176 : dk_LV RX6 176 yX4_isOrdered cX4_isOrdered 1 (some .boolean) 0 4 := ⟨⟨⟨(dk_m2 210 rfl rfl), (dk_m1 3 rfl rfl), (dk_m2 169 rfl rfl)⟩, ne1X4, ne2X4, by decide +kernel⟩, ⟨(dk_m2 167 rfl rfl), (dk_m2 168 rfl rfl)⟩, _, rfl, rfl⟩
theorem mX6_180 : dk_LV RX6 180 yX6_goesBefore cX6_goesBefore 6 (some .boolean) 3 6 := ⟨⟨⟨(dk_m2 211 rfl rfl), (dk_m1 8 rfl rfl), (dk_m2 214 rfl rfl)⟩, ne1X6, ne2X6, by decide +kernel⟩, ⟨(dk_m2 213 rfl rfl), (dk_m0 8 rfl rfl)⟩, _, rfl, rfl⟩
theorem mX6_63 : dk_LV RX6 63 yX6_passes cX6_passes 6 (some .boolean) 2 6 := ⟨⟨⟨(dk_m2 174 rfl rfl), (dk_m1 8 rfl rfl), (dk_m2 177 rfl rfl)⟩, ne1X6, ne2X6, by decide +kernel⟩, ⟨(dk_m2 176 rfl rfl), (dk_m0 4 rfl rfl)⟩, _, rfl, rfl⟩
theorem fX6_67 : dk_F RX6 67 4 4 := ⟨RX4, TX4, rfl, inX4, by decide, (dk_m1 154 rfl rfl)⟩
theorem mX6_70 : dk_LV RX6 70 yX6_keepAnswer cX6_keepAnswer 5 none 1 6 := ⟨⟨⟨(dk_m2 206 rfl rfl), (dk_m1 8 rfl rfl), (dk_m2 209 rfl rfl)⟩, ne1X6, ne2X6, by decide +kernel⟩, ⟨(dk_m2 208 rfl rfl), (dk_m0 7 rfl rfl)⟩, _, rfl, rfl⟩
theorem oiX7_1 : Cond.methodLink RX7 1 objectInit ∈ dk_tbl := (dk_m1 23 rfl rfl)
theorem anX7_9 : Cond.classLink RX7 9 RX5 ∈ dk_tbl := (dk_m1 26 rfl rfl)
theorem fX7_11 : dk_F RX7 11 7 0 := ⟨RX7, TX7, rfl, inX7, by decide, (dk_m2 34 rfl rfl)⟩
theorem fzX7_0 : dk_Fz RX7 7 0 (.array (.object "QueryDesk$Table")) := ⟨nnX7, fun Cn T N h => by
  have h' : (RX7, TX7, 5) = (Cn, T, N) := Option.some.inj h
  cases h'
  exact ⟨rfl, rfl, by decide +kernel⟩⟩
theorem mkX7_9 : dk_Mk RX7 9 5 := ⟨RX5, TX5, tyX5, rfl, inX5, tyX5_ok, by decide +kernel, (dk_m1 26 rfl rfl), (dk_m1 28 rfl rfl), (dk_m1 2 rfl rfl)⟩
theorem mX7_15 : dk_LI RX7 15 yX5_init cX5_init 1 0 := ⟨⟨⟨(dk_m1 29 rfl rfl), (dk_m1 2 rfl rfl), (dk_m1 31 rfl rfl)⟩, ne1X5, ne2X5, by decide +kernel⟩, (dk_m1 30 rfl rfl), rfl⟩
theorem mkX7_16 : dk_Mk RX7 16 4 := ⟨RX4, TX4, tyX4, rfl, inX4, tyX4_ok, by decide +kernel, (dk_m1 58 rfl rfl), (dk_m1 59 rfl rfl), (dk_m1 3 rfl rfl)⟩
theorem mX7_18 : dk_LI RX7 18 yX4_init cX4_init 2 0 := ⟨⟨⟨(dk_m1 60 rfl rfl), (dk_m1 3 rfl rfl), (dk_m1 62 rfl rfl)⟩, ne1X4, ne2X4, by decide +kernel⟩, (dk_m1 61 rfl rfl), rfl⟩
theorem fX7_19 : dk_F RX7 19 7 1 := ⟨RX7, TX7, rfl, inX7, by decide, (dk_m2 35 rfl rfl)⟩
theorem fzX7_1 : dk_Fz RX7 7 1 (.object "QueryDesk$Question") := ⟨nnX7, fun Cn T N h => by
  have h' : (RX7, TX7, 5) = (Cn, T, N) := Option.some.inj h
  cases h'
  exact ⟨rfl, rfl, by decide +kernel⟩⟩
theorem mkX7_23 : dk_Mk RX7 23 3 := ⟨RX3, TX3, tyX3, rfl, inX3, tyX3_ok, by decide +kernel, (dk_m1 198 rfl rfl), (dk_m1 199 rfl rfl), (dk_m1 7 rfl rfl)⟩
theorem mX7_25 : dk_LI RX7 25 yX3_init cX3_init 1 0 := ⟨⟨⟨(dk_m1 200 rfl rfl), (dk_m1 7 rfl rfl), (dk_m1 202 rfl rfl)⟩, ne1X3, ne2X3, by decide +kernel⟩, (dk_m1 201 rfl rfl), rfl⟩
theorem fX7_26 : dk_F RX7 26 7 2 := ⟨RX7, TX7, rfl, inX7, by decide, (dk_m2 36 rfl rfl)⟩
theorem fzX7_2 : dk_Fz RX7 7 2 (.object "QueryDesk$Plan") := ⟨nnX7, fun Cn T N h => by
  have h' : (RX7, TX7, 5) = (Cn, T, N) := Option.some.inj h
  cases h'
  exact ⟨rfl, rfl, by decide +kernel⟩⟩
theorem mkX7_30 : dk_Mk RX7 30 6 := ⟨RX6, TX6, tyX6, rfl, inX6, tyX6_ok, by decide +kernel, (dk_m1 238 rfl rfl), (dk_m1 239 rfl rfl), (dk_m1 8 rfl rfl)⟩
theorem mX7_32 : dk_LI RX7 32 yX6_init cX6_init 1 0 := ⟨⟨⟨(dk_m2 0 rfl rfl), (dk_m1 8 rfl rfl), (dk_m2 2 rfl rfl)⟩, ne1X6, ne2X6, by decide +kernel⟩, (dk_m2 1 rfl rfl), rfl⟩
theorem fX7_33 : dk_F RX7 33 7 3 := ⟨RX7, TX7, rfl, inX7, by decide, (dk_m2 37 rfl rfl)⟩
theorem fzX7_3 : dk_Fz RX7 7 3 (.object "QueryDesk$Work") := ⟨nnX7, fun Cn T N h => by
  have h' : (RX7, TX7, 5) = (Cn, T, N) := Option.some.inj h
  cases h'
  exact ⟨rfl, rfl, by decide +kernel⟩⟩
theorem fX7_37 : dk_F RX7 37 7 4 := ⟨RX7, TX7, rfl, inX7, by decide, (dk_m2 38 rfl rfl)⟩
theorem fwX7_4 : dk_Fw 7 4 .int := ⟨nnX7, fun Cn T N h => by
  have h' : (RX7, TX7, 5) = (Cn, T, N) := Option.some.inj h
  cases h'
  exact ⟨rfl, by decide +kernel⟩⟩
theorem mX7_208 : dk_LV RX7 208 yX4_clear cX4_clear 1 none 0 4 := ⟨⟨⟨(dk_m2 62 rfl rfl), (dk_m1 3 rfl rfl), (dk_m2 65 rfl rfl)⟩, ne1X4, ne2X4, by decide +kernel⟩, ⟨(dk_m2 63 rfl rfl), (dk_m2 64 rfl rfl)⟩, _, rfl, rfl⟩
theorem mX7_211 : dk_LV RX7 211 yX6_clear cX6_clear 1 none 0 6 := ⟨⟨⟨(dk_m2 66 rfl rfl), (dk_m1 8 rfl rfl), (dk_m2 69 rfl rfl)⟩, ne1X6, ne2X6, by decide +kernel⟩, ⟨(dk_m2 67 rfl rfl), (dk_m2 68 rfl rfl)⟩, _, rfl, rfl⟩
theorem mX7_41 : dk_LV RX7 41 yX5_makeAnew cX5_makeAnew 3 none 1 5 := ⟨⟨⟨(dk_m2 54 rfl rfl), (dk_m1 2 rfl rfl), (dk_m2 57 rfl rfl)⟩, ne1X5, ne2X5, by decide +kernel⟩, ⟨(dk_m2 55 rfl rfl), (dk_m2 56 rfl rfl)⟩, _, rfl, rfl⟩
theorem mX7_45 : dk_LV RX7 45 yX7_beginQuestion cX7_beginQuestion 1 none 0 7 := ⟨⟨⟨(dk_m2 58 rfl rfl), (dk_m1 1 rfl rfl), (dk_m2 61 rfl rfl)⟩, ne1X7, ne2X7, by decide +kernel⟩, ⟨(dk_m2 60 rfl rfl), (dk_m0 0 rfl rfl)⟩, _, rfl, rfl⟩
theorem fX7_203 : dk_F RX7 203 5 3 := ⟨RX5, TX5, rfl, inX5, by decide, (dk_m1 37 rfl rfl)⟩
theorem mX7_48 : dk_LV RX7 48 yX7_hasTable cX7_hasTable 2 (some .boolean) 1 7 := ⟨⟨⟨(dk_m2 78 rfl rfl), (dk_m1 1 rfl rfl), (dk_m2 81 rfl rfl)⟩, ne1X7, ne2X7, by decide +kernel⟩, ⟨(dk_m2 80 rfl rfl), (dk_m0 2 rfl rfl)⟩, _, rfl, rfl⟩
theorem mX7_59 : dk_LV RX7 59 yX5_isFull cX5_isFull 1 (some .boolean) 0 5 := ⟨⟨⟨(dk_m3 92 rfl rfl), (dk_m1 2 rfl rfl), (dk_m3 95 rfl rfl)⟩, ne1X5, ne2X5, by decide +kernel⟩, ⟨(dk_m3 93 rfl rfl), (dk_m3 94 rfl rfl)⟩, _, rfl, rfl⟩
theorem mX7_68 : dk_LV RX7 68 yX7_endQuestion cX7_endQuestion 1 none 0 7 := ⟨⟨⟨(dk_m2 93 rfl rfl), (dk_m1 1 rfl rfl), (dk_m2 96 rfl rfl)⟩, ne1X7, ne2X7, by decide +kernel⟩, ⟨(dk_m2 95 rfl rfl), (dk_m0 3 rfl rfl)⟩, _, rfl, rfl⟩
theorem mX7_71 : dk_LV RX7 71 yX5_add cX5_add 7 (some .int) 4 5 := ⟨⟨⟨(dk_m3 112 rfl rfl), (dk_m1 2 rfl rfl), (dk_m3 115 rfl rfl)⟩, ne1X5, ne2X5, by decide +kernel⟩, ⟨(dk_m3 113 rfl rfl), (dk_m3 114 rfl rfl)⟩, _, rfl, rfl⟩
theorem mX7_81 : dk_LV RX7 81 yX5_placeOf cX5_placeOf 3 (some .int) 1 5 := ⟨⟨⟨(dk_m3 127 rfl rfl), (dk_m1 2 rfl rfl), (dk_m3 130 rfl rfl)⟩, ne1X5, ne2X5, by decide +kernel⟩, ⟨(dk_m3 128 rfl rfl), (dk_m3 129 rfl rfl)⟩, _, rfl, rfl⟩
theorem mX7_75 : dk_LV RX7 75 yX7_hasRow cX7_hasRow 3 (some .boolean) 2 7 := ⟨⟨⟨(dk_m3 123 rfl rfl), (dk_m1 1 rfl rfl), (dk_m3 126 rfl rfl)⟩, ne1X7, ne2X7, by decide +kernel⟩, ⟨(dk_m3 125 rfl rfl), (dk_m0 17 rfl rfl)⟩, _, rfl, rfl⟩
theorem mX7_85 : dk_LV RX7 85 yX5_remove cX5_remove 3 none 1 5 := ⟨⟨⟨(dk_m3 132 rfl rfl), (dk_m1 2 rfl rfl), (dk_m3 135 rfl rfl)⟩, ne1X5, ne2X5, by decide +kernel⟩, ⟨(dk_m3 133 rfl rfl), (dk_m3 134 rfl rfl)⟩, _, rfl, rfl⟩
theorem mX7_206 : dk_LV RX7 206 yX5_hasColumn cX5_hasColumn 2 (some .boolean) 1 5 := ⟨⟨⟨(dk_m2 82 rfl rfl), (dk_m1 2 rfl rfl), (dk_m2 85 rfl rfl)⟩, ne1X5, ne2X5, by decide +kernel⟩, ⟨(dk_m2 83 rfl rfl), (dk_m2 84 rfl rfl)⟩, _, rfl, rfl⟩
theorem mX7_88 : dk_LV RX7 88 yX7_hasColumn cX7_hasColumn 3 (some .boolean) 2 7 := ⟨⟨⟨(dk_m2 74 rfl rfl), (dk_m1 1 rfl rfl), (dk_m2 77 rfl rfl)⟩, ne1X7, ne2X7, by decide +kernel⟩, ⟨(dk_m2 76 rfl rfl), (dk_m0 1 rfl rfl)⟩, _, rfl, rfl⟩
theorem mX7_93 : dk_LV RX7 93 yX5_put cX5_put 4 none 3 5 := ⟨⟨⟨(dk_m3 147 rfl rfl), (dk_m1 2 rfl rfl), (dk_m3 150 rfl rfl)⟩, ne1X5, ne2X5, by decide +kernel⟩, ⟨(dk_m3 148 rfl rfl), (dk_m3 149 rfl rfl)⟩, _, rfl, rfl⟩
theorem mX7_97 : dk_LV RX7 97 yX5_value cX5_value 3 (some .int) 2 5 := ⟨⟨⟨(dk_m3 158 rfl rfl), (dk_m1 2 rfl rfl), (dk_m2 185 rfl rfl)⟩, ne1X5, ne2X5, by decide +kernel⟩, ⟨(dk_m2 183 rfl rfl), (dk_m2 184 rfl rfl)⟩, _, rfl, rfl⟩
theorem mX7_101 : dk_LS RX7 101 yX7_isKind cX7_isKind 1 (some .boolean) 1 := ⟨⟨⟨(dk_m2 86 rfl rfl), (dk_m1 1 rfl rfl), (dk_m2 88 rfl rfl)⟩, ne1X7, ne2X7, by decide +kernel⟩, (dk_m2 87 rfl rfl)⟩
theorem mX7_104 : dk_LV RX7 104 yX5_hasIndex cX5_hasIndex 3 (some .boolean) 2 5 := ⟨⟨⟨(dk_m2 89 rfl rfl), (dk_m1 2 rfl rfl), (dk_m2 92 rfl rfl)⟩, ne1X5, ne2X5, by decide +kernel⟩, ⟨(dk_m2 90 rfl rfl), (dk_m2 91 rfl rfl)⟩, _, rfl, rfl⟩
theorem mX7_107 : dk_LV RX7 107 yX5_setIndex cX5_setIndex 4 none 3 5 := ⟨⟨⟨(dk_m2 97 rfl rfl), (dk_m1 2 rfl rfl), (dk_m2 100 rfl rfl)⟩, ne1X5, ne2X5, by decide +kernel⟩, ⟨(dk_m2 98 rfl rfl), (dk_m2 99 rfl rfl)⟩, _, rfl, rfl⟩
theorem fX7_111 : dk_F RX7 111 4 4 := ⟨RX4, TX4, rfl, inX4, by decide, (dk_m1 155 rfl rfl)⟩
theorem mX7_114 : dk_LV RX7 114 yX4_addSource cX4_addSource 3 (some .int) 1 4 := ⟨⟨⟨(dk_m2 113 rfl rfl), (dk_m1 3 rfl rfl), (dk_m2 116 rfl rfl)⟩, ne1X4, ne2X4, by decide +kernel⟩, ⟨(dk_m2 114 rfl rfl), (dk_m2 115 rfl rfl)⟩, _, rfl, rfl⟩
theorem mX7_118 : dk_LV RX7 118 yX4_hasColumn cX4_hasColumn 3 (some .boolean) 2 4 := ⟨⟨⟨(dk_m2 121 rfl rfl), (dk_m1 3 rfl rfl), (dk_m2 124 rfl rfl)⟩, ne1X4, ne2X4, by decide +kernel⟩, ⟨(dk_m2 122 rfl rfl), (dk_m2 123 rfl rfl)⟩, _, rfl, rfl⟩
theorem fX7_119 : dk_F RX7 119 4 5 := ⟨RX4, TX4, rfl, inX4, by decide, (dk_m1 159 rfl rfl)⟩
theorem mX7_122 : dk_LV RX7 122 yX4_addCondition cX4_addCondition 6 none 4 4 := ⟨⟨⟨(dk_m2 126 rfl rfl), (dk_m1 3 rfl rfl), (dk_m2 129 rfl rfl)⟩, ne1X4, ne2X4, by decide +kernel⟩, ⟨(dk_m2 127 rfl rfl), (dk_m2 128 rfl rfl)⟩, _, rfl, rfl⟩
theorem fX7_126 : dk_F RX7 126 4 6 := ⟨RX4, TX4, rfl, inX4, by decide, (dk_m1 163 rfl rfl)⟩
theorem mX7_129 : dk_LV RX7 129 yX4_addJoin cX4_addJoin 6 none 4 4 := ⟨⟨⟨(dk_m2 134 rfl rfl), (dk_m1 3 rfl rfl), (dk_m2 137 rfl rfl)⟩, ne1X4, ne2X4, by decide +kernel⟩, ⟨(dk_m2 135 rfl rfl), (dk_m2 136 rfl rfl)⟩, _, rfl, rfl⟩
theorem fX7_132 : dk_F RX7 132 4 7 := ⟨RX4, TX4, rfl, inX4, by decide, (dk_m1 165 rfl rfl)⟩
theorem mX7_135 : dk_LV RX7 135 yX4_addOutput cX4_addOutput 4 (some .int) 2 4 := ⟨⟨⟨(dk_m2 142 rfl rfl), (dk_m1 3 rfl rfl), (dk_m2 145 rfl rfl)⟩, ne1X4, ne2X4, by decide +kernel⟩, ⟨(dk_m2 143 rfl rfl), (dk_m2 144 rfl rfl)⟩, _, rfl, rfl⟩
theorem fX7_138 : dk_F RX7 138 4 8 := ⟨RX4, TX4, rfl, inX4, by decide, (dk_m1 168 rfl rfl)⟩
theorem fX7_141 : dk_F RX7 141 4 9 := ⟨RX4, TX4, rfl, inX4, by decide, (dk_m1 171 rfl rfl)⟩
theorem fX7_145 : dk_F RX7 145 4 10 := ⟨RX4, TX4, rfl, inX4, by decide, (dk_m1 174 rfl rfl)⟩
theorem mX7_150 : dk_LV RX7 150 yX3_choose cX3_choose 7 (some .float) 1 3 := ⟨⟨⟨(dk_m3 167 rfl rfl), (dk_m1 7 rfl rfl), (dk_m3 170 rfl rfl)⟩, ne1X3, ne2X3, by decide +kernel⟩, ⟨(dk_m3 168 rfl rfl), (dk_m3 169 rfl rfl)⟩, _, rfl, rfl⟩
theorem mX7_154 : dk_LV RX7 154 yX6_begin cX6_begin 3 none 2 6 := ⟨⟨⟨(dk_m4 12 rfl rfl), (dk_m1 8 rfl rfl), (dk_m4 15 rfl rfl)⟩, ne1X6, ne2X6, by decide +kernel⟩, ⟨(dk_m4 13 rfl rfl), (dk_m4 14 rfl rfl)⟩, _, rfl, rfl⟩
theorem fX7_163 : dk_F RX7 163 3 3 := ⟨RX3, TX3, rfl, inX3, by decide, (dk_m1 209 rfl rfl)⟩
theorem fX7_167 : dk_F RX7 167 3 4 := ⟨RX3, TX3, rfl, inX3, by decide, (dk_m1 212 rfl rfl)⟩
theorem fX7_170 : dk_F RX7 170 3 5 := ⟨RX3, TX3, rfl, inX3, by decide, (dk_m1 215 rfl rfl)⟩
theorem fX7_173 : dk_F RX7 173 3 6 := ⟨RX3, TX3, rfl, inX3, by decide, (dk_m1 218 rfl rfl)⟩
theorem mX7_176 : dk_LV RX7 176 yX6_isDone cX6_isDone 2 (some .boolean) 1 6 := ⟨⟨⟨(dk_m2 158 rfl rfl), (dk_m1 8 rfl rfl), (dk_m2 161 rfl rfl)⟩, ne1X6, ne2X6, by decide +kernel⟩, ⟨(dk_m2 159 rfl rfl), (dk_m2 160 rfl rfl)⟩, _, rfl, rfl⟩
theorem mX7_180 : dk_LV RX7 180 yX6_makeStep cX6_makeStep 4 none 2 6 := ⟨⟨⟨(dk_m2 170 rfl rfl), (dk_m1 8 rfl rfl), (dk_m2 173 rfl rfl)⟩, ne1X6, ne2X6, by decide +kernel⟩, ⟨(dk_m2 171 rfl rfl), (dk_m2 172 rfl rfl)⟩, _, rfl, rfl⟩
theorem fX7_190 : dk_F RX7 190 6 6 := ⟨RX6, TX6, rfl, inX6, by decide, (dk_m2 11 rfl rfl)⟩
theorem mmX7_212 : Cond.methodLink RX7 212 Lib.Math.min.name ∈ dk_tbl := (dk_m3 12 rfl rfl)
theorem fX7_183 : dk_F RX7 183 6 7 := ⟨RX6, TX6, rfl, inX6, by decide, (dk_m2 13 rfl rfl)⟩
theorem mX7_186 : dk_LV RX7 186 yX7_givenAnswers cX7_givenAnswers 1 (some .int) 0 7 := ⟨⟨⟨(dk_m3 8 rfl rfl), (dk_m1 1 rfl rfl), (dk_m3 11 rfl rfl)⟩, ne1X7, ne2X7, by decide +kernel⟩, ⟨(dk_m3 10 rfl rfl), (dk_m0 15 rfl rfl)⟩, _, rfl, rfl⟩
theorem fX7_193 : dk_F RX7 193 5 4 := ⟨RX5, TX5, rfl, inX5, by decide, (dk_m1 41 rfl rfl)⟩
theorem mX7_200 : dk_LV RX7 200 yX6_valueOf cX6_valueOf 3 (some .int) 2 6 := ⟨⟨⟨(dk_m4 50 rfl rfl), (dk_m1 8 rfl rfl), (dk_m4 53 rfl rfl)⟩, ne1X6, ne2X6, by decide +kernel⟩, ⟨(dk_m4 51 rfl rfl), (dk_m4 52 rfl rfl)⟩, _, rfl, rfl⟩
theorem fX8_71 : dk_F RX8 71 8 6 := ⟨RX8, TX8, rfl, inX8, by decide, (dk_m4 70 rfl rfl)⟩
theorem fwX8_6 : dk_Fw 8 6 .int := ⟨nnX8, fun Cn T N h => by
  have h' : (RX8, TX8, 30) = (Cn, T, N) := Option.some.inj h
  cases h'
  exact ⟨rfl, by decide +kernel⟩⟩
theorem fX8_96 : dk_F RX8 96 8 7 := ⟨RX8, TX8, rfl, inX8, by decide, (dk_m4 71 rfl rfl)⟩
theorem fwX8_7 : dk_Fw 8 7 .int := ⟨nnX8, fun Cn T N h => by
  have h' : (RX8, TX8, 30) = (Cn, T, N) := Option.some.inj h
  cases h'
  exact ⟨rfl, by decide +kernel⟩⟩
theorem fX8_99 : dk_F RX8 99 8 9 := ⟨RX8, TX8, rfl, inX8, by decide, (dk_m4 73 rfl rfl)⟩
theorem fwX8_9 : dk_Fw 8 9 .int := ⟨nnX8, fun Cn T N h => by
  have h' : (RX8, TX8, 30) = (Cn, T, N) := Option.some.inj h
  cases h'
  exact ⟨rfl, by decide +kernel⟩⟩
theorem fX8_102 : dk_F RX8 102 8 11 := ⟨RX8, TX8, rfl, inX8, by decide, (dk_m4 75 rfl rfl)⟩
theorem fwX8_11 : dk_Fw 8 11 .int := ⟨nnX8, fun Cn T N h => by
  have h' : (RX8, TX8, 30) = (Cn, T, N) := Option.some.inj h
  cases h'
  exact ⟨rfl, by decide +kernel⟩⟩
theorem fX8_105 : dk_F RX8 105 8 13 := ⟨RX8, TX8, rfl, inX8, by decide, (dk_m4 77 rfl rfl)⟩
theorem fwX8_13 : dk_Fw 8 13 .int := ⟨nnX8, fun Cn T N h => by
  have h' : (RX8, TX8, 30) = (Cn, T, N) := Option.some.inj h
  cases h'
  exact ⟨rfl, by decide +kernel⟩⟩
theorem fX8_108 : dk_F RX8 108 8 15 := ⟨RX8, TX8, rfl, inX8, by decide, (dk_m4 79 rfl rfl)⟩
theorem fwX8_15 : dk_Fw 8 15 .int := ⟨nnX8, fun Cn T N h => by
  have h' : (RX8, TX8, 30) = (Cn, T, N) := Option.some.inj h
  cases h'
  exact ⟨rfl, by decide +kernel⟩⟩
theorem fX8_111 : dk_F RX8 111 8 16 := ⟨RX8, TX8, rfl, inX8, by decide, (dk_m4 80 rfl rfl)⟩
theorem fwX8_16 : dk_Fw 8 16 .boolean := ⟨nnX8, fun Cn T N h => by
  have h' : (RX8, TX8, 30) = (Cn, T, N) := Option.some.inj h
  cases h'
  exact ⟨rfl, by decide +kernel⟩⟩
theorem fX8_115 : dk_F RX8 115 8 17 := ⟨RX8, TX8, rfl, inX8, by decide, (dk_m4 81 rfl rfl)⟩
theorem fwX8_17 : dk_Fw 8 17 .int := ⟨nnX8, fun Cn T N h => by
  have h' : (RX8, TX8, 30) = (Cn, T, N) := Option.some.inj h
  cases h'
  exact ⟨rfl, by decide +kernel⟩⟩
theorem fX8_118 : dk_F RX8 118 8 27 := ⟨RX8, TX8, rfl, inX8, by decide, (dk_m4 91 rfl rfl)⟩
theorem fwX8_27 : dk_Fw 8 27 .int := ⟨nnX8, fun Cn T N h => by
  have h' : (RX8, TX8, 30) = (Cn, T, N) := Option.some.inj h
  cases h'
  exact ⟨rfl, by decide +kernel⟩⟩
theorem fX8_121 : dk_F RX8 121 8 28 := ⟨RX8, TX8, rfl, inX8, by decide, (dk_m4 92 rfl rfl)⟩
theorem fwX8_28 : dk_Fw 8 28 .int := ⟨nnX8, fun Cn T N h => by
  have h' : (RX8, TX8, 30) = (Cn, T, N) := Option.some.inj h
  cases h'
  exact ⟨rfl, by decide +kernel⟩⟩
theorem oiX8_1 : Cond.methodLink RX8 1 objectInit ∈ dk_tbl := (dk_m4 59 rfl rfl)
theorem fX8_7 : dk_F RX8 7 8 1 := ⟨RX8, TX8, rfl, inX8, by decide, (dk_m4 65 rfl rfl)⟩
theorem fzX8_1 : dk_Fz RX8 8 1 (.array .int) := ⟨nnX8, fun Cn T N h => by
  have h' : (RX8, TX8, 30) = (Cn, T, N) := Option.some.inj h
  cases h'
  exact ⟨rfl, rfl, by decide +kernel⟩⟩
theorem fX8_13 : dk_F RX8 13 8 2 := ⟨RX8, TX8, rfl, inX8, by decide, (dk_m4 66 rfl rfl)⟩
theorem fzX8_2 : dk_Fz RX8 8 2 (.array .int) := ⟨nnX8, fun Cn T N h => by
  have h' : (RX8, TX8, 30) = (Cn, T, N) := Option.some.inj h
  cases h'
  exact ⟨rfl, rfl, by decide +kernel⟩⟩
theorem fX8_16 : dk_F RX8 16 8 3 := ⟨RX8, TX8, rfl, inX8, by decide, (dk_m4 67 rfl rfl)⟩
theorem fzX8_3 : dk_Fz RX8 8 3 (.array .boolean) := ⟨nnX8, fun Cn T N h => by
  have h' : (RX8, TX8, 30) = (Cn, T, N) := Option.some.inj h
  cases h'
  exact ⟨rfl, rfl, by decide +kernel⟩⟩
theorem fX8_20 : dk_F RX8 20 8 4 := ⟨RX8, TX8, rfl, inX8, by decide, (dk_m4 68 rfl rfl)⟩
theorem fzX8_4 : dk_Fz RX8 8 4 (.array .int) := ⟨nnX8, fun Cn T N h => by
  have h' : (RX8, TX8, 30) = (Cn, T, N) := Option.some.inj h
  cases h'
  exact ⟨rfl, rfl, by decide +kernel⟩⟩
theorem fX8_23 : dk_F RX8 23 8 5 := ⟨RX8, TX8, rfl, inX8, by decide, (dk_m4 69 rfl rfl)⟩
theorem fzX8_5 : dk_Fz RX8 8 5 (.array .boolean) := ⟨nnX8, fun Cn T N h => by
  have h' : (RX8, TX8, 30) = (Cn, T, N) := Option.some.inj h
  cases h'
  exact ⟨rfl, rfl, by decide +kernel⟩⟩
theorem fX8_26 : dk_F RX8 26 8 8 := ⟨RX8, TX8, rfl, inX8, by decide, (dk_m4 72 rfl rfl)⟩
theorem fzX8_8 : dk_Fz RX8 8 8 (.array .int) := ⟨nnX8, fun Cn T N h => by
  have h' : (RX8, TX8, 30) = (Cn, T, N) := Option.some.inj h
  cases h'
  exact ⟨rfl, rfl, by decide +kernel⟩⟩
theorem fX8_29 : dk_F RX8 29 8 10 := ⟨RX8, TX8, rfl, inX8, by decide, (dk_m4 74 rfl rfl)⟩
theorem fzX8_10 : dk_Fz RX8 8 10 (.array .int) := ⟨nnX8, fun Cn T N h => by
  have h' : (RX8, TX8, 30) = (Cn, T, N) := Option.some.inj h
  cases h'
  exact ⟨rfl, rfl, by decide +kernel⟩⟩
theorem fX8_32 : dk_F RX8 32 8 12 := ⟨RX8, TX8, rfl, inX8, by decide, (dk_m4 76 rfl rfl)⟩
theorem fzX8_12 : dk_Fz RX8 8 12 (.array .int) := ⟨nnX8, fun Cn T N h => by
  have h' : (RX8, TX8, 30) = (Cn, T, N) := Option.some.inj h
  cases h'
  exact ⟨rfl, rfl, by decide +kernel⟩⟩
theorem fX8_35 : dk_F RX8 35 8 14 := ⟨RX8, TX8, rfl, inX8, by decide, (dk_m4 78 rfl rfl)⟩
theorem fzX8_14 : dk_Fz RX8 8 14 (.array .int) := ⟨nnX8, fun Cn T N h => by
  have h' : (RX8, TX8, 30) = (Cn, T, N) := Option.some.inj h
  cases h'
  exact ⟨rfl, rfl, by decide +kernel⟩⟩
theorem fX8_38 : dk_F RX8 38 8 18 := ⟨RX8, TX8, rfl, inX8, by decide, (dk_m4 82 rfl rfl)⟩
theorem fzX8_18 : dk_Fz RX8 8 18 (.array .int) := ⟨nnX8, fun Cn T N h => by
  have h' : (RX8, TX8, 30) = (Cn, T, N) := Option.some.inj h
  cases h'
  exact ⟨rfl, rfl, by decide +kernel⟩⟩
theorem fX8_41 : dk_F RX8 41 8 19 := ⟨RX8, TX8, rfl, inX8, by decide, (dk_m4 83 rfl rfl)⟩
theorem fzX8_19 : dk_Fz RX8 8 19 (.array .int) := ⟨nnX8, fun Cn T N h => by
  have h' : (RX8, TX8, 30) = (Cn, T, N) := Option.some.inj h
  cases h'
  exact ⟨rfl, rfl, by decide +kernel⟩⟩
theorem fX8_44 : dk_F RX8 44 8 20 := ⟨RX8, TX8, rfl, inX8, by decide, (dk_m4 84 rfl rfl)⟩
theorem fzX8_20 : dk_Fz RX8 8 20 (.array .int) := ⟨nnX8, fun Cn T N h => by
  have h' : (RX8, TX8, 30) = (Cn, T, N) := Option.some.inj h
  cases h'
  exact ⟨rfl, rfl, by decide +kernel⟩⟩
theorem fX8_47 : dk_F RX8 47 8 21 := ⟨RX8, TX8, rfl, inX8, by decide, (dk_m4 85 rfl rfl)⟩
theorem fzX8_21 : dk_Fz RX8 8 21 (.array .int) := ⟨nnX8, fun Cn T N h => by
  have h' : (RX8, TX8, 30) = (Cn, T, N) := Option.some.inj h
  cases h'
  exact ⟨rfl, rfl, by decide +kernel⟩⟩
theorem fX8_50 : dk_F RX8 50 8 25 := ⟨RX8, TX8, rfl, inX8, by decide, (dk_m4 89 rfl rfl)⟩
theorem fzX8_25 : dk_Fz RX8 8 25 (.array .int) := ⟨nnX8, fun Cn T N h => by
  have h' : (RX8, TX8, 30) = (Cn, T, N) := Option.some.inj h
  cases h'
  exact ⟨rfl, rfl, by decide +kernel⟩⟩
theorem fX8_53 : dk_F RX8 53 8 29 := ⟨RX8, TX8, rfl, inX8, by decide, (dk_m4 93 rfl rfl)⟩
theorem fzX8_29 : dk_Fz RX8 8 29 (.array .int) := ⟨nnX8, fun Cn T N h => by
  have h' : (RX8, TX8, 30) = (Cn, T, N) := Option.some.inj h
  cases h'
  exact ⟨rfl, rfl, by decide +kernel⟩⟩
theorem mX8_56 : dk_LV RX8 56 yX8_empty cX8_empty 1 none 0 8 := ⟨⟨⟨(dk_m4 60 rfl rfl), (dk_m1 9 rfl rfl), (dk_m4 63 rfl rfl)⟩, ne1X8, ne2X8, by decide +kernel⟩, ⟨(dk_m4 62 rfl rfl), (dk_m0 28 rfl rfl)⟩, _, rfl, rfl⟩
theorem fX8_59 : dk_F RX8 59 8 0 := ⟨RX8, TX8, rfl, inX8, by decide, (dk_m4 64 rfl rfl)⟩
theorem mX8_63 : dk_LS RX8 63 yX8_in cX8_in 3 (some .boolean) 3 := ⟨⟨⟨(dk_m4 163 rfl rfl), (dk_m1 9 rfl rfl), (dk_m4 165 rfl rfl)⟩, ne1X8, ne2X8, by decide +kernel⟩, (dk_m4 164 rfl rfl)⟩
theorem mX8_67 : dk_LV RX8 67 yX8_isTable cX8_isTable 2 (some .boolean) 1 8 := ⟨⟨⟨(dk_m4 170 rfl rfl), (dk_m1 9 rfl rfl), (dk_m4 173 rfl rfl)⟩, ne1X8, ne2X8, by decide +kernel⟩, ⟨(dk_m4 172 rfl rfl), (dk_m0 29 rfl rfl)⟩, _, rfl, rfl⟩
theorem fwX8_0 : dk_Fw 8 0 .int := ⟨nnX8, fun Cn T N h => by
  have h' : (RX8, TX8, 30) = (Cn, T, N) := Option.some.inj h
  cases h'
  exact ⟨rfl, by decide +kernel⟩⟩
theorem mX8_74 : dk_LV RX8 74 yX8_rowsOf cX8_rowsOf 4 (some .int) 1 8 := ⟨⟨⟨(dk_m4 174 rfl rfl), (dk_m1 9 rfl rfl), (dk_m4 177 rfl rfl)⟩, ne1X8, ne2X8, by decide +kernel⟩, ⟨(dk_m4 176 rfl rfl), (dk_m0 30 rfl rfl)⟩, _, rfl, rfl⟩
theorem mX8_78 : dk_LV RX8 78 yX8_changed cX8_changed 1 none 0 8 := ⟨⟨⟨(dk_m4 178 rfl rfl), (dk_m1 9 rfl rfl), (dk_m4 181 rfl rfl)⟩, ne1X8, ne2X8, by decide +kernel⟩, ⟨(dk_m4 180 rfl rfl), (dk_m0 31 rfl rfl)⟩, _, rfl, rfl⟩
theorem mX8_81 : dk_LV RX8 81 yX8_isRow cX8_isRow 3 (some .boolean) 2 8 := ⟨⟨⟨(dk_m4 186 rfl rfl), (dk_m1 9 rfl rfl), (dk_m4 189 rfl rfl)⟩, ne1X8, ne2X8, by decide +kernel⟩, ⟨(dk_m4 188 rfl rfl), (dk_m0 32 rfl rfl)⟩, _, rfl, rfl⟩
theorem mX8_85 : dk_LV RX8 85 yX8_isColumn cX8_isColumn 3 (some .boolean) 2 8 := ⟨⟨⟨(dk_m4 194 rfl rfl), (dk_m1 9 rfl rfl), (dk_m4 197 rfl rfl)⟩, ne1X8, ne2X8, by decide +kernel⟩, ⟨(dk_m4 196 rfl rfl), (dk_m0 33 rfl rfl)⟩, _, rfl, rfl⟩
theorem mX8_88 : dk_LV RX8 88 yX8_get cX8_get 4 (some .int) 3 8 := ⟨⟨⟨(dk_m4 202 rfl rfl), (dk_m1 9 rfl rfl), (dk_m4 205 rfl rfl)⟩, ne1X8, ne2X8, by decide +kernel⟩, ⟨(dk_m4 204 rfl rfl), (dk_m0 34 rfl rfl)⟩, _, rfl, rfl⟩
theorem mX8_92 : dk_LV RX8 92 yX8_setIndex cX8_setIndex 5 (some .boolean) 4 8 := ⟨⟨⟨(dk_m4 210 rfl rfl), (dk_m1 9 rfl rfl), (dk_m4 213 rfl rfl)⟩, ne1X8, ne2X8, by decide +kernel⟩, ⟨(dk_m4 212 rfl rfl), (dk_m0 35 rfl rfl)⟩, _, rfl, rfl⟩
theorem mX8_124 : dk_LV RX8 124 yX8_has cX8_has 3 (some .boolean) 2 8 := ⟨⟨⟨(dk_m4 230 rfl rfl), (dk_m1 9 rfl rfl), (dk_m4 233 rfl rfl)⟩, ne1X8, ne2X8, by decide +kernel⟩, ⟨(dk_m4 232 rfl rfl), (dk_m0 36 rfl rfl)⟩, _, rfl, rfl⟩
theorem fX8_127 : dk_F RX8 127 8 22 := ⟨RX8, TX8, rfl, inX8, by decide, (dk_m4 86 rfl rfl)⟩
theorem fwX8_22 : dk_Fw 8 22 .int := ⟨nnX8, fun Cn T N h => by
  have h' : (RX8, TX8, 30) = (Cn, T, N) := Option.some.inj h
  cases h'
  exact ⟨rfl, by decide +kernel⟩⟩
theorem fX8_130 : dk_F RX8 130 8 23 := ⟨RX8, TX8, rfl, inX8, by decide, (dk_m4 87 rfl rfl)⟩
theorem fwX8_23 : dk_Fw 8 23 .int := ⟨nnX8, fun Cn T N h => by
  have h' : (RX8, TX8, 30) = (Cn, T, N) := Option.some.inj h
  cases h'
  exact ⟨rfl, by decide +kernel⟩⟩
theorem fX8_133 : dk_F RX8 133 8 24 := ⟨RX8, TX8, rfl, inX8, by decide, (dk_m4 88 rfl rfl)⟩
theorem fwX8_24 : dk_Fw 8 24 .int := ⟨nnX8, fun Cn T N h => by
  have h' : (RX8, TX8, 30) = (Cn, T, N) := Option.some.inj h
  cases h'
  exact ⟨rfl, by decide +kernel⟩⟩
theorem mX8_136 : dk_LV RX8 136 yX8_share cX8_share 14 (some .float) 4 8 := ⟨⟨⟨(dk_m5 25 rfl rfl), (dk_m1 9 rfl rfl), (dk_m5 28 rfl rfl)⟩, ne1X8, ne2X8, by decide +kernel⟩, ⟨(dk_m5 27 rfl rfl), (dk_m0 39 rfl rfl)⟩, _, rfl, rfl⟩
theorem mX8_140 : dk_LV RX8 140 yX8_bettered cX8_bettered 6 (some .float) 5 8 := ⟨⟨⟨(dk_m5 29 rfl rfl), (dk_m1 9 rfl rfl), (dk_m5 32 rfl rfl)⟩, ne1X8, ne2X8, by decide +kernel⟩, ⟨(dk_m5 31 rfl rfl), (dk_m0 40 rfl rfl)⟩, _, rfl, rfl⟩
theorem mX8_144 : dk_LV RX8 144 yX8_sideOf cX8_sideOf 5 (some .int) 3 8 := ⟨⟨⟨(dk_m5 33 rfl rfl), (dk_m1 9 rfl rfl), (dk_m5 36 rfl rfl)⟩, ne1X8, ne2X8, by decide +kernel⟩, ⟨(dk_m5 35 rfl rfl), (dk_m0 41 rfl rfl)⟩, _, rfl, rfl⟩
theorem mX8_147 : dk_LS RX8 147 yX8_ordered cX8_ordered 5 (some .int) 2 := ⟨⟨⟨(dk_m5 18 rfl rfl), (dk_m1 9 rfl rfl), (dk_m5 20 rfl rfl)⟩, ne1X8, ne2X8, by decide +kernel⟩, (dk_m5 19 rfl rfl)⟩
theorem mX8_151 : dk_LV RX8 151 yX8_fewest cX8_fewest 10 (some .float) 2 8 := ⟨⟨⟨(dk_m5 21 rfl rfl), (dk_m1 9 rfl rfl), (dk_m5 24 rfl rfl)⟩, ne1X8, ne2X8, by decide +kernel⟩, ⟨(dk_m5 23 rfl rfl), (dk_m0 38 rfl rfl)⟩, _, rfl, rfl⟩
theorem mX8_155 : dk_LV RX8 155 yX8_lessened cX8_lessened 8 (some .float) 3 8 := ⟨⟨⟨(dk_m5 37 rfl rfl), (dk_m1 9 rfl rfl), (dk_m5 40 rfl rfl)⟩, ne1X8, ne2X8, by decide +kernel⟩, ⟨(dk_m5 39 rfl rfl), (dk_m0 42 rfl rfl)⟩, _, rfl, rfl⟩
theorem mX8_159 : dk_LV RX8 159 yX8_cost cX8_cost 9 (some .float) 1 8 := ⟨⟨⟨(dk_m5 14 rfl rfl), (dk_m1 9 rfl rfl), (dk_m5 17 rfl rfl)⟩, ne1X8, ne2X8, by decide +kernel⟩, ⟨(dk_m5 16 rfl rfl), (dk_m0 37 rfl rfl)⟩, _, rfl, rfl⟩
theorem fX8_163 : dk_F RX8 163 8 26 := ⟨RX8, TX8, rfl, inX8, by decide, (dk_m4 90 rfl rfl)⟩
theorem fwX8_26 : dk_Fw 8 26 .int := ⟨nnX8, fun Cn T N h => by
  have h' : (RX8, TX8, 30) = (Cn, T, N) := Option.some.inj h
  cases h'
  exact ⟨rfl, by decide +kernel⟩⟩
theorem mX8_166 : dk_LV RX8 166 yX8_rowAt cX8_rowAt 3 (some .int) 1 8 := ⟨⟨⟨(dk_m5 57 rfl rfl), (dk_m1 9 rfl rfl), (dk_m5 60 rfl rfl)⟩, ne1X8, ne2X8, by decide +kernel⟩, ⟨(dk_m5 59 rfl rfl), (dk_m0 45 rfl rfl)⟩, _, rfl, rfl⟩
theorem mX8_169 : dk_LV RX8 169 yX8_wanted cX8_wanted 4 (some .int) 2 8 := ⟨⟨⟨(dk_m5 53 rfl rfl), (dk_m1 9 rfl rfl), (dk_m5 56 rfl rfl)⟩, ne1X8, ne2X8, by decide +kernel⟩, ⟨(dk_m5 55 rfl rfl), (dk_m0 44 rfl rfl)⟩, _, rfl, rfl⟩
theorem mX8_172 : dk_LS RX8 172 yX8_holds cX8_holds 3 (some .boolean) 3 := ⟨⟨⟨(dk_m5 61 rfl rfl), (dk_m1 9 rfl rfl), (dk_m5 63 rfl rfl)⟩, ne1X8, ne2X8, by decide +kernel⟩, (dk_m5 62 rfl rfl)⟩
theorem mX8_175 : dk_LV RX8 175 yX8_before cX8_before 6 (some .boolean) 5 8 := ⟨⟨⟨(dk_m5 64 rfl rfl), (dk_m1 9 rfl rfl), (dk_m5 67 rfl rfl)⟩, ne1X8, ne2X8, by decide +kernel⟩, ⟨(dk_m5 66 rfl rfl), (dk_m0 46 rfl rfl)⟩, _, rfl, rfl⟩
theorem mX8_182 : dk_LV RX8 182 yX8_swapped cX8_swapped 6 (some .boolean) 1 8 := ⟨⟨⟨(dk_m5 72 rfl rfl), (dk_m1 9 rfl rfl), (dk_m5 75 rfl rfl)⟩, ne1X8, ne2X8, by decide +kernel⟩, ⟨(dk_m5 74 rfl rfl), (dk_m0 48 rfl rfl)⟩, _, rfl, rfl⟩
theorem mX8_179 : dk_LV RX8 179 yX8_finish cX8_finish 3 none 0 8 := ⟨⟨⟨(dk_m5 68 rfl rfl), (dk_m1 9 rfl rfl), (dk_m5 71 rfl rfl)⟩, ne1X8, ne2X8, by decide +kernel⟩, ⟨(dk_m5 70 rfl rfl), (dk_m0 47 rfl rfl)⟩, _, rfl, rfl⟩
theorem mX8_191 : dk_LV RX8 191 yX8_passes cX8_passes 8 (some .boolean) 1 8 := ⟨⟨⟨(dk_m5 80 rfl rfl), (dk_m1 9 rfl rfl), (dk_m5 83 rfl rfl)⟩, ne1X8, ne2X8, by decide +kernel⟩, ⟨(dk_m5 82 rfl rfl), (dk_m0 50 rfl rfl)⟩, _, rfl, rfl⟩
theorem mX8_194 : dk_LV RX8 194 yX8_give cX8_give 3 none 0 8 := ⟨⟨⟨(dk_m5 84 rfl rfl), (dk_m1 9 rfl rfl), (dk_m5 87 rfl rfl)⟩, ne1X8, ne2X8, by decide +kernel⟩, ⟨(dk_m5 86 rfl rfl), (dk_m0 51 rfl rfl)⟩, _, rfl, rfl⟩
theorem mX8_185 : dk_LV RX8 185 yX8_following cX8_following 9 (some .int) 1 8 := ⟨⟨⟨(dk_m5 49 rfl rfl), (dk_m1 9 rfl rfl), (dk_m5 52 rfl rfl)⟩, ne1X8, ne2X8, by decide +kernel⟩, ⟨(dk_m5 51 rfl rfl), (dk_m0 43 rfl rfl)⟩, _, rfl, rfl⟩
theorem mX8_188 : dk_LV RX8 188 yX8_step cX8_step 1 none 0 8 := ⟨⟨⟨(dk_m5 76 rfl rfl), (dk_m1 9 rfl rfl), (dk_m5 79 rfl rfl)⟩, ne1X8, ne2X8, by decide +kernel⟩, ⟨(dk_m5 78 rfl rfl), (dk_m0 49 rfl rfl)⟩, _, rfl, rfl⟩
theorem mL_7 : dk_LV RL 7 yX7_insert cX7_insert 6 (some .int) 5 7 := ⟨⟨⟨(dk_m3 20 rfl rfl), (dk_m1 1 rfl rfl), (dk_m3 23 rfl rfl)⟩, ne1X7, ne2X7, by decide +kernel⟩, ⟨(dk_m3 21 rfl rfl), (dk_m3 22 rfl rfl)⟩, _, rfl, rfl⟩
theorem mL_17 : dk_LV RL 17 yX7_delete cX7_delete 3 none 2 7 := ⟨⟨⟨(dk_m3 119 rfl rfl), (dk_m1 1 rfl rfl), (dk_m3 122 rfl rfl)⟩, ne1X7, ne2X7, by decide +kernel⟩, ⟨(dk_m3 120 rfl rfl), (dk_m3 121 rfl rfl)⟩, _, rfl, rfl⟩
theorem mL_21 : dk_LV RL 21 yX7_update cX7_update 5 none 4 7 := ⟨⟨⟨(dk_m3 142 rfl rfl), (dk_m1 1 rfl rfl), (dk_m3 145 rfl rfl)⟩, ne1X7, ne2X7, by decide +kernel⟩, ⟨(dk_m3 143 rfl rfl), (dk_m3 144 rfl rfl)⟩, _, rfl, rfl⟩
theorem mL_25 : dk_LV RL 25 yX7_cell cX7_cell 4 (some .int) 3 7 := ⟨⟨⟨(dk_m3 154 rfl rfl), (dk_m1 1 rfl rfl), (dk_m3 157 rfl rfl)⟩, ne1X7, ne2X7, by decide +kernel⟩, ⟨(dk_m3 155 rfl rfl), (dk_m3 156 rfl rfl)⟩, _, rfl, rfl⟩
theorem mL_29 : dk_LV RL 29 yX7_plan cX7_plan 2 (some .float) 0 7 := ⟨⟨⟨(dk_m3 162 rfl rfl), (dk_m1 1 rfl rfl), (dk_m3 165 rfl rfl)⟩, ne1X7, ne2X7, by decide +kernel⟩, ⟨(dk_m3 163 rfl rfl), (dk_m3 164 rfl rfl)⟩, _, rfl, rfl⟩
theorem mL_33 : dk_LV RL 33 yX7_explain cX7_explain 3 (some .int) 2 7 := ⟨⟨⟨(dk_m4 21 rfl rfl), (dk_m1 1 rfl rfl), (dk_m4 24 rfl rfl)⟩, ne1X7, ne2X7, by decide +kernel⟩, ⟨(dk_m4 22 rfl rfl), (dk_m4 23 rfl rfl)⟩, _, rfl, rfl⟩
theorem mL_39 : dk_LV RL 39 yX7_answer cX7_answer 3 (some .int) 2 7 := ⟨⟨⟨(dk_m4 44 rfl rfl), (dk_m1 1 rfl rfl), (dk_m4 47 rfl rfl)⟩, ne1X7, ne2X7, by decide +kernel⟩, ⟨(dk_m4 45 rfl rfl), (dk_m4 46 rfl rfl)⟩, _, rfl, rfl⟩
theorem mkL_8 : dk_Mk RL 8 7 := ⟨RX7, TX7, tyX7, rfl, inX7, tyX7_ok, by decide +kernel, (dk_m1 18 rfl rfl), (dk_m1 19 rfl rfl), (dk_m1 1 rfl rfl)⟩
theorem mL_42 : dk_LI RL 42 yX7_init cX7_init 2 0 := ⟨⟨⟨(dk_m1 20 rfl rfl), (dk_m1 1 rfl rfl), (dk_m1 22 rfl rfl)⟩, ne1X7, ne2X7, by decide +kernel⟩, (dk_m1 21 rfl rfl), rfl⟩
theorem mkL_43 : dk_Mk RL 43 8 := ⟨RX8, TX8, tyX8, rfl, inX8, tyX8_ok, by decide +kernel, (dk_m4 54 rfl rfl), (dk_m4 55 rfl rfl), (dk_m1 9 rfl rfl)⟩
theorem mL_45 : dk_LI RL 45 yX8_init cX8_init 1 0 := ⟨⟨⟨(dk_m4 56 rfl rfl), (dk_m1 9 rfl rfl), (dk_m4 58 rfl rfl)⟩, ne1X8, ne2X8, by decide +kernel⟩, (dk_m4 57 rfl rfl), rfl⟩
theorem mL_46 : dk_LV RL 46 yX7_create cX7_create 3 (some .boolean) 2 7 := ⟨⟨⟨(dk_m2 50 rfl rfl), (dk_m1 1 rfl rfl), (dk_m2 53 rfl rfl)⟩, ne1X7, ne2X7, by decide +kernel⟩, ⟨(dk_m2 51 rfl rfl), (dk_m2 52 rfl rfl)⟩, _, rfl, rfl⟩
theorem mL_50 : dk_LV RL 50 yX8_create cX8_create 4 (some .boolean) 2 8 := ⟨⟨⟨(dk_m4 159 rfl rfl), (dk_m1 9 rfl rfl), (dk_m4 162 rfl rfl)⟩, ne1X8, ne2X8, by decide +kernel⟩, ⟨(dk_m4 160 rfl rfl), (dk_m4 161 rfl rfl)⟩, _, rfl, rfl⟩
theorem mL_56 : dk_LV RL 56 yX8_insert cX8_insert 8 (some .int) 5 8 := ⟨⟨⟨(dk_m4 166 rfl rfl), (dk_m1 9 rfl rfl), (dk_m4 169 rfl rfl)⟩, ne1X8, ne2X8, by decide +kernel⟩, ⟨(dk_m4 167 rfl rfl), (dk_m4 168 rfl rfl)⟩, _, rfl, rfl⟩
theorem mL_57 : dk_LV RL 57 yX8_thrown cX8_thrown 1 (some .int) 0 8 := ⟨⟨⟨(dk_m4 155 rfl rfl), (dk_m1 9 rfl rfl), (dk_m4 158 rfl rfl)⟩, ne1X8, ne2X8, by decide +kernel⟩, ⟨(dk_m4 156 rfl rfl), (dk_m4 157 rfl rfl)⟩, _, rfl, rfl⟩
theorem mL_64 : dk_LV RL 64 yX8_delete cX8_delete 3 none 2 8 := ⟨⟨⟨(dk_m4 182 rfl rfl), (dk_m1 9 rfl rfl), (dk_m4 185 rfl rfl)⟩, ne1X8, ne2X8, by decide +kernel⟩, ⟨(dk_m4 183 rfl rfl), (dk_m4 184 rfl rfl)⟩, _, rfl, rfl⟩
theorem mL_68 : dk_LV RL 68 yX8_update cX8_update 5 none 4 8 := ⟨⟨⟨(dk_m4 190 rfl rfl), (dk_m1 9 rfl rfl), (dk_m4 193 rfl rfl)⟩, ne1X8, ne2X8, by decide +kernel⟩, ⟨(dk_m4 191 rfl rfl), (dk_m4 192 rfl rfl)⟩, _, rfl, rfl⟩
theorem mL_72 : dk_LV RL 72 yX8_cell cX8_cell 4 (some .int) 3 8 := ⟨⟨⟨(dk_m4 198 rfl rfl), (dk_m1 9 rfl rfl), (dk_m4 201 rfl rfl)⟩, ne1X8, ne2X8, by decide +kernel⟩, ⟨(dk_m4 199 rfl rfl), (dk_m4 200 rfl rfl)⟩, _, rfl, rfl⟩
theorem mL_73 : dk_LV RL 73 yX7_index cX7_index 4 (some .boolean) 3 7 := ⟨⟨⟨(dk_m2 70 rfl rfl), (dk_m1 1 rfl rfl), (dk_m2 73 rfl rfl)⟩, ne1X7, ne2X7, by decide +kernel⟩, ⟨(dk_m2 71 rfl rfl), (dk_m2 72 rfl rfl)⟩, _, rfl, rfl⟩
theorem mL_77 : dk_LV RL 77 yX8_index cX8_index 4 (some .boolean) 3 8 := ⟨⟨⟨(dk_m4 206 rfl rfl), (dk_m1 9 rfl rfl), (dk_m4 209 rfl rfl)⟩, ne1X8, ne2X8, by decide +kernel⟩, ⟨(dk_m4 207 rfl rfl), (dk_m4 208 rfl rfl)⟩, _, rfl, rfl⟩
theorem mL_78 : dk_LV RL 78 yX7_drop cX7_drop 4 (some .boolean) 3 7 := ⟨⟨⟨(dk_m2 101 rfl rfl), (dk_m1 1 rfl rfl), (dk_m2 104 rfl rfl)⟩, ne1X7, ne2X7, by decide +kernel⟩, ⟨(dk_m2 102 rfl rfl), (dk_m2 103 rfl rfl)⟩, _, rfl, rfl⟩
theorem mL_81 : dk_LV RL 81 yX8_drop cX8_drop 4 (some .boolean) 3 8 := ⟨⟨⟨(dk_m4 214 rfl rfl), (dk_m1 9 rfl rfl), (dk_m4 217 rfl rfl)⟩, ne1X8, ne2X8, by decide +kernel⟩, ⟨(dk_m4 215 rfl rfl), (dk_m4 216 rfl rfl)⟩, _, rfl, rfl⟩
theorem mL_82 : dk_LV RL 82 yX7_ask cX7_ask 1 none 0 7 := ⟨⟨⟨(dk_m2 105 rfl rfl), (dk_m1 1 rfl rfl), (dk_m2 108 rfl rfl)⟩, ne1X7, ne2X7, by decide +kernel⟩, ⟨(dk_m2 106 rfl rfl), (dk_m2 107 rfl rfl)⟩, _, rfl, rfl⟩
theorem mL_85 : dk_LV RL 85 yX8_ask cX8_ask 1 none 0 8 := ⟨⟨⟨(dk_m4 218 rfl rfl), (dk_m1 9 rfl rfl), (dk_m4 221 rfl rfl)⟩, ne1X8, ne2X8, by decide +kernel⟩, ⟨(dk_m4 219 rfl rfl), (dk_m4 220 rfl rfl)⟩, _, rfl, rfl⟩
theorem mL_86 : dk_LV RL 86 yX7_from cX7_from 2 (some .int) 1 7 := ⟨⟨⟨(dk_m2 109 rfl rfl), (dk_m1 1 rfl rfl), (dk_m2 112 rfl rfl)⟩, ne1X7, ne2X7, by decide +kernel⟩, ⟨(dk_m2 110 rfl rfl), (dk_m2 111 rfl rfl)⟩, _, rfl, rfl⟩
theorem mL_90 : dk_LV RL 90 yX8_from cX8_from 2 (some .int) 1 8 := ⟨⟨⟨(dk_m4 222 rfl rfl), (dk_m1 9 rfl rfl), (dk_m4 225 rfl rfl)⟩, ne1X8, ne2X8, by decide +kernel⟩, ⟨(dk_m4 223 rfl rfl), (dk_m4 224 rfl rfl)⟩, _, rfl, rfl⟩
theorem mL_91 : dk_LV RL 91 yX7_where cX7_where 5 (some .boolean) 4 7 := ⟨⟨⟨(dk_m2 117 rfl rfl), (dk_m1 1 rfl rfl), (dk_m2 120 rfl rfl)⟩, ne1X7, ne2X7, by decide +kernel⟩, ⟨(dk_m2 118 rfl rfl), (dk_m2 119 rfl rfl)⟩, _, rfl, rfl⟩
theorem mL_95 : dk_LV RL 95 yX8_where cX8_where 5 (some .boolean) 4 8 := ⟨⟨⟨(dk_m4 226 rfl rfl), (dk_m1 9 rfl rfl), (dk_m4 229 rfl rfl)⟩, ne1X8, ne2X8, by decide +kernel⟩, ⟨(dk_m4 227 rfl rfl), (dk_m4 228 rfl rfl)⟩, _, rfl, rfl⟩
theorem mL_96 : dk_LV RL 96 yX7_join cX7_join 5 (some .boolean) 4 7 := ⟨⟨⟨(dk_m2 130 rfl rfl), (dk_m1 1 rfl rfl), (dk_m2 133 rfl rfl)⟩, ne1X7, ne2X7, by decide +kernel⟩, ⟨(dk_m2 131 rfl rfl), (dk_m2 132 rfl rfl)⟩, _, rfl, rfl⟩
theorem mL_99 : dk_LV RL 99 yX8_join cX8_join 5 (some .boolean) 4 8 := ⟨⟨⟨(dk_m4 234 rfl rfl), (dk_m1 9 rfl rfl), (dk_m4 237 rfl rfl)⟩, ne1X8, ne2X8, by decide +kernel⟩, ⟨(dk_m4 235 rfl rfl), (dk_m4 236 rfl rfl)⟩, _, rfl, rfl⟩
theorem mL_100 : dk_LV RL 100 yX7_select cX7_select 3 (some .int) 2 7 := ⟨⟨⟨(dk_m2 138 rfl rfl), (dk_m1 1 rfl rfl), (dk_m2 141 rfl rfl)⟩, ne1X7, ne2X7, by decide +kernel⟩, ⟨(dk_m2 139 rfl rfl), (dk_m2 140 rfl rfl)⟩, _, rfl, rfl⟩
theorem mL_103 : dk_LV RL 103 yX8_select cX8_select 3 (some .int) 2 8 := ⟨⟨⟨(dk_m4 238 rfl rfl), (dk_m1 9 rfl rfl), (dk_m5 1 rfl rfl)⟩, ne1X8, ne2X8, by decide +kernel⟩, ⟨(dk_m4 239 rfl rfl), (dk_m5 0 rfl rfl)⟩, _, rfl, rfl⟩
theorem mL_104 : dk_LV RL 104 yX7_order cX7_order 3 (some .boolean) 2 7 := ⟨⟨⟨(dk_m2 146 rfl rfl), (dk_m1 1 rfl rfl), (dk_m2 149 rfl rfl)⟩, ne1X7, ne2X7, by decide +kernel⟩, ⟨(dk_m2 147 rfl rfl), (dk_m2 148 rfl rfl)⟩, _, rfl, rfl⟩
theorem mL_108 : dk_LV RL 108 yX8_order cX8_order 3 (some .boolean) 2 8 := ⟨⟨⟨(dk_m5 2 rfl rfl), (dk_m1 9 rfl rfl), (dk_m5 5 rfl rfl)⟩, ne1X8, ne2X8, by decide +kernel⟩, ⟨(dk_m5 3 rfl rfl), (dk_m5 4 rfl rfl)⟩, _, rfl, rfl⟩
theorem mL_109 : dk_LV RL 109 yX7_limit cX7_limit 2 (some .boolean) 1 7 := ⟨⟨⟨(dk_m2 150 rfl rfl), (dk_m1 1 rfl rfl), (dk_m2 153 rfl rfl)⟩, ne1X7, ne2X7, by decide +kernel⟩, ⟨(dk_m2 151 rfl rfl), (dk_m2 152 rfl rfl)⟩, _, rfl, rfl⟩
theorem mL_113 : dk_LV RL 113 yX8_limit cX8_limit 2 (some .boolean) 1 8 := ⟨⟨⟨(dk_m5 6 rfl rfl), (dk_m1 9 rfl rfl), (dk_m5 9 rfl rfl)⟩, ne1X8, ne2X8, by decide +kernel⟩, ⟨(dk_m5 7 rfl rfl), (dk_m5 8 rfl rfl)⟩, _, rfl, rfl⟩
theorem mL_117 : dk_LV RL 117 yX8_plan cX8_plan 5 (some .float) 0 8 := ⟨⟨⟨(dk_m5 10 rfl rfl), (dk_m1 9 rfl rfl), (dk_m5 13 rfl rfl)⟩, ne1X8, ne2X8, by decide +kernel⟩, ⟨(dk_m5 11 rfl rfl), (dk_m5 12 rfl rfl)⟩, _, rfl, rfl⟩
theorem mL_121 : dk_LV RL 121 yX8_explain cX8_explain 3 (some .int) 2 8 := ⟨⟨⟨(dk_m5 41 rfl rfl), (dk_m1 9 rfl rfl), (dk_m5 44 rfl rfl)⟩, ne1X8, ne2X8, by decide +kernel⟩, ⟨(dk_m5 42 rfl rfl), (dk_m5 43 rfl rfl)⟩, _, rfl, rfl⟩
theorem mL_122 : dk_LV RL 122 yX7_run cX7_run 3 (some .int) 1 7 := ⟨⟨⟨(dk_m2 154 rfl rfl), (dk_m1 1 rfl rfl), (dk_m2 157 rfl rfl)⟩, ne1X7, ne2X7, by decide +kernel⟩, ⟨(dk_m2 155 rfl rfl), (dk_m2 156 rfl rfl)⟩, _, rfl, rfl⟩
theorem mL_125 : dk_LV RL 125 yX8_run cX8_run 5 (some .int) 1 8 := ⟨⟨⟨(dk_m5 45 rfl rfl), (dk_m1 9 rfl rfl), (dk_m5 48 rfl rfl)⟩, ne1X8, ne2X8, by decide +kernel⟩, ⟨(dk_m5 46 rfl rfl), (dk_m5 47 rfl rfl)⟩, _, rfl, rfl⟩
theorem mL_126 : dk_LV RL 126 yX7_look cX7_look 2 (some .int) 1 7 := ⟨⟨⟨(dk_m3 4 rfl rfl), (dk_m1 1 rfl rfl), (dk_m3 7 rfl rfl)⟩, ne1X7, ne2X7, by decide +kernel⟩, ⟨(dk_m3 5 rfl rfl), (dk_m3 6 rfl rfl)⟩, _, rfl, rfl⟩
theorem mL_129 : dk_LV RL 129 yX8_look cX8_look 2 (some .int) 1 8 := ⟨⟨⟨(dk_m5 88 rfl rfl), (dk_m1 9 rfl rfl), (dk_m5 91 rfl rfl)⟩, ne1X8, ne2X8, by decide +kernel⟩, ⟨(dk_m5 89 rfl rfl), (dk_m5 90 rfl rfl)⟩, _, rfl, rfl⟩
theorem mL_132 : dk_LV RL 132 yX8_answer cX8_answer 3 (some .int) 2 8 := ⟨⟨⟨(dk_m5 92 rfl rfl), (dk_m1 9 rfl rfl), (dk_m5 95 rfl rfl)⟩, ne1X8, ne2X8, by decide +kernel⟩, ⟨(dk_m5 93 rfl rfl), (dk_m5 94 rfl rfl)⟩, _, rfl, rfl⟩
end
