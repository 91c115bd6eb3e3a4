theorem dX0_init_0 : decode cX0_init 0 = .ok (.aload_n 0, 1) := by decide +kernel
theorem dX0_init_1 : decode cX0_init 1 = .ok (.invokespecial 3, 3) := by decide +kernel
theorem dX0_init_4 : decode cX0_init 4 = .ok (.return_, 1) := by decide +kernel
theorem dX0_holds_0 : decode cX0_holds 0 = .ok (.aload_n 0, 1) := by decide +kernel
theorem dX0_holds_1 : decode cX0_holds 1 = .ok (.getfield 9, 3) := by decide +kernel
theorem dX0_holds_4 : decode cX0_holds 4 = .ok (.tableswitch 70 0 2 #[28, 42, 56], 28) := by decide +kernel
theorem dX0_holds_32 : decode cX0_holds 32 = .ok (.iload_n 1, 1) := by decide +kernel
theorem dX0_holds_33 : decode cX0_holds 33 = .ok (.aload_n 0, 1) := by decide +kernel
theorem dX0_holds_34 : decode cX0_holds 34 = .ok (.getfield 15, 3) := by decide +kernel
theorem dX0_holds_37 : decode cX0_holds 37 = .ok (.if_icmp .ne 7, 3) := by decide +kernel
theorem dX0_holds_40 : decode cX0_holds 40 = .ok (.iconst 1, 1) := by decide +kernel
theorem dX0_holds_41 : decode cX0_holds 41 = .ok (.goto 4, 3) := by decide +kernel
theorem dX0_holds_44 : decode cX0_holds 44 = .ok (.iconst 0, 1) := by decide +kernel
theorem dX0_holds_45 : decode cX0_holds 45 = .ok (.ireturn, 1) := by decide +kernel
theorem dX0_holds_46 : decode cX0_holds 46 = .ok (.iload_n 1, 1) := by decide +kernel
theorem dX0_holds_47 : decode cX0_holds 47 = .ok (.aload_n 0, 1) := by decide +kernel
theorem dX0_holds_48 : decode cX0_holds 48 = .ok (.getfield 15, 3) := by decide +kernel
theorem dX0_holds_51 : decode cX0_holds 51 = .ok (.if_icmp .ge 7, 3) := by decide +kernel
theorem dX0_holds_54 : decode cX0_holds 54 = .ok (.iconst 1, 1) := by decide +kernel
theorem dX0_holds_55 : decode cX0_holds 55 = .ok (.goto 4, 3) := by decide +kernel
theorem dX0_holds_58 : decode cX0_holds 58 = .ok (.iconst 0, 1) := by decide +kernel
theorem dX0_holds_59 : decode cX0_holds 59 = .ok (.ireturn, 1) := by decide +kernel
theorem dX0_holds_60 : decode cX0_holds 60 = .ok (.iload_n 1, 1) := by decide +kernel
theorem dX0_holds_61 : decode cX0_holds 61 = .ok (.aload_n 0, 1) := by decide +kernel
theorem dX0_holds_62 : decode cX0_holds 62 = .ok (.getfield 15, 3) := by decide +kernel
theorem dX0_holds_65 : decode cX0_holds 65 = .ok (.if_icmp .le 7, 3) := by decide +kernel
theorem dX0_holds_68 : decode cX0_holds 68 = .ok (.iconst 1, 1) := by decide +kernel
theorem dX0_holds_69 : decode cX0_holds 69 = .ok (.goto 4, 3) := by decide +kernel
theorem dX0_holds_72 : decode cX0_holds 72 = .ok (.iconst 0, 1) := by decide +kernel
theorem dX0_holds_73 : decode cX0_holds 73 = .ok (.ireturn, 1) := by decide +kernel
theorem dX0_holds_74 : decode cX0_holds 74 = .ok (.iload_n 1, 1) := by decide +kernel
theorem dX0_holds_75 : decode cX0_holds 75 = .ok (.aload_n 0, 1) := by decide +kernel
theorem dX0_holds_76 : decode cX0_holds 76 = .ok (.getfield 15, 3) := by decide +kernel
theorem dX0_holds_79 : decode cX0_holds 79 = .ok (.if_icmp .eq 7, 3) := by decide +kernel
theorem dX0_holds_82 : decode cX0_holds 82 = .ok (.iconst 1, 1) := by decide +kernel
theorem dX0_holds_83 : decode cX0_holds 83 = .ok (.goto 4, 3) := by decide +kernel
theorem dX0_holds_86 : decode cX0_holds 86 = .ok (.iconst 0, 1) := by decide +kernel
theorem dX0_holds_87 : decode cX0_holds 87 = .ok (.ireturn, 1) := by decide +kernel
theorem dX1_init_0 : decode cX1_init 0 = .ok (.aload_n 0, 1) := by decide +kernel
theorem dX1_init_1 : decode cX1_init 1 = .ok (.invokespecial 1, 3) := by decide +kernel
theorem dX1_init_4 : decode cX1_init 4 = .ok (.return_, 1) := by decide +kernel
theorem dX1_ties_0 : decode cX1_ties 0 = .ok (.aload_n 0, 1) := by decide +kernel
theorem dX1_ties_1 : decode cX1_ties 1 = .ok (.getfield 7, 3) := by decide +kernel
theorem dX1_ties_4 : decode cX1_ties 4 = .ok (.iload_n 1, 1) := by decide +kernel
theorem dX1_ties_5 : decode cX1_ties 5 = .ok (.if_icmp .eq 11, 3) := by decide +kernel
theorem dX1_ties_8 : decode cX1_ties 8 = .ok (.aload_n 0, 1) := by decide +kernel
theorem dX1_ties_9 : decode cX1_ties 9 = .ok (.getfield 13, 3) := by decide +kernel
theorem dX1_ties_12 : decode cX1_ties 12 = .ok (.iload_n 1, 1) := by decide +kernel
theorem dX1_ties_13 : decode cX1_ties 13 = .ok (.if_icmp .ne 7, 3) := by decide +kernel
theorem dX1_ties_16 : decode cX1_ties 16 = .ok (.iconst 1, 1) := by decide +kernel
theorem dX1_ties_17 : decode cX1_ties 17 = .ok (.goto 4, 3) := by decide +kernel
theorem dX1_ties_20 : decode cX1_ties 20 = .ok (.iconst 0, 1) := by decide +kernel
theorem dX1_ties_21 : decode cX1_ties 21 = .ok (.ireturn, 1) := by decide +kernel
theorem dX1_partnerOf_0 : decode cX1_partnerOf 0 = .ok (.aload_n 0, 1) := by decide +kernel
theorem dX1_partnerOf_1 : decode cX1_partnerOf 1 = .ok (.getfield 7, 3) := by decide +kernel
theorem dX1_partnerOf_4 : decode cX1_partnerOf 4 = .ok (.iload_n 1, 1) := by decide +kernel
theorem dX1_partnerOf_5 : decode cX1_partnerOf 5 = .ok (.if_icmp .ne 10, 3) := by decide +kernel
theorem dX1_partnerOf_8 : decode cX1_partnerOf 8 = .ok (.aload_n 0, 1) := by decide +kernel
theorem dX1_partnerOf_9 : decode cX1_partnerOf 9 = .ok (.getfield 13, 3) := by decide +kernel
theorem dX1_partnerOf_12 : decode cX1_partnerOf 12 = .ok (.goto 7, 3) := by decide +kernel
theorem dX1_partnerOf_15 : decode cX1_partnerOf 15 = .ok (.aload_n 0, 1) := by decide +kernel
theorem dX1_partnerOf_16 : decode cX1_partnerOf 16 = .ok (.getfield 7, 3) := by decide +kernel
theorem dX1_partnerOf_19 : decode cX1_partnerOf 19 = .ok (.ireturn, 1) := by decide +kernel
theorem dX1_columnOf_0 : decode cX1_columnOf 0 = .ok (.aload_n 0, 1) := by decide +kernel
theorem dX1_columnOf_1 : decode cX1_columnOf 1 = .ok (.getfield 7, 3) := by decide +kernel
theorem dX1_columnOf_4 : decode cX1_columnOf 4 = .ok (.iload_n 1, 1) := by decide +kernel
theorem dX1_columnOf_5 : decode cX1_columnOf 5 = .ok (.if_icmp .ne 10, 3) := by decide +kernel
theorem dX1_columnOf_8 : decode cX1_columnOf 8 = .ok (.aload_n 0, 1) := by decide +kernel
theorem dX1_columnOf_9 : decode cX1_columnOf 9 = .ok (.getfield 16, 3) := by decide +kernel
theorem dX1_columnOf_12 : decode cX1_columnOf 12 = .ok (.goto 7, 3) := by decide +kernel
theorem dX1_columnOf_15 : decode cX1_columnOf 15 = .ok (.aload_n 0, 1) := by decide +kernel
theorem dX1_columnOf_16 : decode cX1_columnOf 16 = .ok (.getfield 19, 3) := by decide +kernel
theorem dX1_columnOf_19 : decode cX1_columnOf 19 = .ok (.ireturn, 1) := by decide +kernel
theorem dX2_init_0 : decode cX2_init 0 = .ok (.aload_n 0, 1) := by decide +kernel
theorem dX2_init_1 : decode cX2_init 1 = .ok (.invokespecial 1, 3) := by decide +kernel
theorem dX2_init_4 : decode cX2_init 4 = .ok (.return_, 1) := by decide +kernel
theorem dX3_init_0 : decode cX3_init 0 = .ok (.aload_n 0, 1) := by decide +kernel
theorem dX3_init_1 : decode cX3_init 1 = .ok (.invokespecial 3, 3) := by decide +kernel
theorem dX3_init_4 : decode cX3_init 4 = .ok (.aload_n 0, 1) := by decide +kernel
theorem dX3_init_5 : decode cX3_init 5 = .ok (.iconst 4, 1) := by decide +kernel
theorem dX3_init_6 : decode cX3_init 6 = .ok (.newarray .float, 2) := by decide +kernel
theorem dX3_init_8 : decode cX3_init 8 = .ok (.putfield 11, 3) := by decide +kernel
theorem dX3_init_11 : decode cX3_init 11 = .ok (.aload_n 0, 1) := by decide +kernel
theorem dX3_init_12 : decode cX3_init 12 = .ok (.iconst 3, 1) := by decide +kernel
theorem dX3_init_13 : decode cX3_init 13 = .ok (.newarray .float, 2) := by decide +kernel
theorem dX3_init_15 : decode cX3_init 15 = .ok (.putfield 17, 3) := by decide +kernel
theorem dX3_init_18 : decode cX3_init 18 = .ok (.aload_n 0, 1) := by decide +kernel
theorem dX3_init_19 : decode cX3_init 19 = .ok (.iconst 3, 1) := by decide +kernel
theorem dX3_init_20 : decode cX3_init 20 = .ok (.newarray .float, 2) := by decide +kernel
theorem dX3_init_22 : decode cX3_init 22 = .ok (.putfield 20, 3) := by decide +kernel
theorem dX3_init_25 : decode cX3_init 25 = .ok (.aload_n 0, 1) := by decide +kernel
theorem dX3_init_26 : decode cX3_init 26 = .ok (.iconst 3, 1) := by decide +kernel
theorem dX3_init_27 : decode cX3_init 27 = .ok (.newarray .int, 2) := by decide +kernel
theorem dX3_init_29 : decode cX3_init 29 = .ok (.putfield 23, 3) := by decide +kernel
theorem dX3_init_32 : decode cX3_init 32 = .ok (.aload_n 0, 1) := by decide +kernel
theorem dX3_init_33 : decode cX3_init 33 = .ok (.iconst 3, 1) := by decide +kernel
theorem dX3_init_34 : decode cX3_init 34 = .ok (.newarray .int, 2) := by decide +kernel
theorem dX3_init_36 : decode cX3_init 36 = .ok (.putfield 27, 3) := by decide +kernel
theorem dX3_init_39 : decode cX3_init 39 = .ok (.aload_n 0, 1) := by decide +kernel
theorem dX3_init_40 : decode cX3_init 40 = .ok (.iconst 3, 1) := by decide +kernel
theorem dX3_init_41 : decode cX3_init 41 = .ok (.newarray .int, 2) := by decide +kernel
theorem dX3_init_43 : decode cX3_init 43 = .ok (.putfield 30, 3) := by decide +kernel
theorem dX3_init_46 : decode cX3_init 46 = .ok (.aload_n 0, 1) := by decide +kernel
theorem dX3_init_47 : decode cX3_init 47 = .ok (.iconst 3, 1) := by decide +kernel
theorem dX3_init_48 : decode cX3_init 48 = .ok (.newarray .int, 2) := by decide +kernel
theorem dX3_init_50 : decode cX3_init 50 = .ok (.putfield 33, 3) := by decide +kernel
theorem dX3_init_53 : decode cX3_init 53 = .ok (.return_, 1) := by decide +kernel
theorem dX3_choose_0 : decode cX3_choose 0 = .ok (.aload_n 0, 1) := by decide +kernel
theorem dX3_choose_1 : decode cX3_choose 1 = .ok (.aload_n 1, 1) := by decide +kernel
theorem dX3_choose_2 : decode cX3_choose 2 = .ok (.invokevirtual 36, 3) := by decide +kernel
theorem dX3_choose_5 : decode cX3_choose 5 = .ok (.aload_n 1, 1) := by decide +kernel
theorem dX3_choose_6 : decode cX3_choose 6 = .ok (.getfield 40, 3) := by decide +kernel
theorem dX3_choose_9 : decode cX3_choose 9 = .ok (.invokestatic 44, 3) := by decide +kernel
theorem dX3_choose_12 : decode cX3_choose 12 = .ok (.astore_n 2, 1) := by decide +kernel
theorem dX3_choose_13 : decode cX3_choose 13 = .ok (.iconst 0, 1) := by decide +kernel
theorem dX3_choose_14 : decode cX3_choose 14 = .ok (.istore_n 3, 1) := by decide +kernel
theorem dX3_choose_15 : decode cX3_choose 15 = .ok (.aload_n 0, 1) := by decide +kernel
theorem dX3_choose_16 : decode cX3_choose 16 = .ok (.aload_n 1, 1) := by decide +kernel
theorem dX3_choose_17 : decode cX3_choose 17 = .ok (.aload_n 2, 1) := by decide +kernel
theorem dX3_choose_18 : decode cX3_choose 18 = .ok (.iconst 0, 1) := by decide +kernel
theorem dX3_choose_19 : decode cX3_choose 19 = .ok (.invokevirtual 48, 3) := by decide +kernel
theorem dX3_choose_22 : decode cX3_choose 22 = .ok (.fstore 4, 2) := by decide +kernel
theorem dX3_choose_24 : decode cX3_choose 24 = .ok (.iconst 1, 1) := by decide +kernel
theorem dX3_choose_25 : decode cX3_choose 25 = .ok (.istore 5, 2) := by decide +kernel
theorem dX3_choose_27 : decode cX3_choose 27 = .ok (.iload 5, 2) := by decide +kernel
theorem dX3_choose_29 : decode cX3_choose 29 = .ok (.aload_n 1, 1) := by decide +kernel
theorem dX3_choose_30 : decode cX3_choose 30 = .ok (.getfield 40, 3) := by decide +kernel
theorem dX3_choose_33 : decode cX3_choose 33 = .ok (.invokestatic 52, 3) := by decide +kernel
theorem dX3_choose_36 : decode cX3_choose 36 = .ok (.if_icmp .ge 34, 3) := by decide +kernel
theorem dX3_choose_39 : decode cX3_choose 39 = .ok (.aload_n 0, 1) := by decide +kernel
theorem dX3_choose_40 : decode cX3_choose 40 = .ok (.aload_n 1, 1) := by decide +kernel
theorem dX3_choose_41 : decode cX3_choose 41 = .ok (.aload_n 2, 1) := by decide +kernel
theorem dX3_choose_42 : decode cX3_choose 42 = .ok (.iload 5, 2) := by decide +kernel
theorem dX3_choose_44 : decode cX3_choose 44 = .ok (.invokevirtual 48, 3) := by decide +kernel
theorem dX3_choose_47 : decode cX3_choose 47 = .ok (.fstore 6, 2) := by decide +kernel
theorem dX3_choose_49 : decode cX3_choose 49 = .ok (.fload 6, 2) := by decide +kernel
theorem dX3_choose_51 : decode cX3_choose 51 = .ok (.fload 4, 2) := by decide +kernel
theorem dX3_choose_53 : decode cX3_choose 53 = .ok (.fcmp .g, 1) := by decide +kernel
theorem dX3_choose_54 : decode cX3_choose 54 = .ok (.ifCond .ge 10, 3) := by decide +kernel
theorem dX3_choose_57 : decode cX3_choose 57 = .ok (.iload 5, 2) := by decide +kernel
theorem dX3_choose_59 : decode cX3_choose 59 = .ok (.istore_n 3, 1) := by decide +kernel
theorem dX3_choose_60 : decode cX3_choose 60 = .ok (.fload 6, 2) := by decide +kernel
theorem dX3_choose_62 : decode cX3_choose 62 = .ok (.fstore 4, 2) := by decide +kernel
theorem dX3_choose_64 : decode cX3_choose 64 = .ok (.iinc 5 1, 3) := by decide +kernel
theorem dX3_choose_67 : decode cX3_choose 67 = .ok (.goto (-40), 3) := by decide +kernel
theorem dX3_choose_70 : decode cX3_choose 70 = .ok (.aload_n 0, 1) := by decide +kernel
theorem dX3_choose_71 : decode cX3_choose 71 = .ok (.aload_n 1, 1) := by decide +kernel
theorem dX3_choose_72 : decode cX3_choose 72 = .ok (.aload_n 2, 1) := by decide +kernel
theorem dX3_choose_73 : decode cX3_choose 73 = .ok (.iload_n 3, 1) := by decide +kernel
theorem dX3_choose_74 : decode cX3_choose 74 = .ok (.invokevirtual 48, 3) := by decide +kernel
theorem dX3_choose_77 : decode cX3_choose 77 = .ok (.freturn, 1) := by decide +kernel
theorem dX3_tiesBack_0 : decode cX3_tiesBack 0 = .ok (.aload_n 1, 1) := by decide +kernel
theorem dX3_tiesBack_1 : decode cX3_tiesBack 1 = .ok (.aload_n 0, 1) := by decide +kernel
theorem dX3_tiesBack_2 : decode cX3_tiesBack 2 = .ok (.getfield 23, 3) := by decide +kernel
theorem dX3_tiesBack_5 : decode cX3_tiesBack 5 = .ok (.iload_n 2, 1) := by decide +kernel
theorem dX3_tiesBack_6 : decode cX3_tiesBack 6 = .ok (.iaload, 1) := by decide +kernel
theorem dX3_tiesBack_7 : decode cX3_tiesBack 7 = .ok (.invokevirtual 56, 3) := by decide +kernel
theorem dX3_tiesBack_10 : decode cX3_tiesBack 10 = .ok (.ifCond .eq 25, 3) := by decide +kernel
theorem dX3_tiesBack_13 : decode cX3_tiesBack 13 = .ok (.aload_n 0, 1) := by decide +kernel
theorem dX3_tiesBack_14 : decode cX3_tiesBack 14 = .ok (.aload_n 1, 1) := by decide +kernel
theorem dX3_tiesBack_15 : decode cX3_tiesBack 15 = .ok (.aload_n 0, 1) := by decide +kernel
theorem dX3_tiesBack_16 : decode cX3_tiesBack 16 = .ok (.getfield 23, 3) := by decide +kernel
theorem dX3_tiesBack_19 : decode cX3_tiesBack 19 = .ok (.iload_n 2, 1) := by decide +kernel
theorem dX3_tiesBack_20 : decode cX3_tiesBack 20 = .ok (.iaload, 1) := by decide +kernel
theorem dX3_tiesBack_21 : decode cX3_tiesBack 21 = .ok (.invokevirtual 62, 3) := by decide +kernel
theorem dX3_tiesBack_24 : decode cX3_tiesBack 24 = .ok (.iload_n 2, 1) := by decide +kernel
theorem dX3_tiesBack_25 : decode cX3_tiesBack 25 = .ok (.invokevirtual 65, 3) := by decide +kernel
theorem dX3_tiesBack_28 : decode cX3_tiesBack 28 = .ok (.ifCond .eq 7, 3) := by decide +kernel
theorem dX3_tiesBack_31 : decode cX3_tiesBack 31 = .ok (.iconst 1, 1) := by decide +kernel
theorem dX3_tiesBack_32 : decode cX3_tiesBack 32 = .ok (.goto 4, 3) := by decide +kernel
theorem dX3_tiesBack_35 : decode cX3_tiesBack 35 = .ok (.iconst 0, 1) := by decide +kernel
theorem dX3_tiesBack_36 : decode cX3_tiesBack 36 = .ok (.ireturn, 1) := by decide +kernel
theorem dX3_isBefore_0 : decode cX3_isBefore 0 = .ok (.iconst 0, 1) := by decide +kernel
theorem dX3_isBefore_1 : decode cX3_isBefore 1 = .ok (.istore_n 3, 1) := by decide +kernel
theorem dX3_isBefore_2 : decode cX3_isBefore 2 = .ok (.iload_n 3, 1) := by decide +kernel
theorem dX3_isBefore_3 : decode cX3_isBefore 3 = .ok (.iload_n 2, 1) := by decide +kernel
theorem dX3_isBefore_4 : decode cX3_isBefore 4 = .ok (.if_icmp .ge 21, 3) := by decide +kernel
theorem dX3_isBefore_7 : decode cX3_isBefore 7 = .ok (.aload_n 0, 1) := by decide +kernel
theorem dX3_isBefore_8 : decode cX3_isBefore 8 = .ok (.getfield 23, 3) := by decide +kernel
theorem dX3_isBefore_11 : decode cX3_isBefore 11 = .ok (.iload_n 3, 1) := by decide +kernel
theorem dX3_isBefore_12 : decode cX3_isBefore 12 = .ok (.iaload, 1) := by decide +kernel
theorem dX3_isBefore_13 : decode cX3_isBefore 13 = .ok (.iload_n 1, 1) := by decide +kernel
theorem dX3_isBefore_14 : decode cX3_isBefore 14 = .ok (.if_icmp .ne 5, 3) := by decide +kernel
theorem dX3_isBefore_17 : decode cX3_isBefore 17 = .ok (.iconst 1, 1) := by decide +kernel
theorem dX3_isBefore_18 : decode cX3_isBefore 18 = .ok (.ireturn, 1) := by decide +kernel
theorem dX3_isBefore_19 : decode cX3_isBefore 19 = .ok (.iinc 3 1, 3) := by decide +kernel
theorem dX3_isBefore_22 : decode cX3_isBefore 22 = .ok (.goto (-20), 3) := by decide +kernel
theorem dX3_isBefore_25 : decode cX3_isBefore 25 = .ok (.iconst 0, 1) := by decide +kernel
theorem dX3_isBefore_26 : decode cX3_isBefore 26 = .ok (.ireturn, 1) := by decide +kernel
theorem dX3_ordersOf_0 : decode cX3_ordersOf 0 = .ok (.iload_n 0, 1) := by decide +kernel
theorem dX3_ordersOf_1 : decode cX3_ordersOf 1 = .ok (.iconst 1, 1) := by decide +kernel
theorem dX3_ordersOf_2 : decode cX3_ordersOf 2 = .ok (.if_icmp .ne 7, 3) := by decide +kernel
theorem dX3_ordersOf_5 : decode cX3_ordersOf 5 = .ok (.getstatic 69, 3) := by decide +kernel
theorem dX3_ordersOf_8 : decode cX3_ordersOf 8 = .ok (.areturn, 1) := by decide +kernel
theorem dX3_ordersOf_9 : decode cX3_ordersOf 9 = .ok (.iload_n 0, 1) := by decide +kernel
theorem dX3_ordersOf_10 : decode cX3_ordersOf 10 = .ok (.iconst 2, 1) := by decide +kernel
theorem dX3_ordersOf_11 : decode cX3_ordersOf 11 = .ok (.if_icmp .ne 9, 3) := by decide +kernel
theorem dX3_ordersOf_14 : decode cX3_ordersOf 14 = .ok (.getstatic 72, 3) := by decide +kernel
theorem dX3_ordersOf_17 : decode cX3_ordersOf 17 = .ok (.goto 6, 3) := by decide +kernel
theorem dX3_ordersOf_20 : decode cX3_ordersOf 20 = .ok (.getstatic 75, 3) := by decide +kernel
theorem dX3_ordersOf_23 : decode cX3_ordersOf 23 = .ok (.areturn, 1) := by decide +kernel
theorem dX3_orderCountOf_0 : decode cX3_orderCountOf 0 = .ok (.iload_n 0, 1) := by decide +kernel
theorem dX3_orderCountOf_1 : decode cX3_orderCountOf 1 = .ok (.iconst 3, 1) := by decide +kernel
theorem dX3_orderCountOf_2 : decode cX3_orderCountOf 2 = .ok (.if_icmp .ne 8, 3) := by decide +kernel
theorem dX3_orderCountOf_5 : decode cX3_orderCountOf 5 = .ok (.bipush 6, 2) := by decide +kernel
theorem dX3_orderCountOf_7 : decode cX3_orderCountOf 7 = .ok (.goto 4, 3) := by decide +kernel
theorem dX3_orderCountOf_10 : decode cX3_orderCountOf 10 = .ok (.iload_n 0, 1) := by decide +kernel
theorem dX3_orderCountOf_11 : decode cX3_orderCountOf 11 = .ok (.ireturn, 1) := by decide +kernel
theorem dX3_measureShares_0 : decode cX3_measureShares 0 = .ok (.iconst 0, 1) := by decide +kernel
theorem dX3_measureShares_1 : decode cX3_measureShares 1 = .ok (.istore_n 2, 1) := by decide +kernel
theorem dX3_measureShares_2 : decode cX3_measureShares 2 = .ok (.iload_n 2, 1) := by decide +kernel
theorem dX3_measureShares_3 : decode cX3_measureShares 3 = .ok (.aload_n 1, 1) := by decide +kernel
theorem dX3_measureShares_4 : decode cX3_measureShares 4 = .ok (.getfield 78, 3) := by decide +kernel
theorem dX3_measureShares_7 : decode cX3_measureShares 7 = .ok (.if_icmp .ge 35, 3) := by decide +kernel
theorem dX3_measureShares_10 : decode cX3_measureShares 10 = .ok (.aload_n 1, 1) := by decide +kernel
theorem dX3_measureShares_11 : decode cX3_measureShares 11 = .ok (.getfield 81, 3) := by decide +kernel
theorem dX3_measureShares_14 : decode cX3_measureShares 14 = .ok (.iload_n 2, 1) := by decide +kernel
theorem dX3_measureShares_15 : decode cX3_measureShares 15 = .ok (.aaload, 1) := by decide +kernel
theorem dX3_measureShares_16 : decode cX3_measureShares 16 = .ok (.astore_n 3, 1) := by decide +kernel
theorem dX3_measureShares_17 : decode cX3_measureShares 17 = .ok (.aload_n 0, 1) := by decide +kernel
theorem dX3_measureShares_18 : decode cX3_measureShares 18 = .ok (.getfield 11, 3) := by decide +kernel
theorem dX3_measureShares_21 : decode cX3_measureShares 21 = .ok (.iload_n 2, 1) := by decide +kernel
theorem dX3_measureShares_22 : decode cX3_measureShares 22 = .ok (.aload_n 3, 1) := by decide +kernel
theorem dX3_measureShares_23 : decode cX3_measureShares 23 = .ok (.aload_n 1, 1) := by decide +kernel
theorem dX3_measureShares_24 : decode cX3_measureShares 24 = .ok (.getfield 85, 3) := by decide +kernel
theorem dX3_measureShares_27 : decode cX3_measureShares 27 = .ok (.aload_n 3, 1) := by decide +kernel
theorem dX3_measureShares_28 : decode cX3_measureShares 28 = .ok (.getfield 89, 3) := by decide +kernel
theorem dX3_measureShares_31 : decode cX3_measureShares 31 = .ok (.aaload, 1) := by decide +kernel
theorem dX3_measureShares_32 : decode cX3_measureShares 32 = .ok (.invokestatic 94, 3) := by decide +kernel
theorem dX3_measureShares_35 : decode cX3_measureShares 35 = .ok (.fastore, 1) := by decide +kernel
theorem dX3_measureShares_36 : decode cX3_measureShares 36 = .ok (.iinc 2 1, 3) := by decide +kernel
theorem dX3_measureShares_39 : decode cX3_measureShares 39 = .ok (.goto (-37), 3) := by decide +kernel
theorem dX3_measureShares_42 : decode cX3_measureShares 42 = .ok (.iconst 0, 1) := by decide +kernel
theorem dX3_measureShares_43 : decode cX3_measureShares 43 = .ok (.istore_n 2, 1) := by decide +kernel
theorem dX3_measureShares_44 : decode cX3_measureShares 44 = .ok (.iload_n 2, 1) := by decide +kernel
theorem dX3_measureShares_45 : decode cX3_measureShares 45 = .ok (.aload_n 1, 1) := by decide +kernel
theorem dX3_measureShares_46 : decode cX3_measureShares 46 = .ok (.getfield 98, 3) := by decide +kernel
theorem dX3_measureShares_49 : decode cX3_measureShares 49 = .ok (.if_icmp .ge 60, 3) := by decide +kernel
theorem dX3_measureShares_52 : decode cX3_measureShares 52 = .ok (.aload_n 1, 1) := by decide +kernel
theorem dX3_measureShares_53 : decode cX3_measureShares 53 = .ok (.getfield 101, 3) := by decide +kernel
theorem dX3_measureShares_56 : decode cX3_measureShares 56 = .ok (.iload_n 2, 1) := by decide +kernel
theorem dX3_measureShares_57 : decode cX3_measureShares 57 = .ok (.aaload, 1) := by decide +kernel
theorem dX3_measureShares_58 : decode cX3_measureShares 58 = .ok (.astore_n 3, 1) := by decide +kernel
theorem dX3_measureShares_59 : decode cX3_measureShares 59 = .ok (.aload_n 0, 1) := by decide +kernel
theorem dX3_measureShares_60 : decode cX3_measureShares 60 = .ok (.getfield 17, 3) := by decide +kernel
theorem dX3_measureShares_63 : decode cX3_measureShares 63 = .ok (.iload_n 2, 1) := by decide +kernel
theorem dX3_measureShares_64 : decode cX3_measureShares 64 = .ok (.aload_n 1, 1) := by decide +kernel
theorem dX3_measureShares_65 : decode cX3_measureShares 65 = .ok (.getfield 85, 3) := by decide +kernel
theorem dX3_measureShares_68 : decode cX3_measureShares 68 = .ok (.aload_n 3, 1) := by decide +kernel
theorem dX3_measureShares_69 : decode cX3_measureShares 69 = .ok (.getfield 105, 3) := by decide +kernel
theorem dX3_measureShares_72 : decode cX3_measureShares 72 = .ok (.aaload, 1) := by decide +kernel
theorem dX3_measureShares_73 : decode cX3_measureShares 73 = .ok (.aload_n 3, 1) := by decide +kernel
theorem dX3_measureShares_74 : decode cX3_measureShares 74 = .ok (.getfield 108, 3) := by decide +kernel
theorem dX3_measureShares_77 : decode cX3_measureShares 77 = .ok (.invokestatic 111, 3) := by decide +kernel
theorem dX3_measureShares_80 : decode cX3_measureShares 80 = .ok (.fastore, 1) := by decide +kernel
theorem dX3_measureShares_81 : decode cX3_measureShares 81 = .ok (.aload_n 0, 1) := by decide +kernel
theorem dX3_measureShares_82 : decode cX3_measureShares 82 = .ok (.getfield 20, 3) := by decide +kernel
theorem dX3_measureShares_85 : decode cX3_measureShares 85 = .ok (.iload_n 2, 1) := by decide +kernel
theorem dX3_measureShares_86 : decode cX3_measureShares 86 = .ok (.aload_n 1, 1) := by decide +kernel
theorem dX3_measureShares_87 : decode cX3_measureShares 87 = .ok (.getfield 85, 3) := by decide +kernel
theorem dX3_measureShares_90 : decode cX3_measureShares 90 = .ok (.aload_n 3, 1) := by decide +kernel
theorem dX3_measureShares_91 : decode cX3_measureShares 91 = .ok (.getfield 115, 3) := by decide +kernel
theorem dX3_measureShares_94 : decode cX3_measureShares 94 = .ok (.aaload, 1) := by decide +kernel
theorem dX3_measureShares_95 : decode cX3_measureShares 95 = .ok (.aload_n 3, 1) := by decide +kernel
theorem dX3_measureShares_96 : decode cX3_measureShares 96 = .ok (.getfield 118, 3) := by decide +kernel
theorem dX3_measureShares_99 : decode cX3_measureShares 99 = .ok (.invokestatic 111, 3) := by decide +kernel
theorem dX3_measureShares_102 : decode cX3_measureShares 102 = .ok (.fastore, 1) := by decide +kernel
theorem dX3_measureShares_103 : decode cX3_measureShares 103 = .ok (.iinc 2 1, 3) := by decide +kernel
theorem dX3_measureShares_106 : decode cX3_measureShares 106 = .ok (.goto (-62), 3) := by decide +kernel
theorem dX3_measureShares_109 : decode cX3_measureShares 109 = .ok (.return_, 1) := by decide +kernel
theorem dX3_shareOf_0 : decode cX3_shareOf 0 = .ok (.aload_n 1, 1) := by decide +kernel
theorem dX3_shareOf_1 : decode cX3_shareOf 1 = .ok (.getfield 121, 3) := by decide +kernel
theorem dX3_shareOf_4 : decode cX3_shareOf 4 = .ok (.ifCond .ne 5, 3) := by decide +kernel
theorem dX3_shareOf_7 : decode cX3_shareOf 7 = .ok (.fconst 0, 1) := by decide +kernel
theorem dX3_shareOf_8 : decode cX3_shareOf 8 = .ok (.freturn, 1) := by decide +kernel
theorem dX3_shareOf_9 : decode cX3_shareOf 9 = .ok (.aload_n 0, 1) := by decide +kernel
theorem dX3_shareOf_10 : decode cX3_shareOf 10 = .ok (.getfield 126, 3) := by decide +kernel
theorem dX3_shareOf_13 : decode cX3_shareOf 13 = .ok (.istore_n 2, 1) := by decide +kernel
theorem dX3_shareOf_14 : decode cX3_shareOf 14 = .ok (.aload_n 0, 1) := by decide +kernel
theorem dX3_shareOf_15 : decode cX3_shareOf 15 = .ok (.getfield 129, 3) := by decide +kernel
theorem dX3_shareOf_18 : decode cX3_shareOf 18 = .ok (.tableswitch 68 0 2 #[26, 32, 50], 26) := by decide +kernel
theorem dX3_shareOf_44 : decode cX3_shareOf 44 = .ok (.aload_n 1, 1) := by decide +kernel
theorem dX3_shareOf_45 : decode cX3_shareOf 45 = .ok (.iload_n 2, 1) := by decide +kernel
theorem dX3_shareOf_46 : decode cX3_shareOf 46 = .ok (.invokestatic 111, 3) := by decide +kernel
theorem dX3_shareOf_49 : decode cX3_shareOf 49 = .ok (.freturn, 1) := by decide +kernel
theorem dX3_shareOf_50 : decode cX3_shareOf 50 = .ok (.aload_n 0, 1) := by decide +kernel
theorem dX3_shareOf_51 : decode cX3_shareOf 51 = .ok (.getfield 132, 3) := by decide +kernel
theorem dX3_shareOf_54 : decode cX3_shareOf 54 = .ok (.i2l, 1) := by decide +kernel
theorem dX3_shareOf_55 : decode cX3_shareOf 55 = .ok (.aload_n 1, 1) := by decide +kernel
theorem dX3_shareOf_56 : decode cX3_shareOf 56 = .ok (.iload_n 2, 1) := by decide +kernel
theorem dX3_shareOf_57 : decode cX3_shareOf 57 = .ok (.invokevirtual 135, 3) := by decide +kernel
theorem dX3_shareOf_60 : decode cX3_shareOf 60 = .ok (.i2l, 1) := by decide +kernel
theorem dX3_shareOf_61 : decode cX3_shareOf 61 = .ok (.lsub, 1) := by decide +kernel
theorem dX3_shareOf_62 : decode cX3_shareOf 62 = .ok (.aload_n 1, 1) := by decide +kernel
theorem dX3_shareOf_63 : decode cX3_shareOf 63 = .ok (.iload_n 2, 1) := by decide +kernel
theorem dX3_shareOf_64 : decode cX3_shareOf 64 = .ok (.invokestatic 138, 3) := by decide +kernel
theorem dX3_shareOf_67 : decode cX3_shareOf 67 = .ok (.freturn, 1) := by decide +kernel
theorem dX3_shareOf_68 : decode cX3_shareOf 68 = .ok (.aload_n 1, 1) := by decide +kernel
theorem dX3_shareOf_69 : decode cX3_shareOf 69 = .ok (.iload_n 2, 1) := by decide +kernel
theorem dX3_shareOf_70 : decode cX3_shareOf 70 = .ok (.invokevirtual 142, 3) := by decide +kernel
theorem dX3_shareOf_73 : decode cX3_shareOf 73 = .ok (.i2l, 1) := by decide +kernel
theorem dX3_shareOf_74 : decode cX3_shareOf 74 = .ok (.aload_n 0, 1) := by decide +kernel
theorem dX3_shareOf_75 : decode cX3_shareOf 75 = .ok (.getfield 132, 3) := by decide +kernel
theorem dX3_shareOf_78 : decode cX3_shareOf 78 = .ok (.i2l, 1) := by decide +kernel
theorem dX3_shareOf_79 : decode cX3_shareOf 79 = .ok (.lsub, 1) := by decide +kernel
theorem dX3_shareOf_80 : decode cX3_shareOf 80 = .ok (.aload_n 1, 1) := by decide +kernel
theorem dX3_shareOf_81 : decode cX3_shareOf 81 = .ok (.iload_n 2, 1) := by decide +kernel
theorem dX3_shareOf_82 : decode cX3_shareOf 82 = .ok (.invokestatic 138, 3) := by decide +kernel
theorem dX3_shareOf_85 : decode cX3_shareOf 85 = .ok (.freturn, 1) := by decide +kernel
theorem dX3_shareOf_86 : decode cX3_shareOf 86 = .ok (.fconst 1, 1) := by decide +kernel
theorem dX3_shareOf_87 : decode cX3_shareOf 87 = .ok (.aload_n 1, 1) := by decide +kernel
theorem dX3_shareOf_88 : decode cX3_shareOf 88 = .ok (.iload_n 2, 1) := by decide +kernel
theorem dX3_shareOf_89 : decode cX3_shareOf 89 = .ok (.invokestatic 111, 3) := by decide +kernel
theorem dX3_shareOf_92 : decode cX3_shareOf 92 = .ok (.fsub, 1) := by decide +kernel
theorem dX3_shareOf_93 : decode cX3_shareOf 93 = .ok (.freturn, 1) := by decide +kernel
theorem dX3_shareOfOneValue_0 : decode cX3_shareOfOneValue 0 = .ok (.aload_n 0, 1) := by decide +kernel
theorem dX3_shareOfOneValue_1 : decode cX3_shareOfOneValue 1 = .ok (.getfield 121, 3) := by decide +kernel
theorem dX3_shareOfOneValue_4 : decode cX3_shareOfOneValue 4 = .ok (.ifCond .ne 7, 3) := by decide +kernel
theorem dX3_shareOfOneValue_7 : decode cX3_shareOfOneValue 7 = .ok (.fconst 0, 1) := by decide +kernel
theorem dX3_shareOfOneValue_8 : decode cX3_shareOfOneValue 8 = .ok (.goto 11, 3) := by decide +kernel
theorem dX3_shareOfOneValue_11 : decode cX3_shareOfOneValue 11 = .ok (.fconst 1, 1) := by decide +kernel
theorem dX3_shareOfOneValue_12 : decode cX3_shareOfOneValue 12 = .ok (.aload_n 0, 1) := by decide +kernel
theorem dX3_shareOfOneValue_13 : decode cX3_shareOfOneValue 13 = .ok (.iload_n 1, 1) := by decide +kernel
theorem dX3_shareOfOneValue_14 : decode cX3_shareOfOneValue 14 = .ok (.invokevirtual 145, 3) := by decide +kernel
theorem dX3_shareOfOneValue_17 : decode cX3_shareOfOneValue 17 = .ok (.i2f, 1) := by decide +kernel
theorem dX3_shareOfOneValue_18 : decode cX3_shareOfOneValue 18 = .ok (.fdiv, 1) := by decide +kernel
theorem dX3_shareOfOneValue_19 : decode cX3_shareOfOneValue 19 = .ok (.freturn, 1) := by decide +kernel
theorem dX3_shareOfSpan_0 : decode cX3_shareOfSpan 0 = .ok (.aload_n 2, 1) := by decide +kernel
theorem dX3_shareOfSpan_1 : decode cX3_shareOfSpan 1 = .ok (.iload_n 3, 1) := by decide +kernel
theorem dX3_shareOfSpan_2 : decode cX3_shareOfSpan 2 = .ok (.invokevirtual 142, 3) := by decide +kernel
theorem dX3_shareOfSpan_5 : decode cX3_shareOfSpan 5 = .ok (.i2l, 1) := by decide +kernel
theorem dX3_shareOfSpan_6 : decode cX3_shareOfSpan 6 = .ok (.aload_n 2, 1) := by decide +kernel
theorem dX3_shareOfSpan_7 : decode cX3_shareOfSpan 7 = .ok (.iload_n 3, 1) := by decide +kernel
theorem dX3_shareOfSpan_8 : decode cX3_shareOfSpan 8 = .ok (.invokevirtual 135, 3) := by decide +kernel
theorem dX3_shareOfSpan_11 : decode cX3_shareOfSpan 11 = .ok (.i2l, 1) := by decide +kernel
theorem dX3_shareOfSpan_12 : decode cX3_shareOfSpan 12 = .ok (.lsub, 1) := by decide +kernel
theorem dX3_shareOfSpan_13 : decode cX3_shareOfSpan 13 = .ok (.lconst 1, 1) := by decide +kernel
theorem dX3_shareOfSpan_14 : decode cX3_shareOfSpan 14 = .ok (.ladd, 1) := by decide +kernel
theorem dX3_shareOfSpan_15 : decode cX3_shareOfSpan 15 = .ok (.lstore 4, 2) := by decide +kernel
theorem dX3_shareOfSpan_17 : decode cX3_shareOfSpan 17 = .ok (.lload_n 0, 1) := by decide +kernel
theorem dX3_shareOfSpan_18 : decode cX3_shareOfSpan 18 = .ok (.l2f, 1) := by decide +kernel
theorem dX3_shareOfSpan_19 : decode cX3_shareOfSpan 19 = .ok (.lload 4, 2) := by decide +kernel
theorem dX3_shareOfSpan_21 : decode cX3_shareOfSpan 21 = .ok (.l2f, 1) := by decide +kernel
theorem dX3_shareOfSpan_22 : decode cX3_shareOfSpan 22 = .ok (.fdiv, 1) := by decide +kernel
theorem dX3_shareOfSpan_23 : decode cX3_shareOfSpan 23 = .ok (.fstore 6, 2) := by decide +kernel
theorem dX3_shareOfSpan_25 : decode cX3_shareOfSpan 25 = .ok (.fload 6, 2) := by decide +kernel
theorem dX3_shareOfSpan_27 : decode cX3_shareOfSpan 27 = .ok (.fconst 0, 1) := by decide +kernel
theorem dX3_shareOfSpan_28 : decode cX3_shareOfSpan 28 = .ok (.fcmp .g, 1) := by decide +kernel
theorem dX3_shareOfSpan_29 : decode cX3_shareOfSpan 29 = .ok (.ifCond .ge 5, 3) := by decide +kernel
theorem dX3_shareOfSpan_32 : decode cX3_shareOfSpan 32 = .ok (.fconst 0, 1) := by decide +kernel
theorem dX3_shareOfSpan_33 : decode cX3_shareOfSpan 33 = .ok (.freturn, 1) := by decide +kernel
theorem dX3_shareOfSpan_34 : decode cX3_shareOfSpan 34 = .ok (.fload 6, 2) := by decide +kernel
theorem dX3_shareOfSpan_36 : decode cX3_shareOfSpan 36 = .ok (.fconst 1, 1) := by decide +kernel
theorem dX3_shareOfSpan_37 : decode cX3_shareOfSpan 37 = .ok (.fcmp .l, 1) := by decide +kernel
theorem dX3_shareOfSpan_38 : decode cX3_shareOfSpan 38 = .ok (.ifCond .le 7, 3) := by decide +kernel
theorem dX3_shareOfSpan_41 : decode cX3_shareOfSpan 41 = .ok (.fconst 1, 1) := by decide +kernel
theorem dX3_shareOfSpan_42 : decode cX3_shareOfSpan 42 = .ok (.goto 5, 3) := by decide +kernel
theorem dX3_shareOfSpan_45 : decode cX3_shareOfSpan 45 = .ok (.fload 6, 2) := by decide +kernel
theorem dX3_shareOfSpan_47 : decode cX3_shareOfSpan 47 = .ok (.freturn, 1) := by decide +kernel
theorem dX3_joinShare_0 : decode cX3_joinShare 0 = .ok (.aload_n 1, 1) := by decide +kernel
theorem dX3_joinShare_1 : decode cX3_joinShare 1 = .ok (.getfield 105, 3) := by decide +kernel
theorem dX3_joinShare_4 : decode cX3_joinShare 4 = .ok (.iload_n 3, 1) := by decide +kernel
theorem dX3_joinShare_5 : decode cX3_joinShare 5 = .ok (.if_icmp .ne 12, 3) := by decide +kernel
theorem dX3_joinShare_8 : decode cX3_joinShare 8 = .ok (.aload_n 0, 1) := by decide +kernel
theorem dX3_joinShare_9 : decode cX3_joinShare 9 = .ok (.getfield 17, 3) := by decide +kernel
theorem dX3_joinShare_12 : decode cX3_joinShare 12 = .ok (.iload_n 2, 1) := by decide +kernel
theorem dX3_joinShare_13 : decode cX3_joinShare 13 = .ok (.faload, 1) := by decide +kernel
theorem dX3_joinShare_14 : decode cX3_joinShare 14 = .ok (.goto 9, 3) := by decide +kernel
theorem dX3_joinShare_17 : decode cX3_joinShare 17 = .ok (.aload_n 0, 1) := by decide +kernel
theorem dX3_joinShare_18 : decode cX3_joinShare 18 = .ok (.getfield 20, 3) := by decide +kernel
theorem dX3_joinShare_21 : decode cX3_joinShare 21 = .ok (.iload_n 2, 1) := by decide +kernel
theorem dX3_joinShare_22 : decode cX3_joinShare 22 = .ok (.faload, 1) := by decide +kernel
theorem dX3_joinShare_23 : decode cX3_joinShare 23 = .ok (.freturn, 1) := by decide +kernel
theorem dX3_tryOrder_0 : decode cX3_tryOrder 0 = .ok (.fconst 1, 1) := by decide +kernel
theorem dX3_tryOrder_1 : decode cX3_tryOrder 1 = .ok (.fstore 4, 2) := by decide +kernel
theorem dX3_tryOrder_3 : decode cX3_tryOrder 3 = .ok (.fconst 0, 1) := by decide +kernel
theorem dX3_tryOrder_4 : decode cX3_tryOrder 4 = .ok (.fstore 5, 2) := by decide +kernel
theorem dX3_tryOrder_6 : decode cX3_tryOrder 6 = .ok (.iconst 0, 1) := by decide +kernel
theorem dX3_tryOrder_7 : decode cX3_tryOrder 7 = .ok (.istore 6, 2) := by decide +kernel
theorem dX3_tryOrder_9 : decode cX3_tryOrder 9 = .ok (.iload 6, 2) := by decide +kernel
theorem dX3_tryOrder_11 : decode cX3_tryOrder 11 = .ok (.aload_n 1, 1) := by decide +kernel
theorem dX3_tryOrder_12 : decode cX3_tryOrder 12 = .ok (.getfield 40, 3) := by decide +kernel
theorem dX3_tryOrder_15 : decode cX3_tryOrder 15 = .ok (.if_icmp .ge 57, 3) := by decide +kernel
theorem dX3_tryOrder_18 : decode cX3_tryOrder 18 = .ok (.aload_n 0, 1) := by decide +kernel
theorem dX3_tryOrder_19 : decode cX3_tryOrder 19 = .ok (.getfield 23, 3) := by decide +kernel
theorem dX3_tryOrder_22 : decode cX3_tryOrder 22 = .ok (.iload 6, 2) := by decide +kernel
theorem dX3_tryOrder_24 : decode cX3_tryOrder 24 = .ok (.aload_n 2, 1) := by decide +kernel
theorem dX3_tryOrder_25 : decode cX3_tryOrder 25 = .ok (.iload_n 3, 1) := by decide +kernel
theorem dX3_tryOrder_26 : decode cX3_tryOrder 26 = .ok (.aload_n 1, 1) := by decide +kernel
theorem dX3_tryOrder_27 : decode cX3_tryOrder 27 = .ok (.getfield 40, 3) := by decide +kernel
theorem dX3_tryOrder_30 : decode cX3_tryOrder 30 = .ok (.imul, 1) := by decide +kernel
theorem dX3_tryOrder_31 : decode cX3_tryOrder 31 = .ok (.iload 6, 2) := by decide +kernel
theorem dX3_tryOrder_33 : decode cX3_tryOrder 33 = .ok (.iadd, 1) := by decide +kernel
theorem dX3_tryOrder_34 : decode cX3_tryOrder 34 = .ok (.iaload, 1) := by decide +kernel
theorem dX3_tryOrder_35 : decode cX3_tryOrder 35 = .ok (.iastore, 1) := by decide +kernel
theorem dX3_tryOrder_36 : decode cX3_tryOrder 36 = .ok (.aload_n 0, 1) := by decide +kernel
theorem dX3_tryOrder_37 : decode cX3_tryOrder 37 = .ok (.aload_n 1, 1) := by decide +kernel
theorem dX3_tryOrder_38 : decode cX3_tryOrder 38 = .ok (.iload 6, 2) := by decide +kernel
theorem dX3_tryOrder_40 : decode cX3_tryOrder 40 = .ok (.invokevirtual 148, 3) := by decide +kernel
theorem dX3_tryOrder_43 : decode cX3_tryOrder 43 = .ok (.fload 5, 2) := by decide +kernel
theorem dX3_tryOrder_45 : decode cX3_tryOrder 45 = .ok (.fload 4, 2) := by decide +kernel
theorem dX3_tryOrder_47 : decode cX3_tryOrder 47 = .ok (.aload_n 0, 1) := by decide +kernel
theorem dX3_tryOrder_48 : decode cX3_tryOrder 48 = .ok (.getfield 152, 3) := by decide +kernel
theorem dX3_tryOrder_51 : decode cX3_tryOrder 51 = .ok (.fmul, 1) := by decide +kernel
theorem dX3_tryOrder_52 : decode cX3_tryOrder 52 = .ok (.fadd, 1) := by decide +kernel
theorem dX3_tryOrder_53 : decode cX3_tryOrder 53 = .ok (.fstore 5, 2) := by decide +kernel
theorem dX3_tryOrder_55 : decode cX3_tryOrder 55 = .ok (.aload_n 0, 1) := by decide +kernel
theorem dX3_tryOrder_56 : decode cX3_tryOrder 56 = .ok (.aload_n 1, 1) := by decide +kernel
theorem dX3_tryOrder_57 : decode cX3_tryOrder 57 = .ok (.iload 6, 2) := by decide +kernel
theorem dX3_tryOrder_59 : decode cX3_tryOrder 59 = .ok (.fload 4, 2) := by decide +kernel
theorem dX3_tryOrder_61 : decode cX3_tryOrder 61 = .ok (.invokevirtual 156, 3) := by decide +kernel
theorem dX3_tryOrder_64 : decode cX3_tryOrder 64 = .ok (.fstore 4, 2) := by decide +kernel
theorem dX3_tryOrder_66 : decode cX3_tryOrder 66 = .ok (.iinc 6 1, 3) := by decide +kernel
theorem dX3_tryOrder_69 : decode cX3_tryOrder 69 = .ok (.goto (-60), 3) := by decide +kernel
theorem dX3_tryOrder_72 : decode cX3_tryOrder 72 = .ok (.fload 5, 2) := by decide +kernel
theorem dX3_tryOrder_74 : decode cX3_tryOrder 74 = .ok (.freturn, 1) := by decide +kernel
theorem dX3_countBehind_0 : decode cX3_countBehind 0 = .ok (.aload_n 0, 1) := by decide +kernel
theorem dX3_countBehind_1 : decode cX3_countBehind 1 = .ok (.getfield 23, 3) := by decide +kernel
theorem dX3_countBehind_4 : decode cX3_countBehind 4 = .ok (.iload_n 2, 1) := by decide +kernel
theorem dX3_countBehind_5 : decode cX3_countBehind 5 = .ok (.iaload, 1) := by decide +kernel
theorem dX3_countBehind_6 : decode cX3_countBehind 6 = .ok (.istore 4, 2) := by decide +kernel
theorem dX3_countBehind_8 : decode cX3_countBehind 8 = .ok (.fload_n 3, 1) := by decide +kernel
theorem dX3_countBehind_9 : decode cX3_countBehind 9 = .ok (.aload_n 1, 1) := by decide +kernel
theorem dX3_countBehind_10 : decode cX3_countBehind 10 = .ok (.getfield 85, 3) := by decide +kernel
theorem dX3_countBehind_13 : decode cX3_countBehind 13 = .ok (.iload 4, 2) := by decide +kernel
theorem dX3_countBehind_15 : decode cX3_countBehind 15 = .ok (.aaload, 1) := by decide +kernel
theorem dX3_countBehind_16 : decode cX3_countBehind 16 = .ok (.getfield 121, 3) := by decide +kernel
theorem dX3_countBehind_19 : decode cX3_countBehind 19 = .ok (.i2f, 1) := by decide +kernel
theorem dX3_countBehind_20 : decode cX3_countBehind 20 = .ok (.fmul, 1) := by decide +kernel
theorem dX3_countBehind_21 : decode cX3_countBehind 21 = .ok (.fstore 5, 2) := by decide +kernel
theorem dX3_countBehind_23 : decode cX3_countBehind 23 = .ok (.iconst 0, 1) := by decide +kernel
theorem dX3_countBehind_24 : decode cX3_countBehind 24 = .ok (.istore 6, 2) := by decide +kernel
theorem dX3_countBehind_26 : decode cX3_countBehind 26 = .ok (.iload 6, 2) := by decide +kernel
theorem dX3_countBehind_28 : decode cX3_countBehind 28 = .ok (.aload_n 1, 1) := by decide +kernel
theorem dX3_countBehind_29 : decode cX3_countBehind 29 = .ok (.getfield 78, 3) := by decide +kernel
theorem dX3_countBehind_32 : decode cX3_countBehind 32 = .ok (.if_icmp .ge 36, 3) := by decide +kernel
theorem dX3_countBehind_35 : decode cX3_countBehind 35 = .ok (.aload_n 1, 1) := by decide +kernel
theorem dX3_countBehind_36 : decode cX3_countBehind 36 = .ok (.getfield 81, 3) := by decide +kernel
theorem dX3_countBehind_39 : decode cX3_countBehind 39 = .ok (.iload 6, 2) := by decide +kernel
theorem dX3_countBehind_41 : decode cX3_countBehind 41 = .ok (.aaload, 1) := by decide +kernel
theorem dX3_countBehind_42 : decode cX3_countBehind 42 = .ok (.getfield 89, 3) := by decide +kernel
theorem dX3_countBehind_45 : decode cX3_countBehind 45 = .ok (.iload 4, 2) := by decide +kernel
theorem dX3_countBehind_47 : decode cX3_countBehind 47 = .ok (.if_icmp .ne 15, 3) := by decide +kernel
theorem dX3_countBehind_50 : decode cX3_countBehind 50 = .ok (.fload 5, 2) := by decide +kernel
theorem dX3_countBehind_52 : decode cX3_countBehind 52 = .ok (.aload_n 0, 1) := by decide +kernel
theorem dX3_countBehind_53 : decode cX3_countBehind 53 = .ok (.getfield 11, 3) := by decide +kernel
theorem dX3_countBehind_56 : decode cX3_countBehind 56 = .ok (.iload 6, 2) := by decide +kernel
theorem dX3_countBehind_58 : decode cX3_countBehind 58 = .ok (.faload, 1) := by decide +kernel
theorem dX3_countBehind_59 : decode cX3_countBehind 59 = .ok (.fmul, 1) := by decide +kernel
theorem dX3_countBehind_60 : decode cX3_countBehind 60 = .ok (.fstore 5, 2) := by decide +kernel
theorem dX3_countBehind_62 : decode cX3_countBehind 62 = .ok (.iinc 6 1, 3) := by decide +kernel
theorem dX3_countBehind_65 : decode cX3_countBehind 65 = .ok (.goto (-39), 3) := by decide +kernel
theorem dX3_countBehind_68 : decode cX3_countBehind 68 = .ok (.iconst 0, 1) := by decide +kernel
theorem dX3_countBehind_69 : decode cX3_countBehind 69 = .ok (.istore 6, 2) := by decide +kernel
theorem dX3_countBehind_71 : decode cX3_countBehind 71 = .ok (.iload 6, 2) := by decide +kernel
theorem dX3_countBehind_73 : decode cX3_countBehind 73 = .ok (.aload_n 1, 1) := by decide +kernel
theorem dX3_countBehind_74 : decode cX3_countBehind 74 = .ok (.getfield 98, 3) := by decide +kernel
theorem dX3_countBehind_77 : decode cX3_countBehind 77 = .ok (.if_icmp .ge 44, 3) := by decide +kernel
theorem dX3_countBehind_80 : decode cX3_countBehind 80 = .ok (.aload_n 0, 1) := by decide +kernel
theorem dX3_countBehind_81 : decode cX3_countBehind 81 = .ok (.aload_n 1, 1) := by decide +kernel
theorem dX3_countBehind_82 : decode cX3_countBehind 82 = .ok (.getfield 101, 3) := by decide +kernel
theorem dX3_countBehind_85 : decode cX3_countBehind 85 = .ok (.iload 6, 2) := by decide +kernel
theorem dX3_countBehind_87 : decode cX3_countBehind 87 = .ok (.aaload, 1) := by decide +kernel
theorem dX3_countBehind_88 : decode cX3_countBehind 88 = .ok (.iload_n 2, 1) := by decide +kernel
theorem dX3_countBehind_89 : decode cX3_countBehind 89 = .ok (.invokevirtual 160, 3) := by decide +kernel
theorem dX3_countBehind_92 : decode cX3_countBehind 92 = .ok (.ifCond .eq 23, 3) := by decide +kernel
theorem dX3_countBehind_95 : decode cX3_countBehind 95 = .ok (.fload 5, 2) := by decide +kernel
theorem dX3_countBehind_97 : decode cX3_countBehind 97 = .ok (.aload_n 0, 1) := by decide +kernel
theorem dX3_countBehind_98 : decode cX3_countBehind 98 = .ok (.aload_n 1, 1) := by decide +kernel
theorem dX3_countBehind_99 : decode cX3_countBehind 99 = .ok (.getfield 101, 3) := by decide +kernel
theorem dX3_countBehind_102 : decode cX3_countBehind 102 = .ok (.iload 6, 2) := by decide +kernel
theorem dX3_countBehind_104 : decode cX3_countBehind 104 = .ok (.aaload, 1) := by decide +kernel
theorem dX3_countBehind_105 : decode cX3_countBehind 105 = .ok (.iload 6, 2) := by decide +kernel
theorem dX3_countBehind_107 : decode cX3_countBehind 107 = .ok (.iload 4, 2) := by decide +kernel
theorem dX3_countBehind_109 : decode cX3_countBehind 109 = .ok (.invokevirtual 164, 3) := by decide +kernel
theorem dX3_countBehind_112 : decode cX3_countBehind 112 = .ok (.fmul, 1) := by decide +kernel
theorem dX3_countBehind_113 : decode cX3_countBehind 113 = .ok (.fstore 5, 2) := by decide +kernel
theorem dX3_countBehind_115 : decode cX3_countBehind 115 = .ok (.iinc 6 1, 3) := by decide +kernel
theorem dX3_countBehind_118 : decode cX3_countBehind 118 = .ok (.goto (-47), 3) := by decide +kernel
theorem dX3_countBehind_121 : decode cX3_countBehind 121 = .ok (.fload 5, 2) := by decide +kernel
theorem dX3_countBehind_123 : decode cX3_countBehind 123 = .ok (.freturn, 1) := by decide +kernel
theorem dX3_takeBestWay_0 : decode cX3_takeBestWay 0 = .ok (.aload_n 0, 1) := by decide +kernel
theorem dX3_takeBestWay_1 : decode cX3_takeBestWay 1 = .ok (.iload_n 2, 1) := by decide +kernel
theorem dX3_takeBestWay_2 : decode cX3_takeBestWay 2 = .ok (.iconst 0, 1) := by decide +kernel
theorem dX3_takeBestWay_3 : decode cX3_takeBestWay 3 = .ok (.iconst (-1), 1) := by decide +kernel
theorem dX3_takeBestWay_4 : decode cX3_takeBestWay 4 = .ok (.iconst (-1), 1) := by decide +kernel
theorem dX3_takeBestWay_5 : decode cX3_takeBestWay 5 = .ok (.invokevirtual 168, 3) := by decide +kernel
theorem dX3_takeBestWay_8 : decode cX3_takeBestWay 8 = .ok (.aload_n 0, 1) := by decide +kernel
theorem dX3_takeBestWay_9 : decode cX3_takeBestWay 9 = .ok (.aload_n 1, 1) := by decide +kernel
theorem dX3_takeBestWay_10 : decode cX3_takeBestWay 10 = .ok (.getfield 85, 3) := by decide +kernel
theorem dX3_takeBestWay_13 : decode cX3_takeBestWay 13 = .ok (.aload_n 0, 1) := by decide +kernel
theorem dX3_takeBestWay_14 : decode cX3_takeBestWay 14 = .ok (.getfield 23, 3) := by decide +kernel
theorem dX3_takeBestWay_17 : decode cX3_takeBestWay 17 = .ok (.iload_n 2, 1) := by decide +kernel
theorem dX3_takeBestWay_18 : decode cX3_takeBestWay 18 = .ok (.iaload, 1) := by decide +kernel
theorem dX3_takeBestWay_19 : decode cX3_takeBestWay 19 = .ok (.aaload, 1) := by decide +kernel
theorem dX3_takeBestWay_20 : decode cX3_takeBestWay 20 = .ok (.getfield 121, 3) := by decide +kernel
theorem dX3_takeBestWay_23 : decode cX3_takeBestWay 23 = .ok (.i2f, 1) := by decide +kernel
theorem dX3_takeBestWay_24 : decode cX3_takeBestWay 24 = .ok (.putfield 152, 3) := by decide +kernel
theorem dX3_takeBestWay_27 : decode cX3_takeBestWay 27 = .ok (.iconst 0, 1) := by decide +kernel
theorem dX3_takeBestWay_28 : decode cX3_takeBestWay 28 = .ok (.istore_n 3, 1) := by decide +kernel
theorem dX3_takeBestWay_29 : decode cX3_takeBestWay 29 = .ok (.iload_n 3, 1) := by decide +kernel
theorem dX3_takeBestWay_30 : decode cX3_takeBestWay 30 = .ok (.aload_n 1, 1) := by decide +kernel
theorem dX3_takeBestWay_31 : decode cX3_takeBestWay 31 = .ok (.getfield 78, 3) := by decide +kernel
theorem dX3_takeBestWay_34 : decode cX3_takeBestWay 34 = .ok (.if_icmp .ge 34, 3) := by decide +kernel
theorem dX3_takeBestWay_37 : decode cX3_takeBestWay 37 = .ok (.aload_n 1, 1) := by decide +kernel
theorem dX3_takeBestWay_38 : decode cX3_takeBestWay 38 = .ok (.getfield 81, 3) := by decide +kernel
theorem dX3_takeBestWay_41 : decode cX3_takeBestWay 41 = .ok (.iload_n 3, 1) := by decide +kernel
theorem dX3_takeBestWay_42 : decode cX3_takeBestWay 42 = .ok (.aaload, 1) := by decide +kernel
theorem dX3_takeBestWay_43 : decode cX3_takeBestWay 43 = .ok (.getfield 89, 3) := by decide +kernel
theorem dX3_takeBestWay_46 : decode cX3_takeBestWay 46 = .ok (.aload_n 0, 1) := by decide +kernel
theorem dX3_takeBestWay_47 : decode cX3_takeBestWay 47 = .ok (.getfield 23, 3) := by decide +kernel
theorem dX3_takeBestWay_50 : decode cX3_takeBestWay 50 = .ok (.iload_n 2, 1) := by decide +kernel
theorem dX3_takeBestWay_51 : decode cX3_takeBestWay 51 = .ok (.iaload, 1) := by decide +kernel
theorem dX3_takeBestWay_52 : decode cX3_takeBestWay 52 = .ok (.if_icmp .ne 10, 3) := by decide +kernel
theorem dX3_takeBestWay_55 : decode cX3_takeBestWay 55 = .ok (.aload_n 0, 1) := by decide +kernel
theorem dX3_takeBestWay_56 : decode cX3_takeBestWay 56 = .ok (.aload_n 1, 1) := by decide +kernel
theorem dX3_takeBestWay_57 : decode cX3_takeBestWay 57 = .ok (.iload_n 2, 1) := by decide +kernel
theorem dX3_takeBestWay_58 : decode cX3_takeBestWay 58 = .ok (.iload_n 3, 1) := by decide +kernel
theorem dX3_takeBestWay_59 : decode cX3_takeBestWay 59 = .ok (.invokevirtual 172, 3) := by decide +kernel
theorem dX3_takeBestWay_62 : decode cX3_takeBestWay 62 = .ok (.iinc 3 1, 3) := by decide +kernel
theorem dX3_takeBestWay_65 : decode cX3_takeBestWay 65 = .ok (.goto (-36), 3) := by decide +kernel
theorem dX3_takeBestWay_68 : decode cX3_takeBestWay 68 = .ok (.iconst 0, 1) := by decide +kernel
theorem dX3_takeBestWay_69 : decode cX3_takeBestWay 69 = .ok (.istore_n 3, 1) := by decide +kernel
theorem dX3_takeBestWay_70 : decode cX3_takeBestWay 70 = .ok (.iload_n 3, 1) := by decide +kernel
theorem dX3_takeBestWay_71 : decode cX3_takeBestWay 71 = .ok (.aload_n 1, 1) := by decide +kernel
theorem dX3_takeBestWay_72 : decode cX3_takeBestWay 72 = .ok (.getfield 98, 3) := by decide +kernel
theorem dX3_takeBestWay_75 : decode cX3_takeBestWay 75 = .ok (.if_icmp .ge 30, 3) := by decide +kernel
theorem dX3_takeBestWay_78 : decode cX3_takeBestWay 78 = .ok (.aload_n 0, 1) := by decide +kernel
theorem dX3_takeBestWay_79 : decode cX3_takeBestWay 79 = .ok (.aload_n 1, 1) := by decide +kernel
theorem dX3_takeBestWay_80 : decode cX3_takeBestWay 80 = .ok (.getfield 101, 3) := by decide +kernel
theorem dX3_takeBestWay_83 : decode cX3_takeBestWay 83 = .ok (.iload_n 3, 1) := by decide +kernel
theorem dX3_takeBestWay_84 : decode cX3_takeBestWay 84 = .ok (.aaload, 1) := by decide +kernel
theorem dX3_takeBestWay_85 : decode cX3_takeBestWay 85 = .ok (.iload_n 2, 1) := by decide +kernel
theorem dX3_takeBestWay_86 : decode cX3_takeBestWay 86 = .ok (.invokevirtual 160, 3) := by decide +kernel
theorem dX3_takeBestWay_89 : decode cX3_takeBestWay 89 = .ok (.ifCond .eq 10, 3) := by decide +kernel
theorem dX3_takeBestWay_92 : decode cX3_takeBestWay 92 = .ok (.aload_n 0, 1) := by decide +kernel
theorem dX3_takeBestWay_93 : decode cX3_takeBestWay 93 = .ok (.aload_n 1, 1) := by decide +kernel
theorem dX3_takeBestWay_94 : decode cX3_takeBestWay 94 = .ok (.iload_n 2, 1) := by decide +kernel
theorem dX3_takeBestWay_95 : decode cX3_takeBestWay 95 = .ok (.iload_n 3, 1) := by decide +kernel
theorem dX3_takeBestWay_96 : decode cX3_takeBestWay 96 = .ok (.invokevirtual 176, 3) := by decide +kernel
theorem dX3_takeBestWay_99 : decode cX3_takeBestWay 99 = .ok (.iinc 3 1, 3) := by decide +kernel
theorem dX3_takeBestWay_102 : decode cX3_takeBestWay 102 = .ok (.goto (-32), 3) := by decide +kernel
theorem dX3_takeBestWay_105 : decode cX3_takeBestWay 105 = .ok (.return_, 1) := by decide +kernel
theorem dX3_considerCondition_0 : decode cX3_considerCondition 0 = .ok (.aload_n 1, 1) := by decide +kernel
theorem dX3_considerCondition_1 : decode cX3_considerCondition 1 = .ok (.getfield 81, 3) := by decide +kernel
theorem dX3_considerCondition_4 : decode cX3_considerCondition 4 = .ok (.iload_n 3, 1) := by decide +kernel
theorem dX3_considerCondition_5 : decode cX3_considerCondition 5 = .ok (.aaload, 1) := by decide +kernel
theorem dX3_considerCondition_6 : decode cX3_considerCondition 6 = .ok (.astore 4, 2) := by decide +kernel
theorem dX3_considerCondition_8 : decode cX3_considerCondition 8 = .ok (.aload_n 1, 1) := by decide +kernel
theorem dX3_considerCondition_9 : decode cX3_considerCondition 9 = .ok (.getfield 85, 3) := by decide +kernel
theorem dX3_considerCondition_12 : decode cX3_considerCondition 12 = .ok (.aload_n 0, 1) := by decide +kernel
theorem dX3_considerCondition_13 : decode cX3_considerCondition 13 = .ok (.getfield 23, 3) := by decide +kernel
theorem dX3_considerCondition_16 : decode cX3_considerCondition 16 = .ok (.iload_n 2, 1) := by decide +kernel
theorem dX3_considerCondition_17 : decode cX3_considerCondition 17 = .ok (.iaload, 1) := by decide +kernel
theorem dX3_considerCondition_18 : decode cX3_considerCondition 18 = .ok (.aaload, 1) := by decide +kernel
theorem dX3_considerCondition_19 : decode cX3_considerCondition 19 = .ok (.astore 5, 2) := by decide +kernel
theorem dX3_considerCondition_21 : decode cX3_considerCondition 21 = .ok (.aload 5, 2) := by decide +kernel
theorem dX3_considerCondition_23 : decode cX3_considerCondition 23 = .ok (.getfield 121, 3) := by decide +kernel
theorem dX3_considerCondition_26 : decode cX3_considerCondition 26 = .ok (.i2f, 1) := by decide +kernel
theorem dX3_considerCondition_27 : decode cX3_considerCondition 27 = .ok (.aload_n 0, 1) := by decide +kernel
theorem dX3_considerCondition_28 : decode cX3_considerCondition 28 = .ok (.getfield 11, 3) := by decide +kernel
theorem dX3_considerCondition_31 : decode cX3_considerCondition 31 = .ok (.iload_n 3, 1) := by decide +kernel
theorem dX3_considerCondition_32 : decode cX3_considerCondition 32 = .ok (.faload, 1) := by decide +kernel
theorem dX3_considerCondition_33 : decode cX3_considerCondition 33 = .ok (.fmul, 1) := by decide +kernel
theorem dX3_considerCondition_34 : decode cX3_considerCondition 34 = .ok (.fstore 6, 2) := by decide +kernel
theorem dX3_considerCondition_36 : decode cX3_considerCondition 36 = .ok (.aload 4, 2) := by decide +kernel
theorem dX3_considerCondition_38 : decode cX3_considerCondition 38 = .ok (.getfield 129, 3) := by decide +kernel
theorem dX3_considerCondition_41 : decode cX3_considerCondition 41 = .ok (.ifCond .ne 29, 3) := by decide +kernel
theorem dX3_considerCondition_44 : decode cX3_considerCondition 44 = .ok (.aload 5, 2) := by decide +kernel
theorem dX3_considerCondition_46 : decode cX3_considerCondition 46 = .ok (.aload 4, 2) := by decide +kernel
theorem dX3_considerCondition_48 : decode cX3_considerCondition 48 = .ok (.getfield 126, 3) := by decide +kernel
theorem dX3_considerCondition_51 : decode cX3_considerCondition 51 = .ok (.iconst 0, 1) := by decide +kernel
theorem dX3_considerCondition_52 : decode cX3_considerCondition 52 = .ok (.invokevirtual 179, 3) := by decide +kernel
theorem dX3_considerCondition_55 : decode cX3_considerCondition 55 = .ok (.ifCond .eq 15, 3) := by decide +kernel
theorem dX3_considerCondition_58 : decode cX3_considerCondition 58 = .ok (.aload_n 0, 1) := by decide +kernel
theorem dX3_considerCondition_59 : decode cX3_considerCondition 59 = .ok (.fconst 1, 1) := by decide +kernel
theorem dX3_considerCondition_60 : decode cX3_considerCondition 60 = .ok (.fload 6, 2) := by decide +kernel
theorem dX3_considerCondition_62 : decode cX3_considerCondition 62 = .ok (.fadd, 1) := by decide +kernel
theorem dX3_considerCondition_63 : decode cX3_considerCondition 63 = .ok (.iload_n 2, 1) := by decide +kernel
theorem dX3_considerCondition_64 : decode cX3_considerCondition 64 = .ok (.iconst 1, 1) := by decide +kernel
theorem dX3_considerCondition_65 : decode cX3_considerCondition 65 = .ok (.iload_n 3, 1) := by decide +kernel
theorem dX3_considerCondition_66 : decode cX3_considerCondition 66 = .ok (.iconst (-1), 1) := by decide +kernel
theorem dX3_considerCondition_67 : decode cX3_considerCondition 67 = .ok (.invokevirtual 182, 3) := by decide +kernel
theorem dX3_considerCondition_70 : decode cX3_considerCondition 70 = .ok (.aload 4, 2) := by decide +kernel
theorem dX3_considerCondition_72 : decode cX3_considerCondition 72 = .ok (.getfield 129, 3) := by decide +kernel
theorem dX3_considerCondition_75 : decode cX3_considerCondition 75 = .ok (.iconst 3, 1) := by decide +kernel
theorem dX3_considerCondition_76 : decode cX3_considerCondition 76 = .ok (.if_icmp .eq 29, 3) := by decide +kernel
theorem dX3_considerCondition_79 : decode cX3_considerCondition 79 = .ok (.aload 5, 2) := by decide +kernel
theorem dX3_considerCondition_81 : decode cX3_considerCondition 81 = .ok (.aload 4, 2) := by decide +kernel
theorem dX3_considerCondition_83 : decode cX3_considerCondition 83 = .ok (.getfield 126, 3) := by decide +kernel
theorem dX3_considerCondition_86 : decode cX3_considerCondition 86 = .ok (.iconst 1, 1) := by decide +kernel
theorem dX3_considerCondition_87 : decode cX3_considerCondition 87 = .ok (.invokevirtual 179, 3) := by decide +kernel
theorem dX3_considerCondition_90 : decode cX3_considerCondition 90 = .ok (.ifCond .eq 15, 3) := by decide +kernel
theorem dX3_considerCondition_93 : decode cX3_considerCondition 93 = .ok (.aload_n 0, 1) := by decide +kernel
theorem dX3_considerCondition_94 : decode cX3_considerCondition 94 = .ok (.fconst 2, 1) := by decide +kernel
theorem dX3_considerCondition_95 : decode cX3_considerCondition 95 = .ok (.fload 6, 2) := by decide +kernel
theorem dX3_considerCondition_97 : decode cX3_considerCondition 97 = .ok (.fadd, 1) := by decide +kernel
theorem dX3_considerCondition_98 : decode cX3_considerCondition 98 = .ok (.iload_n 2, 1) := by decide +kernel
theorem dX3_considerCondition_99 : decode cX3_considerCondition 99 = .ok (.iconst 2, 1) := by decide +kernel
theorem dX3_considerCondition_100 : decode cX3_considerCondition 100 = .ok (.iload_n 3, 1) := by decide +kernel
theorem dX3_considerCondition_101 : decode cX3_considerCondition 101 = .ok (.iconst (-1), 1) := by decide +kernel
theorem dX3_considerCondition_102 : decode cX3_considerCondition 102 = .ok (.invokevirtual 182, 3) := by decide +kernel
theorem dX3_considerCondition_105 : decode cX3_considerCondition 105 = .ok (.return_, 1) := by decide +kernel
theorem dX3_considerJoin_0 : decode cX3_considerJoin 0 = .ok (.aload_n 1, 1) := by decide +kernel
theorem dX3_considerJoin_1 : decode cX3_considerJoin 1 = .ok (.getfield 101, 3) := by decide +kernel
theorem dX3_considerJoin_4 : decode cX3_considerJoin 4 = .ok (.iload_n 3, 1) := by decide +kernel
theorem dX3_considerJoin_5 : decode cX3_considerJoin 5 = .ok (.aaload, 1) := by decide +kernel
theorem dX3_considerJoin_6 : decode cX3_considerJoin 6 = .ok (.astore 4, 2) := by decide +kernel
theorem dX3_considerJoin_8 : decode cX3_considerJoin 8 = .ok (.aload_n 1, 1) := by decide +kernel
theorem dX3_considerJoin_9 : decode cX3_considerJoin 9 = .ok (.getfield 85, 3) := by decide +kernel
theorem dX3_considerJoin_12 : decode cX3_considerJoin 12 = .ok (.aload_n 0, 1) := by decide +kernel
theorem dX3_considerJoin_13 : decode cX3_considerJoin 13 = .ok (.getfield 23, 3) := by decide +kernel
theorem dX3_considerJoin_16 : decode cX3_considerJoin 16 = .ok (.iload_n 2, 1) := by decide +kernel
theorem dX3_considerJoin_17 : decode cX3_considerJoin 17 = .ok (.iaload, 1) := by decide +kernel
theorem dX3_considerJoin_18 : decode cX3_considerJoin 18 = .ok (.aaload, 1) := by decide +kernel
theorem dX3_considerJoin_19 : decode cX3_considerJoin 19 = .ok (.astore 5, 2) := by decide +kernel
theorem dX3_considerJoin_21 : decode cX3_considerJoin 21 = .ok (.aload 4, 2) := by decide +kernel
theorem dX3_considerJoin_23 : decode cX3_considerJoin 23 = .ok (.aload_n 0, 1) := by decide +kernel
theorem dX3_considerJoin_24 : decode cX3_considerJoin 24 = .ok (.getfield 23, 3) := by decide +kernel
theorem dX3_considerJoin_27 : decode cX3_considerJoin 27 = .ok (.iload_n 2, 1) := by decide +kernel
theorem dX3_considerJoin_28 : decode cX3_considerJoin 28 = .ok (.iaload, 1) := by decide +kernel
theorem dX3_considerJoin_29 : decode cX3_considerJoin 29 = .ok (.invokevirtual 186, 3) := by decide +kernel
theorem dX3_considerJoin_32 : decode cX3_considerJoin 32 = .ok (.istore 6, 2) := by decide +kernel
theorem dX3_considerJoin_34 : decode cX3_considerJoin 34 = .ok (.aload 5, 2) := by decide +kernel
theorem dX3_considerJoin_36 : decode cX3_considerJoin 36 = .ok (.getfield 121, 3) := by decide +kernel
theorem dX3_considerJoin_39 : decode cX3_considerJoin 39 = .ok (.i2f, 1) := by decide +kernel
theorem dX3_considerJoin_40 : decode cX3_considerJoin 40 = .ok (.aload_n 0, 1) := by decide +kernel
theorem dX3_considerJoin_41 : decode cX3_considerJoin 41 = .ok (.aload 4, 2) := by decide +kernel
theorem dX3_considerJoin_43 : decode cX3_considerJoin 43 = .ok (.iload_n 3, 1) := by decide +kernel
theorem dX3_considerJoin_44 : decode cX3_considerJoin 44 = .ok (.aload_n 0, 1) := by decide +kernel
theorem dX3_considerJoin_45 : decode cX3_considerJoin 45 = .ok (.getfield 23, 3) := by decide +kernel
theorem dX3_considerJoin_48 : decode cX3_considerJoin 48 = .ok (.iload_n 2, 1) := by decide +kernel
theorem dX3_considerJoin_49 : decode cX3_considerJoin 49 = .ok (.iaload, 1) := by decide +kernel
theorem dX3_considerJoin_50 : decode cX3_considerJoin 50 = .ok (.invokevirtual 164, 3) := by decide +kernel
theorem dX3_considerJoin_53 : decode cX3_considerJoin 53 = .ok (.fmul, 1) := by decide +kernel
theorem dX3_considerJoin_54 : decode cX3_considerJoin 54 = .ok (.fstore 7, 2) := by decide +kernel
theorem dX3_considerJoin_56 : decode cX3_considerJoin 56 = .ok (.aload 5, 2) := by decide +kernel
theorem dX3_considerJoin_58 : decode cX3_considerJoin 58 = .ok (.iload 6, 2) := by decide +kernel
theorem dX3_considerJoin_60 : decode cX3_considerJoin 60 = .ok (.iconst 0, 1) := by decide +kernel
theorem dX3_considerJoin_61 : decode cX3_considerJoin 61 = .ok (.invokevirtual 179, 3) := by decide +kernel
theorem dX3_considerJoin_64 : decode cX3_considerJoin 64 = .ok (.ifCond .eq 15, 3) := by decide +kernel
theorem dX3_considerJoin_67 : decode cX3_considerJoin 67 = .ok (.aload_n 0, 1) := by decide +kernel
theorem dX3_considerJoin_68 : decode cX3_considerJoin 68 = .ok (.fconst 1, 1) := by decide +kernel
theorem dX3_considerJoin_69 : decode cX3_considerJoin 69 = .ok (.fload 7, 2) := by decide +kernel
theorem dX3_considerJoin_71 : decode cX3_considerJoin 71 = .ok (.fadd, 1) := by decide +kernel
theorem dX3_considerJoin_72 : decode cX3_considerJoin 72 = .ok (.iload_n 2, 1) := by decide +kernel
theorem dX3_considerJoin_73 : decode cX3_considerJoin 73 = .ok (.iconst 1, 1) := by decide +kernel
theorem dX3_considerJoin_74 : decode cX3_considerJoin 74 = .ok (.iconst (-1), 1) := by decide +kernel
theorem dX3_considerJoin_75 : decode cX3_considerJoin 75 = .ok (.iload_n 3, 1) := by decide +kernel
theorem dX3_considerJoin_76 : decode cX3_considerJoin 76 = .ok (.invokevirtual 182, 3) := by decide +kernel
theorem dX3_considerJoin_79 : decode cX3_considerJoin 79 = .ok (.aload 5, 2) := by decide +kernel
theorem dX3_considerJoin_81 : decode cX3_considerJoin 81 = .ok (.iload 6, 2) := by decide +kernel
theorem dX3_considerJoin_83 : decode cX3_considerJoin 83 = .ok (.iconst 1, 1) := by decide +kernel
theorem dX3_considerJoin_84 : decode cX3_considerJoin 84 = .ok (.invokevirtual 179, 3) := by decide +kernel
theorem dX3_considerJoin_87 : decode cX3_considerJoin 87 = .ok (.ifCond .eq 15, 3) := by decide +kernel
theorem dX3_considerJoin_90 : decode cX3_considerJoin 90 = .ok (.aload_n 0, 1) := by decide +kernel
theorem dX3_considerJoin_91 : decode cX3_considerJoin 91 = .ok (.fconst 2, 1) := by decide +kernel
theorem dX3_considerJoin_92 : decode cX3_considerJoin 92 = .ok (.fload 7, 2) := by decide +kernel
theorem dX3_considerJoin_94 : decode cX3_considerJoin 94 = .ok (.fadd, 1) := by decide +kernel
theorem dX3_considerJoin_95 : decode cX3_considerJoin 95 = .ok (.iload_n 2, 1) := by decide +kernel
theorem dX3_considerJoin_96 : decode cX3_considerJoin 96 = .ok (.iconst 2, 1) := by decide +kernel
theorem dX3_considerJoin_97 : decode cX3_considerJoin 97 = .ok (.iconst (-1), 1) := by decide +kernel
theorem dX3_considerJoin_98 : decode cX3_considerJoin 98 = .ok (.iload_n 3, 1) := by decide +kernel
theorem dX3_considerJoin_99 : decode cX3_considerJoin 99 = .ok (.invokevirtual 182, 3) := by decide +kernel
theorem dX3_considerJoin_102 : decode cX3_considerJoin 102 = .ok (.return_, 1) := by decide +kernel
theorem dX3_considerWay_0 : decode cX3_considerWay 0 = .ok (.fload_n 1, 1) := by decide +kernel
theorem dX3_considerWay_1 : decode cX3_considerWay 1 = .ok (.aload_n 0, 1) := by decide +kernel
theorem dX3_considerWay_2 : decode cX3_considerWay 2 = .ok (.getfield 152, 3) := by decide +kernel
theorem dX3_considerWay_5 : decode cX3_considerWay 5 = .ok (.fcmp .g, 1) := by decide +kernel
theorem dX3_considerWay_6 : decode cX3_considerWay 6 = .ok (.ifCond .ge 18, 3) := by decide +kernel
theorem dX3_considerWay_9 : decode cX3_considerWay 9 = .ok (.aload_n 0, 1) := by decide +kernel
theorem dX3_considerWay_10 : decode cX3_considerWay 10 = .ok (.fload_n 1, 1) := by decide +kernel
theorem dX3_considerWay_11 : decode cX3_considerWay 11 = .ok (.putfield 152, 3) := by decide +kernel
theorem dX3_considerWay_14 : decode cX3_considerWay 14 = .ok (.aload_n 0, 1) := by decide +kernel
theorem dX3_considerWay_15 : decode cX3_considerWay 15 = .ok (.iload_n 2, 1) := by decide +kernel
theorem dX3_considerWay_16 : decode cX3_considerWay 16 = .ok (.iload_n 3, 1) := by decide +kernel
theorem dX3_considerWay_17 : decode cX3_considerWay 17 = .ok (.iload 4, 2) := by decide +kernel
theorem dX3_considerWay_19 : decode cX3_considerWay 19 = .ok (.iload 5, 2) := by decide +kernel
theorem dX3_considerWay_21 : decode cX3_considerWay 21 = .ok (.invokevirtual 168, 3) := by decide +kernel
theorem dX3_considerWay_24 : decode cX3_considerWay 24 = .ok (.return_, 1) := by decide +kernel
theorem dX3_takeWay_0 : decode cX3_takeWay 0 = .ok (.aload_n 0, 1) := by decide +kernel
theorem dX3_takeWay_1 : decode cX3_takeWay 1 = .ok (.getfield 27, 3) := by decide +kernel
theorem dX3_takeWay_4 : decode cX3_takeWay 4 = .ok (.iload_n 1, 1) := by decide +kernel
theorem dX3_takeWay_5 : decode cX3_takeWay 5 = .ok (.iload_n 2, 1) := by decide +kernel
theorem dX3_takeWay_6 : decode cX3_takeWay 6 = .ok (.iastore, 1) := by decide +kernel
theorem dX3_takeWay_7 : decode cX3_takeWay 7 = .ok (.aload_n 0, 1) := by decide +kernel
theorem dX3_takeWay_8 : decode cX3_takeWay 8 = .ok (.getfield 30, 3) := by decide +kernel
theorem dX3_takeWay_11 : decode cX3_takeWay 11 = .ok (.iload_n 1, 1) := by decide +kernel
theorem dX3_takeWay_12 : decode cX3_takeWay 12 = .ok (.iload_n 3, 1) := by decide +kernel
theorem dX3_takeWay_13 : decode cX3_takeWay 13 = .ok (.iastore, 1) := by decide +kernel
theorem dX3_takeWay_14 : decode cX3_takeWay 14 = .ok (.aload_n 0, 1) := by decide +kernel
theorem dX3_takeWay_15 : decode cX3_takeWay 15 = .ok (.getfield 33, 3) := by decide +kernel
theorem dX3_takeWay_18 : decode cX3_takeWay 18 = .ok (.iload_n 1, 1) := by decide +kernel
theorem dX3_takeWay_19 : decode cX3_takeWay 19 = .ok (.iload 4, 2) := by decide +kernel
theorem dX3_takeWay_21 : decode cX3_takeWay 21 = .ok (.iastore, 1) := by decide +kernel
theorem dX3_takeWay_22 : decode cX3_takeWay 22 = .ok (.return_, 1) := by decide +kernel
theorem dX4_init_0 : decode cX4_init 0 = .ok (.aload_n 0, 1) := by decide +kernel
theorem dX4_init_1 : decode cX4_init 1 = .ok (.invokespecial 3, 3) := by decide +kernel
theorem dX4_init_4 : decode cX4_init 4 = .ok (.aload_n 0, 1) := by decide +kernel
theorem dX4_init_5 : decode cX4_init 5 = .ok (.iconst 3, 1) := by decide +kernel
theorem dX4_init_6 : decode cX4_init 6 = .ok (.anewarray 11, 3) := by decide +kernel
theorem dX4_init_9 : decode cX4_init 9 = .ok (.putfield 13, 3) := by decide +kernel
theorem dX4_init_12 : decode cX4_init 12 = .ok (.aload_n 0, 1) := by decide +kernel
theorem dX4_init_13 : decode cX4_init 13 = .ok (.iconst 4, 1) := by decide +kernel
theorem dX4_init_14 : decode cX4_init 14 = .ok (.anewarray 17, 3) := by decide +kernel
theorem dX4_init_17 : decode cX4_init 17 = .ok (.putfield 19, 3) := by decide +kernel
theorem dX4_init_20 : decode cX4_init 20 = .ok (.iconst 0, 1) := by decide +kernel
theorem dX4_init_21 : decode cX4_init 21 = .ok (.istore_n 1, 1) := by decide +kernel
theorem dX4_init_22 : decode cX4_init 22 = .ok (.iload_n 1, 1) := by decide +kernel
theorem dX4_init_23 : decode cX4_init 23 = .ok (.iconst 4, 1) := by decide +kernel
theorem dX4_init_24 : decode cX4_init 24 = .ok (.if_icmp .ge 22, 3) := by decide +kernel
theorem dX4_init_27 : decode cX4_init 27 = .ok (.aload_n 0, 1) := by decide +kernel
theorem dX4_init_28 : decode cX4_init 28 = .ok (.getfield 19, 3) := by decide +kernel
theorem dX4_init_31 : decode cX4_init 31 = .ok (.iload_n 1, 1) := by decide +kernel
theorem dX4_init_32 : decode cX4_init 32 = .ok (.new 17, 3) := by decide +kernel
theorem dX4_init_35 : decode cX4_init 35 = .ok (.dup, 1) := by decide +kernel
theorem dX4_init_36 : decode cX4_init 36 = .ok (.invokespecial 23, 3) := by decide +kernel
theorem dX4_init_39 : decode cX4_init 39 = .ok (.aastore, 1) := by decide +kernel
theorem dX4_init_40 : decode cX4_init 40 = .ok (.iinc 1 1, 3) := by decide +kernel
theorem dX4_init_43 : decode cX4_init 43 = .ok (.goto (-21), 3) := by decide +kernel
theorem dX4_init_46 : decode cX4_init 46 = .ok (.aload_n 0, 1) := by decide +kernel
theorem dX4_init_47 : decode cX4_init 47 = .ok (.iconst 3, 1) := by decide +kernel
theorem dX4_init_48 : decode cX4_init 48 = .ok (.anewarray 24, 3) := by decide +kernel
theorem dX4_init_51 : decode cX4_init 51 = .ok (.putfield 26, 3) := by decide +kernel
theorem dX4_init_54 : decode cX4_init 54 = .ok (.iconst 0, 1) := by decide +kernel
theorem dX4_init_55 : decode cX4_init 55 = .ok (.istore_n 1, 1) := by decide +kernel
theorem dX4_init_56 : decode cX4_init 56 = .ok (.iload_n 1, 1) := by decide +kernel
theorem dX4_init_57 : decode cX4_init 57 = .ok (.iconst 3, 1) := by decide +kernel
theorem dX4_init_58 : decode cX4_init 58 = .ok (.if_icmp .ge 22, 3) := by decide +kernel
theorem dX4_init_61 : decode cX4_init 61 = .ok (.aload_n 0, 1) := by decide +kernel
theorem dX4_init_62 : decode cX4_init 62 = .ok (.getfield 26, 3) := by decide +kernel
theorem dX4_init_65 : decode cX4_init 65 = .ok (.iload_n 1, 1) := by decide +kernel
theorem dX4_init_66 : decode cX4_init 66 = .ok (.new 24, 3) := by decide +kernel
theorem dX4_init_69 : decode cX4_init 69 = .ok (.dup, 1) := by decide +kernel
theorem dX4_init_70 : decode cX4_init 70 = .ok (.invokespecial 30, 3) := by decide +kernel
theorem dX4_init_73 : decode cX4_init 73 = .ok (.aastore, 1) := by decide +kernel
theorem dX4_init_74 : decode cX4_init 74 = .ok (.iinc 1 1, 3) := by decide +kernel
theorem dX4_init_77 : decode cX4_init 77 = .ok (.goto (-21), 3) := by decide +kernel
theorem dX4_init_80 : decode cX4_init 80 = .ok (.aload_n 0, 1) := by decide +kernel
theorem dX4_init_81 : decode cX4_init 81 = .ok (.iconst 4, 1) := by decide +kernel
theorem dX4_init_82 : decode cX4_init 82 = .ok (.anewarray 31, 3) := by decide +kernel
theorem dX4_init_85 : decode cX4_init 85 = .ok (.putfield 33, 3) := by decide +kernel
theorem dX4_init_88 : decode cX4_init 88 = .ok (.iconst 0, 1) := by decide +kernel
theorem dX4_init_89 : decode cX4_init 89 = .ok (.istore_n 1, 1) := by decide +kernel
theorem dX4_init_90 : decode cX4_init 90 = .ok (.iload_n 1, 1) := by decide +kernel
theorem dX4_init_91 : decode cX4_init 91 = .ok (.iconst 4, 1) := by decide +kernel
theorem dX4_init_92 : decode cX4_init 92 = .ok (.if_icmp .ge 22, 3) := by decide +kernel
theorem dX4_init_95 : decode cX4_init 95 = .ok (.aload_n 0, 1) := by decide +kernel
theorem dX4_init_96 : decode cX4_init 96 = .ok (.getfield 33, 3) := by decide +kernel
theorem dX4_init_99 : decode cX4_init 99 = .ok (.iload_n 1, 1) := by decide +kernel
theorem dX4_init_100 : decode cX4_init 100 = .ok (.new 31, 3) := by decide +kernel
theorem dX4_init_103 : decode cX4_init 103 = .ok (.dup, 1) := by decide +kernel
theorem dX4_init_104 : decode cX4_init 104 = .ok (.invokespecial 37, 3) := by decide +kernel
theorem dX4_init_107 : decode cX4_init 107 = .ok (.aastore, 1) := by decide +kernel
theorem dX4_init_108 : decode cX4_init 108 = .ok (.iinc 1 1, 3) := by decide +kernel
theorem dX4_init_111 : decode cX4_init 111 = .ok (.goto (-21), 3) := by decide +kernel
theorem dX4_init_114 : decode cX4_init 114 = .ok (.aload_n 0, 1) := by decide +kernel
theorem dX4_init_115 : decode cX4_init 115 = .ok (.iconst (-1), 1) := by decide +kernel
theorem dX4_init_116 : decode cX4_init 116 = .ok (.putfield 38, 3) := by decide +kernel
theorem dX4_init_119 : decode cX4_init 119 = .ok (.aload_n 0, 1) := by decide +kernel
theorem dX4_init_120 : decode cX4_init 120 = .ok (.bipush 64, 2) := by decide +kernel
theorem dX4_init_122 : decode cX4_init 122 = .ok (.putfield 42, 3) := by decide +kernel
theorem dX4_init_125 : decode cX4_init 125 = .ok (.return_, 1) := by decide +kernel
theorem dX4_clear_0 : decode cX4_clear 0 = .ok (.aload_n 0, 1) := by decide +kernel
theorem dX4_clear_1 : decode cX4_clear 1 = .ok (.iconst 0, 1) := by decide +kernel
theorem dX4_clear_2 : decode cX4_clear 2 = .ok (.putfield 45, 3) := by decide +kernel
theorem dX4_clear_5 : decode cX4_clear 5 = .ok (.aload_n 0, 1) := by decide +kernel
theorem dX4_clear_6 : decode cX4_clear 6 = .ok (.iconst 0, 1) := by decide +kernel
theorem dX4_clear_7 : decode cX4_clear 7 = .ok (.putfield 48, 3) := by decide +kernel
theorem dX4_clear_10 : decode cX4_clear 10 = .ok (.aload_n 0, 1) := by decide +kernel
theorem dX4_clear_11 : decode cX4_clear 11 = .ok (.iconst 0, 1) := by decide +kernel
theorem dX4_clear_12 : decode cX4_clear 12 = .ok (.putfield 51, 3) := by decide +kernel
theorem dX4_clear_15 : decode cX4_clear 15 = .ok (.aload_n 0, 1) := by decide +kernel
theorem dX4_clear_16 : decode cX4_clear 16 = .ok (.iconst 0, 1) := by decide +kernel
theorem dX4_clear_17 : decode cX4_clear 17 = .ok (.putfield 54, 3) := by decide +kernel
theorem dX4_clear_20 : decode cX4_clear 20 = .ok (.aload_n 0, 1) := by decide +kernel
theorem dX4_clear_21 : decode cX4_clear 21 = .ok (.iconst (-1), 1) := by decide +kernel
theorem dX4_clear_22 : decode cX4_clear 22 = .ok (.putfield 38, 3) := by decide +kernel
theorem dX4_clear_25 : decode cX4_clear 25 = .ok (.aload_n 0, 1) := by decide +kernel
theorem dX4_clear_26 : decode cX4_clear 26 = .ok (.iconst 0, 1) := by decide +kernel
theorem dX4_clear_27 : decode cX4_clear 27 = .ok (.putfield 57, 3) := by decide +kernel
theorem dX4_clear_30 : decode cX4_clear 30 = .ok (.aload_n 0, 1) := by decide +kernel
theorem dX4_clear_31 : decode cX4_clear 31 = .ok (.bipush 64, 2) := by decide +kernel
theorem dX4_clear_33 : decode cX4_clear 33 = .ok (.putfield 42, 3) := by decide +kernel
theorem dX4_clear_36 : decode cX4_clear 36 = .ok (.return_, 1) := by decide +kernel
theorem dX4_hasColumn_0 : decode cX4_hasColumn 0 = .ok (.iload_n 1, 1) := by decide +kernel
theorem dX4_hasColumn_1 : decode cX4_hasColumn 1 = .ok (.ifCond .lt 28, 3) := by decide +kernel
theorem dX4_hasColumn_4 : decode cX4_hasColumn 4 = .ok (.iload_n 1, 1) := by decide +kernel
theorem dX4_hasColumn_5 : decode cX4_hasColumn 5 = .ok (.aload_n 0, 1) := by decide +kernel
theorem dX4_hasColumn_6 : decode cX4_hasColumn 6 = .ok (.getfield 45, 3) := by decide +kernel
theorem dX4_hasColumn_9 : decode cX4_hasColumn 9 = .ok (.if_icmp .ge 20, 3) := by decide +kernel
theorem dX4_hasColumn_12 : decode cX4_hasColumn 12 = .ok (.aload_n 0, 1) := by decide +kernel
theorem dX4_hasColumn_13 : decode cX4_hasColumn 13 = .ok (.getfield 13, 3) := by decide +kernel
theorem dX4_hasColumn_16 : decode cX4_hasColumn 16 = .ok (.iload_n 1, 1) := by decide +kernel
theorem dX4_hasColumn_17 : decode cX4_hasColumn 17 = .ok (.aaload, 1) := by decide +kernel
theorem dX4_hasColumn_18 : decode cX4_hasColumn 18 = .ok (.iload_n 2, 1) := by decide +kernel
theorem dX4_hasColumn_19 : decode cX4_hasColumn 19 = .ok (.invokevirtual 61, 3) := by decide +kernel
theorem dX4_hasColumn_22 : decode cX4_hasColumn 22 = .ok (.ifCond .eq 7, 3) := by decide +kernel
theorem dX4_hasColumn_25 : decode cX4_hasColumn 25 = .ok (.iconst 1, 1) := by decide +kernel
theorem dX4_hasColumn_26 : decode cX4_hasColumn 26 = .ok (.goto 4, 3) := by decide +kernel
theorem dX4_hasColumn_29 : decode cX4_hasColumn 29 = .ok (.iconst 0, 1) := by decide +kernel
theorem dX4_hasColumn_30 : decode cX4_hasColumn 30 = .ok (.ireturn, 1) := by decide +kernel
theorem dX4_addSource_0 : decode cX4_addSource 0 = .ok (.aload_n 0, 1) := by decide +kernel
theorem dX4_addSource_1 : decode cX4_addSource 1 = .ok (.getfield 45, 3) := by decide +kernel
theorem dX4_addSource_4 : decode cX4_addSource 4 = .ok (.istore_n 2, 1) := by decide +kernel
theorem dX4_addSource_5 : decode cX4_addSource 5 = .ok (.aload_n 0, 1) := by decide +kernel
theorem dX4_addSource_6 : decode cX4_addSource 6 = .ok (.getfield 13, 3) := by decide +kernel
theorem dX4_addSource_9 : decode cX4_addSource 9 = .ok (.iload_n 2, 1) := by decide +kernel
theorem dX4_addSource_10 : decode cX4_addSource 10 = .ok (.aload_n 1, 1) := by decide +kernel
theorem dX4_addSource_11 : decode cX4_addSource 11 = .ok (.aastore, 1) := by decide +kernel
theorem dX4_addSource_12 : decode cX4_addSource 12 = .ok (.aload_n 0, 1) := by decide +kernel
theorem dX4_addSource_13 : decode cX4_addSource 13 = .ok (.dup, 1) := by decide +kernel
theorem dX4_addSource_14 : decode cX4_addSource 14 = .ok (.getfield 45, 3) := by decide +kernel
theorem dX4_addSource_17 : decode cX4_addSource 17 = .ok (.iconst 1, 1) := by decide +kernel
theorem dX4_addSource_18 : decode cX4_addSource 18 = .ok (.iadd, 1) := by decide +kernel
theorem dX4_addSource_19 : decode cX4_addSource 19 = .ok (.putfield 45, 3) := by decide +kernel
theorem dX4_addSource_22 : decode cX4_addSource 22 = .ok (.iload_n 2, 1) := by decide +kernel
theorem dX4_addSource_23 : decode cX4_addSource 23 = .ok (.ireturn, 1) := by decide +kernel
theorem dX4_addCondition_0 : decode cX4_addCondition 0 = .ok (.aload_n 0, 1) := by decide +kernel
theorem dX4_addCondition_1 : decode cX4_addCondition 1 = .ok (.getfield 19, 3) := by decide +kernel
theorem dX4_addCondition_4 : decode cX4_addCondition 4 = .ok (.aload_n 0, 1) := by decide +kernel
theorem dX4_addCondition_5 : decode cX4_addCondition 5 = .ok (.getfield 48, 3) := by decide +kernel
theorem dX4_addCondition_8 : decode cX4_addCondition 8 = .ok (.aaload, 1) := by decide +kernel
theorem dX4_addCondition_9 : decode cX4_addCondition 9 = .ok (.astore 5, 2) := by decide +kernel
theorem dX4_addCondition_11 : decode cX4_addCondition 11 = .ok (.aload 5, 2) := by decide +kernel
theorem dX4_addCondition_13 : decode cX4_addCondition 13 = .ok (.iload_n 1, 1) := by decide +kernel
theorem dX4_addCondition_14 : decode cX4_addCondition 14 = .ok (.putfield 65, 3) := by decide +kernel
theorem dX4_addCondition_17 : decode cX4_addCondition 17 = .ok (.aload 5, 2) := by decide +kernel
theorem dX4_addCondition_19 : decode cX4_addCondition 19 = .ok (.iload_n 2, 1) := by decide +kernel
theorem dX4_addCondition_20 : decode cX4_addCondition 20 = .ok (.putfield 68, 3) := by decide +kernel
theorem dX4_addCondition_23 : decode cX4_addCondition 23 = .ok (.aload 5, 2) := by decide +kernel
theorem dX4_addCondition_25 : decode cX4_addCondition 25 = .ok (.iload_n 3, 1) := by decide +kernel
theorem dX4_addCondition_26 : decode cX4_addCondition 26 = .ok (.putfield 71, 3) := by decide +kernel
theorem dX4_addCondition_29 : decode cX4_addCondition 29 = .ok (.aload 5, 2) := by decide +kernel
theorem dX4_addCondition_31 : decode cX4_addCondition 31 = .ok (.iload 4, 2) := by decide +kernel
theorem dX4_addCondition_33 : decode cX4_addCondition 33 = .ok (.putfield 74, 3) := by decide +kernel
theorem dX4_addCondition_36 : decode cX4_addCondition 36 = .ok (.aload_n 0, 1) := by decide +kernel
theorem dX4_addCondition_37 : decode cX4_addCondition 37 = .ok (.dup, 1) := by decide +kernel
theorem dX4_addCondition_38 : decode cX4_addCondition 38 = .ok (.getfield 48, 3) := by decide +kernel
theorem dX4_addCondition_41 : decode cX4_addCondition 41 = .ok (.iconst 1, 1) := by decide +kernel
theorem dX4_addCondition_42 : decode cX4_addCondition 42 = .ok (.iadd, 1) := by decide +kernel
theorem dX4_addCondition_43 : decode cX4_addCondition 43 = .ok (.putfield 48, 3) := by decide +kernel
theorem dX4_addCondition_46 : decode cX4_addCondition 46 = .ok (.return_, 1) := by decide +kernel
theorem dX4_addJoin_0 : decode cX4_addJoin 0 = .ok (.aload_n 0, 1) := by decide +kernel
theorem dX4_addJoin_1 : decode cX4_addJoin 1 = .ok (.getfield 26, 3) := by decide +kernel
theorem dX4_addJoin_4 : decode cX4_addJoin 4 = .ok (.aload_n 0, 1) := by decide +kernel
theorem dX4_addJoin_5 : decode cX4_addJoin 5 = .ok (.getfield 51, 3) := by decide +kernel
theorem dX4_addJoin_8 : decode cX4_addJoin 8 = .ok (.aaload, 1) := by decide +kernel
theorem dX4_addJoin_9 : decode cX4_addJoin 9 = .ok (.astore 5, 2) := by decide +kernel
theorem dX4_addJoin_11 : decode cX4_addJoin 11 = .ok (.aload 5, 2) := by decide +kernel
theorem dX4_addJoin_13 : decode cX4_addJoin 13 = .ok (.iload_n 1, 1) := by decide +kernel
theorem dX4_addJoin_14 : decode cX4_addJoin 14 = .ok (.putfield 77, 3) := by decide +kernel
theorem dX4_addJoin_17 : decode cX4_addJoin 17 = .ok (.aload 5, 2) := by decide +kernel
theorem dX4_addJoin_19 : decode cX4_addJoin 19 = .ok (.iload_n 2, 1) := by decide +kernel
theorem dX4_addJoin_20 : decode cX4_addJoin 20 = .ok (.putfield 80, 3) := by decide +kernel
theorem dX4_addJoin_23 : decode cX4_addJoin 23 = .ok (.aload 5, 2) := by decide +kernel
theorem dX4_addJoin_25 : decode cX4_addJoin 25 = .ok (.iload_n 3, 1) := by decide +kernel
theorem dX4_addJoin_26 : decode cX4_addJoin 26 = .ok (.putfield 83, 3) := by decide +kernel
theorem dX4_addJoin_29 : decode cX4_addJoin 29 = .ok (.aload 5, 2) := by decide +kernel
theorem dX4_addJoin_31 : decode cX4_addJoin 31 = .ok (.iload 4, 2) := by decide +kernel
theorem dX4_addJoin_33 : decode cX4_addJoin 33 = .ok (.putfield 86, 3) := by decide +kernel
theorem dX4_addJoin_36 : decode cX4_addJoin 36 = .ok (.aload_n 0, 1) := by decide +kernel
theorem dX4_addJoin_37 : decode cX4_addJoin 37 = .ok (.dup, 1) := by decide +kernel
theorem dX4_addJoin_38 : decode cX4_addJoin 38 = .ok (.getfield 51, 3) := by decide +kernel
theorem dX4_addJoin_41 : decode cX4_addJoin 41 = .ok (.iconst 1, 1) := by decide +kernel
theorem dX4_addJoin_42 : decode cX4_addJoin 42 = .ok (.iadd, 1) := by decide +kernel
theorem dX4_addJoin_43 : decode cX4_addJoin 43 = .ok (.putfield 51, 3) := by decide +kernel
theorem dX4_addJoin_46 : decode cX4_addJoin 46 = .ok (.return_, 1) := by decide +kernel
theorem dX4_addOutput_0 : decode cX4_addOutput 0 = .ok (.aload_n 0, 1) := by decide +kernel
theorem dX4_addOutput_1 : decode cX4_addOutput 1 = .ok (.getfield 54, 3) := by decide +kernel
theorem dX4_addOutput_4 : decode cX4_addOutput 4 = .ok (.istore_n 3, 1) := by decide +kernel
theorem dX4_addOutput_5 : decode cX4_addOutput 5 = .ok (.aload_n 0, 1) := by decide +kernel
theorem dX4_addOutput_6 : decode cX4_addOutput 6 = .ok (.getfield 33, 3) := by decide +kernel
theorem dX4_addOutput_9 : decode cX4_addOutput 9 = .ok (.iload_n 3, 1) := by decide +kernel
theorem dX4_addOutput_10 : decode cX4_addOutput 10 = .ok (.aaload, 1) := by decide +kernel
theorem dX4_addOutput_11 : decode cX4_addOutput 11 = .ok (.iload_n 1, 1) := by decide +kernel
theorem dX4_addOutput_12 : decode cX4_addOutput 12 = .ok (.putfield 89, 3) := by decide +kernel
theorem dX4_addOutput_15 : decode cX4_addOutput 15 = .ok (.aload_n 0, 1) := by decide +kernel
theorem dX4_addOutput_16 : decode cX4_addOutput 16 = .ok (.getfield 33, 3) := by decide +kernel
theorem dX4_addOutput_19 : decode cX4_addOutput 19 = .ok (.iload_n 3, 1) := by decide +kernel
theorem dX4_addOutput_20 : decode cX4_addOutput 20 = .ok (.aaload, 1) := by decide +kernel
theorem dX4_addOutput_21 : decode cX4_addOutput 21 = .ok (.iload_n 2, 1) := by decide +kernel
theorem dX4_addOutput_22 : decode cX4_addOutput 22 = .ok (.putfield 90, 3) := by decide +kernel
theorem dX4_addOutput_25 : decode cX4_addOutput 25 = .ok (.aload_n 0, 1) := by decide +kernel
theorem dX4_addOutput_26 : decode cX4_addOutput 26 = .ok (.dup, 1) := by decide +kernel
theorem dX4_addOutput_27 : decode cX4_addOutput 27 = .ok (.getfield 54, 3) := by decide +kernel
theorem dX4_addOutput_30 : decode cX4_addOutput 30 = .ok (.iconst 1, 1) := by decide +kernel
theorem dX4_addOutput_31 : decode cX4_addOutput 31 = .ok (.iadd, 1) := by decide +kernel
theorem dX4_addOutput_32 : decode cX4_addOutput 32 = .ok (.putfield 54, 3) := by decide +kernel
theorem dX4_addOutput_35 : decode cX4_addOutput 35 = .ok (.iload_n 3, 1) := by decide +kernel
theorem dX4_addOutput_36 : decode cX4_addOutput 36 = .ok (.ireturn, 1) := by decide +kernel
theorem dX4_isOrdered_0 : decode cX4_isOrdered 0 = .ok (.aload_n 0, 1) := by decide +kernel
theorem dX4_isOrdered_1 : decode cX4_isOrdered 1 = .ok (.getfield 38, 3) := by decide +kernel
theorem dX4_isOrdered_4 : decode cX4_isOrdered 4 = .ok (.iconst (-1), 1) := by decide +kernel
theorem dX4_isOrdered_5 : decode cX4_isOrdered 5 = .ok (.if_icmp .eq 7, 3) := by decide +kernel
theorem dX4_isOrdered_8 : decode cX4_isOrdered 8 = .ok (.iconst 1, 1) := by decide +kernel
theorem dX4_isOrdered_9 : decode cX4_isOrdered 9 = .ok (.goto 4, 3) := by decide +kernel
theorem dX4_isOrdered_12 : decode cX4_isOrdered 12 = .ok (.iconst 0, 1) := by decide +kernel
theorem dX4_isOrdered_13 : decode cX4_isOrdered 13 = .ok (.ireturn, 1) := by decide +kernel
theorem dX4_enoughAnswers_0 : decode cX4_enoughAnswers 0 = .ok (.aload_n 0, 1) := by decide +kernel
theorem dX4_enoughAnswers_1 : decode cX4_enoughAnswers 1 = .ok (.invokevirtual 91, 3) := by decide +kernel
theorem dX4_enoughAnswers_4 : decode cX4_enoughAnswers 4 = .ok (.ifCond .eq 8, 3) := by decide +kernel
theorem dX4_enoughAnswers_7 : decode cX4_enoughAnswers 7 = .ok (.bipush 64, 2) := by decide +kernel
theorem dX4_enoughAnswers_9 : decode cX4_enoughAnswers 9 = .ok (.goto 7, 3) := by decide +kernel
theorem dX4_enoughAnswers_12 : decode cX4_enoughAnswers 12 = .ok (.aload_n 0, 1) := by decide +kernel
theorem dX4_enoughAnswers_13 : decode cX4_enoughAnswers 13 = .ok (.getfield 42, 3) := by decide +kernel
theorem dX4_enoughAnswers_16 : decode cX4_enoughAnswers 16 = .ok (.ireturn, 1) := by decide +kernel
theorem dX5_init_0 : decode cX5_init 0 = .ok (.aload_n 0, 1) := by decide +kernel
theorem dX5_init_1 : decode cX5_init 1 = .ok (.invokespecial 3, 3) := by decide +kernel
theorem dX5_init_4 : decode cX5_init 4 = .ok (.aload_n 0, 1) := by decide +kernel
theorem dX5_init_5 : decode cX5_init 5 = .ok (.bipush 24, 2) := by decide +kernel
theorem dX5_init_7 : decode cX5_init 7 = .ok (.newarray .int, 2) := by decide +kernel
theorem dX5_init_9 : decode cX5_init 9 = .ok (.putfield 11, 3) := by decide +kernel
theorem dX5_init_12 : decode cX5_init 12 = .ok (.aload_n 0, 1) := by decide +kernel
theorem dX5_init_13 : decode cX5_init 13 = .ok (.bipush 96, 2) := by decide +kernel
theorem dX5_init_15 : decode cX5_init 15 = .ok (.newarray .int, 2) := by decide +kernel
theorem dX5_init_17 : decode cX5_init 17 = .ok (.putfield 15, 3) := by decide +kernel
theorem dX5_init_20 : decode cX5_init 20 = .ok (.aload_n 0, 1) := by decide +kernel
theorem dX5_init_21 : decode cX5_init 21 = .ok (.bipush 8, 2) := by decide +kernel
theorem dX5_init_23 : decode cX5_init 23 = .ok (.newarray .boolean, 2) := by decide +kernel
theorem dX5_init_25 : decode cX5_init 25 = .ok (.putfield 18, 3) := by decide +kernel
theorem dX5_init_28 : decode cX5_init 28 = .ok (.aload_n 0, 1) := by decide +kernel
theorem dX5_init_29 : decode cX5_init 29 = .ok (.iconst 0, 1) := by decide +kernel
theorem dX5_init_30 : decode cX5_init 30 = .ok (.putfield 22, 3) := by decide +kernel
theorem dX5_init_33 : decode cX5_init 33 = .ok (.aload_n 0, 1) := by decide +kernel
theorem dX5_init_34 : decode cX5_init 34 = .ok (.iconst 0, 1) := by decide +kernel
theorem dX5_init_35 : decode cX5_init 35 = .ok (.putfield 26, 3) := by decide +kernel
theorem dX5_init_38 : decode cX5_init 38 = .ok (.aload_n 0, 1) := by decide +kernel
theorem dX5_init_39 : decode cX5_init 39 = .ok (.iconst 0, 1) := by decide +kernel
theorem dX5_init_40 : decode cX5_init 40 = .ok (.putfield 29, 3) := by decide +kernel
theorem dX5_init_43 : decode cX5_init 43 = .ok (.return_, 1) := by decide +kernel
theorem dX5_makeAnew_0 : decode cX5_makeAnew 0 = .ok (.aload_n 0, 1) := by decide +kernel
theorem dX5_makeAnew_1 : decode cX5_makeAnew 1 = .ok (.iload_n 1, 1) := by decide +kernel
theorem dX5_makeAnew_2 : decode cX5_makeAnew 2 = .ok (.putfield 22, 3) := by decide +kernel
theorem dX5_makeAnew_5 : decode cX5_makeAnew 5 = .ok (.aload_n 0, 1) := by decide +kernel
theorem dX5_makeAnew_6 : decode cX5_makeAnew 6 = .ok (.iconst 0, 1) := by decide +kernel
theorem dX5_makeAnew_7 : decode cX5_makeAnew 7 = .ok (.putfield 26, 3) := by decide +kernel
theorem dX5_makeAnew_10 : decode cX5_makeAnew 10 = .ok (.aload_n 0, 1) := by decide +kernel
theorem dX5_makeAnew_11 : decode cX5_makeAnew 11 = .ok (.iconst 0, 1) := by decide +kernel
theorem dX5_makeAnew_12 : decode cX5_makeAnew 12 = .ok (.putfield 29, 3) := by decide +kernel
theorem dX5_makeAnew_15 : decode cX5_makeAnew 15 = .ok (.iconst 0, 1) := by decide +kernel
theorem dX5_makeAnew_16 : decode cX5_makeAnew 16 = .ok (.istore_n 2, 1) := by decide +kernel
theorem dX5_makeAnew_17 : decode cX5_makeAnew 17 = .ok (.iload_n 2, 1) := by decide +kernel
theorem dX5_makeAnew_18 : decode cX5_makeAnew 18 = .ok (.bipush 8, 2) := by decide +kernel
theorem dX5_makeAnew_20 : decode cX5_makeAnew 20 = .ok (.if_icmp .ge 16, 3) := by decide +kernel
theorem dX5_makeAnew_23 : decode cX5_makeAnew 23 = .ok (.aload_n 0, 1) := by decide +kernel
theorem dX5_makeAnew_24 : decode cX5_makeAnew 24 = .ok (.getfield 18, 3) := by decide +kernel
theorem dX5_makeAnew_27 : decode cX5_makeAnew 27 = .ok (.iload_n 2, 1) := by decide +kernel
theorem dX5_makeAnew_28 : decode cX5_makeAnew 28 = .ok (.iconst 0, 1) := by decide +kernel
theorem dX5_makeAnew_29 : decode cX5_makeAnew 29 = .ok (.bastore, 1) := by decide +kernel
theorem dX5_makeAnew_30 : decode cX5_makeAnew 30 = .ok (.iinc 2 1, 3) := by decide +kernel
theorem dX5_makeAnew_33 : decode cX5_makeAnew 33 = .ok (.goto (-16), 3) := by decide +kernel
theorem dX5_makeAnew_36 : decode cX5_makeAnew 36 = .ok (.return_, 1) := by decide +kernel
theorem dX5_isFull_0 : decode cX5_isFull 0 = .ok (.aload_n 0, 1) := by decide +kernel
theorem dX5_isFull_1 : decode cX5_isFull 1 = .ok (.getfield 26, 3) := by decide +kernel
theorem dX5_isFull_4 : decode cX5_isFull 4 = .ok (.bipush 24, 2) := by decide +kernel
theorem dX5_isFull_6 : decode cX5_isFull 6 = .ok (.if_icmp .ge 12, 3) := by decide +kernel
theorem dX5_isFull_9 : decode cX5_isFull 9 = .ok (.aload_n 0, 1) := by decide +kernel
theorem dX5_isFull_10 : decode cX5_isFull 10 = .ok (.getfield 29, 3) := by decide +kernel
theorem dX5_isFull_13 : decode cX5_isFull 13 = .ok (.bipush 60, 2) := by decide +kernel
theorem dX5_isFull_15 : decode cX5_isFull 15 = .ok (.if_icmp .lt 7, 3) := by decide +kernel
theorem dX5_isFull_18 : decode cX5_isFull 18 = .ok (.iconst 1, 1) := by decide +kernel
theorem dX5_isFull_19 : decode cX5_isFull 19 = .ok (.goto 4, 3) := by decide +kernel
theorem dX5_isFull_22 : decode cX5_isFull 22 = .ok (.iconst 0, 1) := by decide +kernel
theorem dX5_isFull_23 : decode cX5_isFull 23 = .ok (.ireturn, 1) := by decide +kernel
theorem dX5_add_0 : decode cX5_add 0 = .ok (.aload_n 0, 1) := by decide +kernel
theorem dX5_add_1 : decode cX5_add 1 = .ok (.getfield 26, 3) := by decide +kernel
theorem dX5_add_4 : decode cX5_add 4 = .ok (.iconst 4, 1) := by decide +kernel
theorem dX5_add_5 : decode cX5_add 5 = .ok (.imul, 1) := by decide +kernel
theorem dX5_add_6 : decode cX5_add 6 = .ok (.istore 5, 2) := by decide +kernel
theorem dX5_add_8 : decode cX5_add 8 = .ok (.aload_n 0, 1) := by decide +kernel
theorem dX5_add_9 : decode cX5_add 9 = .ok (.getfield 15, 3) := by decide +kernel
theorem dX5_add_12 : decode cX5_add 12 = .ok (.iload 5, 2) := by decide +kernel
theorem dX5_add_14 : decode cX5_add 14 = .ok (.iload_n 1, 1) := by decide +kernel
theorem dX5_add_15 : decode cX5_add 15 = .ok (.iastore, 1) := by decide +kernel
theorem dX5_add_16 : decode cX5_add 16 = .ok (.aload_n 0, 1) := by decide +kernel
theorem dX5_add_17 : decode cX5_add 17 = .ok (.getfield 15, 3) := by decide +kernel
theorem dX5_add_20 : decode cX5_add 20 = .ok (.iload 5, 2) := by decide +kernel
theorem dX5_add_22 : decode cX5_add 22 = .ok (.iconst 1, 1) := by decide +kernel
theorem dX5_add_23 : decode cX5_add 23 = .ok (.iadd, 1) := by decide +kernel
theorem dX5_add_24 : decode cX5_add 24 = .ok (.iload_n 2, 1) := by decide +kernel
theorem dX5_add_25 : decode cX5_add 25 = .ok (.iastore, 1) := by decide +kernel
theorem dX5_add_26 : decode cX5_add 26 = .ok (.aload_n 0, 1) := by decide +kernel
theorem dX5_add_27 : decode cX5_add 27 = .ok (.getfield 15, 3) := by decide +kernel
theorem dX5_add_30 : decode cX5_add 30 = .ok (.iload 5, 2) := by decide +kernel
theorem dX5_add_32 : decode cX5_add 32 = .ok (.iconst 2, 1) := by decide +kernel
theorem dX5_add_33 : decode cX5_add 33 = .ok (.iadd, 1) := by decide +kernel
theorem dX5_add_34 : decode cX5_add 34 = .ok (.iload_n 3, 1) := by decide +kernel
theorem dX5_add_35 : decode cX5_add 35 = .ok (.iastore, 1) := by decide +kernel
theorem dX5_add_36 : decode cX5_add 36 = .ok (.aload_n 0, 1) := by decide +kernel
theorem dX5_add_37 : decode cX5_add 37 = .ok (.getfield 15, 3) := by decide +kernel
theorem dX5_add_40 : decode cX5_add 40 = .ok (.iload 5, 2) := by decide +kernel
theorem dX5_add_42 : decode cX5_add 42 = .ok (.iconst 3, 1) := by decide +kernel
theorem dX5_add_43 : decode cX5_add 43 = .ok (.iadd, 1) := by decide +kernel
theorem dX5_add_44 : decode cX5_add 44 = .ok (.iload 4, 2) := by decide +kernel
theorem dX5_add_46 : decode cX5_add 46 = .ok (.iastore, 1) := by decide +kernel
theorem dX5_add_47 : decode cX5_add 47 = .ok (.aload_n 0, 1) := by decide +kernel
theorem dX5_add_48 : decode cX5_add 48 = .ok (.getfield 29, 3) := by decide +kernel
theorem dX5_add_51 : decode cX5_add 51 = .ok (.istore 6, 2) := by decide +kernel
theorem dX5_add_53 : decode cX5_add 53 = .ok (.aload_n 0, 1) := by decide +kernel
theorem dX5_add_54 : decode cX5_add 54 = .ok (.getfield 11, 3) := by decide +kernel
theorem dX5_add_57 : decode cX5_add 57 = .ok (.aload_n 0, 1) := by decide +kernel
theorem dX5_add_58 : decode cX5_add 58 = .ok (.getfield 26, 3) := by decide +kernel
theorem dX5_add_61 : decode cX5_add 61 = .ok (.iload 6, 2) := by decide +kernel
theorem dX5_add_63 : decode cX5_add 63 = .ok (.iastore, 1) := by decide +kernel
theorem dX5_add_64 : decode cX5_add 64 = .ok (.aload_n 0, 1) := by decide +kernel
theorem dX5_add_65 : decode cX5_add 65 = .ok (.dup, 1) := by decide +kernel
theorem dX5_add_66 : decode cX5_add 66 = .ok (.getfield 26, 3) := by decide +kernel
theorem dX5_add_69 : decode cX5_add 69 = .ok (.iconst 1, 1) := by decide +kernel
theorem dX5_add_70 : decode cX5_add 70 = .ok (.iadd, 1) := by decide +kernel
theorem dX5_add_71 : decode cX5_add 71 = .ok (.putfield 26, 3) := by decide +kernel
theorem dX5_add_74 : decode cX5_add 74 = .ok (.aload_n 0, 1) := by decide +kernel
theorem dX5_add_75 : decode cX5_add 75 = .ok (.dup, 1) := by decide +kernel
theorem dX5_add_76 : decode cX5_add 76 = .ok (.getfield 29, 3) := by decide +kernel
theorem dX5_add_79 : decode cX5_add 79 = .ok (.iconst 1, 1) := by decide +kernel
theorem dX5_add_80 : decode cX5_add 80 = .ok (.iadd, 1) := by decide +kernel
theorem dX5_add_81 : decode cX5_add 81 = .ok (.putfield 29, 3) := by decide +kernel
theorem dX5_add_84 : decode cX5_add 84 = .ok (.iload 6, 2) := by decide +kernel
theorem dX5_add_86 : decode cX5_add 86 = .ok (.ireturn, 1) := by decide +kernel
theorem dX5_remove_0 : decode cX5_remove 0 = .ok (.aload_n 0, 1) := by decide +kernel
theorem dX5_remove_1 : decode cX5_remove 1 = .ok (.getfield 26, 3) := by decide +kernel
theorem dX5_remove_4 : decode cX5_remove 4 = .ok (.iload_n 1, 1) := by decide +kernel
theorem dX5_remove_5 : decode cX5_remove 5 = .ok (.isub, 1) := by decide +kernel
theorem dX5_remove_6 : decode cX5_remove 6 = .ok (.iconst 1, 1) := by decide +kernel
theorem dX5_remove_7 : decode cX5_remove 7 = .ok (.isub, 1) := by decide +kernel
theorem dX5_remove_8 : decode cX5_remove 8 = .ok (.istore_n 2, 1) := by decide +kernel
theorem dX5_remove_9 : decode cX5_remove 9 = .ok (.aload_n 0, 1) := by decide +kernel
theorem dX5_remove_10 : decode cX5_remove 10 = .ok (.getfield 11, 3) := by decide +kernel
theorem dX5_remove_13 : decode cX5_remove 13 = .ok (.iload_n 1, 1) := by decide +kernel
theorem dX5_remove_14 : decode cX5_remove 14 = .ok (.iconst 1, 1) := by decide +kernel
theorem dX5_remove_15 : decode cX5_remove 15 = .ok (.iadd, 1) := by decide +kernel
theorem dX5_remove_16 : decode cX5_remove 16 = .ok (.aload_n 0, 1) := by decide +kernel
theorem dX5_remove_17 : decode cX5_remove 17 = .ok (.getfield 11, 3) := by decide +kernel
theorem dX5_remove_20 : decode cX5_remove 20 = .ok (.iload_n 1, 1) := by decide +kernel
theorem dX5_remove_21 : decode cX5_remove 21 = .ok (.iload_n 2, 1) := by decide +kernel
theorem dX5_remove_22 : decode cX5_remove 22 = .ok (.invokestatic 32, 3) := by decide +kernel
theorem dX5_remove_25 : decode cX5_remove 25 = .ok (.aload_n 0, 1) := by decide +kernel
theorem dX5_remove_26 : decode cX5_remove 26 = .ok (.getfield 15, 3) := by decide +kernel
theorem dX5_remove_29 : decode cX5_remove 29 = .ok (.iload_n 1, 1) := by decide +kernel
theorem dX5_remove_30 : decode cX5_remove 30 = .ok (.iconst 1, 1) := by decide +kernel
theorem dX5_remove_31 : decode cX5_remove 31 = .ok (.iadd, 1) := by decide +kernel
theorem dX5_remove_32 : decode cX5_remove 32 = .ok (.iconst 4, 1) := by decide +kernel
theorem dX5_remove_33 : decode cX5_remove 33 = .ok (.imul, 1) := by decide +kernel
theorem dX5_remove_34 : decode cX5_remove 34 = .ok (.aload_n 0, 1) := by decide +kernel
theorem dX5_remove_35 : decode cX5_remove 35 = .ok (.getfield 15, 3) := by decide +kernel
theorem dX5_remove_38 : decode cX5_remove 38 = .ok (.iload_n 1, 1) := by decide +kernel
theorem dX5_remove_39 : decode cX5_remove 39 = .ok (.iconst 4, 1) := by decide +kernel
theorem dX5_remove_40 : decode cX5_remove 40 = .ok (.imul, 1) := by decide +kernel
theorem dX5_remove_41 : decode cX5_remove 41 = .ok (.iload_n 2, 1) := by decide +kernel
theorem dX5_remove_42 : decode cX5_remove 42 = .ok (.iconst 4, 1) := by decide +kernel
theorem dX5_remove_43 : decode cX5_remove 43 = .ok (.imul, 1) := by decide +kernel
theorem dX5_remove_44 : decode cX5_remove 44 = .ok (.invokestatic 32, 3) := by decide +kernel
theorem dX5_remove_47 : decode cX5_remove 47 = .ok (.aload_n 0, 1) := by decide +kernel
theorem dX5_remove_48 : decode cX5_remove 48 = .ok (.dup, 1) := by decide +kernel
theorem dX5_remove_49 : decode cX5_remove 49 = .ok (.getfield 26, 3) := by decide +kernel
theorem dX5_remove_52 : decode cX5_remove 52 = .ok (.iconst 1, 1) := by decide +kernel
theorem dX5_remove_53 : decode cX5_remove 53 = .ok (.isub, 1) := by decide +kernel
theorem dX5_remove_54 : decode cX5_remove 54 = .ok (.putfield 26, 3) := by decide +kernel
theorem dX5_remove_57 : decode cX5_remove 57 = .ok (.return_, 1) := by decide +kernel
theorem dX5_placeOf_0 : decode cX5_placeOf 0 = .ok (.iconst 0, 1) := by decide +kernel
theorem dX5_placeOf_1 : decode cX5_placeOf 1 = .ok (.istore_n 2, 1) := by decide +kernel
theorem dX5_placeOf_2 : decode cX5_placeOf 2 = .ok (.iload_n 2, 1) := by decide +kernel
theorem dX5_placeOf_3 : decode cX5_placeOf 3 = .ok (.aload_n 0, 1) := by decide +kernel
theorem dX5_placeOf_4 : decode cX5_placeOf 4 = .ok (.getfield 26, 3) := by decide +kernel
theorem dX5_placeOf_7 : decode cX5_placeOf 7 = .ok (.if_icmp .ge 21, 3) := by decide +kernel
theorem dX5_placeOf_10 : decode cX5_placeOf 10 = .ok (.aload_n 0, 1) := by decide +kernel
theorem dX5_placeOf_11 : decode cX5_placeOf 11 = .ok (.getfield 11, 3) := by decide +kernel
theorem dX5_placeOf_14 : decode cX5_placeOf 14 = .ok (.iload_n 2, 1) := by decide +kernel
theorem dX5_placeOf_15 : decode cX5_placeOf 15 = .ok (.iaload, 1) := by decide +kernel
theorem dX5_placeOf_16 : decode cX5_placeOf 16 = .ok (.iload_n 1, 1) := by decide +kernel
theorem dX5_placeOf_17 : decode cX5_placeOf 17 = .ok (.if_icmp .ne 5, 3) := by decide +kernel
theorem dX5_placeOf_20 : decode cX5_placeOf 20 = .ok (.iload_n 2, 1) := by decide +kernel
theorem dX5_placeOf_21 : decode cX5_placeOf 21 = .ok (.ireturn, 1) := by decide +kernel
theorem dX5_placeOf_22 : decode cX5_placeOf 22 = .ok (.iinc 2 1, 3) := by decide +kernel
theorem dX5_placeOf_25 : decode cX5_placeOf 25 = .ok (.goto (-23), 3) := by decide +kernel
theorem dX5_placeOf_28 : decode cX5_placeOf 28 = .ok (.iconst (-1), 1) := by decide +kernel
theorem dX5_placeOf_29 : decode cX5_placeOf 29 = .ok (.ireturn, 1) := by decide +kernel
theorem dX5_hasColumn_0 : decode cX5_hasColumn 0 = .ok (.iload_n 1, 1) := by decide +kernel
theorem dX5_hasColumn_1 : decode cX5_hasColumn 1 = .ok (.ifCond .lt 15, 3) := by decide +kernel
theorem dX5_hasColumn_4 : decode cX5_hasColumn 4 = .ok (.iload_n 1, 1) := by decide +kernel
theorem dX5_hasColumn_5 : decode cX5_hasColumn 5 = .ok (.aload_n 0, 1) := by decide +kernel
theorem dX5_hasColumn_6 : decode cX5_hasColumn 6 = .ok (.getfield 22, 3) := by decide +kernel
theorem dX5_hasColumn_9 : decode cX5_hasColumn 9 = .ok (.if_icmp .ge 7, 3) := by decide +kernel
theorem dX5_hasColumn_12 : decode cX5_hasColumn 12 = .ok (.iconst 1, 1) := by decide +kernel
theorem dX5_hasColumn_13 : decode cX5_hasColumn 13 = .ok (.goto 4, 3) := by decide +kernel
theorem dX5_hasColumn_16 : decode cX5_hasColumn 16 = .ok (.iconst 0, 1) := by decide +kernel
theorem dX5_hasColumn_17 : decode cX5_hasColumn 17 = .ok (.ireturn, 1) := by decide +kernel
theorem dX5_value_0 : decode cX5_value 0 = .ok (.aload_n 0, 1) := by decide +kernel
theorem dX5_value_1 : decode cX5_value 1 = .ok (.getfield 15, 3) := by decide +kernel
theorem dX5_value_4 : decode cX5_value 4 = .ok (.iload_n 1, 1) := by decide +kernel
theorem dX5_value_5 : decode cX5_value 5 = .ok (.iconst 4, 1) := by decide +kernel
theorem dX5_value_6 : decode cX5_value 6 = .ok (.imul, 1) := by decide +kernel
theorem dX5_value_7 : decode cX5_value 7 = .ok (.iload_n 2, 1) := by decide +kernel
theorem dX5_value_8 : decode cX5_value 8 = .ok (.iadd, 1) := by decide +kernel
theorem dX5_value_9 : decode cX5_value 9 = .ok (.iaload, 1) := by decide +kernel
theorem dX5_value_10 : decode cX5_value 10 = .ok (.ireturn, 1) := by decide +kernel
theorem dX5_put_0 : decode cX5_put 0 = .ok (.aload_n 0, 1) := by decide +kernel
theorem dX5_put_1 : decode cX5_put 1 = .ok (.getfield 15, 3) := by decide +kernel
theorem dX5_put_4 : decode cX5_put 4 = .ok (.iload_n 1, 1) := by decide +kernel
theorem dX5_put_5 : decode cX5_put 5 = .ok (.iconst 4, 1) := by decide +kernel
theorem dX5_put_6 : decode cX5_put 6 = .ok (.imul, 1) := by decide +kernel
theorem dX5_put_7 : decode cX5_put 7 = .ok (.iload_n 2, 1) := by decide +kernel
theorem dX5_put_8 : decode cX5_put 8 = .ok (.iadd, 1) := by decide +kernel
theorem dX5_put_9 : decode cX5_put 9 = .ok (.iload_n 3, 1) := by decide +kernel
theorem dX5_put_10 : decode cX5_put 10 = .ok (.iastore, 1) := by decide +kernel
theorem dX5_put_11 : decode cX5_put 11 = .ok (.return_, 1) := by decide +kernel
theorem dX5_hasIndex_0 : decode cX5_hasIndex 0 = .ok (.aload_n 0, 1) := by decide +kernel
theorem dX5_hasIndex_1 : decode cX5_hasIndex 1 = .ok (.getfield 18, 3) := by decide +kernel
theorem dX5_hasIndex_4 : decode cX5_hasIndex 4 = .ok (.iload_n 1, 1) := by decide +kernel
theorem dX5_hasIndex_5 : decode cX5_hasIndex 5 = .ok (.iconst 2, 1) := by decide +kernel
theorem dX5_hasIndex_6 : decode cX5_hasIndex 6 = .ok (.imul, 1) := by decide +kernel
theorem dX5_hasIndex_7 : decode cX5_hasIndex 7 = .ok (.iload_n 2, 1) := by decide +kernel
theorem dX5_hasIndex_8 : decode cX5_hasIndex 8 = .ok (.iadd, 1) := by decide +kernel
theorem dX5_hasIndex_9 : decode cX5_hasIndex 9 = .ok (.baload, 1) := by decide +kernel
theorem dX5_hasIndex_10 : decode cX5_hasIndex 10 = .ok (.ireturn, 1) := by decide +kernel
theorem dX5_setIndex_0 : decode cX5_setIndex 0 = .ok (.aload_n 0, 1) := by decide +kernel
theorem dX5_setIndex_1 : decode cX5_setIndex 1 = .ok (.getfield 18, 3) := by decide +kernel
theorem dX5_setIndex_4 : decode cX5_setIndex 4 = .ok (.iload_n 1, 1) := by decide +kernel
theorem dX5_setIndex_5 : decode cX5_setIndex 5 = .ok (.iconst 2, 1) := by decide +kernel
theorem dX5_setIndex_6 : decode cX5_setIndex 6 = .ok (.imul, 1) := by decide +kernel
theorem dX5_setIndex_7 : decode cX5_setIndex 7 = .ok (.iload_n 2, 1) := by decide +kernel
theorem dX5_setIndex_8 : decode cX5_setIndex 8 = .ok (.iadd, 1) := by decide +kernel
theorem dX5_setIndex_9 : decode cX5_setIndex 9 = .ok (.iload_n 3, 1) := by decide +kernel
theorem dX5_setIndex_10 : decode cX5_setIndex 10 = .ok (.bastore, 1) := by decide +kernel
theorem dX5_setIndex_11 : decode cX5_setIndex 11 = .ok (.return_, 1) := by decide +kernel
theorem dX5_differentValues_0 : decode cX5_differentValues 0 = .ok (.iconst 0, 1) := by decide +kernel
theorem dX5_differentValues_1 : decode cX5_differentValues 1 = .ok (.istore_n 2, 1) := by decide +kernel
theorem dX5_differentValues_2 : decode cX5_differentValues 2 = .ok (.iconst 0, 1) := by decide +kernel
theorem dX5_differentValues_3 : decode cX5_differentValues 3 = .ok (.istore_n 3, 1) := by decide +kernel
theorem dX5_differentValues_4 : decode cX5_differentValues 4 = .ok (.iload_n 3, 1) := by decide +kernel
theorem dX5_differentValues_5 : decode cX5_differentValues 5 = .ok (.aload_n 0, 1) := by decide +kernel
theorem dX5_differentValues_6 : decode cX5_differentValues 6 = .ok (.getfield 26, 3) := by decide +kernel
theorem dX5_differentValues_9 : decode cX5_differentValues 9 = .ok (.if_icmp .ge 21, 3) := by decide +kernel
theorem dX5_differentValues_12 : decode cX5_differentValues 12 = .ok (.aload_n 0, 1) := by decide +kernel
theorem dX5_differentValues_13 : decode cX5_differentValues 13 = .ok (.iload_n 3, 1) := by decide +kernel
theorem dX5_differentValues_14 : decode cX5_differentValues 14 = .ok (.iload_n 1, 1) := by decide +kernel
theorem dX5_differentValues_15 : decode cX5_differentValues 15 = .ok (.invokevirtual 38, 3) := by decide +kernel
theorem dX5_differentValues_18 : decode cX5_differentValues 18 = .ok (.ifCond .ne 6, 3) := by decide +kernel
theorem dX5_differentValues_21 : decode cX5_differentValues 21 = .ok (.iinc 2 1, 3) := by decide +kernel
theorem dX5_differentValues_24 : decode cX5_differentValues 24 = .ok (.iinc 3 1, 3) := by decide +kernel
theorem dX5_differentValues_27 : decode cX5_differentValues 27 = .ok (.goto (-23), 3) := by decide +kernel
theorem dX5_differentValues_30 : decode cX5_differentValues 30 = .ok (.iload_n 2, 1) := by decide +kernel
theorem dX5_differentValues_31 : decode cX5_differentValues 31 = .ok (.ireturn, 1) := by decide +kernel
theorem dX5_standsBefore_0 : decode cX5_standsBefore 0 = .ok (.aload_n 0, 1) := by decide +kernel
theorem dX5_standsBefore_1 : decode cX5_standsBefore 1 = .ok (.iload_n 1, 1) := by decide +kernel
theorem dX5_standsBefore_2 : decode cX5_standsBefore 2 = .ok (.iload_n 2, 1) := by decide +kernel
theorem dX5_standsBefore_3 : decode cX5_standsBefore 3 = .ok (.invokevirtual 42, 3) := by decide +kernel
theorem dX5_standsBefore_6 : decode cX5_standsBefore 6 = .ok (.istore_n 3, 1) := by decide +kernel
theorem dX5_standsBefore_7 : decode cX5_standsBefore 7 = .ok (.iconst 0, 1) := by decide +kernel
theorem dX5_standsBefore_8 : decode cX5_standsBefore 8 = .ok (.istore 4, 2) := by decide +kernel
theorem dX5_standsBefore_10 : decode cX5_standsBefore 10 = .ok (.iload 4, 2) := by decide +kernel
theorem dX5_standsBefore_12 : decode cX5_standsBefore 12 = .ok (.iload_n 1, 1) := by decide +kernel
theorem dX5_standsBefore_13 : decode cX5_standsBefore 13 = .ok (.if_icmp .ge 22, 3) := by decide +kernel
theorem dX5_standsBefore_16 : decode cX5_standsBefore 16 = .ok (.aload_n 0, 1) := by decide +kernel
theorem dX5_standsBefore_17 : decode cX5_standsBefore 17 = .ok (.iload 4, 2) := by decide +kernel
theorem dX5_standsBefore_19 : decode cX5_standsBefore 19 = .ok (.iload_n 2, 1) := by decide +kernel
theorem dX5_standsBefore_20 : decode cX5_standsBefore 20 = .ok (.invokevirtual 42, 3) := by decide +kernel
theorem dX5_standsBefore_23 : decode cX5_standsBefore 23 = .ok (.iload_n 3, 1) := by decide +kernel
theorem dX5_standsBefore_24 : decode cX5_standsBefore 24 = .ok (.if_icmp .ne 5, 3) := by decide +kernel
theorem dX5_standsBefore_27 : decode cX5_standsBefore 27 = .ok (.iconst 1, 1) := by decide +kernel
theorem dX5_standsBefore_28 : decode cX5_standsBefore 28 = .ok (.ireturn, 1) := by decide +kernel
theorem dX5_standsBefore_29 : decode cX5_standsBefore 29 = .ok (.iinc 4 1, 3) := by decide +kernel
theorem dX5_standsBefore_32 : decode cX5_standsBefore 32 = .ok (.goto (-22), 3) := by decide +kernel
theorem dX5_standsBefore_35 : decode cX5_standsBefore 35 = .ok (.iconst 0, 1) := by decide +kernel
theorem dX5_standsBefore_36 : decode cX5_standsBefore 36 = .ok (.ireturn, 1) := by decide +kernel
theorem dX5_least_0 : decode cX5_least 0 = .ok (.aload_n 0, 1) := by decide +kernel
theorem dX5_least_1 : decode cX5_least 1 = .ok (.iconst 0, 1) := by decide +kernel
theorem dX5_least_2 : decode cX5_least 2 = .ok (.iload_n 1, 1) := by decide +kernel
theorem dX5_least_3 : decode cX5_least 3 = .ok (.invokevirtual 42, 3) := by decide +kernel
theorem dX5_least_6 : decode cX5_least 6 = .ok (.istore_n 2, 1) := by decide +kernel
theorem dX5_least_7 : decode cX5_least 7 = .ok (.iconst 1, 1) := by decide +kernel
theorem dX5_least_8 : decode cX5_least 8 = .ok (.istore_n 3, 1) := by decide +kernel
theorem dX5_least_9 : decode cX5_least 9 = .ok (.iload_n 3, 1) := by decide +kernel
theorem dX5_least_10 : decode cX5_least 10 = .ok (.aload_n 0, 1) := by decide +kernel
theorem dX5_least_11 : decode cX5_least 11 = .ok (.getfield 26, 3) := by decide +kernel
theorem dX5_least_14 : decode cX5_least 14 = .ok (.if_icmp .ge 20, 3) := by decide +kernel
theorem dX5_least_17 : decode cX5_least 17 = .ok (.iload_n 2, 1) := by decide +kernel
theorem dX5_least_18 : decode cX5_least 18 = .ok (.aload_n 0, 1) := by decide +kernel
theorem dX5_least_19 : decode cX5_least 19 = .ok (.iload_n 3, 1) := by decide +kernel
theorem dX5_least_20 : decode cX5_least 20 = .ok (.iload_n 1, 1) := by decide +kernel
theorem dX5_least_21 : decode cX5_least 21 = .ok (.invokevirtual 42, 3) := by decide +kernel
theorem dX5_least_24 : decode cX5_least 24 = .ok (.invokestatic 46, 3) := by decide +kernel
theorem dX5_least_27 : decode cX5_least 27 = .ok (.istore_n 2, 1) := by decide +kernel
theorem dX5_least_28 : decode cX5_least 28 = .ok (.iinc 3 1, 3) := by decide +kernel
theorem dX5_least_31 : decode cX5_least 31 = .ok (.goto (-22), 3) := by decide +kernel
theorem dX5_least_34 : decode cX5_least 34 = .ok (.iload_n 2, 1) := by decide +kernel
theorem dX5_least_35 : decode cX5_least 35 = .ok (.ireturn, 1) := by decide +kernel
theorem dX5_greatest_0 : decode cX5_greatest 0 = .ok (.aload_n 0, 1) := by decide +kernel
theorem dX5_greatest_1 : decode cX5_greatest 1 = .ok (.iconst 0, 1) := by decide +kernel
theorem dX5_greatest_2 : decode cX5_greatest 2 = .ok (.iload_n 1, 1) := by decide +kernel
theorem dX5_greatest_3 : decode cX5_greatest 3 = .ok (.invokevirtual 42, 3) := by decide +kernel
theorem dX5_greatest_6 : decode cX5_greatest 6 = .ok (.istore_n 2, 1) := by decide +kernel
theorem dX5_greatest_7 : decode cX5_greatest 7 = .ok (.iconst 1, 1) := by decide +kernel
theorem dX5_greatest_8 : decode cX5_greatest 8 = .ok (.istore_n 3, 1) := by decide +kernel
theorem dX5_greatest_9 : decode cX5_greatest 9 = .ok (.iload_n 3, 1) := by decide +kernel
theorem dX5_greatest_10 : decode cX5_greatest 10 = .ok (.aload_n 0, 1) := by decide +kernel
theorem dX5_greatest_11 : decode cX5_greatest 11 = .ok (.getfield 26, 3) := by decide +kernel
theorem dX5_greatest_14 : decode cX5_greatest 14 = .ok (.if_icmp .ge 20, 3) := by decide +kernel
theorem dX5_greatest_17 : decode cX5_greatest 17 = .ok (.iload_n 2, 1) := by decide +kernel
theorem dX5_greatest_18 : decode cX5_greatest 18 = .ok (.aload_n 0, 1) := by decide +kernel
theorem dX5_greatest_19 : decode cX5_greatest 19 = .ok (.iload_n 3, 1) := by decide +kernel
theorem dX5_greatest_20 : decode cX5_greatest 20 = .ok (.iload_n 1, 1) := by decide +kernel
theorem dX5_greatest_21 : decode cX5_greatest 21 = .ok (.invokevirtual 42, 3) := by decide +kernel
theorem dX5_greatest_24 : decode cX5_greatest 24 = .ok (.invokestatic 51, 3) := by decide +kernel
theorem dX5_greatest_27 : decode cX5_greatest 27 = .ok (.istore_n 2, 1) := by decide +kernel
theorem dX5_greatest_28 : decode cX5_greatest 28 = .ok (.iinc 3 1, 3) := by decide +kernel
theorem dX5_greatest_31 : decode cX5_greatest 31 = .ok (.goto (-22), 3) := by decide +kernel
theorem dX5_greatest_34 : decode cX5_greatest 34 = .ok (.iload_n 2, 1) := by decide +kernel
theorem dX5_greatest_35 : decode cX5_greatest 35 = .ok (.ireturn, 1) := by decide +kernel
theorem dX6_init_0 : decode cX6_init 0 = .ok (.aload_n 0, 1) := by decide +kernel
theorem dX6_init_1 : decode cX6_init 1 = .ok (.invokespecial 3, 3) := by decide +kernel
theorem dX6_init_4 : decode cX6_init 4 = .ok (.aload_n 0, 1) := by decide +kernel
theorem dX6_init_5 : decode cX6_init 5 = .ok (.bipush 72, 2) := by decide +kernel
theorem dX6_init_7 : decode cX6_init 7 = .ok (.newarray .int, 2) := by decide +kernel
theorem dX6_init_9 : decode cX6_init 9 = .ok (.putfield 13, 3) := by decide +kernel
theorem dX6_init_12 : decode cX6_init 12 = .ok (.aload_n 0, 1) := by decide +kernel
theorem dX6_init_13 : decode cX6_init 13 = .ok (.iconst 3, 1) := by decide +kernel
theorem dX6_init_14 : decode cX6_init 14 = .ok (.newarray .int, 2) := by decide +kernel
theorem dX6_init_16 : decode cX6_init 16 = .ok (.putfield 19, 3) := by decide +kernel
theorem dX6_init_19 : decode cX6_init 19 = .ok (.aload_n 0, 1) := by decide +kernel
theorem dX6_init_20 : decode cX6_init 20 = .ok (.iconst 3, 1) := by decide +kernel
theorem dX6_init_21 : decode cX6_init 21 = .ok (.newarray .int, 2) := by decide +kernel
theorem dX6_init_23 : decode cX6_init 23 = .ok (.putfield 22, 3) := by decide +kernel
theorem dX6_init_26 : decode cX6_init 26 = .ok (.aload_n 0, 1) := by decide +kernel
theorem dX6_init_27 : decode cX6_init 27 = .ok (.iconst 3, 1) := by decide +kernel
theorem dX6_init_28 : decode cX6_init 28 = .ok (.newarray .int, 2) := by decide +kernel
theorem dX6_init_30 : decode cX6_init 30 = .ok (.putfield 25, 3) := by decide +kernel
theorem dX6_init_33 : decode cX6_init 33 = .ok (.aload_n 0, 1) := by decide +kernel
theorem dX6_init_34 : decode cX6_init 34 = .ok (.sipush 256, 3) := by decide +kernel
theorem dX6_init_37 : decode cX6_init 37 = .ok (.newarray .int, 2) := by decide +kernel
theorem dX6_init_39 : decode cX6_init 39 = .ok (.putfield 28, 3) := by decide +kernel
theorem dX6_init_42 : decode cX6_init 42 = .ok (.aload_n 0, 1) := by decide +kernel
theorem dX6_init_43 : decode cX6_init 43 = .ok (.bipush 64, 2) := by decide +kernel
theorem dX6_init_45 : decode cX6_init 45 = .ok (.newarray .int, 2) := by decide +kernel
theorem dX6_init_47 : decode cX6_init 47 = .ok (.putfield 31, 3) := by decide +kernel
theorem dX6_init_50 : decode cX6_init 50 = .ok (.aload_n 0, 1) := by decide +kernel
theorem dX6_init_51 : decode cX6_init 51 = .ok (.iconst (-1), 1) := by decide +kernel
theorem dX6_init_52 : decode cX6_init 52 = .ok (.putfield 34, 3) := by decide +kernel
theorem dX6_init_55 : decode cX6_init 55 = .ok (.return_, 1) := by decide +kernel
theorem dX6_clear_0 : decode cX6_clear 0 = .ok (.aload_n 0, 1) := by decide +kernel
theorem dX6_clear_1 : decode cX6_clear 1 = .ok (.iconst 0, 1) := by decide +kernel
theorem dX6_clear_2 : decode cX6_clear 2 = .ok (.putfield 38, 3) := by decide +kernel
theorem dX6_clear_5 : decode cX6_clear 5 = .ok (.aload_n 0, 1) := by decide +kernel
theorem dX6_clear_6 : decode cX6_clear 6 = .ok (.iconst 0, 1) := by decide +kernel
theorem dX6_clear_7 : decode cX6_clear 7 = .ok (.putfield 41, 3) := by decide +kernel
theorem dX6_clear_10 : decode cX6_clear 10 = .ok (.aload_n 0, 1) := by decide +kernel
theorem dX6_clear_11 : decode cX6_clear 11 = .ok (.iconst (-1), 1) := by decide +kernel
theorem dX6_clear_12 : decode cX6_clear 12 = .ok (.putfield 34, 3) := by decide +kernel
theorem dX6_clear_15 : decode cX6_clear 15 = .ok (.return_, 1) := by decide +kernel
theorem dX6_begin_0 : decode cX6_begin 0 = .ok (.aload_n 0, 1) := by decide +kernel
theorem dX6_begin_1 : decode cX6_begin 1 = .ok (.invokevirtual 44, 3) := by decide +kernel
theorem dX6_begin_4 : decode cX6_begin 4 = .ok (.aload_n 0, 1) := by decide +kernel
theorem dX6_begin_5 : decode cX6_begin 5 = .ok (.aload_n 1, 1) := by decide +kernel
theorem dX6_begin_6 : decode cX6_begin 6 = .ok (.aload_n 2, 1) := by decide +kernel
theorem dX6_begin_7 : decode cX6_begin 7 = .ok (.iconst 0, 1) := by decide +kernel
theorem dX6_begin_8 : decode cX6_begin 8 = .ok (.invokevirtual 47, 3) := by decide +kernel
theorem dX6_begin_11 : decode cX6_begin 11 = .ok (.aload_n 0, 1) := by decide +kernel
theorem dX6_begin_12 : decode cX6_begin 12 = .ok (.invokevirtual 51, 3) := by decide +kernel
theorem dX6_begin_15 : decode cX6_begin 15 = .ok (.return_, 1) := by decide +kernel
theorem dX6_isDone_0 : decode cX6_isDone 0 = .ok (.aload_n 0, 1) := by decide +kernel
theorem dX6_isDone_1 : decode cX6_isDone 1 = .ok (.getfield 34, 3) := by decide +kernel
theorem dX6_isDone_4 : decode cX6_isDone 4 = .ok (.iconst (-1), 1) := by decide +kernel
theorem dX6_isDone_5 : decode cX6_isDone 5 = .ok (.if_icmp .eq 14, 3) := by decide +kernel
theorem dX6_isDone_8 : decode cX6_isDone 8 = .ok (.aload_n 0, 1) := by decide +kernel
theorem dX6_isDone_9 : decode cX6_isDone 9 = .ok (.getfield 38, 3) := by decide +kernel
theorem dX6_isDone_12 : decode cX6_isDone 12 = .ok (.aload_n 1, 1) := by decide +kernel
theorem dX6_isDone_13 : decode cX6_isDone 13 = .ok (.invokevirtual 54, 3) := by decide +kernel
theorem dX6_isDone_16 : decode cX6_isDone 16 = .ok (.if_icmp .lt 7, 3) := by decide +kernel
theorem dX6_isDone_19 : decode cX6_isDone 19 = .ok (.iconst 1, 1) := by decide +kernel
theorem dX6_isDone_20 : decode cX6_isDone 20 = .ok (.goto 4, 3) := by decide +kernel
theorem dX6_isDone_23 : decode cX6_isDone 23 = .ok (.iconst 0, 1) := by decide +kernel
theorem dX6_isDone_24 : decode cX6_isDone 24 = .ok (.ireturn, 1) := by decide +kernel
theorem dX6_makeStep_0 : decode cX6_makeStep 0 = .ok (.aload_n 2, 1) := by decide +kernel
theorem dX6_makeStep_1 : decode cX6_makeStep 1 = .ok (.getfield 58, 3) := by decide +kernel
theorem dX6_makeStep_4 : decode cX6_makeStep 4 = .ok (.aload_n 0, 1) := by decide +kernel
theorem dX6_makeStep_5 : decode cX6_makeStep 5 = .ok (.getfield 34, 3) := by decide +kernel
theorem dX6_makeStep_8 : decode cX6_makeStep 8 = .ok (.iaload, 1) := by decide +kernel
theorem dX6_makeStep_9 : decode cX6_makeStep 9 = .ok (.istore_n 3, 1) := by decide +kernel
theorem dX6_makeStep_10 : decode cX6_makeStep 10 = .ok (.aload_n 0, 1) := by decide +kernel
theorem dX6_makeStep_11 : decode cX6_makeStep 11 = .ok (.getfield 25, 3) := by decide +kernel
theorem dX6_makeStep_14 : decode cX6_makeStep 14 = .ok (.iload_n 3, 1) := by decide +kernel
theorem dX6_makeStep_15 : decode cX6_makeStep 15 = .ok (.aload_n 0, 1) := by decide +kernel
theorem dX6_makeStep_16 : decode cX6_makeStep 16 = .ok (.getfield 13, 3) := by decide +kernel
theorem dX6_makeStep_19 : decode cX6_makeStep 19 = .ok (.aload_n 0, 1) := by decide +kernel
theorem dX6_makeStep_20 : decode cX6_makeStep 20 = .ok (.getfield 34, 3) := by decide +kernel
theorem dX6_makeStep_23 : decode cX6_makeStep 23 = .ok (.bipush 24, 2) := by decide +kernel
theorem dX6_makeStep_25 : decode cX6_makeStep 25 = .ok (.imul, 1) := by decide +kernel
theorem dX6_makeStep_26 : decode cX6_makeStep 26 = .ok (.aload_n 0, 1) := by decide +kernel
theorem dX6_makeStep_27 : decode cX6_makeStep 27 = .ok (.getfield 22, 3) := by decide +kernel
theorem dX6_makeStep_30 : decode cX6_makeStep 30 = .ok (.aload_n 0, 1) := by decide +kernel
theorem dX6_makeStep_31 : decode cX6_makeStep 31 = .ok (.getfield 34, 3) := by decide +kernel
theorem dX6_makeStep_34 : decode cX6_makeStep 34 = .ok (.iaload, 1) := by decide +kernel
theorem dX6_makeStep_35 : decode cX6_makeStep 35 = .ok (.iadd, 1) := by decide +kernel
theorem dX6_makeStep_36 : decode cX6_makeStep 36 = .ok (.iaload, 1) := by decide +kernel
theorem dX6_makeStep_37 : decode cX6_makeStep 37 = .ok (.iastore, 1) := by decide +kernel
theorem dX6_makeStep_38 : decode cX6_makeStep 38 = .ok (.aload_n 0, 1) := by decide +kernel
theorem dX6_makeStep_39 : decode cX6_makeStep 39 = .ok (.getfield 22, 3) := by decide +kernel
theorem dX6_makeStep_42 : decode cX6_makeStep 42 = .ok (.aload_n 0, 1) := by decide +kernel
theorem dX6_makeStep_43 : decode cX6_makeStep 43 = .ok (.getfield 34, 3) := by decide +kernel
theorem dX6_makeStep_46 : decode cX6_makeStep 46 = .ok (.dup2, 1) := by decide +kernel
theorem dX6_makeStep_47 : decode cX6_makeStep 47 = .ok (.iaload, 1) := by decide +kernel
theorem dX6_makeStep_48 : decode cX6_makeStep 48 = .ok (.iconst 1, 1) := by decide +kernel
theorem dX6_makeStep_49 : decode cX6_makeStep 49 = .ok (.iadd, 1) := by decide +kernel
theorem dX6_makeStep_50 : decode cX6_makeStep 50 = .ok (.iastore, 1) := by decide +kernel
theorem dX6_makeStep_51 : decode cX6_makeStep 51 = .ok (.aload_n 0, 1) := by decide +kernel
theorem dX6_makeStep_52 : decode cX6_makeStep 52 = .ok (.dup, 1) := by decide +kernel
theorem dX6_makeStep_53 : decode cX6_makeStep 53 = .ok (.getfield 41, 3) := by decide +kernel
theorem dX6_makeStep_56 : decode cX6_makeStep 56 = .ok (.iconst 1, 1) := by decide +kernel
theorem dX6_makeStep_57 : decode cX6_makeStep 57 = .ok (.iadd, 1) := by decide +kernel
theorem dX6_makeStep_58 : decode cX6_makeStep 58 = .ok (.putfield 41, 3) := by decide +kernel
theorem dX6_makeStep_61 : decode cX6_makeStep 61 = .ok (.aload_n 0, 1) := by decide +kernel
theorem dX6_makeStep_62 : decode cX6_makeStep 62 = .ok (.aload_n 1, 1) := by decide +kernel
theorem dX6_makeStep_63 : decode cX6_makeStep 63 = .ok (.aload_n 2, 1) := by decide +kernel
theorem dX6_makeStep_64 : decode cX6_makeStep 64 = .ok (.invokevirtual 63, 3) := by decide +kernel
theorem dX6_makeStep_67 : decode cX6_makeStep 67 = .ok (.ifCond .eq 36, 3) := by decide +kernel
theorem dX6_makeStep_70 : decode cX6_makeStep 70 = .ok (.aload_n 0, 1) := by decide +kernel
theorem dX6_makeStep_71 : decode cX6_makeStep 71 = .ok (.getfield 34, 3) := by decide +kernel
theorem dX6_makeStep_74 : decode cX6_makeStep 74 = .ok (.aload_n 1, 1) := by decide +kernel
theorem dX6_makeStep_75 : decode cX6_makeStep 75 = .ok (.getfield 67, 3) := by decide +kernel
theorem dX6_makeStep_78 : decode cX6_makeStep 78 = .ok (.iconst 1, 1) := by decide +kernel
theorem dX6_makeStep_79 : decode cX6_makeStep 79 = .ok (.isub, 1) := by decide +kernel
theorem dX6_makeStep_80 : decode cX6_makeStep 80 = .ok (.if_icmp .ne 11, 3) := by decide +kernel
theorem dX6_makeStep_83 : decode cX6_makeStep 83 = .ok (.aload_n 0, 1) := by decide +kernel
theorem dX6_makeStep_84 : decode cX6_makeStep 84 = .ok (.aload_n 1, 1) := by decide +kernel
theorem dX6_makeStep_85 : decode cX6_makeStep 85 = .ok (.invokevirtual 70, 3) := by decide +kernel
theorem dX6_makeStep_88 : decode cX6_makeStep 88 = .ok (.goto 15, 3) := by decide +kernel
theorem dX6_makeStep_91 : decode cX6_makeStep 91 = .ok (.aload_n 0, 1) := by decide +kernel
theorem dX6_makeStep_92 : decode cX6_makeStep 92 = .ok (.aload_n 1, 1) := by decide +kernel
theorem dX6_makeStep_93 : decode cX6_makeStep 93 = .ok (.aload_n 2, 1) := by decide +kernel
theorem dX6_makeStep_94 : decode cX6_makeStep 94 = .ok (.aload_n 0, 1) := by decide +kernel
theorem dX6_makeStep_95 : decode cX6_makeStep 95 = .ok (.getfield 34, 3) := by decide +kernel
theorem dX6_makeStep_98 : decode cX6_makeStep 98 = .ok (.iconst 1, 1) := by decide +kernel
theorem dX6_makeStep_99 : decode cX6_makeStep 99 = .ok (.iadd, 1) := by decide +kernel
theorem dX6_makeStep_100 : decode cX6_makeStep 100 = .ok (.invokevirtual 47, 3) := by decide +kernel
theorem dX6_makeStep_103 : decode cX6_makeStep 103 = .ok (.aload_n 0, 1) := by decide +kernel
theorem dX6_makeStep_104 : decode cX6_makeStep 104 = .ok (.invokevirtual 51, 3) := by decide +kernel
theorem dX6_makeStep_107 : decode cX6_makeStep 107 = .ok (.return_, 1) := by decide +kernel
theorem dX6_valueOf_0 : decode cX6_valueOf 0 = .ok (.aload_n 0, 1) := by decide +kernel
theorem dX6_valueOf_1 : decode cX6_valueOf 1 = .ok (.getfield 28, 3) := by decide +kernel
theorem dX6_valueOf_4 : decode cX6_valueOf 4 = .ok (.aload_n 0, 1) := by decide +kernel
theorem dX6_valueOf_5 : decode cX6_valueOf 5 = .ok (.getfield 31, 3) := by decide +kernel
theorem dX6_valueOf_8 : decode cX6_valueOf 8 = .ok (.iload_n 1, 1) := by decide +kernel
theorem dX6_valueOf_9 : decode cX6_valueOf 9 = .ok (.iaload, 1) := by decide +kernel
theorem dX6_valueOf_10 : decode cX6_valueOf 10 = .ok (.iconst 4, 1) := by decide +kernel
theorem dX6_valueOf_11 : decode cX6_valueOf 11 = .ok (.imul, 1) := by decide +kernel
theorem dX6_valueOf_12 : decode cX6_valueOf 12 = .ok (.iload_n 2, 1) := by decide +kernel
theorem dX6_valueOf_13 : decode cX6_valueOf 13 = .ok (.iadd, 1) := by decide +kernel
theorem dX6_valueOf_14 : decode cX6_valueOf 14 = .ok (.iaload, 1) := by decide +kernel
theorem dX6_valueOf_15 : decode cX6_valueOf 15 = .ok (.ireturn, 1) := by decide +kernel
theorem dX6_leaveFinishedSources_0 : decode cX6_leaveFinishedSources 0 = .ok (.aload_n 0, 1) := by decide +kernel
theorem dX6_leaveFinishedSources_1 : decode cX6_leaveFinishedSources 1 = .ok (.getfield 34, 3) := by decide +kernel
theorem dX6_leaveFinishedSources_4 : decode cX6_leaveFinishedSources 4 = .ok (.ifCond .lt 37, 3) := by decide +kernel
theorem dX6_leaveFinishedSources_7 : decode cX6_leaveFinishedSources 7 = .ok (.aload_n 0, 1) := by decide +kernel
theorem dX6_leaveFinishedSources_8 : decode cX6_leaveFinishedSources 8 = .ok (.getfield 22, 3) := by decide +kernel
theorem dX6_leaveFinishedSources_11 : decode cX6_leaveFinishedSources 11 = .ok (.aload_n 0, 1) := by decide +kernel
theorem dX6_leaveFinishedSources_12 : decode cX6_leaveFinishedSources 12 = .ok (.getfield 34, 3) := by decide +kernel
theorem dX6_leaveFinishedSources_15 : decode cX6_leaveFinishedSources 15 = .ok (.iaload, 1) := by decide +kernel
theorem dX6_leaveFinishedSources_16 : decode cX6_leaveFinishedSources 16 = .ok (.aload_n 0, 1) := by decide +kernel
theorem dX6_leaveFinishedSources_17 : decode cX6_leaveFinishedSources 17 = .ok (.getfield 19, 3) := by decide +kernel
theorem dX6_leaveFinishedSources_20 : decode cX6_leaveFinishedSources 20 = .ok (.aload_n 0, 1) := by decide +kernel
theorem dX6_leaveFinishedSources_21 : decode cX6_leaveFinishedSources 21 = .ok (.getfield 34, 3) := by decide +kernel
theorem dX6_leaveFinishedSources_24 : decode cX6_leaveFinishedSources 24 = .ok (.iaload, 1) := by decide +kernel
theorem dX6_leaveFinishedSources_25 : decode cX6_leaveFinishedSources 25 = .ok (.if_icmp .lt 16, 3) := by decide +kernel
theorem dX6_leaveFinishedSources_28 : decode cX6_leaveFinishedSources 28 = .ok (.aload_n 0, 1) := by decide +kernel
theorem dX6_leaveFinishedSources_29 : decode cX6_leaveFinishedSources 29 = .ok (.dup, 1) := by decide +kernel
theorem dX6_leaveFinishedSources_30 : decode cX6_leaveFinishedSources 30 = .ok (.getfield 34, 3) := by decide +kernel
theorem dX6_leaveFinishedSources_33 : decode cX6_leaveFinishedSources 33 = .ok (.iconst 1, 1) := by decide +kernel
theorem dX6_leaveFinishedSources_34 : decode cX6_leaveFinishedSources 34 = .ok (.isub, 1) := by decide +kernel
theorem dX6_leaveFinishedSources_35 : decode cX6_leaveFinishedSources 35 = .ok (.putfield 34, 3) := by decide +kernel
theorem dX6_leaveFinishedSources_38 : decode cX6_leaveFinishedSources 38 = .ok (.goto (-38), 3) := by decide +kernel
theorem dX6_leaveFinishedSources_41 : decode cX6_leaveFinishedSources 41 = .ok (.return_, 1) := by decide +kernel
theorem dX6_passes_0 : decode cX6_passes 0 = .ok (.aload_n 2, 1) := by decide +kernel
theorem dX6_passes_1 : decode cX6_passes 1 = .ok (.getfield 58, 3) := by decide +kernel
theorem dX6_passes_4 : decode cX6_passes 4 = .ok (.aload_n 0, 1) := by decide +kernel
theorem dX6_passes_5 : decode cX6_passes 5 = .ok (.getfield 34, 3) := by decide +kernel
theorem dX6_passes_8 : decode cX6_passes 8 = .ok (.iaload, 1) := by decide +kernel
theorem dX6_passes_9 : decode cX6_passes 9 = .ok (.istore_n 3, 1) := by decide +kernel
theorem dX6_passes_10 : decode cX6_passes 10 = .ok (.iconst 0, 1) := by decide +kernel
theorem dX6_passes_11 : decode cX6_passes 11 = .ok (.istore 4, 2) := by decide +kernel
theorem dX6_passes_13 : decode cX6_passes 13 = .ok (.iload 4, 2) := by decide +kernel
theorem dX6_passes_15 : decode cX6_passes 15 = .ok (.aload_n 1, 1) := by decide +kernel
theorem dX6_passes_16 : decode cX6_passes 16 = .ok (.getfield 74, 3) := by decide +kernel
theorem dX6_passes_19 : decode cX6_passes 19 = .ok (.if_icmp .ge 48, 3) := by decide +kernel
theorem dX6_passes_22 : decode cX6_passes 22 = .ok (.aload_n 1, 1) := by decide +kernel
theorem dX6_passes_23 : decode cX6_passes 23 = .ok (.getfield 77, 3) := by decide +kernel
theorem dX6_passes_26 : decode cX6_passes 26 = .ok (.iload 4, 2) := by decide +kernel
theorem dX6_passes_28 : decode cX6_passes 28 = .ok (.aaload, 1) := by decide +kernel
theorem dX6_passes_29 : decode cX6_passes 29 = .ok (.astore 5, 2) := by decide +kernel
theorem dX6_passes_31 : decode cX6_passes 31 = .ok (.aload 5, 2) := by decide +kernel
theorem dX6_passes_33 : decode cX6_passes 33 = .ok (.getfield 81, 3) := by decide +kernel
theorem dX6_passes_36 : decode cX6_passes 36 = .ok (.iload_n 3, 1) := by decide +kernel
theorem dX6_passes_37 : decode cX6_passes 37 = .ok (.if_icmp .ne 24, 3) := by decide +kernel
theorem dX6_passes_40 : decode cX6_passes 40 = .ok (.aload 5, 2) := by decide +kernel
theorem dX6_passes_42 : decode cX6_passes 42 = .ok (.aload_n 0, 1) := by decide +kernel
theorem dX6_passes_43 : decode cX6_passes 43 = .ok (.aload_n 1, 1) := by decide +kernel
theorem dX6_passes_44 : decode cX6_passes 44 = .ok (.iload_n 3, 1) := by decide +kernel
theorem dX6_passes_45 : decode cX6_passes 45 = .ok (.aload 5, 2) := by decide +kernel
theorem dX6_passes_47 : decode cX6_passes 47 = .ok (.getfield 86, 3) := by decide +kernel
theorem dX6_passes_50 : decode cX6_passes 50 = .ok (.invokevirtual 89, 3) := by decide +kernel
theorem dX6_passes_53 : decode cX6_passes 53 = .ok (.invokevirtual 93, 3) := by decide +kernel
theorem dX6_passes_56 : decode cX6_passes 56 = .ok (.ifCond .ne 5, 3) := by decide +kernel
theorem dX6_passes_59 : decode cX6_passes 59 = .ok (.iconst 0, 1) := by decide +kernel
theorem dX6_passes_60 : decode cX6_passes 60 = .ok (.ireturn, 1) := by decide +kernel
theorem dX6_passes_61 : decode cX6_passes 61 = .ok (.iinc 4 1, 3) := by decide +kernel
theorem dX6_passes_64 : decode cX6_passes 64 = .ok (.goto (-51), 3) := by decide +kernel
theorem dX6_passes_67 : decode cX6_passes 67 = .ok (.iconst 0, 1) := by decide +kernel
theorem dX6_passes_68 : decode cX6_passes 68 = .ok (.istore 4, 2) := by decide +kernel
theorem dX6_passes_70 : decode cX6_passes 70 = .ok (.iload 4, 2) := by decide +kernel
theorem dX6_passes_72 : decode cX6_passes 72 = .ok (.aload_n 1, 1) := by decide +kernel
theorem dX6_passes_73 : decode cX6_passes 73 = .ok (.getfield 97, 3) := by decide +kernel
theorem dX6_passes_76 : decode cX6_passes 76 = .ok (.if_icmp .ge 66, 3) := by decide +kernel
theorem dX6_passes_79 : decode cX6_passes 79 = .ok (.aload_n 1, 1) := by decide +kernel
theorem dX6_passes_80 : decode cX6_passes 80 = .ok (.getfield 100, 3) := by decide +kernel
theorem dX6_passes_83 : decode cX6_passes 83 = .ok (.iload 4, 2) := by decide +kernel
theorem dX6_passes_85 : decode cX6_passes 85 = .ok (.aaload, 1) := by decide +kernel
theorem dX6_passes_86 : decode cX6_passes 86 = .ok (.astore 5, 2) := by decide +kernel
theorem dX6_passes_88 : decode cX6_passes 88 = .ok (.aload_n 2, 1) := by decide +kernel
theorem dX6_passes_89 : decode cX6_passes 89 = .ok (.aload 5, 2) := by decide +kernel
theorem dX6_passes_91 : decode cX6_passes 91 = .ok (.aload_n 0, 1) := by decide +kernel
theorem dX6_passes_92 : decode cX6_passes 92 = .ok (.getfield 34, 3) := by decide +kernel
theorem dX6_passes_95 : decode cX6_passes 95 = .ok (.invokevirtual 104, 3) := by decide +kernel
theorem dX6_passes_98 : decode cX6_passes 98 = .ok (.ifCond .eq 38, 3) := by decide +kernel
theorem dX6_passes_101 : decode cX6_passes 101 = .ok (.aload_n 0, 1) := by decide +kernel
theorem dX6_passes_102 : decode cX6_passes 102 = .ok (.aload_n 1, 1) := by decide +kernel
theorem dX6_passes_103 : decode cX6_passes 103 = .ok (.aload 5, 2) := by decide +kernel
theorem dX6_passes_105 : decode cX6_passes 105 = .ok (.getfield 108, 3) := by decide +kernel
theorem dX6_passes_108 : decode cX6_passes 108 = .ok (.aload 5, 2) := by decide +kernel
theorem dX6_passes_110 : decode cX6_passes 110 = .ok (.getfield 113, 3) := by decide +kernel
theorem dX6_passes_113 : decode cX6_passes 113 = .ok (.invokevirtual 89, 3) := by decide +kernel
theorem dX6_passes_116 : decode cX6_passes 116 = .ok (.aload_n 0, 1) := by decide +kernel
theorem dX6_passes_117 : decode cX6_passes 117 = .ok (.aload_n 1, 1) := by decide +kernel
theorem dX6_passes_118 : decode cX6_passes 118 = .ok (.aload 5, 2) := by decide +kernel
theorem dX6_passes_120 : decode cX6_passes 120 = .ok (.getfield 116, 3) := by decide +kernel
theorem dX6_passes_123 : decode cX6_passes 123 = .ok (.aload 5, 2) := by decide +kernel
theorem dX6_passes_125 : decode cX6_passes 125 = .ok (.getfield 119, 3) := by decide +kernel
theorem dX6_passes_128 : decode cX6_passes 128 = .ok (.invokevirtual 89, 3) := by decide +kernel
theorem dX6_passes_131 : decode cX6_passes 131 = .ok (.if_icmp .eq 5, 3) := by decide +kernel
theorem dX6_passes_134 : decode cX6_passes 134 = .ok (.iconst 0, 1) := by decide +kernel
theorem dX6_passes_135 : decode cX6_passes 135 = .ok (.ireturn, 1) := by decide +kernel
theorem dX6_passes_136 : decode cX6_passes 136 = .ok (.iinc 4 1, 3) := by decide +kernel
theorem dX6_passes_139 : decode cX6_passes 139 = .ok (.goto (-69), 3) := by decide +kernel
theorem dX6_passes_142 : decode cX6_passes 142 = .ok (.iconst 1, 1) := by decide +kernel
theorem dX6_passes_143 : decode cX6_passes 143 = .ok (.ireturn, 1) := by decide +kernel
theorem dX6_readValue_0 : decode cX6_readValue 0 = .ok (.aload_n 1, 1) := by decide +kernel
theorem dX6_readValue_1 : decode cX6_readValue 1 = .ok (.getfield 122, 3) := by decide +kernel
theorem dX6_readValue_4 : decode cX6_readValue 4 = .ok (.iload_n 2, 1) := by decide +kernel
theorem dX6_readValue_5 : decode cX6_readValue 5 = .ok (.aaload, 1) := by decide +kernel
theorem dX6_readValue_6 : decode cX6_readValue 6 = .ok (.aload_n 0, 1) := by decide +kernel
theorem dX6_readValue_7 : decode cX6_readValue 7 = .ok (.getfield 25, 3) := by decide +kernel
theorem dX6_readValue_10 : decode cX6_readValue 10 = .ok (.iload_n 2, 1) := by decide +kernel
theorem dX6_readValue_11 : decode cX6_readValue 11 = .ok (.iaload, 1) := by decide +kernel
theorem dX6_readValue_12 : decode cX6_readValue 12 = .ok (.iload_n 3, 1) := by decide +kernel
theorem dX6_readValue_13 : decode cX6_readValue 13 = .ok (.invokevirtual 126, 3) := by decide +kernel
theorem dX6_readValue_16 : decode cX6_readValue 16 = .ok (.ireturn, 1) := by decide +kernel
theorem dX6_openSource_0 : decode cX6_openSource 0 = .ok (.aload_n 0, 1) := by decide +kernel
theorem dX6_openSource_1 : decode cX6_openSource 1 = .ok (.iload_n 3, 1) := by decide +kernel
theorem dX6_openSource_2 : decode cX6_openSource 2 = .ok (.putfield 34, 3) := by decide +kernel
theorem dX6_openSource_5 : decode cX6_openSource 5 = .ok (.aload_n 0, 1) := by decide +kernel
theorem dX6_openSource_6 : decode cX6_openSource 6 = .ok (.getfield 22, 3) := by decide +kernel
theorem dX6_openSource_9 : decode cX6_openSource 9 = .ok (.iload_n 3, 1) := by decide +kernel
theorem dX6_openSource_10 : decode cX6_openSource 10 = .ok (.iconst 0, 1) := by decide +kernel
theorem dX6_openSource_11 : decode cX6_openSource 11 = .ok (.iastore, 1) := by decide +kernel
theorem dX6_openSource_12 : decode cX6_openSource 12 = .ok (.aload_n 0, 1) := by decide +kernel
theorem dX6_openSource_13 : decode cX6_openSource 13 = .ok (.getfield 19, 3) := by decide +kernel
theorem dX6_openSource_16 : decode cX6_openSource 16 = .ok (.iload_n 3, 1) := by decide +kernel
theorem dX6_openSource_17 : decode cX6_openSource 17 = .ok (.iconst 0, 1) := by decide +kernel
theorem dX6_openSource_18 : decode cX6_openSource 18 = .ok (.iastore, 1) := by decide +kernel
theorem dX6_openSource_19 : decode cX6_openSource 19 = .ok (.aload_n 1, 1) := by decide +kernel
theorem dX6_openSource_20 : decode cX6_openSource 20 = .ok (.getfield 122, 3) := by decide +kernel
theorem dX6_openSource_23 : decode cX6_openSource 23 = .ok (.aload_n 2, 1) := by decide +kernel
theorem dX6_openSource_24 : decode cX6_openSource 24 = .ok (.getfield 58, 3) := by decide +kernel
theorem dX6_openSource_27 : decode cX6_openSource 27 = .ok (.iload_n 3, 1) := by decide +kernel
theorem dX6_openSource_28 : decode cX6_openSource 28 = .ok (.iaload, 1) := by decide +kernel
theorem dX6_openSource_29 : decode cX6_openSource 29 = .ok (.aaload, 1) := by decide +kernel
theorem dX6_openSource_30 : decode cX6_openSource 30 = .ok (.astore 4, 2) := by decide +kernel
theorem dX6_openSource_32 : decode cX6_openSource 32 = .ok (.iconst 0, 1) := by decide +kernel
theorem dX6_openSource_33 : decode cX6_openSource 33 = .ok (.istore 5, 2) := by decide +kernel
theorem dX6_openSource_35 : decode cX6_openSource 35 = .ok (.iload 5, 2) := by decide +kernel
theorem dX6_openSource_37 : decode cX6_openSource 37 = .ok (.aload 4, 2) := by decide +kernel
theorem dX6_openSource_39 : decode cX6_openSource 39 = .ok (.getfield 130, 3) := by decide +kernel
theorem dX6_openSource_42 : decode cX6_openSource 42 = .ok (.if_icmp .ge 103, 3) := by decide +kernel
theorem dX6_openSource_45 : decode cX6_openSource 45 = .ok (.aload_n 2, 1) := by decide +kernel
theorem dX6_openSource_46 : decode cX6_openSource 46 = .ok (.getfield 133, 3) := by decide +kernel
theorem dX6_openSource_49 : decode cX6_openSource 49 = .ok (.iload_n 3, 1) := by decide +kernel
theorem dX6_openSource_50 : decode cX6_openSource 50 = .ok (.iaload, 1) := by decide +kernel
theorem dX6_openSource_51 : decode cX6_openSource 51 = .ok (.iconst (-1), 1) := by decide +kernel
theorem dX6_openSource_52 : decode cX6_openSource 52 = .ok (.if_icmp .eq 44, 3) := by decide +kernel
theorem dX6_openSource_55 : decode cX6_openSource 55 = .ok (.aload_n 1, 1) := by decide +kernel
theorem dX6_openSource_56 : decode cX6_openSource 56 = .ok (.getfield 77, 3) := by decide +kernel
theorem dX6_openSource_59 : decode cX6_openSource 59 = .ok (.aload_n 2, 1) := by decide +kernel
theorem dX6_openSource_60 : decode cX6_openSource 60 = .ok (.getfield 133, 3) := by decide +kernel
theorem dX6_openSource_63 : decode cX6_openSource 63 = .ok (.iload_n 3, 1) := by decide +kernel
theorem dX6_openSource_64 : decode cX6_openSource 64 = .ok (.iaload, 1) := by decide +kernel
theorem dX6_openSource_65 : decode cX6_openSource 65 = .ok (.aaload, 1) := by decide +kernel
theorem dX6_openSource_66 : decode cX6_openSource 66 = .ok (.astore 6, 2) := by decide +kernel
theorem dX6_openSource_68 : decode cX6_openSource 68 = .ok (.aload_n 0, 1) := by decide +kernel
theorem dX6_openSource_69 : decode cX6_openSource 69 = .ok (.aload 4, 2) := by decide +kernel
theorem dX6_openSource_71 : decode cX6_openSource 71 = .ok (.aload 6, 2) := by decide +kernel
theorem dX6_openSource_73 : decode cX6_openSource 73 = .ok (.aload_n 2, 1) := by decide +kernel
theorem dX6_openSource_74 : decode cX6_openSource 74 = .ok (.getfield 136, 3) := by decide +kernel
theorem dX6_openSource_77 : decode cX6_openSource 77 = .ok (.iload_n 3, 1) := by decide +kernel
theorem dX6_openSource_78 : decode cX6_openSource 78 = .ok (.iaload, 1) := by decide +kernel
theorem dX6_openSource_79 : decode cX6_openSource 79 = .ok (.iconst 2, 1) := by decide +kernel
theorem dX6_openSource_80 : decode cX6_openSource 80 = .ok (.if_icmp .ne 7, 3) := by decide +kernel
theorem dX6_openSource_83 : decode cX6_openSource 83 = .ok (.iconst 1, 1) := by decide +kernel
theorem dX6_openSource_84 : decode cX6_openSource 84 = .ok (.goto 4, 3) := by decide +kernel
theorem dX6_openSource_87 : decode cX6_openSource 87 = .ok (.iconst 0, 1) := by decide +kernel
theorem dX6_openSource_88 : decode cX6_openSource 88 = .ok (.iload 5, 2) := by decide +kernel
theorem dX6_openSource_90 : decode cX6_openSource 90 = .ok (.invokevirtual 139, 3) := by decide +kernel
theorem dX6_openSource_93 : decode cX6_openSource 93 = .ok (.goto 46, 3) := by decide +kernel
theorem dX6_openSource_96 : decode cX6_openSource 96 = .ok (.aload_n 2, 1) := by decide +kernel
theorem dX6_openSource_97 : decode cX6_openSource 97 = .ok (.getfield 143, 3) := by decide +kernel
theorem dX6_openSource_100 : decode cX6_openSource 100 = .ok (.iload_n 3, 1) := by decide +kernel
theorem dX6_openSource_101 : decode cX6_openSource 101 = .ok (.iaload, 1) := by decide +kernel
theorem dX6_openSource_102 : decode cX6_openSource 102 = .ok (.iconst (-1), 1) := by decide +kernel
theorem dX6_openSource_103 : decode cX6_openSource 103 = .ok (.if_icmp .eq 30, 3) := by decide +kernel
theorem dX6_openSource_106 : decode cX6_openSource 106 = .ok (.aload_n 0, 1) := by decide +kernel
theorem dX6_openSource_107 : decode cX6_openSource 107 = .ok (.aload_n 1, 1) := by decide +kernel
theorem dX6_openSource_108 : decode cX6_openSource 108 = .ok (.aload_n 1, 1) := by decide +kernel
theorem dX6_openSource_109 : decode cX6_openSource 109 = .ok (.getfield 100, 3) := by decide +kernel
theorem dX6_openSource_112 : decode cX6_openSource 112 = .ok (.aload_n 2, 1) := by decide +kernel
theorem dX6_openSource_113 : decode cX6_openSource 113 = .ok (.getfield 143, 3) := by decide +kernel
theorem dX6_openSource_116 : decode cX6_openSource 116 = .ok (.iload_n 3, 1) := by decide +kernel
theorem dX6_openSource_117 : decode cX6_openSource 117 = .ok (.iaload, 1) := by decide +kernel
theorem dX6_openSource_118 : decode cX6_openSource 118 = .ok (.aaload, 1) := by decide +kernel
theorem dX6_openSource_119 : decode cX6_openSource 119 = .ok (.aload_n 2, 1) := by decide +kernel
theorem dX6_openSource_120 : decode cX6_openSource 120 = .ok (.getfield 58, 3) := by decide +kernel
theorem dX6_openSource_123 : decode cX6_openSource 123 = .ok (.iload_n 3, 1) := by decide +kernel
theorem dX6_openSource_124 : decode cX6_openSource 124 = .ok (.iaload, 1) := by decide +kernel
theorem dX6_openSource_125 : decode cX6_openSource 125 = .ok (.iload 5, 2) := by decide +kernel
theorem dX6_openSource_127 : decode cX6_openSource 127 = .ok (.invokevirtual 146, 3) := by decide +kernel
theorem dX6_openSource_130 : decode cX6_openSource 130 = .ok (.goto 9, 3) := by decide +kernel
theorem dX6_openSource_133 : decode cX6_openSource 133 = .ok (.aload_n 0, 1) := by decide +kernel
theorem dX6_openSource_134 : decode cX6_openSource 134 = .ok (.iload 5, 2) := by decide +kernel
theorem dX6_openSource_136 : decode cX6_openSource 136 = .ok (.invokevirtual 150, 3) := by decide +kernel
theorem dX6_openSource_139 : decode cX6_openSource 139 = .ok (.iinc 5 1, 3) := by decide +kernel
theorem dX6_openSource_142 : decode cX6_openSource 142 = .ok (.goto (-107), 3) := by decide +kernel
theorem dX6_openSource_145 : decode cX6_openSource 145 = .ok (.return_, 1) := by decide +kernel
theorem dX6_openByCondition_0 : decode cX6_openByCondition 0 = .ok (.aload_n 2, 1) := by decide +kernel
theorem dX6_openByCondition_1 : decode cX6_openByCondition 1 = .ok (.aload_n 1, 1) := by decide +kernel
theorem dX6_openByCondition_2 : decode cX6_openByCondition 2 = .ok (.iload 4, 2) := by decide +kernel
theorem dX6_openByCondition_4 : decode cX6_openByCondition 4 = .ok (.aload_n 2, 1) := by decide +kernel
theorem dX6_openByCondition_5 : decode cX6_openByCondition 5 = .ok (.getfield 86, 3) := by decide +kernel
theorem dX6_openByCondition_8 : decode cX6_openByCondition 8 = .ok (.invokevirtual 126, 3) := by decide +kernel
theorem dX6_openByCondition_11 : decode cX6_openByCondition 11 = .ok (.invokevirtual 93, 3) := by decide +kernel
theorem dX6_openByCondition_14 : decode cX6_openByCondition 14 = .ok (.ifCond .eq 22, 3) := by decide +kernel
theorem dX6_openByCondition_17 : decode cX6_openByCondition 17 = .ok (.aload_n 0, 1) := by decide +kernel
theorem dX6_openByCondition_18 : decode cX6_openByCondition 18 = .ok (.iload 4, 2) := by decide +kernel
theorem dX6_openByCondition_20 : decode cX6_openByCondition 20 = .ok (.invokevirtual 150, 3) := by decide +kernel
theorem dX6_openByCondition_23 : decode cX6_openByCondition 23 = .ok (.iload_n 3, 1) := by decide +kernel
theorem dX6_openByCondition_24 : decode cX6_openByCondition 24 = .ok (.ifCond .eq 12, 3) := by decide +kernel
theorem dX6_openByCondition_27 : decode cX6_openByCondition 27 = .ok (.aload_n 0, 1) := by decide +kernel
theorem dX6_openByCondition_28 : decode cX6_openByCondition 28 = .ok (.aload_n 1, 1) := by decide +kernel
theorem dX6_openByCondition_29 : decode cX6_openByCondition 29 = .ok (.aload_n 2, 1) := by decide +kernel
theorem dX6_openByCondition_30 : decode cX6_openByCondition 30 = .ok (.getfield 86, 3) := by decide +kernel
theorem dX6_openByCondition_33 : decode cX6_openByCondition 33 = .ok (.invokevirtual 154, 3) := by decide +kernel
theorem dX6_openByCondition_36 : decode cX6_openByCondition 36 = .ok (.return_, 1) := by decide +kernel
theorem dX6_openByJoin_0 : decode cX6_openByJoin 0 = .ok (.aload_n 2, 1) := by decide +kernel
theorem dX6_openByJoin_1 : decode cX6_openByJoin 1 = .ok (.iload_n 3, 1) := by decide +kernel
theorem dX6_openByJoin_2 : decode cX6_openByJoin 2 = .ok (.invokevirtual 158, 3) := by decide +kernel
theorem dX6_openByJoin_5 : decode cX6_openByJoin 5 = .ok (.istore 5, 2) := by decide +kernel
theorem dX6_openByJoin_7 : decode cX6_openByJoin 7 = .ok (.aload_n 0, 1) := by decide +kernel
theorem dX6_openByJoin_8 : decode cX6_openByJoin 8 = .ok (.aload_n 1, 1) := by decide +kernel
theorem dX6_openByJoin_9 : decode cX6_openByJoin 9 = .ok (.iload 5, 2) := by decide +kernel
theorem dX6_openByJoin_11 : decode cX6_openByJoin 11 = .ok (.aload_n 2, 1) := by decide +kernel
theorem dX6_openByJoin_12 : decode cX6_openByJoin 12 = .ok (.iload 5, 2) := by decide +kernel
theorem dX6_openByJoin_14 : decode cX6_openByJoin 14 = .ok (.invokevirtual 162, 3) := by decide +kernel
theorem dX6_openByJoin_17 : decode cX6_openByJoin 17 = .ok (.invokevirtual 89, 3) := by decide +kernel
theorem dX6_openByJoin_20 : decode cX6_openByJoin 20 = .ok (.istore 6, 2) := by decide +kernel
theorem dX6_openByJoin_22 : decode cX6_openByJoin 22 = .ok (.aload_n 1, 1) := by decide +kernel
theorem dX6_openByJoin_23 : decode cX6_openByJoin 23 = .ok (.getfield 122, 3) := by decide +kernel
theorem dX6_openByJoin_26 : decode cX6_openByJoin 26 = .ok (.iload_n 3, 1) := by decide +kernel
theorem dX6_openByJoin_27 : decode cX6_openByJoin 27 = .ok (.aaload, 1) := by decide +kernel
theorem dX6_openByJoin_28 : decode cX6_openByJoin 28 = .ok (.iload 4, 2) := by decide +kernel
theorem dX6_openByJoin_30 : decode cX6_openByJoin 30 = .ok (.aload_n 2, 1) := by decide +kernel
theorem dX6_openByJoin_31 : decode cX6_openByJoin 31 = .ok (.iload_n 3, 1) := by decide +kernel
theorem dX6_openByJoin_32 : decode cX6_openByJoin 32 = .ok (.invokevirtual 162, 3) := by decide +kernel
theorem dX6_openByJoin_35 : decode cX6_openByJoin 35 = .ok (.invokevirtual 126, 3) := by decide +kernel
theorem dX6_openByJoin_38 : decode cX6_openByJoin 38 = .ok (.iload 6, 2) := by decide +kernel
theorem dX6_openByJoin_40 : decode cX6_openByJoin 40 = .ok (.if_icmp .ne 9, 3) := by decide +kernel
theorem dX6_openByJoin_43 : decode cX6_openByJoin 43 = .ok (.aload_n 0, 1) := by decide +kernel
theorem dX6_openByJoin_44 : decode cX6_openByJoin 44 = .ok (.iload 4, 2) := by decide +kernel
theorem dX6_openByJoin_46 : decode cX6_openByJoin 46 = .ok (.invokevirtual 150, 3) := by decide +kernel
theorem dX6_openByJoin_49 : decode cX6_openByJoin 49 = .ok (.return_, 1) := by decide +kernel
theorem dX6_addPlace_0 : decode cX6_addPlace 0 = .ok (.aload_n 0, 1) := by decide +kernel
theorem dX6_addPlace_1 : decode cX6_addPlace 1 = .ok (.getfield 13, 3) := by decide +kernel
theorem dX6_addPlace_4 : decode cX6_addPlace 4 = .ok (.aload_n 0, 1) := by decide +kernel
theorem dX6_addPlace_5 : decode cX6_addPlace 5 = .ok (.getfield 34, 3) := by decide +kernel
theorem dX6_addPlace_8 : decode cX6_addPlace 8 = .ok (.bipush 24, 2) := by decide +kernel
theorem dX6_addPlace_10 : decode cX6_addPlace 10 = .ok (.imul, 1) := by decide +kernel
theorem dX6_addPlace_11 : decode cX6_addPlace 11 = .ok (.aload_n 0, 1) := by decide +kernel
theorem dX6_addPlace_12 : decode cX6_addPlace 12 = .ok (.getfield 19, 3) := by decide +kernel
theorem dX6_addPlace_15 : decode cX6_addPlace 15 = .ok (.aload_n 0, 1) := by decide +kernel
theorem dX6_addPlace_16 : decode cX6_addPlace 16 = .ok (.getfield 34, 3) := by decide +kernel
theorem dX6_addPlace_19 : decode cX6_addPlace 19 = .ok (.iaload, 1) := by decide +kernel
theorem dX6_addPlace_20 : decode cX6_addPlace 20 = .ok (.iadd, 1) := by decide +kernel
theorem dX6_addPlace_21 : decode cX6_addPlace 21 = .ok (.iload_n 1, 1) := by decide +kernel
theorem dX6_addPlace_22 : decode cX6_addPlace 22 = .ok (.iastore, 1) := by decide +kernel
theorem dX6_addPlace_23 : decode cX6_addPlace 23 = .ok (.aload_n 0, 1) := by decide +kernel
theorem dX6_addPlace_24 : decode cX6_addPlace 24 = .ok (.getfield 19, 3) := by decide +kernel
theorem dX6_addPlace_27 : decode cX6_addPlace 27 = .ok (.aload_n 0, 1) := by decide +kernel
theorem dX6_addPlace_28 : decode cX6_addPlace 28 = .ok (.getfield 34, 3) := by decide +kernel
theorem dX6_addPlace_31 : decode cX6_addPlace 31 = .ok (.dup2, 1) := by decide +kernel
theorem dX6_addPlace_32 : decode cX6_addPlace 32 = .ok (.iaload, 1) := by decide +kernel
theorem dX6_addPlace_33 : decode cX6_addPlace 33 = .ok (.iconst 1, 1) := by decide +kernel
theorem dX6_addPlace_34 : decode cX6_addPlace 34 = .ok (.iadd, 1) := by decide +kernel
theorem dX6_addPlace_35 : decode cX6_addPlace 35 = .ok (.iastore, 1) := by decide +kernel
theorem dX6_addPlace_36 : decode cX6_addPlace 36 = .ok (.return_, 1) := by decide +kernel
theorem dX6_sinkLastPlace_0 : decode cX6_sinkLastPlace 0 = .ok (.aload_n 0, 1) := by decide +kernel
theorem dX6_sinkLastPlace_1 : decode cX6_sinkLastPlace 1 = .ok (.getfield 34, 3) := by decide +kernel
theorem dX6_sinkLastPlace_4 : decode cX6_sinkLastPlace 4 = .ok (.bipush 24, 2) := by decide +kernel
theorem dX6_sinkLastPlace_6 : decode cX6_sinkLastPlace 6 = .ok (.imul, 1) := by decide +kernel
theorem dX6_sinkLastPlace_7 : decode cX6_sinkLastPlace 7 = .ok (.istore_n 3, 1) := by decide +kernel
theorem dX6_sinkLastPlace_8 : decode cX6_sinkLastPlace 8 = .ok (.iload_n 3, 1) := by decide +kernel
theorem dX6_sinkLastPlace_9 : decode cX6_sinkLastPlace 9 = .ok (.aload_n 0, 1) := by decide +kernel
theorem dX6_sinkLastPlace_10 : decode cX6_sinkLastPlace 10 = .ok (.getfield 19, 3) := by decide +kernel
theorem dX6_sinkLastPlace_13 : decode cX6_sinkLastPlace 13 = .ok (.aload_n 0, 1) := by decide +kernel
theorem dX6_sinkLastPlace_14 : decode cX6_sinkLastPlace 14 = .ok (.getfield 34, 3) := by decide +kernel
theorem dX6_sinkLastPlace_17 : decode cX6_sinkLastPlace 17 = .ok (.iaload, 1) := by decide +kernel
theorem dX6_sinkLastPlace_18 : decode cX6_sinkLastPlace 18 = .ok (.iadd, 1) := by decide +kernel
theorem dX6_sinkLastPlace_19 : decode cX6_sinkLastPlace 19 = .ok (.iconst 1, 1) := by decide +kernel
theorem dX6_sinkLastPlace_20 : decode cX6_sinkLastPlace 20 = .ok (.isub, 1) := by decide +kernel
theorem dX6_sinkLastPlace_21 : decode cX6_sinkLastPlace 21 = .ok (.istore 4, 2) := by decide +kernel
theorem dX6_sinkLastPlace_23 : decode cX6_sinkLastPlace 23 = .ok (.aload_n 0, 1) := by decide +kernel
theorem dX6_sinkLastPlace_24 : decode cX6_sinkLastPlace 24 = .ok (.getfield 13, 3) := by decide +kernel
theorem dX6_sinkLastPlace_27 : decode cX6_sinkLastPlace 27 = .ok (.iload 4, 2) := by decide +kernel
theorem dX6_sinkLastPlace_29 : decode cX6_sinkLastPlace 29 = .ok (.iaload, 1) := by decide +kernel
theorem dX6_sinkLastPlace_30 : decode cX6_sinkLastPlace 30 = .ok (.istore 5, 2) := by decide +kernel
theorem dX6_sinkLastPlace_32 : decode cX6_sinkLastPlace 32 = .ok (.aload_n 1, 1) := by decide +kernel
theorem dX6_sinkLastPlace_33 : decode cX6_sinkLastPlace 33 = .ok (.iload 5, 2) := by decide +kernel
theorem dX6_sinkLastPlace_35 : decode cX6_sinkLastPlace 35 = .ok (.iload_n 2, 1) := by decide +kernel
theorem dX6_sinkLastPlace_36 : decode cX6_sinkLastPlace 36 = .ok (.invokevirtual 126, 3) := by decide +kernel
theorem dX6_sinkLastPlace_39 : decode cX6_sinkLastPlace 39 = .ok (.istore 6, 2) := by decide +kernel
theorem dX6_sinkLastPlace_41 : decode cX6_sinkLastPlace 41 = .ok (.iload 4, 2) := by decide +kernel
theorem dX6_sinkLastPlace_43 : decode cX6_sinkLastPlace 43 = .ok (.iload_n 3, 1) := by decide +kernel
theorem dX6_sinkLastPlace_44 : decode cX6_sinkLastPlace 44 = .ok (.if_icmp .le 44, 3) := by decide +kernel
theorem dX6_sinkLastPlace_47 : decode cX6_sinkLastPlace 47 = .ok (.aload_n 1, 1) := by decide +kernel
theorem dX6_sinkLastPlace_48 : decode cX6_sinkLastPlace 48 = .ok (.aload_n 0, 1) := by decide +kernel
theorem dX6_sinkLastPlace_49 : decode cX6_sinkLastPlace 49 = .ok (.getfield 13, 3) := by decide +kernel
theorem dX6_sinkLastPlace_52 : decode cX6_sinkLastPlace 52 = .ok (.iload 4, 2) := by decide +kernel
theorem dX6_sinkLastPlace_54 : decode cX6_sinkLastPlace 54 = .ok (.iconst 1, 1) := by decide +kernel
theorem dX6_sinkLastPlace_55 : decode cX6_sinkLastPlace 55 = .ok (.isub, 1) := by decide +kernel
theorem dX6_sinkLastPlace_56 : decode cX6_sinkLastPlace 56 = .ok (.iaload, 1) := by decide +kernel
theorem dX6_sinkLastPlace_57 : decode cX6_sinkLastPlace 57 = .ok (.iload_n 2, 1) := by decide +kernel
theorem dX6_sinkLastPlace_58 : decode cX6_sinkLastPlace 58 = .ok (.invokevirtual 126, 3) := by decide +kernel
theorem dX6_sinkLastPlace_61 : decode cX6_sinkLastPlace 61 = .ok (.iload 6, 2) := by decide +kernel
theorem dX6_sinkLastPlace_63 : decode cX6_sinkLastPlace 63 = .ok (.if_icmp .le 25, 3) := by decide +kernel
theorem dX6_sinkLastPlace_66 : decode cX6_sinkLastPlace 66 = .ok (.aload_n 0, 1) := by decide +kernel
theorem dX6_sinkLastPlace_67 : decode cX6_sinkLastPlace 67 = .ok (.getfield 13, 3) := by decide +kernel
theorem dX6_sinkLastPlace_70 : decode cX6_sinkLastPlace 70 = .ok (.iload 4, 2) := by decide +kernel
theorem dX6_sinkLastPlace_72 : decode cX6_sinkLastPlace 72 = .ok (.aload_n 0, 1) := by decide +kernel
theorem dX6_sinkLastPlace_73 : decode cX6_sinkLastPlace 73 = .ok (.getfield 13, 3) := by decide +kernel
theorem dX6_sinkLastPlace_76 : decode cX6_sinkLastPlace 76 = .ok (.iload 4, 2) := by decide +kernel
theorem dX6_sinkLastPlace_78 : decode cX6_sinkLastPlace 78 = .ok (.iconst 1, 1) := by decide +kernel
theorem dX6_sinkLastPlace_79 : decode cX6_sinkLastPlace 79 = .ok (.isub, 1) := by decide +kernel
theorem dX6_sinkLastPlace_80 : decode cX6_sinkLastPlace 80 = .ok (.iaload, 1) := by decide +kernel
theorem dX6_sinkLastPlace_81 : decode cX6_sinkLastPlace 81 = .ok (.iastore, 1) := by decide +kernel
theorem dX6_sinkLastPlace_82 : decode cX6_sinkLastPlace 82 = .ok (.iinc 4 (-1), 3) := by decide +kernel
theorem dX6_sinkLastPlace_85 : decode cX6_sinkLastPlace 85 = .ok (.goto (-44), 3) := by decide +kernel
theorem dX6_sinkLastPlace_88 : decode cX6_sinkLastPlace 88 = .ok (.aload_n 0, 1) := by decide +kernel
theorem dX6_sinkLastPlace_89 : decode cX6_sinkLastPlace 89 = .ok (.getfield 13, 3) := by decide +kernel
theorem dX6_sinkLastPlace_92 : decode cX6_sinkLastPlace 92 = .ok (.iload 4, 2) := by decide +kernel
theorem dX6_sinkLastPlace_94 : decode cX6_sinkLastPlace 94 = .ok (.iload 5, 2) := by decide +kernel
theorem dX6_sinkLastPlace_96 : decode cX6_sinkLastPlace 96 = .ok (.iastore, 1) := by decide +kernel
theorem dX6_sinkLastPlace_97 : decode cX6_sinkLastPlace 97 = .ok (.return_, 1) := by decide +kernel
theorem dX6_keepAnswer_0 : decode cX6_keepAnswer 0 = .ok (.aload_n 0, 1) := by decide +kernel
theorem dX6_keepAnswer_1 : decode cX6_keepAnswer 1 = .ok (.getfield 38, 3) := by decide +kernel
theorem dX6_keepAnswer_4 : decode cX6_keepAnswer 4 = .ok (.iconst 4, 1) := by decide +kernel
theorem dX6_keepAnswer_5 : decode cX6_keepAnswer 5 = .ok (.imul, 1) := by decide +kernel
theorem dX6_keepAnswer_6 : decode cX6_keepAnswer 6 = .ok (.istore_n 2, 1) := by decide +kernel
theorem dX6_keepAnswer_7 : decode cX6_keepAnswer 7 = .ok (.iconst 0, 1) := by decide +kernel
theorem dX6_keepAnswer_8 : decode cX6_keepAnswer 8 = .ok (.istore_n 3, 1) := by decide +kernel
theorem dX6_keepAnswer_9 : decode cX6_keepAnswer 9 = .ok (.iload_n 3, 1) := by decide +kernel
theorem dX6_keepAnswer_10 : decode cX6_keepAnswer 10 = .ok (.aload_n 1, 1) := by decide +kernel
theorem dX6_keepAnswer_11 : decode cX6_keepAnswer 11 = .ok (.getfield 165, 3) := by decide +kernel
theorem dX6_keepAnswer_14 : decode cX6_keepAnswer 14 = .ok (.if_icmp .ge 40, 3) := by decide +kernel
theorem dX6_keepAnswer_17 : decode cX6_keepAnswer 17 = .ok (.aload_n 1, 1) := by decide +kernel
theorem dX6_keepAnswer_18 : decode cX6_keepAnswer 18 = .ok (.getfield 168, 3) := by decide +kernel
theorem dX6_keepAnswer_21 : decode cX6_keepAnswer 21 = .ok (.iload_n 3, 1) := by decide +kernel
theorem dX6_keepAnswer_22 : decode cX6_keepAnswer 22 = .ok (.aaload, 1) := by decide +kernel
theorem dX6_keepAnswer_23 : decode cX6_keepAnswer 23 = .ok (.astore 4, 2) := by decide +kernel
theorem dX6_keepAnswer_25 : decode cX6_keepAnswer 25 = .ok (.aload_n 0, 1) := by decide +kernel
theorem dX6_keepAnswer_26 : decode cX6_keepAnswer 26 = .ok (.getfield 28, 3) := by decide +kernel
theorem dX6_keepAnswer_29 : decode cX6_keepAnswer 29 = .ok (.iload_n 2, 1) := by decide +kernel
theorem dX6_keepAnswer_30 : decode cX6_keepAnswer 30 = .ok (.iload_n 3, 1) := by decide +kernel
theorem dX6_keepAnswer_31 : decode cX6_keepAnswer 31 = .ok (.iadd, 1) := by decide +kernel
theorem dX6_keepAnswer_32 : decode cX6_keepAnswer 32 = .ok (.aload_n 0, 1) := by decide +kernel
theorem dX6_keepAnswer_33 : decode cX6_keepAnswer 33 = .ok (.aload_n 1, 1) := by decide +kernel
theorem dX6_keepAnswer_34 : decode cX6_keepAnswer 34 = .ok (.aload 4, 2) := by decide +kernel
theorem dX6_keepAnswer_36 : decode cX6_keepAnswer 36 = .ok (.getfield 172, 3) := by decide +kernel
theorem dX6_keepAnswer_39 : decode cX6_keepAnswer 39 = .ok (.aload 4, 2) := by decide +kernel
theorem dX6_keepAnswer_41 : decode cX6_keepAnswer 41 = .ok (.getfield 175, 3) := by decide +kernel
theorem dX6_keepAnswer_44 : decode cX6_keepAnswer 44 = .ok (.invokevirtual 89, 3) := by decide +kernel
theorem dX6_keepAnswer_47 : decode cX6_keepAnswer 47 = .ok (.iastore, 1) := by decide +kernel
theorem dX6_keepAnswer_48 : decode cX6_keepAnswer 48 = .ok (.iinc 3 1, 3) := by decide +kernel
theorem dX6_keepAnswer_51 : decode cX6_keepAnswer 51 = .ok (.goto (-42), 3) := by decide +kernel
theorem dX6_keepAnswer_54 : decode cX6_keepAnswer 54 = .ok (.aload_n 0, 1) := by decide +kernel
theorem dX6_keepAnswer_55 : decode cX6_keepAnswer 55 = .ok (.getfield 38, 3) := by decide +kernel
theorem dX6_keepAnswer_58 : decode cX6_keepAnswer 58 = .ok (.istore_n 3, 1) := by decide +kernel
theorem dX6_keepAnswer_59 : decode cX6_keepAnswer 59 = .ok (.iload_n 3, 1) := by decide +kernel
theorem dX6_keepAnswer_60 : decode cX6_keepAnswer 60 = .ok (.ifCond .le 50, 3) := by decide +kernel
theorem dX6_keepAnswer_63 : decode cX6_keepAnswer 63 = .ok (.aload_n 1, 1) := by decide +kernel
theorem dX6_keepAnswer_64 : decode cX6_keepAnswer 64 = .ok (.invokevirtual 176, 3) := by decide +kernel
theorem dX6_keepAnswer_67 : decode cX6_keepAnswer 67 = .ok (.ifCond .eq 43, 3) := by decide +kernel
theorem dX6_keepAnswer_70 : decode cX6_keepAnswer 70 = .ok (.aload_n 0, 1) := by decide +kernel
theorem dX6_keepAnswer_71 : decode cX6_keepAnswer 71 = .ok (.aload_n 1, 1) := by decide +kernel
theorem dX6_keepAnswer_72 : decode cX6_keepAnswer 72 = .ok (.aload_n 0, 1) := by decide +kernel
theorem dX6_keepAnswer_73 : decode cX6_keepAnswer 73 = .ok (.getfield 38, 3) := by decide +kernel
theorem dX6_keepAnswer_76 : decode cX6_keepAnswer 76 = .ok (.aload_n 0, 1) := by decide +kernel
theorem dX6_keepAnswer_77 : decode cX6_keepAnswer 77 = .ok (.getfield 31, 3) := by decide +kernel
theorem dX6_keepAnswer_80 : decode cX6_keepAnswer 80 = .ok (.iload_n 3, 1) := by decide +kernel
theorem dX6_keepAnswer_81 : decode cX6_keepAnswer 81 = .ok (.iconst 1, 1) := by decide +kernel
theorem dX6_keepAnswer_82 : decode cX6_keepAnswer 82 = .ok (.isub, 1) := by decide +kernel
theorem dX6_keepAnswer_83 : decode cX6_keepAnswer 83 = .ok (.iaload, 1) := by decide +kernel
theorem dX6_keepAnswer_84 : decode cX6_keepAnswer 84 = .ok (.invokevirtual 180, 3) := by decide +kernel
theorem dX6_keepAnswer_87 : decode cX6_keepAnswer 87 = .ok (.ifCond .eq 23, 3) := by decide +kernel
theorem dX6_keepAnswer_90 : decode cX6_keepAnswer 90 = .ok (.aload_n 0, 1) := by decide +kernel
theorem dX6_keepAnswer_91 : decode cX6_keepAnswer 91 = .ok (.getfield 31, 3) := by decide +kernel
theorem dX6_keepAnswer_94 : decode cX6_keepAnswer 94 = .ok (.iload_n 3, 1) := by decide +kernel
theorem dX6_keepAnswer_95 : decode cX6_keepAnswer 95 = .ok (.aload_n 0, 1) := by decide +kernel
theorem dX6_keepAnswer_96 : decode cX6_keepAnswer 96 = .ok (.getfield 31, 3) := by decide +kernel
theorem dX6_keepAnswer_99 : decode cX6_keepAnswer 99 = .ok (.iload_n 3, 1) := by decide +kernel
theorem dX6_keepAnswer_100 : decode cX6_keepAnswer 100 = .ok (.iconst 1, 1) := by decide +kernel
theorem dX6_keepAnswer_101 : decode cX6_keepAnswer 101 = .ok (.isub, 1) := by decide +kernel
theorem dX6_keepAnswer_102 : decode cX6_keepAnswer 102 = .ok (.iaload, 1) := by decide +kernel
theorem dX6_keepAnswer_103 : decode cX6_keepAnswer 103 = .ok (.iastore, 1) := by decide +kernel
theorem dX6_keepAnswer_104 : decode cX6_keepAnswer 104 = .ok (.iinc 3 (-1), 3) := by decide +kernel
theorem dX6_keepAnswer_107 : decode cX6_keepAnswer 107 = .ok (.goto (-48), 3) := by decide +kernel
theorem dX6_keepAnswer_110 : decode cX6_keepAnswer 110 = .ok (.aload_n 0, 1) := by decide +kernel
theorem dX6_keepAnswer_111 : decode cX6_keepAnswer 111 = .ok (.getfield 31, 3) := by decide +kernel
theorem dX6_keepAnswer_114 : decode cX6_keepAnswer 114 = .ok (.iload_n 3, 1) := by decide +kernel
theorem dX6_keepAnswer_115 : decode cX6_keepAnswer 115 = .ok (.aload_n 0, 1) := by decide +kernel
theorem dX6_keepAnswer_116 : decode cX6_keepAnswer 116 = .ok (.getfield 38, 3) := by decide +kernel
theorem dX6_keepAnswer_119 : decode cX6_keepAnswer 119 = .ok (.iastore, 1) := by decide +kernel
theorem dX6_keepAnswer_120 : decode cX6_keepAnswer 120 = .ok (.aload_n 0, 1) := by decide +kernel
theorem dX6_keepAnswer_121 : decode cX6_keepAnswer 121 = .ok (.dup, 1) := by decide +kernel
theorem dX6_keepAnswer_122 : decode cX6_keepAnswer 122 = .ok (.getfield 38, 3) := by decide +kernel
theorem dX6_keepAnswer_125 : decode cX6_keepAnswer 125 = .ok (.iconst 1, 1) := by decide +kernel
theorem dX6_keepAnswer_126 : decode cX6_keepAnswer 126 = .ok (.iadd, 1) := by decide +kernel
theorem dX6_keepAnswer_127 : decode cX6_keepAnswer 127 = .ok (.putfield 38, 3) := by decide +kernel
theorem dX6_keepAnswer_130 : decode cX6_keepAnswer 130 = .ok (.return_, 1) := by decide +kernel
theorem dX6_goesBefore_0 : decode cX6_goesBefore 0 = .ok (.aload_n 0, 1) := by decide +kernel
theorem dX6_goesBefore_1 : decode cX6_goesBefore 1 = .ok (.getfield 28, 3) := by decide +kernel
theorem dX6_goesBefore_4 : decode cX6_goesBefore 4 = .ok (.iload_n 2, 1) := by decide +kernel
theorem dX6_goesBefore_5 : decode cX6_goesBefore 5 = .ok (.iconst 4, 1) := by decide +kernel
theorem dX6_goesBefore_6 : decode cX6_goesBefore 6 = .ok (.imul, 1) := by decide +kernel
theorem dX6_goesBefore_7 : decode cX6_goesBefore 7 = .ok (.aload_n 1, 1) := by decide +kernel
theorem dX6_goesBefore_8 : decode cX6_goesBefore 8 = .ok (.getfield 184, 3) := by decide +kernel
theorem dX6_goesBefore_11 : decode cX6_goesBefore 11 = .ok (.iadd, 1) := by decide +kernel
theorem dX6_goesBefore_12 : decode cX6_goesBefore 12 = .ok (.iaload, 1) := by decide +kernel
theorem dX6_goesBefore_13 : decode cX6_goesBefore 13 = .ok (.istore 4, 2) := by decide +kernel
theorem dX6_goesBefore_15 : decode cX6_goesBefore 15 = .ok (.aload_n 0, 1) := by decide +kernel
theorem dX6_goesBefore_16 : decode cX6_goesBefore 16 = .ok (.getfield 28, 3) := by decide +kernel
theorem dX6_goesBefore_19 : decode cX6_goesBefore 19 = .ok (.iload_n 3, 1) := by decide +kernel
theorem dX6_goesBefore_20 : decode cX6_goesBefore 20 = .ok (.iconst 4, 1) := by decide +kernel
theorem dX6_goesBefore_21 : decode cX6_goesBefore 21 = .ok (.imul, 1) := by decide +kernel
theorem dX6_goesBefore_22 : decode cX6_goesBefore 22 = .ok (.aload_n 1, 1) := by decide +kernel
theorem dX6_goesBefore_23 : decode cX6_goesBefore 23 = .ok (.getfield 184, 3) := by decide +kernel
theorem dX6_goesBefore_26 : decode cX6_goesBefore 26 = .ok (.iadd, 1) := by decide +kernel
theorem dX6_goesBefore_27 : decode cX6_goesBefore 27 = .ok (.iaload, 1) := by decide +kernel
theorem dX6_goesBefore_28 : decode cX6_goesBefore 28 = .ok (.istore 5, 2) := by decide +kernel
theorem dX6_goesBefore_30 : decode cX6_goesBefore 30 = .ok (.aload_n 1, 1) := by decide +kernel
theorem dX6_goesBefore_31 : decode cX6_goesBefore 31 = .ok (.getfield 187, 3) := by decide +kernel
theorem dX6_goesBefore_34 : decode cX6_goesBefore 34 = .ok (.ifCond .eq 18, 3) := by decide +kernel
theorem dX6_goesBefore_37 : decode cX6_goesBefore 37 = .ok (.iload 4, 2) := by decide +kernel
theorem dX6_goesBefore_39 : decode cX6_goesBefore 39 = .ok (.iload 5, 2) := by decide +kernel
theorem dX6_goesBefore_41 : decode cX6_goesBefore 41 = .ok (.if_icmp .le 7, 3) := by decide +kernel
theorem dX6_goesBefore_44 : decode cX6_goesBefore 44 = .ok (.iconst 1, 1) := by decide +kernel
theorem dX6_goesBefore_45 : decode cX6_goesBefore 45 = .ok (.goto 19, 3) := by decide +kernel
theorem dX6_goesBefore_48 : decode cX6_goesBefore 48 = .ok (.iconst 0, 1) := by decide +kernel
theorem dX6_goesBefore_49 : decode cX6_goesBefore 49 = .ok (.goto 15, 3) := by decide +kernel
theorem dX6_goesBefore_52 : decode cX6_goesBefore 52 = .ok (.iload 4, 2) := by decide +kernel
theorem dX6_goesBefore_54 : decode cX6_goesBefore 54 = .ok (.iload 5, 2) := by decide +kernel
theorem dX6_goesBefore_56 : decode cX6_goesBefore 56 = .ok (.if_icmp .ge 7, 3) := by decide +kernel
theorem dX6_goesBefore_59 : decode cX6_goesBefore 59 = .ok (.iconst 1, 1) := by decide +kernel
theorem dX6_goesBefore_60 : decode cX6_goesBefore 60 = .ok (.goto 4, 3) := by decide +kernel
theorem dX6_goesBefore_63 : decode cX6_goesBefore 63 = .ok (.iconst 0, 1) := by decide +kernel
theorem dX6_goesBefore_64 : decode cX6_goesBefore 64 = .ok (.ireturn, 1) := by decide +kernel
