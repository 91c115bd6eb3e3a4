theorem dX7_init_0 : decode cX7_init 0 = .ok (.aload_n 0, 1) := by decide +kernel
theorem dX7_init_1 : decode cX7_init 1 = .ok (.invokespecial 1, 3) := by decide +kernel
theorem dX7_init_4 : decode cX7_init 4 = .ok (.aload_n 0, 1) := by decide +kernel
theorem dX7_init_5 : decode cX7_init 5 = .ok (.iconst 3, 1) := by decide +kernel
theorem dX7_init_6 : decode cX7_init 6 = .ok (.anewarray 9, 3) := by decide +kernel
theorem dX7_init_9 : decode cX7_init 9 = .ok (.putfield 11, 3) := by decide +kernel
theorem dX7_init_12 : decode cX7_init 12 = .ok (.iconst 0, 1) := by decide +kernel
theorem dX7_init_13 : decode cX7_init 13 = .ok (.istore_n 1, 1) := by decide +kernel
theorem dX7_init_14 : decode cX7_init 14 = .ok (.iload_n 1, 1) := by decide +kernel
theorem dX7_init_15 : decode cX7_init 15 = .ok (.iconst 3, 1) := by decide +kernel
theorem dX7_init_16 : decode cX7_init 16 = .ok (.if_icmp .ge 22, 3) := by decide +kernel
theorem dX7_init_19 : decode cX7_init 19 = .ok (.aload_n 0, 1) := by decide +kernel
theorem dX7_init_20 : decode cX7_init 20 = .ok (.getfield 11, 3) := by decide +kernel
theorem dX7_init_23 : decode cX7_init 23 = .ok (.iload_n 1, 1) := by decide +kernel
theorem dX7_init_24 : decode cX7_init 24 = .ok (.new 9, 3) := by decide +kernel
theorem dX7_init_27 : decode cX7_init 27 = .ok (.dup, 1) := by decide +kernel
theorem dX7_init_28 : decode cX7_init 28 = .ok (.invokespecial 15, 3) := by decide +kernel
theorem dX7_init_31 : decode cX7_init 31 = .ok (.aastore, 1) := by decide +kernel
theorem dX7_init_32 : decode cX7_init 32 = .ok (.iinc 1 1, 3) := by decide +kernel
theorem dX7_init_35 : decode cX7_init 35 = .ok (.goto (-21), 3) := by decide +kernel
theorem dX7_init_38 : decode cX7_init 38 = .ok (.aload_n 0, 1) := by decide +kernel
theorem dX7_init_39 : decode cX7_init 39 = .ok (.new 16, 3) := by decide +kernel
theorem dX7_init_42 : decode cX7_init 42 = .ok (.dup, 1) := by decide +kernel
theorem dX7_init_43 : decode cX7_init 43 = .ok (.invokespecial 18, 3) := by decide +kernel
theorem dX7_init_46 : decode cX7_init 46 = .ok (.putfield 19, 3) := by decide +kernel
theorem dX7_init_49 : decode cX7_init 49 = .ok (.aload_n 0, 1) := by decide +kernel
theorem dX7_init_50 : decode cX7_init 50 = .ok (.new 23, 3) := by decide +kernel
theorem dX7_init_53 : decode cX7_init 53 = .ok (.dup, 1) := by decide +kernel
theorem dX7_init_54 : decode cX7_init 54 = .ok (.invokespecial 25, 3) := by decide +kernel
theorem dX7_init_57 : decode cX7_init 57 = .ok (.putfield 26, 3) := by decide +kernel
theorem dX7_init_60 : decode cX7_init 60 = .ok (.aload_n 0, 1) := by decide +kernel
theorem dX7_init_61 : decode cX7_init 61 = .ok (.new 30, 3) := by decide +kernel
theorem dX7_init_64 : decode cX7_init 64 = .ok (.dup, 1) := by decide +kernel
theorem dX7_init_65 : decode cX7_init 65 = .ok (.invokespecial 32, 3) := by decide +kernel
theorem dX7_init_68 : decode cX7_init 68 = .ok (.putfield 33, 3) := by decide +kernel
theorem dX7_init_71 : decode cX7_init 71 = .ok (.aload_n 0, 1) := by decide +kernel
theorem dX7_init_72 : decode cX7_init 72 = .ok (.iconst 0, 1) := by decide +kernel
theorem dX7_init_73 : decode cX7_init 73 = .ok (.putfield 37, 3) := by decide +kernel
theorem dX7_init_76 : decode cX7_init 76 = .ok (.return_, 1) := by decide +kernel
theorem dX7_create_0 : decode cX7_create 0 = .ok (.iload_n 1, 1) := by decide +kernel
theorem dX7_create_1 : decode cX7_create 1 = .ok (.ifCond .lt 18, 3) := by decide +kernel
theorem dX7_create_4 : decode cX7_create 4 = .ok (.iload_n 1, 1) := by decide +kernel
theorem dX7_create_5 : decode cX7_create 5 = .ok (.iconst 3, 1) := by decide +kernel
theorem dX7_create_6 : decode cX7_create 6 = .ok (.if_icmp .ge 13, 3) := by decide +kernel
theorem dX7_create_9 : decode cX7_create 9 = .ok (.iload_n 2, 1) := by decide +kernel
theorem dX7_create_10 : decode cX7_create 10 = .ok (.iconst 1, 1) := by decide +kernel
theorem dX7_create_11 : decode cX7_create 11 = .ok (.if_icmp .lt 8, 3) := by decide +kernel
theorem dX7_create_14 : decode cX7_create 14 = .ok (.iload_n 2, 1) := by decide +kernel
theorem dX7_create_15 : decode cX7_create 15 = .ok (.iconst 4, 1) := by decide +kernel
theorem dX7_create_16 : decode cX7_create 16 = .ok (.if_icmp .le 5, 3) := by decide +kernel
theorem dX7_create_19 : decode cX7_create 19 = .ok (.iconst 0, 1) := by decide +kernel
theorem dX7_create_20 : decode cX7_create 20 = .ok (.ireturn, 1) := by decide +kernel
theorem dX7_create_21 : decode cX7_create 21 = .ok (.aload_n 0, 1) := by decide +kernel
theorem dX7_create_22 : decode cX7_create 22 = .ok (.getfield 11, 3) := by decide +kernel
theorem dX7_create_25 : decode cX7_create 25 = .ok (.iload_n 1, 1) := by decide +kernel
theorem dX7_create_26 : decode cX7_create 26 = .ok (.aaload, 1) := by decide +kernel
theorem dX7_create_27 : decode cX7_create 27 = .ok (.iload_n 2, 1) := by decide +kernel
theorem dX7_create_28 : decode cX7_create 28 = .ok (.invokevirtual 41, 3) := by decide +kernel
theorem dX7_create_31 : decode cX7_create 31 = .ok (.aload_n 0, 1) := by decide +kernel
theorem dX7_create_32 : decode cX7_create 32 = .ok (.invokevirtual 45, 3) := by decide +kernel
theorem dX7_create_35 : decode cX7_create 35 = .ok (.iconst 1, 1) := by decide +kernel
theorem dX7_create_36 : decode cX7_create 36 = .ok (.ireturn, 1) := by decide +kernel
theorem dX7_insert_0 : decode cX7_insert 0 = .ok (.aload_n 0, 1) := by decide +kernel
theorem dX7_insert_1 : decode cX7_insert 1 = .ok (.iload_n 1, 1) := by decide +kernel
theorem dX7_insert_2 : decode cX7_insert 2 = .ok (.invokevirtual 48, 3) := by decide +kernel
theorem dX7_insert_5 : decode cX7_insert 5 = .ok (.ifCond .ne 13, 3) := by decide +kernel
theorem dX7_insert_8 : decode cX7_insert 8 = .ok (.new 52, 3) := by decide +kernel
theorem dX7_insert_11 : decode cX7_insert 11 = .ok (.dup, 1) := by decide +kernel
theorem dX7_insert_12 : decode cX7_insert 12 = .ok (.ldc 54, 2) := by decide +kernel
theorem dX7_insert_14 : decode cX7_insert 14 = .ok (.invokespecial 56, 3) := by decide +kernel
theorem dX7_insert_17 : decode cX7_insert 17 = .ok (.athrow, 1) := by decide +kernel
theorem dX7_insert_18 : decode cX7_insert 18 = .ok (.aload_n 0, 1) := by decide +kernel
theorem dX7_insert_19 : decode cX7_insert 19 = .ok (.getfield 11, 3) := by decide +kernel
theorem dX7_insert_22 : decode cX7_insert 22 = .ok (.iload_n 1, 1) := by decide +kernel
theorem dX7_insert_23 : decode cX7_insert 23 = .ok (.aaload, 1) := by decide +kernel
theorem dX7_insert_24 : decode cX7_insert 24 = .ok (.invokevirtual 59, 3) := by decide +kernel
theorem dX7_insert_27 : decode cX7_insert 27 = .ok (.ifCond .eq 13, 3) := by decide +kernel
theorem dX7_insert_30 : decode cX7_insert 30 = .ok (.new 63, 3) := by decide +kernel
theorem dX7_insert_33 : decode cX7_insert 33 = .ok (.dup, 1) := by decide +kernel
theorem dX7_insert_34 : decode cX7_insert 34 = .ok (.ldc 65, 2) := by decide +kernel
theorem dX7_insert_36 : decode cX7_insert 36 = .ok (.invokespecial 67, 3) := by decide +kernel
theorem dX7_insert_39 : decode cX7_insert 39 = .ok (.athrow, 1) := by decide +kernel
theorem dX7_insert_40 : decode cX7_insert 40 = .ok (.aload_n 0, 1) := by decide +kernel
theorem dX7_insert_41 : decode cX7_insert 41 = .ok (.invokevirtual 68, 3) := by decide +kernel
theorem dX7_insert_44 : decode cX7_insert 44 = .ok (.aload_n 0, 1) := by decide +kernel
theorem dX7_insert_45 : decode cX7_insert 45 = .ok (.getfield 11, 3) := by decide +kernel
theorem dX7_insert_48 : decode cX7_insert 48 = .ok (.iload_n 1, 1) := by decide +kernel
theorem dX7_insert_49 : decode cX7_insert 49 = .ok (.aaload, 1) := by decide +kernel
theorem dX7_insert_50 : decode cX7_insert 50 = .ok (.iload_n 2, 1) := by decide +kernel
theorem dX7_insert_51 : decode cX7_insert 51 = .ok (.iload_n 3, 1) := by decide +kernel
theorem dX7_insert_52 : decode cX7_insert 52 = .ok (.iload 4, 2) := by decide +kernel
theorem dX7_insert_54 : decode cX7_insert 54 = .ok (.iload 5, 2) := by decide +kernel
theorem dX7_insert_56 : decode cX7_insert 56 = .ok (.invokevirtual 71, 3) := by decide +kernel
theorem dX7_insert_59 : decode cX7_insert 59 = .ok (.ireturn, 1) := by decide +kernel
theorem dX7_delete_0 : decode cX7_delete 0 = .ok (.aload_n 0, 1) := by decide +kernel
theorem dX7_delete_1 : decode cX7_delete 1 = .ok (.iload_n 1, 1) := by decide +kernel
theorem dX7_delete_2 : decode cX7_delete 2 = .ok (.iload_n 2, 1) := by decide +kernel
theorem dX7_delete_3 : decode cX7_delete 3 = .ok (.invokevirtual 75, 3) := by decide +kernel
theorem dX7_delete_6 : decode cX7_delete 6 = .ok (.ifCond .ne 13, 3) := by decide +kernel
theorem dX7_delete_9 : decode cX7_delete 9 = .ok (.new 52, 3) := by decide +kernel
theorem dX7_delete_12 : decode cX7_delete 12 = .ok (.dup, 1) := by decide +kernel
theorem dX7_delete_13 : decode cX7_delete 13 = .ok (.ldc 79, 2) := by decide +kernel
theorem dX7_delete_15 : decode cX7_delete 15 = .ok (.invokespecial 56, 3) := by decide +kernel
theorem dX7_delete_18 : decode cX7_delete 18 = .ok (.athrow, 1) := by decide +kernel
theorem dX7_delete_19 : decode cX7_delete 19 = .ok (.aload_n 0, 1) := by decide +kernel
theorem dX7_delete_20 : decode cX7_delete 20 = .ok (.invokevirtual 68, 3) := by decide +kernel
theorem dX7_delete_23 : decode cX7_delete 23 = .ok (.aload_n 0, 1) := by decide +kernel
theorem dX7_delete_24 : decode cX7_delete 24 = .ok (.getfield 11, 3) := by decide +kernel
theorem dX7_delete_27 : decode cX7_delete 27 = .ok (.iload_n 1, 1) := by decide +kernel
theorem dX7_delete_28 : decode cX7_delete 28 = .ok (.aaload, 1) := by decide +kernel
theorem dX7_delete_29 : decode cX7_delete 29 = .ok (.aload_n 0, 1) := by decide +kernel
theorem dX7_delete_30 : decode cX7_delete 30 = .ok (.getfield 11, 3) := by decide +kernel
theorem dX7_delete_33 : decode cX7_delete 33 = .ok (.iload_n 1, 1) := by decide +kernel
theorem dX7_delete_34 : decode cX7_delete 34 = .ok (.aaload, 1) := by decide +kernel
theorem dX7_delete_35 : decode cX7_delete 35 = .ok (.iload_n 2, 1) := by decide +kernel
theorem dX7_delete_36 : decode cX7_delete 36 = .ok (.invokevirtual 81, 3) := by decide +kernel
theorem dX7_delete_39 : decode cX7_delete 39 = .ok (.invokevirtual 85, 3) := by decide +kernel
theorem dX7_delete_42 : decode cX7_delete 42 = .ok (.return_, 1) := by decide +kernel
theorem dX7_update_0 : decode cX7_update 0 = .ok (.aload_n 0, 1) := by decide +kernel
theorem dX7_update_1 : decode cX7_update 1 = .ok (.iload_n 1, 1) := by decide +kernel
theorem dX7_update_2 : decode cX7_update 2 = .ok (.iload_n 2, 1) := by decide +kernel
theorem dX7_update_3 : decode cX7_update 3 = .ok (.invokevirtual 75, 3) := by decide +kernel
theorem dX7_update_6 : decode cX7_update 6 = .ok (.ifCond .eq 12, 3) := by decide +kernel
theorem dX7_update_9 : decode cX7_update 9 = .ok (.aload_n 0, 1) := by decide +kernel
theorem dX7_update_10 : decode cX7_update 10 = .ok (.iload_n 1, 1) := by decide +kernel
theorem dX7_update_11 : decode cX7_update 11 = .ok (.iload_n 3, 1) := by decide +kernel
theorem dX7_update_12 : decode cX7_update 12 = .ok (.invokevirtual 88, 3) := by decide +kernel
theorem dX7_update_15 : decode cX7_update 15 = .ok (.ifCond .ne 13, 3) := by decide +kernel
theorem dX7_update_18 : decode cX7_update 18 = .ok (.new 52, 3) := by decide +kernel
theorem dX7_update_21 : decode cX7_update 21 = .ok (.dup, 1) := by decide +kernel
theorem dX7_update_22 : decode cX7_update 22 = .ok (.ldc 91, 2) := by decide +kernel
theorem dX7_update_24 : decode cX7_update 24 = .ok (.invokespecial 56, 3) := by decide +kernel
theorem dX7_update_27 : decode cX7_update 27 = .ok (.athrow, 1) := by decide +kernel
theorem dX7_update_28 : decode cX7_update 28 = .ok (.aload_n 0, 1) := by decide +kernel
theorem dX7_update_29 : decode cX7_update 29 = .ok (.invokevirtual 68, 3) := by decide +kernel
theorem dX7_update_32 : decode cX7_update 32 = .ok (.aload_n 0, 1) := by decide +kernel
theorem dX7_update_33 : decode cX7_update 33 = .ok (.getfield 11, 3) := by decide +kernel
theorem dX7_update_36 : decode cX7_update 36 = .ok (.iload_n 1, 1) := by decide +kernel
theorem dX7_update_37 : decode cX7_update 37 = .ok (.aaload, 1) := by decide +kernel
theorem dX7_update_38 : decode cX7_update 38 = .ok (.aload_n 0, 1) := by decide +kernel
theorem dX7_update_39 : decode cX7_update 39 = .ok (.getfield 11, 3) := by decide +kernel
theorem dX7_update_42 : decode cX7_update 42 = .ok (.iload_n 1, 1) := by decide +kernel
theorem dX7_update_43 : decode cX7_update 43 = .ok (.aaload, 1) := by decide +kernel
theorem dX7_update_44 : decode cX7_update 44 = .ok (.iload_n 2, 1) := by decide +kernel
theorem dX7_update_45 : decode cX7_update 45 = .ok (.invokevirtual 81, 3) := by decide +kernel
theorem dX7_update_48 : decode cX7_update 48 = .ok (.iload_n 3, 1) := by decide +kernel
theorem dX7_update_49 : decode cX7_update 49 = .ok (.iload 4, 2) := by decide +kernel
theorem dX7_update_51 : decode cX7_update 51 = .ok (.invokevirtual 93, 3) := by decide +kernel
theorem dX7_update_54 : decode cX7_update 54 = .ok (.return_, 1) := by decide +kernel
theorem dX7_cell_0 : decode cX7_cell 0 = .ok (.aload_n 0, 1) := by decide +kernel
theorem dX7_cell_1 : decode cX7_cell 1 = .ok (.iload_n 1, 1) := by decide +kernel
theorem dX7_cell_2 : decode cX7_cell 2 = .ok (.iload_n 2, 1) := by decide +kernel
theorem dX7_cell_3 : decode cX7_cell 3 = .ok (.invokevirtual 75, 3) := by decide +kernel
theorem dX7_cell_6 : decode cX7_cell 6 = .ok (.ifCond .eq 12, 3) := by decide +kernel
theorem dX7_cell_9 : decode cX7_cell 9 = .ok (.aload_n 0, 1) := by decide +kernel
theorem dX7_cell_10 : decode cX7_cell 10 = .ok (.iload_n 1, 1) := by decide +kernel
theorem dX7_cell_11 : decode cX7_cell 11 = .ok (.iload_n 3, 1) := by decide +kernel
theorem dX7_cell_12 : decode cX7_cell 12 = .ok (.invokevirtual 88, 3) := by decide +kernel
theorem dX7_cell_15 : decode cX7_cell 15 = .ok (.ifCond .ne 13, 3) := by decide +kernel
theorem dX7_cell_18 : decode cX7_cell 18 = .ok (.new 52, 3) := by decide +kernel
theorem dX7_cell_21 : decode cX7_cell 21 = .ok (.dup, 1) := by decide +kernel
theorem dX7_cell_22 : decode cX7_cell 22 = .ok (.ldc 91, 2) := by decide +kernel
theorem dX7_cell_24 : decode cX7_cell 24 = .ok (.invokespecial 56, 3) := by decide +kernel
theorem dX7_cell_27 : decode cX7_cell 27 = .ok (.athrow, 1) := by decide +kernel
theorem dX7_cell_28 : decode cX7_cell 28 = .ok (.aload_n 0, 1) := by decide +kernel
theorem dX7_cell_29 : decode cX7_cell 29 = .ok (.getfield 11, 3) := by decide +kernel
theorem dX7_cell_32 : decode cX7_cell 32 = .ok (.iload_n 1, 1) := by decide +kernel
theorem dX7_cell_33 : decode cX7_cell 33 = .ok (.aaload, 1) := by decide +kernel
theorem dX7_cell_34 : decode cX7_cell 34 = .ok (.aload_n 0, 1) := by decide +kernel
theorem dX7_cell_35 : decode cX7_cell 35 = .ok (.getfield 11, 3) := by decide +kernel
theorem dX7_cell_38 : decode cX7_cell 38 = .ok (.iload_n 1, 1) := by decide +kernel
theorem dX7_cell_39 : decode cX7_cell 39 = .ok (.aaload, 1) := by decide +kernel
theorem dX7_cell_40 : decode cX7_cell 40 = .ok (.iload_n 2, 1) := by decide +kernel
theorem dX7_cell_41 : decode cX7_cell 41 = .ok (.invokevirtual 81, 3) := by decide +kernel
theorem dX7_cell_44 : decode cX7_cell 44 = .ok (.iload_n 3, 1) := by decide +kernel
theorem dX7_cell_45 : decode cX7_cell 45 = .ok (.invokevirtual 97, 3) := by decide +kernel
theorem dX7_cell_48 : decode cX7_cell 48 = .ok (.ireturn, 1) := by decide +kernel
theorem dX7_index_0 : decode cX7_index 0 = .ok (.aload_n 0, 1) := by decide +kernel
theorem dX7_index_1 : decode cX7_index 1 = .ok (.iload_n 1, 1) := by decide +kernel
theorem dX7_index_2 : decode cX7_index 2 = .ok (.iload_n 2, 1) := by decide +kernel
theorem dX7_index_3 : decode cX7_index 3 = .ok (.invokevirtual 88, 3) := by decide +kernel
theorem dX7_index_6 : decode cX7_index 6 = .ok (.ifCond .eq 24, 3) := by decide +kernel
theorem dX7_index_9 : decode cX7_index 9 = .ok (.iload_n 3, 1) := by decide +kernel
theorem dX7_index_10 : decode cX7_index 10 = .ok (.invokestatic 101, 3) := by decide +kernel
theorem dX7_index_13 : decode cX7_index 13 = .ok (.ifCond .eq 17, 3) := by decide +kernel
theorem dX7_index_16 : decode cX7_index 16 = .ok (.aload_n 0, 1) := by decide +kernel
theorem dX7_index_17 : decode cX7_index 17 = .ok (.getfield 11, 3) := by decide +kernel
theorem dX7_index_20 : decode cX7_index 20 = .ok (.iload_n 1, 1) := by decide +kernel
theorem dX7_index_21 : decode cX7_index 21 = .ok (.aaload, 1) := by decide +kernel
theorem dX7_index_22 : decode cX7_index 22 = .ok (.iload_n 2, 1) := by decide +kernel
theorem dX7_index_23 : decode cX7_index 23 = .ok (.iload_n 3, 1) := by decide +kernel
theorem dX7_index_24 : decode cX7_index 24 = .ok (.invokevirtual 104, 3) := by decide +kernel
theorem dX7_index_27 : decode cX7_index 27 = .ok (.ifCond .eq 5, 3) := by decide +kernel
theorem dX7_index_30 : decode cX7_index 30 = .ok (.iconst 0, 1) := by decide +kernel
theorem dX7_index_31 : decode cX7_index 31 = .ok (.ireturn, 1) := by decide +kernel
theorem dX7_index_32 : decode cX7_index 32 = .ok (.aload_n 0, 1) := by decide +kernel
theorem dX7_index_33 : decode cX7_index 33 = .ok (.invokevirtual 68, 3) := by decide +kernel
theorem dX7_index_36 : decode cX7_index 36 = .ok (.aload_n 0, 1) := by decide +kernel
theorem dX7_index_37 : decode cX7_index 37 = .ok (.getfield 11, 3) := by decide +kernel
theorem dX7_index_40 : decode cX7_index 40 = .ok (.iload_n 1, 1) := by decide +kernel
theorem dX7_index_41 : decode cX7_index 41 = .ok (.aaload, 1) := by decide +kernel
theorem dX7_index_42 : decode cX7_index 42 = .ok (.iload_n 2, 1) := by decide +kernel
theorem dX7_index_43 : decode cX7_index 43 = .ok (.iload_n 3, 1) := by decide +kernel
theorem dX7_index_44 : decode cX7_index 44 = .ok (.iconst 1, 1) := by decide +kernel
theorem dX7_index_45 : decode cX7_index 45 = .ok (.invokevirtual 107, 3) := by decide +kernel
theorem dX7_index_48 : decode cX7_index 48 = .ok (.iconst 1, 1) := by decide +kernel
theorem dX7_index_49 : decode cX7_index 49 = .ok (.ireturn, 1) := by decide +kernel
theorem dX7_drop_0 : decode cX7_drop 0 = .ok (.aload_n 0, 1) := by decide +kernel
theorem dX7_drop_1 : decode cX7_drop 1 = .ok (.iload_n 1, 1) := by decide +kernel
theorem dX7_drop_2 : decode cX7_drop 2 = .ok (.iload_n 2, 1) := by decide +kernel
theorem dX7_drop_3 : decode cX7_drop 3 = .ok (.invokevirtual 88, 3) := by decide +kernel
theorem dX7_drop_6 : decode cX7_drop 6 = .ok (.ifCond .eq 24, 3) := by decide +kernel
theorem dX7_drop_9 : decode cX7_drop 9 = .ok (.iload_n 3, 1) := by decide +kernel
theorem dX7_drop_10 : decode cX7_drop 10 = .ok (.invokestatic 101, 3) := by decide +kernel
theorem dX7_drop_13 : decode cX7_drop 13 = .ok (.ifCond .eq 17, 3) := by decide +kernel
theorem dX7_drop_16 : decode cX7_drop 16 = .ok (.aload_n 0, 1) := by decide +kernel
theorem dX7_drop_17 : decode cX7_drop 17 = .ok (.getfield 11, 3) := by decide +kernel
theorem dX7_drop_20 : decode cX7_drop 20 = .ok (.iload_n 1, 1) := by decide +kernel
theorem dX7_drop_21 : decode cX7_drop 21 = .ok (.aaload, 1) := by decide +kernel
theorem dX7_drop_22 : decode cX7_drop 22 = .ok (.iload_n 2, 1) := by decide +kernel
theorem dX7_drop_23 : decode cX7_drop 23 = .ok (.iload_n 3, 1) := by decide +kernel
theorem dX7_drop_24 : decode cX7_drop 24 = .ok (.invokevirtual 104, 3) := by decide +kernel
theorem dX7_drop_27 : decode cX7_drop 27 = .ok (.ifCond .ne 5, 3) := by decide +kernel
theorem dX7_drop_30 : decode cX7_drop 30 = .ok (.iconst 0, 1) := by decide +kernel
theorem dX7_drop_31 : decode cX7_drop 31 = .ok (.ireturn, 1) := by decide +kernel
theorem dX7_drop_32 : decode cX7_drop 32 = .ok (.aload_n 0, 1) := by decide +kernel
theorem dX7_drop_33 : decode cX7_drop 33 = .ok (.invokevirtual 68, 3) := by decide +kernel
theorem dX7_drop_36 : decode cX7_drop 36 = .ok (.aload_n 0, 1) := by decide +kernel
theorem dX7_drop_37 : decode cX7_drop 37 = .ok (.getfield 11, 3) := by decide +kernel
theorem dX7_drop_40 : decode cX7_drop 40 = .ok (.iload_n 1, 1) := by decide +kernel
theorem dX7_drop_41 : decode cX7_drop 41 = .ok (.aaload, 1) := by decide +kernel
theorem dX7_drop_42 : decode cX7_drop 42 = .ok (.iload_n 2, 1) := by decide +kernel
theorem dX7_drop_43 : decode cX7_drop 43 = .ok (.iload_n 3, 1) := by decide +kernel
theorem dX7_drop_44 : decode cX7_drop 44 = .ok (.iconst 0, 1) := by decide +kernel
theorem dX7_drop_45 : decode cX7_drop 45 = .ok (.invokevirtual 107, 3) := by decide +kernel
theorem dX7_drop_48 : decode cX7_drop 48 = .ok (.iconst 1, 1) := by decide +kernel
theorem dX7_drop_49 : decode cX7_drop 49 = .ok (.ireturn, 1) := by decide +kernel
theorem dX7_ask_0 : decode cX7_ask 0 = .ok (.aload_n 0, 1) := by decide +kernel
theorem dX7_ask_1 : decode cX7_ask 1 = .ok (.invokevirtual 45, 3) := by decide +kernel
theorem dX7_ask_4 : decode cX7_ask 4 = .ok (.return_, 1) := by decide +kernel
theorem dX7_from_0 : decode cX7_from 0 = .ok (.aload_n 0, 1) := by decide +kernel
theorem dX7_from_1 : decode cX7_from 1 = .ok (.getfield 37, 3) := by decide +kernel
theorem dX7_from_4 : decode cX7_from 4 = .ok (.ifCond .ne 22, 3) := by decide +kernel
theorem dX7_from_7 : decode cX7_from 7 = .ok (.aload_n 0, 1) := by decide +kernel
theorem dX7_from_8 : decode cX7_from 8 = .ok (.iload_n 1, 1) := by decide +kernel
theorem dX7_from_9 : decode cX7_from 9 = .ok (.invokevirtual 48, 3) := by decide +kernel
theorem dX7_from_12 : decode cX7_from 12 = .ok (.ifCond .eq 14, 3) := by decide +kernel
theorem dX7_from_15 : decode cX7_from 15 = .ok (.aload_n 0, 1) := by decide +kernel
theorem dX7_from_16 : decode cX7_from 16 = .ok (.getfield 19, 3) := by decide +kernel
theorem dX7_from_19 : decode cX7_from 19 = .ok (.getfield 111, 3) := by decide +kernel
theorem dX7_from_22 : decode cX7_from 22 = .ok (.iconst 3, 1) := by decide +kernel
theorem dX7_from_23 : decode cX7_from 23 = .ok (.if_icmp .lt 5, 3) := by decide +kernel
theorem dX7_from_26 : decode cX7_from 26 = .ok (.iconst (-1), 1) := by decide +kernel
theorem dX7_from_27 : decode cX7_from 27 = .ok (.ireturn, 1) := by decide +kernel
theorem dX7_from_28 : decode cX7_from 28 = .ok (.aload_n 0, 1) := by decide +kernel
theorem dX7_from_29 : decode cX7_from 29 = .ok (.getfield 19, 3) := by decide +kernel
theorem dX7_from_32 : decode cX7_from 32 = .ok (.aload_n 0, 1) := by decide +kernel
theorem dX7_from_33 : decode cX7_from 33 = .ok (.getfield 11, 3) := by decide +kernel
theorem dX7_from_36 : decode cX7_from 36 = .ok (.iload_n 1, 1) := by decide +kernel
theorem dX7_from_37 : decode cX7_from 37 = .ok (.aaload, 1) := by decide +kernel
theorem dX7_from_38 : decode cX7_from 38 = .ok (.invokevirtual 114, 3) := by decide +kernel
theorem dX7_from_41 : decode cX7_from 41 = .ok (.ireturn, 1) := by decide +kernel
theorem dX7_where_0 : decode cX7_where 0 = .ok (.aload_n 0, 1) := by decide +kernel
theorem dX7_where_1 : decode cX7_where 1 = .ok (.getfield 37, 3) := by decide +kernel
theorem dX7_where_4 : decode cX7_where 4 = .ok (.ifCond .ne 35, 3) := by decide +kernel
theorem dX7_where_7 : decode cX7_where 7 = .ok (.aload_n 0, 1) := by decide +kernel
theorem dX7_where_8 : decode cX7_where 8 = .ok (.getfield 19, 3) := by decide +kernel
theorem dX7_where_11 : decode cX7_where 11 = .ok (.iload_n 1, 1) := by decide +kernel
theorem dX7_where_12 : decode cX7_where 12 = .ok (.iload_n 2, 1) := by decide +kernel
theorem dX7_where_13 : decode cX7_where 13 = .ok (.invokevirtual 118, 3) := by decide +kernel
theorem dX7_where_16 : decode cX7_where 16 = .ok (.ifCond .eq 23, 3) := by decide +kernel
theorem dX7_where_19 : decode cX7_where 19 = .ok (.iload_n 3, 1) := by decide +kernel
theorem dX7_where_20 : decode cX7_where 20 = .ok (.ifCond .lt 19, 3) := by decide +kernel
theorem dX7_where_23 : decode cX7_where 23 = .ok (.iload_n 3, 1) := by decide +kernel
theorem dX7_where_24 : decode cX7_where 24 = .ok (.iconst 3, 1) := by decide +kernel
theorem dX7_where_25 : decode cX7_where 25 = .ok (.if_icmp .gt 14, 3) := by decide +kernel
theorem dX7_where_28 : decode cX7_where 28 = .ok (.aload_n 0, 1) := by decide +kernel
theorem dX7_where_29 : decode cX7_where 29 = .ok (.getfield 19, 3) := by decide +kernel
theorem dX7_where_32 : decode cX7_where 32 = .ok (.getfield 119, 3) := by decide +kernel
theorem dX7_where_35 : decode cX7_where 35 = .ok (.iconst 4, 1) := by decide +kernel
theorem dX7_where_36 : decode cX7_where 36 = .ok (.if_icmp .lt 5, 3) := by decide +kernel
theorem dX7_where_39 : decode cX7_where 39 = .ok (.iconst 0, 1) := by decide +kernel
theorem dX7_where_40 : decode cX7_where 40 = .ok (.ireturn, 1) := by decide +kernel
theorem dX7_where_41 : decode cX7_where 41 = .ok (.aload_n 0, 1) := by decide +kernel
theorem dX7_where_42 : decode cX7_where 42 = .ok (.getfield 19, 3) := by decide +kernel
theorem dX7_where_45 : decode cX7_where 45 = .ok (.iload_n 1, 1) := by decide +kernel
theorem dX7_where_46 : decode cX7_where 46 = .ok (.iload_n 2, 1) := by decide +kernel
theorem dX7_where_47 : decode cX7_where 47 = .ok (.iload_n 3, 1) := by decide +kernel
theorem dX7_where_48 : decode cX7_where 48 = .ok (.iload 4, 2) := by decide +kernel
theorem dX7_where_50 : decode cX7_where 50 = .ok (.invokevirtual 122, 3) := by decide +kernel
theorem dX7_where_53 : decode cX7_where 53 = .ok (.iconst 1, 1) := by decide +kernel
theorem dX7_where_54 : decode cX7_where 54 = .ok (.ireturn, 1) := by decide +kernel
theorem dX7_join_0 : decode cX7_join 0 = .ok (.aload_n 0, 1) := by decide +kernel
theorem dX7_join_1 : decode cX7_join 1 = .ok (.getfield 37, 3) := by decide +kernel
theorem dX7_join_4 : decode cX7_join 4 = .ok (.ifCond .ne 44, 3) := by decide +kernel
theorem dX7_join_7 : decode cX7_join 7 = .ok (.aload_n 0, 1) := by decide +kernel
theorem dX7_join_8 : decode cX7_join 8 = .ok (.getfield 19, 3) := by decide +kernel
theorem dX7_join_11 : decode cX7_join 11 = .ok (.iload_n 1, 1) := by decide +kernel
theorem dX7_join_12 : decode cX7_join 12 = .ok (.iload_n 2, 1) := by decide +kernel
theorem dX7_join_13 : decode cX7_join 13 = .ok (.invokevirtual 118, 3) := by decide +kernel
theorem dX7_join_16 : decode cX7_join 16 = .ok (.ifCond .eq 32, 3) := by decide +kernel
theorem dX7_join_19 : decode cX7_join 19 = .ok (.aload_n 0, 1) := by decide +kernel
theorem dX7_join_20 : decode cX7_join 20 = .ok (.getfield 19, 3) := by decide +kernel
theorem dX7_join_23 : decode cX7_join 23 = .ok (.iload_n 3, 1) := by decide +kernel
theorem dX7_join_24 : decode cX7_join 24 = .ok (.iload 4, 2) := by decide +kernel
theorem dX7_join_26 : decode cX7_join 26 = .ok (.invokevirtual 118, 3) := by decide +kernel
theorem dX7_join_29 : decode cX7_join 29 = .ok (.ifCond .eq 19, 3) := by decide +kernel
theorem dX7_join_32 : decode cX7_join 32 = .ok (.iload_n 1, 1) := by decide +kernel
theorem dX7_join_33 : decode cX7_join 33 = .ok (.iload_n 3, 1) := by decide +kernel
theorem dX7_join_34 : decode cX7_join 34 = .ok (.if_icmp .eq 14, 3) := by decide +kernel
theorem dX7_join_37 : decode cX7_join 37 = .ok (.aload_n 0, 1) := by decide +kernel
theorem dX7_join_38 : decode cX7_join 38 = .ok (.getfield 19, 3) := by decide +kernel
theorem dX7_join_41 : decode cX7_join 41 = .ok (.getfield 126, 3) := by decide +kernel
theorem dX7_join_44 : decode cX7_join 44 = .ok (.iconst 3, 1) := by decide +kernel
theorem dX7_join_45 : decode cX7_join 45 = .ok (.if_icmp .lt 5, 3) := by decide +kernel
theorem dX7_join_48 : decode cX7_join 48 = .ok (.iconst 0, 1) := by decide +kernel
theorem dX7_join_49 : decode cX7_join 49 = .ok (.ireturn, 1) := by decide +kernel
theorem dX7_join_50 : decode cX7_join 50 = .ok (.aload_n 0, 1) := by decide +kernel
theorem dX7_join_51 : decode cX7_join 51 = .ok (.getfield 19, 3) := by decide +kernel
theorem dX7_join_54 : decode cX7_join 54 = .ok (.iload_n 1, 1) := by decide +kernel
theorem dX7_join_55 : decode cX7_join 55 = .ok (.iload_n 2, 1) := by decide +kernel
theorem dX7_join_56 : decode cX7_join 56 = .ok (.iload_n 3, 1) := by decide +kernel
theorem dX7_join_57 : decode cX7_join 57 = .ok (.iload 4, 2) := by decide +kernel
theorem dX7_join_59 : decode cX7_join 59 = .ok (.invokevirtual 129, 3) := by decide +kernel
theorem dX7_join_62 : decode cX7_join 62 = .ok (.iconst 1, 1) := by decide +kernel
theorem dX7_join_63 : decode cX7_join 63 = .ok (.ireturn, 1) := by decide +kernel
theorem dX7_select_0 : decode cX7_select 0 = .ok (.aload_n 0, 1) := by decide +kernel
theorem dX7_select_1 : decode cX7_select 1 = .ok (.getfield 37, 3) := by decide +kernel
theorem dX7_select_4 : decode cX7_select 4 = .ok (.ifCond .ne 26, 3) := by decide +kernel
theorem dX7_select_7 : decode cX7_select 7 = .ok (.aload_n 0, 1) := by decide +kernel
theorem dX7_select_8 : decode cX7_select 8 = .ok (.getfield 19, 3) := by decide +kernel
theorem dX7_select_11 : decode cX7_select 11 = .ok (.iload_n 1, 1) := by decide +kernel
theorem dX7_select_12 : decode cX7_select 12 = .ok (.iload_n 2, 1) := by decide +kernel
theorem dX7_select_13 : decode cX7_select 13 = .ok (.invokevirtual 118, 3) := by decide +kernel
theorem dX7_select_16 : decode cX7_select 16 = .ok (.ifCond .eq 14, 3) := by decide +kernel
theorem dX7_select_19 : decode cX7_select 19 = .ok (.aload_n 0, 1) := by decide +kernel
theorem dX7_select_20 : decode cX7_select 20 = .ok (.getfield 19, 3) := by decide +kernel
theorem dX7_select_23 : decode cX7_select 23 = .ok (.getfield 132, 3) := by decide +kernel
theorem dX7_select_26 : decode cX7_select 26 = .ok (.iconst 4, 1) := by decide +kernel
theorem dX7_select_27 : decode cX7_select 27 = .ok (.if_icmp .lt 5, 3) := by decide +kernel
theorem dX7_select_30 : decode cX7_select 30 = .ok (.iconst (-1), 1) := by decide +kernel
theorem dX7_select_31 : decode cX7_select 31 = .ok (.ireturn, 1) := by decide +kernel
theorem dX7_select_32 : decode cX7_select 32 = .ok (.aload_n 0, 1) := by decide +kernel
theorem dX7_select_33 : decode cX7_select 33 = .ok (.getfield 19, 3) := by decide +kernel
theorem dX7_select_36 : decode cX7_select 36 = .ok (.iload_n 1, 1) := by decide +kernel
theorem dX7_select_37 : decode cX7_select 37 = .ok (.iload_n 2, 1) := by decide +kernel
theorem dX7_select_38 : decode cX7_select 38 = .ok (.invokevirtual 135, 3) := by decide +kernel
theorem dX7_select_41 : decode cX7_select 41 = .ok (.ireturn, 1) := by decide +kernel
theorem dX7_order_0 : decode cX7_order 0 = .ok (.aload_n 0, 1) := by decide +kernel
theorem dX7_order_1 : decode cX7_order 1 = .ok (.getfield 37, 3) := by decide +kernel
theorem dX7_order_4 : decode cX7_order 4 = .ok (.ifCond .ne 18, 3) := by decide +kernel
theorem dX7_order_7 : decode cX7_order 7 = .ok (.iload_n 1, 1) := by decide +kernel
theorem dX7_order_8 : decode cX7_order 8 = .ok (.ifCond .lt 14, 3) := by decide +kernel
theorem dX7_order_11 : decode cX7_order 11 = .ok (.iload_n 1, 1) := by decide +kernel
theorem dX7_order_12 : decode cX7_order 12 = .ok (.aload_n 0, 1) := by decide +kernel
theorem dX7_order_13 : decode cX7_order 13 = .ok (.getfield 19, 3) := by decide +kernel
theorem dX7_order_16 : decode cX7_order 16 = .ok (.getfield 132, 3) := by decide +kernel
theorem dX7_order_19 : decode cX7_order 19 = .ok (.if_icmp .lt 5, 3) := by decide +kernel
theorem dX7_order_22 : decode cX7_order 22 = .ok (.iconst 0, 1) := by decide +kernel
theorem dX7_order_23 : decode cX7_order 23 = .ok (.ireturn, 1) := by decide +kernel
theorem dX7_order_24 : decode cX7_order 24 = .ok (.aload_n 0, 1) := by decide +kernel
theorem dX7_order_25 : decode cX7_order 25 = .ok (.getfield 19, 3) := by decide +kernel
theorem dX7_order_28 : decode cX7_order 28 = .ok (.iload_n 1, 1) := by decide +kernel
theorem dX7_order_29 : decode cX7_order 29 = .ok (.putfield 138, 3) := by decide +kernel
theorem dX7_order_32 : decode cX7_order 32 = .ok (.aload_n 0, 1) := by decide +kernel
theorem dX7_order_33 : decode cX7_order 33 = .ok (.getfield 19, 3) := by decide +kernel
theorem dX7_order_36 : decode cX7_order 36 = .ok (.iload_n 2, 1) := by decide +kernel
theorem dX7_order_37 : decode cX7_order 37 = .ok (.putfield 141, 3) := by decide +kernel
theorem dX7_order_40 : decode cX7_order 40 = .ok (.iconst 1, 1) := by decide +kernel
theorem dX7_order_41 : decode cX7_order 41 = .ok (.ireturn, 1) := by decide +kernel
theorem dX7_limit_0 : decode cX7_limit 0 = .ok (.aload_n 0, 1) := by decide +kernel
theorem dX7_limit_1 : decode cX7_limit 1 = .ok (.getfield 37, 3) := by decide +kernel
theorem dX7_limit_4 : decode cX7_limit 4 = .ok (.ifCond .ne 14, 3) := by decide +kernel
theorem dX7_limit_7 : decode cX7_limit 7 = .ok (.iload_n 1, 1) := by decide +kernel
theorem dX7_limit_8 : decode cX7_limit 8 = .ok (.iconst 1, 1) := by decide +kernel
theorem dX7_limit_9 : decode cX7_limit 9 = .ok (.if_icmp .lt 9, 3) := by decide +kernel
theorem dX7_limit_12 : decode cX7_limit 12 = .ok (.iload_n 1, 1) := by decide +kernel
theorem dX7_limit_13 : decode cX7_limit 13 = .ok (.bipush 64, 2) := by decide +kernel
theorem dX7_limit_15 : decode cX7_limit 15 = .ok (.if_icmp .le 5, 3) := by decide +kernel
theorem dX7_limit_18 : decode cX7_limit 18 = .ok (.iconst 0, 1) := by decide +kernel
theorem dX7_limit_19 : decode cX7_limit 19 = .ok (.ireturn, 1) := by decide +kernel
theorem dX7_limit_20 : decode cX7_limit 20 = .ok (.aload_n 0, 1) := by decide +kernel
theorem dX7_limit_21 : decode cX7_limit 21 = .ok (.getfield 19, 3) := by decide +kernel
theorem dX7_limit_24 : decode cX7_limit 24 = .ok (.iload_n 1, 1) := by decide +kernel
theorem dX7_limit_25 : decode cX7_limit 25 = .ok (.putfield 145, 3) := by decide +kernel
theorem dX7_limit_28 : decode cX7_limit 28 = .ok (.iconst 1, 1) := by decide +kernel
theorem dX7_limit_29 : decode cX7_limit 29 = .ok (.ireturn, 1) := by decide +kernel
theorem dX7_plan_0 : decode cX7_plan 0 = .ok (.aload_n 0, 1) := by decide +kernel
theorem dX7_plan_1 : decode cX7_plan 1 = .ok (.getfield 37, 3) := by decide +kernel
theorem dX7_plan_4 : decode cX7_plan 4 = .ok (.ifCond .ne 23, 3) := by decide +kernel
theorem dX7_plan_7 : decode cX7_plan 7 = .ok (.aload_n 0, 1) := by decide +kernel
theorem dX7_plan_8 : decode cX7_plan 8 = .ok (.getfield 19, 3) := by decide +kernel
theorem dX7_plan_11 : decode cX7_plan 11 = .ok (.getfield 111, 3) := by decide +kernel
theorem dX7_plan_14 : decode cX7_plan 14 = .ok (.ifCond .eq 13, 3) := by decide +kernel
theorem dX7_plan_17 : decode cX7_plan 17 = .ok (.aload_n 0, 1) := by decide +kernel
theorem dX7_plan_18 : decode cX7_plan 18 = .ok (.getfield 19, 3) := by decide +kernel
theorem dX7_plan_21 : decode cX7_plan 21 = .ok (.getfield 132, 3) := by decide +kernel
theorem dX7_plan_24 : decode cX7_plan 24 = .ok (.ifCond .ne 13, 3) := by decide +kernel
theorem dX7_plan_27 : decode cX7_plan 27 = .ok (.new 63, 3) := by decide +kernel
theorem dX7_plan_30 : decode cX7_plan 30 = .ok (.dup, 1) := by decide +kernel
theorem dX7_plan_31 : decode cX7_plan 31 = .ok (.ldc 148, 2) := by decide +kernel
theorem dX7_plan_33 : decode cX7_plan 33 = .ok (.invokespecial 67, 3) := by decide +kernel
theorem dX7_plan_36 : decode cX7_plan 36 = .ok (.athrow, 1) := by decide +kernel
theorem dX7_plan_37 : decode cX7_plan 37 = .ok (.aload_n 0, 1) := by decide +kernel
theorem dX7_plan_38 : decode cX7_plan 38 = .ok (.getfield 26, 3) := by decide +kernel
theorem dX7_plan_41 : decode cX7_plan 41 = .ok (.aload_n 0, 1) := by decide +kernel
theorem dX7_plan_42 : decode cX7_plan 42 = .ok (.getfield 19, 3) := by decide +kernel
theorem dX7_plan_45 : decode cX7_plan 45 = .ok (.invokevirtual 150, 3) := by decide +kernel
theorem dX7_plan_48 : decode cX7_plan 48 = .ok (.fstore_n 1, 1) := by decide +kernel
theorem dX7_plan_49 : decode cX7_plan 49 = .ok (.aload_n 0, 1) := by decide +kernel
theorem dX7_plan_50 : decode cX7_plan 50 = .ok (.getfield 33, 3) := by decide +kernel
theorem dX7_plan_53 : decode cX7_plan 53 = .ok (.aload_n 0, 1) := by decide +kernel
theorem dX7_plan_54 : decode cX7_plan 54 = .ok (.getfield 19, 3) := by decide +kernel
theorem dX7_plan_57 : decode cX7_plan 57 = .ok (.aload_n 0, 1) := by decide +kernel
theorem dX7_plan_58 : decode cX7_plan 58 = .ok (.getfield 26, 3) := by decide +kernel
theorem dX7_plan_61 : decode cX7_plan 61 = .ok (.invokevirtual 154, 3) := by decide +kernel
theorem dX7_plan_64 : decode cX7_plan 64 = .ok (.aload_n 0, 1) := by decide +kernel
theorem dX7_plan_65 : decode cX7_plan 65 = .ok (.iconst 1, 1) := by decide +kernel
theorem dX7_plan_66 : decode cX7_plan 66 = .ok (.putfield 37, 3) := by decide +kernel
theorem dX7_plan_69 : decode cX7_plan 69 = .ok (.fload_n 1, 1) := by decide +kernel
theorem dX7_plan_70 : decode cX7_plan 70 = .ok (.freturn, 1) := by decide +kernel
theorem dX7_explain_0 : decode cX7_explain 0 = .ok (.aload_n 0, 1) := by decide +kernel
theorem dX7_explain_1 : decode cX7_explain 1 = .ok (.getfield 37, 3) := by decide +kernel
theorem dX7_explain_4 : decode cX7_explain 4 = .ok (.ifCond .eq 27, 3) := by decide +kernel
theorem dX7_explain_7 : decode cX7_explain 7 = .ok (.iload_n 1, 1) := by decide +kernel
theorem dX7_explain_8 : decode cX7_explain 8 = .ok (.ifCond .lt 23, 3) := by decide +kernel
theorem dX7_explain_11 : decode cX7_explain 11 = .ok (.iload_n 1, 1) := by decide +kernel
theorem dX7_explain_12 : decode cX7_explain 12 = .ok (.aload_n 0, 1) := by decide +kernel
theorem dX7_explain_13 : decode cX7_explain 13 = .ok (.getfield 19, 3) := by decide +kernel
theorem dX7_explain_16 : decode cX7_explain 16 = .ok (.getfield 111, 3) := by decide +kernel
theorem dX7_explain_19 : decode cX7_explain 19 = .ok (.if_icmp .ge 12, 3) := by decide +kernel
theorem dX7_explain_22 : decode cX7_explain 22 = .ok (.iload_n 2, 1) := by decide +kernel
theorem dX7_explain_23 : decode cX7_explain 23 = .ok (.ifCond .lt 8, 3) := by decide +kernel
theorem dX7_explain_26 : decode cX7_explain 26 = .ok (.iload_n 2, 1) := by decide +kernel
theorem dX7_explain_27 : decode cX7_explain 27 = .ok (.iconst 3, 1) := by decide +kernel
theorem dX7_explain_28 : decode cX7_explain 28 = .ok (.if_icmp .le 13, 3) := by decide +kernel
theorem dX7_explain_31 : decode cX7_explain 31 = .ok (.new 158, 3) := by decide +kernel
theorem dX7_explain_34 : decode cX7_explain 34 = .ok (.dup, 1) := by decide +kernel
theorem dX7_explain_35 : decode cX7_explain 35 = .ok (.ldc 160, 2) := by decide +kernel
theorem dX7_explain_37 : decode cX7_explain 37 = .ok (.invokespecial 162, 3) := by decide +kernel
theorem dX7_explain_40 : decode cX7_explain 40 = .ok (.athrow, 1) := by decide +kernel
theorem dX7_explain_41 : decode cX7_explain 41 = .ok (.iload_n 2, 1) := by decide +kernel
theorem dX7_explain_42 : decode cX7_explain 42 = .ok (.tableswitch 56 0 2 #[26, 36, 46], 26) := by decide +kernel
theorem dX7_explain_68 : decode cX7_explain 68 = .ok (.aload_n 0, 1) := by decide +kernel
theorem dX7_explain_69 : decode cX7_explain 69 = .ok (.getfield 26, 3) := by decide +kernel
theorem dX7_explain_72 : decode cX7_explain 72 = .ok (.getfield 163, 3) := by decide +kernel
theorem dX7_explain_75 : decode cX7_explain 75 = .ok (.iload_n 1, 1) := by decide +kernel
theorem dX7_explain_76 : decode cX7_explain 76 = .ok (.iaload, 1) := by decide +kernel
theorem dX7_explain_77 : decode cX7_explain 77 = .ok (.ireturn, 1) := by decide +kernel
theorem dX7_explain_78 : decode cX7_explain 78 = .ok (.aload_n 0, 1) := by decide +kernel
theorem dX7_explain_79 : decode cX7_explain 79 = .ok (.getfield 26, 3) := by decide +kernel
theorem dX7_explain_82 : decode cX7_explain 82 = .ok (.getfield 167, 3) := by decide +kernel
theorem dX7_explain_85 : decode cX7_explain 85 = .ok (.iload_n 1, 1) := by decide +kernel
theorem dX7_explain_86 : decode cX7_explain 86 = .ok (.iaload, 1) := by decide +kernel
theorem dX7_explain_87 : decode cX7_explain 87 = .ok (.ireturn, 1) := by decide +kernel
theorem dX7_explain_88 : decode cX7_explain 88 = .ok (.aload_n 0, 1) := by decide +kernel
theorem dX7_explain_89 : decode cX7_explain 89 = .ok (.getfield 26, 3) := by decide +kernel
theorem dX7_explain_92 : decode cX7_explain 92 = .ok (.getfield 170, 3) := by decide +kernel
theorem dX7_explain_95 : decode cX7_explain 95 = .ok (.iload_n 1, 1) := by decide +kernel
theorem dX7_explain_96 : decode cX7_explain 96 = .ok (.iaload, 1) := by decide +kernel
theorem dX7_explain_97 : decode cX7_explain 97 = .ok (.ireturn, 1) := by decide +kernel
theorem dX7_explain_98 : decode cX7_explain 98 = .ok (.aload_n 0, 1) := by decide +kernel
theorem dX7_explain_99 : decode cX7_explain 99 = .ok (.getfield 26, 3) := by decide +kernel
theorem dX7_explain_102 : decode cX7_explain 102 = .ok (.getfield 173, 3) := by decide +kernel
theorem dX7_explain_105 : decode cX7_explain 105 = .ok (.iload_n 1, 1) := by decide +kernel
theorem dX7_explain_106 : decode cX7_explain 106 = .ok (.iaload, 1) := by decide +kernel
theorem dX7_explain_107 : decode cX7_explain 107 = .ok (.ireturn, 1) := by decide +kernel
theorem dX7_run_0 : decode cX7_run 0 = .ok (.iload_n 1, 1) := by decide +kernel
theorem dX7_run_1 : decode cX7_run 1 = .ok (.iconst 1, 1) := by decide +kernel
theorem dX7_run_2 : decode cX7_run 2 = .ok (.if_icmp .lt 18, 3) := by decide +kernel
theorem dX7_run_5 : decode cX7_run 5 = .ok (.iload_n 1, 1) := by decide +kernel
theorem dX7_run_6 : decode cX7_run 6 = .ok (.sipush 200, 3) := by decide +kernel
theorem dX7_run_9 : decode cX7_run 9 = .ok (.if_icmp .gt 11, 3) := by decide +kernel
theorem dX7_run_12 : decode cX7_run 12 = .ok (.aload_n 0, 1) := by decide +kernel
theorem dX7_run_13 : decode cX7_run 13 = .ok (.getfield 37, 3) := by decide +kernel
theorem dX7_run_16 : decode cX7_run 16 = .ok (.iconst 1, 1) := by decide +kernel
theorem dX7_run_17 : decode cX7_run 17 = .ok (.if_icmp .eq 5, 3) := by decide +kernel
theorem dX7_run_20 : decode cX7_run 20 = .ok (.iconst (-1), 1) := by decide +kernel
theorem dX7_run_21 : decode cX7_run 21 = .ok (.ireturn, 1) := by decide +kernel
theorem dX7_run_22 : decode cX7_run 22 = .ok (.iconst 0, 1) := by decide +kernel
theorem dX7_run_23 : decode cX7_run 23 = .ok (.istore_n 2, 1) := by decide +kernel
theorem dX7_run_24 : decode cX7_run 24 = .ok (.iload_n 2, 1) := by decide +kernel
theorem dX7_run_25 : decode cX7_run 25 = .ok (.iload_n 1, 1) := by decide +kernel
theorem dX7_run_26 : decode cX7_run 26 = .ok (.if_icmp .ge 38, 3) := by decide +kernel
theorem dX7_run_29 : decode cX7_run 29 = .ok (.aload_n 0, 1) := by decide +kernel
theorem dX7_run_30 : decode cX7_run 30 = .ok (.getfield 33, 3) := by decide +kernel
theorem dX7_run_33 : decode cX7_run 33 = .ok (.aload_n 0, 1) := by decide +kernel
theorem dX7_run_34 : decode cX7_run 34 = .ok (.getfield 19, 3) := by decide +kernel
theorem dX7_run_37 : decode cX7_run 37 = .ok (.invokevirtual 176, 3) := by decide +kernel
theorem dX7_run_40 : decode cX7_run 40 = .ok (.ifCond .ne 24, 3) := by decide +kernel
theorem dX7_run_43 : decode cX7_run 43 = .ok (.aload_n 0, 1) := by decide +kernel
theorem dX7_run_44 : decode cX7_run 44 = .ok (.getfield 33, 3) := by decide +kernel
theorem dX7_run_47 : decode cX7_run 47 = .ok (.aload_n 0, 1) := by decide +kernel
theorem dX7_run_48 : decode cX7_run 48 = .ok (.getfield 19, 3) := by decide +kernel
theorem dX7_run_51 : decode cX7_run 51 = .ok (.aload_n 0, 1) := by decide +kernel
theorem dX7_run_52 : decode cX7_run 52 = .ok (.getfield 26, 3) := by decide +kernel
theorem dX7_run_55 : decode cX7_run 55 = .ok (.invokevirtual 180, 3) := by decide +kernel
theorem dX7_run_58 : decode cX7_run 58 = .ok (.iinc 2 1, 3) := by decide +kernel
theorem dX7_run_61 : decode cX7_run 61 = .ok (.goto (-37), 3) := by decide +kernel
theorem dX7_run_64 : decode cX7_run 64 = .ok (.aload_n 0, 1) := by decide +kernel
theorem dX7_run_65 : decode cX7_run 65 = .ok (.getfield 33, 3) := by decide +kernel
theorem dX7_run_68 : decode cX7_run 68 = .ok (.aload_n 0, 1) := by decide +kernel
theorem dX7_run_69 : decode cX7_run 69 = .ok (.getfield 19, 3) := by decide +kernel
theorem dX7_run_72 : decode cX7_run 72 = .ok (.invokevirtual 176, 3) := by decide +kernel
theorem dX7_run_75 : decode cX7_run 75 = .ok (.ifCond .eq 8, 3) := by decide +kernel
theorem dX7_run_78 : decode cX7_run 78 = .ok (.aload_n 0, 1) := by decide +kernel
theorem dX7_run_79 : decode cX7_run 79 = .ok (.iconst 2, 1) := by decide +kernel
theorem dX7_run_80 : decode cX7_run 80 = .ok (.putfield 37, 3) := by decide +kernel
theorem dX7_run_83 : decode cX7_run 83 = .ok (.iload_n 2, 1) := by decide +kernel
theorem dX7_run_84 : decode cX7_run 84 = .ok (.ireturn, 1) := by decide +kernel
theorem dX7_look_0 : decode cX7_look 0 = .ok (.iload_n 1, 1) := by decide +kernel
theorem dX7_look_1 : decode cX7_look 1 = .ok (.ifCond .lt 9, 3) := by decide +kernel
theorem dX7_look_4 : decode cX7_look 4 = .ok (.iload_n 1, 1) := by decide +kernel
theorem dX7_look_5 : decode cX7_look 5 = .ok (.bipush 6, 2) := by decide +kernel
theorem dX7_look_7 : decode cX7_look 7 = .ok (.if_icmp .lt 5, 3) := by decide +kernel
theorem dX7_look_10 : decode cX7_look 10 = .ok (.iconst (-1), 1) := by decide +kernel
theorem dX7_look_11 : decode cX7_look 11 = .ok (.ireturn, 1) := by decide +kernel
theorem dX7_look_12 : decode cX7_look 12 = .ok (.iload_n 1, 1) := by decide +kernel
theorem dX7_look_13 : decode cX7_look 13 = .ok (.tableswitch 63 0 2 #[27, 32, 40], 27) := by decide +kernel
theorem dX7_look_40 : decode cX7_look 40 = .ok (.aload_n 0, 1) := by decide +kernel
theorem dX7_look_41 : decode cX7_look 41 = .ok (.getfield 37, 3) := by decide +kernel
theorem dX7_look_44 : decode cX7_look 44 = .ok (.ireturn, 1) := by decide +kernel
theorem dX7_look_45 : decode cX7_look 45 = .ok (.aload_n 0, 1) := by decide +kernel
theorem dX7_look_46 : decode cX7_look 46 = .ok (.getfield 33, 3) := by decide +kernel
theorem dX7_look_49 : decode cX7_look 49 = .ok (.getfield 183, 3) := by decide +kernel
theorem dX7_look_52 : decode cX7_look 52 = .ok (.ireturn, 1) := by decide +kernel
theorem dX7_look_53 : decode cX7_look 53 = .ok (.aload_n 0, 1) := by decide +kernel
theorem dX7_look_54 : decode cX7_look 54 = .ok (.getfield 37, 3) := by decide +kernel
theorem dX7_look_57 : decode cX7_look 57 = .ok (.iconst 2, 1) := by decide +kernel
theorem dX7_look_58 : decode cX7_look 58 = .ok (.if_icmp .ne 10, 3) := by decide +kernel
theorem dX7_look_61 : decode cX7_look 61 = .ok (.aload_n 0, 1) := by decide +kernel
theorem dX7_look_62 : decode cX7_look 62 = .ok (.invokevirtual 186, 3) := by decide +kernel
theorem dX7_look_65 : decode cX7_look 65 = .ok (.goto 10, 3) := by decide +kernel
theorem dX7_look_68 : decode cX7_look 68 = .ok (.aload_n 0, 1) := by decide +kernel
theorem dX7_look_69 : decode cX7_look 69 = .ok (.getfield 33, 3) := by decide +kernel
theorem dX7_look_72 : decode cX7_look 72 = .ok (.getfield 190, 3) := by decide +kernel
theorem dX7_look_75 : decode cX7_look 75 = .ok (.ireturn, 1) := by decide +kernel
theorem dX7_look_76 : decode cX7_look 76 = .ok (.aload_n 0, 1) := by decide +kernel
theorem dX7_look_77 : decode cX7_look 77 = .ok (.iload_n 1, 1) := by decide +kernel
theorem dX7_look_78 : decode cX7_look 78 = .ok (.iconst 3, 1) := by decide +kernel
theorem dX7_look_79 : decode cX7_look 79 = .ok (.isub, 1) := by decide +kernel
theorem dX7_look_80 : decode cX7_look 80 = .ok (.invokevirtual 48, 3) := by decide +kernel
theorem dX7_look_83 : decode cX7_look 83 = .ok (.ifCond .eq 17, 3) := by decide +kernel
theorem dX7_look_86 : decode cX7_look 86 = .ok (.aload_n 0, 1) := by decide +kernel
theorem dX7_look_87 : decode cX7_look 87 = .ok (.getfield 11, 3) := by decide +kernel
theorem dX7_look_90 : decode cX7_look 90 = .ok (.iload_n 1, 1) := by decide +kernel
theorem dX7_look_91 : decode cX7_look 91 = .ok (.iconst 3, 1) := by decide +kernel
theorem dX7_look_92 : decode cX7_look 92 = .ok (.isub, 1) := by decide +kernel
theorem dX7_look_93 : decode cX7_look 93 = .ok (.aaload, 1) := by decide +kernel
theorem dX7_look_94 : decode cX7_look 94 = .ok (.getfield 193, 3) := by decide +kernel
theorem dX7_look_97 : decode cX7_look 97 = .ok (.goto 4, 3) := by decide +kernel
theorem dX7_look_100 : decode cX7_look 100 = .ok (.iconst (-1), 1) := by decide +kernel
theorem dX7_look_101 : decode cX7_look 101 = .ok (.ireturn, 1) := by decide +kernel
theorem dX7_answer_0 : decode cX7_answer 0 = .ok (.aload_n 0, 1) := by decide +kernel
theorem dX7_answer_1 : decode cX7_answer 1 = .ok (.getfield 37, 3) := by decide +kernel
theorem dX7_answer_4 : decode cX7_answer 4 = .ok (.iconst 2, 1) := by decide +kernel
theorem dX7_answer_5 : decode cX7_answer 5 = .ok (.if_icmp .eq 13, 3) := by decide +kernel
theorem dX7_answer_8 : decode cX7_answer 8 = .ok (.new 63, 3) := by decide +kernel
theorem dX7_answer_11 : decode cX7_answer 11 = .ok (.dup, 1) := by decide +kernel
theorem dX7_answer_12 : decode cX7_answer 12 = .ok (.ldc 196, 2) := by decide +kernel
theorem dX7_answer_14 : decode cX7_answer 14 = .ok (.invokespecial 67, 3) := by decide +kernel
theorem dX7_answer_17 : decode cX7_answer 17 = .ok (.athrow, 1) := by decide +kernel
theorem dX7_answer_18 : decode cX7_answer 18 = .ok (.iload_n 1, 1) := by decide +kernel
theorem dX7_answer_19 : decode cX7_answer 19 = .ok (.ifCond .lt 26, 3) := by decide +kernel
theorem dX7_answer_22 : decode cX7_answer 22 = .ok (.iload_n 1, 1) := by decide +kernel
theorem dX7_answer_23 : decode cX7_answer 23 = .ok (.aload_n 0, 1) := by decide +kernel
theorem dX7_answer_24 : decode cX7_answer 24 = .ok (.invokevirtual 186, 3) := by decide +kernel
theorem dX7_answer_27 : decode cX7_answer 27 = .ok (.if_icmp .ge 18, 3) := by decide +kernel
theorem dX7_answer_30 : decode cX7_answer 30 = .ok (.iload_n 2, 1) := by decide +kernel
theorem dX7_answer_31 : decode cX7_answer 31 = .ok (.ifCond .lt 14, 3) := by decide +kernel
theorem dX7_answer_34 : decode cX7_answer 34 = .ok (.iload_n 2, 1) := by decide +kernel
theorem dX7_answer_35 : decode cX7_answer 35 = .ok (.aload_n 0, 1) := by decide +kernel
theorem dX7_answer_36 : decode cX7_answer 36 = .ok (.getfield 19, 3) := by decide +kernel
theorem dX7_answer_39 : decode cX7_answer 39 = .ok (.getfield 132, 3) := by decide +kernel
theorem dX7_answer_42 : decode cX7_answer 42 = .ok (.if_icmp .lt 13, 3) := by decide +kernel
theorem dX7_answer_45 : decode cX7_answer 45 = .ok (.new 158, 3) := by decide +kernel
theorem dX7_answer_48 : decode cX7_answer 48 = .ok (.dup, 1) := by decide +kernel
theorem dX7_answer_49 : decode cX7_answer 49 = .ok (.ldc 198, 2) := by decide +kernel
theorem dX7_answer_51 : decode cX7_answer 51 = .ok (.invokespecial 162, 3) := by decide +kernel
theorem dX7_answer_54 : decode cX7_answer 54 = .ok (.athrow, 1) := by decide +kernel
theorem dX7_answer_55 : decode cX7_answer 55 = .ok (.aload_n 0, 1) := by decide +kernel
theorem dX7_answer_56 : decode cX7_answer 56 = .ok (.getfield 33, 3) := by decide +kernel
theorem dX7_answer_59 : decode cX7_answer 59 = .ok (.iload_n 1, 1) := by decide +kernel
theorem dX7_answer_60 : decode cX7_answer 60 = .ok (.iload_n 2, 1) := by decide +kernel
theorem dX7_answer_61 : decode cX7_answer 61 = .ok (.invokevirtual 200, 3) := by decide +kernel
theorem dX7_answer_64 : decode cX7_answer 64 = .ok (.ireturn, 1) := by decide +kernel
theorem dX7_hasTable_0 : decode cX7_hasTable 0 = .ok (.iload_n 1, 1) := by decide +kernel
theorem dX7_hasTable_1 : decode cX7_hasTable 1 = .ok (.ifCond .lt 24, 3) := by decide +kernel
theorem dX7_hasTable_4 : decode cX7_hasTable 4 = .ok (.iload_n 1, 1) := by decide +kernel
theorem dX7_hasTable_5 : decode cX7_hasTable 5 = .ok (.iconst 3, 1) := by decide +kernel
theorem dX7_hasTable_6 : decode cX7_hasTable 6 = .ok (.if_icmp .ge 19, 3) := by decide +kernel
theorem dX7_hasTable_9 : decode cX7_hasTable 9 = .ok (.aload_n 0, 1) := by decide +kernel
theorem dX7_hasTable_10 : decode cX7_hasTable 10 = .ok (.getfield 11, 3) := by decide +kernel
theorem dX7_hasTable_13 : decode cX7_hasTable 13 = .ok (.iload_n 1, 1) := by decide +kernel
theorem dX7_hasTable_14 : decode cX7_hasTable 14 = .ok (.aaload, 1) := by decide +kernel
theorem dX7_hasTable_15 : decode cX7_hasTable 15 = .ok (.getfield 203, 3) := by decide +kernel
theorem dX7_hasTable_18 : decode cX7_hasTable 18 = .ok (.ifCond .le 7, 3) := by decide +kernel
theorem dX7_hasTable_21 : decode cX7_hasTable 21 = .ok (.iconst 1, 1) := by decide +kernel
theorem dX7_hasTable_22 : decode cX7_hasTable 22 = .ok (.goto 4, 3) := by decide +kernel
theorem dX7_hasTable_25 : decode cX7_hasTable 25 = .ok (.iconst 0, 1) := by decide +kernel
theorem dX7_hasTable_26 : decode cX7_hasTable 26 = .ok (.ireturn, 1) := by decide +kernel
theorem dX7_hasRow_0 : decode cX7_hasRow 0 = .ok (.aload_n 0, 1) := by decide +kernel
theorem dX7_hasRow_1 : decode cX7_hasRow 1 = .ok (.iload_n 1, 1) := by decide +kernel
theorem dX7_hasRow_2 : decode cX7_hasRow 2 = .ok (.invokevirtual 48, 3) := by decide +kernel
theorem dX7_hasRow_5 : decode cX7_hasRow 5 = .ok (.ifCond .eq 21, 3) := by decide +kernel
theorem dX7_hasRow_8 : decode cX7_hasRow 8 = .ok (.aload_n 0, 1) := by decide +kernel
theorem dX7_hasRow_9 : decode cX7_hasRow 9 = .ok (.getfield 11, 3) := by decide +kernel
theorem dX7_hasRow_12 : decode cX7_hasRow 12 = .ok (.iload_n 1, 1) := by decide +kernel
theorem dX7_hasRow_13 : decode cX7_hasRow 13 = .ok (.aaload, 1) := by decide +kernel
theorem dX7_hasRow_14 : decode cX7_hasRow 14 = .ok (.iload_n 2, 1) := by decide +kernel
theorem dX7_hasRow_15 : decode cX7_hasRow 15 = .ok (.invokevirtual 81, 3) := by decide +kernel
theorem dX7_hasRow_18 : decode cX7_hasRow 18 = .ok (.iconst (-1), 1) := by decide +kernel
theorem dX7_hasRow_19 : decode cX7_hasRow 19 = .ok (.if_icmp .eq 7, 3) := by decide +kernel
theorem dX7_hasRow_22 : decode cX7_hasRow 22 = .ok (.iconst 1, 1) := by decide +kernel
theorem dX7_hasRow_23 : decode cX7_hasRow 23 = .ok (.goto 4, 3) := by decide +kernel
theorem dX7_hasRow_26 : decode cX7_hasRow 26 = .ok (.iconst 0, 1) := by decide +kernel
theorem dX7_hasRow_27 : decode cX7_hasRow 27 = .ok (.ireturn, 1) := by decide +kernel
theorem dX7_hasColumn_0 : decode cX7_hasColumn 0 = .ok (.aload_n 0, 1) := by decide +kernel
theorem dX7_hasColumn_1 : decode cX7_hasColumn 1 = .ok (.iload_n 1, 1) := by decide +kernel
theorem dX7_hasColumn_2 : decode cX7_hasColumn 2 = .ok (.invokevirtual 48, 3) := by decide +kernel
theorem dX7_hasColumn_5 : decode cX7_hasColumn 5 = .ok (.ifCond .eq 20, 3) := by decide +kernel
theorem dX7_hasColumn_8 : decode cX7_hasColumn 8 = .ok (.aload_n 0, 1) := by decide +kernel
theorem dX7_hasColumn_9 : decode cX7_hasColumn 9 = .ok (.getfield 11, 3) := by decide +kernel
theorem dX7_hasColumn_12 : decode cX7_hasColumn 12 = .ok (.iload_n 1, 1) := by decide +kernel
theorem dX7_hasColumn_13 : decode cX7_hasColumn 13 = .ok (.aaload, 1) := by decide +kernel
theorem dX7_hasColumn_14 : decode cX7_hasColumn 14 = .ok (.iload_n 2, 1) := by decide +kernel
theorem dX7_hasColumn_15 : decode cX7_hasColumn 15 = .ok (.invokevirtual 206, 3) := by decide +kernel
theorem dX7_hasColumn_18 : decode cX7_hasColumn 18 = .ok (.ifCond .eq 7, 3) := by decide +kernel
theorem dX7_hasColumn_21 : decode cX7_hasColumn 21 = .ok (.iconst 1, 1) := by decide +kernel
theorem dX7_hasColumn_22 : decode cX7_hasColumn 22 = .ok (.goto 4, 3) := by decide +kernel
theorem dX7_hasColumn_25 : decode cX7_hasColumn 25 = .ok (.iconst 0, 1) := by decide +kernel
theorem dX7_hasColumn_26 : decode cX7_hasColumn 26 = .ok (.ireturn, 1) := by decide +kernel
theorem dX7_isKind_0 : decode cX7_isKind 0 = .ok (.iload_n 0, 1) := by decide +kernel
theorem dX7_isKind_1 : decode cX7_isKind 1 = .ok (.ifCond .eq 8, 3) := by decide +kernel
theorem dX7_isKind_4 : decode cX7_isKind 4 = .ok (.iload_n 0, 1) := by decide +kernel
theorem dX7_isKind_5 : decode cX7_isKind 5 = .ok (.iconst 1, 1) := by decide +kernel
theorem dX7_isKind_6 : decode cX7_isKind 6 = .ok (.if_icmp .ne 7, 3) := by decide +kernel
theorem dX7_isKind_9 : decode cX7_isKind 9 = .ok (.iconst 1, 1) := by decide +kernel
theorem dX7_isKind_10 : decode cX7_isKind 10 = .ok (.goto 4, 3) := by decide +kernel
theorem dX7_isKind_13 : decode cX7_isKind 13 = .ok (.iconst 0, 1) := by decide +kernel
theorem dX7_isKind_14 : decode cX7_isKind 14 = .ok (.ireturn, 1) := by decide +kernel
theorem dX7_beginQuestion_0 : decode cX7_beginQuestion 0 = .ok (.aload_n 0, 1) := by decide +kernel
theorem dX7_beginQuestion_1 : decode cX7_beginQuestion 1 = .ok (.getfield 19, 3) := by decide +kernel
theorem dX7_beginQuestion_4 : decode cX7_beginQuestion 4 = .ok (.invokevirtual 208, 3) := by decide +kernel
theorem dX7_beginQuestion_7 : decode cX7_beginQuestion 7 = .ok (.aload_n 0, 1) := by decide +kernel
theorem dX7_beginQuestion_8 : decode cX7_beginQuestion 8 = .ok (.getfield 33, 3) := by decide +kernel
theorem dX7_beginQuestion_11 : decode cX7_beginQuestion 11 = .ok (.invokevirtual 211, 3) := by decide +kernel
theorem dX7_beginQuestion_14 : decode cX7_beginQuestion 14 = .ok (.aload_n 0, 1) := by decide +kernel
theorem dX7_beginQuestion_15 : decode cX7_beginQuestion 15 = .ok (.iconst 0, 1) := by decide +kernel
theorem dX7_beginQuestion_16 : decode cX7_beginQuestion 16 = .ok (.putfield 37, 3) := by decide +kernel
theorem dX7_beginQuestion_19 : decode cX7_beginQuestion 19 = .ok (.return_, 1) := by decide +kernel
theorem dX7_endQuestion_0 : decode cX7_endQuestion 0 = .ok (.aload_n 0, 1) := by decide +kernel
theorem dX7_endQuestion_1 : decode cX7_endQuestion 1 = .ok (.getfield 37, 3) := by decide +kernel
theorem dX7_endQuestion_4 : decode cX7_endQuestion 4 = .ok (.iconst 1, 1) := by decide +kernel
theorem dX7_endQuestion_5 : decode cX7_endQuestion 5 = .ok (.if_icmp .ne 8, 3) := by decide +kernel
theorem dX7_endQuestion_8 : decode cX7_endQuestion 8 = .ok (.aload_n 0, 1) := by decide +kernel
theorem dX7_endQuestion_9 : decode cX7_endQuestion 9 = .ok (.iconst 3, 1) := by decide +kernel
theorem dX7_endQuestion_10 : decode cX7_endQuestion 10 = .ok (.putfield 37, 3) := by decide +kernel
theorem dX7_endQuestion_13 : decode cX7_endQuestion 13 = .ok (.return_, 1) := by decide +kernel
theorem dX7_givenAnswers_0 : decode cX7_givenAnswers 0 = .ok (.aload_n 0, 1) := by decide +kernel
theorem dX7_givenAnswers_1 : decode cX7_givenAnswers 1 = .ok (.getfield 33, 3) := by decide +kernel
theorem dX7_givenAnswers_4 : decode cX7_givenAnswers 4 = .ok (.getfield 190, 3) := by decide +kernel
theorem dX7_givenAnswers_7 : decode cX7_givenAnswers 7 = .ok (.aload_n 0, 1) := by decide +kernel
theorem dX7_givenAnswers_8 : decode cX7_givenAnswers 8 = .ok (.getfield 19, 3) := by decide +kernel
theorem dX7_givenAnswers_11 : decode cX7_givenAnswers 11 = .ok (.getfield 145, 3) := by decide +kernel
theorem dX7_givenAnswers_14 : decode cX7_givenAnswers 14 = .ok (.invokestatic 212, 3) := by decide +kernel
theorem dX7_givenAnswers_17 : decode cX7_givenAnswers 17 = .ok (.ireturn, 1) := by decide +kernel
theorem dX8_init_0 : decode cX8_init 0 = .ok (.aload_n 0, 1) := by decide +kernel
theorem dX8_init_1 : decode cX8_init 1 = .ok (.invokespecial 1, 3) := by decide +kernel
theorem dX8_init_4 : decode cX8_init 4 = .ok (.aload_n 0, 1) := by decide +kernel
theorem dX8_init_5 : decode cX8_init 5 = .ok (.iconst 3, 1) := by decide +kernel
theorem dX8_init_6 : decode cX8_init 6 = .ok (.newarray .int, 2) := by decide +kernel
theorem dX8_init_8 : decode cX8_init 8 = .ok (.putfield 7, 3) := by decide +kernel
theorem dX8_init_11 : decode cX8_init 11 = .ok (.aload_n 0, 1) := by decide +kernel
theorem dX8_init_12 : decode cX8_init 12 = .ok (.iconst 3, 1) := by decide +kernel
theorem dX8_init_13 : decode cX8_init 13 = .ok (.newarray .int, 2) := by decide +kernel
theorem dX8_init_15 : decode cX8_init 15 = .ok (.putfield 13, 3) := by decide +kernel
theorem dX8_init_18 : decode cX8_init 18 = .ok (.aload_n 0, 1) := by decide +kernel
theorem dX8_init_19 : decode cX8_init 19 = .ok (.sipush 180, 3) := by decide +kernel
theorem dX8_init_22 : decode cX8_init 22 = .ok (.newarray .boolean, 2) := by decide +kernel
theorem dX8_init_24 : decode cX8_init 24 = .ok (.putfield 16, 3) := by decide +kernel
theorem dX8_init_27 : decode cX8_init 27 = .ok (.aload_n 0, 1) := by decide +kernel
theorem dX8_init_28 : decode cX8_init 28 = .ok (.sipush 720, 3) := by decide +kernel
theorem dX8_init_31 : decode cX8_init 31 = .ok (.newarray .int, 2) := by decide +kernel
theorem dX8_init_33 : decode cX8_init 33 = .ok (.putfield 20, 3) := by decide +kernel
theorem dX8_init_36 : decode cX8_init 36 = .ok (.aload_n 0, 1) := by decide +kernel
theorem dX8_init_37 : decode cX8_init 37 = .ok (.bipush 24, 2) := by decide +kernel
theorem dX8_init_39 : decode cX8_init 39 = .ok (.newarray .boolean, 2) := by decide +kernel
theorem dX8_init_41 : decode cX8_init 41 = .ok (.putfield 23, 3) := by decide +kernel
theorem dX8_init_44 : decode cX8_init 44 = .ok (.aload_n 0, 1) := by decide +kernel
theorem dX8_init_45 : decode cX8_init 45 = .ok (.iconst 3, 1) := by decide +kernel
theorem dX8_init_46 : decode cX8_init 46 = .ok (.newarray .int, 2) := by decide +kernel
theorem dX8_init_48 : decode cX8_init 48 = .ok (.putfield 26, 3) := by decide +kernel
theorem dX8_init_51 : decode cX8_init 51 = .ok (.aload_n 0, 1) := by decide +kernel
theorem dX8_init_52 : decode cX8_init 52 = .ok (.bipush 16, 2) := by decide +kernel
theorem dX8_init_54 : decode cX8_init 54 = .ok (.newarray .int, 2) := by decide +kernel
theorem dX8_init_56 : decode cX8_init 56 = .ok (.putfield 29, 3) := by decide +kernel
theorem dX8_init_59 : decode cX8_init 59 = .ok (.aload_n 0, 1) := by decide +kernel
theorem dX8_init_60 : decode cX8_init 60 = .ok (.bipush 12, 2) := by decide +kernel
theorem dX8_init_62 : decode cX8_init 62 = .ok (.newarray .int, 2) := by decide +kernel
theorem dX8_init_64 : decode cX8_init 64 = .ok (.putfield 32, 3) := by decide +kernel
theorem dX8_init_67 : decode cX8_init 67 = .ok (.aload_n 0, 1) := by decide +kernel
theorem dX8_init_68 : decode cX8_init 68 = .ok (.bipush 8, 2) := by decide +kernel
theorem dX8_init_70 : decode cX8_init 70 = .ok (.newarray .int, 2) := by decide +kernel
theorem dX8_init_72 : decode cX8_init 72 = .ok (.putfield 35, 3) := by decide +kernel
theorem dX8_init_75 : decode cX8_init 75 = .ok (.aload_n 0, 1) := by decide +kernel
theorem dX8_init_76 : decode cX8_init 76 = .ok (.iconst 3, 1) := by decide +kernel
theorem dX8_init_77 : decode cX8_init 77 = .ok (.newarray .int, 2) := by decide +kernel
theorem dX8_init_79 : decode cX8_init 79 = .ok (.putfield 38, 3) := by decide +kernel
theorem dX8_init_82 : decode cX8_init 82 = .ok (.aload_n 0, 1) := by decide +kernel
theorem dX8_init_83 : decode cX8_init 83 = .ok (.iconst 3, 1) := by decide +kernel
theorem dX8_init_84 : decode cX8_init 84 = .ok (.newarray .int, 2) := by decide +kernel
theorem dX8_init_86 : decode cX8_init 86 = .ok (.putfield 41, 3) := by decide +kernel
theorem dX8_init_89 : decode cX8_init 89 = .ok (.aload_n 0, 1) := by decide +kernel
theorem dX8_init_90 : decode cX8_init 90 = .ok (.iconst 3, 1) := by decide +kernel
theorem dX8_init_91 : decode cX8_init 91 = .ok (.newarray .int, 2) := by decide +kernel
theorem dX8_init_93 : decode cX8_init 93 = .ok (.putfield 44, 3) := by decide +kernel
theorem dX8_init_96 : decode cX8_init 96 = .ok (.aload_n 0, 1) := by decide +kernel
theorem dX8_init_97 : decode cX8_init 97 = .ok (.iconst 3, 1) := by decide +kernel
theorem dX8_init_98 : decode cX8_init 98 = .ok (.newarray .int, 2) := by decide +kernel
theorem dX8_init_100 : decode cX8_init 100 = .ok (.putfield 47, 3) := by decide +kernel
theorem dX8_init_103 : decode cX8_init 103 = .ok (.aload_n 0, 1) := by decide +kernel
theorem dX8_init_104 : decode cX8_init 104 = .ok (.iconst 3, 1) := by decide +kernel
theorem dX8_init_105 : decode cX8_init 105 = .ok (.newarray .int, 2) := by decide +kernel
theorem dX8_init_107 : decode cX8_init 107 = .ok (.putfield 50, 3) := by decide +kernel
theorem dX8_init_110 : decode cX8_init 110 = .ok (.aload_n 0, 1) := by decide +kernel
theorem dX8_init_111 : decode cX8_init 111 = .ok (.sipush 256, 3) := by decide +kernel
theorem dX8_init_114 : decode cX8_init 114 = .ok (.newarray .int, 2) := by decide +kernel
theorem dX8_init_116 : decode cX8_init 116 = .ok (.putfield 53, 3) := by decide +kernel
theorem dX8_init_119 : decode cX8_init 119 = .ok (.aload_n 0, 1) := by decide +kernel
theorem dX8_init_120 : decode cX8_init 120 = .ok (.invokevirtual 56, 3) := by decide +kernel
theorem dX8_init_123 : decode cX8_init 123 = .ok (.return_, 1) := by decide +kernel
theorem dX8_thrown_0 : decode cX8_thrown 0 = .ok (.aload_n 0, 1) := by decide +kernel
theorem dX8_thrown_1 : decode cX8_thrown 1 = .ok (.getfield 59, 3) := by decide +kernel
theorem dX8_thrown_4 : decode cX8_thrown 4 = .ok (.ireturn, 1) := by decide +kernel
theorem dX8_in_0 : decode cX8_in 0 = .ok (.iload_n 0, 1) := by decide +kernel
theorem dX8_in_1 : decode cX8_in 1 = .ok (.iload_n 1, 1) := by decide +kernel
theorem dX8_in_2 : decode cX8_in 2 = .ok (.if_icmp .lt 12, 3) := by decide +kernel
theorem dX8_in_5 : decode cX8_in 5 = .ok (.iload_n 0, 1) := by decide +kernel
theorem dX8_in_6 : decode cX8_in 6 = .ok (.iload_n 2, 1) := by decide +kernel
theorem dX8_in_7 : decode cX8_in 7 = .ok (.if_icmp .gt 7, 3) := by decide +kernel
theorem dX8_in_10 : decode cX8_in 10 = .ok (.iconst 1, 1) := by decide +kernel
theorem dX8_in_11 : decode cX8_in 11 = .ok (.goto 4, 3) := by decide +kernel
theorem dX8_in_14 : decode cX8_in 14 = .ok (.iconst 0, 1) := by decide +kernel
theorem dX8_in_15 : decode cX8_in 15 = .ok (.ireturn, 1) := by decide +kernel
theorem dX8_isTable_0 : decode cX8_isTable 0 = .ok (.iload_n 1, 1) := by decide +kernel
theorem dX8_isTable_1 : decode cX8_isTable 1 = .ok (.iconst 0, 1) := by decide +kernel
theorem dX8_isTable_2 : decode cX8_isTable 2 = .ok (.iconst 2, 1) := by decide +kernel
theorem dX8_isTable_3 : decode cX8_isTable 3 = .ok (.invokestatic 63, 3) := by decide +kernel
theorem dX8_isTable_6 : decode cX8_isTable 6 = .ok (.ifCond .eq 16, 3) := by decide +kernel
theorem dX8_isTable_9 : decode cX8_isTable 9 = .ok (.aload_n 0, 1) := by decide +kernel
theorem dX8_isTable_10 : decode cX8_isTable 10 = .ok (.getfield 7, 3) := by decide +kernel
theorem dX8_isTable_13 : decode cX8_isTable 13 = .ok (.iload_n 1, 1) := by decide +kernel
theorem dX8_isTable_14 : decode cX8_isTable 14 = .ok (.iaload, 1) := by decide +kernel
theorem dX8_isTable_15 : decode cX8_isTable 15 = .ok (.ifCond .le 7, 3) := by decide +kernel
theorem dX8_isTable_18 : decode cX8_isTable 18 = .ok (.iconst 1, 1) := by decide +kernel
theorem dX8_isTable_19 : decode cX8_isTable 19 = .ok (.goto 4, 3) := by decide +kernel
theorem dX8_isTable_22 : decode cX8_isTable 22 = .ok (.iconst 0, 1) := by decide +kernel
theorem dX8_isTable_23 : decode cX8_isTable 23 = .ok (.ireturn, 1) := by decide +kernel
theorem dX8_isRow_0 : decode cX8_isRow 0 = .ok (.aload_n 0, 1) := by decide +kernel
theorem dX8_isRow_1 : decode cX8_isRow 1 = .ok (.iload_n 1, 1) := by decide +kernel
theorem dX8_isRow_2 : decode cX8_isRow 2 = .ok (.invokevirtual 67, 3) := by decide +kernel
theorem dX8_isRow_5 : decode cX8_isRow 5 = .ok (.ifCond .eq 31, 3) := by decide +kernel
theorem dX8_isRow_8 : decode cX8_isRow 8 = .ok (.iload_n 2, 1) := by decide +kernel
theorem dX8_isRow_9 : decode cX8_isRow 9 = .ok (.iconst 0, 1) := by decide +kernel
theorem dX8_isRow_10 : decode cX8_isRow 10 = .ok (.bipush 59, 2) := by decide +kernel
theorem dX8_isRow_12 : decode cX8_isRow 12 = .ok (.invokestatic 63, 3) := by decide +kernel
theorem dX8_isRow_15 : decode cX8_isRow 15 = .ok (.ifCond .eq 21, 3) := by decide +kernel
theorem dX8_isRow_18 : decode cX8_isRow 18 = .ok (.aload_n 0, 1) := by decide +kernel
theorem dX8_isRow_19 : decode cX8_isRow 19 = .ok (.getfield 16, 3) := by decide +kernel
theorem dX8_isRow_22 : decode cX8_isRow 22 = .ok (.bipush 60, 2) := by decide +kernel
theorem dX8_isRow_24 : decode cX8_isRow 24 = .ok (.iload_n 1, 1) := by decide +kernel
theorem dX8_isRow_25 : decode cX8_isRow 25 = .ok (.imul, 1) := by decide +kernel
theorem dX8_isRow_26 : decode cX8_isRow 26 = .ok (.iload_n 2, 1) := by decide +kernel
theorem dX8_isRow_27 : decode cX8_isRow 27 = .ok (.iadd, 1) := by decide +kernel
theorem dX8_isRow_28 : decode cX8_isRow 28 = .ok (.baload, 1) := by decide +kernel
theorem dX8_isRow_29 : decode cX8_isRow 29 = .ok (.ifCond .eq 7, 3) := by decide +kernel
theorem dX8_isRow_32 : decode cX8_isRow 32 = .ok (.iconst 1, 1) := by decide +kernel
theorem dX8_isRow_33 : decode cX8_isRow 33 = .ok (.goto 4, 3) := by decide +kernel
theorem dX8_isRow_36 : decode cX8_isRow 36 = .ok (.iconst 0, 1) := by decide +kernel
theorem dX8_isRow_37 : decode cX8_isRow 37 = .ok (.ireturn, 1) := by decide +kernel
theorem dX8_isColumn_0 : decode cX8_isColumn 0 = .ok (.aload_n 0, 1) := by decide +kernel
theorem dX8_isColumn_1 : decode cX8_isColumn 1 = .ok (.iload_n 1, 1) := by decide +kernel
theorem dX8_isColumn_2 : decode cX8_isColumn 2 = .ok (.invokevirtual 67, 3) := by decide +kernel
theorem dX8_isColumn_5 : decode cX8_isColumn 5 = .ok (.ifCond .eq 23, 3) := by decide +kernel
theorem dX8_isColumn_8 : decode cX8_isColumn 8 = .ok (.iload_n 2, 1) := by decide +kernel
theorem dX8_isColumn_9 : decode cX8_isColumn 9 = .ok (.iconst 0, 1) := by decide +kernel
theorem dX8_isColumn_10 : decode cX8_isColumn 10 = .ok (.aload_n 0, 1) := by decide +kernel
theorem dX8_isColumn_11 : decode cX8_isColumn 11 = .ok (.getfield 7, 3) := by decide +kernel
theorem dX8_isColumn_14 : decode cX8_isColumn 14 = .ok (.iload_n 1, 1) := by decide +kernel
theorem dX8_isColumn_15 : decode cX8_isColumn 15 = .ok (.iaload, 1) := by decide +kernel
theorem dX8_isColumn_16 : decode cX8_isColumn 16 = .ok (.iconst 1, 1) := by decide +kernel
theorem dX8_isColumn_17 : decode cX8_isColumn 17 = .ok (.isub, 1) := by decide +kernel
theorem dX8_isColumn_18 : decode cX8_isColumn 18 = .ok (.invokestatic 63, 3) := by decide +kernel
theorem dX8_isColumn_21 : decode cX8_isColumn 21 = .ok (.ifCond .eq 7, 3) := by decide +kernel
theorem dX8_isColumn_24 : decode cX8_isColumn 24 = .ok (.iconst 1, 1) := by decide +kernel
theorem dX8_isColumn_25 : decode cX8_isColumn 25 = .ok (.goto 4, 3) := by decide +kernel
theorem dX8_isColumn_28 : decode cX8_isColumn 28 = .ok (.iconst 0, 1) := by decide +kernel
theorem dX8_isColumn_29 : decode cX8_isColumn 29 = .ok (.ireturn, 1) := by decide +kernel
theorem dX8_rowsOf_0 : decode cX8_rowsOf 0 = .ok (.iconst 0, 1) := by decide +kernel
theorem dX8_rowsOf_1 : decode cX8_rowsOf 1 = .ok (.istore_n 2, 1) := by decide +kernel
theorem dX8_rowsOf_2 : decode cX8_rowsOf 2 = .ok (.iconst 0, 1) := by decide +kernel
theorem dX8_rowsOf_3 : decode cX8_rowsOf 3 = .ok (.istore_n 3, 1) := by decide +kernel
theorem dX8_rowsOf_4 : decode cX8_rowsOf 4 = .ok (.iload_n 3, 1) := by decide +kernel
theorem dX8_rowsOf_5 : decode cX8_rowsOf 5 = .ok (.bipush 60, 2) := by decide +kernel
theorem dX8_rowsOf_7 : decode cX8_rowsOf 7 = .ok (.if_icmp .ge 31, 3) := by decide +kernel
theorem dX8_rowsOf_10 : decode cX8_rowsOf 10 = .ok (.iload_n 2, 1) := by decide +kernel
theorem dX8_rowsOf_11 : decode cX8_rowsOf 11 = .ok (.aload_n 0, 1) := by decide +kernel
theorem dX8_rowsOf_12 : decode cX8_rowsOf 12 = .ok (.getfield 16, 3) := by decide +kernel
theorem dX8_rowsOf_15 : decode cX8_rowsOf 15 = .ok (.bipush 60, 2) := by decide +kernel
theorem dX8_rowsOf_17 : decode cX8_rowsOf 17 = .ok (.iload_n 1, 1) := by decide +kernel
theorem dX8_rowsOf_18 : decode cX8_rowsOf 18 = .ok (.imul, 1) := by decide +kernel
theorem dX8_rowsOf_19 : decode cX8_rowsOf 19 = .ok (.iload_n 3, 1) := by decide +kernel
theorem dX8_rowsOf_20 : decode cX8_rowsOf 20 = .ok (.iadd, 1) := by decide +kernel
theorem dX8_rowsOf_21 : decode cX8_rowsOf 21 = .ok (.baload, 1) := by decide +kernel
theorem dX8_rowsOf_22 : decode cX8_rowsOf 22 = .ok (.ifCond .eq 7, 3) := by decide +kernel
theorem dX8_rowsOf_25 : decode cX8_rowsOf 25 = .ok (.iconst 1, 1) := by decide +kernel
theorem dX8_rowsOf_26 : decode cX8_rowsOf 26 = .ok (.goto 4, 3) := by decide +kernel
theorem dX8_rowsOf_29 : decode cX8_rowsOf 29 = .ok (.iconst 0, 1) := by decide +kernel
theorem dX8_rowsOf_30 : decode cX8_rowsOf 30 = .ok (.iadd, 1) := by decide +kernel
theorem dX8_rowsOf_31 : decode cX8_rowsOf 31 = .ok (.istore_n 2, 1) := by decide +kernel
theorem dX8_rowsOf_32 : decode cX8_rowsOf 32 = .ok (.iinc 3 1, 3) := by decide +kernel
theorem dX8_rowsOf_35 : decode cX8_rowsOf 35 = .ok (.goto (-31), 3) := by decide +kernel
theorem dX8_rowsOf_38 : decode cX8_rowsOf 38 = .ok (.iload_n 2, 1) := by decide +kernel
theorem dX8_rowsOf_39 : decode cX8_rowsOf 39 = .ok (.ireturn, 1) := by decide +kernel
theorem dX8_get_0 : decode cX8_get 0 = .ok (.aload_n 0, 1) := by decide +kernel
theorem dX8_get_1 : decode cX8_get 1 = .ok (.getfield 20, 3) := by decide +kernel
theorem dX8_get_4 : decode cX8_get 4 = .ok (.sipush 240, 3) := by decide +kernel
theorem dX8_get_7 : decode cX8_get 7 = .ok (.iload_n 1, 1) := by decide +kernel
theorem dX8_get_8 : decode cX8_get 8 = .ok (.imul, 1) := by decide +kernel
theorem dX8_get_9 : decode cX8_get 9 = .ok (.iconst 4, 1) := by decide +kernel
theorem dX8_get_10 : decode cX8_get 10 = .ok (.iload_n 2, 1) := by decide +kernel
theorem dX8_get_11 : decode cX8_get 11 = .ok (.imul, 1) := by decide +kernel
theorem dX8_get_12 : decode cX8_get 12 = .ok (.iadd, 1) := by decide +kernel
theorem dX8_get_13 : decode cX8_get 13 = .ok (.iload_n 3, 1) := by decide +kernel
theorem dX8_get_14 : decode cX8_get 14 = .ok (.iadd, 1) := by decide +kernel
theorem dX8_get_15 : decode cX8_get 15 = .ok (.iaload, 1) := by decide +kernel
theorem dX8_get_16 : decode cX8_get 16 = .ok (.ireturn, 1) := by decide +kernel
theorem dX8_changed_0 : decode cX8_changed 0 = .ok (.aload_n 0, 1) := by decide +kernel
theorem dX8_changed_1 : decode cX8_changed 1 = .ok (.aload_n 0, 1) := by decide +kernel
theorem dX8_changed_2 : decode cX8_changed 2 = .ok (.getfield 71, 3) := by decide +kernel
theorem dX8_changed_5 : decode cX8_changed 5 = .ok (.iconst 1, 1) := by decide +kernel
theorem dX8_changed_6 : decode cX8_changed 6 = .ok (.if_icmp .ne 7, 3) := by decide +kernel
theorem dX8_changed_9 : decode cX8_changed 9 = .ok (.iconst 3, 1) := by decide +kernel
theorem dX8_changed_10 : decode cX8_changed 10 = .ok (.goto 7, 3) := by decide +kernel
theorem dX8_changed_13 : decode cX8_changed 13 = .ok (.aload_n 0, 1) := by decide +kernel
theorem dX8_changed_14 : decode cX8_changed 14 = .ok (.getfield 71, 3) := by decide +kernel
theorem dX8_changed_17 : decode cX8_changed 17 = .ok (.putfield 71, 3) := by decide +kernel
theorem dX8_changed_20 : decode cX8_changed 20 = .ok (.return_, 1) := by decide +kernel
theorem dX8_create_0 : decode cX8_create 0 = .ok (.aload_n 0, 1) := by decide +kernel
theorem dX8_create_1 : decode cX8_create 1 = .ok (.iconst 0, 1) := by decide +kernel
theorem dX8_create_2 : decode cX8_create 2 = .ok (.putfield 59, 3) := by decide +kernel
theorem dX8_create_5 : decode cX8_create 5 = .ok (.iload_n 1, 1) := by decide +kernel
theorem dX8_create_6 : decode cX8_create 6 = .ok (.iconst 0, 1) := by decide +kernel
theorem dX8_create_7 : decode cX8_create 7 = .ok (.iconst 2, 1) := by decide +kernel
theorem dX8_create_8 : decode cX8_create 8 = .ok (.invokestatic 63, 3) := by decide +kernel
theorem dX8_create_11 : decode cX8_create 11 = .ok (.ifCond .eq 12, 3) := by decide +kernel
theorem dX8_create_14 : decode cX8_create 14 = .ok (.iload_n 2, 1) := by decide +kernel
theorem dX8_create_15 : decode cX8_create 15 = .ok (.iconst 1, 1) := by decide +kernel
theorem dX8_create_16 : decode cX8_create 16 = .ok (.iconst 4, 1) := by decide +kernel
theorem dX8_create_17 : decode cX8_create 17 = .ok (.invokestatic 63, 3) := by decide +kernel
theorem dX8_create_20 : decode cX8_create 20 = .ok (.ifCond .ne 5, 3) := by decide +kernel
theorem dX8_create_23 : decode cX8_create 23 = .ok (.iconst 0, 1) := by decide +kernel
theorem dX8_create_24 : decode cX8_create 24 = .ok (.ireturn, 1) := by decide +kernel
theorem dX8_create_25 : decode cX8_create 25 = .ok (.aload_n 0, 1) := by decide +kernel
theorem dX8_create_26 : decode cX8_create 26 = .ok (.getfield 7, 3) := by decide +kernel
theorem dX8_create_29 : decode cX8_create 29 = .ok (.iload_n 1, 1) := by decide +kernel
theorem dX8_create_30 : decode cX8_create 30 = .ok (.iload_n 2, 1) := by decide +kernel
theorem dX8_create_31 : decode cX8_create 31 = .ok (.iastore, 1) := by decide +kernel
theorem dX8_create_32 : decode cX8_create 32 = .ok (.aload_n 0, 1) := by decide +kernel
theorem dX8_create_33 : decode cX8_create 33 = .ok (.getfield 13, 3) := by decide +kernel
theorem dX8_create_36 : decode cX8_create 36 = .ok (.iload_n 1, 1) := by decide +kernel
theorem dX8_create_37 : decode cX8_create 37 = .ok (.iconst 0, 1) := by decide +kernel
theorem dX8_create_38 : decode cX8_create 38 = .ok (.iastore, 1) := by decide +kernel
theorem dX8_create_39 : decode cX8_create 39 = .ok (.iconst 0, 1) := by decide +kernel
theorem dX8_create_40 : decode cX8_create 40 = .ok (.istore_n 3, 1) := by decide +kernel
theorem dX8_create_41 : decode cX8_create 41 = .ok (.iload_n 3, 1) := by decide +kernel
theorem dX8_create_42 : decode cX8_create 42 = .ok (.bipush 60, 2) := by decide +kernel
theorem dX8_create_44 : decode cX8_create 44 = .ok (.if_icmp .ge 21, 3) := by decide +kernel
theorem dX8_create_47 : decode cX8_create 47 = .ok (.aload_n 0, 1) := by decide +kernel
theorem dX8_create_48 : decode cX8_create 48 = .ok (.getfield 16, 3) := by decide +kernel
theorem dX8_create_51 : decode cX8_create 51 = .ok (.bipush 60, 2) := by decide +kernel
theorem dX8_create_53 : decode cX8_create 53 = .ok (.iload_n 1, 1) := by decide +kernel
theorem dX8_create_54 : decode cX8_create 54 = .ok (.imul, 1) := by decide +kernel
theorem dX8_create_55 : decode cX8_create 55 = .ok (.iload_n 3, 1) := by decide +kernel
theorem dX8_create_56 : decode cX8_create 56 = .ok (.iadd, 1) := by decide +kernel
theorem dX8_create_57 : decode cX8_create 57 = .ok (.iconst 0, 1) := by decide +kernel
theorem dX8_create_58 : decode cX8_create 58 = .ok (.bastore, 1) := by decide +kernel
theorem dX8_create_59 : decode cX8_create 59 = .ok (.iinc 3 1, 3) := by decide +kernel
theorem dX8_create_62 : decode cX8_create 62 = .ok (.goto (-21), 3) := by decide +kernel
theorem dX8_create_65 : decode cX8_create 65 = .ok (.iconst 0, 1) := by decide +kernel
theorem dX8_create_66 : decode cX8_create 66 = .ok (.istore_n 3, 1) := by decide +kernel
theorem dX8_create_67 : decode cX8_create 67 = .ok (.iload_n 3, 1) := by decide +kernel
theorem dX8_create_68 : decode cX8_create 68 = .ok (.bipush 8, 2) := by decide +kernel
theorem dX8_create_70 : decode cX8_create 70 = .ok (.if_icmp .ge 21, 3) := by decide +kernel
theorem dX8_create_73 : decode cX8_create 73 = .ok (.aload_n 0, 1) := by decide +kernel
theorem dX8_create_74 : decode cX8_create 74 = .ok (.getfield 23, 3) := by decide +kernel
theorem dX8_create_77 : decode cX8_create 77 = .ok (.bipush 8, 2) := by decide +kernel
theorem dX8_create_79 : decode cX8_create 79 = .ok (.iload_n 1, 1) := by decide +kernel
theorem dX8_create_80 : decode cX8_create 80 = .ok (.imul, 1) := by decide +kernel
theorem dX8_create_81 : decode cX8_create 81 = .ok (.iload_n 3, 1) := by decide +kernel
theorem dX8_create_82 : decode cX8_create 82 = .ok (.iadd, 1) := by decide +kernel
theorem dX8_create_83 : decode cX8_create 83 = .ok (.iconst 0, 1) := by decide +kernel
theorem dX8_create_84 : decode cX8_create 84 = .ok (.bastore, 1) := by decide +kernel
theorem dX8_create_85 : decode cX8_create 85 = .ok (.iinc 3 1, 3) := by decide +kernel
theorem dX8_create_88 : decode cX8_create 88 = .ok (.goto (-21), 3) := by decide +kernel
theorem dX8_create_91 : decode cX8_create 91 = .ok (.aload_n 0, 1) := by decide +kernel
theorem dX8_create_92 : decode cX8_create 92 = .ok (.invokevirtual 56, 3) := by decide +kernel
theorem dX8_create_95 : decode cX8_create 95 = .ok (.iconst 1, 1) := by decide +kernel
theorem dX8_create_96 : decode cX8_create 96 = .ok (.ireturn, 1) := by decide +kernel
theorem dX8_insert_0 : decode cX8_insert 0 = .ok (.aload_n 0, 1) := by decide +kernel
theorem dX8_insert_1 : decode cX8_insert 1 = .ok (.aload_n 0, 1) := by decide +kernel
theorem dX8_insert_2 : decode cX8_insert 2 = .ok (.iload_n 1, 1) := by decide +kernel
theorem dX8_insert_3 : decode cX8_insert 3 = .ok (.invokevirtual 67, 3) := by decide +kernel
theorem dX8_insert_6 : decode cX8_insert 6 = .ok (.ifCond .ne 7, 3) := by decide +kernel
theorem dX8_insert_9 : decode cX8_insert 9 = .ok (.iconst 1, 1) := by decide +kernel
theorem dX8_insert_10 : decode cX8_insert 10 = .ok (.goto 29, 3) := by decide +kernel
theorem dX8_insert_13 : decode cX8_insert 13 = .ok (.aload_n 0, 1) := by decide +kernel
theorem dX8_insert_14 : decode cX8_insert 14 = .ok (.iload_n 1, 1) := by decide +kernel
theorem dX8_insert_15 : decode cX8_insert 15 = .ok (.invokevirtual 74, 3) := by decide +kernel
theorem dX8_insert_18 : decode cX8_insert 18 = .ok (.bipush 24, 2) := by decide +kernel
theorem dX8_insert_20 : decode cX8_insert 20 = .ok (.if_icmp .eq 14, 3) := by decide +kernel
theorem dX8_insert_23 : decode cX8_insert 23 = .ok (.aload_n 0, 1) := by decide +kernel
theorem dX8_insert_24 : decode cX8_insert 24 = .ok (.getfield 13, 3) := by decide +kernel
theorem dX8_insert_27 : decode cX8_insert 27 = .ok (.iload_n 1, 1) := by decide +kernel
theorem dX8_insert_28 : decode cX8_insert 28 = .ok (.iaload, 1) := by decide +kernel
theorem dX8_insert_29 : decode cX8_insert 29 = .ok (.bipush 60, 2) := by decide +kernel
theorem dX8_insert_31 : decode cX8_insert 31 = .ok (.if_icmp .ne 7, 3) := by decide +kernel
theorem dX8_insert_34 : decode cX8_insert 34 = .ok (.iconst 2, 1) := by decide +kernel
theorem dX8_insert_35 : decode cX8_insert 35 = .ok (.goto 4, 3) := by decide +kernel
theorem dX8_insert_38 : decode cX8_insert 38 = .ok (.iconst 0, 1) := by decide +kernel
theorem dX8_insert_39 : decode cX8_insert 39 = .ok (.putfield 59, 3) := by decide +kernel
theorem dX8_insert_42 : decode cX8_insert 42 = .ok (.aload_n 0, 1) := by decide +kernel
theorem dX8_insert_43 : decode cX8_insert 43 = .ok (.getfield 59, 3) := by decide +kernel
theorem dX8_insert_46 : decode cX8_insert 46 = .ok (.ifCond .le 5, 3) := by decide +kernel
theorem dX8_insert_49 : decode cX8_insert 49 = .ok (.iconst 0, 1) := by decide +kernel
theorem dX8_insert_50 : decode cX8_insert 50 = .ok (.ireturn, 1) := by decide +kernel
theorem dX8_insert_51 : decode cX8_insert 51 = .ok (.aload_n 0, 1) := by decide +kernel
theorem dX8_insert_52 : decode cX8_insert 52 = .ok (.getfield 13, 3) := by decide +kernel
theorem dX8_insert_55 : decode cX8_insert 55 = .ok (.iload_n 1, 1) := by decide +kernel
theorem dX8_insert_56 : decode cX8_insert 56 = .ok (.iaload, 1) := by decide +kernel
theorem dX8_insert_57 : decode cX8_insert 57 = .ok (.istore 6, 2) := by decide +kernel
theorem dX8_insert_59 : decode cX8_insert 59 = .ok (.aload_n 0, 1) := by decide +kernel
theorem dX8_insert_60 : decode cX8_insert 60 = .ok (.getfield 13, 3) := by decide +kernel
theorem dX8_insert_63 : decode cX8_insert 63 = .ok (.iload_n 1, 1) := by decide +kernel
theorem dX8_insert_64 : decode cX8_insert 64 = .ok (.dup2, 1) := by decide +kernel
theorem dX8_insert_65 : decode cX8_insert 65 = .ok (.iaload, 1) := by decide +kernel
theorem dX8_insert_66 : decode cX8_insert 66 = .ok (.iconst 1, 1) := by decide +kernel
theorem dX8_insert_67 : decode cX8_insert 67 = .ok (.iadd, 1) := by decide +kernel
theorem dX8_insert_68 : decode cX8_insert 68 = .ok (.iastore, 1) := by decide +kernel
theorem dX8_insert_69 : decode cX8_insert 69 = .ok (.aload_n 0, 1) := by decide +kernel
theorem dX8_insert_70 : decode cX8_insert 70 = .ok (.getfield 16, 3) := by decide +kernel
theorem dX8_insert_73 : decode cX8_insert 73 = .ok (.bipush 60, 2) := by decide +kernel
theorem dX8_insert_75 : decode cX8_insert 75 = .ok (.iload_n 1, 1) := by decide +kernel
theorem dX8_insert_76 : decode cX8_insert 76 = .ok (.imul, 1) := by decide +kernel
theorem dX8_insert_77 : decode cX8_insert 77 = .ok (.iload 6, 2) := by decide +kernel
theorem dX8_insert_79 : decode cX8_insert 79 = .ok (.iadd, 1) := by decide +kernel
theorem dX8_insert_80 : decode cX8_insert 80 = .ok (.iconst 1, 1) := by decide +kernel
theorem dX8_insert_81 : decode cX8_insert 81 = .ok (.bastore, 1) := by decide +kernel
theorem dX8_insert_82 : decode cX8_insert 82 = .ok (.sipush 240, 3) := by decide +kernel
theorem dX8_insert_85 : decode cX8_insert 85 = .ok (.iload_n 1, 1) := by decide +kernel
theorem dX8_insert_86 : decode cX8_insert 86 = .ok (.imul, 1) := by decide +kernel
theorem dX8_insert_87 : decode cX8_insert 87 = .ok (.iconst 4, 1) := by decide +kernel
theorem dX8_insert_88 : decode cX8_insert 88 = .ok (.iload 6, 2) := by decide +kernel
theorem dX8_insert_90 : decode cX8_insert 90 = .ok (.imul, 1) := by decide +kernel
theorem dX8_insert_91 : decode cX8_insert 91 = .ok (.iadd, 1) := by decide +kernel
theorem dX8_insert_92 : decode cX8_insert 92 = .ok (.istore 7, 2) := by decide +kernel
theorem dX8_insert_94 : decode cX8_insert 94 = .ok (.aload_n 0, 1) := by decide +kernel
theorem dX8_insert_95 : decode cX8_insert 95 = .ok (.getfield 20, 3) := by decide +kernel
theorem dX8_insert_98 : decode cX8_insert 98 = .ok (.iload 7, 2) := by decide +kernel
theorem dX8_insert_100 : decode cX8_insert 100 = .ok (.iload_n 2, 1) := by decide +kernel
theorem dX8_insert_101 : decode cX8_insert 101 = .ok (.iastore, 1) := by decide +kernel
theorem dX8_insert_102 : decode cX8_insert 102 = .ok (.aload_n 0, 1) := by decide +kernel
theorem dX8_insert_103 : decode cX8_insert 103 = .ok (.getfield 20, 3) := by decide +kernel
theorem dX8_insert_106 : decode cX8_insert 106 = .ok (.iload 7, 2) := by decide +kernel
theorem dX8_insert_108 : decode cX8_insert 108 = .ok (.iconst 1, 1) := by decide +kernel
theorem dX8_insert_109 : decode cX8_insert 109 = .ok (.iadd, 1) := by decide +kernel
theorem dX8_insert_110 : decode cX8_insert 110 = .ok (.iload_n 3, 1) := by decide +kernel
theorem dX8_insert_111 : decode cX8_insert 111 = .ok (.iastore, 1) := by decide +kernel
theorem dX8_insert_112 : decode cX8_insert 112 = .ok (.aload_n 0, 1) := by decide +kernel
theorem dX8_insert_113 : decode cX8_insert 113 = .ok (.getfield 20, 3) := by decide +kernel
theorem dX8_insert_116 : decode cX8_insert 116 = .ok (.iload 7, 2) := by decide +kernel
theorem dX8_insert_118 : decode cX8_insert 118 = .ok (.iconst 2, 1) := by decide +kernel
theorem dX8_insert_119 : decode cX8_insert 119 = .ok (.iadd, 1) := by decide +kernel
theorem dX8_insert_120 : decode cX8_insert 120 = .ok (.iload 4, 2) := by decide +kernel
theorem dX8_insert_122 : decode cX8_insert 122 = .ok (.iastore, 1) := by decide +kernel
theorem dX8_insert_123 : decode cX8_insert 123 = .ok (.aload_n 0, 1) := by decide +kernel
theorem dX8_insert_124 : decode cX8_insert 124 = .ok (.getfield 20, 3) := by decide +kernel
theorem dX8_insert_127 : decode cX8_insert 127 = .ok (.iload 7, 2) := by decide +kernel
theorem dX8_insert_129 : decode cX8_insert 129 = .ok (.iconst 3, 1) := by decide +kernel
theorem dX8_insert_130 : decode cX8_insert 130 = .ok (.iadd, 1) := by decide +kernel
theorem dX8_insert_131 : decode cX8_insert 131 = .ok (.iload 5, 2) := by decide +kernel
theorem dX8_insert_133 : decode cX8_insert 133 = .ok (.iastore, 1) := by decide +kernel
theorem dX8_insert_134 : decode cX8_insert 134 = .ok (.aload_n 0, 1) := by decide +kernel
theorem dX8_insert_135 : decode cX8_insert 135 = .ok (.invokevirtual 78, 3) := by decide +kernel
theorem dX8_insert_138 : decode cX8_insert 138 = .ok (.iload 6, 2) := by decide +kernel
theorem dX8_insert_140 : decode cX8_insert 140 = .ok (.ireturn, 1) := by decide +kernel
theorem dX8_delete_0 : decode cX8_delete 0 = .ok (.aload_n 0, 1) := by decide +kernel
theorem dX8_delete_1 : decode cX8_delete 1 = .ok (.aload_n 0, 1) := by decide +kernel
theorem dX8_delete_2 : decode cX8_delete 2 = .ok (.iload_n 1, 1) := by decide +kernel
theorem dX8_delete_3 : decode cX8_delete 3 = .ok (.iload_n 2, 1) := by decide +kernel
theorem dX8_delete_4 : decode cX8_delete 4 = .ok (.invokevirtual 81, 3) := by decide +kernel
theorem dX8_delete_7 : decode cX8_delete 7 = .ok (.ifCond .eq 7, 3) := by decide +kernel
theorem dX8_delete_10 : decode cX8_delete 10 = .ok (.iconst 0, 1) := by decide +kernel
theorem dX8_delete_11 : decode cX8_delete 11 = .ok (.goto 4, 3) := by decide +kernel
theorem dX8_delete_14 : decode cX8_delete 14 = .ok (.iconst 1, 1) := by decide +kernel
theorem dX8_delete_15 : decode cX8_delete 15 = .ok (.putfield 59, 3) := by decide +kernel
theorem dX8_delete_18 : decode cX8_delete 18 = .ok (.aload_n 0, 1) := by decide +kernel
theorem dX8_delete_19 : decode cX8_delete 19 = .ok (.getfield 59, 3) := by decide +kernel
theorem dX8_delete_22 : decode cX8_delete 22 = .ok (.ifCond .ne 19, 3) := by decide +kernel
theorem dX8_delete_25 : decode cX8_delete 25 = .ok (.aload_n 0, 1) := by decide +kernel
theorem dX8_delete_26 : decode cX8_delete 26 = .ok (.getfield 16, 3) := by decide +kernel
theorem dX8_delete_29 : decode cX8_delete 29 = .ok (.bipush 60, 2) := by decide +kernel
theorem dX8_delete_31 : decode cX8_delete 31 = .ok (.iload_n 1, 1) := by decide +kernel
theorem dX8_delete_32 : decode cX8_delete 32 = .ok (.imul, 1) := by decide +kernel
theorem dX8_delete_33 : decode cX8_delete 33 = .ok (.iload_n 2, 1) := by decide +kernel
theorem dX8_delete_34 : decode cX8_delete 34 = .ok (.iadd, 1) := by decide +kernel
theorem dX8_delete_35 : decode cX8_delete 35 = .ok (.iconst 0, 1) := by decide +kernel
theorem dX8_delete_36 : decode cX8_delete 36 = .ok (.bastore, 1) := by decide +kernel
theorem dX8_delete_37 : decode cX8_delete 37 = .ok (.aload_n 0, 1) := by decide +kernel
theorem dX8_delete_38 : decode cX8_delete 38 = .ok (.invokevirtual 78, 3) := by decide +kernel
theorem dX8_delete_41 : decode cX8_delete 41 = .ok (.return_, 1) := by decide +kernel
theorem dX8_update_0 : decode cX8_update 0 = .ok (.aload_n 0, 1) := by decide +kernel
theorem dX8_update_1 : decode cX8_update 1 = .ok (.aload_n 0, 1) := by decide +kernel
theorem dX8_update_2 : decode cX8_update 2 = .ok (.iload_n 1, 1) := by decide +kernel
theorem dX8_update_3 : decode cX8_update 3 = .ok (.iload_n 2, 1) := by decide +kernel
theorem dX8_update_4 : decode cX8_update 4 = .ok (.invokevirtual 81, 3) := by decide +kernel
theorem dX8_update_7 : decode cX8_update 7 = .ok (.ifCond .eq 16, 3) := by decide +kernel
theorem dX8_update_10 : decode cX8_update 10 = .ok (.aload_n 0, 1) := by decide +kernel
theorem dX8_update_11 : decode cX8_update 11 = .ok (.iload_n 1, 1) := by decide +kernel
theorem dX8_update_12 : decode cX8_update 12 = .ok (.iload_n 3, 1) := by decide +kernel
theorem dX8_update_13 : decode cX8_update 13 = .ok (.invokevirtual 85, 3) := by decide +kernel
theorem dX8_update_16 : decode cX8_update 16 = .ok (.ifCond .eq 7, 3) := by decide +kernel
theorem dX8_update_19 : decode cX8_update 19 = .ok (.iconst 0, 1) := by decide +kernel
theorem dX8_update_20 : decode cX8_update 20 = .ok (.goto 4, 3) := by decide +kernel
theorem dX8_update_23 : decode cX8_update 23 = .ok (.iconst 1, 1) := by decide +kernel
theorem dX8_update_24 : decode cX8_update 24 = .ok (.putfield 59, 3) := by decide +kernel
theorem dX8_update_27 : decode cX8_update 27 = .ok (.aload_n 0, 1) := by decide +kernel
theorem dX8_update_28 : decode cX8_update 28 = .ok (.getfield 59, 3) := by decide +kernel
theorem dX8_update_31 : decode cX8_update 31 = .ok (.ifCond .ne 25, 3) := by decide +kernel
theorem dX8_update_34 : decode cX8_update 34 = .ok (.aload_n 0, 1) := by decide +kernel
theorem dX8_update_35 : decode cX8_update 35 = .ok (.getfield 20, 3) := by decide +kernel
theorem dX8_update_38 : decode cX8_update 38 = .ok (.sipush 240, 3) := by decide +kernel
theorem dX8_update_41 : decode cX8_update 41 = .ok (.iload_n 1, 1) := by decide +kernel
theorem dX8_update_42 : decode cX8_update 42 = .ok (.imul, 1) := by decide +kernel
theorem dX8_update_43 : decode cX8_update 43 = .ok (.iconst 4, 1) := by decide +kernel
theorem dX8_update_44 : decode cX8_update 44 = .ok (.iload_n 2, 1) := by decide +kernel
theorem dX8_update_45 : decode cX8_update 45 = .ok (.imul, 1) := by decide +kernel
theorem dX8_update_46 : decode cX8_update 46 = .ok (.iadd, 1) := by decide +kernel
theorem dX8_update_47 : decode cX8_update 47 = .ok (.iload_n 3, 1) := by decide +kernel
theorem dX8_update_48 : decode cX8_update 48 = .ok (.iadd, 1) := by decide +kernel
theorem dX8_update_49 : decode cX8_update 49 = .ok (.iload 4, 2) := by decide +kernel
theorem dX8_update_51 : decode cX8_update 51 = .ok (.iastore, 1) := by decide +kernel
theorem dX8_update_52 : decode cX8_update 52 = .ok (.aload_n 0, 1) := by decide +kernel
theorem dX8_update_53 : decode cX8_update 53 = .ok (.invokevirtual 78, 3) := by decide +kernel
theorem dX8_update_56 : decode cX8_update 56 = .ok (.return_, 1) := by decide +kernel
theorem dX8_cell_0 : decode cX8_cell 0 = .ok (.aload_n 0, 1) := by decide +kernel
theorem dX8_cell_1 : decode cX8_cell 1 = .ok (.aload_n 0, 1) := by decide +kernel
theorem dX8_cell_2 : decode cX8_cell 2 = .ok (.iload_n 1, 1) := by decide +kernel
theorem dX8_cell_3 : decode cX8_cell 3 = .ok (.iload_n 2, 1) := by decide +kernel
theorem dX8_cell_4 : decode cX8_cell 4 = .ok (.invokevirtual 81, 3) := by decide +kernel
theorem dX8_cell_7 : decode cX8_cell 7 = .ok (.ifCond .eq 16, 3) := by decide +kernel
theorem dX8_cell_10 : decode cX8_cell 10 = .ok (.aload_n 0, 1) := by decide +kernel
theorem dX8_cell_11 : decode cX8_cell 11 = .ok (.iload_n 1, 1) := by decide +kernel
theorem dX8_cell_12 : decode cX8_cell 12 = .ok (.iload_n 3, 1) := by decide +kernel
theorem dX8_cell_13 : decode cX8_cell 13 = .ok (.invokevirtual 85, 3) := by decide +kernel
theorem dX8_cell_16 : decode cX8_cell 16 = .ok (.ifCond .eq 7, 3) := by decide +kernel
theorem dX8_cell_19 : decode cX8_cell 19 = .ok (.iconst 0, 1) := by decide +kernel
theorem dX8_cell_20 : decode cX8_cell 20 = .ok (.goto 4, 3) := by decide +kernel
theorem dX8_cell_23 : decode cX8_cell 23 = .ok (.iconst 1, 1) := by decide +kernel
theorem dX8_cell_24 : decode cX8_cell 24 = .ok (.putfield 59, 3) := by decide +kernel
theorem dX8_cell_27 : decode cX8_cell 27 = .ok (.aload_n 0, 1) := by decide +kernel
theorem dX8_cell_28 : decode cX8_cell 28 = .ok (.getfield 59, 3) := by decide +kernel
theorem dX8_cell_31 : decode cX8_cell 31 = .ok (.ifCond .ne 13, 3) := by decide +kernel
theorem dX8_cell_34 : decode cX8_cell 34 = .ok (.aload_n 0, 1) := by decide +kernel
theorem dX8_cell_35 : decode cX8_cell 35 = .ok (.iload_n 1, 1) := by decide +kernel
theorem dX8_cell_36 : decode cX8_cell 36 = .ok (.iload_n 2, 1) := by decide +kernel
theorem dX8_cell_37 : decode cX8_cell 37 = .ok (.iload_n 3, 1) := by decide +kernel
theorem dX8_cell_38 : decode cX8_cell 38 = .ok (.invokevirtual 88, 3) := by decide +kernel
theorem dX8_cell_41 : decode cX8_cell 41 = .ok (.goto 4, 3) := by decide +kernel
theorem dX8_cell_44 : decode cX8_cell 44 = .ok (.iconst 0, 1) := by decide +kernel
theorem dX8_cell_45 : decode cX8_cell 45 = .ok (.ireturn, 1) := by decide +kernel
theorem dX8_setIndex_0 : decode cX8_setIndex 0 = .ok (.aload_n 0, 1) := by decide +kernel
theorem dX8_setIndex_1 : decode cX8_setIndex 1 = .ok (.iconst 0, 1) := by decide +kernel
theorem dX8_setIndex_2 : decode cX8_setIndex 2 = .ok (.putfield 59, 3) := by decide +kernel
theorem dX8_setIndex_5 : decode cX8_setIndex 5 = .ok (.aload_n 0, 1) := by decide +kernel
theorem dX8_setIndex_6 : decode cX8_setIndex 6 = .ok (.iload_n 1, 1) := by decide +kernel
theorem dX8_setIndex_7 : decode cX8_setIndex 7 = .ok (.iload_n 2, 1) := by decide +kernel
theorem dX8_setIndex_8 : decode cX8_setIndex 8 = .ok (.invokevirtual 85, 3) := by decide +kernel
theorem dX8_setIndex_11 : decode cX8_setIndex 11 = .ok (.ifCond .eq 32, 3) := by decide +kernel
theorem dX8_setIndex_14 : decode cX8_setIndex 14 = .ok (.iload_n 3, 1) := by decide +kernel
theorem dX8_setIndex_15 : decode cX8_setIndex 15 = .ok (.iconst 0, 1) := by decide +kernel
theorem dX8_setIndex_16 : decode cX8_setIndex 16 = .ok (.iconst 1, 1) := by decide +kernel
theorem dX8_setIndex_17 : decode cX8_setIndex 17 = .ok (.invokestatic 63, 3) := by decide +kernel
theorem dX8_setIndex_20 : decode cX8_setIndex 20 = .ok (.ifCond .eq 23, 3) := by decide +kernel
theorem dX8_setIndex_23 : decode cX8_setIndex 23 = .ok (.aload_n 0, 1) := by decide +kernel
theorem dX8_setIndex_24 : decode cX8_setIndex 24 = .ok (.getfield 23, 3) := by decide +kernel
theorem dX8_setIndex_27 : decode cX8_setIndex 27 = .ok (.bipush 8, 2) := by decide +kernel
theorem dX8_setIndex_29 : decode cX8_setIndex 29 = .ok (.iload_n 1, 1) := by decide +kernel
theorem dX8_setIndex_30 : decode cX8_setIndex 30 = .ok (.imul, 1) := by decide +kernel
theorem dX8_setIndex_31 : decode cX8_setIndex 31 = .ok (.iconst 4, 1) := by decide +kernel
theorem dX8_setIndex_32 : decode cX8_setIndex 32 = .ok (.iload_n 3, 1) := by decide +kernel
theorem dX8_setIndex_33 : decode cX8_setIndex 33 = .ok (.imul, 1) := by decide +kernel
theorem dX8_setIndex_34 : decode cX8_setIndex 34 = .ok (.iadd, 1) := by decide +kernel
theorem dX8_setIndex_35 : decode cX8_setIndex 35 = .ok (.iload_n 2, 1) := by decide +kernel
theorem dX8_setIndex_36 : decode cX8_setIndex 36 = .ok (.iadd, 1) := by decide +kernel
theorem dX8_setIndex_37 : decode cX8_setIndex 37 = .ok (.baload, 1) := by decide +kernel
theorem dX8_setIndex_38 : decode cX8_setIndex 38 = .ok (.iload 4, 2) := by decide +kernel
theorem dX8_setIndex_40 : decode cX8_setIndex 40 = .ok (.if_icmp .ne 5, 3) := by decide +kernel
theorem dX8_setIndex_43 : decode cX8_setIndex 43 = .ok (.iconst 0, 1) := by decide +kernel
theorem dX8_setIndex_44 : decode cX8_setIndex 44 = .ok (.ireturn, 1) := by decide +kernel
theorem dX8_setIndex_45 : decode cX8_setIndex 45 = .ok (.aload_n 0, 1) := by decide +kernel
theorem dX8_setIndex_46 : decode cX8_setIndex 46 = .ok (.getfield 23, 3) := by decide +kernel
theorem dX8_setIndex_49 : decode cX8_setIndex 49 = .ok (.bipush 8, 2) := by decide +kernel
theorem dX8_setIndex_51 : decode cX8_setIndex 51 = .ok (.iload_n 1, 1) := by decide +kernel
theorem dX8_setIndex_52 : decode cX8_setIndex 52 = .ok (.imul, 1) := by decide +kernel
theorem dX8_setIndex_53 : decode cX8_setIndex 53 = .ok (.iconst 4, 1) := by decide +kernel
theorem dX8_setIndex_54 : decode cX8_setIndex 54 = .ok (.iload_n 3, 1) := by decide +kernel
theorem dX8_setIndex_55 : decode cX8_setIndex 55 = .ok (.imul, 1) := by decide +kernel
theorem dX8_setIndex_56 : decode cX8_setIndex 56 = .ok (.iadd, 1) := by decide +kernel
theorem dX8_setIndex_57 : decode cX8_setIndex 57 = .ok (.iload_n 2, 1) := by decide +kernel
theorem dX8_setIndex_58 : decode cX8_setIndex 58 = .ok (.iadd, 1) := by decide +kernel
theorem dX8_setIndex_59 : decode cX8_setIndex 59 = .ok (.iload 4, 2) := by decide +kernel
theorem dX8_setIndex_61 : decode cX8_setIndex 61 = .ok (.bastore, 1) := by decide +kernel
theorem dX8_setIndex_62 : decode cX8_setIndex 62 = .ok (.aload_n 0, 1) := by decide +kernel
theorem dX8_setIndex_63 : decode cX8_setIndex 63 = .ok (.invokevirtual 78, 3) := by decide +kernel
theorem dX8_setIndex_66 : decode cX8_setIndex 66 = .ok (.iconst 1, 1) := by decide +kernel
theorem dX8_setIndex_67 : decode cX8_setIndex 67 = .ok (.ireturn, 1) := by decide +kernel
theorem dX8_index_0 : decode cX8_index 0 = .ok (.aload_n 0, 1) := by decide +kernel
theorem dX8_index_1 : decode cX8_index 1 = .ok (.iload_n 1, 1) := by decide +kernel
theorem dX8_index_2 : decode cX8_index 2 = .ok (.iload_n 2, 1) := by decide +kernel
theorem dX8_index_3 : decode cX8_index 3 = .ok (.iload_n 3, 1) := by decide +kernel
theorem dX8_index_4 : decode cX8_index 4 = .ok (.iconst 1, 1) := by decide +kernel
theorem dX8_index_5 : decode cX8_index 5 = .ok (.invokevirtual 92, 3) := by decide +kernel
theorem dX8_index_8 : decode cX8_index 8 = .ok (.ireturn, 1) := by decide +kernel
theorem dX8_drop_0 : decode cX8_drop 0 = .ok (.aload_n 0, 1) := by decide +kernel
theorem dX8_drop_1 : decode cX8_drop 1 = .ok (.iload_n 1, 1) := by decide +kernel
theorem dX8_drop_2 : decode cX8_drop 2 = .ok (.iload_n 2, 1) := by decide +kernel
theorem dX8_drop_3 : decode cX8_drop 3 = .ok (.iload_n 3, 1) := by decide +kernel
theorem dX8_drop_4 : decode cX8_drop 4 = .ok (.iconst 0, 1) := by decide +kernel
theorem dX8_drop_5 : decode cX8_drop 5 = .ok (.invokevirtual 92, 3) := by decide +kernel
theorem dX8_drop_8 : decode cX8_drop 8 = .ok (.ireturn, 1) := by decide +kernel
theorem dX8_empty_0 : decode cX8_empty 0 = .ok (.aload_n 0, 1) := by decide +kernel
theorem dX8_empty_1 : decode cX8_empty 1 = .ok (.iconst 0, 1) := by decide +kernel
theorem dX8_empty_2 : decode cX8_empty 2 = .ok (.putfield 71, 3) := by decide +kernel
theorem dX8_empty_5 : decode cX8_empty 5 = .ok (.aload_n 0, 1) := by decide +kernel
theorem dX8_empty_6 : decode cX8_empty 6 = .ok (.iconst 0, 1) := by decide +kernel
theorem dX8_empty_7 : decode cX8_empty 7 = .ok (.putfield 96, 3) := by decide +kernel
theorem dX8_empty_10 : decode cX8_empty 10 = .ok (.aload_n 0, 1) := by decide +kernel
theorem dX8_empty_11 : decode cX8_empty 11 = .ok (.iconst 0, 1) := by decide +kernel
theorem dX8_empty_12 : decode cX8_empty 12 = .ok (.putfield 99, 3) := by decide +kernel
theorem dX8_empty_15 : decode cX8_empty 15 = .ok (.aload_n 0, 1) := by decide +kernel
theorem dX8_empty_16 : decode cX8_empty 16 = .ok (.iconst 0, 1) := by decide +kernel
theorem dX8_empty_17 : decode cX8_empty 17 = .ok (.putfield 102, 3) := by decide +kernel
theorem dX8_empty_20 : decode cX8_empty 20 = .ok (.aload_n 0, 1) := by decide +kernel
theorem dX8_empty_21 : decode cX8_empty 21 = .ok (.iconst 0, 1) := by decide +kernel
theorem dX8_empty_22 : decode cX8_empty 22 = .ok (.putfield 105, 3) := by decide +kernel
theorem dX8_empty_25 : decode cX8_empty 25 = .ok (.aload_n 0, 1) := by decide +kernel
theorem dX8_empty_26 : decode cX8_empty 26 = .ok (.iconst (-1), 1) := by decide +kernel
theorem dX8_empty_27 : decode cX8_empty 27 = .ok (.putfield 108, 3) := by decide +kernel
theorem dX8_empty_30 : decode cX8_empty 30 = .ok (.aload_n 0, 1) := by decide +kernel
theorem dX8_empty_31 : decode cX8_empty 31 = .ok (.iconst 0, 1) := by decide +kernel
theorem dX8_empty_32 : decode cX8_empty 32 = .ok (.putfield 111, 3) := by decide +kernel
theorem dX8_empty_35 : decode cX8_empty 35 = .ok (.aload_n 0, 1) := by decide +kernel
theorem dX8_empty_36 : decode cX8_empty 36 = .ok (.bipush 64, 2) := by decide +kernel
theorem dX8_empty_38 : decode cX8_empty 38 = .ok (.putfield 115, 3) := by decide +kernel
theorem dX8_empty_41 : decode cX8_empty 41 = .ok (.aload_n 0, 1) := by decide +kernel
theorem dX8_empty_42 : decode cX8_empty 42 = .ok (.iconst 0, 1) := by decide +kernel
theorem dX8_empty_43 : decode cX8_empty 43 = .ok (.putfield 118, 3) := by decide +kernel
theorem dX8_empty_46 : decode cX8_empty 46 = .ok (.aload_n 0, 1) := by decide +kernel
theorem dX8_empty_47 : decode cX8_empty 47 = .ok (.iconst 0, 1) := by decide +kernel
theorem dX8_empty_48 : decode cX8_empty 48 = .ok (.putfield 121, 3) := by decide +kernel
theorem dX8_empty_51 : decode cX8_empty 51 = .ok (.return_, 1) := by decide +kernel
theorem dX8_ask_0 : decode cX8_ask 0 = .ok (.aload_n 0, 1) := by decide +kernel
theorem dX8_ask_1 : decode cX8_ask 1 = .ok (.iconst 0, 1) := by decide +kernel
theorem dX8_ask_2 : decode cX8_ask 2 = .ok (.putfield 59, 3) := by decide +kernel
theorem dX8_ask_5 : decode cX8_ask 5 = .ok (.aload_n 0, 1) := by decide +kernel
theorem dX8_ask_6 : decode cX8_ask 6 = .ok (.invokevirtual 56, 3) := by decide +kernel
theorem dX8_ask_9 : decode cX8_ask 9 = .ok (.return_, 1) := by decide +kernel
theorem dX8_from_0 : decode cX8_from 0 = .ok (.aload_n 0, 1) := by decide +kernel
theorem dX8_from_1 : decode cX8_from 1 = .ok (.iconst 0, 1) := by decide +kernel
theorem dX8_from_2 : decode cX8_from 2 = .ok (.putfield 59, 3) := by decide +kernel
theorem dX8_from_5 : decode cX8_from 5 = .ok (.aload_n 0, 1) := by decide +kernel
theorem dX8_from_6 : decode cX8_from 6 = .ok (.iload_n 1, 1) := by decide +kernel
theorem dX8_from_7 : decode cX8_from 7 = .ok (.invokevirtual 67, 3) := by decide +kernel
theorem dX8_from_10 : decode cX8_from 10 = .ok (.ifCond .eq 18, 3) := by decide +kernel
theorem dX8_from_13 : decode cX8_from 13 = .ok (.aload_n 0, 1) := by decide +kernel
theorem dX8_from_14 : decode cX8_from 14 = .ok (.getfield 96, 3) := by decide +kernel
theorem dX8_from_17 : decode cX8_from 17 = .ok (.iconst 3, 1) := by decide +kernel
theorem dX8_from_18 : decode cX8_from 18 = .ok (.if_icmp .eq 10, 3) := by decide +kernel
theorem dX8_from_21 : decode cX8_from 21 = .ok (.aload_n 0, 1) := by decide +kernel
theorem dX8_from_22 : decode cX8_from 22 = .ok (.getfield 71, 3) := by decide +kernel
theorem dX8_from_25 : decode cX8_from 25 = .ok (.ifCond .eq 5, 3) := by decide +kernel
theorem dX8_from_28 : decode cX8_from 28 = .ok (.iconst (-1), 1) := by decide +kernel
theorem dX8_from_29 : decode cX8_from 29 = .ok (.ireturn, 1) := by decide +kernel
theorem dX8_from_30 : decode cX8_from 30 = .ok (.aload_n 0, 1) := by decide +kernel
theorem dX8_from_31 : decode cX8_from 31 = .ok (.getfield 26, 3) := by decide +kernel
theorem dX8_from_34 : decode cX8_from 34 = .ok (.aload_n 0, 1) := by decide +kernel
theorem dX8_from_35 : decode cX8_from 35 = .ok (.getfield 96, 3) := by decide +kernel
theorem dX8_from_38 : decode cX8_from 38 = .ok (.iload_n 1, 1) := by decide +kernel
theorem dX8_from_39 : decode cX8_from 39 = .ok (.iastore, 1) := by decide +kernel
theorem dX8_from_40 : decode cX8_from 40 = .ok (.aload_n 0, 1) := by decide +kernel
theorem dX8_from_41 : decode cX8_from 41 = .ok (.dup, 1) := by decide +kernel
theorem dX8_from_42 : decode cX8_from 42 = .ok (.getfield 96, 3) := by decide +kernel
theorem dX8_from_45 : decode cX8_from 45 = .ok (.iconst 1, 1) := by decide +kernel
theorem dX8_from_46 : decode cX8_from 46 = .ok (.iadd, 1) := by decide +kernel
theorem dX8_from_47 : decode cX8_from 47 = .ok (.putfield 96, 3) := by decide +kernel
theorem dX8_from_50 : decode cX8_from 50 = .ok (.aload_n 0, 1) := by decide +kernel
theorem dX8_from_51 : decode cX8_from 51 = .ok (.getfield 96, 3) := by decide +kernel
theorem dX8_from_54 : decode cX8_from 54 = .ok (.iconst 1, 1) := by decide +kernel
theorem dX8_from_55 : decode cX8_from 55 = .ok (.isub, 1) := by decide +kernel
theorem dX8_from_56 : decode cX8_from 56 = .ok (.ireturn, 1) := by decide +kernel
theorem dX8_has_0 : decode cX8_has 0 = .ok (.aload_n 0, 1) := by decide +kernel
theorem dX8_has_1 : decode cX8_has 1 = .ok (.getfield 71, 3) := by decide +kernel
theorem dX8_has_4 : decode cX8_has 4 = .ok (.ifCond .ne 35, 3) := by decide +kernel
theorem dX8_has_7 : decode cX8_has 7 = .ok (.iload_n 1, 1) := by decide +kernel
theorem dX8_has_8 : decode cX8_has 8 = .ok (.iconst 0, 1) := by decide +kernel
theorem dX8_has_9 : decode cX8_has 9 = .ok (.aload_n 0, 1) := by decide +kernel
theorem dX8_has_10 : decode cX8_has 10 = .ok (.getfield 96, 3) := by decide +kernel
theorem dX8_has_13 : decode cX8_has 13 = .ok (.iconst 1, 1) := by decide +kernel
theorem dX8_has_14 : decode cX8_has 14 = .ok (.isub, 1) := by decide +kernel
theorem dX8_has_15 : decode cX8_has 15 = .ok (.invokestatic 63, 3) := by decide +kernel
theorem dX8_has_18 : decode cX8_has 18 = .ok (.ifCond .eq 21, 3) := by decide +kernel
theorem dX8_has_21 : decode cX8_has 21 = .ok (.aload_n 0, 1) := by decide +kernel
theorem dX8_has_22 : decode cX8_has 22 = .ok (.aload_n 0, 1) := by decide +kernel
theorem dX8_has_23 : decode cX8_has 23 = .ok (.getfield 26, 3) := by decide +kernel
theorem dX8_has_26 : decode cX8_has 26 = .ok (.iload_n 1, 1) := by decide +kernel
theorem dX8_has_27 : decode cX8_has 27 = .ok (.iaload, 1) := by decide +kernel
theorem dX8_has_28 : decode cX8_has 28 = .ok (.iload_n 2, 1) := by decide +kernel
theorem dX8_has_29 : decode cX8_has 29 = .ok (.invokevirtual 85, 3) := by decide +kernel
theorem dX8_has_32 : decode cX8_has 32 = .ok (.ifCond .eq 7, 3) := by decide +kernel
theorem dX8_has_35 : decode cX8_has 35 = .ok (.iconst 1, 1) := by decide +kernel
theorem dX8_has_36 : decode cX8_has 36 = .ok (.goto 4, 3) := by decide +kernel
theorem dX8_has_39 : decode cX8_has 39 = .ok (.iconst 0, 1) := by decide +kernel
theorem dX8_has_40 : decode cX8_has 40 = .ok (.ireturn, 1) := by decide +kernel
theorem dX8_where_0 : decode cX8_where 0 = .ok (.aload_n 0, 1) := by decide +kernel
theorem dX8_where_1 : decode cX8_where 1 = .ok (.iconst 0, 1) := by decide +kernel
theorem dX8_where_2 : decode cX8_where 2 = .ok (.putfield 59, 3) := by decide +kernel
theorem dX8_where_5 : decode cX8_where 5 = .ok (.aload_n 0, 1) := by decide +kernel
theorem dX8_where_6 : decode cX8_where 6 = .ok (.iload_n 1, 1) := by decide +kernel
theorem dX8_where_7 : decode cX8_where 7 = .ok (.iload_n 2, 1) := by decide +kernel
theorem dX8_where_8 : decode cX8_where 8 = .ok (.invokevirtual 124, 3) := by decide +kernel
theorem dX8_where_11 : decode cX8_where 11 = .ok (.ifCond .eq 20, 3) := by decide +kernel
theorem dX8_where_14 : decode cX8_where 14 = .ok (.iload_n 3, 1) := by decide +kernel
theorem dX8_where_15 : decode cX8_where 15 = .ok (.iconst 0, 1) := by decide +kernel
theorem dX8_where_16 : decode cX8_where 16 = .ok (.iconst 3, 1) := by decide +kernel
theorem dX8_where_17 : decode cX8_where 17 = .ok (.invokestatic 63, 3) := by decide +kernel
theorem dX8_where_20 : decode cX8_where 20 = .ok (.ifCond .eq 11, 3) := by decide +kernel
theorem dX8_where_23 : decode cX8_where 23 = .ok (.aload_n 0, 1) := by decide +kernel
theorem dX8_where_24 : decode cX8_where 24 = .ok (.getfield 99, 3) := by decide +kernel
theorem dX8_where_27 : decode cX8_where 27 = .ok (.iconst 4, 1) := by decide +kernel
theorem dX8_where_28 : decode cX8_where 28 = .ok (.if_icmp .ne 5, 3) := by decide +kernel
theorem dX8_where_31 : decode cX8_where 31 = .ok (.iconst 0, 1) := by decide +kernel
theorem dX8_where_32 : decode cX8_where 32 = .ok (.ireturn, 1) := by decide +kernel
theorem dX8_where_33 : decode cX8_where 33 = .ok (.aload_n 0, 1) := by decide +kernel
theorem dX8_where_34 : decode cX8_where 34 = .ok (.getfield 29, 3) := by decide +kernel
theorem dX8_where_37 : decode cX8_where 37 = .ok (.iconst 4, 1) := by decide +kernel
theorem dX8_where_38 : decode cX8_where 38 = .ok (.aload_n 0, 1) := by decide +kernel
theorem dX8_where_39 : decode cX8_where 39 = .ok (.getfield 99, 3) := by decide +kernel
theorem dX8_where_42 : decode cX8_where 42 = .ok (.imul, 1) := by decide +kernel
theorem dX8_where_43 : decode cX8_where 43 = .ok (.iload_n 1, 1) := by decide +kernel
theorem dX8_where_44 : decode cX8_where 44 = .ok (.iastore, 1) := by decide +kernel
theorem dX8_where_45 : decode cX8_where 45 = .ok (.aload_n 0, 1) := by decide +kernel
theorem dX8_where_46 : decode cX8_where 46 = .ok (.getfield 29, 3) := by decide +kernel
theorem dX8_where_49 : decode cX8_where 49 = .ok (.iconst 4, 1) := by decide +kernel
theorem dX8_where_50 : decode cX8_where 50 = .ok (.aload_n 0, 1) := by decide +kernel
theorem dX8_where_51 : decode cX8_where 51 = .ok (.getfield 99, 3) := by decide +kernel
theorem dX8_where_54 : decode cX8_where 54 = .ok (.imul, 1) := by decide +kernel
theorem dX8_where_55 : decode cX8_where 55 = .ok (.iconst 1, 1) := by decide +kernel
theorem dX8_where_56 : decode cX8_where 56 = .ok (.iadd, 1) := by decide +kernel
theorem dX8_where_57 : decode cX8_where 57 = .ok (.iload_n 2, 1) := by decide +kernel
theorem dX8_where_58 : decode cX8_where 58 = .ok (.iastore, 1) := by decide +kernel
theorem dX8_where_59 : decode cX8_where 59 = .ok (.aload_n 0, 1) := by decide +kernel
theorem dX8_where_60 : decode cX8_where 60 = .ok (.getfield 29, 3) := by decide +kernel
theorem dX8_where_63 : decode cX8_where 63 = .ok (.iconst 4, 1) := by decide +kernel
theorem dX8_where_64 : decode cX8_where 64 = .ok (.aload_n 0, 1) := by decide +kernel
theorem dX8_where_65 : decode cX8_where 65 = .ok (.getfield 99, 3) := by decide +kernel
theorem dX8_where_68 : decode cX8_where 68 = .ok (.imul, 1) := by decide +kernel
theorem dX8_where_69 : decode cX8_where 69 = .ok (.iconst 2, 1) := by decide +kernel
theorem dX8_where_70 : decode cX8_where 70 = .ok (.iadd, 1) := by decide +kernel
theorem dX8_where_71 : decode cX8_where 71 = .ok (.iload_n 3, 1) := by decide +kernel
theorem dX8_where_72 : decode cX8_where 72 = .ok (.iastore, 1) := by decide +kernel
theorem dX8_where_73 : decode cX8_where 73 = .ok (.aload_n 0, 1) := by decide +kernel
theorem dX8_where_74 : decode cX8_where 74 = .ok (.getfield 29, 3) := by decide +kernel
theorem dX8_where_77 : decode cX8_where 77 = .ok (.iconst 4, 1) := by decide +kernel
theorem dX8_where_78 : decode cX8_where 78 = .ok (.aload_n 0, 1) := by decide +kernel
theorem dX8_where_79 : decode cX8_where 79 = .ok (.getfield 99, 3) := by decide +kernel
theorem dX8_where_82 : decode cX8_where 82 = .ok (.imul, 1) := by decide +kernel
theorem dX8_where_83 : decode cX8_where 83 = .ok (.iconst 3, 1) := by decide +kernel
theorem dX8_where_84 : decode cX8_where 84 = .ok (.iadd, 1) := by decide +kernel
theorem dX8_where_85 : decode cX8_where 85 = .ok (.iload 4, 2) := by decide +kernel
theorem dX8_where_87 : decode cX8_where 87 = .ok (.iastore, 1) := by decide +kernel
theorem dX8_where_88 : decode cX8_where 88 = .ok (.aload_n 0, 1) := by decide +kernel
theorem dX8_where_89 : decode cX8_where 89 = .ok (.dup, 1) := by decide +kernel
theorem dX8_where_90 : decode cX8_where 90 = .ok (.getfield 99, 3) := by decide +kernel
theorem dX8_where_93 : decode cX8_where 93 = .ok (.iconst 1, 1) := by decide +kernel
theorem dX8_where_94 : decode cX8_where 94 = .ok (.iadd, 1) := by decide +kernel
theorem dX8_where_95 : decode cX8_where 95 = .ok (.putfield 99, 3) := by decide +kernel
theorem dX8_where_98 : decode cX8_where 98 = .ok (.iconst 1, 1) := by decide +kernel
theorem dX8_where_99 : decode cX8_where 99 = .ok (.ireturn, 1) := by decide +kernel
theorem dX8_join_0 : decode cX8_join 0 = .ok (.aload_n 0, 1) := by decide +kernel
theorem dX8_join_1 : decode cX8_join 1 = .ok (.iconst 0, 1) := by decide +kernel
theorem dX8_join_2 : decode cX8_join 2 = .ok (.putfield 59, 3) := by decide +kernel
theorem dX8_join_5 : decode cX8_join 5 = .ok (.aload_n 0, 1) := by decide +kernel
theorem dX8_join_6 : decode cX8_join 6 = .ok (.iload_n 1, 1) := by decide +kernel
theorem dX8_join_7 : decode cX8_join 7 = .ok (.iload_n 2, 1) := by decide +kernel
theorem dX8_join_8 : decode cX8_join 8 = .ok (.invokevirtual 124, 3) := by decide +kernel
theorem dX8_join_11 : decode cX8_join 11 = .ok (.ifCond .eq 26, 3) := by decide +kernel
theorem dX8_join_14 : decode cX8_join 14 = .ok (.aload_n 0, 1) := by decide +kernel
theorem dX8_join_15 : decode cX8_join 15 = .ok (.iload_n 3, 1) := by decide +kernel
theorem dX8_join_16 : decode cX8_join 16 = .ok (.iload 4, 2) := by decide +kernel
theorem dX8_join_18 : decode cX8_join 18 = .ok (.invokevirtual 124, 3) := by decide +kernel
theorem dX8_join_21 : decode cX8_join 21 = .ok (.ifCond .eq 16, 3) := by decide +kernel
theorem dX8_join_24 : decode cX8_join 24 = .ok (.iload_n 1, 1) := by decide +kernel
theorem dX8_join_25 : decode cX8_join 25 = .ok (.iload_n 3, 1) := by decide +kernel
theorem dX8_join_26 : decode cX8_join 26 = .ok (.if_icmp .eq 11, 3) := by decide +kernel
theorem dX8_join_29 : decode cX8_join 29 = .ok (.aload_n 0, 1) := by decide +kernel
theorem dX8_join_30 : decode cX8_join 30 = .ok (.getfield 102, 3) := by decide +kernel
theorem dX8_join_33 : decode cX8_join 33 = .ok (.iconst 3, 1) := by decide +kernel
theorem dX8_join_34 : decode cX8_join 34 = .ok (.if_icmp .ne 5, 3) := by decide +kernel
theorem dX8_join_37 : decode cX8_join 37 = .ok (.iconst 0, 1) := by decide +kernel
theorem dX8_join_38 : decode cX8_join 38 = .ok (.ireturn, 1) := by decide +kernel
theorem dX8_join_39 : decode cX8_join 39 = .ok (.aload_n 0, 1) := by decide +kernel
theorem dX8_join_40 : decode cX8_join 40 = .ok (.getfield 32, 3) := by decide +kernel
theorem dX8_join_43 : decode cX8_join 43 = .ok (.iconst 4, 1) := by decide +kernel
theorem dX8_join_44 : decode cX8_join 44 = .ok (.aload_n 0, 1) := by decide +kernel
theorem dX8_join_45 : decode cX8_join 45 = .ok (.getfield 102, 3) := by decide +kernel
theorem dX8_join_48 : decode cX8_join 48 = .ok (.imul, 1) := by decide +kernel
theorem dX8_join_49 : decode cX8_join 49 = .ok (.iload_n 1, 1) := by decide +kernel
theorem dX8_join_50 : decode cX8_join 50 = .ok (.iastore, 1) := by decide +kernel
theorem dX8_join_51 : decode cX8_join 51 = .ok (.aload_n 0, 1) := by decide +kernel
theorem dX8_join_52 : decode cX8_join 52 = .ok (.getfield 32, 3) := by decide +kernel
theorem dX8_join_55 : decode cX8_join 55 = .ok (.iconst 4, 1) := by decide +kernel
theorem dX8_join_56 : decode cX8_join 56 = .ok (.aload_n 0, 1) := by decide +kernel
theorem dX8_join_57 : decode cX8_join 57 = .ok (.getfield 102, 3) := by decide +kernel
theorem dX8_join_60 : decode cX8_join 60 = .ok (.imul, 1) := by decide +kernel
theorem dX8_join_61 : decode cX8_join 61 = .ok (.iconst 1, 1) := by decide +kernel
theorem dX8_join_62 : decode cX8_join 62 = .ok (.iadd, 1) := by decide +kernel
theorem dX8_join_63 : decode cX8_join 63 = .ok (.iload_n 2, 1) := by decide +kernel
theorem dX8_join_64 : decode cX8_join 64 = .ok (.iastore, 1) := by decide +kernel
theorem dX8_join_65 : decode cX8_join 65 = .ok (.aload_n 0, 1) := by decide +kernel
theorem dX8_join_66 : decode cX8_join 66 = .ok (.getfield 32, 3) := by decide +kernel
theorem dX8_join_69 : decode cX8_join 69 = .ok (.iconst 4, 1) := by decide +kernel
theorem dX8_join_70 : decode cX8_join 70 = .ok (.aload_n 0, 1) := by decide +kernel
theorem dX8_join_71 : decode cX8_join 71 = .ok (.getfield 102, 3) := by decide +kernel
theorem dX8_join_74 : decode cX8_join 74 = .ok (.imul, 1) := by decide +kernel
theorem dX8_join_75 : decode cX8_join 75 = .ok (.iconst 2, 1) := by decide +kernel
theorem dX8_join_76 : decode cX8_join 76 = .ok (.iadd, 1) := by decide +kernel
theorem dX8_join_77 : decode cX8_join 77 = .ok (.iload_n 3, 1) := by decide +kernel
theorem dX8_join_78 : decode cX8_join 78 = .ok (.iastore, 1) := by decide +kernel
theorem dX8_join_79 : decode cX8_join 79 = .ok (.aload_n 0, 1) := by decide +kernel
theorem dX8_join_80 : decode cX8_join 80 = .ok (.getfield 32, 3) := by decide +kernel
theorem dX8_join_83 : decode cX8_join 83 = .ok (.iconst 4, 1) := by decide +kernel
theorem dX8_join_84 : decode cX8_join 84 = .ok (.aload_n 0, 1) := by decide +kernel
theorem dX8_join_85 : decode cX8_join 85 = .ok (.getfield 102, 3) := by decide +kernel
theorem dX8_join_88 : decode cX8_join 88 = .ok (.imul, 1) := by decide +kernel
theorem dX8_join_89 : decode cX8_join 89 = .ok (.iconst 3, 1) := by decide +kernel
theorem dX8_join_90 : decode cX8_join 90 = .ok (.iadd, 1) := by decide +kernel
theorem dX8_join_91 : decode cX8_join 91 = .ok (.iload 4, 2) := by decide +kernel
theorem dX8_join_93 : decode cX8_join 93 = .ok (.iastore, 1) := by decide +kernel
theorem dX8_join_94 : decode cX8_join 94 = .ok (.aload_n 0, 1) := by decide +kernel
theorem dX8_join_95 : decode cX8_join 95 = .ok (.dup, 1) := by decide +kernel
theorem dX8_join_96 : decode cX8_join 96 = .ok (.getfield 102, 3) := by decide +kernel
theorem dX8_join_99 : decode cX8_join 99 = .ok (.iconst 1, 1) := by decide +kernel
theorem dX8_join_100 : decode cX8_join 100 = .ok (.iadd, 1) := by decide +kernel
theorem dX8_join_101 : decode cX8_join 101 = .ok (.putfield 102, 3) := by decide +kernel
theorem dX8_join_104 : decode cX8_join 104 = .ok (.iconst 1, 1) := by decide +kernel
theorem dX8_join_105 : decode cX8_join 105 = .ok (.ireturn, 1) := by decide +kernel
theorem dX8_select_0 : decode cX8_select 0 = .ok (.aload_n 0, 1) := by decide +kernel
theorem dX8_select_1 : decode cX8_select 1 = .ok (.iconst 0, 1) := by decide +kernel
theorem dX8_select_2 : decode cX8_select 2 = .ok (.putfield 59, 3) := by decide +kernel
theorem dX8_select_5 : decode cX8_select 5 = .ok (.aload_n 0, 1) := by decide +kernel
theorem dX8_select_6 : decode cX8_select 6 = .ok (.iload_n 1, 1) := by decide +kernel
theorem dX8_select_7 : decode cX8_select 7 = .ok (.iload_n 2, 1) := by decide +kernel
theorem dX8_select_8 : decode cX8_select 8 = .ok (.invokevirtual 124, 3) := by decide +kernel
theorem dX8_select_11 : decode cX8_select 11 = .ok (.ifCond .eq 11, 3) := by decide +kernel
theorem dX8_select_14 : decode cX8_select 14 = .ok (.aload_n 0, 1) := by decide +kernel
theorem dX8_select_15 : decode cX8_select 15 = .ok (.getfield 105, 3) := by decide +kernel
theorem dX8_select_18 : decode cX8_select 18 = .ok (.iconst 4, 1) := by decide +kernel
theorem dX8_select_19 : decode cX8_select 19 = .ok (.if_icmp .ne 5, 3) := by decide +kernel
theorem dX8_select_22 : decode cX8_select 22 = .ok (.iconst (-1), 1) := by decide +kernel
theorem dX8_select_23 : decode cX8_select 23 = .ok (.ireturn, 1) := by decide +kernel
theorem dX8_select_24 : decode cX8_select 24 = .ok (.aload_n 0, 1) := by decide +kernel
theorem dX8_select_25 : decode cX8_select 25 = .ok (.getfield 35, 3) := by decide +kernel
theorem dX8_select_28 : decode cX8_select 28 = .ok (.iconst 2, 1) := by decide +kernel
theorem dX8_select_29 : decode cX8_select 29 = .ok (.aload_n 0, 1) := by decide +kernel
theorem dX8_select_30 : decode cX8_select 30 = .ok (.getfield 105, 3) := by decide +kernel
theorem dX8_select_33 : decode cX8_select 33 = .ok (.imul, 1) := by decide +kernel
theorem dX8_select_34 : decode cX8_select 34 = .ok (.iload_n 1, 1) := by decide +kernel
theorem dX8_select_35 : decode cX8_select 35 = .ok (.iastore, 1) := by decide +kernel
theorem dX8_select_36 : decode cX8_select 36 = .ok (.aload_n 0, 1) := by decide +kernel
theorem dX8_select_37 : decode cX8_select 37 = .ok (.getfield 35, 3) := by decide +kernel
theorem dX8_select_40 : decode cX8_select 40 = .ok (.iconst 2, 1) := by decide +kernel
theorem dX8_select_41 : decode cX8_select 41 = .ok (.aload_n 0, 1) := by decide +kernel
theorem dX8_select_42 : decode cX8_select 42 = .ok (.getfield 105, 3) := by decide +kernel
theorem dX8_select_45 : decode cX8_select 45 = .ok (.imul, 1) := by decide +kernel
theorem dX8_select_46 : decode cX8_select 46 = .ok (.iconst 1, 1) := by decide +kernel
theorem dX8_select_47 : decode cX8_select 47 = .ok (.iadd, 1) := by decide +kernel
theorem dX8_select_48 : decode cX8_select 48 = .ok (.iload_n 2, 1) := by decide +kernel
theorem dX8_select_49 : decode cX8_select 49 = .ok (.iastore, 1) := by decide +kernel
theorem dX8_select_50 : decode cX8_select 50 = .ok (.aload_n 0, 1) := by decide +kernel
theorem dX8_select_51 : decode cX8_select 51 = .ok (.dup, 1) := by decide +kernel
theorem dX8_select_52 : decode cX8_select 52 = .ok (.getfield 105, 3) := by decide +kernel
theorem dX8_select_55 : decode cX8_select 55 = .ok (.iconst 1, 1) := by decide +kernel
theorem dX8_select_56 : decode cX8_select 56 = .ok (.iadd, 1) := by decide +kernel
theorem dX8_select_57 : decode cX8_select 57 = .ok (.putfield 105, 3) := by decide +kernel
theorem dX8_select_60 : decode cX8_select 60 = .ok (.aload_n 0, 1) := by decide +kernel
theorem dX8_select_61 : decode cX8_select 61 = .ok (.getfield 105, 3) := by decide +kernel
theorem dX8_select_64 : decode cX8_select 64 = .ok (.iconst 1, 1) := by decide +kernel
theorem dX8_select_65 : decode cX8_select 65 = .ok (.isub, 1) := by decide +kernel
theorem dX8_select_66 : decode cX8_select 66 = .ok (.ireturn, 1) := by decide +kernel
theorem dX8_order_0 : decode cX8_order 0 = .ok (.aload_n 0, 1) := by decide +kernel
theorem dX8_order_1 : decode cX8_order 1 = .ok (.iconst 0, 1) := by decide +kernel
theorem dX8_order_2 : decode cX8_order 2 = .ok (.putfield 59, 3) := by decide +kernel
theorem dX8_order_5 : decode cX8_order 5 = .ok (.iload_n 1, 1) := by decide +kernel
theorem dX8_order_6 : decode cX8_order 6 = .ok (.iconst 0, 1) := by decide +kernel
theorem dX8_order_7 : decode cX8_order 7 = .ok (.aload_n 0, 1) := by decide +kernel
theorem dX8_order_8 : decode cX8_order 8 = .ok (.getfield 105, 3) := by decide +kernel
theorem dX8_order_11 : decode cX8_order 11 = .ok (.iconst 1, 1) := by decide +kernel
theorem dX8_order_12 : decode cX8_order 12 = .ok (.isub, 1) := by decide +kernel
theorem dX8_order_13 : decode cX8_order 13 = .ok (.invokestatic 63, 3) := by decide +kernel
theorem dX8_order_16 : decode cX8_order 16 = .ok (.ifCond .eq 10, 3) := by decide +kernel
theorem dX8_order_19 : decode cX8_order 19 = .ok (.aload_n 0, 1) := by decide +kernel
theorem dX8_order_20 : decode cX8_order 20 = .ok (.getfield 71, 3) := by decide +kernel
theorem dX8_order_23 : decode cX8_order 23 = .ok (.ifCond .eq 5, 3) := by decide +kernel
theorem dX8_order_26 : decode cX8_order 26 = .ok (.iconst 0, 1) := by decide +kernel
theorem dX8_order_27 : decode cX8_order 27 = .ok (.ireturn, 1) := by decide +kernel
theorem dX8_order_28 : decode cX8_order 28 = .ok (.aload_n 0, 1) := by decide +kernel
theorem dX8_order_29 : decode cX8_order 29 = .ok (.iload_n 1, 1) := by decide +kernel
theorem dX8_order_30 : decode cX8_order 30 = .ok (.putfield 108, 3) := by decide +kernel
theorem dX8_order_33 : decode cX8_order 33 = .ok (.aload_n 0, 1) := by decide +kernel
theorem dX8_order_34 : decode cX8_order 34 = .ok (.iload_n 2, 1) := by decide +kernel
theorem dX8_order_35 : decode cX8_order 35 = .ok (.putfield 111, 3) := by decide +kernel
theorem dX8_order_38 : decode cX8_order 38 = .ok (.iconst 1, 1) := by decide +kernel
theorem dX8_order_39 : decode cX8_order 39 = .ok (.ireturn, 1) := by decide +kernel
theorem dX8_limit_0 : decode cX8_limit 0 = .ok (.aload_n 0, 1) := by decide +kernel
theorem dX8_limit_1 : decode cX8_limit 1 = .ok (.iconst 0, 1) := by decide +kernel
theorem dX8_limit_2 : decode cX8_limit 2 = .ok (.putfield 59, 3) := by decide +kernel
theorem dX8_limit_5 : decode cX8_limit 5 = .ok (.iload_n 1, 1) := by decide +kernel
theorem dX8_limit_6 : decode cX8_limit 6 = .ok (.iconst 1, 1) := by decide +kernel
theorem dX8_limit_7 : decode cX8_limit 7 = .ok (.bipush 64, 2) := by decide +kernel
theorem dX8_limit_9 : decode cX8_limit 9 = .ok (.invokestatic 63, 3) := by decide +kernel
theorem dX8_limit_12 : decode cX8_limit 12 = .ok (.ifCond .eq 10, 3) := by decide +kernel
theorem dX8_limit_15 : decode cX8_limit 15 = .ok (.aload_n 0, 1) := by decide +kernel
theorem dX8_limit_16 : decode cX8_limit 16 = .ok (.getfield 71, 3) := by decide +kernel
theorem dX8_limit_19 : decode cX8_limit 19 = .ok (.ifCond .eq 5, 3) := by decide +kernel
theorem dX8_limit_22 : decode cX8_limit 22 = .ok (.iconst 0, 1) := by decide +kernel
theorem dX8_limit_23 : decode cX8_limit 23 = .ok (.ireturn, 1) := by decide +kernel
theorem dX8_limit_24 : decode cX8_limit 24 = .ok (.aload_n 0, 1) := by decide +kernel
theorem dX8_limit_25 : decode cX8_limit 25 = .ok (.iload_n 1, 1) := by decide +kernel
theorem dX8_limit_26 : decode cX8_limit 26 = .ok (.putfield 115, 3) := by decide +kernel
theorem dX8_limit_29 : decode cX8_limit 29 = .ok (.iconst 1, 1) := by decide +kernel
theorem dX8_limit_30 : decode cX8_limit 30 = .ok (.ireturn, 1) := by decide +kernel
theorem dX8_share_0 : decode cX8_share 0 = .ok (.iconst 0, 1) := by decide +kernel
theorem dX8_share_1 : decode cX8_share 1 = .ok (.istore 5, 2) := by decide +kernel
theorem dX8_share_3 : decode cX8_share 3 = .ok (.lconst 0, 1) := by decide +kernel
theorem dX8_share_4 : decode cX8_share 4 = .ok (.lstore 6, 2) := by decide +kernel
theorem dX8_share_6 : decode cX8_share 6 = .ok (.lconst 0, 1) := by decide +kernel
theorem dX8_share_7 : decode cX8_share 7 = .ok (.lstore 8, 2) := by decide +kernel
theorem dX8_share_9 : decode cX8_share 9 = .ok (.iconst 0, 1) := by decide +kernel
theorem dX8_share_10 : decode cX8_share 10 = .ok (.istore 10, 2) := by decide +kernel
theorem dX8_share_12 : decode cX8_share 12 = .ok (.iload 10, 2) := by decide +kernel
theorem dX8_share_14 : decode cX8_share 14 = .ok (.bipush 60, 2) := by decide +kernel
theorem dX8_share_16 : decode cX8_share 16 = .ok (.if_icmp .ge 156, 3) := by decide +kernel
theorem dX8_share_19 : decode cX8_share 19 = .ok (.aload_n 0, 1) := by decide +kernel
theorem dX8_share_20 : decode cX8_share 20 = .ok (.getfield 16, 3) := by decide +kernel
theorem dX8_share_23 : decode cX8_share 23 = .ok (.bipush 60, 2) := by decide +kernel
theorem dX8_share_25 : decode cX8_share 25 = .ok (.iload_n 1, 1) := by decide +kernel
theorem dX8_share_26 : decode cX8_share 26 = .ok (.imul, 1) := by decide +kernel
theorem dX8_share_27 : decode cX8_share 27 = .ok (.iload 10, 2) := by decide +kernel
theorem dX8_share_29 : decode cX8_share 29 = .ok (.iadd, 1) := by decide +kernel
theorem dX8_share_30 : decode cX8_share 30 = .ok (.baload, 1) := by decide +kernel
theorem dX8_share_31 : decode cX8_share 31 = .ok (.ifCond .eq 135, 3) := by decide +kernel
theorem dX8_share_34 : decode cX8_share 34 = .ok (.aload_n 0, 1) := by decide +kernel
theorem dX8_share_35 : decode cX8_share 35 = .ok (.iload_n 1, 1) := by decide +kernel
theorem dX8_share_36 : decode cX8_share 36 = .ok (.iload 10, 2) := by decide +kernel
theorem dX8_share_38 : decode cX8_share 38 = .ok (.iload_n 2, 1) := by decide +kernel
theorem dX8_share_39 : decode cX8_share 39 = .ok (.invokevirtual 88, 3) := by decide +kernel
theorem dX8_share_42 : decode cX8_share 42 = .ok (.istore 11, 2) := by decide +kernel
theorem dX8_share_44 : decode cX8_share 44 = .ok (.iconst 0, 1) := by decide +kernel
theorem dX8_share_45 : decode cX8_share 45 = .ok (.istore 12, 2) := by decide +kernel
theorem dX8_share_47 : decode cX8_share 47 = .ok (.iconst 0, 1) := by decide +kernel
theorem dX8_share_48 : decode cX8_share 48 = .ok (.istore 13, 2) := by decide +kernel
theorem dX8_share_50 : decode cX8_share 50 = .ok (.iload 13, 2) := by decide +kernel
theorem dX8_share_52 : decode cX8_share 52 = .ok (.iload 10, 2) := by decide +kernel
theorem dX8_share_54 : decode cX8_share 54 = .ok (.if_icmp .ge 49, 3) := by decide +kernel
theorem dX8_share_57 : decode cX8_share 57 = .ok (.iload 12, 2) := by decide +kernel
theorem dX8_share_59 : decode cX8_share 59 = .ok (.ifCond .ne 31, 3) := by decide +kernel
theorem dX8_share_62 : decode cX8_share 62 = .ok (.aload_n 0, 1) := by decide +kernel
theorem dX8_share_63 : decode cX8_share 63 = .ok (.getfield 16, 3) := by decide +kernel
theorem dX8_share_66 : decode cX8_share 66 = .ok (.bipush 60, 2) := by decide +kernel
theorem dX8_share_68 : decode cX8_share 68 = .ok (.iload_n 1, 1) := by decide +kernel
theorem dX8_share_69 : decode cX8_share 69 = .ok (.imul, 1) := by decide +kernel
theorem dX8_share_70 : decode cX8_share 70 = .ok (.iload 13, 2) := by decide +kernel
theorem dX8_share_72 : decode cX8_share 72 = .ok (.iadd, 1) := by decide +kernel
theorem dX8_share_73 : decode cX8_share 73 = .ok (.baload, 1) := by decide +kernel
theorem dX8_share_74 : decode cX8_share 74 = .ok (.ifCond .eq 20, 3) := by decide +kernel
theorem dX8_share_77 : decode cX8_share 77 = .ok (.aload_n 0, 1) := by decide +kernel
theorem dX8_share_78 : decode cX8_share 78 = .ok (.iload_n 1, 1) := by decide +kernel
theorem dX8_share_79 : decode cX8_share 79 = .ok (.iload 13, 2) := by decide +kernel
theorem dX8_share_81 : decode cX8_share 81 = .ok (.iload_n 2, 1) := by decide +kernel
theorem dX8_share_82 : decode cX8_share 82 = .ok (.invokevirtual 88, 3) := by decide +kernel
theorem dX8_share_85 : decode cX8_share 85 = .ok (.iload 11, 2) := by decide +kernel
theorem dX8_share_87 : decode cX8_share 87 = .ok (.if_icmp .ne 7, 3) := by decide +kernel
theorem dX8_share_90 : decode cX8_share 90 = .ok (.iconst 1, 1) := by decide +kernel
theorem dX8_share_91 : decode cX8_share 91 = .ok (.goto 4, 3) := by decide +kernel
theorem dX8_share_94 : decode cX8_share 94 = .ok (.iconst 0, 1) := by decide +kernel
theorem dX8_share_95 : decode cX8_share 95 = .ok (.istore 12, 2) := by decide +kernel
theorem dX8_share_97 : decode cX8_share 97 = .ok (.iinc 13 1, 3) := by decide +kernel
theorem dX8_share_100 : decode cX8_share 100 = .ok (.goto (-50), 3) := by decide +kernel
theorem dX8_share_103 : decode cX8_share 103 = .ok (.iload 5, 2) := by decide +kernel
theorem dX8_share_105 : decode cX8_share 105 = .ok (.ifCond .eq 12, 3) := by decide +kernel
theorem dX8_share_108 : decode cX8_share 108 = .ok (.iload 11, 2) := by decide +kernel
theorem dX8_share_110 : decode cX8_share 110 = .ok (.i2l, 1) := by decide +kernel
theorem dX8_share_111 : decode cX8_share 111 = .ok (.lload 6, 2) := by decide +kernel
theorem dX8_share_113 : decode cX8_share 113 = .ok (.lcmp, 1) := by decide +kernel
theorem dX8_share_114 : decode cX8_share 114 = .ok (.ifCond .ge 9, 3) := by decide +kernel
theorem dX8_share_117 : decode cX8_share 117 = .ok (.iload 11, 2) := by decide +kernel
theorem dX8_share_119 : decode cX8_share 119 = .ok (.i2l, 1) := by decide +kernel
theorem dX8_share_120 : decode cX8_share 120 = .ok (.goto 5, 3) := by decide +kernel
theorem dX8_share_123 : decode cX8_share 123 = .ok (.lload 6, 2) := by decide +kernel
theorem dX8_share_125 : decode cX8_share 125 = .ok (.lstore 6, 2) := by decide +kernel
theorem dX8_share_127 : decode cX8_share 127 = .ok (.iload 5, 2) := by decide +kernel
theorem dX8_share_129 : decode cX8_share 129 = .ok (.ifCond .eq 12, 3) := by decide +kernel
theorem dX8_share_132 : decode cX8_share 132 = .ok (.iload 11, 2) := by decide +kernel
theorem dX8_share_134 : decode cX8_share 134 = .ok (.i2l, 1) := by decide +kernel
theorem dX8_share_135 : decode cX8_share 135 = .ok (.lload 8, 2) := by decide +kernel
theorem dX8_share_137 : decode cX8_share 137 = .ok (.lcmp, 1) := by decide +kernel
theorem dX8_share_138 : decode cX8_share 138 = .ok (.ifCond .le 9, 3) := by decide +kernel
theorem dX8_share_141 : decode cX8_share 141 = .ok (.iload 11, 2) := by decide +kernel
theorem dX8_share_143 : decode cX8_share 143 = .ok (.i2l, 1) := by decide +kernel
theorem dX8_share_144 : decode cX8_share 144 = .ok (.goto 5, 3) := by decide +kernel
theorem dX8_share_147 : decode cX8_share 147 = .ok (.lload 8, 2) := by decide +kernel
theorem dX8_share_149 : decode cX8_share 149 = .ok (.lstore 8, 2) := by decide +kernel
theorem dX8_share_151 : decode cX8_share 151 = .ok (.iload 5, 2) := by decide +kernel
theorem dX8_share_153 : decode cX8_share 153 = .ok (.iload 12, 2) := by decide +kernel
theorem dX8_share_155 : decode cX8_share 155 = .ok (.ifCond .eq 7, 3) := by decide +kernel
theorem dX8_share_158 : decode cX8_share 158 = .ok (.iconst 0, 1) := by decide +kernel
theorem dX8_share_159 : decode cX8_share 159 = .ok (.goto 4, 3) := by decide +kernel
theorem dX8_share_162 : decode cX8_share 162 = .ok (.iconst 1, 1) := by decide +kernel
theorem dX8_share_163 : decode cX8_share 163 = .ok (.iadd, 1) := by decide +kernel
theorem dX8_share_164 : decode cX8_share 164 = .ok (.istore 5, 2) := by decide +kernel
theorem dX8_share_166 : decode cX8_share 166 = .ok (.iinc 10 1, 3) := by decide +kernel
theorem dX8_share_169 : decode cX8_share 169 = .ok (.goto (-157), 3) := by decide +kernel
theorem dX8_share_172 : decode cX8_share 172 = .ok (.iload 5, 2) := by decide +kernel
theorem dX8_share_174 : decode cX8_share 174 = .ok (.ifCond .ne 5, 3) := by decide +kernel
theorem dX8_share_177 : decode cX8_share 177 = .ok (.fconst 0, 1) := by decide +kernel
theorem dX8_share_178 : decode cX8_share 178 = .ok (.freturn, 1) := by decide +kernel
theorem dX8_share_179 : decode cX8_share 179 = .ok (.iload_n 3, 1) := by decide +kernel
theorem dX8_share_180 : decode cX8_share 180 = .ok (.ifCond .eq 8, 3) := by decide +kernel
theorem dX8_share_183 : decode cX8_share 183 = .ok (.iload_n 3, 1) := by decide +kernel
theorem dX8_share_184 : decode cX8_share 184 = .ok (.iconst 3, 1) := by decide +kernel
theorem dX8_share_185 : decode cX8_share 185 = .ok (.if_icmp .ne 24, 3) := by decide +kernel
theorem dX8_share_188 : decode cX8_share 188 = .ok (.fconst 1, 1) := by decide +kernel
theorem dX8_share_189 : decode cX8_share 189 = .ok (.iload 5, 2) := by decide +kernel
theorem dX8_share_191 : decode cX8_share 191 = .ok (.i2f, 1) := by decide +kernel
theorem dX8_share_192 : decode cX8_share 192 = .ok (.fdiv, 1) := by decide +kernel
theorem dX8_share_193 : decode cX8_share 193 = .ok (.fstore 10, 2) := by decide +kernel
theorem dX8_share_195 : decode cX8_share 195 = .ok (.iload_n 3, 1) := by decide +kernel
theorem dX8_share_196 : decode cX8_share 196 = .ok (.ifCond .ne 8, 3) := by decide +kernel
theorem dX8_share_199 : decode cX8_share 199 = .ok (.fload 10, 2) := by decide +kernel
theorem dX8_share_201 : decode cX8_share 201 = .ok (.goto 7, 3) := by decide +kernel
theorem dX8_share_204 : decode cX8_share 204 = .ok (.fconst 1, 1) := by decide +kernel
theorem dX8_share_205 : decode cX8_share 205 = .ok (.fload 10, 2) := by decide +kernel
theorem dX8_share_207 : decode cX8_share 207 = .ok (.fsub, 1) := by decide +kernel
theorem dX8_share_208 : decode cX8_share 208 = .ok (.freturn, 1) := by decide +kernel
theorem dX8_share_209 : decode cX8_share 209 = .ok (.iload_n 3, 1) := by decide +kernel
theorem dX8_share_210 : decode cX8_share 210 = .ok (.iconst 1, 1) := by decide +kernel
theorem dX8_share_211 : decode cX8_share 211 = .ok (.if_icmp .ne 13, 3) := by decide +kernel
theorem dX8_share_214 : decode cX8_share 214 = .ok (.iload 4, 2) := by decide +kernel
theorem dX8_share_216 : decode cX8_share 216 = .ok (.i2l, 1) := by decide +kernel
theorem dX8_share_217 : decode cX8_share 217 = .ok (.lload 6, 2) := by decide +kernel
theorem dX8_share_219 : decode cX8_share 219 = .ok (.lsub, 1) := by decide +kernel
theorem dX8_share_220 : decode cX8_share 220 = .ok (.l2f, 1) := by decide +kernel
theorem dX8_share_221 : decode cX8_share 221 = .ok (.goto 10, 3) := by decide +kernel
theorem dX8_share_224 : decode cX8_share 224 = .ok (.lload 8, 2) := by decide +kernel
theorem dX8_share_226 : decode cX8_share 226 = .ok (.iload 4, 2) := by decide +kernel
theorem dX8_share_228 : decode cX8_share 228 = .ok (.i2l, 1) := by decide +kernel
theorem dX8_share_229 : decode cX8_share 229 = .ok (.lsub, 1) := by decide +kernel
theorem dX8_share_230 : decode cX8_share 230 = .ok (.l2f, 1) := by decide +kernel
theorem dX8_share_231 : decode cX8_share 231 = .ok (.fstore 10, 2) := by decide +kernel
theorem dX8_share_233 : decode cX8_share 233 = .ok (.lload 8, 2) := by decide +kernel
theorem dX8_share_235 : decode cX8_share 235 = .ok (.lload 6, 2) := by decide +kernel
theorem dX8_share_237 : decode cX8_share 237 = .ok (.lsub, 1) := by decide +kernel
theorem dX8_share_238 : decode cX8_share 238 = .ok (.lconst 1, 1) := by decide +kernel
theorem dX8_share_239 : decode cX8_share 239 = .ok (.ladd, 1) := by decide +kernel
theorem dX8_share_240 : decode cX8_share 240 = .ok (.l2f, 1) := by decide +kernel
theorem dX8_share_241 : decode cX8_share 241 = .ok (.fstore 11, 2) := by decide +kernel
theorem dX8_share_243 : decode cX8_share 243 = .ok (.fload 10, 2) := by decide +kernel
theorem dX8_share_245 : decode cX8_share 245 = .ok (.fload 11, 2) := by decide +kernel
theorem dX8_share_247 : decode cX8_share 247 = .ok (.fdiv, 1) := by decide +kernel
theorem dX8_share_248 : decode cX8_share 248 = .ok (.fstore 12, 2) := by decide +kernel
theorem dX8_share_250 : decode cX8_share 250 = .ok (.fload 12, 2) := by decide +kernel
theorem dX8_share_252 : decode cX8_share 252 = .ok (.fconst 0, 1) := by decide +kernel
theorem dX8_share_253 : decode cX8_share 253 = .ok (.fcmp .g, 1) := by decide +kernel
theorem dX8_share_254 : decode cX8_share 254 = .ok (.ifCond .ge 7, 3) := by decide +kernel
theorem dX8_share_257 : decode cX8_share 257 = .ok (.fconst 0, 1) := by decide +kernel
theorem dX8_share_258 : decode cX8_share 258 = .ok (.goto 16, 3) := by decide +kernel
theorem dX8_share_261 : decode cX8_share 261 = .ok (.fload 12, 2) := by decide +kernel
theorem dX8_share_263 : decode cX8_share 263 = .ok (.fconst 1, 1) := by decide +kernel
theorem dX8_share_264 : decode cX8_share 264 = .ok (.fcmp .l, 1) := by decide +kernel
theorem dX8_share_265 : decode cX8_share 265 = .ok (.ifCond .le 7, 3) := by decide +kernel
theorem dX8_share_268 : decode cX8_share 268 = .ok (.fconst 1, 1) := by decide +kernel
theorem dX8_share_269 : decode cX8_share 269 = .ok (.goto 5, 3) := by decide +kernel
theorem dX8_share_272 : decode cX8_share 272 = .ok (.fload 12, 2) := by decide +kernel
theorem dX8_share_274 : decode cX8_share 274 = .ok (.freturn, 1) := by decide +kernel
theorem dX8_sideOf_0 : decode cX8_sideOf 0 = .ok (.aload_n 0, 1) := by decide +kernel
theorem dX8_sideOf_1 : decode cX8_sideOf 1 = .ok (.getfield 32, 3) := by decide +kernel
theorem dX8_sideOf_4 : decode cX8_sideOf 4 = .ok (.iconst 4, 1) := by decide +kernel
theorem dX8_sideOf_5 : decode cX8_sideOf 5 = .ok (.iload_n 1, 1) := by decide +kernel
theorem dX8_sideOf_6 : decode cX8_sideOf 6 = .ok (.imul, 1) := by decide +kernel
theorem dX8_sideOf_7 : decode cX8_sideOf 7 = .ok (.iaload, 1) := by decide +kernel
theorem dX8_sideOf_8 : decode cX8_sideOf 8 = .ok (.iload_n 2, 1) := by decide +kernel
theorem dX8_sideOf_9 : decode cX8_sideOf 9 = .ok (.if_icmp .ne 7, 3) := by decide +kernel
theorem dX8_sideOf_12 : decode cX8_sideOf 12 = .ok (.iconst 0, 1) := by decide +kernel
theorem dX8_sideOf_13 : decode cX8_sideOf 13 = .ok (.goto 22, 3) := by decide +kernel
theorem dX8_sideOf_16 : decode cX8_sideOf 16 = .ok (.aload_n 0, 1) := by decide +kernel
theorem dX8_sideOf_17 : decode cX8_sideOf 17 = .ok (.getfield 32, 3) := by decide +kernel
theorem dX8_sideOf_20 : decode cX8_sideOf 20 = .ok (.iconst 4, 1) := by decide +kernel
theorem dX8_sideOf_21 : decode cX8_sideOf 21 = .ok (.iload_n 1, 1) := by decide +kernel
theorem dX8_sideOf_22 : decode cX8_sideOf 22 = .ok (.imul, 1) := by decide +kernel
theorem dX8_sideOf_23 : decode cX8_sideOf 23 = .ok (.iconst 2, 1) := by decide +kernel
theorem dX8_sideOf_24 : decode cX8_sideOf 24 = .ok (.iadd, 1) := by decide +kernel
theorem dX8_sideOf_25 : decode cX8_sideOf 25 = .ok (.iaload, 1) := by decide +kernel
theorem dX8_sideOf_26 : decode cX8_sideOf 26 = .ok (.iload_n 2, 1) := by decide +kernel
theorem dX8_sideOf_27 : decode cX8_sideOf 27 = .ok (.if_icmp .ne 7, 3) := by decide +kernel
theorem dX8_sideOf_30 : decode cX8_sideOf 30 = .ok (.iconst 2, 1) := by decide +kernel
theorem dX8_sideOf_31 : decode cX8_sideOf 31 = .ok (.goto 4, 3) := by decide +kernel
theorem dX8_sideOf_34 : decode cX8_sideOf 34 = .ok (.iconst (-1), 1) := by decide +kernel
theorem dX8_sideOf_35 : decode cX8_sideOf 35 = .ok (.istore 4, 2) := by decide +kernel
theorem dX8_sideOf_37 : decode cX8_sideOf 37 = .ok (.iload 4, 2) := by decide +kernel
theorem dX8_sideOf_39 : decode cX8_sideOf 39 = .ok (.ifCond .lt 29, 3) := by decide +kernel
theorem dX8_sideOf_42 : decode cX8_sideOf 42 = .ok (.iload_n 3, 1) := by decide +kernel
theorem dX8_sideOf_43 : decode cX8_sideOf 43 = .ok (.aload_n 0, 1) := by decide +kernel
theorem dX8_sideOf_44 : decode cX8_sideOf 44 = .ok (.getfield 32, 3) := by decide +kernel
theorem dX8_sideOf_47 : decode cX8_sideOf 47 = .ok (.iconst 4, 1) := by decide +kernel
theorem dX8_sideOf_48 : decode cX8_sideOf 48 = .ok (.iload_n 1, 1) := by decide +kernel
theorem dX8_sideOf_49 : decode cX8_sideOf 49 = .ok (.imul, 1) := by decide +kernel
theorem dX8_sideOf_50 : decode cX8_sideOf 50 = .ok (.iconst 2, 1) := by decide +kernel
theorem dX8_sideOf_51 : decode cX8_sideOf 51 = .ok (.iadd, 1) := by decide +kernel
theorem dX8_sideOf_52 : decode cX8_sideOf 52 = .ok (.iload 4, 2) := by decide +kernel
theorem dX8_sideOf_54 : decode cX8_sideOf 54 = .ok (.isub, 1) := by decide +kernel
theorem dX8_sideOf_55 : decode cX8_sideOf 55 = .ok (.iaload, 1) := by decide +kernel
theorem dX8_sideOf_56 : decode cX8_sideOf 56 = .ok (.ishr, 1) := by decide +kernel
theorem dX8_sideOf_57 : decode cX8_sideOf 57 = .ok (.iconst 1, 1) := by decide +kernel
theorem dX8_sideOf_58 : decode cX8_sideOf 58 = .ok (.iand, 1) := by decide +kernel
theorem dX8_sideOf_59 : decode cX8_sideOf 59 = .ok (.iconst 1, 1) := by decide +kernel
theorem dX8_sideOf_60 : decode cX8_sideOf 60 = .ok (.if_icmp .ne 8, 3) := by decide +kernel
theorem dX8_sideOf_63 : decode cX8_sideOf 63 = .ok (.iload 4, 2) := by decide +kernel
theorem dX8_sideOf_65 : decode cX8_sideOf 65 = .ok (.goto 4, 3) := by decide +kernel
theorem dX8_sideOf_68 : decode cX8_sideOf 68 = .ok (.iconst (-1), 1) := by decide +kernel
theorem dX8_sideOf_69 : decode cX8_sideOf 69 = .ok (.ireturn, 1) := by decide +kernel
theorem dX8_bettered_0 : decode cX8_bettered 0 = .ok (.fload_n 2, 1) := by decide +kernel
theorem dX8_bettered_1 : decode cX8_bettered 1 = .ok (.fload_n 1, 1) := by decide +kernel
theorem dX8_bettered_2 : decode cX8_bettered 2 = .ok (.fcmp .g, 1) := by decide +kernel
theorem dX8_bettered_3 : decode cX8_bettered 3 = .ok (.ifCond .ge 22, 3) := by decide +kernel
theorem dX8_bettered_6 : decode cX8_bettered 6 = .ok (.aload_n 0, 1) := by decide +kernel
theorem dX8_bettered_7 : decode cX8_bettered 7 = .ok (.iload_n 3, 1) := by decide +kernel
theorem dX8_bettered_8 : decode cX8_bettered 8 = .ok (.putfield 127, 3) := by decide +kernel
theorem dX8_bettered_11 : decode cX8_bettered 11 = .ok (.aload_n 0, 1) := by decide +kernel
theorem dX8_bettered_12 : decode cX8_bettered 12 = .ok (.iload 4, 2) := by decide +kernel
theorem dX8_bettered_14 : decode cX8_bettered 14 = .ok (.putfield 130, 3) := by decide +kernel
theorem dX8_bettered_17 : decode cX8_bettered 17 = .ok (.aload_n 0, 1) := by decide +kernel
theorem dX8_bettered_18 : decode cX8_bettered 18 = .ok (.iload 5, 2) := by decide +kernel
theorem dX8_bettered_20 : decode cX8_bettered 20 = .ok (.putfield 133, 3) := by decide +kernel
theorem dX8_bettered_23 : decode cX8_bettered 23 = .ok (.fload_n 2, 1) := by decide +kernel
theorem dX8_bettered_24 : decode cX8_bettered 24 = .ok (.freturn, 1) := by decide +kernel
theorem dX8_bettered_25 : decode cX8_bettered 25 = .ok (.fload_n 1, 1) := by decide +kernel
theorem dX8_bettered_26 : decode cX8_bettered 26 = .ok (.freturn, 1) := by decide +kernel
theorem dX8_fewest_0 : decode cX8_fewest 0 = .ok (.aload_n 0, 1) := by decide +kernel
theorem dX8_fewest_1 : decode cX8_fewest 1 = .ok (.getfield 26, 3) := by decide +kernel
theorem dX8_fewest_4 : decode cX8_fewest 4 = .ok (.iload_n 1, 1) := by decide +kernel
theorem dX8_fewest_5 : decode cX8_fewest 5 = .ok (.iaload, 1) := by decide +kernel
theorem dX8_fewest_6 : decode cX8_fewest 6 = .ok (.istore_n 3, 1) := by decide +kernel
theorem dX8_fewest_7 : decode cX8_fewest 7 = .ok (.aload_n 0, 1) := by decide +kernel
theorem dX8_fewest_8 : decode cX8_fewest 8 = .ok (.iload_n 3, 1) := by decide +kernel
theorem dX8_fewest_9 : decode cX8_fewest 9 = .ok (.invokevirtual 74, 3) := by decide +kernel
theorem dX8_fewest_12 : decode cX8_fewest 12 = .ok (.istore 4, 2) := by decide +kernel
theorem dX8_fewest_14 : decode cX8_fewest 14 = .ok (.iload 4, 2) := by decide +kernel
theorem dX8_fewest_16 : decode cX8_fewest 16 = .ok (.i2f, 1) := by decide +kernel
theorem dX8_fewest_17 : decode cX8_fewest 17 = .ok (.fstore 5, 2) := by decide +kernel
theorem dX8_fewest_19 : decode cX8_fewest 19 = .ok (.aload_n 0, 1) := by decide +kernel
theorem dX8_fewest_20 : decode cX8_fewest 20 = .ok (.iconst 0, 1) := by decide +kernel
theorem dX8_fewest_21 : decode cX8_fewest 21 = .ok (.putfield 127, 3) := by decide +kernel
theorem dX8_fewest_24 : decode cX8_fewest 24 = .ok (.aload_n 0, 1) := by decide +kernel
theorem dX8_fewest_25 : decode cX8_fewest 25 = .ok (.iconst (-1), 1) := by decide +kernel
theorem dX8_fewest_26 : decode cX8_fewest 26 = .ok (.putfield 130, 3) := by decide +kernel
theorem dX8_fewest_29 : decode cX8_fewest 29 = .ok (.aload_n 0, 1) := by decide +kernel
theorem dX8_fewest_30 : decode cX8_fewest 30 = .ok (.iconst (-1), 1) := by decide +kernel
theorem dX8_fewest_31 : decode cX8_fewest 31 = .ok (.putfield 133, 3) := by decide +kernel
theorem dX8_fewest_34 : decode cX8_fewest 34 = .ok (.iconst 0, 1) := by decide +kernel
theorem dX8_fewest_35 : decode cX8_fewest 35 = .ok (.istore 6, 2) := by decide +kernel
theorem dX8_fewest_37 : decode cX8_fewest 37 = .ok (.iload 6, 2) := by decide +kernel
theorem dX8_fewest_39 : decode cX8_fewest 39 = .ok (.aload_n 0, 1) := by decide +kernel
theorem dX8_fewest_40 : decode cX8_fewest 40 = .ok (.getfield 99, 3) := by decide +kernel
theorem dX8_fewest_43 : decode cX8_fewest 43 = .ok (.if_icmp .ge 149, 3) := by decide +kernel
theorem dX8_fewest_46 : decode cX8_fewest 46 = .ok (.aload_n 0, 1) := by decide +kernel
theorem dX8_fewest_47 : decode cX8_fewest 47 = .ok (.getfield 29, 3) := by decide +kernel
theorem dX8_fewest_50 : decode cX8_fewest 50 = .ok (.iconst 4, 1) := by decide +kernel
theorem dX8_fewest_51 : decode cX8_fewest 51 = .ok (.iload 6, 2) := by decide +kernel
theorem dX8_fewest_53 : decode cX8_fewest 53 = .ok (.imul, 1) := by decide +kernel
theorem dX8_fewest_54 : decode cX8_fewest 54 = .ok (.iconst 1, 1) := by decide +kernel
theorem dX8_fewest_55 : decode cX8_fewest 55 = .ok (.iadd, 1) := by decide +kernel
theorem dX8_fewest_56 : decode cX8_fewest 56 = .ok (.iaload, 1) := by decide +kernel
theorem dX8_fewest_57 : decode cX8_fewest 57 = .ok (.istore 7, 2) := by decide +kernel
theorem dX8_fewest_59 : decode cX8_fewest 59 = .ok (.aload_n 0, 1) := by decide +kernel
theorem dX8_fewest_60 : decode cX8_fewest 60 = .ok (.getfield 29, 3) := by decide +kernel
theorem dX8_fewest_63 : decode cX8_fewest 63 = .ok (.iconst 4, 1) := by decide +kernel
theorem dX8_fewest_64 : decode cX8_fewest 64 = .ok (.iload 6, 2) := by decide +kernel
theorem dX8_fewest_66 : decode cX8_fewest 66 = .ok (.imul, 1) := by decide +kernel
theorem dX8_fewest_67 : decode cX8_fewest 67 = .ok (.iconst 2, 1) := by decide +kernel
theorem dX8_fewest_68 : decode cX8_fewest 68 = .ok (.iadd, 1) := by decide +kernel
theorem dX8_fewest_69 : decode cX8_fewest 69 = .ok (.iaload, 1) := by decide +kernel
theorem dX8_fewest_70 : decode cX8_fewest 70 = .ok (.istore 8, 2) := by decide +kernel
theorem dX8_fewest_72 : decode cX8_fewest 72 = .ok (.aload_n 0, 1) := by decide +kernel
theorem dX8_fewest_73 : decode cX8_fewest 73 = .ok (.getfield 29, 3) := by decide +kernel
theorem dX8_fewest_76 : decode cX8_fewest 76 = .ok (.iconst 4, 1) := by decide +kernel
theorem dX8_fewest_77 : decode cX8_fewest 77 = .ok (.iload 6, 2) := by decide +kernel
theorem dX8_fewest_79 : decode cX8_fewest 79 = .ok (.imul, 1) := by decide +kernel
theorem dX8_fewest_80 : decode cX8_fewest 80 = .ok (.iaload, 1) := by decide +kernel
theorem dX8_fewest_81 : decode cX8_fewest 81 = .ok (.iload_n 1, 1) := by decide +kernel
theorem dX8_fewest_82 : decode cX8_fewest 82 = .ok (.if_icmp .ne 104, 3) := by decide +kernel
theorem dX8_fewest_85 : decode cX8_fewest 85 = .ok (.iload 8, 2) := by decide +kernel
theorem dX8_fewest_87 : decode cX8_fewest 87 = .ok (.iconst 3, 1) := by decide +kernel
theorem dX8_fewest_88 : decode cX8_fewest 88 = .ok (.if_icmp .ge 98, 3) := by decide +kernel
theorem dX8_fewest_91 : decode cX8_fewest 91 = .ok (.iload 4, 2) := by decide +kernel
theorem dX8_fewest_93 : decode cX8_fewest 93 = .ok (.i2f, 1) := by decide +kernel
theorem dX8_fewest_94 : decode cX8_fewest 94 = .ok (.aload_n 0, 1) := by decide +kernel
theorem dX8_fewest_95 : decode cX8_fewest 95 = .ok (.iload_n 3, 1) := by decide +kernel
theorem dX8_fewest_96 : decode cX8_fewest 96 = .ok (.iload 7, 2) := by decide +kernel
theorem dX8_fewest_98 : decode cX8_fewest 98 = .ok (.iload 8, 2) := by decide +kernel
theorem dX8_fewest_100 : decode cX8_fewest 100 = .ok (.aload_n 0, 1) := by decide +kernel
theorem dX8_fewest_101 : decode cX8_fewest 101 = .ok (.getfield 29, 3) := by decide +kernel
theorem dX8_fewest_104 : decode cX8_fewest 104 = .ok (.iconst 4, 1) := by decide +kernel
theorem dX8_fewest_105 : decode cX8_fewest 105 = .ok (.iload 6, 2) := by decide +kernel
theorem dX8_fewest_107 : decode cX8_fewest 107 = .ok (.imul, 1) := by decide +kernel
theorem dX8_fewest_108 : decode cX8_fewest 108 = .ok (.iconst 3, 1) := by decide +kernel
theorem dX8_fewest_109 : decode cX8_fewest 109 = .ok (.iadd, 1) := by decide +kernel
theorem dX8_fewest_110 : decode cX8_fewest 110 = .ok (.iaload, 1) := by decide +kernel
theorem dX8_fewest_111 : decode cX8_fewest 111 = .ok (.invokevirtual 136, 3) := by decide +kernel
theorem dX8_fewest_114 : decode cX8_fewest 114 = .ok (.fmul, 1) := by decide +kernel
theorem dX8_fewest_115 : decode cX8_fewest 115 = .ok (.fstore 9, 2) := by decide +kernel
theorem dX8_fewest_117 : decode cX8_fewest 117 = .ok (.iload 8, 2) := by decide +kernel
theorem dX8_fewest_119 : decode cX8_fewest 119 = .ok (.ifCond .ne 34, 3) := by decide +kernel
theorem dX8_fewest_122 : decode cX8_fewest 122 = .ok (.aload_n 0, 1) := by decide +kernel
theorem dX8_fewest_123 : decode cX8_fewest 123 = .ok (.getfield 23, 3) := by decide +kernel
theorem dX8_fewest_126 : decode cX8_fewest 126 = .ok (.bipush 8, 2) := by decide +kernel
theorem dX8_fewest_128 : decode cX8_fewest 128 = .ok (.iload_n 3, 1) := by decide +kernel
theorem dX8_fewest_129 : decode cX8_fewest 129 = .ok (.imul, 1) := by decide +kernel
theorem dX8_fewest_130 : decode cX8_fewest 130 = .ok (.iload 7, 2) := by decide +kernel
theorem dX8_fewest_132 : decode cX8_fewest 132 = .ok (.iadd, 1) := by decide +kernel
theorem dX8_fewest_133 : decode cX8_fewest 133 = .ok (.baload, 1) := by decide +kernel
theorem dX8_fewest_134 : decode cX8_fewest 134 = .ok (.ifCond .eq 19, 3) := by decide +kernel
theorem dX8_fewest_137 : decode cX8_fewest 137 = .ok (.aload_n 0, 1) := by decide +kernel
theorem dX8_fewest_138 : decode cX8_fewest 138 = .ok (.fload 5, 2) := by decide +kernel
theorem dX8_fewest_140 : decode cX8_fewest 140 = .ok (.fconst 1, 1) := by decide +kernel
theorem dX8_fewest_141 : decode cX8_fewest 141 = .ok (.fload 9, 2) := by decide +kernel
theorem dX8_fewest_143 : decode cX8_fewest 143 = .ok (.fadd, 1) := by decide +kernel
theorem dX8_fewest_144 : decode cX8_fewest 144 = .ok (.iconst 1, 1) := by decide +kernel
theorem dX8_fewest_145 : decode cX8_fewest 145 = .ok (.iload 6, 2) := by decide +kernel
theorem dX8_fewest_147 : decode cX8_fewest 147 = .ok (.iconst (-1), 1) := by decide +kernel
theorem dX8_fewest_148 : decode cX8_fewest 148 = .ok (.invokevirtual 140, 3) := by decide +kernel
theorem dX8_fewest_151 : decode cX8_fewest 151 = .ok (.fstore 5, 2) := by decide +kernel
theorem dX8_fewest_153 : decode cX8_fewest 153 = .ok (.aload_n 0, 1) := by decide +kernel
theorem dX8_fewest_154 : decode cX8_fewest 154 = .ok (.getfield 23, 3) := by decide +kernel
theorem dX8_fewest_157 : decode cX8_fewest 157 = .ok (.bipush 8, 2) := by decide +kernel
theorem dX8_fewest_159 : decode cX8_fewest 159 = .ok (.iload_n 3, 1) := by decide +kernel
theorem dX8_fewest_160 : decode cX8_fewest 160 = .ok (.imul, 1) := by decide +kernel
theorem dX8_fewest_161 : decode cX8_fewest 161 = .ok (.iconst 4, 1) := by decide +kernel
theorem dX8_fewest_162 : decode cX8_fewest 162 = .ok (.iadd, 1) := by decide +kernel
theorem dX8_fewest_163 : decode cX8_fewest 163 = .ok (.iload 7, 2) := by decide +kernel
theorem dX8_fewest_165 : decode cX8_fewest 165 = .ok (.iadd, 1) := by decide +kernel
theorem dX8_fewest_166 : decode cX8_fewest 166 = .ok (.baload, 1) := by decide +kernel
theorem dX8_fewest_167 : decode cX8_fewest 167 = .ok (.ifCond .eq 19, 3) := by decide +kernel
theorem dX8_fewest_170 : decode cX8_fewest 170 = .ok (.aload_n 0, 1) := by decide +kernel
theorem dX8_fewest_171 : decode cX8_fewest 171 = .ok (.fload 5, 2) := by decide +kernel
theorem dX8_fewest_173 : decode cX8_fewest 173 = .ok (.fconst 2, 1) := by decide +kernel
theorem dX8_fewest_174 : decode cX8_fewest 174 = .ok (.fload 9, 2) := by decide +kernel
theorem dX8_fewest_176 : decode cX8_fewest 176 = .ok (.fadd, 1) := by decide +kernel
theorem dX8_fewest_177 : decode cX8_fewest 177 = .ok (.iconst 2, 1) := by decide +kernel
theorem dX8_fewest_178 : decode cX8_fewest 178 = .ok (.iload 6, 2) := by decide +kernel
theorem dX8_fewest_180 : decode cX8_fewest 180 = .ok (.iconst (-1), 1) := by decide +kernel
theorem dX8_fewest_181 : decode cX8_fewest 181 = .ok (.invokevirtual 140, 3) := by decide +kernel
theorem dX8_fewest_184 : decode cX8_fewest 184 = .ok (.fstore 5, 2) := by decide +kernel
theorem dX8_fewest_186 : decode cX8_fewest 186 = .ok (.iinc 6 1, 3) := by decide +kernel
theorem dX8_fewest_189 : decode cX8_fewest 189 = .ok (.goto (-152), 3) := by decide +kernel
theorem dX8_fewest_192 : decode cX8_fewest 192 = .ok (.iconst 0, 1) := by decide +kernel
theorem dX8_fewest_193 : decode cX8_fewest 193 = .ok (.istore 6, 2) := by decide +kernel
theorem dX8_fewest_195 : decode cX8_fewest 195 = .ok (.iload 6, 2) := by decide +kernel
theorem dX8_fewest_197 : decode cX8_fewest 197 = .ok (.aload_n 0, 1) := by decide +kernel
theorem dX8_fewest_198 : decode cX8_fewest 198 = .ok (.getfield 102, 3) := by decide +kernel
theorem dX8_fewest_201 : decode cX8_fewest 201 = .ok (.if_icmp .ge 119, 3) := by decide +kernel
theorem dX8_fewest_204 : decode cX8_fewest 204 = .ok (.aload_n 0, 1) := by decide +kernel
theorem dX8_fewest_205 : decode cX8_fewest 205 = .ok (.iload 6, 2) := by decide +kernel
theorem dX8_fewest_207 : decode cX8_fewest 207 = .ok (.iload_n 1, 1) := by decide +kernel
theorem dX8_fewest_208 : decode cX8_fewest 208 = .ok (.iload_n 2, 1) := by decide +kernel
theorem dX8_fewest_209 : decode cX8_fewest 209 = .ok (.invokevirtual 144, 3) := by decide +kernel
theorem dX8_fewest_212 : decode cX8_fewest 212 = .ok (.istore 7, 2) := by decide +kernel
theorem dX8_fewest_214 : decode cX8_fewest 214 = .ok (.iload 7, 2) := by decide +kernel
theorem dX8_fewest_216 : decode cX8_fewest 216 = .ok (.ifCond .lt 98, 3) := by decide +kernel
theorem dX8_fewest_219 : decode cX8_fewest 219 = .ok (.aload_n 0, 1) := by decide +kernel
theorem dX8_fewest_220 : decode cX8_fewest 220 = .ok (.getfield 32, 3) := by decide +kernel
theorem dX8_fewest_223 : decode cX8_fewest 223 = .ok (.iconst 4, 1) := by decide +kernel
theorem dX8_fewest_224 : decode cX8_fewest 224 = .ok (.iload 6, 2) := by decide +kernel
theorem dX8_fewest_226 : decode cX8_fewest 226 = .ok (.imul, 1) := by decide +kernel
theorem dX8_fewest_227 : decode cX8_fewest 227 = .ok (.iload 7, 2) := by decide +kernel
theorem dX8_fewest_229 : decode cX8_fewest 229 = .ok (.iadd, 1) := by decide +kernel
theorem dX8_fewest_230 : decode cX8_fewest 230 = .ok (.iconst 1, 1) := by decide +kernel
theorem dX8_fewest_231 : decode cX8_fewest 231 = .ok (.iadd, 1) := by decide +kernel
theorem dX8_fewest_232 : decode cX8_fewest 232 = .ok (.iaload, 1) := by decide +kernel
theorem dX8_fewest_233 : decode cX8_fewest 233 = .ok (.istore 8, 2) := by decide +kernel
theorem dX8_fewest_235 : decode cX8_fewest 235 = .ok (.iload 4, 2) := by decide +kernel
theorem dX8_fewest_237 : decode cX8_fewest 237 = .ok (.i2f, 1) := by decide +kernel
theorem dX8_fewest_238 : decode cX8_fewest 238 = .ok (.aload_n 0, 1) := by decide +kernel
theorem dX8_fewest_239 : decode cX8_fewest 239 = .ok (.iload_n 3, 1) := by decide +kernel
theorem dX8_fewest_240 : decode cX8_fewest 240 = .ok (.iload 8, 2) := by decide +kernel
theorem dX8_fewest_242 : decode cX8_fewest 242 = .ok (.iconst 0, 1) := by decide +kernel
theorem dX8_fewest_243 : decode cX8_fewest 243 = .ok (.iconst 0, 1) := by decide +kernel
theorem dX8_fewest_244 : decode cX8_fewest 244 = .ok (.invokevirtual 136, 3) := by decide +kernel
theorem dX8_fewest_247 : decode cX8_fewest 247 = .ok (.fmul, 1) := by decide +kernel
theorem dX8_fewest_248 : decode cX8_fewest 248 = .ok (.fstore 9, 2) := by decide +kernel
theorem dX8_fewest_250 : decode cX8_fewest 250 = .ok (.aload_n 0, 1) := by decide +kernel
theorem dX8_fewest_251 : decode cX8_fewest 251 = .ok (.getfield 23, 3) := by decide +kernel
theorem dX8_fewest_254 : decode cX8_fewest 254 = .ok (.bipush 8, 2) := by decide +kernel
theorem dX8_fewest_256 : decode cX8_fewest 256 = .ok (.iload_n 3, 1) := by decide +kernel
theorem dX8_fewest_257 : decode cX8_fewest 257 = .ok (.imul, 1) := by decide +kernel
theorem dX8_fewest_258 : decode cX8_fewest 258 = .ok (.iload 8, 2) := by decide +kernel
theorem dX8_fewest_260 : decode cX8_fewest 260 = .ok (.iadd, 1) := by decide +kernel
theorem dX8_fewest_261 : decode cX8_fewest 261 = .ok (.baload, 1) := by decide +kernel
theorem dX8_fewest_262 : decode cX8_fewest 262 = .ok (.ifCond .eq 19, 3) := by decide +kernel
theorem dX8_fewest_265 : decode cX8_fewest 265 = .ok (.aload_n 0, 1) := by decide +kernel
theorem dX8_fewest_266 : decode cX8_fewest 266 = .ok (.fload 5, 2) := by decide +kernel
theorem dX8_fewest_268 : decode cX8_fewest 268 = .ok (.fconst 1, 1) := by decide +kernel
theorem dX8_fewest_269 : decode cX8_fewest 269 = .ok (.fload 9, 2) := by decide +kernel
theorem dX8_fewest_271 : decode cX8_fewest 271 = .ok (.fadd, 1) := by decide +kernel
theorem dX8_fewest_272 : decode cX8_fewest 272 = .ok (.iconst 1, 1) := by decide +kernel
theorem dX8_fewest_273 : decode cX8_fewest 273 = .ok (.iconst (-1), 1) := by decide +kernel
theorem dX8_fewest_274 : decode cX8_fewest 274 = .ok (.iload 6, 2) := by decide +kernel
theorem dX8_fewest_276 : decode cX8_fewest 276 = .ok (.invokevirtual 140, 3) := by decide +kernel
theorem dX8_fewest_279 : decode cX8_fewest 279 = .ok (.fstore 5, 2) := by decide +kernel
theorem dX8_fewest_281 : decode cX8_fewest 281 = .ok (.aload_n 0, 1) := by decide +kernel
theorem dX8_fewest_282 : decode cX8_fewest 282 = .ok (.getfield 23, 3) := by decide +kernel
theorem dX8_fewest_285 : decode cX8_fewest 285 = .ok (.bipush 8, 2) := by decide +kernel
theorem dX8_fewest_287 : decode cX8_fewest 287 = .ok (.iload_n 3, 1) := by decide +kernel
theorem dX8_fewest_288 : decode cX8_fewest 288 = .ok (.imul, 1) := by decide +kernel
theorem dX8_fewest_289 : decode cX8_fewest 289 = .ok (.iconst 4, 1) := by decide +kernel
theorem dX8_fewest_290 : decode cX8_fewest 290 = .ok (.iadd, 1) := by decide +kernel
theorem dX8_fewest_291 : decode cX8_fewest 291 = .ok (.iload 8, 2) := by decide +kernel
theorem dX8_fewest_293 : decode cX8_fewest 293 = .ok (.iadd, 1) := by decide +kernel
theorem dX8_fewest_294 : decode cX8_fewest 294 = .ok (.baload, 1) := by decide +kernel
theorem dX8_fewest_295 : decode cX8_fewest 295 = .ok (.ifCond .eq 19, 3) := by decide +kernel
theorem dX8_fewest_298 : decode cX8_fewest 298 = .ok (.aload_n 0, 1) := by decide +kernel
theorem dX8_fewest_299 : decode cX8_fewest 299 = .ok (.fload 5, 2) := by decide +kernel
theorem dX8_fewest_301 : decode cX8_fewest 301 = .ok (.fconst 2, 1) := by decide +kernel
theorem dX8_fewest_302 : decode cX8_fewest 302 = .ok (.fload 9, 2) := by decide +kernel
theorem dX8_fewest_304 : decode cX8_fewest 304 = .ok (.fadd, 1) := by decide +kernel
theorem dX8_fewest_305 : decode cX8_fewest 305 = .ok (.iconst 2, 1) := by decide +kernel
theorem dX8_fewest_306 : decode cX8_fewest 306 = .ok (.iconst (-1), 1) := by decide +kernel
theorem dX8_fewest_307 : decode cX8_fewest 307 = .ok (.iload 6, 2) := by decide +kernel
theorem dX8_fewest_309 : decode cX8_fewest 309 = .ok (.invokevirtual 140, 3) := by decide +kernel
theorem dX8_fewest_312 : decode cX8_fewest 312 = .ok (.fstore 5, 2) := by decide +kernel
theorem dX8_fewest_314 : decode cX8_fewest 314 = .ok (.iinc 6 1, 3) := by decide +kernel
theorem dX8_fewest_317 : decode cX8_fewest 317 = .ok (.goto (-122), 3) := by decide +kernel
theorem dX8_fewest_320 : decode cX8_fewest 320 = .ok (.fload 5, 2) := by decide +kernel
theorem dX8_fewest_322 : decode cX8_fewest 322 = .ok (.freturn, 1) := by decide +kernel
theorem dX8_lessened_0 : decode cX8_lessened 0 = .ok (.aload_n 0, 1) := by decide +kernel
theorem dX8_lessened_1 : decode cX8_lessened 1 = .ok (.getfield 26, 3) := by decide +kernel
theorem dX8_lessened_4 : decode cX8_lessened 4 = .ok (.iload_n 2, 1) := by decide +kernel
theorem dX8_lessened_5 : decode cX8_lessened 5 = .ok (.iaload, 1) := by decide +kernel
theorem dX8_lessened_6 : decode cX8_lessened 6 = .ok (.istore 4, 2) := by decide +kernel
theorem dX8_lessened_8 : decode cX8_lessened 8 = .ok (.fload_n 1, 1) := by decide +kernel
theorem dX8_lessened_9 : decode cX8_lessened 9 = .ok (.aload_n 0, 1) := by decide +kernel
theorem dX8_lessened_10 : decode cX8_lessened 10 = .ok (.iload 4, 2) := by decide +kernel
theorem dX8_lessened_12 : decode cX8_lessened 12 = .ok (.invokevirtual 74, 3) := by decide +kernel
theorem dX8_lessened_15 : decode cX8_lessened 15 = .ok (.i2f, 1) := by decide +kernel
theorem dX8_lessened_16 : decode cX8_lessened 16 = .ok (.fmul, 1) := by decide +kernel
theorem dX8_lessened_17 : decode cX8_lessened 17 = .ok (.fstore 5, 2) := by decide +kernel
theorem dX8_lessened_19 : decode cX8_lessened 19 = .ok (.iconst 0, 1) := by decide +kernel
theorem dX8_lessened_20 : decode cX8_lessened 20 = .ok (.istore 6, 2) := by decide +kernel
theorem dX8_lessened_22 : decode cX8_lessened 22 = .ok (.iload 6, 2) := by decide +kernel
theorem dX8_lessened_24 : decode cX8_lessened 24 = .ok (.aload_n 0, 1) := by decide +kernel
theorem dX8_lessened_25 : decode cX8_lessened 25 = .ok (.getfield 99, 3) := by decide +kernel
theorem dX8_lessened_28 : decode cX8_lessened 28 = .ok (.if_icmp .ge 66, 3) := by decide +kernel
theorem dX8_lessened_31 : decode cX8_lessened 31 = .ok (.aload_n 0, 1) := by decide +kernel
theorem dX8_lessened_32 : decode cX8_lessened 32 = .ok (.getfield 29, 3) := by decide +kernel
theorem dX8_lessened_35 : decode cX8_lessened 35 = .ok (.iconst 4, 1) := by decide +kernel
theorem dX8_lessened_36 : decode cX8_lessened 36 = .ok (.iload 6, 2) := by decide +kernel
theorem dX8_lessened_38 : decode cX8_lessened 38 = .ok (.imul, 1) := by decide +kernel
theorem dX8_lessened_39 : decode cX8_lessened 39 = .ok (.iaload, 1) := by decide +kernel
theorem dX8_lessened_40 : decode cX8_lessened 40 = .ok (.iload_n 2, 1) := by decide +kernel
theorem dX8_lessened_41 : decode cX8_lessened 41 = .ok (.if_icmp .ne 47, 3) := by decide +kernel
theorem dX8_lessened_44 : decode cX8_lessened 44 = .ok (.fload 5, 2) := by decide +kernel
theorem dX8_lessened_46 : decode cX8_lessened 46 = .ok (.aload_n 0, 1) := by decide +kernel
theorem dX8_lessened_47 : decode cX8_lessened 47 = .ok (.iload 4, 2) := by decide +kernel
theorem dX8_lessened_49 : decode cX8_lessened 49 = .ok (.aload_n 0, 1) := by decide +kernel
theorem dX8_lessened_50 : decode cX8_lessened 50 = .ok (.getfield 29, 3) := by decide +kernel
theorem dX8_lessened_53 : decode cX8_lessened 53 = .ok (.iconst 4, 1) := by decide +kernel
theorem dX8_lessened_54 : decode cX8_lessened 54 = .ok (.iload 6, 2) := by decide +kernel
theorem dX8_lessened_56 : decode cX8_lessened 56 = .ok (.imul, 1) := by decide +kernel
theorem dX8_lessened_57 : decode cX8_lessened 57 = .ok (.iconst 1, 1) := by decide +kernel
theorem dX8_lessened_58 : decode cX8_lessened 58 = .ok (.iadd, 1) := by decide +kernel
theorem dX8_lessened_59 : decode cX8_lessened 59 = .ok (.iaload, 1) := by decide +kernel
theorem dX8_lessened_60 : decode cX8_lessened 60 = .ok (.aload_n 0, 1) := by decide +kernel
theorem dX8_lessened_61 : decode cX8_lessened 61 = .ok (.getfield 29, 3) := by decide +kernel
theorem dX8_lessened_64 : decode cX8_lessened 64 = .ok (.iconst 4, 1) := by decide +kernel
theorem dX8_lessened_65 : decode cX8_lessened 65 = .ok (.iload 6, 2) := by decide +kernel
theorem dX8_lessened_67 : decode cX8_lessened 67 = .ok (.imul, 1) := by decide +kernel
theorem dX8_lessened_68 : decode cX8_lessened 68 = .ok (.iconst 2, 1) := by decide +kernel
theorem dX8_lessened_69 : decode cX8_lessened 69 = .ok (.iadd, 1) := by decide +kernel
theorem dX8_lessened_70 : decode cX8_lessened 70 = .ok (.iaload, 1) := by decide +kernel
theorem dX8_lessened_71 : decode cX8_lessened 71 = .ok (.aload_n 0, 1) := by decide +kernel
theorem dX8_lessened_72 : decode cX8_lessened 72 = .ok (.getfield 29, 3) := by decide +kernel
theorem dX8_lessened_75 : decode cX8_lessened 75 = .ok (.iconst 4, 1) := by decide +kernel
theorem dX8_lessened_76 : decode cX8_lessened 76 = .ok (.iload 6, 2) := by decide +kernel
theorem dX8_lessened_78 : decode cX8_lessened 78 = .ok (.imul, 1) := by decide +kernel
theorem dX8_lessened_79 : decode cX8_lessened 79 = .ok (.iconst 3, 1) := by decide +kernel
theorem dX8_lessened_80 : decode cX8_lessened 80 = .ok (.iadd, 1) := by decide +kernel
theorem dX8_lessened_81 : decode cX8_lessened 81 = .ok (.iaload, 1) := by decide +kernel
theorem dX8_lessened_82 : decode cX8_lessened 82 = .ok (.invokevirtual 136, 3) := by decide +kernel
theorem dX8_lessened_85 : decode cX8_lessened 85 = .ok (.fmul, 1) := by decide +kernel
theorem dX8_lessened_86 : decode cX8_lessened 86 = .ok (.fstore 5, 2) := by decide +kernel
theorem dX8_lessened_88 : decode cX8_lessened 88 = .ok (.iinc 6 1, 3) := by decide +kernel
theorem dX8_lessened_91 : decode cX8_lessened 91 = .ok (.goto (-69), 3) := by decide +kernel
theorem dX8_lessened_94 : decode cX8_lessened 94 = .ok (.iconst 0, 1) := by decide +kernel
theorem dX8_lessened_95 : decode cX8_lessened 95 = .ok (.istore 6, 2) := by decide +kernel
theorem dX8_lessened_97 : decode cX8_lessened 97 = .ok (.iload 6, 2) := by decide +kernel
theorem dX8_lessened_99 : decode cX8_lessened 99 = .ok (.aload_n 0, 1) := by decide +kernel
theorem dX8_lessened_100 : decode cX8_lessened 100 = .ok (.getfield 102, 3) := by decide +kernel
theorem dX8_lessened_103 : decode cX8_lessened 103 = .ok (.if_icmp .ge 51, 3) := by decide +kernel
theorem dX8_lessened_106 : decode cX8_lessened 106 = .ok (.aload_n 0, 1) := by decide +kernel
theorem dX8_lessened_107 : decode cX8_lessened 107 = .ok (.iload 6, 2) := by decide +kernel
theorem dX8_lessened_109 : decode cX8_lessened 109 = .ok (.iload_n 2, 1) := by decide +kernel
theorem dX8_lessened_110 : decode cX8_lessened 110 = .ok (.iload_n 3, 1) := by decide +kernel
theorem dX8_lessened_111 : decode cX8_lessened 111 = .ok (.invokevirtual 144, 3) := by decide +kernel
theorem dX8_lessened_114 : decode cX8_lessened 114 = .ok (.istore 7, 2) := by decide +kernel
theorem dX8_lessened_116 : decode cX8_lessened 116 = .ok (.iload 7, 2) := by decide +kernel
theorem dX8_lessened_118 : decode cX8_lessened 118 = .ok (.ifCond .lt 30, 3) := by decide +kernel
theorem dX8_lessened_121 : decode cX8_lessened 121 = .ok (.fload 5, 2) := by decide +kernel
theorem dX8_lessened_123 : decode cX8_lessened 123 = .ok (.aload_n 0, 1) := by decide +kernel
theorem dX8_lessened_124 : decode cX8_lessened 124 = .ok (.iload 4, 2) := by decide +kernel
theorem dX8_lessened_126 : decode cX8_lessened 126 = .ok (.aload_n 0, 1) := by decide +kernel
theorem dX8_lessened_127 : decode cX8_lessened 127 = .ok (.getfield 32, 3) := by decide +kernel
theorem dX8_lessened_130 : decode cX8_lessened 130 = .ok (.iconst 4, 1) := by decide +kernel
theorem dX8_lessened_131 : decode cX8_lessened 131 = .ok (.iload 6, 2) := by decide +kernel
theorem dX8_lessened_133 : decode cX8_lessened 133 = .ok (.imul, 1) := by decide +kernel
theorem dX8_lessened_134 : decode cX8_lessened 134 = .ok (.iload 7, 2) := by decide +kernel
theorem dX8_lessened_136 : decode cX8_lessened 136 = .ok (.iadd, 1) := by decide +kernel
theorem dX8_lessened_137 : decode cX8_lessened 137 = .ok (.iconst 1, 1) := by decide +kernel
theorem dX8_lessened_138 : decode cX8_lessened 138 = .ok (.iadd, 1) := by decide +kernel
theorem dX8_lessened_139 : decode cX8_lessened 139 = .ok (.iaload, 1) := by decide +kernel
theorem dX8_lessened_140 : decode cX8_lessened 140 = .ok (.iconst 0, 1) := by decide +kernel
theorem dX8_lessened_141 : decode cX8_lessened 141 = .ok (.iconst 0, 1) := by decide +kernel
theorem dX8_lessened_142 : decode cX8_lessened 142 = .ok (.invokevirtual 136, 3) := by decide +kernel
theorem dX8_lessened_145 : decode cX8_lessened 145 = .ok (.fmul, 1) := by decide +kernel
theorem dX8_lessened_146 : decode cX8_lessened 146 = .ok (.fstore 5, 2) := by decide +kernel
theorem dX8_lessened_148 : decode cX8_lessened 148 = .ok (.iinc 6 1, 3) := by decide +kernel
theorem dX8_lessened_151 : decode cX8_lessened 151 = .ok (.goto (-54), 3) := by decide +kernel
theorem dX8_lessened_154 : decode cX8_lessened 154 = .ok (.fload 5, 2) := by decide +kernel
theorem dX8_lessened_156 : decode cX8_lessened 156 = .ok (.freturn, 1) := by decide +kernel
theorem dX8_ordered_0 : decode cX8_ordered 0 = .ok (.iload_n 0, 1) := by decide +kernel
theorem dX8_ordered_1 : decode cX8_ordered 1 = .ok (.iconst 2, 1) := by decide +kernel
theorem dX8_ordered_2 : decode cX8_ordered 2 = .ok (.idiv, 1) := by decide +kernel
theorem dX8_ordered_3 : decode cX8_ordered 3 = .ok (.istore_n 2, 1) := by decide +kernel
theorem dX8_ordered_4 : decode cX8_ordered 4 = .ok (.iload_n 1, 1) := by decide +kernel
theorem dX8_ordered_5 : decode cX8_ordered 5 = .ok (.ifCond .ne 5, 3) := by decide +kernel
theorem dX8_ordered_8 : decode cX8_ordered 8 = .ok (.iload_n 2, 1) := by decide +kernel
theorem dX8_ordered_9 : decode cX8_ordered 9 = .ok (.ireturn, 1) := by decide +kernel
theorem dX8_ordered_10 : decode cX8_ordered 10 = .ok (.iload_n 2, 1) := by decide +kernel
theorem dX8_ordered_11 : decode cX8_ordered 11 = .ok (.ifCond .ne 7, 3) := by decide +kernel
theorem dX8_ordered_14 : decode cX8_ordered 14 = .ok (.iconst 1, 1) := by decide +kernel
theorem dX8_ordered_15 : decode cX8_ordered 15 = .ok (.goto 4, 3) := by decide +kernel
theorem dX8_ordered_18 : decode cX8_ordered 18 = .ok (.iconst 0, 1) := by decide +kernel
theorem dX8_ordered_19 : decode cX8_ordered 19 = .ok (.istore_n 3, 1) := by decide +kernel
theorem dX8_ordered_20 : decode cX8_ordered 20 = .ok (.iconst 3, 1) := by decide +kernel
theorem dX8_ordered_21 : decode cX8_ordered 21 = .ok (.iload_n 2, 1) := by decide +kernel
theorem dX8_ordered_22 : decode cX8_ordered 22 = .ok (.isub, 1) := by decide +kernel
theorem dX8_ordered_23 : decode cX8_ordered 23 = .ok (.iload_n 3, 1) := by decide +kernel
theorem dX8_ordered_24 : decode cX8_ordered 24 = .ok (.isub, 1) := by decide +kernel
theorem dX8_ordered_25 : decode cX8_ordered 25 = .ok (.istore 4, 2) := by decide +kernel
theorem dX8_ordered_27 : decode cX8_ordered 27 = .ok (.iload_n 1, 1) := by decide +kernel
theorem dX8_ordered_28 : decode cX8_ordered 28 = .ok (.iconst 1, 1) := by decide +kernel
theorem dX8_ordered_29 : decode cX8_ordered 29 = .ok (.if_icmp .ne 7, 3) := by decide +kernel
theorem dX8_ordered_32 : decode cX8_ordered 32 = .ok (.iconst 1, 1) := by decide +kernel
theorem dX8_ordered_33 : decode cX8_ordered 33 = .ok (.goto 4, 3) := by decide +kernel
theorem dX8_ordered_36 : decode cX8_ordered 36 = .ok (.iconst 0, 1) := by decide +kernel
theorem dX8_ordered_37 : decode cX8_ordered 37 = .ok (.iload_n 0, 1) := by decide +kernel
theorem dX8_ordered_38 : decode cX8_ordered 38 = .ok (.iconst 2, 1) := by decide +kernel
theorem dX8_ordered_39 : decode cX8_ordered 39 = .ok (.irem, 1) := by decide +kernel
theorem dX8_ordered_40 : decode cX8_ordered 40 = .ok (.ifCond .ne 7, 3) := by decide +kernel
theorem dX8_ordered_43 : decode cX8_ordered 43 = .ok (.iconst 1, 1) := by decide +kernel
theorem dX8_ordered_44 : decode cX8_ordered 44 = .ok (.goto 4, 3) := by decide +kernel
theorem dX8_ordered_47 : decode cX8_ordered 47 = .ok (.iconst 0, 1) := by decide +kernel
theorem dX8_ordered_48 : decode cX8_ordered 48 = .ok (.if_icmp .ne 7, 3) := by decide +kernel
theorem dX8_ordered_51 : decode cX8_ordered 51 = .ok (.iload_n 3, 1) := by decide +kernel
theorem dX8_ordered_52 : decode cX8_ordered 52 = .ok (.goto 5, 3) := by decide +kernel
theorem dX8_ordered_55 : decode cX8_ordered 55 = .ok (.iload 4, 2) := by decide +kernel
theorem dX8_ordered_57 : decode cX8_ordered 57 = .ok (.ireturn, 1) := by decide +kernel
theorem dX8_cost_0 : decode cX8_cost 0 = .ok (.fconst 1, 1) := by decide +kernel
theorem dX8_cost_1 : decode cX8_cost 1 = .ok (.fstore_n 2, 1) := by decide +kernel
theorem dX8_cost_2 : decode cX8_cost 2 = .ok (.fconst 0, 1) := by decide +kernel
theorem dX8_cost_3 : decode cX8_cost 3 = .ok (.fstore_n 3, 1) := by decide +kernel
theorem dX8_cost_4 : decode cX8_cost 4 = .ok (.iconst 0, 1) := by decide +kernel
theorem dX8_cost_5 : decode cX8_cost 5 = .ok (.istore 4, 2) := by decide +kernel
theorem dX8_cost_7 : decode cX8_cost 7 = .ok (.iconst 0, 1) := by decide +kernel
theorem dX8_cost_8 : decode cX8_cost 8 = .ok (.istore 5, 2) := by decide +kernel
theorem dX8_cost_10 : decode cX8_cost 10 = .ok (.iconst 0, 1) := by decide +kernel
theorem dX8_cost_11 : decode cX8_cost 11 = .ok (.istore 6, 2) := by decide +kernel
theorem dX8_cost_13 : decode cX8_cost 13 = .ok (.iload 6, 2) := by decide +kernel
theorem dX8_cost_15 : decode cX8_cost 15 = .ok (.iconst 3, 1) := by decide +kernel
theorem dX8_cost_16 : decode cX8_cost 16 = .ok (.if_icmp .ge 107, 3) := by decide +kernel
theorem dX8_cost_19 : decode cX8_cost 19 = .ok (.iload_n 1, 1) := by decide +kernel
theorem dX8_cost_20 : decode cX8_cost 20 = .ok (.iload 6, 2) := by decide +kernel
theorem dX8_cost_22 : decode cX8_cost 22 = .ok (.invokestatic 147, 3) := by decide +kernel
theorem dX8_cost_25 : decode cX8_cost 25 = .ok (.istore 7, 2) := by decide +kernel
theorem dX8_cost_27 : decode cX8_cost 27 = .ok (.iload 7, 2) := by decide +kernel
theorem dX8_cost_29 : decode cX8_cost 29 = .ok (.aload_n 0, 1) := by decide +kernel
theorem dX8_cost_30 : decode cX8_cost 30 = .ok (.getfield 96, 3) := by decide +kernel
theorem dX8_cost_33 : decode cX8_cost 33 = .ok (.if_icmp .ge 84, 3) := by decide +kernel
theorem dX8_cost_36 : decode cX8_cost 36 = .ok (.aload_n 0, 1) := by decide +kernel
theorem dX8_cost_37 : decode cX8_cost 37 = .ok (.iload 7, 2) := by decide +kernel
theorem dX8_cost_39 : decode cX8_cost 39 = .ok (.iload 4, 2) := by decide +kernel
theorem dX8_cost_41 : decode cX8_cost 41 = .ok (.invokevirtual 151, 3) := by decide +kernel
theorem dX8_cost_44 : decode cX8_cost 44 = .ok (.fstore 8, 2) := by decide +kernel
theorem dX8_cost_46 : decode cX8_cost 46 = .ok (.fload_n 3, 1) := by decide +kernel
theorem dX8_cost_47 : decode cX8_cost 47 = .ok (.fload_n 2, 1) := by decide +kernel
theorem dX8_cost_48 : decode cX8_cost 48 = .ok (.fload 8, 2) := by decide +kernel
theorem dX8_cost_50 : decode cX8_cost 50 = .ok (.fmul, 1) := by decide +kernel
theorem dX8_cost_51 : decode cX8_cost 51 = .ok (.fadd, 1) := by decide +kernel
theorem dX8_cost_52 : decode cX8_cost 52 = .ok (.fstore_n 3, 1) := by decide +kernel
theorem dX8_cost_53 : decode cX8_cost 53 = .ok (.aload_n 0, 1) := by decide +kernel
theorem dX8_cost_54 : decode cX8_cost 54 = .ok (.fload_n 2, 1) := by decide +kernel
theorem dX8_cost_55 : decode cX8_cost 55 = .ok (.iload 7, 2) := by decide +kernel
theorem dX8_cost_57 : decode cX8_cost 57 = .ok (.iload 4, 2) := by decide +kernel
theorem dX8_cost_59 : decode cX8_cost 59 = .ok (.invokevirtual 155, 3) := by decide +kernel
theorem dX8_cost_62 : decode cX8_cost 62 = .ok (.fstore_n 2, 1) := by decide +kernel
theorem dX8_cost_63 : decode cX8_cost 63 = .ok (.iload 4, 2) := by decide +kernel
theorem dX8_cost_65 : decode cX8_cost 65 = .ok (.iconst 1, 1) := by decide +kernel
theorem dX8_cost_66 : decode cX8_cost 66 = .ok (.iload 7, 2) := by decide +kernel
theorem dX8_cost_68 : decode cX8_cost 68 = .ok (.ishl, 1) := by decide +kernel
theorem dX8_cost_69 : decode cX8_cost 69 = .ok (.ior, 1) := by decide +kernel
theorem dX8_cost_70 : decode cX8_cost 70 = .ok (.istore 4, 2) := by decide +kernel
theorem dX8_cost_72 : decode cX8_cost 72 = .ok (.aload_n 0, 1) := by decide +kernel
theorem dX8_cost_73 : decode cX8_cost 73 = .ok (.getfield 38, 3) := by decide +kernel
theorem dX8_cost_76 : decode cX8_cost 76 = .ok (.iload 5, 2) := by decide +kernel
theorem dX8_cost_78 : decode cX8_cost 78 = .ok (.iload 7, 2) := by decide +kernel
theorem dX8_cost_80 : decode cX8_cost 80 = .ok (.iastore, 1) := by decide +kernel
theorem dX8_cost_81 : decode cX8_cost 81 = .ok (.aload_n 0, 1) := by decide +kernel
theorem dX8_cost_82 : decode cX8_cost 82 = .ok (.getfield 41, 3) := by decide +kernel
theorem dX8_cost_85 : decode cX8_cost 85 = .ok (.iload 5, 2) := by decide +kernel
theorem dX8_cost_87 : decode cX8_cost 87 = .ok (.aload_n 0, 1) := by decide +kernel
theorem dX8_cost_88 : decode cX8_cost 88 = .ok (.getfield 127, 3) := by decide +kernel
theorem dX8_cost_91 : decode cX8_cost 91 = .ok (.iastore, 1) := by decide +kernel
theorem dX8_cost_92 : decode cX8_cost 92 = .ok (.aload_n 0, 1) := by decide +kernel
theorem dX8_cost_93 : decode cX8_cost 93 = .ok (.getfield 44, 3) := by decide +kernel
theorem dX8_cost_96 : decode cX8_cost 96 = .ok (.iload 5, 2) := by decide +kernel
theorem dX8_cost_98 : decode cX8_cost 98 = .ok (.aload_n 0, 1) := by decide +kernel
theorem dX8_cost_99 : decode cX8_cost 99 = .ok (.getfield 130, 3) := by decide +kernel
theorem dX8_cost_102 : decode cX8_cost 102 = .ok (.iastore, 1) := by decide +kernel
theorem dX8_cost_103 : decode cX8_cost 103 = .ok (.aload_n 0, 1) := by decide +kernel
theorem dX8_cost_104 : decode cX8_cost 104 = .ok (.getfield 47, 3) := by decide +kernel
theorem dX8_cost_107 : decode cX8_cost 107 = .ok (.iload 5, 2) := by decide +kernel
theorem dX8_cost_109 : decode cX8_cost 109 = .ok (.aload_n 0, 1) := by decide +kernel
theorem dX8_cost_110 : decode cX8_cost 110 = .ok (.getfield 133, 3) := by decide +kernel
theorem dX8_cost_113 : decode cX8_cost 113 = .ok (.iastore, 1) := by decide +kernel
theorem dX8_cost_114 : decode cX8_cost 114 = .ok (.iinc 5 1, 3) := by decide +kernel
theorem dX8_cost_117 : decode cX8_cost 117 = .ok (.iinc 6 1, 3) := by decide +kernel
theorem dX8_cost_120 : decode cX8_cost 120 = .ok (.goto (-107), 3) := by decide +kernel
theorem dX8_cost_123 : decode cX8_cost 123 = .ok (.fload_n 3, 1) := by decide +kernel
theorem dX8_cost_124 : decode cX8_cost 124 = .ok (.freturn, 1) := by decide +kernel
theorem dX8_plan_0 : decode cX8_plan 0 = .ok (.aload_n 0, 1) := by decide +kernel
theorem dX8_plan_1 : decode cX8_plan 1 = .ok (.aload_n 0, 1) := by decide +kernel
theorem dX8_plan_2 : decode cX8_plan 2 = .ok (.getfield 96, 3) := by decide +kernel
theorem dX8_plan_5 : decode cX8_plan 5 = .ok (.ifCond .eq 17, 3) := by decide +kernel
theorem dX8_plan_8 : decode cX8_plan 8 = .ok (.aload_n 0, 1) := by decide +kernel
theorem dX8_plan_9 : decode cX8_plan 9 = .ok (.getfield 105, 3) := by decide +kernel
theorem dX8_plan_12 : decode cX8_plan 12 = .ok (.ifCond .eq 10, 3) := by decide +kernel
theorem dX8_plan_15 : decode cX8_plan 15 = .ok (.aload_n 0, 1) := by decide +kernel
theorem dX8_plan_16 : decode cX8_plan 16 = .ok (.getfield 71, 3) := by decide +kernel
theorem dX8_plan_19 : decode cX8_plan 19 = .ok (.ifCond .eq 7, 3) := by decide +kernel
theorem dX8_plan_22 : decode cX8_plan 22 = .ok (.iconst 1, 1) := by decide +kernel
theorem dX8_plan_23 : decode cX8_plan 23 = .ok (.goto 4, 3) := by decide +kernel
theorem dX8_plan_26 : decode cX8_plan 26 = .ok (.iconst 0, 1) := by decide +kernel
theorem dX8_plan_27 : decode cX8_plan 27 = .ok (.putfield 59, 3) := by decide +kernel
theorem dX8_plan_30 : decode cX8_plan 30 = .ok (.aload_n 0, 1) := by decide +kernel
theorem dX8_plan_31 : decode cX8_plan 31 = .ok (.getfield 59, 3) := by decide +kernel
theorem dX8_plan_34 : decode cX8_plan 34 = .ok (.ifCond .le 5, 3) := by decide +kernel
theorem dX8_plan_37 : decode cX8_plan 37 = .ok (.fconst 0, 1) := by decide +kernel
theorem dX8_plan_38 : decode cX8_plan 38 = .ok (.freturn, 1) := by decide +kernel
theorem dX8_plan_39 : decode cX8_plan 39 = .ok (.iconst 0, 1) := by decide +kernel
theorem dX8_plan_40 : decode cX8_plan 40 = .ok (.istore_n 1, 1) := by decide +kernel
theorem dX8_plan_41 : decode cX8_plan 41 = .ok (.aload_n 0, 1) := by decide +kernel
theorem dX8_plan_42 : decode cX8_plan 42 = .ok (.iconst 0, 1) := by decide +kernel
theorem dX8_plan_43 : decode cX8_plan 43 = .ok (.invokevirtual 159, 3) := by decide +kernel
theorem dX8_plan_46 : decode cX8_plan 46 = .ok (.fstore_n 2, 1) := by decide +kernel
theorem dX8_plan_47 : decode cX8_plan 47 = .ok (.iconst 1, 1) := by decide +kernel
theorem dX8_plan_48 : decode cX8_plan 48 = .ok (.istore_n 3, 1) := by decide +kernel
theorem dX8_plan_49 : decode cX8_plan 49 = .ok (.iload_n 3, 1) := by decide +kernel
theorem dX8_plan_50 : decode cX8_plan 50 = .ok (.bipush 6, 2) := by decide +kernel
theorem dX8_plan_52 : decode cX8_plan 52 = .ok (.if_icmp .ge 28, 3) := by decide +kernel
theorem dX8_plan_55 : decode cX8_plan 55 = .ok (.aload_n 0, 1) := by decide +kernel
theorem dX8_plan_56 : decode cX8_plan 56 = .ok (.iload_n 3, 1) := by decide +kernel
theorem dX8_plan_57 : decode cX8_plan 57 = .ok (.invokevirtual 159, 3) := by decide +kernel
theorem dX8_plan_60 : decode cX8_plan 60 = .ok (.fstore 4, 2) := by decide +kernel
theorem dX8_plan_62 : decode cX8_plan 62 = .ok (.fload 4, 2) := by decide +kernel
theorem dX8_plan_64 : decode cX8_plan 64 = .ok (.fload_n 2, 1) := by decide +kernel
theorem dX8_plan_65 : decode cX8_plan 65 = .ok (.fcmp .g, 1) := by decide +kernel
theorem dX8_plan_66 : decode cX8_plan 66 = .ok (.ifCond .ge 8, 3) := by decide +kernel
theorem dX8_plan_69 : decode cX8_plan 69 = .ok (.fload 4, 2) := by decide +kernel
theorem dX8_plan_71 : decode cX8_plan 71 = .ok (.fstore_n 2, 1) := by decide +kernel
theorem dX8_plan_72 : decode cX8_plan 72 = .ok (.iload_n 3, 1) := by decide +kernel
theorem dX8_plan_73 : decode cX8_plan 73 = .ok (.istore_n 1, 1) := by decide +kernel
theorem dX8_plan_74 : decode cX8_plan 74 = .ok (.iinc 3 1, 3) := by decide +kernel
theorem dX8_plan_77 : decode cX8_plan 77 = .ok (.goto (-28), 3) := by decide +kernel
theorem dX8_plan_80 : decode cX8_plan 80 = .ok (.aload_n 0, 1) := by decide +kernel
theorem dX8_plan_81 : decode cX8_plan 81 = .ok (.iload_n 1, 1) := by decide +kernel
theorem dX8_plan_82 : decode cX8_plan 82 = .ok (.invokevirtual 159, 3) := by decide +kernel
theorem dX8_plan_85 : decode cX8_plan 85 = .ok (.fstore_n 3, 1) := by decide +kernel
theorem dX8_plan_86 : decode cX8_plan 86 = .ok (.aload_n 0, 1) := by decide +kernel
theorem dX8_plan_87 : decode cX8_plan 87 = .ok (.iconst 1, 1) := by decide +kernel
theorem dX8_plan_88 : decode cX8_plan 88 = .ok (.putfield 71, 3) := by decide +kernel
theorem dX8_plan_91 : decode cX8_plan 91 = .ok (.aload_n 0, 1) := by decide +kernel
theorem dX8_plan_92 : decode cX8_plan 92 = .ok (.iconst 0, 1) := by decide +kernel
theorem dX8_plan_93 : decode cX8_plan 93 = .ok (.putfield 163, 3) := by decide +kernel
theorem dX8_plan_96 : decode cX8_plan 96 = .ok (.aload_n 0, 1) := by decide +kernel
theorem dX8_plan_97 : decode cX8_plan 97 = .ok (.getfield 50, 3) := by decide +kernel
theorem dX8_plan_100 : decode cX8_plan 100 = .ok (.iconst 0, 1) := by decide +kernel
theorem dX8_plan_101 : decode cX8_plan 101 = .ok (.iconst (-1), 1) := by decide +kernel
theorem dX8_plan_102 : decode cX8_plan 102 = .ok (.iastore, 1) := by decide +kernel
theorem dX8_plan_103 : decode cX8_plan 103 = .ok (.fload_n 3, 1) := by decide +kernel
theorem dX8_plan_104 : decode cX8_plan 104 = .ok (.freturn, 1) := by decide +kernel
theorem dX8_explain_0 : decode cX8_explain 0 = .ok (.aload_n 0, 1) := by decide +kernel
theorem dX8_explain_1 : decode cX8_explain 1 = .ok (.aload_n 0, 1) := by decide +kernel
theorem dX8_explain_2 : decode cX8_explain 2 = .ok (.getfield 71, 3) := by decide +kernel
theorem dX8_explain_5 : decode cX8_explain 5 = .ok (.ifCond .eq 26, 3) := by decide +kernel
theorem dX8_explain_8 : decode cX8_explain 8 = .ok (.iload_n 1, 1) := by decide +kernel
theorem dX8_explain_9 : decode cX8_explain 9 = .ok (.iconst 0, 1) := by decide +kernel
theorem dX8_explain_10 : decode cX8_explain 10 = .ok (.aload_n 0, 1) := by decide +kernel
theorem dX8_explain_11 : decode cX8_explain 11 = .ok (.getfield 96, 3) := by decide +kernel
theorem dX8_explain_14 : decode cX8_explain 14 = .ok (.iconst 1, 1) := by decide +kernel
theorem dX8_explain_15 : decode cX8_explain 15 = .ok (.isub, 1) := by decide +kernel
theorem dX8_explain_16 : decode cX8_explain 16 = .ok (.invokestatic 63, 3) := by decide +kernel
theorem dX8_explain_19 : decode cX8_explain 19 = .ok (.ifCond .eq 12, 3) := by decide +kernel
theorem dX8_explain_22 : decode cX8_explain 22 = .ok (.iload_n 2, 1) := by decide +kernel
theorem dX8_explain_23 : decode cX8_explain 23 = .ok (.iconst 0, 1) := by decide +kernel
theorem dX8_explain_24 : decode cX8_explain 24 = .ok (.iconst 3, 1) := by decide +kernel
theorem dX8_explain_25 : decode cX8_explain 25 = .ok (.invokestatic 63, 3) := by decide +kernel
theorem dX8_explain_28 : decode cX8_explain 28 = .ok (.ifCond .ne 7, 3) := by decide +kernel
theorem dX8_explain_31 : decode cX8_explain 31 = .ok (.iconst 1, 1) := by decide +kernel
theorem dX8_explain_32 : decode cX8_explain 32 = .ok (.goto 4, 3) := by decide +kernel
theorem dX8_explain_35 : decode cX8_explain 35 = .ok (.iconst 0, 1) := by decide +kernel
theorem dX8_explain_36 : decode cX8_explain 36 = .ok (.putfield 59, 3) := by decide +kernel
theorem dX8_explain_39 : decode cX8_explain 39 = .ok (.aload_n 0, 1) := by decide +kernel
theorem dX8_explain_40 : decode cX8_explain 40 = .ok (.getfield 59, 3) := by decide +kernel
theorem dX8_explain_43 : decode cX8_explain 43 = .ok (.ifCond .le 5, 3) := by decide +kernel
theorem dX8_explain_46 : decode cX8_explain 46 = .ok (.iconst 0, 1) := by decide +kernel
theorem dX8_explain_47 : decode cX8_explain 47 = .ok (.ireturn, 1) := by decide +kernel
theorem dX8_explain_48 : decode cX8_explain 48 = .ok (.iload_n 2, 1) := by decide +kernel
theorem dX8_explain_49 : decode cX8_explain 49 = .ok (.ifCond .ne 12, 3) := by decide +kernel
theorem dX8_explain_52 : decode cX8_explain 52 = .ok (.aload_n 0, 1) := by decide +kernel
theorem dX8_explain_53 : decode cX8_explain 53 = .ok (.getfield 38, 3) := by decide +kernel
theorem dX8_explain_56 : decode cX8_explain 56 = .ok (.iload_n 1, 1) := by decide +kernel
theorem dX8_explain_57 : decode cX8_explain 57 = .ok (.iaload, 1) := by decide +kernel
theorem dX8_explain_58 : decode cX8_explain 58 = .ok (.goto 37, 3) := by decide +kernel
theorem dX8_explain_61 : decode cX8_explain 61 = .ok (.iload_n 2, 1) := by decide +kernel
theorem dX8_explain_62 : decode cX8_explain 62 = .ok (.iconst 1, 1) := by decide +kernel
theorem dX8_explain_63 : decode cX8_explain 63 = .ok (.if_icmp .ne 12, 3) := by decide +kernel
theorem dX8_explain_66 : decode cX8_explain 66 = .ok (.aload_n 0, 1) := by decide +kernel
theorem dX8_explain_67 : decode cX8_explain 67 = .ok (.getfield 41, 3) := by decide +kernel
theorem dX8_explain_70 : decode cX8_explain 70 = .ok (.iload_n 1, 1) := by decide +kernel
theorem dX8_explain_71 : decode cX8_explain 71 = .ok (.iaload, 1) := by decide +kernel
theorem dX8_explain_72 : decode cX8_explain 72 = .ok (.goto 23, 3) := by decide +kernel
theorem dX8_explain_75 : decode cX8_explain 75 = .ok (.iload_n 2, 1) := by decide +kernel
theorem dX8_explain_76 : decode cX8_explain 76 = .ok (.iconst 2, 1) := by decide +kernel
theorem dX8_explain_77 : decode cX8_explain 77 = .ok (.if_icmp .ne 12, 3) := by decide +kernel
theorem dX8_explain_80 : decode cX8_explain 80 = .ok (.aload_n 0, 1) := by decide +kernel
theorem dX8_explain_81 : decode cX8_explain 81 = .ok (.getfield 44, 3) := by decide +kernel
theorem dX8_explain_84 : decode cX8_explain 84 = .ok (.iload_n 1, 1) := by decide +kernel
theorem dX8_explain_85 : decode cX8_explain 85 = .ok (.iaload, 1) := by decide +kernel
theorem dX8_explain_86 : decode cX8_explain 86 = .ok (.goto 9, 3) := by decide +kernel
theorem dX8_explain_89 : decode cX8_explain 89 = .ok (.aload_n 0, 1) := by decide +kernel
theorem dX8_explain_90 : decode cX8_explain 90 = .ok (.getfield 47, 3) := by decide +kernel
theorem dX8_explain_93 : decode cX8_explain 93 = .ok (.iload_n 1, 1) := by decide +kernel
theorem dX8_explain_94 : decode cX8_explain 94 = .ok (.iaload, 1) := by decide +kernel
theorem dX8_explain_95 : decode cX8_explain 95 = .ok (.ireturn, 1) := by decide +kernel
theorem dX8_holds_0 : decode cX8_holds 0 = .ok (.iload_n 1, 1) := by decide +kernel
theorem dX8_holds_1 : decode cX8_holds 1 = .ok (.ifCond .ne 16, 3) := by decide +kernel
theorem dX8_holds_4 : decode cX8_holds 4 = .ok (.iload_n 0, 1) := by decide +kernel
theorem dX8_holds_5 : decode cX8_holds 5 = .ok (.iload_n 2, 1) := by decide +kernel
theorem dX8_holds_6 : decode cX8_holds 6 = .ok (.if_icmp .ne 7, 3) := by decide +kernel
theorem dX8_holds_9 : decode cX8_holds 9 = .ok (.iconst 1, 1) := by decide +kernel
theorem dX8_holds_10 : decode cX8_holds 10 = .ok (.goto 53, 3) := by decide +kernel
theorem dX8_holds_13 : decode cX8_holds 13 = .ok (.iconst 0, 1) := by decide +kernel
theorem dX8_holds_14 : decode cX8_holds 14 = .ok (.goto 49, 3) := by decide +kernel
theorem dX8_holds_17 : decode cX8_holds 17 = .ok (.iload_n 1, 1) := by decide +kernel
theorem dX8_holds_18 : decode cX8_holds 18 = .ok (.iconst 1, 1) := by decide +kernel
theorem dX8_holds_19 : decode cX8_holds 19 = .ok (.if_icmp .ne 16, 3) := by decide +kernel
theorem dX8_holds_22 : decode cX8_holds 22 = .ok (.iload_n 0, 1) := by decide +kernel
theorem dX8_holds_23 : decode cX8_holds 23 = .ok (.iload_n 2, 1) := by decide +kernel
theorem dX8_holds_24 : decode cX8_holds 24 = .ok (.if_icmp .ge 7, 3) := by decide +kernel
theorem dX8_holds_27 : decode cX8_holds 27 = .ok (.iconst 1, 1) := by decide +kernel
theorem dX8_holds_28 : decode cX8_holds 28 = .ok (.goto 35, 3) := by decide +kernel
theorem dX8_holds_31 : decode cX8_holds 31 = .ok (.iconst 0, 1) := by decide +kernel
theorem dX8_holds_32 : decode cX8_holds 32 = .ok (.goto 31, 3) := by decide +kernel
theorem dX8_holds_35 : decode cX8_holds 35 = .ok (.iload_n 1, 1) := by decide +kernel
theorem dX8_holds_36 : decode cX8_holds 36 = .ok (.iconst 2, 1) := by decide +kernel
theorem dX8_holds_37 : decode cX8_holds 37 = .ok (.if_icmp .ne 16, 3) := by decide +kernel
theorem dX8_holds_40 : decode cX8_holds 40 = .ok (.iload_n 0, 1) := by decide +kernel
theorem dX8_holds_41 : decode cX8_holds 41 = .ok (.iload_n 2, 1) := by decide +kernel
theorem dX8_holds_42 : decode cX8_holds 42 = .ok (.if_icmp .le 7, 3) := by decide +kernel
theorem dX8_holds_45 : decode cX8_holds 45 = .ok (.iconst 1, 1) := by decide +kernel
theorem dX8_holds_46 : decode cX8_holds 46 = .ok (.goto 17, 3) := by decide +kernel
theorem dX8_holds_49 : decode cX8_holds 49 = .ok (.iconst 0, 1) := by decide +kernel
theorem dX8_holds_50 : decode cX8_holds 50 = .ok (.goto 13, 3) := by decide +kernel
theorem dX8_holds_53 : decode cX8_holds 53 = .ok (.iload_n 0, 1) := by decide +kernel
theorem dX8_holds_54 : decode cX8_holds 54 = .ok (.iload_n 2, 1) := by decide +kernel
theorem dX8_holds_55 : decode cX8_holds 55 = .ok (.if_icmp .eq 7, 3) := by decide +kernel
theorem dX8_holds_58 : decode cX8_holds 58 = .ok (.iconst 1, 1) := by decide +kernel
theorem dX8_holds_59 : decode cX8_holds 59 = .ok (.goto 4, 3) := by decide +kernel
theorem dX8_holds_62 : decode cX8_holds 62 = .ok (.iconst 0, 1) := by decide +kernel
theorem dX8_holds_63 : decode cX8_holds 63 = .ok (.ireturn, 1) := by decide +kernel
theorem dX8_rowAt_0 : decode cX8_rowAt 0 = .ok (.iconst 0, 1) := by decide +kernel
theorem dX8_rowAt_1 : decode cX8_rowAt 1 = .ok (.istore_n 2, 1) := by decide +kernel
theorem dX8_rowAt_2 : decode cX8_rowAt 2 = .ok (.aload_n 0, 1) := by decide +kernel
theorem dX8_rowAt_3 : decode cX8_rowAt 3 = .ok (.getfield 38, 3) := by decide +kernel
theorem dX8_rowAt_6 : decode cX8_rowAt 6 = .ok (.iload_n 2, 1) := by decide +kernel
theorem dX8_rowAt_7 : decode cX8_rowAt 7 = .ok (.iaload, 1) := by decide +kernel
theorem dX8_rowAt_8 : decode cX8_rowAt 8 = .ok (.iload_n 1, 1) := by decide +kernel
theorem dX8_rowAt_9 : decode cX8_rowAt 9 = .ok (.if_icmp .eq 9, 3) := by decide +kernel
theorem dX8_rowAt_12 : decode cX8_rowAt 12 = .ok (.iinc 2 1, 3) := by decide +kernel
theorem dX8_rowAt_15 : decode cX8_rowAt 15 = .ok (.goto (-13), 3) := by decide +kernel
theorem dX8_rowAt_18 : decode cX8_rowAt 18 = .ok (.aload_n 0, 1) := by decide +kernel
theorem dX8_rowAt_19 : decode cX8_rowAt 19 = .ok (.getfield 50, 3) := by decide +kernel
theorem dX8_rowAt_22 : decode cX8_rowAt 22 = .ok (.iload_n 2, 1) := by decide +kernel
theorem dX8_rowAt_23 : decode cX8_rowAt 23 = .ok (.iaload, 1) := by decide +kernel
theorem dX8_rowAt_24 : decode cX8_rowAt 24 = .ok (.ireturn, 1) := by decide +kernel
theorem dX8_wanted_0 : decode cX8_wanted 0 = .ok (.aload_n 0, 1) := by decide +kernel
theorem dX8_wanted_1 : decode cX8_wanted 1 = .ok (.getfield 32, 3) := by decide +kernel
theorem dX8_wanted_4 : decode cX8_wanted 4 = .ok (.iconst 4, 1) := by decide +kernel
theorem dX8_wanted_5 : decode cX8_wanted 5 = .ok (.iload_n 1, 1) := by decide +kernel
theorem dX8_wanted_6 : decode cX8_wanted 6 = .ok (.imul, 1) := by decide +kernel
theorem dX8_wanted_7 : decode cX8_wanted 7 = .ok (.iconst 2, 1) := by decide +kernel
theorem dX8_wanted_8 : decode cX8_wanted 8 = .ok (.iadd, 1) := by decide +kernel
theorem dX8_wanted_9 : decode cX8_wanted 9 = .ok (.iload_n 2, 1) := by decide +kernel
theorem dX8_wanted_10 : decode cX8_wanted 10 = .ok (.isub, 1) := by decide +kernel
theorem dX8_wanted_11 : decode cX8_wanted 11 = .ok (.iaload, 1) := by decide +kernel
theorem dX8_wanted_12 : decode cX8_wanted 12 = .ok (.istore_n 3, 1) := by decide +kernel
theorem dX8_wanted_13 : decode cX8_wanted 13 = .ok (.aload_n 0, 1) := by decide +kernel
theorem dX8_wanted_14 : decode cX8_wanted 14 = .ok (.aload_n 0, 1) := by decide +kernel
theorem dX8_wanted_15 : decode cX8_wanted 15 = .ok (.getfield 26, 3) := by decide +kernel
theorem dX8_wanted_18 : decode cX8_wanted 18 = .ok (.iload_n 3, 1) := by decide +kernel
theorem dX8_wanted_19 : decode cX8_wanted 19 = .ok (.iaload, 1) := by decide +kernel
theorem dX8_wanted_20 : decode cX8_wanted 20 = .ok (.aload_n 0, 1) := by decide +kernel
theorem dX8_wanted_21 : decode cX8_wanted 21 = .ok (.iload_n 3, 1) := by decide +kernel
theorem dX8_wanted_22 : decode cX8_wanted 22 = .ok (.invokevirtual 166, 3) := by decide +kernel
theorem dX8_wanted_25 : decode cX8_wanted 25 = .ok (.aload_n 0, 1) := by decide +kernel
theorem dX8_wanted_26 : decode cX8_wanted 26 = .ok (.getfield 32, 3) := by decide +kernel
theorem dX8_wanted_29 : decode cX8_wanted 29 = .ok (.iconst 4, 1) := by decide +kernel
theorem dX8_wanted_30 : decode cX8_wanted 30 = .ok (.iload_n 1, 1) := by decide +kernel
theorem dX8_wanted_31 : decode cX8_wanted 31 = .ok (.imul, 1) := by decide +kernel
theorem dX8_wanted_32 : decode cX8_wanted 32 = .ok (.iconst 3, 1) := by decide +kernel
theorem dX8_wanted_33 : decode cX8_wanted 33 = .ok (.iadd, 1) := by decide +kernel
theorem dX8_wanted_34 : decode cX8_wanted 34 = .ok (.iload_n 2, 1) := by decide +kernel
theorem dX8_wanted_35 : decode cX8_wanted 35 = .ok (.isub, 1) := by decide +kernel
theorem dX8_wanted_36 : decode cX8_wanted 36 = .ok (.iaload, 1) := by decide +kernel
theorem dX8_wanted_37 : decode cX8_wanted 37 = .ok (.invokevirtual 88, 3) := by decide +kernel
theorem dX8_wanted_40 : decode cX8_wanted 40 = .ok (.ireturn, 1) := by decide +kernel
theorem dX8_following_0 : decode cX8_following 0 = .ok (.aload_n 0, 1) := by decide +kernel
theorem dX8_following_1 : decode cX8_following 1 = .ok (.getfield 26, 3) := by decide +kernel
theorem dX8_following_4 : decode cX8_following 4 = .ok (.aload_n 0, 1) := by decide +kernel
theorem dX8_following_5 : decode cX8_following 5 = .ok (.getfield 38, 3) := by decide +kernel
theorem dX8_following_8 : decode cX8_following 8 = .ok (.iload_n 1, 1) := by decide +kernel
theorem dX8_following_9 : decode cX8_following 9 = .ok (.iaload, 1) := by decide +kernel
theorem dX8_following_10 : decode cX8_following 10 = .ok (.iaload, 1) := by decide +kernel
theorem dX8_following_11 : decode cX8_following 11 = .ok (.istore_n 2, 1) := by decide +kernel
theorem dX8_following_12 : decode cX8_following 12 = .ok (.iconst (-1), 1) := by decide +kernel
theorem dX8_following_13 : decode cX8_following 13 = .ok (.istore_n 3, 1) := by decide +kernel
theorem dX8_following_14 : decode cX8_following 14 = .ok (.iconst 0, 1) := by decide +kernel
theorem dX8_following_15 : decode cX8_following 15 = .ok (.istore 4, 2) := by decide +kernel
theorem dX8_following_17 : decode cX8_following 17 = .ok (.iconst 0, 1) := by decide +kernel
theorem dX8_following_18 : decode cX8_following 18 = .ok (.istore 5, 2) := by decide +kernel
theorem dX8_following_20 : decode cX8_following 20 = .ok (.aload_n 0, 1) := by decide +kernel
theorem dX8_following_21 : decode cX8_following 21 = .ok (.getfield 44, 3) := by decide +kernel
theorem dX8_following_24 : decode cX8_following 24 = .ok (.iload_n 1, 1) := by decide +kernel
theorem dX8_following_25 : decode cX8_following 25 = .ok (.iaload, 1) := by decide +kernel
theorem dX8_following_26 : decode cX8_following 26 = .ok (.ifCond .lt 56, 3) := by decide +kernel
theorem dX8_following_29 : decode cX8_following 29 = .ok (.aload_n 0, 1) := by decide +kernel
theorem dX8_following_30 : decode cX8_following 30 = .ok (.getfield 29, 3) := by decide +kernel
theorem dX8_following_33 : decode cX8_following 33 = .ok (.iconst 4, 1) := by decide +kernel
theorem dX8_following_34 : decode cX8_following 34 = .ok (.aload_n 0, 1) := by decide +kernel
theorem dX8_following_35 : decode cX8_following 35 = .ok (.getfield 44, 3) := by decide +kernel
theorem dX8_following_38 : decode cX8_following 38 = .ok (.iload_n 1, 1) := by decide +kernel
theorem dX8_following_39 : decode cX8_following 39 = .ok (.iaload, 1) := by decide +kernel
theorem dX8_following_40 : decode cX8_following 40 = .ok (.imul, 1) := by decide +kernel
theorem dX8_following_41 : decode cX8_following 41 = .ok (.iconst 1, 1) := by decide +kernel
theorem dX8_following_42 : decode cX8_following 42 = .ok (.iadd, 1) := by decide +kernel
theorem dX8_following_43 : decode cX8_following 43 = .ok (.iaload, 1) := by decide +kernel
theorem dX8_following_44 : decode cX8_following 44 = .ok (.istore_n 3, 1) := by decide +kernel
theorem dX8_following_45 : decode cX8_following 45 = .ok (.aload_n 0, 1) := by decide +kernel
theorem dX8_following_46 : decode cX8_following 46 = .ok (.getfield 29, 3) := by decide +kernel
theorem dX8_following_49 : decode cX8_following 49 = .ok (.iconst 4, 1) := by decide +kernel
theorem dX8_following_50 : decode cX8_following 50 = .ok (.aload_n 0, 1) := by decide +kernel
theorem dX8_following_51 : decode cX8_following 51 = .ok (.getfield 44, 3) := by decide +kernel
theorem dX8_following_54 : decode cX8_following 54 = .ok (.iload_n 1, 1) := by decide +kernel
theorem dX8_following_55 : decode cX8_following 55 = .ok (.iaload, 1) := by decide +kernel
theorem dX8_following_56 : decode cX8_following 56 = .ok (.imul, 1) := by decide +kernel
theorem dX8_following_57 : decode cX8_following 57 = .ok (.iconst 2, 1) := by decide +kernel
theorem dX8_following_58 : decode cX8_following 58 = .ok (.iadd, 1) := by decide +kernel
theorem dX8_following_59 : decode cX8_following 59 = .ok (.iaload, 1) := by decide +kernel
theorem dX8_following_60 : decode cX8_following 60 = .ok (.istore 4, 2) := by decide +kernel
theorem dX8_following_62 : decode cX8_following 62 = .ok (.aload_n 0, 1) := by decide +kernel
theorem dX8_following_63 : decode cX8_following 63 = .ok (.getfield 29, 3) := by decide +kernel
theorem dX8_following_66 : decode cX8_following 66 = .ok (.iconst 4, 1) := by decide +kernel
theorem dX8_following_67 : decode cX8_following 67 = .ok (.aload_n 0, 1) := by decide +kernel
theorem dX8_following_68 : decode cX8_following 68 = .ok (.getfield 44, 3) := by decide +kernel
theorem dX8_following_71 : decode cX8_following 71 = .ok (.iload_n 1, 1) := by decide +kernel
theorem dX8_following_72 : decode cX8_following 72 = .ok (.iaload, 1) := by decide +kernel
theorem dX8_following_73 : decode cX8_following 73 = .ok (.imul, 1) := by decide +kernel
theorem dX8_following_74 : decode cX8_following 74 = .ok (.iconst 3, 1) := by decide +kernel
theorem dX8_following_75 : decode cX8_following 75 = .ok (.iadd, 1) := by decide +kernel
theorem dX8_following_76 : decode cX8_following 76 = .ok (.iaload, 1) := by decide +kernel
theorem dX8_following_77 : decode cX8_following 77 = .ok (.istore 5, 2) := by decide +kernel
theorem dX8_following_79 : decode cX8_following 79 = .ok (.goto 74, 3) := by decide +kernel
theorem dX8_following_82 : decode cX8_following 82 = .ok (.aload_n 0, 1) := by decide +kernel
theorem dX8_following_83 : decode cX8_following 83 = .ok (.getfield 47, 3) := by decide +kernel
theorem dX8_following_86 : decode cX8_following 86 = .ok (.iload_n 1, 1) := by decide +kernel
theorem dX8_following_87 : decode cX8_following 87 = .ok (.iaload, 1) := by decide +kernel
theorem dX8_following_88 : decode cX8_following 88 = .ok (.ifCond .lt 65, 3) := by decide +kernel
theorem dX8_following_91 : decode cX8_following 91 = .ok (.aload_n 0, 1) := by decide +kernel
theorem dX8_following_92 : decode cX8_following 92 = .ok (.getfield 32, 3) := by decide +kernel
theorem dX8_following_95 : decode cX8_following 95 = .ok (.iconst 4, 1) := by decide +kernel
theorem dX8_following_96 : decode cX8_following 96 = .ok (.aload_n 0, 1) := by decide +kernel
theorem dX8_following_97 : decode cX8_following 97 = .ok (.getfield 47, 3) := by decide +kernel
theorem dX8_following_100 : decode cX8_following 100 = .ok (.iload_n 1, 1) := by decide +kernel
theorem dX8_following_101 : decode cX8_following 101 = .ok (.iaload, 1) := by decide +kernel
theorem dX8_following_102 : decode cX8_following 102 = .ok (.imul, 1) := by decide +kernel
theorem dX8_following_103 : decode cX8_following 103 = .ok (.iaload, 1) := by decide +kernel
theorem dX8_following_104 : decode cX8_following 104 = .ok (.aload_n 0, 1) := by decide +kernel
theorem dX8_following_105 : decode cX8_following 105 = .ok (.getfield 38, 3) := by decide +kernel
theorem dX8_following_108 : decode cX8_following 108 = .ok (.iload_n 1, 1) := by decide +kernel
theorem dX8_following_109 : decode cX8_following 109 = .ok (.iaload, 1) := by decide +kernel
theorem dX8_following_110 : decode cX8_following 110 = .ok (.if_icmp .ne 7, 3) := by decide +kernel
theorem dX8_following_113 : decode cX8_following 113 = .ok (.iconst 0, 1) := by decide +kernel
theorem dX8_following_114 : decode cX8_following 114 = .ok (.goto 4, 3) := by decide +kernel
theorem dX8_following_117 : decode cX8_following 117 = .ok (.iconst 2, 1) := by decide +kernel
theorem dX8_following_118 : decode cX8_following 118 = .ok (.istore 6, 2) := by decide +kernel
theorem dX8_following_120 : decode cX8_following 120 = .ok (.aload_n 0, 1) := by decide +kernel
theorem dX8_following_121 : decode cX8_following 121 = .ok (.getfield 32, 3) := by decide +kernel
theorem dX8_following_124 : decode cX8_following 124 = .ok (.iconst 4, 1) := by decide +kernel
theorem dX8_following_125 : decode cX8_following 125 = .ok (.aload_n 0, 1) := by decide +kernel
theorem dX8_following_126 : decode cX8_following 126 = .ok (.getfield 47, 3) := by decide +kernel
theorem dX8_following_129 : decode cX8_following 129 = .ok (.iload_n 1, 1) := by decide +kernel
theorem dX8_following_130 : decode cX8_following 130 = .ok (.iaload, 1) := by decide +kernel
theorem dX8_following_131 : decode cX8_following 131 = .ok (.imul, 1) := by decide +kernel
theorem dX8_following_132 : decode cX8_following 132 = .ok (.iload 6, 2) := by decide +kernel
theorem dX8_following_134 : decode cX8_following 134 = .ok (.iadd, 1) := by decide +kernel
theorem dX8_following_135 : decode cX8_following 135 = .ok (.iconst 1, 1) := by decide +kernel
theorem dX8_following_136 : decode cX8_following 136 = .ok (.iadd, 1) := by decide +kernel
theorem dX8_following_137 : decode cX8_following 137 = .ok (.iaload, 1) := by decide +kernel
theorem dX8_following_138 : decode cX8_following 138 = .ok (.istore_n 3, 1) := by decide +kernel
theorem dX8_following_139 : decode cX8_following 139 = .ok (.aload_n 0, 1) := by decide +kernel
theorem dX8_following_140 : decode cX8_following 140 = .ok (.aload_n 0, 1) := by decide +kernel
theorem dX8_following_141 : decode cX8_following 141 = .ok (.getfield 47, 3) := by decide +kernel
theorem dX8_following_144 : decode cX8_following 144 = .ok (.iload_n 1, 1) := by decide +kernel
theorem dX8_following_145 : decode cX8_following 145 = .ok (.iaload, 1) := by decide +kernel
theorem dX8_following_146 : decode cX8_following 146 = .ok (.iload 6, 2) := by decide +kernel
theorem dX8_following_148 : decode cX8_following 148 = .ok (.invokevirtual 169, 3) := by decide +kernel
theorem dX8_following_151 : decode cX8_following 151 = .ok (.istore 5, 2) := by decide +kernel
theorem dX8_following_153 : decode cX8_following 153 = .ok (.iconst (-1), 1) := by decide +kernel
theorem dX8_following_154 : decode cX8_following 154 = .ok (.istore 6, 2) := by decide +kernel
theorem dX8_following_156 : decode cX8_following 156 = .ok (.iconst 0, 1) := by decide +kernel
theorem dX8_following_157 : decode cX8_following 157 = .ok (.istore 7, 2) := by decide +kernel
theorem dX8_following_159 : decode cX8_following 159 = .ok (.iload 7, 2) := by decide +kernel
theorem dX8_following_161 : decode cX8_following 161 = .ok (.bipush 60, 2) := by decide +kernel
theorem dX8_following_163 : decode cX8_following 163 = .ok (.if_icmp .ge 108, 3) := by decide +kernel
theorem dX8_following_166 : decode cX8_following 166 = .ok (.aload_n 0, 1) := by decide +kernel
theorem dX8_following_167 : decode cX8_following 167 = .ok (.getfield 16, 3) := by decide +kernel
theorem dX8_following_170 : decode cX8_following 170 = .ok (.bipush 60, 2) := by decide +kernel
theorem dX8_following_172 : decode cX8_following 172 = .ok (.iload_n 2, 1) := by decide +kernel
theorem dX8_following_173 : decode cX8_following 173 = .ok (.imul, 1) := by decide +kernel
theorem dX8_following_174 : decode cX8_following 174 = .ok (.iload 7, 2) := by decide +kernel
theorem dX8_following_176 : decode cX8_following 176 = .ok (.iadd, 1) := by decide +kernel
theorem dX8_following_177 : decode cX8_following 177 = .ok (.baload, 1) := by decide +kernel
theorem dX8_following_178 : decode cX8_following 178 = .ok (.ifCond .eq 29, 3) := by decide +kernel
theorem dX8_following_181 : decode cX8_following 181 = .ok (.iload_n 3, 1) := by decide +kernel
theorem dX8_following_182 : decode cX8_following 182 = .ok (.ifCond .lt 21, 3) := by decide +kernel
theorem dX8_following_185 : decode cX8_following 185 = .ok (.aload_n 0, 1) := by decide +kernel
theorem dX8_following_186 : decode cX8_following 186 = .ok (.iload_n 2, 1) := by decide +kernel
theorem dX8_following_187 : decode cX8_following 187 = .ok (.iload 7, 2) := by decide +kernel
theorem dX8_following_189 : decode cX8_following 189 = .ok (.iload_n 3, 1) := by decide +kernel
theorem dX8_following_190 : decode cX8_following 190 = .ok (.invokevirtual 88, 3) := by decide +kernel
theorem dX8_following_193 : decode cX8_following 193 = .ok (.iload 4, 2) := by decide +kernel
theorem dX8_following_195 : decode cX8_following 195 = .ok (.iload 5, 2) := by decide +kernel
theorem dX8_following_197 : decode cX8_following 197 = .ok (.invokestatic 172, 3) := by decide +kernel
theorem dX8_following_200 : decode cX8_following 200 = .ok (.ifCond .eq 7, 3) := by decide +kernel
theorem dX8_following_203 : decode cX8_following 203 = .ok (.iconst 1, 1) := by decide +kernel
theorem dX8_following_204 : decode cX8_following 204 = .ok (.goto 4, 3) := by decide +kernel
theorem dX8_following_207 : decode cX8_following 207 = .ok (.iconst 0, 1) := by decide +kernel
theorem dX8_following_208 : decode cX8_following 208 = .ok (.istore 8, 2) := by decide +kernel
theorem dX8_following_210 : decode cX8_following 210 = .ok (.iload 8, 2) := by decide +kernel
theorem dX8_following_212 : decode cX8_following 212 = .ok (.ifCond .eq 53, 3) := by decide +kernel
theorem dX8_following_215 : decode cX8_following 215 = .ok (.aload_n 0, 1) := by decide +kernel
theorem dX8_following_216 : decode cX8_following 216 = .ok (.getfield 50, 3) := by decide +kernel
theorem dX8_following_219 : decode cX8_following 219 = .ok (.iload_n 1, 1) := by decide +kernel
theorem dX8_following_220 : decode cX8_following 220 = .ok (.iaload, 1) := by decide +kernel
theorem dX8_following_221 : decode cX8_following 221 = .ok (.ifCond .lt 21, 3) := by decide +kernel
theorem dX8_following_224 : decode cX8_following 224 = .ok (.aload_n 0, 1) := by decide +kernel
theorem dX8_following_225 : decode cX8_following 225 = .ok (.iload_n 2, 1) := by decide +kernel
theorem dX8_following_226 : decode cX8_following 226 = .ok (.iload_n 1, 1) := by decide +kernel
theorem dX8_following_227 : decode cX8_following 227 = .ok (.iload_n 3, 1) := by decide +kernel
theorem dX8_following_228 : decode cX8_following 228 = .ok (.aload_n 0, 1) := by decide +kernel
theorem dX8_following_229 : decode cX8_following 229 = .ok (.getfield 50, 3) := by decide +kernel
theorem dX8_following_232 : decode cX8_following 232 = .ok (.iload_n 1, 1) := by decide +kernel
theorem dX8_following_233 : decode cX8_following 233 = .ok (.iaload, 1) := by decide +kernel
theorem dX8_following_234 : decode cX8_following 234 = .ok (.iload 7, 2) := by decide +kernel
theorem dX8_following_236 : decode cX8_following 236 = .ok (.invokevirtual 175, 3) := by decide +kernel
theorem dX8_following_239 : decode cX8_following 239 = .ok (.ifCond .eq 26, 3) := by decide +kernel
theorem dX8_following_242 : decode cX8_following 242 = .ok (.iload 6, 2) := by decide +kernel
theorem dX8_following_244 : decode cX8_following 244 = .ok (.ifCond .lt 17, 3) := by decide +kernel
theorem dX8_following_247 : decode cX8_following 247 = .ok (.aload_n 0, 1) := by decide +kernel
theorem dX8_following_248 : decode cX8_following 248 = .ok (.iload_n 2, 1) := by decide +kernel
theorem dX8_following_249 : decode cX8_following 249 = .ok (.iload_n 1, 1) := by decide +kernel
theorem dX8_following_250 : decode cX8_following 250 = .ok (.iload_n 3, 1) := by decide +kernel
theorem dX8_following_251 : decode cX8_following 251 = .ok (.iload 7, 2) := by decide +kernel
theorem dX8_following_253 : decode cX8_following 253 = .ok (.iload 6, 2) := by decide +kernel
theorem dX8_following_255 : decode cX8_following 255 = .ok (.invokevirtual 175, 3) := by decide +kernel
theorem dX8_following_258 : decode cX8_following 258 = .ok (.ifCond .eq 7, 3) := by decide +kernel
theorem dX8_following_261 : decode cX8_following 261 = .ok (.iload 7, 2) := by decide +kernel
theorem dX8_following_263 : decode cX8_following 263 = .ok (.istore 6, 2) := by decide +kernel
theorem dX8_following_265 : decode cX8_following 265 = .ok (.iinc 7 1, 3) := by decide +kernel
theorem dX8_following_268 : decode cX8_following 268 = .ok (.goto (-109), 3) := by decide +kernel
theorem dX8_following_271 : decode cX8_following 271 = .ok (.iload 6, 2) := by decide +kernel
theorem dX8_following_273 : decode cX8_following 273 = .ok (.ireturn, 1) := by decide +kernel
theorem dX8_before_0 : decode cX8_before 0 = .ok (.aload_n 0, 1) := by decide +kernel
theorem dX8_before_1 : decode cX8_before 1 = .ok (.getfield 41, 3) := by decide +kernel
theorem dX8_before_4 : decode cX8_before 4 = .ok (.iload_n 2, 1) := by decide +kernel
theorem dX8_before_5 : decode cX8_before 5 = .ok (.iaload, 1) := by decide +kernel
theorem dX8_before_6 : decode cX8_before 6 = .ok (.iconst 2, 1) := by decide +kernel
theorem dX8_before_7 : decode cX8_before 7 = .ok (.if_icmp .ne 47, 3) := by decide +kernel
theorem dX8_before_10 : decode cX8_before 10 = .ok (.aload_n 0, 1) := by decide +kernel
theorem dX8_before_11 : decode cX8_before 11 = .ok (.iload_n 1, 1) := by decide +kernel
theorem dX8_before_12 : decode cX8_before 12 = .ok (.iload 4, 2) := by decide +kernel
theorem dX8_before_14 : decode cX8_before 14 = .ok (.iload_n 3, 1) := by decide +kernel
theorem dX8_before_15 : decode cX8_before 15 = .ok (.invokevirtual 88, 3) := by decide +kernel
theorem dX8_before_18 : decode cX8_before 18 = .ok (.aload_n 0, 1) := by decide +kernel
theorem dX8_before_19 : decode cX8_before 19 = .ok (.iload_n 1, 1) := by decide +kernel
theorem dX8_before_20 : decode cX8_before 20 = .ok (.iload 5, 2) := by decide +kernel
theorem dX8_before_22 : decode cX8_before 22 = .ok (.iload_n 3, 1) := by decide +kernel
theorem dX8_before_23 : decode cX8_before 23 = .ok (.invokevirtual 88, 3) := by decide +kernel
theorem dX8_before_26 : decode cX8_before 26 = .ok (.if_icmp .eq 28, 3) := by decide +kernel
theorem dX8_before_29 : decode cX8_before 29 = .ok (.aload_n 0, 1) := by decide +kernel
theorem dX8_before_30 : decode cX8_before 30 = .ok (.iload_n 1, 1) := by decide +kernel
theorem dX8_before_31 : decode cX8_before 31 = .ok (.iload 4, 2) := by decide +kernel
theorem dX8_before_33 : decode cX8_before 33 = .ok (.iload_n 3, 1) := by decide +kernel
theorem dX8_before_34 : decode cX8_before 34 = .ok (.invokevirtual 88, 3) := by decide +kernel
theorem dX8_before_37 : decode cX8_before 37 = .ok (.aload_n 0, 1) := by decide +kernel
theorem dX8_before_38 : decode cX8_before 38 = .ok (.iload_n 1, 1) := by decide +kernel
theorem dX8_before_39 : decode cX8_before 39 = .ok (.iload 5, 2) := by decide +kernel
theorem dX8_before_41 : decode cX8_before 41 = .ok (.iload_n 3, 1) := by decide +kernel
theorem dX8_before_42 : decode cX8_before 42 = .ok (.invokevirtual 88, 3) := by decide +kernel
theorem dX8_before_45 : decode cX8_before 45 = .ok (.if_icmp .ge 7, 3) := by decide +kernel
theorem dX8_before_48 : decode cX8_before 48 = .ok (.iconst 1, 1) := by decide +kernel
theorem dX8_before_49 : decode cX8_before 49 = .ok (.goto 4, 3) := by decide +kernel
theorem dX8_before_52 : decode cX8_before 52 = .ok (.iconst 0, 1) := by decide +kernel
theorem dX8_before_53 : decode cX8_before 53 = .ok (.ireturn, 1) := by decide +kernel
theorem dX8_before_54 : decode cX8_before 54 = .ok (.iload 4, 2) := by decide +kernel
theorem dX8_before_56 : decode cX8_before 56 = .ok (.iload 5, 2) := by decide +kernel
theorem dX8_before_58 : decode cX8_before 58 = .ok (.if_icmp .ge 7, 3) := by decide +kernel
theorem dX8_before_61 : decode cX8_before 61 = .ok (.iconst 1, 1) := by decide +kernel
theorem dX8_before_62 : decode cX8_before 62 = .ok (.goto 4, 3) := by decide +kernel
theorem dX8_before_65 : decode cX8_before 65 = .ok (.iconst 0, 1) := by decide +kernel
theorem dX8_before_66 : decode cX8_before 66 = .ok (.ireturn, 1) := by decide +kernel
theorem dX8_passes_0 : decode cX8_passes 0 = .ok (.aload_n 0, 1) := by decide +kernel
theorem dX8_passes_1 : decode cX8_passes 1 = .ok (.getfield 38, 3) := by decide +kernel
theorem dX8_passes_4 : decode cX8_passes 4 = .ok (.iload_n 1, 1) := by decide +kernel
theorem dX8_passes_5 : decode cX8_passes 5 = .ok (.iaload, 1) := by decide +kernel
theorem dX8_passes_6 : decode cX8_passes 6 = .ok (.istore_n 2, 1) := by decide +kernel
theorem dX8_passes_7 : decode cX8_passes 7 = .ok (.aload_n 0, 1) := by decide +kernel
theorem dX8_passes_8 : decode cX8_passes 8 = .ok (.getfield 26, 3) := by decide +kernel
theorem dX8_passes_11 : decode cX8_passes 11 = .ok (.iload_n 2, 1) := by decide +kernel
theorem dX8_passes_12 : decode cX8_passes 12 = .ok (.iaload, 1) := by decide +kernel
theorem dX8_passes_13 : decode cX8_passes 13 = .ok (.istore_n 3, 1) := by decide +kernel
theorem dX8_passes_14 : decode cX8_passes 14 = .ok (.iconst 1, 1) := by decide +kernel
theorem dX8_passes_15 : decode cX8_passes 15 = .ok (.istore 4, 2) := by decide +kernel
theorem dX8_passes_17 : decode cX8_passes 17 = .ok (.iconst 0, 1) := by decide +kernel
theorem dX8_passes_18 : decode cX8_passes 18 = .ok (.istore 5, 2) := by decide +kernel
theorem dX8_passes_20 : decode cX8_passes 20 = .ok (.iload 5, 2) := by decide +kernel
theorem dX8_passes_22 : decode cX8_passes 22 = .ok (.aload_n 0, 1) := by decide +kernel
theorem dX8_passes_23 : decode cX8_passes 23 = .ok (.getfield 99, 3) := by decide +kernel
theorem dX8_passes_26 : decode cX8_passes 26 = .ok (.if_icmp .ge 84, 3) := by decide +kernel
theorem dX8_passes_29 : decode cX8_passes 29 = .ok (.iload 4, 2) := by decide +kernel
theorem dX8_passes_31 : decode cX8_passes 31 = .ok (.ifCond .eq 70, 3) := by decide +kernel
theorem dX8_passes_34 : decode cX8_passes 34 = .ok (.aload_n 0, 1) := by decide +kernel
theorem dX8_passes_35 : decode cX8_passes 35 = .ok (.getfield 29, 3) := by decide +kernel
theorem dX8_passes_38 : decode cX8_passes 38 = .ok (.iconst 4, 1) := by decide +kernel
theorem dX8_passes_39 : decode cX8_passes 39 = .ok (.iload 5, 2) := by decide +kernel
theorem dX8_passes_41 : decode cX8_passes 41 = .ok (.imul, 1) := by decide +kernel
theorem dX8_passes_42 : decode cX8_passes 42 = .ok (.iaload, 1) := by decide +kernel
theorem dX8_passes_43 : decode cX8_passes 43 = .ok (.iload_n 2, 1) := by decide +kernel
theorem dX8_passes_44 : decode cX8_passes 44 = .ok (.if_icmp .ne 53, 3) := by decide +kernel
theorem dX8_passes_47 : decode cX8_passes 47 = .ok (.aload_n 0, 1) := by decide +kernel
theorem dX8_passes_48 : decode cX8_passes 48 = .ok (.iload_n 3, 1) := by decide +kernel
theorem dX8_passes_49 : decode cX8_passes 49 = .ok (.aload_n 0, 1) := by decide +kernel
theorem dX8_passes_50 : decode cX8_passes 50 = .ok (.getfield 50, 3) := by decide +kernel
theorem dX8_passes_53 : decode cX8_passes 53 = .ok (.iload_n 1, 1) := by decide +kernel
theorem dX8_passes_54 : decode cX8_passes 54 = .ok (.iaload, 1) := by decide +kernel
theorem dX8_passes_55 : decode cX8_passes 55 = .ok (.aload_n 0, 1) := by decide +kernel
theorem dX8_passes_56 : decode cX8_passes 56 = .ok (.getfield 29, 3) := by decide +kernel
theorem dX8_passes_59 : decode cX8_passes 59 = .ok (.iconst 4, 1) := by decide +kernel
theorem dX8_passes_60 : decode cX8_passes 60 = .ok (.iload 5, 2) := by decide +kernel
theorem dX8_passes_62 : decode cX8_passes 62 = .ok (.imul, 1) := by decide +kernel
theorem dX8_passes_63 : decode cX8_passes 63 = .ok (.iconst 1, 1) := by decide +kernel
theorem dX8_passes_64 : decode cX8_passes 64 = .ok (.iadd, 1) := by decide +kernel
theorem dX8_passes_65 : decode cX8_passes 65 = .ok (.iaload, 1) := by decide +kernel
theorem dX8_passes_66 : decode cX8_passes 66 = .ok (.invokevirtual 88, 3) := by decide +kernel
theorem dX8_passes_69 : decode cX8_passes 69 = .ok (.aload_n 0, 1) := by decide +kernel
theorem dX8_passes_70 : decode cX8_passes 70 = .ok (.getfield 29, 3) := by decide +kernel
theorem dX8_passes_73 : decode cX8_passes 73 = .ok (.iconst 4, 1) := by decide +kernel
theorem dX8_passes_74 : decode cX8_passes 74 = .ok (.iload 5, 2) := by decide +kernel
theorem dX8_passes_76 : decode cX8_passes 76 = .ok (.imul, 1) := by decide +kernel
theorem dX8_passes_77 : decode cX8_passes 77 = .ok (.iconst 2, 1) := by decide +kernel
theorem dX8_passes_78 : decode cX8_passes 78 = .ok (.iadd, 1) := by decide +kernel
theorem dX8_passes_79 : decode cX8_passes 79 = .ok (.iaload, 1) := by decide +kernel
theorem dX8_passes_80 : decode cX8_passes 80 = .ok (.aload_n 0, 1) := by decide +kernel
theorem dX8_passes_81 : decode cX8_passes 81 = .ok (.getfield 29, 3) := by decide +kernel
theorem dX8_passes_84 : decode cX8_passes 84 = .ok (.iconst 4, 1) := by decide +kernel
theorem dX8_passes_85 : decode cX8_passes 85 = .ok (.iload 5, 2) := by decide +kernel
theorem dX8_passes_87 : decode cX8_passes 87 = .ok (.imul, 1) := by decide +kernel
theorem dX8_passes_88 : decode cX8_passes 88 = .ok (.iconst 3, 1) := by decide +kernel
theorem dX8_passes_89 : decode cX8_passes 89 = .ok (.iadd, 1) := by decide +kernel
theorem dX8_passes_90 : decode cX8_passes 90 = .ok (.iaload, 1) := by decide +kernel
theorem dX8_passes_91 : decode cX8_passes 91 = .ok (.invokestatic 172, 3) := by decide +kernel
theorem dX8_passes_94 : decode cX8_passes 94 = .ok (.ifCond .eq 7, 3) := by decide +kernel
theorem dX8_passes_97 : decode cX8_passes 97 = .ok (.iconst 1, 1) := by decide +kernel
theorem dX8_passes_98 : decode cX8_passes 98 = .ok (.goto 4, 3) := by decide +kernel
theorem dX8_passes_101 : decode cX8_passes 101 = .ok (.iconst 0, 1) := by decide +kernel
theorem dX8_passes_102 : decode cX8_passes 102 = .ok (.istore 4, 2) := by decide +kernel
theorem dX8_passes_104 : decode cX8_passes 104 = .ok (.iinc 5 1, 3) := by decide +kernel
theorem dX8_passes_107 : decode cX8_passes 107 = .ok (.goto (-87), 3) := by decide +kernel
theorem dX8_passes_110 : decode cX8_passes 110 = .ok (.iconst 0, 1) := by decide +kernel
theorem dX8_passes_111 : decode cX8_passes 111 = .ok (.istore 5, 2) := by decide +kernel
theorem dX8_passes_113 : decode cX8_passes 113 = .ok (.iconst 0, 1) := by decide +kernel
theorem dX8_passes_114 : decode cX8_passes 114 = .ok (.istore 6, 2) := by decide +kernel
theorem dX8_passes_116 : decode cX8_passes 116 = .ok (.iload 6, 2) := by decide +kernel
theorem dX8_passes_118 : decode cX8_passes 118 = .ok (.iload_n 1, 1) := by decide +kernel
theorem dX8_passes_119 : decode cX8_passes 119 = .ok (.if_icmp .ge 23, 3) := by decide +kernel
theorem dX8_passes_122 : decode cX8_passes 122 = .ok (.iload 5, 2) := by decide +kernel
theorem dX8_passes_124 : decode cX8_passes 124 = .ok (.iconst 1, 1) := by decide +kernel
theorem dX8_passes_125 : decode cX8_passes 125 = .ok (.aload_n 0, 1) := by decide +kernel
theorem dX8_passes_126 : decode cX8_passes 126 = .ok (.getfield 38, 3) := by decide +kernel
theorem dX8_passes_129 : decode cX8_passes 129 = .ok (.iload 6, 2) := by decide +kernel
theorem dX8_passes_131 : decode cX8_passes 131 = .ok (.iaload, 1) := by decide +kernel
theorem dX8_passes_132 : decode cX8_passes 132 = .ok (.ishl, 1) := by decide +kernel
theorem dX8_passes_133 : decode cX8_passes 133 = .ok (.ior, 1) := by decide +kernel
theorem dX8_passes_134 : decode cX8_passes 134 = .ok (.istore 5, 2) := by decide +kernel
theorem dX8_passes_136 : decode cX8_passes 136 = .ok (.iinc 6 1, 3) := by decide +kernel
theorem dX8_passes_139 : decode cX8_passes 139 = .ok (.goto (-23), 3) := by decide +kernel
theorem dX8_passes_142 : decode cX8_passes 142 = .ok (.iconst 0, 1) := by decide +kernel
theorem dX8_passes_143 : decode cX8_passes 143 = .ok (.istore 6, 2) := by decide +kernel
theorem dX8_passes_145 : decode cX8_passes 145 = .ok (.iload 6, 2) := by decide +kernel
theorem dX8_passes_147 : decode cX8_passes 147 = .ok (.aload_n 0, 1) := by decide +kernel
theorem dX8_passes_148 : decode cX8_passes 148 = .ok (.getfield 102, 3) := by decide +kernel
theorem dX8_passes_151 : decode cX8_passes 151 = .ok (.if_icmp .ge 73, 3) := by decide +kernel
theorem dX8_passes_154 : decode cX8_passes 154 = .ok (.aload_n 0, 1) := by decide +kernel
theorem dX8_passes_155 : decode cX8_passes 155 = .ok (.iload 6, 2) := by decide +kernel
theorem dX8_passes_157 : decode cX8_passes 157 = .ok (.iload_n 2, 1) := by decide +kernel
theorem dX8_passes_158 : decode cX8_passes 158 = .ok (.iload 5, 2) := by decide +kernel
theorem dX8_passes_160 : decode cX8_passes 160 = .ok (.invokevirtual 144, 3) := by decide +kernel
theorem dX8_passes_163 : decode cX8_passes 163 = .ok (.istore 7, 2) := by decide +kernel
theorem dX8_passes_165 : decode cX8_passes 165 = .ok (.iload 4, 2) := by decide +kernel
theorem dX8_passes_167 : decode cX8_passes 167 = .ok (.ifCond .eq 48, 3) := by decide +kernel
theorem dX8_passes_170 : decode cX8_passes 170 = .ok (.iload 7, 2) := by decide +kernel
theorem dX8_passes_172 : decode cX8_passes 172 = .ok (.ifCond .lt 39, 3) := by decide +kernel
theorem dX8_passes_175 : decode cX8_passes 175 = .ok (.aload_n 0, 1) := by decide +kernel
theorem dX8_passes_176 : decode cX8_passes 176 = .ok (.iload_n 3, 1) := by decide +kernel
theorem dX8_passes_177 : decode cX8_passes 177 = .ok (.aload_n 0, 1) := by decide +kernel
theorem dX8_passes_178 : decode cX8_passes 178 = .ok (.getfield 50, 3) := by decide +kernel
theorem dX8_passes_181 : decode cX8_passes 181 = .ok (.iload_n 1, 1) := by decide +kernel
theorem dX8_passes_182 : decode cX8_passes 182 = .ok (.iaload, 1) := by decide +kernel
theorem dX8_passes_183 : decode cX8_passes 183 = .ok (.aload_n 0, 1) := by decide +kernel
theorem dX8_passes_184 : decode cX8_passes 184 = .ok (.getfield 32, 3) := by decide +kernel
theorem dX8_passes_187 : decode cX8_passes 187 = .ok (.iconst 4, 1) := by decide +kernel
theorem dX8_passes_188 : decode cX8_passes 188 = .ok (.iload 6, 2) := by decide +kernel
theorem dX8_passes_190 : decode cX8_passes 190 = .ok (.imul, 1) := by decide +kernel
theorem dX8_passes_191 : decode cX8_passes 191 = .ok (.iload 7, 2) := by decide +kernel
theorem dX8_passes_193 : decode cX8_passes 193 = .ok (.iadd, 1) := by decide +kernel
theorem dX8_passes_194 : decode cX8_passes 194 = .ok (.iconst 1, 1) := by decide +kernel
theorem dX8_passes_195 : decode cX8_passes 195 = .ok (.iadd, 1) := by decide +kernel
theorem dX8_passes_196 : decode cX8_passes 196 = .ok (.iaload, 1) := by decide +kernel
theorem dX8_passes_197 : decode cX8_passes 197 = .ok (.invokevirtual 88, 3) := by decide +kernel
theorem dX8_passes_200 : decode cX8_passes 200 = .ok (.aload_n 0, 1) := by decide +kernel
theorem dX8_passes_201 : decode cX8_passes 201 = .ok (.iload 6, 2) := by decide +kernel
theorem dX8_passes_203 : decode cX8_passes 203 = .ok (.iload 7, 2) := by decide +kernel
theorem dX8_passes_205 : decode cX8_passes 205 = .ok (.invokevirtual 169, 3) := by decide +kernel
theorem dX8_passes_208 : decode cX8_passes 208 = .ok (.if_icmp .ne 7, 3) := by decide +kernel
theorem dX8_passes_211 : decode cX8_passes 211 = .ok (.iconst 1, 1) := by decide +kernel
theorem dX8_passes_212 : decode cX8_passes 212 = .ok (.goto 4, 3) := by decide +kernel
theorem dX8_passes_215 : decode cX8_passes 215 = .ok (.iconst 0, 1) := by decide +kernel
theorem dX8_passes_216 : decode cX8_passes 216 = .ok (.istore 4, 2) := by decide +kernel
theorem dX8_passes_218 : decode cX8_passes 218 = .ok (.iinc 6 1, 3) := by decide +kernel
theorem dX8_passes_221 : decode cX8_passes 221 = .ok (.goto (-76), 3) := by decide +kernel
theorem dX8_passes_224 : decode cX8_passes 224 = .ok (.iload 4, 2) := by decide +kernel
theorem dX8_passes_226 : decode cX8_passes 226 = .ok (.ireturn, 1) := by decide +kernel
theorem dX8_give_0 : decode cX8_give 0 = .ok (.iconst 0, 1) := by decide +kernel
theorem dX8_give_1 : decode cX8_give 1 = .ok (.istore_n 1, 1) := by decide +kernel
theorem dX8_give_2 : decode cX8_give 2 = .ok (.iload_n 1, 1) := by decide +kernel
theorem dX8_give_3 : decode cX8_give 3 = .ok (.aload_n 0, 1) := by decide +kernel
theorem dX8_give_4 : decode cX8_give 4 = .ok (.getfield 105, 3) := by decide +kernel
theorem dX8_give_7 : decode cX8_give 7 = .ok (.if_icmp .ge 56, 3) := by decide +kernel
theorem dX8_give_10 : decode cX8_give 10 = .ok (.aload_n 0, 1) := by decide +kernel
theorem dX8_give_11 : decode cX8_give 11 = .ok (.getfield 35, 3) := by decide +kernel
theorem dX8_give_14 : decode cX8_give 14 = .ok (.iconst 2, 1) := by decide +kernel
theorem dX8_give_15 : decode cX8_give 15 = .ok (.iload_n 1, 1) := by decide +kernel
theorem dX8_give_16 : decode cX8_give 16 = .ok (.imul, 1) := by decide +kernel
theorem dX8_give_17 : decode cX8_give 17 = .ok (.iaload, 1) := by decide +kernel
theorem dX8_give_18 : decode cX8_give 18 = .ok (.istore_n 2, 1) := by decide +kernel
theorem dX8_give_19 : decode cX8_give 19 = .ok (.aload_n 0, 1) := by decide +kernel
theorem dX8_give_20 : decode cX8_give 20 = .ok (.getfield 53, 3) := by decide +kernel
theorem dX8_give_23 : decode cX8_give 23 = .ok (.iconst 4, 1) := by decide +kernel
theorem dX8_give_24 : decode cX8_give 24 = .ok (.aload_n 0, 1) := by decide +kernel
theorem dX8_give_25 : decode cX8_give 25 = .ok (.getfield 121, 3) := by decide +kernel
theorem dX8_give_28 : decode cX8_give 28 = .ok (.imul, 1) := by decide +kernel
theorem dX8_give_29 : decode cX8_give 29 = .ok (.iload_n 1, 1) := by decide +kernel
theorem dX8_give_30 : decode cX8_give 30 = .ok (.iadd, 1) := by decide +kernel
theorem dX8_give_31 : decode cX8_give 31 = .ok (.aload_n 0, 1) := by decide +kernel
theorem dX8_give_32 : decode cX8_give 32 = .ok (.aload_n 0, 1) := by decide +kernel
theorem dX8_give_33 : decode cX8_give 33 = .ok (.getfield 26, 3) := by decide +kernel
theorem dX8_give_36 : decode cX8_give 36 = .ok (.iload_n 2, 1) := by decide +kernel
theorem dX8_give_37 : decode cX8_give 37 = .ok (.iaload, 1) := by decide +kernel
theorem dX8_give_38 : decode cX8_give 38 = .ok (.aload_n 0, 1) := by decide +kernel
theorem dX8_give_39 : decode cX8_give 39 = .ok (.iload_n 2, 1) := by decide +kernel
theorem dX8_give_40 : decode cX8_give 40 = .ok (.invokevirtual 166, 3) := by decide +kernel
theorem dX8_give_43 : decode cX8_give 43 = .ok (.aload_n 0, 1) := by decide +kernel
theorem dX8_give_44 : decode cX8_give 44 = .ok (.getfield 35, 3) := by decide +kernel
theorem dX8_give_47 : decode cX8_give 47 = .ok (.iconst 2, 1) := by decide +kernel
theorem dX8_give_48 : decode cX8_give 48 = .ok (.iload_n 1, 1) := by decide +kernel
theorem dX8_give_49 : decode cX8_give 49 = .ok (.imul, 1) := by decide +kernel
theorem dX8_give_50 : decode cX8_give 50 = .ok (.iconst 1, 1) := by decide +kernel
theorem dX8_give_51 : decode cX8_give 51 = .ok (.iadd, 1) := by decide +kernel
theorem dX8_give_52 : decode cX8_give 52 = .ok (.iaload, 1) := by decide +kernel
theorem dX8_give_53 : decode cX8_give 53 = .ok (.invokevirtual 88, 3) := by decide +kernel
theorem dX8_give_56 : decode cX8_give 56 = .ok (.iastore, 1) := by decide +kernel
theorem dX8_give_57 : decode cX8_give 57 = .ok (.iinc 1 1, 3) := by decide +kernel
theorem dX8_give_60 : decode cX8_give 60 = .ok (.goto (-58), 3) := by decide +kernel
theorem dX8_give_63 : decode cX8_give 63 = .ok (.aload_n 0, 1) := by decide +kernel
theorem dX8_give_64 : decode cX8_give 64 = .ok (.dup, 1) := by decide +kernel
theorem dX8_give_65 : decode cX8_give 65 = .ok (.getfield 121, 3) := by decide +kernel
theorem dX8_give_68 : decode cX8_give 68 = .ok (.iconst 1, 1) := by decide +kernel
theorem dX8_give_69 : decode cX8_give 69 = .ok (.iadd, 1) := by decide +kernel
theorem dX8_give_70 : decode cX8_give 70 = .ok (.putfield 121, 3) := by decide +kernel
theorem dX8_give_73 : decode cX8_give 73 = .ok (.aload_n 0, 1) := by decide +kernel
theorem dX8_give_74 : decode cX8_give 74 = .ok (.getfield 121, 3) := by decide +kernel
theorem dX8_give_77 : decode cX8_give 77 = .ok (.aload_n 0, 1) := by decide +kernel
theorem dX8_give_78 : decode cX8_give 78 = .ok (.getfield 108, 3) := by decide +kernel
theorem dX8_give_81 : decode cX8_give 81 = .ok (.ifCond .ge 10, 3) := by decide +kernel
theorem dX8_give_84 : decode cX8_give 84 = .ok (.aload_n 0, 1) := by decide +kernel
theorem dX8_give_85 : decode cX8_give 85 = .ok (.getfield 115, 3) := by decide +kernel
theorem dX8_give_88 : decode cX8_give 88 = .ok (.goto 5, 3) := by decide +kernel
theorem dX8_give_91 : decode cX8_give 91 = .ok (.bipush 64, 2) := by decide +kernel
theorem dX8_give_93 : decode cX8_give 93 = .ok (.if_icmp .ne 7, 3) := by decide +kernel
theorem dX8_give_96 : decode cX8_give 96 = .ok (.aload_n 0, 1) := by decide +kernel
theorem dX8_give_97 : decode cX8_give 97 = .ok (.invokevirtual 179, 3) := by decide +kernel
theorem dX8_give_100 : decode cX8_give 100 = .ok (.return_, 1) := by decide +kernel
theorem dX8_swapped_0 : decode cX8_swapped 0 = .ok (.aload_n 0, 1) := by decide +kernel
theorem dX8_swapped_1 : decode cX8_swapped 1 = .ok (.getfield 53, 3) := by decide +kernel
theorem dX8_swapped_4 : decode cX8_swapped 4 = .ok (.iconst 4, 1) := by decide +kernel
theorem dX8_swapped_5 : decode cX8_swapped 5 = .ok (.iload_n 1, 1) := by decide +kernel
theorem dX8_swapped_6 : decode cX8_swapped 6 = .ok (.imul, 1) := by decide +kernel
theorem dX8_swapped_7 : decode cX8_swapped 7 = .ok (.aload_n 0, 1) := by decide +kernel
theorem dX8_swapped_8 : decode cX8_swapped 8 = .ok (.getfield 108, 3) := by decide +kernel
theorem dX8_swapped_11 : decode cX8_swapped 11 = .ok (.iadd, 1) := by decide +kernel
theorem dX8_swapped_12 : decode cX8_swapped 12 = .ok (.iaload, 1) := by decide +kernel
theorem dX8_swapped_13 : decode cX8_swapped 13 = .ok (.istore_n 2, 1) := by decide +kernel
theorem dX8_swapped_14 : decode cX8_swapped 14 = .ok (.aload_n 0, 1) := by decide +kernel
theorem dX8_swapped_15 : decode cX8_swapped 15 = .ok (.getfield 53, 3) := by decide +kernel
theorem dX8_swapped_18 : decode cX8_swapped 18 = .ok (.iconst 4, 1) := by decide +kernel
theorem dX8_swapped_19 : decode cX8_swapped 19 = .ok (.iload_n 1, 1) := by decide +kernel
theorem dX8_swapped_20 : decode cX8_swapped 20 = .ok (.imul, 1) := by decide +kernel
theorem dX8_swapped_21 : decode cX8_swapped 21 = .ok (.iconst 4, 1) := by decide +kernel
theorem dX8_swapped_22 : decode cX8_swapped 22 = .ok (.iadd, 1) := by decide +kernel
theorem dX8_swapped_23 : decode cX8_swapped 23 = .ok (.aload_n 0, 1) := by decide +kernel
theorem dX8_swapped_24 : decode cX8_swapped 24 = .ok (.getfield 108, 3) := by decide +kernel
theorem dX8_swapped_27 : decode cX8_swapped 27 = .ok (.iadd, 1) := by decide +kernel
theorem dX8_swapped_28 : decode cX8_swapped 28 = .ok (.iaload, 1) := by decide +kernel
theorem dX8_swapped_29 : decode cX8_swapped 29 = .ok (.istore_n 3, 1) := by decide +kernel
theorem dX8_swapped_30 : decode cX8_swapped 30 = .ok (.aload_n 0, 1) := by decide +kernel
theorem dX8_swapped_31 : decode cX8_swapped 31 = .ok (.getfield 111, 3) := by decide +kernel
theorem dX8_swapped_34 : decode cX8_swapped 34 = .ok (.ifCond .eq 11, 3) := by decide +kernel
theorem dX8_swapped_37 : decode cX8_swapped 37 = .ok (.iload_n 2, 1) := by decide +kernel
theorem dX8_swapped_38 : decode cX8_swapped 38 = .ok (.iload_n 3, 1) := by decide +kernel
theorem dX8_swapped_39 : decode cX8_swapped 39 = .ok (.if_icmp .lt 13, 3) := by decide +kernel
theorem dX8_swapped_42 : decode cX8_swapped 42 = .ok (.goto 8, 3) := by decide +kernel
theorem dX8_swapped_45 : decode cX8_swapped 45 = .ok (.iload_n 2, 1) := by decide +kernel
theorem dX8_swapped_46 : decode cX8_swapped 46 = .ok (.iload_n 3, 1) := by decide +kernel
theorem dX8_swapped_47 : decode cX8_swapped 47 = .ok (.if_icmp .gt 5, 3) := by decide +kernel
theorem dX8_swapped_50 : decode cX8_swapped 50 = .ok (.iconst 0, 1) := by decide +kernel
theorem dX8_swapped_51 : decode cX8_swapped 51 = .ok (.ireturn, 1) := by decide +kernel
theorem dX8_swapped_52 : decode cX8_swapped 52 = .ok (.iconst 0, 1) := by decide +kernel
theorem dX8_swapped_53 : decode cX8_swapped 53 = .ok (.istore 4, 2) := by decide +kernel
theorem dX8_swapped_55 : decode cX8_swapped 55 = .ok (.iload 4, 2) := by decide +kernel
theorem dX8_swapped_57 : decode cX8_swapped 57 = .ok (.iconst 4, 1) := by decide +kernel
theorem dX8_swapped_58 : decode cX8_swapped 58 = .ok (.if_icmp .ge 61, 3) := by decide +kernel
theorem dX8_swapped_61 : decode cX8_swapped 61 = .ok (.aload_n 0, 1) := by decide +kernel
theorem dX8_swapped_62 : decode cX8_swapped 62 = .ok (.getfield 53, 3) := by decide +kernel
theorem dX8_swapped_65 : decode cX8_swapped 65 = .ok (.iconst 4, 1) := by decide +kernel
theorem dX8_swapped_66 : decode cX8_swapped 66 = .ok (.iload_n 1, 1) := by decide +kernel
theorem dX8_swapped_67 : decode cX8_swapped 67 = .ok (.imul, 1) := by decide +kernel
theorem dX8_swapped_68 : decode cX8_swapped 68 = .ok (.iload 4, 2) := by decide +kernel
theorem dX8_swapped_70 : decode cX8_swapped 70 = .ok (.iadd, 1) := by decide +kernel
theorem dX8_swapped_71 : decode cX8_swapped 71 = .ok (.iaload, 1) := by decide +kernel
theorem dX8_swapped_72 : decode cX8_swapped 72 = .ok (.istore 5, 2) := by decide +kernel
theorem dX8_swapped_74 : decode cX8_swapped 74 = .ok (.aload_n 0, 1) := by decide +kernel
theorem dX8_swapped_75 : decode cX8_swapped 75 = .ok (.getfield 53, 3) := by decide +kernel
theorem dX8_swapped_78 : decode cX8_swapped 78 = .ok (.iconst 4, 1) := by decide +kernel
theorem dX8_swapped_79 : decode cX8_swapped 79 = .ok (.iload_n 1, 1) := by decide +kernel
theorem dX8_swapped_80 : decode cX8_swapped 80 = .ok (.imul, 1) := by decide +kernel
theorem dX8_swapped_81 : decode cX8_swapped 81 = .ok (.iload 4, 2) := by decide +kernel
theorem dX8_swapped_83 : decode cX8_swapped 83 = .ok (.iadd, 1) := by decide +kernel
theorem dX8_swapped_84 : decode cX8_swapped 84 = .ok (.aload_n 0, 1) := by decide +kernel
theorem dX8_swapped_85 : decode cX8_swapped 85 = .ok (.getfield 53, 3) := by decide +kernel
theorem dX8_swapped_88 : decode cX8_swapped 88 = .ok (.iconst 4, 1) := by decide +kernel
theorem dX8_swapped_89 : decode cX8_swapped 89 = .ok (.iload_n 1, 1) := by decide +kernel
theorem dX8_swapped_90 : decode cX8_swapped 90 = .ok (.imul, 1) := by decide +kernel
theorem dX8_swapped_91 : decode cX8_swapped 91 = .ok (.iconst 4, 1) := by decide +kernel
theorem dX8_swapped_92 : decode cX8_swapped 92 = .ok (.iadd, 1) := by decide +kernel
theorem dX8_swapped_93 : decode cX8_swapped 93 = .ok (.iload 4, 2) := by decide +kernel
theorem dX8_swapped_95 : decode cX8_swapped 95 = .ok (.iadd, 1) := by decide +kernel
theorem dX8_swapped_96 : decode cX8_swapped 96 = .ok (.iaload, 1) := by decide +kernel
theorem dX8_swapped_97 : decode cX8_swapped 97 = .ok (.iastore, 1) := by decide +kernel
theorem dX8_swapped_98 : decode cX8_swapped 98 = .ok (.aload_n 0, 1) := by decide +kernel
theorem dX8_swapped_99 : decode cX8_swapped 99 = .ok (.getfield 53, 3) := by decide +kernel
theorem dX8_swapped_102 : decode cX8_swapped 102 = .ok (.iconst 4, 1) := by decide +kernel
theorem dX8_swapped_103 : decode cX8_swapped 103 = .ok (.iload_n 1, 1) := by decide +kernel
theorem dX8_swapped_104 : decode cX8_swapped 104 = .ok (.imul, 1) := by decide +kernel
theorem dX8_swapped_105 : decode cX8_swapped 105 = .ok (.iconst 4, 1) := by decide +kernel
theorem dX8_swapped_106 : decode cX8_swapped 106 = .ok (.iadd, 1) := by decide +kernel
theorem dX8_swapped_107 : decode cX8_swapped 107 = .ok (.iload 4, 2) := by decide +kernel
theorem dX8_swapped_109 : decode cX8_swapped 109 = .ok (.iadd, 1) := by decide +kernel
theorem dX8_swapped_110 : decode cX8_swapped 110 = .ok (.iload 5, 2) := by decide +kernel
theorem dX8_swapped_112 : decode cX8_swapped 112 = .ok (.iastore, 1) := by decide +kernel
theorem dX8_swapped_113 : decode cX8_swapped 113 = .ok (.iinc 4 1, 3) := by decide +kernel
theorem dX8_swapped_116 : decode cX8_swapped 116 = .ok (.goto (-61), 3) := by decide +kernel
theorem dX8_swapped_119 : decode cX8_swapped 119 = .ok (.iconst 1, 1) := by decide +kernel
theorem dX8_swapped_120 : decode cX8_swapped 120 = .ok (.ireturn, 1) := by decide +kernel
theorem dX8_finish_0 : decode cX8_finish 0 = .ok (.aload_n 0, 1) := by decide +kernel
theorem dX8_finish_1 : decode cX8_finish 1 = .ok (.iconst 2, 1) := by decide +kernel
theorem dX8_finish_2 : decode cX8_finish 2 = .ok (.putfield 71, 3) := by decide +kernel
theorem dX8_finish_5 : decode cX8_finish 5 = .ok (.aload_n 0, 1) := by decide +kernel
theorem dX8_finish_6 : decode cX8_finish 6 = .ok (.getfield 108, 3) := by decide +kernel
theorem dX8_finish_9 : decode cX8_finish 9 = .ok (.ifCond .lt 7, 3) := by decide +kernel
theorem dX8_finish_12 : decode cX8_finish 12 = .ok (.iconst 1, 1) := by decide +kernel
theorem dX8_finish_13 : decode cX8_finish 13 = .ok (.goto 4, 3) := by decide +kernel
theorem dX8_finish_16 : decode cX8_finish 16 = .ok (.iconst 0, 1) := by decide +kernel
theorem dX8_finish_17 : decode cX8_finish 17 = .ok (.istore_n 1, 1) := by decide +kernel
theorem dX8_finish_18 : decode cX8_finish 18 = .ok (.iload_n 1, 1) := by decide +kernel
theorem dX8_finish_19 : decode cX8_finish 19 = .ok (.ifCond .eq 44, 3) := by decide +kernel
theorem dX8_finish_22 : decode cX8_finish 22 = .ok (.iconst 0, 1) := by decide +kernel
theorem dX8_finish_23 : decode cX8_finish 23 = .ok (.istore_n 1, 1) := by decide +kernel
theorem dX8_finish_24 : decode cX8_finish 24 = .ok (.iconst 0, 1) := by decide +kernel
theorem dX8_finish_25 : decode cX8_finish 25 = .ok (.istore_n 2, 1) := by decide +kernel
theorem dX8_finish_26 : decode cX8_finish 26 = .ok (.iload_n 2, 1) := by decide +kernel
theorem dX8_finish_27 : decode cX8_finish 27 = .ok (.aload_n 0, 1) := by decide +kernel
theorem dX8_finish_28 : decode cX8_finish 28 = .ok (.getfield 121, 3) := by decide +kernel
theorem dX8_finish_31 : decode cX8_finish 31 = .ok (.iconst 1, 1) := by decide +kernel
theorem dX8_finish_32 : decode cX8_finish 32 = .ok (.isub, 1) := by decide +kernel
theorem dX8_finish_33 : decode cX8_finish 33 = .ok (.if_icmp .ge 27, 3) := by decide +kernel
theorem dX8_finish_36 : decode cX8_finish 36 = .ok (.aload_n 0, 1) := by decide +kernel
theorem dX8_finish_37 : decode cX8_finish 37 = .ok (.iload_n 2, 1) := by decide +kernel
theorem dX8_finish_38 : decode cX8_finish 38 = .ok (.invokevirtual 182, 3) := by decide +kernel
theorem dX8_finish_41 : decode cX8_finish 41 = .ok (.ifCond .ne 7, 3) := by decide +kernel
theorem dX8_finish_44 : decode cX8_finish 44 = .ok (.iload_n 1, 1) := by decide +kernel
theorem dX8_finish_45 : decode cX8_finish 45 = .ok (.ifCond .eq 7, 3) := by decide +kernel
theorem dX8_finish_48 : decode cX8_finish 48 = .ok (.iconst 1, 1) := by decide +kernel
theorem dX8_finish_49 : decode cX8_finish 49 = .ok (.goto 4, 3) := by decide +kernel
theorem dX8_finish_52 : decode cX8_finish 52 = .ok (.iconst 0, 1) := by decide +kernel
theorem dX8_finish_53 : decode cX8_finish 53 = .ok (.istore_n 1, 1) := by decide +kernel
theorem dX8_finish_54 : decode cX8_finish 54 = .ok (.iinc 2 1, 3) := by decide +kernel
theorem dX8_finish_57 : decode cX8_finish 57 = .ok (.goto (-31), 3) := by decide +kernel
theorem dX8_finish_60 : decode cX8_finish 60 = .ok (.goto (-42), 3) := by decide +kernel
theorem dX8_finish_63 : decode cX8_finish 63 = .ok (.aload_n 0, 1) := by decide +kernel
theorem dX8_finish_64 : decode cX8_finish 64 = .ok (.aload_n 0, 1) := by decide +kernel
theorem dX8_finish_65 : decode cX8_finish 65 = .ok (.getfield 121, 3) := by decide +kernel
theorem dX8_finish_68 : decode cX8_finish 68 = .ok (.aload_n 0, 1) := by decide +kernel
theorem dX8_finish_69 : decode cX8_finish 69 = .ok (.getfield 115, 3) := by decide +kernel
theorem dX8_finish_72 : decode cX8_finish 72 = .ok (.if_icmp .ge 10, 3) := by decide +kernel
theorem dX8_finish_75 : decode cX8_finish 75 = .ok (.aload_n 0, 1) := by decide +kernel
theorem dX8_finish_76 : decode cX8_finish 76 = .ok (.getfield 121, 3) := by decide +kernel
theorem dX8_finish_79 : decode cX8_finish 79 = .ok (.goto 7, 3) := by decide +kernel
theorem dX8_finish_82 : decode cX8_finish 82 = .ok (.aload_n 0, 1) := by decide +kernel
theorem dX8_finish_83 : decode cX8_finish 83 = .ok (.getfield 115, 3) := by decide +kernel
theorem dX8_finish_86 : decode cX8_finish 86 = .ok (.putfield 121, 3) := by decide +kernel
theorem dX8_finish_89 : decode cX8_finish 89 = .ok (.return_, 1) := by decide +kernel
theorem dX8_run_0 : decode cX8_run 0 = .ok (.aload_n 0, 1) := by decide +kernel
theorem dX8_run_1 : decode cX8_run 1 = .ok (.iconst 0, 1) := by decide +kernel
theorem dX8_run_2 : decode cX8_run 2 = .ok (.putfield 59, 3) := by decide +kernel
theorem dX8_run_5 : decode cX8_run 5 = .ok (.iload_n 1, 1) := by decide +kernel
theorem dX8_run_6 : decode cX8_run 6 = .ok (.iconst 1, 1) := by decide +kernel
theorem dX8_run_7 : decode cX8_run 7 = .ok (.sipush 200, 3) := by decide +kernel
theorem dX8_run_10 : decode cX8_run 10 = .ok (.invokestatic 63, 3) := by decide +kernel
theorem dX8_run_13 : decode cX8_run 13 = .ok (.ifCond .eq 11, 3) := by decide +kernel
theorem dX8_run_16 : decode cX8_run 16 = .ok (.aload_n 0, 1) := by decide +kernel
theorem dX8_run_17 : decode cX8_run 17 = .ok (.getfield 71, 3) := by decide +kernel
theorem dX8_run_20 : decode cX8_run 20 = .ok (.iconst 1, 1) := by decide +kernel
theorem dX8_run_21 : decode cX8_run 21 = .ok (.if_icmp .eq 5, 3) := by decide +kernel
theorem dX8_run_24 : decode cX8_run 24 = .ok (.iconst (-1), 1) := by decide +kernel
theorem dX8_run_25 : decode cX8_run 25 = .ok (.ireturn, 1) := by decide +kernel
theorem dX8_run_26 : decode cX8_run 26 = .ok (.iconst 0, 1) := by decide +kernel
theorem dX8_run_27 : decode cX8_run 27 = .ok (.istore_n 2, 1) := by decide +kernel
theorem dX8_run_28 : decode cX8_run 28 = .ok (.iconst 1, 1) := by decide +kernel
theorem dX8_run_29 : decode cX8_run 29 = .ok (.istore_n 3, 1) := by decide +kernel
theorem dX8_run_30 : decode cX8_run 30 = .ok (.iload_n 3, 1) := by decide +kernel
theorem dX8_run_31 : decode cX8_run 31 = .ok (.ifCond .eq 91, 3) := by decide +kernel
theorem dX8_run_34 : decode cX8_run 34 = .ok (.aload_n 0, 1) := by decide +kernel
theorem dX8_run_35 : decode cX8_run 35 = .ok (.aload_n 0, 1) := by decide +kernel
theorem dX8_run_36 : decode cX8_run 36 = .ok (.getfield 163, 3) := by decide +kernel
theorem dX8_run_39 : decode cX8_run 39 = .ok (.invokevirtual 185, 3) := by decide +kernel
theorem dX8_run_42 : decode cX8_run 42 = .ok (.istore 4, 2) := by decide +kernel
theorem dX8_run_44 : decode cX8_run 44 = .ok (.iload 4, 2) := by decide +kernel
theorem dX8_run_46 : decode cX8_run 46 = .ok (.ifCond .ge 27, 3) := by decide +kernel
theorem dX8_run_49 : decode cX8_run 49 = .ok (.aload_n 0, 1) := by decide +kernel
theorem dX8_run_50 : decode cX8_run 50 = .ok (.dup, 1) := by decide +kernel
theorem dX8_run_51 : decode cX8_run 51 = .ok (.getfield 163, 3) := by decide +kernel
theorem dX8_run_54 : decode cX8_run 54 = .ok (.iconst 1, 1) := by decide +kernel
theorem dX8_run_55 : decode cX8_run 55 = .ok (.isub, 1) := by decide +kernel
theorem dX8_run_56 : decode cX8_run 56 = .ok (.putfield 163, 3) := by decide +kernel
theorem dX8_run_59 : decode cX8_run 59 = .ok (.aload_n 0, 1) := by decide +kernel
theorem dX8_run_60 : decode cX8_run 60 = .ok (.getfield 163, 3) := by decide +kernel
theorem dX8_run_63 : decode cX8_run 63 = .ok (.ifCond .ge 38, 3) := by decide +kernel
theorem dX8_run_66 : decode cX8_run 66 = .ok (.aload_n 0, 1) := by decide +kernel
theorem dX8_run_67 : decode cX8_run 67 = .ok (.invokevirtual 179, 3) := by decide +kernel
theorem dX8_run_70 : decode cX8_run 70 = .ok (.goto 31, 3) := by decide +kernel
theorem dX8_run_73 : decode cX8_run 73 = .ok (.iload_n 2, 1) := by decide +kernel
theorem dX8_run_74 : decode cX8_run 74 = .ok (.iload_n 1, 1) := by decide +kernel
theorem dX8_run_75 : decode cX8_run 75 = .ok (.if_icmp .ge 24, 3) := by decide +kernel
theorem dX8_run_78 : decode cX8_run 78 = .ok (.aload_n 0, 1) := by decide +kernel
theorem dX8_run_79 : decode cX8_run 79 = .ok (.getfield 50, 3) := by decide +kernel
theorem dX8_run_82 : decode cX8_run 82 = .ok (.aload_n 0, 1) := by decide +kernel
theorem dX8_run_83 : decode cX8_run 83 = .ok (.getfield 163, 3) := by decide +kernel
theorem dX8_run_86 : decode cX8_run 86 = .ok (.iload 4, 2) := by decide +kernel
theorem dX8_run_88 : decode cX8_run 88 = .ok (.iastore, 1) := by decide +kernel
theorem dX8_run_89 : decode cX8_run 89 = .ok (.iinc 2 1, 3) := by decide +kernel
theorem dX8_run_92 : decode cX8_run 92 = .ok (.aload_n 0, 1) := by decide +kernel
theorem dX8_run_93 : decode cX8_run 93 = .ok (.invokevirtual 188, 3) := by decide +kernel
theorem dX8_run_96 : decode cX8_run 96 = .ok (.goto 5, 3) := by decide +kernel
theorem dX8_run_99 : decode cX8_run 99 = .ok (.iconst 0, 1) := by decide +kernel
theorem dX8_run_100 : decode cX8_run 100 = .ok (.istore_n 3, 1) := by decide +kernel
theorem dX8_run_101 : decode cX8_run 101 = .ok (.iload_n 3, 1) := by decide +kernel
theorem dX8_run_102 : decode cX8_run 102 = .ok (.ifCond .eq 15, 3) := by decide +kernel
theorem dX8_run_105 : decode cX8_run 105 = .ok (.aload_n 0, 1) := by decide +kernel
theorem dX8_run_106 : decode cX8_run 106 = .ok (.getfield 71, 3) := by decide +kernel
theorem dX8_run_109 : decode cX8_run 109 = .ok (.iconst 1, 1) := by decide +kernel
theorem dX8_run_110 : decode cX8_run 110 = .ok (.if_icmp .ne 7, 3) := by decide +kernel
theorem dX8_run_113 : decode cX8_run 113 = .ok (.iconst 1, 1) := by decide +kernel
theorem dX8_run_114 : decode cX8_run 114 = .ok (.goto 4, 3) := by decide +kernel
theorem dX8_run_117 : decode cX8_run 117 = .ok (.iconst 0, 1) := by decide +kernel
theorem dX8_run_118 : decode cX8_run 118 = .ok (.istore_n 3, 1) := by decide +kernel
theorem dX8_run_119 : decode cX8_run 119 = .ok (.goto (-89), 3) := by decide +kernel
theorem dX8_run_122 : decode cX8_run 122 = .ok (.aload_n 0, 1) := by decide +kernel
theorem dX8_run_123 : decode cX8_run 123 = .ok (.dup, 1) := by decide +kernel
theorem dX8_run_124 : decode cX8_run 124 = .ok (.getfield 118, 3) := by decide +kernel
theorem dX8_run_127 : decode cX8_run 127 = .ok (.iload_n 2, 1) := by decide +kernel
theorem dX8_run_128 : decode cX8_run 128 = .ok (.iadd, 1) := by decide +kernel
theorem dX8_run_129 : decode cX8_run 129 = .ok (.putfield 118, 3) := by decide +kernel
theorem dX8_run_132 : decode cX8_run 132 = .ok (.iload_n 2, 1) := by decide +kernel
theorem dX8_run_133 : decode cX8_run 133 = .ok (.ireturn, 1) := by decide +kernel
theorem dX8_step_0 : decode cX8_step 0 = .ok (.aload_n 0, 1) := by decide +kernel
theorem dX8_step_1 : decode cX8_step 1 = .ok (.aload_n 0, 1) := by decide +kernel
theorem dX8_step_2 : decode cX8_step 2 = .ok (.getfield 163, 3) := by decide +kernel
theorem dX8_step_5 : decode cX8_step 5 = .ok (.invokevirtual 191, 3) := by decide +kernel
theorem dX8_step_8 : decode cX8_step 8 = .ok (.ifCond .ne 4, 3) := by decide +kernel
theorem dX8_step_11 : decode cX8_step 11 = .ok (.return_, 1) := by decide +kernel
theorem dX8_step_12 : decode cX8_step 12 = .ok (.aload_n 0, 1) := by decide +kernel
theorem dX8_step_13 : decode cX8_step 13 = .ok (.getfield 163, 3) := by decide +kernel
theorem dX8_step_16 : decode cX8_step 16 = .ok (.aload_n 0, 1) := by decide +kernel
theorem dX8_step_17 : decode cX8_step 17 = .ok (.getfield 96, 3) := by decide +kernel
theorem dX8_step_20 : decode cX8_step 20 = .ok (.iconst 1, 1) := by decide +kernel
theorem dX8_step_21 : decode cX8_step 21 = .ok (.isub, 1) := by decide +kernel
theorem dX8_step_22 : decode cX8_step 22 = .ok (.if_icmp .ne 10, 3) := by decide +kernel
theorem dX8_step_25 : decode cX8_step 25 = .ok (.aload_n 0, 1) := by decide +kernel
theorem dX8_step_26 : decode cX8_step 26 = .ok (.invokevirtual 194, 3) := by decide +kernel
theorem dX8_step_29 : decode cX8_step 29 = .ok (.goto 23, 3) := by decide +kernel
theorem dX8_step_32 : decode cX8_step 32 = .ok (.aload_n 0, 1) := by decide +kernel
theorem dX8_step_33 : decode cX8_step 33 = .ok (.dup, 1) := by decide +kernel
theorem dX8_step_34 : decode cX8_step 34 = .ok (.getfield 163, 3) := by decide +kernel
theorem dX8_step_37 : decode cX8_step 37 = .ok (.iconst 1, 1) := by decide +kernel
theorem dX8_step_38 : decode cX8_step 38 = .ok (.iadd, 1) := by decide +kernel
theorem dX8_step_39 : decode cX8_step 39 = .ok (.putfield 163, 3) := by decide +kernel
theorem dX8_step_42 : decode cX8_step 42 = .ok (.aload_n 0, 1) := by decide +kernel
theorem dX8_step_43 : decode cX8_step 43 = .ok (.getfield 50, 3) := by decide +kernel
theorem dX8_step_46 : decode cX8_step 46 = .ok (.aload_n 0, 1) := by decide +kernel
theorem dX8_step_47 : decode cX8_step 47 = .ok (.getfield 163, 3) := by decide +kernel
theorem dX8_step_50 : decode cX8_step 50 = .ok (.iconst (-1), 1) := by decide +kernel
theorem dX8_step_51 : decode cX8_step 51 = .ok (.iastore, 1) := by decide +kernel
theorem dX8_step_52 : decode cX8_step 52 = .ok (.return_, 1) := by decide +kernel
theorem dX8_look_0 : decode cX8_look 0 = .ok (.aload_n 0, 1) := by decide +kernel
theorem dX8_look_1 : decode cX8_look 1 = .ok (.iconst 0, 1) := by decide +kernel
theorem dX8_look_2 : decode cX8_look 2 = .ok (.putfield 59, 3) := by decide +kernel
theorem dX8_look_5 : decode cX8_look 5 = .ok (.iload_n 1, 1) := by decide +kernel
theorem dX8_look_6 : decode cX8_look 6 = .ok (.iconst 3, 1) := by decide +kernel
theorem dX8_look_7 : decode cX8_look 7 = .ok (.if_icmp .ge 40, 3) := by decide +kernel
theorem dX8_look_10 : decode cX8_look 10 = .ok (.iload_n 1, 1) := by decide +kernel
theorem dX8_look_11 : decode cX8_look 11 = .ok (.ifCond .ne 10, 3) := by decide +kernel
theorem dX8_look_14 : decode cX8_look 14 = .ok (.aload_n 0, 1) := by decide +kernel
theorem dX8_look_15 : decode cX8_look 15 = .ok (.getfield 71, 3) := by decide +kernel
theorem dX8_look_18 : decode cX8_look 18 = .ok (.goto 28, 3) := by decide +kernel
theorem dX8_look_21 : decode cX8_look 21 = .ok (.iload_n 1, 1) := by decide +kernel
theorem dX8_look_22 : decode cX8_look 22 = .ok (.iconst 1, 1) := by decide +kernel
theorem dX8_look_23 : decode cX8_look 23 = .ok (.if_icmp .ne 10, 3) := by decide +kernel
theorem dX8_look_26 : decode cX8_look 26 = .ok (.aload_n 0, 1) := by decide +kernel
theorem dX8_look_27 : decode cX8_look 27 = .ok (.getfield 118, 3) := by decide +kernel
theorem dX8_look_30 : decode cX8_look 30 = .ok (.goto 16, 3) := by decide +kernel
theorem dX8_look_33 : decode cX8_look 33 = .ok (.iload_n 1, 1) := by decide +kernel
theorem dX8_look_34 : decode cX8_look 34 = .ok (.iconst 2, 1) := by decide +kernel
theorem dX8_look_35 : decode cX8_look 35 = .ok (.if_icmp .ne 10, 3) := by decide +kernel
theorem dX8_look_38 : decode cX8_look 38 = .ok (.aload_n 0, 1) := by decide +kernel
theorem dX8_look_39 : decode cX8_look 39 = .ok (.getfield 121, 3) := by decide +kernel
theorem dX8_look_42 : decode cX8_look 42 = .ok (.goto 4, 3) := by decide +kernel
theorem dX8_look_45 : decode cX8_look 45 = .ok (.iconst (-1), 1) := by decide +kernel
theorem dX8_look_46 : decode cX8_look 46 = .ok (.ireturn, 1) := by decide +kernel
theorem dX8_look_47 : decode cX8_look 47 = .ok (.iload_n 1, 1) := by decide +kernel
theorem dX8_look_48 : decode cX8_look 48 = .ok (.bipush 6, 2) := by decide +kernel
theorem dX8_look_50 : decode cX8_look 50 = .ok (.if_icmp .ge 24, 3) := by decide +kernel
theorem dX8_look_53 : decode cX8_look 53 = .ok (.aload_n 0, 1) := by decide +kernel
theorem dX8_look_54 : decode cX8_look 54 = .ok (.getfield 7, 3) := by decide +kernel
theorem dX8_look_57 : decode cX8_look 57 = .ok (.iload_n 1, 1) := by decide +kernel
theorem dX8_look_58 : decode cX8_look 58 = .ok (.iconst 3, 1) := by decide +kernel
theorem dX8_look_59 : decode cX8_look 59 = .ok (.isub, 1) := by decide +kernel
theorem dX8_look_60 : decode cX8_look 60 = .ok (.iaload, 1) := by decide +kernel
theorem dX8_look_61 : decode cX8_look 61 = .ok (.ifCond .le 13, 3) := by decide +kernel
theorem dX8_look_64 : decode cX8_look 64 = .ok (.aload_n 0, 1) := by decide +kernel
theorem dX8_look_65 : decode cX8_look 65 = .ok (.iload_n 1, 1) := by decide +kernel
theorem dX8_look_66 : decode cX8_look 66 = .ok (.iconst 3, 1) := by decide +kernel
theorem dX8_look_67 : decode cX8_look 67 = .ok (.isub, 1) := by decide +kernel
theorem dX8_look_68 : decode cX8_look 68 = .ok (.invokevirtual 74, 3) := by decide +kernel
theorem dX8_look_71 : decode cX8_look 71 = .ok (.goto 4, 3) := by decide +kernel
theorem dX8_look_74 : decode cX8_look 74 = .ok (.iconst (-1), 1) := by decide +kernel
theorem dX8_look_75 : decode cX8_look 75 = .ok (.ireturn, 1) := by decide +kernel
theorem dX8_answer_0 : decode cX8_answer 0 = .ok (.aload_n 0, 1) := by decide +kernel
theorem dX8_answer_1 : decode cX8_answer 1 = .ok (.aload_n 0, 1) := by decide +kernel
theorem dX8_answer_2 : decode cX8_answer 2 = .ok (.getfield 71, 3) := by decide +kernel
theorem dX8_answer_5 : decode cX8_answer 5 = .ok (.iconst 2, 1) := by decide +kernel
theorem dX8_answer_6 : decode cX8_answer 6 = .ok (.if_icmp .eq 7, 3) := by decide +kernel
theorem dX8_answer_9 : decode cX8_answer 9 = .ok (.iconst 1, 1) := by decide +kernel
theorem dX8_answer_10 : decode cX8_answer 10 = .ok (.goto 36, 3) := by decide +kernel
theorem dX8_answer_13 : decode cX8_answer 13 = .ok (.iload_n 1, 1) := by decide +kernel
theorem dX8_answer_14 : decode cX8_answer 14 = .ok (.iconst 0, 1) := by decide +kernel
theorem dX8_answer_15 : decode cX8_answer 15 = .ok (.aload_n 0, 1) := by decide +kernel
theorem dX8_answer_16 : decode cX8_answer 16 = .ok (.getfield 121, 3) := by decide +kernel
theorem dX8_answer_19 : decode cX8_answer 19 = .ok (.iconst 1, 1) := by decide +kernel
theorem dX8_answer_20 : decode cX8_answer 20 = .ok (.isub, 1) := by decide +kernel
theorem dX8_answer_21 : decode cX8_answer 21 = .ok (.invokestatic 63, 3) := by decide +kernel
theorem dX8_answer_24 : decode cX8_answer 24 = .ok (.ifCond .eq 17, 3) := by decide +kernel
theorem dX8_answer_27 : decode cX8_answer 27 = .ok (.iload_n 2, 1) := by decide +kernel
theorem dX8_answer_28 : decode cX8_answer 28 = .ok (.iconst 0, 1) := by decide +kernel
theorem dX8_answer_29 : decode cX8_answer 29 = .ok (.aload_n 0, 1) := by decide +kernel
theorem dX8_answer_30 : decode cX8_answer 30 = .ok (.getfield 105, 3) := by decide +kernel
theorem dX8_answer_33 : decode cX8_answer 33 = .ok (.iconst 1, 1) := by decide +kernel
theorem dX8_answer_34 : decode cX8_answer 34 = .ok (.isub, 1) := by decide +kernel
theorem dX8_answer_35 : decode cX8_answer 35 = .ok (.invokestatic 63, 3) := by decide +kernel
theorem dX8_answer_38 : decode cX8_answer 38 = .ok (.ifCond .ne 7, 3) := by decide +kernel
theorem dX8_answer_41 : decode cX8_answer 41 = .ok (.iconst 2, 1) := by decide +kernel
theorem dX8_answer_42 : decode cX8_answer 42 = .ok (.goto 4, 3) := by decide +kernel
theorem dX8_answer_45 : decode cX8_answer 45 = .ok (.iconst 0, 1) := by decide +kernel
theorem dX8_answer_46 : decode cX8_answer 46 = .ok (.putfield 59, 3) := by decide +kernel
theorem dX8_answer_49 : decode cX8_answer 49 = .ok (.aload_n 0, 1) := by decide +kernel
theorem dX8_answer_50 : decode cX8_answer 50 = .ok (.getfield 59, 3) := by decide +kernel
theorem dX8_answer_53 : decode cX8_answer 53 = .ok (.ifCond .le 7, 3) := by decide +kernel
theorem dX8_answer_56 : decode cX8_answer 56 = .ok (.iconst 0, 1) := by decide +kernel
theorem dX8_answer_57 : decode cX8_answer 57 = .ok (.goto 13, 3) := by decide +kernel
theorem dX8_answer_60 : decode cX8_answer 60 = .ok (.aload_n 0, 1) := by decide +kernel
theorem dX8_answer_61 : decode cX8_answer 61 = .ok (.getfield 53, 3) := by decide +kernel
theorem dX8_answer_64 : decode cX8_answer 64 = .ok (.iconst 4, 1) := by decide +kernel
theorem dX8_answer_65 : decode cX8_answer 65 = .ok (.iload_n 1, 1) := by decide +kernel
theorem dX8_answer_66 : decode cX8_answer 66 = .ok (.imul, 1) := by decide +kernel
theorem dX8_answer_67 : decode cX8_answer 67 = .ok (.iload_n 2, 1) := by decide +kernel
theorem dX8_answer_68 : decode cX8_answer 68 = .ok (.iadd, 1) := by decide +kernel
theorem dX8_answer_69 : decode cX8_answer 69 = .ok (.iaload, 1) := by decide +kernel
theorem dX8_answer_70 : decode cX8_answer 70 = .ok (.ireturn, 1) := by decide +kernel
theorem dL_insert_0 : decode cL_insert 0 = .ok (.aload 6, 2) := by decide +kernel
theorem dL_insert_2 : decode cL_insert 2 = .ok (.iconst 0, 1) := by decide +kernel
theorem dL_insert_3 : decode cL_insert 3 = .ok (.aload_n 0, 1) := by decide +kernel
theorem dL_insert_4 : decode cL_insert 4 = .ok (.iload_n 1, 1) := by decide +kernel
theorem dL_insert_5 : decode cL_insert 5 = .ok (.iload_n 2, 1) := by decide +kernel
theorem dL_insert_6 : decode cL_insert 6 = .ok (.iload_n 3, 1) := by decide +kernel
theorem dL_insert_7 : decode cL_insert 7 = .ok (.iload 4, 2) := by decide +kernel
theorem dL_insert_9 : decode cL_insert 9 = .ok (.iload 5, 2) := by decide +kernel
theorem dL_insert_11 : decode cL_insert 11 = .ok (.invokevirtual 7, 3) := by decide +kernel
theorem dL_insert_14 : decode cL_insert 14 = .ok (.i2l, 1) := by decide +kernel
theorem dL_insert_15 : decode cL_insert 15 = .ok (.lastore, 1) := by decide +kernel
theorem dL_insert_16 : decode cL_insert 16 = .ok (.goto 11, 3) := by decide +kernel
theorem dL_insert_19 : decode cL_insert 19 = .ok (.astore 7, 2) := by decide +kernel
theorem dL_insert_21 : decode cL_insert 21 = .ok (.iconst 1, 1) := by decide +kernel
theorem dL_insert_22 : decode cL_insert 22 = .ok (.ireturn, 1) := by decide +kernel
theorem dL_insert_23 : decode cL_insert 23 = .ok (.astore 7, 2) := by decide +kernel
theorem dL_insert_25 : decode cL_insert 25 = .ok (.iconst 2, 1) := by decide +kernel
theorem dL_insert_26 : decode cL_insert 26 = .ok (.ireturn, 1) := by decide +kernel
theorem dL_insert_27 : decode cL_insert 27 = .ok (.iconst 0, 1) := by decide +kernel
theorem dL_insert_28 : decode cL_insert 28 = .ok (.ireturn, 1) := by decide +kernel
theorem dL_delete_0 : decode cL_delete 0 = .ok (.aload_n 0, 1) := by decide +kernel
theorem dL_delete_1 : decode cL_delete 1 = .ok (.iload_n 1, 1) := by decide +kernel
theorem dL_delete_2 : decode cL_delete 2 = .ok (.iload_n 2, 1) := by decide +kernel
theorem dL_delete_3 : decode cL_delete 3 = .ok (.invokevirtual 17, 3) := by decide +kernel
theorem dL_delete_6 : decode cL_delete 6 = .ok (.goto 6, 3) := by decide +kernel
theorem dL_delete_9 : decode cL_delete 9 = .ok (.astore_n 3, 1) := by decide +kernel
theorem dL_delete_10 : decode cL_delete 10 = .ok (.iconst 1, 1) := by decide +kernel
theorem dL_delete_11 : decode cL_delete 11 = .ok (.ireturn, 1) := by decide +kernel
theorem dL_delete_12 : decode cL_delete 12 = .ok (.iconst 0, 1) := by decide +kernel
theorem dL_delete_13 : decode cL_delete 13 = .ok (.ireturn, 1) := by decide +kernel
theorem dL_update_0 : decode cL_update 0 = .ok (.aload_n 0, 1) := by decide +kernel
theorem dL_update_1 : decode cL_update 1 = .ok (.iload_n 1, 1) := by decide +kernel
theorem dL_update_2 : decode cL_update 2 = .ok (.iload_n 2, 1) := by decide +kernel
theorem dL_update_3 : decode cL_update 3 = .ok (.iload_n 3, 1) := by decide +kernel
theorem dL_update_4 : decode cL_update 4 = .ok (.iload 4, 2) := by decide +kernel
theorem dL_update_6 : decode cL_update 6 = .ok (.invokevirtual 21, 3) := by decide +kernel
theorem dL_update_9 : decode cL_update 9 = .ok (.goto 7, 3) := by decide +kernel
theorem dL_update_12 : decode cL_update 12 = .ok (.astore 5, 2) := by decide +kernel
theorem dL_update_14 : decode cL_update 14 = .ok (.iconst 1, 1) := by decide +kernel
theorem dL_update_15 : decode cL_update 15 = .ok (.ireturn, 1) := by decide +kernel
theorem dL_update_16 : decode cL_update 16 = .ok (.iconst 0, 1) := by decide +kernel
theorem dL_update_17 : decode cL_update 17 = .ok (.ireturn, 1) := by decide +kernel
theorem dL_cell_0 : decode cL_cell 0 = .ok (.aload 4, 2) := by decide +kernel
theorem dL_cell_2 : decode cL_cell 2 = .ok (.iconst 0, 1) := by decide +kernel
theorem dL_cell_3 : decode cL_cell 3 = .ok (.aload_n 0, 1) := by decide +kernel
theorem dL_cell_4 : decode cL_cell 4 = .ok (.iload_n 1, 1) := by decide +kernel
theorem dL_cell_5 : decode cL_cell 5 = .ok (.iload_n 2, 1) := by decide +kernel
theorem dL_cell_6 : decode cL_cell 6 = .ok (.iload_n 3, 1) := by decide +kernel
theorem dL_cell_7 : decode cL_cell 7 = .ok (.invokevirtual 25, 3) := by decide +kernel
theorem dL_cell_10 : decode cL_cell 10 = .ok (.i2l, 1) := by decide +kernel
theorem dL_cell_11 : decode cL_cell 11 = .ok (.lastore, 1) := by decide +kernel
theorem dL_cell_12 : decode cL_cell 12 = .ok (.goto 7, 3) := by decide +kernel
theorem dL_cell_15 : decode cL_cell 15 = .ok (.astore 5, 2) := by decide +kernel
theorem dL_cell_17 : decode cL_cell 17 = .ok (.iconst 1, 1) := by decide +kernel
theorem dL_cell_18 : decode cL_cell 18 = .ok (.ireturn, 1) := by decide +kernel
theorem dL_cell_19 : decode cL_cell 19 = .ok (.iconst 0, 1) := by decide +kernel
theorem dL_cell_20 : decode cL_cell 20 = .ok (.ireturn, 1) := by decide +kernel
theorem dL_plan_0 : decode cL_plan 0 = .ok (.aload_n 1, 1) := by decide +kernel
theorem dL_plan_1 : decode cL_plan 1 = .ok (.iconst 0, 1) := by decide +kernel
theorem dL_plan_2 : decode cL_plan 2 = .ok (.aload_n 0, 1) := by decide +kernel
theorem dL_plan_3 : decode cL_plan 3 = .ok (.invokevirtual 29, 3) := by decide +kernel
theorem dL_plan_6 : decode cL_plan 6 = .ok (.f2d, 1) := by decide +kernel
theorem dL_plan_7 : decode cL_plan 7 = .ok (.dastore, 1) := by decide +kernel
theorem dL_plan_8 : decode cL_plan 8 = .ok (.goto 6, 3) := by decide +kernel
theorem dL_plan_11 : decode cL_plan 11 = .ok (.astore_n 2, 1) := by decide +kernel
theorem dL_plan_12 : decode cL_plan 12 = .ok (.iconst 1, 1) := by decide +kernel
theorem dL_plan_13 : decode cL_plan 13 = .ok (.ireturn, 1) := by decide +kernel
theorem dL_plan_14 : decode cL_plan 14 = .ok (.iconst 0, 1) := by decide +kernel
theorem dL_plan_15 : decode cL_plan 15 = .ok (.ireturn, 1) := by decide +kernel
theorem dL_explain_0 : decode cL_explain 0 = .ok (.aload_n 3, 1) := by decide +kernel
theorem dL_explain_1 : decode cL_explain 1 = .ok (.iconst 0, 1) := by decide +kernel
theorem dL_explain_2 : decode cL_explain 2 = .ok (.aload_n 0, 1) := by decide +kernel
theorem dL_explain_3 : decode cL_explain 3 = .ok (.iload_n 1, 1) := by decide +kernel
theorem dL_explain_4 : decode cL_explain 4 = .ok (.iload_n 2, 1) := by decide +kernel
theorem dL_explain_5 : decode cL_explain 5 = .ok (.invokevirtual 33, 3) := by decide +kernel
theorem dL_explain_8 : decode cL_explain 8 = .ok (.i2l, 1) := by decide +kernel
theorem dL_explain_9 : decode cL_explain 9 = .ok (.lastore, 1) := by decide +kernel
theorem dL_explain_10 : decode cL_explain 10 = .ok (.goto 7, 3) := by decide +kernel
theorem dL_explain_13 : decode cL_explain 13 = .ok (.astore 4, 2) := by decide +kernel
theorem dL_explain_15 : decode cL_explain 15 = .ok (.iconst 1, 1) := by decide +kernel
theorem dL_explain_16 : decode cL_explain 16 = .ok (.ireturn, 1) := by decide +kernel
theorem dL_explain_17 : decode cL_explain 17 = .ok (.iconst 0, 1) := by decide +kernel
theorem dL_explain_18 : decode cL_explain 18 = .ok (.ireturn, 1) := by decide +kernel
theorem dL_answer_0 : decode cL_answer 0 = .ok (.aload_n 3, 1) := by decide +kernel
theorem dL_answer_1 : decode cL_answer 1 = .ok (.iconst 0, 1) := by decide +kernel
theorem dL_answer_2 : decode cL_answer 2 = .ok (.aload_n 0, 1) := by decide +kernel
theorem dL_answer_3 : decode cL_answer 3 = .ok (.iload_n 1, 1) := by decide +kernel
theorem dL_answer_4 : decode cL_answer 4 = .ok (.iload_n 2, 1) := by decide +kernel
theorem dL_answer_5 : decode cL_answer 5 = .ok (.invokevirtual 39, 3) := by decide +kernel
theorem dL_answer_8 : decode cL_answer 8 = .ok (.i2l, 1) := by decide +kernel
theorem dL_answer_9 : decode cL_answer 9 = .ok (.lastore, 1) := by decide +kernel
theorem dL_answer_10 : decode cL_answer 10 = .ok (.goto 11, 3) := by decide +kernel
theorem dL_answer_13 : decode cL_answer 13 = .ok (.astore 4, 2) := by decide +kernel
theorem dL_answer_15 : decode cL_answer 15 = .ok (.iconst 1, 1) := by decide +kernel
theorem dL_answer_16 : decode cL_answer 16 = .ok (.ireturn, 1) := by decide +kernel
theorem dL_answer_17 : decode cL_answer 17 = .ok (.astore 4, 2) := by decide +kernel
theorem dL_answer_19 : decode cL_answer 19 = .ok (.iconst 2, 1) := by decide +kernel
theorem dL_answer_20 : decode cL_answer 20 = .ok (.ireturn, 1) := by decide +kernel
theorem dL_answer_21 : decode cL_answer 21 = .ok (.iconst 0, 1) := by decide +kernel
theorem dL_answer_22 : decode cL_answer 22 = .ok (.ireturn, 1) := by decide +kernel
theorem dL_law_0 : decode cL_law 0 = .ok (.new 8, 3) := by decide +kernel
theorem dL_law_3 : decode cL_law 3 = .ok (.dup, 1) := by decide +kernel
theorem dL_law_4 : decode cL_law 4 = .ok (.invokespecial 42, 3) := by decide +kernel
theorem dL_law_7 : decode cL_law 7 = .ok (.astore_n 1, 1) := by decide +kernel
theorem dL_law_8 : decode cL_law 8 = .ok (.new 43, 3) := by decide +kernel
theorem dL_law_11 : decode cL_law 11 = .ok (.dup, 1) := by decide +kernel
theorem dL_law_12 : decode cL_law 12 = .ok (.invokespecial 45, 3) := by decide +kernel
theorem dL_law_15 : decode cL_law 15 = .ok (.astore_n 2, 1) := by decide +kernel
theorem dL_law_16 : decode cL_law 16 = .ok (.iconst 1, 1) := by decide +kernel
theorem dL_law_17 : decode cL_law 17 = .ok (.newarray .long, 2) := by decide +kernel
theorem dL_law_19 : decode cL_law 19 = .ok (.astore_n 3, 1) := by decide +kernel
theorem dL_law_20 : decode cL_law 20 = .ok (.iconst 1, 1) := by decide +kernel
theorem dL_law_21 : decode cL_law 21 = .ok (.newarray .double, 2) := by decide +kernel
theorem dL_law_23 : decode cL_law 23 = .ok (.astore 4, 2) := by decide +kernel
theorem dL_law_25 : decode cL_law 25 = .ok (.iconst 0, 1) := by decide +kernel
theorem dL_law_26 : decode cL_law 26 = .ok (.istore 5, 2) := by decide +kernel
theorem dL_law_28 : decode cL_law 28 = .ok (.iload 5, 2) := by decide +kernel
theorem dL_law_30 : decode cL_law 30 = .ok (.aload_n 0, 1) := by decide +kernel
theorem dL_law_31 : decode cL_law 31 = .ok (.arraylength, 1) := by decide +kernel
theorem dL_law_32 : decode cL_law 32 = .ok (.bipush 6, 2) := by decide +kernel
theorem dL_law_34 : decode cL_law 34 = .ok (.isub, 1) := by decide +kernel
theorem dL_law_35 : decode cL_law 35 = .ok (.if_icmp .gt 1071, 3) := by decide +kernel
theorem dL_law_38 : decode cL_law 38 = .ok (.aload_n 0, 1) := by decide +kernel
theorem dL_law_39 : decode cL_law 39 = .ok (.iload 5, 2) := by decide +kernel
theorem dL_law_41 : decode cL_law 41 = .ok (.iaload, 1) := by decide +kernel
theorem dL_law_42 : decode cL_law 42 = .ok (.bipush 31, 2) := by decide +kernel
theorem dL_law_44 : decode cL_law 44 = .ok (.iand, 1) := by decide +kernel
theorem dL_law_45 : decode cL_law 45 = .ok (.tableswitch 1055 0 18 #[91, 128, 232, 280, 352, 432, 481, 530, 541, 566, 627, 688, 725, 778, 803, 869, 937, 962, 987], 91) := by decide +kernel
theorem dL_law_136 : decode cL_law 136 = .ok (.aload_n 1, 1) := by decide +kernel
theorem dL_law_137 : decode cL_law 137 = .ok (.aload_n 0, 1) := by decide +kernel
theorem dL_law_138 : decode cL_law 138 = .ok (.iload 5, 2) := by decide +kernel
theorem dL_law_140 : decode cL_law 140 = .ok (.iconst 1, 1) := by decide +kernel
theorem dL_law_141 : decode cL_law 141 = .ok (.iadd, 1) := by decide +kernel
theorem dL_law_142 : decode cL_law 142 = .ok (.iaload, 1) := by decide +kernel
theorem dL_law_143 : decode cL_law 143 = .ok (.aload_n 0, 1) := by decide +kernel
theorem dL_law_144 : decode cL_law 144 = .ok (.iload 5, 2) := by decide +kernel
theorem dL_law_146 : decode cL_law 146 = .ok (.iconst 2, 1) := by decide +kernel
theorem dL_law_147 : decode cL_law 147 = .ok (.iadd, 1) := by decide +kernel
theorem dL_law_148 : decode cL_law 148 = .ok (.iaload, 1) := by decide +kernel
theorem dL_law_149 : decode cL_law 149 = .ok (.invokevirtual 46, 3) := by decide +kernel
theorem dL_law_152 : decode cL_law 152 = .ok (.aload_n 2, 1) := by decide +kernel
theorem dL_law_153 : decode cL_law 153 = .ok (.aload_n 0, 1) := by decide +kernel
theorem dL_law_154 : decode cL_law 154 = .ok (.iload 5, 2) := by decide +kernel
theorem dL_law_156 : decode cL_law 156 = .ok (.iconst 1, 1) := by decide +kernel
theorem dL_law_157 : decode cL_law 157 = .ok (.iadd, 1) := by decide +kernel
theorem dL_law_158 : decode cL_law 158 = .ok (.iaload, 1) := by decide +kernel
theorem dL_law_159 : decode cL_law 159 = .ok (.aload_n 0, 1) := by decide +kernel
theorem dL_law_160 : decode cL_law 160 = .ok (.iload 5, 2) := by decide +kernel
theorem dL_law_162 : decode cL_law 162 = .ok (.iconst 2, 1) := by decide +kernel
theorem dL_law_163 : decode cL_law 163 = .ok (.iadd, 1) := by decide +kernel
theorem dL_law_164 : decode cL_law 164 = .ok (.iaload, 1) := by decide +kernel
theorem dL_law_165 : decode cL_law 165 = .ok (.invokevirtual 50, 3) := by decide +kernel
theorem dL_law_168 : decode cL_law 168 = .ok (.if_icmp .eq 932, 3) := by decide +kernel
theorem dL_law_171 : decode cL_law 171 = .ok (.iconst 0, 1) := by decide +kernel
theorem dL_law_172 : decode cL_law 172 = .ok (.ireturn, 1) := by decide +kernel
theorem dL_law_173 : decode cL_law 173 = .ok (.aload_n 1, 1) := by decide +kernel
theorem dL_law_174 : decode cL_law 174 = .ok (.aload_n 0, 1) := by decide +kernel
theorem dL_law_175 : decode cL_law 175 = .ok (.iload 5, 2) := by decide +kernel
theorem dL_law_177 : decode cL_law 177 = .ok (.iconst 1, 1) := by decide +kernel
theorem dL_law_178 : decode cL_law 178 = .ok (.iadd, 1) := by decide +kernel
theorem dL_law_179 : decode cL_law 179 = .ok (.iaload, 1) := by decide +kernel
theorem dL_law_180 : decode cL_law 180 = .ok (.aload_n 0, 1) := by decide +kernel
theorem dL_law_181 : decode cL_law 181 = .ok (.iload 5, 2) := by decide +kernel
theorem dL_law_183 : decode cL_law 183 = .ok (.iconst 2, 1) := by decide +kernel
theorem dL_law_184 : decode cL_law 184 = .ok (.iadd, 1) := by decide +kernel
theorem dL_law_185 : decode cL_law 185 = .ok (.iaload, 1) := by decide +kernel
theorem dL_law_186 : decode cL_law 186 = .ok (.aload_n 0, 1) := by decide +kernel
theorem dL_law_187 : decode cL_law 187 = .ok (.iload 5, 2) := by decide +kernel
theorem dL_law_189 : decode cL_law 189 = .ok (.iconst 3, 1) := by decide +kernel
theorem dL_law_190 : decode cL_law 190 = .ok (.iadd, 1) := by decide +kernel
theorem dL_law_191 : decode cL_law 191 = .ok (.iaload, 1) := by decide +kernel
theorem dL_law_192 : decode cL_law 192 = .ok (.aload_n 0, 1) := by decide +kernel
theorem dL_law_193 : decode cL_law 193 = .ok (.iload 5, 2) := by decide +kernel
theorem dL_law_195 : decode cL_law 195 = .ok (.iconst 4, 1) := by decide +kernel
theorem dL_law_196 : decode cL_law 196 = .ok (.iadd, 1) := by decide +kernel
theorem dL_law_197 : decode cL_law 197 = .ok (.iaload, 1) := by decide +kernel
theorem dL_law_198 : decode cL_law 198 = .ok (.aload_n 0, 1) := by decide +kernel
theorem dL_law_199 : decode cL_law 199 = .ok (.iload 5, 2) := by decide +kernel
theorem dL_law_201 : decode cL_law 201 = .ok (.iconst 5, 1) := by decide +kernel
theorem dL_law_202 : decode cL_law 202 = .ok (.iadd, 1) := by decide +kernel
theorem dL_law_203 : decode cL_law 203 = .ok (.iaload, 1) := by decide +kernel
theorem dL_law_204 : decode cL_law 204 = .ok (.aload_n 3, 1) := by decide +kernel
theorem dL_law_205 : decode cL_law 205 = .ok (.invokestatic 51, 3) := by decide +kernel
theorem dL_law_208 : decode cL_law 208 = .ok (.istore 6, 2) := by decide +kernel
theorem dL_law_210 : decode cL_law 210 = .ok (.aload_n 2, 1) := by decide +kernel
theorem dL_law_211 : decode cL_law 211 = .ok (.aload_n 0, 1) := by decide +kernel
theorem dL_law_212 : decode cL_law 212 = .ok (.iload 5, 2) := by decide +kernel
theorem dL_law_214 : decode cL_law 214 = .ok (.iconst 1, 1) := by decide +kernel
theorem dL_law_215 : decode cL_law 215 = .ok (.iadd, 1) := by decide +kernel
theorem dL_law_216 : decode cL_law 216 = .ok (.iaload, 1) := by decide +kernel
theorem dL_law_217 : decode cL_law 217 = .ok (.aload_n 0, 1) := by decide +kernel
theorem dL_law_218 : decode cL_law 218 = .ok (.iload 5, 2) := by decide +kernel
theorem dL_law_220 : decode cL_law 220 = .ok (.iconst 2, 1) := by decide +kernel
theorem dL_law_221 : decode cL_law 221 = .ok (.iadd, 1) := by decide +kernel
theorem dL_law_222 : decode cL_law 222 = .ok (.iaload, 1) := by decide +kernel
theorem dL_law_223 : decode cL_law 223 = .ok (.aload_n 0, 1) := by decide +kernel
theorem dL_law_224 : decode cL_law 224 = .ok (.iload 5, 2) := by decide +kernel
theorem dL_law_226 : decode cL_law 226 = .ok (.iconst 3, 1) := by decide +kernel
theorem dL_law_227 : decode cL_law 227 = .ok (.iadd, 1) := by decide +kernel
theorem dL_law_228 : decode cL_law 228 = .ok (.iaload, 1) := by decide +kernel
theorem dL_law_229 : decode cL_law 229 = .ok (.aload_n 0, 1) := by decide +kernel
theorem dL_law_230 : decode cL_law 230 = .ok (.iload 5, 2) := by decide +kernel
theorem dL_law_232 : decode cL_law 232 = .ok (.iconst 4, 1) := by decide +kernel
theorem dL_law_233 : decode cL_law 233 = .ok (.iadd, 1) := by decide +kernel
theorem dL_law_234 : decode cL_law 234 = .ok (.iaload, 1) := by decide +kernel
theorem dL_law_235 : decode cL_law 235 = .ok (.aload_n 0, 1) := by decide +kernel
theorem dL_law_236 : decode cL_law 236 = .ok (.iload 5, 2) := by decide +kernel
theorem dL_law_238 : decode cL_law 238 = .ok (.iconst 5, 1) := by decide +kernel
theorem dL_law_239 : decode cL_law 239 = .ok (.iadd, 1) := by decide +kernel
theorem dL_law_240 : decode cL_law 240 = .ok (.iaload, 1) := by decide +kernel
theorem dL_law_241 : decode cL_law 241 = .ok (.invokevirtual 56, 3) := by decide +kernel
theorem dL_law_244 : decode cL_law 244 = .ok (.istore 7, 2) := by decide +kernel
theorem dL_law_246 : decode cL_law 246 = .ok (.aload_n 2, 1) := by decide +kernel
theorem dL_law_247 : decode cL_law 247 = .ok (.invokevirtual 57, 3) := by decide +kernel
theorem dL_law_250 : decode cL_law 250 = .ok (.iload 6, 2) := by decide +kernel
theorem dL_law_252 : decode cL_law 252 = .ok (.if_icmp .eq 5, 3) := by decide +kernel
theorem dL_law_255 : decode cL_law 255 = .ok (.iconst 0, 1) := by decide +kernel
theorem dL_law_256 : decode cL_law 256 = .ok (.ireturn, 1) := by decide +kernel
theorem dL_law_257 : decode cL_law 257 = .ok (.iload 6, 2) := by decide +kernel
theorem dL_law_259 : decode cL_law 259 = .ok (.ifCond .ne 15, 3) := by decide +kernel
theorem dL_law_262 : decode cL_law 262 = .ok (.aload_n 3, 1) := by decide +kernel
theorem dL_law_263 : decode cL_law 263 = .ok (.iconst 0, 1) := by decide +kernel
theorem dL_law_264 : decode cL_law 264 = .ok (.laload, 1) := by decide +kernel
theorem dL_law_265 : decode cL_law 265 = .ok (.iload 7, 2) := by decide +kernel
theorem dL_law_267 : decode cL_law 267 = .ok (.i2l, 1) := by decide +kernel
theorem dL_law_268 : decode cL_law 268 = .ok (.lcmp, 1) := by decide +kernel
theorem dL_law_269 : decode cL_law 269 = .ok (.ifCond .eq 5, 3) := by decide +kernel
theorem dL_law_272 : decode cL_law 272 = .ok (.iconst 0, 1) := by decide +kernel
theorem dL_law_273 : decode cL_law 273 = .ok (.ireturn, 1) := by decide +kernel
theorem dL_law_274 : decode cL_law 274 = .ok (.goto 826, 3) := by decide +kernel
theorem dL_law_277 : decode cL_law 277 = .ok (.aload_n 1, 1) := by decide +kernel
theorem dL_law_278 : decode cL_law 278 = .ok (.aload_n 0, 1) := by decide +kernel
theorem dL_law_279 : decode cL_law 279 = .ok (.iload 5, 2) := by decide +kernel
theorem dL_law_281 : decode cL_law 281 = .ok (.iconst 1, 1) := by decide +kernel
theorem dL_law_282 : decode cL_law 282 = .ok (.iadd, 1) := by decide +kernel
theorem dL_law_283 : decode cL_law 283 = .ok (.iaload, 1) := by decide +kernel
theorem dL_law_284 : decode cL_law 284 = .ok (.aload_n 0, 1) := by decide +kernel
theorem dL_law_285 : decode cL_law 285 = .ok (.iload 5, 2) := by decide +kernel
theorem dL_law_287 : decode cL_law 287 = .ok (.iconst 2, 1) := by decide +kernel
theorem dL_law_288 : decode cL_law 288 = .ok (.iadd, 1) := by decide +kernel
theorem dL_law_289 : decode cL_law 289 = .ok (.iaload, 1) := by decide +kernel
theorem dL_law_290 : decode cL_law 290 = .ok (.invokestatic 61, 3) := by decide +kernel
theorem dL_law_293 : decode cL_law 293 = .ok (.istore 6, 2) := by decide +kernel
theorem dL_law_295 : decode cL_law 295 = .ok (.aload_n 2, 1) := by decide +kernel
theorem dL_law_296 : decode cL_law 296 = .ok (.aload_n 0, 1) := by decide +kernel
theorem dL_law_297 : decode cL_law 297 = .ok (.iload 5, 2) := by decide +kernel
theorem dL_law_299 : decode cL_law 299 = .ok (.iconst 1, 1) := by decide +kernel
theorem dL_law_300 : decode cL_law 300 = .ok (.iadd, 1) := by decide +kernel
theorem dL_law_301 : decode cL_law 301 = .ok (.iaload, 1) := by decide +kernel
theorem dL_law_302 : decode cL_law 302 = .ok (.aload_n 0, 1) := by decide +kernel
theorem dL_law_303 : decode cL_law 303 = .ok (.iload 5, 2) := by decide +kernel
theorem dL_law_305 : decode cL_law 305 = .ok (.iconst 2, 1) := by decide +kernel
theorem dL_law_306 : decode cL_law 306 = .ok (.iadd, 1) := by decide +kernel
theorem dL_law_307 : decode cL_law 307 = .ok (.iaload, 1) := by decide +kernel
theorem dL_law_308 : decode cL_law 308 = .ok (.invokevirtual 64, 3) := by decide +kernel
theorem dL_law_311 : decode cL_law 311 = .ok (.aload_n 2, 1) := by decide +kernel
theorem dL_law_312 : decode cL_law 312 = .ok (.invokevirtual 57, 3) := by decide +kernel
theorem dL_law_315 : decode cL_law 315 = .ok (.iload 6, 2) := by decide +kernel
theorem dL_law_317 : decode cL_law 317 = .ok (.if_icmp .eq 5, 3) := by decide +kernel
theorem dL_law_320 : decode cL_law 320 = .ok (.iconst 0, 1) := by decide +kernel
theorem dL_law_321 : decode cL_law 321 = .ok (.ireturn, 1) := by decide +kernel
theorem dL_law_322 : decode cL_law 322 = .ok (.goto 778, 3) := by decide +kernel
theorem dL_law_325 : decode cL_law 325 = .ok (.aload_n 1, 1) := by decide +kernel
theorem dL_law_326 : decode cL_law 326 = .ok (.aload_n 0, 1) := by decide +kernel
theorem dL_law_327 : decode cL_law 327 = .ok (.iload 5, 2) := by decide +kernel
theorem dL_law_329 : decode cL_law 329 = .ok (.iconst 1, 1) := by decide +kernel
theorem dL_law_330 : decode cL_law 330 = .ok (.iadd, 1) := by decide +kernel
theorem dL_law_331 : decode cL_law 331 = .ok (.iaload, 1) := by decide +kernel
theorem dL_law_332 : decode cL_law 332 = .ok (.aload_n 0, 1) := by decide +kernel
theorem dL_law_333 : decode cL_law 333 = .ok (.iload 5, 2) := by decide +kernel
theorem dL_law_335 : decode cL_law 335 = .ok (.iconst 2, 1) := by decide +kernel
theorem dL_law_336 : decode cL_law 336 = .ok (.iadd, 1) := by decide +kernel
theorem dL_law_337 : decode cL_law 337 = .ok (.iaload, 1) := by decide +kernel
theorem dL_law_338 : decode cL_law 338 = .ok (.aload_n 0, 1) := by decide +kernel
theorem dL_law_339 : decode cL_law 339 = .ok (.iload 5, 2) := by decide +kernel
theorem dL_law_341 : decode cL_law 341 = .ok (.iconst 3, 1) := by decide +kernel
theorem dL_law_342 : decode cL_law 342 = .ok (.iadd, 1) := by decide +kernel
theorem dL_law_343 : decode cL_law 343 = .ok (.iaload, 1) := by decide +kernel
theorem dL_law_344 : decode cL_law 344 = .ok (.aload_n 0, 1) := by decide +kernel
theorem dL_law_345 : decode cL_law 345 = .ok (.iload 5, 2) := by decide +kernel
theorem dL_law_347 : decode cL_law 347 = .ok (.iconst 4, 1) := by decide +kernel
theorem dL_law_348 : decode cL_law 348 = .ok (.iadd, 1) := by decide +kernel
theorem dL_law_349 : decode cL_law 349 = .ok (.iaload, 1) := by decide +kernel
theorem dL_law_350 : decode cL_law 350 = .ok (.invokestatic 65, 3) := by decide +kernel
theorem dL_law_353 : decode cL_law 353 = .ok (.istore 6, 2) := by decide +kernel
theorem dL_law_355 : decode cL_law 355 = .ok (.aload_n 2, 1) := by decide +kernel
theorem dL_law_356 : decode cL_law 356 = .ok (.aload_n 0, 1) := by decide +kernel
theorem dL_law_357 : decode cL_law 357 = .ok (.iload 5, 2) := by decide +kernel
theorem dL_law_359 : decode cL_law 359 = .ok (.iconst 1, 1) := by decide +kernel
theorem dL_law_360 : decode cL_law 360 = .ok (.iadd, 1) := by decide +kernel
theorem dL_law_361 : decode cL_law 361 = .ok (.iaload, 1) := by decide +kernel
theorem dL_law_362 : decode cL_law 362 = .ok (.aload_n 0, 1) := by decide +kernel
theorem dL_law_363 : decode cL_law 363 = .ok (.iload 5, 2) := by decide +kernel
theorem dL_law_365 : decode cL_law 365 = .ok (.iconst 2, 1) := by decide +kernel
theorem dL_law_366 : decode cL_law 366 = .ok (.iadd, 1) := by decide +kernel
theorem dL_law_367 : decode cL_law 367 = .ok (.iaload, 1) := by decide +kernel
theorem dL_law_368 : decode cL_law 368 = .ok (.aload_n 0, 1) := by decide +kernel
theorem dL_law_369 : decode cL_law 369 = .ok (.iload 5, 2) := by decide +kernel
theorem dL_law_371 : decode cL_law 371 = .ok (.iconst 3, 1) := by decide +kernel
theorem dL_law_372 : decode cL_law 372 = .ok (.iadd, 1) := by decide +kernel
theorem dL_law_373 : decode cL_law 373 = .ok (.iaload, 1) := by decide +kernel
theorem dL_law_374 : decode cL_law 374 = .ok (.aload_n 0, 1) := by decide +kernel
theorem dL_law_375 : decode cL_law 375 = .ok (.iload 5, 2) := by decide +kernel
theorem dL_law_377 : decode cL_law 377 = .ok (.iconst 4, 1) := by decide +kernel
theorem dL_law_378 : decode cL_law 378 = .ok (.iadd, 1) := by decide +kernel
theorem dL_law_379 : decode cL_law 379 = .ok (.iaload, 1) := by decide +kernel
theorem dL_law_380 : decode cL_law 380 = .ok (.invokevirtual 68, 3) := by decide +kernel
theorem dL_law_383 : decode cL_law 383 = .ok (.aload_n 2, 1) := by decide +kernel
theorem dL_law_384 : decode cL_law 384 = .ok (.invokevirtual 57, 3) := by decide +kernel
theorem dL_law_387 : decode cL_law 387 = .ok (.iload 6, 2) := by decide +kernel
theorem dL_law_389 : decode cL_law 389 = .ok (.if_icmp .eq 5, 3) := by decide +kernel
theorem dL_law_392 : decode cL_law 392 = .ok (.iconst 0, 1) := by decide +kernel
theorem dL_law_393 : decode cL_law 393 = .ok (.ireturn, 1) := by decide +kernel
theorem dL_law_394 : decode cL_law 394 = .ok (.goto 706, 3) := by decide +kernel
theorem dL_law_397 : decode cL_law 397 = .ok (.aload_n 1, 1) := by decide +kernel
theorem dL_law_398 : decode cL_law 398 = .ok (.aload_n 0, 1) := by decide +kernel
theorem dL_law_399 : decode cL_law 399 = .ok (.iload 5, 2) := by decide +kernel
theorem dL_law_401 : decode cL_law 401 = .ok (.iconst 1, 1) := by decide +kernel
theorem dL_law_402 : decode cL_law 402 = .ok (.iadd, 1) := by decide +kernel
theorem dL_law_403 : decode cL_law 403 = .ok (.iaload, 1) := by decide +kernel
theorem dL_law_404 : decode cL_law 404 = .ok (.aload_n 0, 1) := by decide +kernel
theorem dL_law_405 : decode cL_law 405 = .ok (.iload 5, 2) := by decide +kernel
theorem dL_law_407 : decode cL_law 407 = .ok (.iconst 2, 1) := by decide +kernel
theorem dL_law_408 : decode cL_law 408 = .ok (.iadd, 1) := by decide +kernel
theorem dL_law_409 : decode cL_law 409 = .ok (.iaload, 1) := by decide +kernel
theorem dL_law_410 : decode cL_law 410 = .ok (.aload_n 0, 1) := by decide +kernel
theorem dL_law_411 : decode cL_law 411 = .ok (.iload 5, 2) := by decide +kernel
theorem dL_law_413 : decode cL_law 413 = .ok (.iconst 3, 1) := by decide +kernel
theorem dL_law_414 : decode cL_law 414 = .ok (.iadd, 1) := by decide +kernel
theorem dL_law_415 : decode cL_law 415 = .ok (.iaload, 1) := by decide +kernel
theorem dL_law_416 : decode cL_law 416 = .ok (.aload_n 3, 1) := by decide +kernel
theorem dL_law_417 : decode cL_law 417 = .ok (.invokestatic 69, 3) := by decide +kernel
theorem dL_law_420 : decode cL_law 420 = .ok (.istore 6, 2) := by decide +kernel
theorem dL_law_422 : decode cL_law 422 = .ok (.aload_n 2, 1) := by decide +kernel
theorem dL_law_423 : decode cL_law 423 = .ok (.aload_n 0, 1) := by decide +kernel
theorem dL_law_424 : decode cL_law 424 = .ok (.iload 5, 2) := by decide +kernel
theorem dL_law_426 : decode cL_law 426 = .ok (.iconst 1, 1) := by decide +kernel
theorem dL_law_427 : decode cL_law 427 = .ok (.iadd, 1) := by decide +kernel
theorem dL_law_428 : decode cL_law 428 = .ok (.iaload, 1) := by decide +kernel
theorem dL_law_429 : decode cL_law 429 = .ok (.aload_n 0, 1) := by decide +kernel
theorem dL_law_430 : decode cL_law 430 = .ok (.iload 5, 2) := by decide +kernel
theorem dL_law_432 : decode cL_law 432 = .ok (.iconst 2, 1) := by decide +kernel
theorem dL_law_433 : decode cL_law 433 = .ok (.iadd, 1) := by decide +kernel
theorem dL_law_434 : decode cL_law 434 = .ok (.iaload, 1) := by decide +kernel
theorem dL_law_435 : decode cL_law 435 = .ok (.aload_n 0, 1) := by decide +kernel
theorem dL_law_436 : decode cL_law 436 = .ok (.iload 5, 2) := by decide +kernel
theorem dL_law_438 : decode cL_law 438 = .ok (.iconst 3, 1) := by decide +kernel
theorem dL_law_439 : decode cL_law 439 = .ok (.iadd, 1) := by decide +kernel
theorem dL_law_440 : decode cL_law 440 = .ok (.iaload, 1) := by decide +kernel
theorem dL_law_441 : decode cL_law 441 = .ok (.invokevirtual 72, 3) := by decide +kernel
theorem dL_law_444 : decode cL_law 444 = .ok (.istore 7, 2) := by decide +kernel
theorem dL_law_446 : decode cL_law 446 = .ok (.aload_n 2, 1) := by decide +kernel
theorem dL_law_447 : decode cL_law 447 = .ok (.invokevirtual 57, 3) := by decide +kernel
theorem dL_law_450 : decode cL_law 450 = .ok (.iload 6, 2) := by decide +kernel
theorem dL_law_452 : decode cL_law 452 = .ok (.if_icmp .eq 5, 3) := by decide +kernel
theorem dL_law_455 : decode cL_law 455 = .ok (.iconst 0, 1) := by decide +kernel
theorem dL_law_456 : decode cL_law 456 = .ok (.ireturn, 1) := by decide +kernel
theorem dL_law_457 : decode cL_law 457 = .ok (.iload 6, 2) := by decide +kernel
theorem dL_law_459 : decode cL_law 459 = .ok (.ifCond .ne 15, 3) := by decide +kernel
theorem dL_law_462 : decode cL_law 462 = .ok (.aload_n 3, 1) := by decide +kernel
theorem dL_law_463 : decode cL_law 463 = .ok (.iconst 0, 1) := by decide +kernel
theorem dL_law_464 : decode cL_law 464 = .ok (.laload, 1) := by decide +kernel
theorem dL_law_465 : decode cL_law 465 = .ok (.iload 7, 2) := by decide +kernel
theorem dL_law_467 : decode cL_law 467 = .ok (.i2l, 1) := by decide +kernel
theorem dL_law_468 : decode cL_law 468 = .ok (.lcmp, 1) := by decide +kernel
theorem dL_law_469 : decode cL_law 469 = .ok (.ifCond .eq 5, 3) := by decide +kernel
theorem dL_law_472 : decode cL_law 472 = .ok (.iconst 0, 1) := by decide +kernel
theorem dL_law_473 : decode cL_law 473 = .ok (.ireturn, 1) := by decide +kernel
theorem dL_law_474 : decode cL_law 474 = .ok (.goto 626, 3) := by decide +kernel
theorem dL_law_477 : decode cL_law 477 = .ok (.aload_n 1, 1) := by decide +kernel
theorem dL_law_478 : decode cL_law 478 = .ok (.aload_n 0, 1) := by decide +kernel
theorem dL_law_479 : decode cL_law 479 = .ok (.iload 5, 2) := by decide +kernel
theorem dL_law_481 : decode cL_law 481 = .ok (.iconst 1, 1) := by decide +kernel
theorem dL_law_482 : decode cL_law 482 = .ok (.iadd, 1) := by decide +kernel
theorem dL_law_483 : decode cL_law 483 = .ok (.iaload, 1) := by decide +kernel
theorem dL_law_484 : decode cL_law 484 = .ok (.aload_n 0, 1) := by decide +kernel
theorem dL_law_485 : decode cL_law 485 = .ok (.iload 5, 2) := by decide +kernel
theorem dL_law_487 : decode cL_law 487 = .ok (.iconst 2, 1) := by decide +kernel
theorem dL_law_488 : decode cL_law 488 = .ok (.iadd, 1) := by decide +kernel
theorem dL_law_489 : decode cL_law 489 = .ok (.iaload, 1) := by decide +kernel
theorem dL_law_490 : decode cL_law 490 = .ok (.aload_n 0, 1) := by decide +kernel
theorem dL_law_491 : decode cL_law 491 = .ok (.iload 5, 2) := by decide +kernel
theorem dL_law_493 : decode cL_law 493 = .ok (.iconst 3, 1) := by decide +kernel
theorem dL_law_494 : decode cL_law 494 = .ok (.iadd, 1) := by decide +kernel
theorem dL_law_495 : decode cL_law 495 = .ok (.iaload, 1) := by decide +kernel
theorem dL_law_496 : decode cL_law 496 = .ok (.invokevirtual 73, 3) := by decide +kernel
theorem dL_law_499 : decode cL_law 499 = .ok (.aload_n 2, 1) := by decide +kernel
theorem dL_law_500 : decode cL_law 500 = .ok (.aload_n 0, 1) := by decide +kernel
theorem dL_law_501 : decode cL_law 501 = .ok (.iload 5, 2) := by decide +kernel
theorem dL_law_503 : decode cL_law 503 = .ok (.iconst 1, 1) := by decide +kernel
theorem dL_law_504 : decode cL_law 504 = .ok (.iadd, 1) := by decide +kernel
theorem dL_law_505 : decode cL_law 505 = .ok (.iaload, 1) := by decide +kernel
theorem dL_law_506 : decode cL_law 506 = .ok (.aload_n 0, 1) := by decide +kernel
theorem dL_law_507 : decode cL_law 507 = .ok (.iload 5, 2) := by decide +kernel
theorem dL_law_509 : decode cL_law 509 = .ok (.iconst 2, 1) := by decide +kernel
theorem dL_law_510 : decode cL_law 510 = .ok (.iadd, 1) := by decide +kernel
theorem dL_law_511 : decode cL_law 511 = .ok (.iaload, 1) := by decide +kernel
theorem dL_law_512 : decode cL_law 512 = .ok (.aload_n 0, 1) := by decide +kernel
theorem dL_law_513 : decode cL_law 513 = .ok (.iload 5, 2) := by decide +kernel
theorem dL_law_515 : decode cL_law 515 = .ok (.iconst 3, 1) := by decide +kernel
theorem dL_law_516 : decode cL_law 516 = .ok (.iadd, 1) := by decide +kernel
theorem dL_law_517 : decode cL_law 517 = .ok (.iaload, 1) := by decide +kernel
theorem dL_law_518 : decode cL_law 518 = .ok (.invokevirtual 77, 3) := by decide +kernel
theorem dL_law_521 : decode cL_law 521 = .ok (.if_icmp .eq 579, 3) := by decide +kernel
theorem dL_law_524 : decode cL_law 524 = .ok (.iconst 0, 1) := by decide +kernel
theorem dL_law_525 : decode cL_law 525 = .ok (.ireturn, 1) := by decide +kernel
theorem dL_law_526 : decode cL_law 526 = .ok (.aload_n 1, 1) := by decide +kernel
theorem dL_law_527 : decode cL_law 527 = .ok (.aload_n 0, 1) := by decide +kernel
theorem dL_law_528 : decode cL_law 528 = .ok (.iload 5, 2) := by decide +kernel
theorem dL_law_530 : decode cL_law 530 = .ok (.iconst 1, 1) := by decide +kernel
theorem dL_law_531 : decode cL_law 531 = .ok (.iadd, 1) := by decide +kernel
theorem dL_law_532 : decode cL_law 532 = .ok (.iaload, 1) := by decide +kernel
theorem dL_law_533 : decode cL_law 533 = .ok (.aload_n 0, 1) := by decide +kernel
theorem dL_law_534 : decode cL_law 534 = .ok (.iload 5, 2) := by decide +kernel
theorem dL_law_536 : decode cL_law 536 = .ok (.iconst 2, 1) := by decide +kernel
theorem dL_law_537 : decode cL_law 537 = .ok (.iadd, 1) := by decide +kernel
theorem dL_law_538 : decode cL_law 538 = .ok (.iaload, 1) := by decide +kernel
theorem dL_law_539 : decode cL_law 539 = .ok (.aload_n 0, 1) := by decide +kernel
theorem dL_law_540 : decode cL_law 540 = .ok (.iload 5, 2) := by decide +kernel
theorem dL_law_542 : decode cL_law 542 = .ok (.iconst 3, 1) := by decide +kernel
theorem dL_law_543 : decode cL_law 543 = .ok (.iadd, 1) := by decide +kernel
theorem dL_law_544 : decode cL_law 544 = .ok (.iaload, 1) := by decide +kernel
theorem dL_law_545 : decode cL_law 545 = .ok (.invokevirtual 78, 3) := by decide +kernel
theorem dL_law_548 : decode cL_law 548 = .ok (.aload_n 2, 1) := by decide +kernel
theorem dL_law_549 : decode cL_law 549 = .ok (.aload_n 0, 1) := by decide +kernel
theorem dL_law_550 : decode cL_law 550 = .ok (.iload 5, 2) := by decide +kernel
theorem dL_law_552 : decode cL_law 552 = .ok (.iconst 1, 1) := by decide +kernel
theorem dL_law_553 : decode cL_law 553 = .ok (.iadd, 1) := by decide +kernel
theorem dL_law_554 : decode cL_law 554 = .ok (.iaload, 1) := by decide +kernel
theorem dL_law_555 : decode cL_law 555 = .ok (.aload_n 0, 1) := by decide +kernel
theorem dL_law_556 : decode cL_law 556 = .ok (.iload 5, 2) := by decide +kernel
theorem dL_law_558 : decode cL_law 558 = .ok (.iconst 2, 1) := by decide +kernel
theorem dL_law_559 : decode cL_law 559 = .ok (.iadd, 1) := by decide +kernel
theorem dL_law_560 : decode cL_law 560 = .ok (.iaload, 1) := by decide +kernel
theorem dL_law_561 : decode cL_law 561 = .ok (.aload_n 0, 1) := by decide +kernel
theorem dL_law_562 : decode cL_law 562 = .ok (.iload 5, 2) := by decide +kernel
theorem dL_law_564 : decode cL_law 564 = .ok (.iconst 3, 1) := by decide +kernel
theorem dL_law_565 : decode cL_law 565 = .ok (.iadd, 1) := by decide +kernel
theorem dL_law_566 : decode cL_law 566 = .ok (.iaload, 1) := by decide +kernel
theorem dL_law_567 : decode cL_law 567 = .ok (.invokevirtual 81, 3) := by decide +kernel
theorem dL_law_570 : decode cL_law 570 = .ok (.if_icmp .eq 530, 3) := by decide +kernel
theorem dL_law_573 : decode cL_law 573 = .ok (.iconst 0, 1) := by decide +kernel
theorem dL_law_574 : decode cL_law 574 = .ok (.ireturn, 1) := by decide +kernel
theorem dL_law_575 : decode cL_law 575 = .ok (.aload_n 1, 1) := by decide +kernel
theorem dL_law_576 : decode cL_law 576 = .ok (.invokevirtual 82, 3) := by decide +kernel
theorem dL_law_579 : decode cL_law 579 = .ok (.aload_n 2, 1) := by decide +kernel
theorem dL_law_580 : decode cL_law 580 = .ok (.invokevirtual 85, 3) := by decide +kernel
theorem dL_law_583 : decode cL_law 583 = .ok (.goto 517, 3) := by decide +kernel
theorem dL_law_586 : decode cL_law 586 = .ok (.aload_n 1, 1) := by decide +kernel
theorem dL_law_587 : decode cL_law 587 = .ok (.aload_n 0, 1) := by decide +kernel
theorem dL_law_588 : decode cL_law 588 = .ok (.iload 5, 2) := by decide +kernel
theorem dL_law_590 : decode cL_law 590 = .ok (.iconst 1, 1) := by decide +kernel
theorem dL_law_591 : decode cL_law 591 = .ok (.iadd, 1) := by decide +kernel
theorem dL_law_592 : decode cL_law 592 = .ok (.iaload, 1) := by decide +kernel
theorem dL_law_593 : decode cL_law 593 = .ok (.invokevirtual 86, 3) := by decide +kernel
theorem dL_law_596 : decode cL_law 596 = .ok (.aload_n 2, 1) := by decide +kernel
theorem dL_law_597 : decode cL_law 597 = .ok (.aload_n 0, 1) := by decide +kernel
theorem dL_law_598 : decode cL_law 598 = .ok (.iload 5, 2) := by decide +kernel
theorem dL_law_600 : decode cL_law 600 = .ok (.iconst 1, 1) := by decide +kernel
theorem dL_law_601 : decode cL_law 601 = .ok (.iadd, 1) := by decide +kernel
theorem dL_law_602 : decode cL_law 602 = .ok (.iaload, 1) := by decide +kernel
theorem dL_law_603 : decode cL_law 603 = .ok (.invokevirtual 90, 3) := by decide +kernel
theorem dL_law_606 : decode cL_law 606 = .ok (.if_icmp .eq 494, 3) := by decide +kernel
theorem dL_law_609 : decode cL_law 609 = .ok (.iconst 0, 1) := by decide +kernel
theorem dL_law_610 : decode cL_law 610 = .ok (.ireturn, 1) := by decide +kernel
theorem dL_law_611 : decode cL_law 611 = .ok (.aload_n 1, 1) := by decide +kernel
theorem dL_law_612 : decode cL_law 612 = .ok (.aload_n 0, 1) := by decide +kernel
theorem dL_law_613 : decode cL_law 613 = .ok (.iload 5, 2) := by decide +kernel
theorem dL_law_615 : decode cL_law 615 = .ok (.iconst 1, 1) := by decide +kernel
theorem dL_law_616 : decode cL_law 616 = .ok (.iadd, 1) := by decide +kernel
theorem dL_law_617 : decode cL_law 617 = .ok (.iaload, 1) := by decide +kernel
theorem dL_law_618 : decode cL_law 618 = .ok (.aload_n 0, 1) := by decide +kernel
theorem dL_law_619 : decode cL_law 619 = .ok (.iload 5, 2) := by decide +kernel
theorem dL_law_621 : decode cL_law 621 = .ok (.iconst 2, 1) := by decide +kernel
theorem dL_law_622 : decode cL_law 622 = .ok (.iadd, 1) := by decide +kernel
theorem dL_law_623 : decode cL_law 623 = .ok (.iaload, 1) := by decide +kernel
theorem dL_law_624 : decode cL_law 624 = .ok (.aload_n 0, 1) := by decide +kernel
theorem dL_law_625 : decode cL_law 625 = .ok (.iload 5, 2) := by decide +kernel
theorem dL_law_627 : decode cL_law 627 = .ok (.iconst 3, 1) := by decide +kernel
theorem dL_law_628 : decode cL_law 628 = .ok (.iadd, 1) := by decide +kernel
theorem dL_law_629 : decode cL_law 629 = .ok (.iaload, 1) := by decide +kernel
theorem dL_law_630 : decode cL_law 630 = .ok (.aload_n 0, 1) := by decide +kernel
theorem dL_law_631 : decode cL_law 631 = .ok (.iload 5, 2) := by decide +kernel
theorem dL_law_633 : decode cL_law 633 = .ok (.iconst 4, 1) := by decide +kernel
theorem dL_law_634 : decode cL_law 634 = .ok (.iadd, 1) := by decide +kernel
theorem dL_law_635 : decode cL_law 635 = .ok (.iaload, 1) := by decide +kernel
theorem dL_law_636 : decode cL_law 636 = .ok (.invokevirtual 91, 3) := by decide +kernel
theorem dL_law_639 : decode cL_law 639 = .ok (.aload_n 2, 1) := by decide +kernel
theorem dL_law_640 : decode cL_law 640 = .ok (.aload_n 0, 1) := by decide +kernel
theorem dL_law_641 : decode cL_law 641 = .ok (.iload 5, 2) := by decide +kernel
theorem dL_law_643 : decode cL_law 643 = .ok (.iconst 1, 1) := by decide +kernel
theorem dL_law_644 : decode cL_law 644 = .ok (.iadd, 1) := by decide +kernel
theorem dL_law_645 : decode cL_law 645 = .ok (.iaload, 1) := by decide +kernel
theorem dL_law_646 : decode cL_law 646 = .ok (.aload_n 0, 1) := by decide +kernel
theorem dL_law_647 : decode cL_law 647 = .ok (.iload 5, 2) := by decide +kernel
theorem dL_law_649 : decode cL_law 649 = .ok (.iconst 2, 1) := by decide +kernel
theorem dL_law_650 : decode cL_law 650 = .ok (.iadd, 1) := by decide +kernel
theorem dL_law_651 : decode cL_law 651 = .ok (.iaload, 1) := by decide +kernel
theorem dL_law_652 : decode cL_law 652 = .ok (.aload_n 0, 1) := by decide +kernel
theorem dL_law_653 : decode cL_law 653 = .ok (.iload 5, 2) := by decide +kernel
theorem dL_law_655 : decode cL_law 655 = .ok (.iconst 3, 1) := by decide +kernel
theorem dL_law_656 : decode cL_law 656 = .ok (.iadd, 1) := by decide +kernel
theorem dL_law_657 : decode cL_law 657 = .ok (.iaload, 1) := by decide +kernel
theorem dL_law_658 : decode cL_law 658 = .ok (.aload_n 0, 1) := by decide +kernel
theorem dL_law_659 : decode cL_law 659 = .ok (.iload 5, 2) := by decide +kernel
theorem dL_law_661 : decode cL_law 661 = .ok (.iconst 4, 1) := by decide +kernel
theorem dL_law_662 : decode cL_law 662 = .ok (.iadd, 1) := by decide +kernel
theorem dL_law_663 : decode cL_law 663 = .ok (.iaload, 1) := by decide +kernel
theorem dL_law_664 : decode cL_law 664 = .ok (.invokevirtual 95, 3) := by decide +kernel
theorem dL_law_667 : decode cL_law 667 = .ok (.if_icmp .eq 433, 3) := by decide +kernel
theorem dL_law_670 : decode cL_law 670 = .ok (.iconst 0, 1) := by decide +kernel
theorem dL_law_671 : decode cL_law 671 = .ok (.ireturn, 1) := by decide +kernel
theorem dL_law_672 : decode cL_law 672 = .ok (.aload_n 1, 1) := by decide +kernel
theorem dL_law_673 : decode cL_law 673 = .ok (.aload_n 0, 1) := by decide +kernel
theorem dL_law_674 : decode cL_law 674 = .ok (.iload 5, 2) := by decide +kernel
theorem dL_law_676 : decode cL_law 676 = .ok (.iconst 1, 1) := by decide +kernel
theorem dL_law_677 : decode cL_law 677 = .ok (.iadd, 1) := by decide +kernel
theorem dL_law_678 : decode cL_law 678 = .ok (.iaload, 1) := by decide +kernel
theorem dL_law_679 : decode cL_law 679 = .ok (.aload_n 0, 1) := by decide +kernel
theorem dL_law_680 : decode cL_law 680 = .ok (.iload 5, 2) := by decide +kernel
theorem dL_law_682 : decode cL_law 682 = .ok (.iconst 2, 1) := by decide +kernel
theorem dL_law_683 : decode cL_law 683 = .ok (.iadd, 1) := by decide +kernel
theorem dL_law_684 : decode cL_law 684 = .ok (.iaload, 1) := by decide +kernel
theorem dL_law_685 : decode cL_law 685 = .ok (.aload_n 0, 1) := by decide +kernel
theorem dL_law_686 : decode cL_law 686 = .ok (.iload 5, 2) := by decide +kernel
theorem dL_law_688 : decode cL_law 688 = .ok (.iconst 3, 1) := by decide +kernel
theorem dL_law_689 : decode cL_law 689 = .ok (.iadd, 1) := by decide +kernel
theorem dL_law_690 : decode cL_law 690 = .ok (.iaload, 1) := by decide +kernel
theorem dL_law_691 : decode cL_law 691 = .ok (.aload_n 0, 1) := by decide +kernel
theorem dL_law_692 : decode cL_law 692 = .ok (.iload 5, 2) := by decide +kernel
theorem dL_law_694 : decode cL_law 694 = .ok (.iconst 4, 1) := by decide +kernel
theorem dL_law_695 : decode cL_law 695 = .ok (.iadd, 1) := by decide +kernel
theorem dL_law_696 : decode cL_law 696 = .ok (.iaload, 1) := by decide +kernel
theorem dL_law_697 : decode cL_law 697 = .ok (.invokevirtual 96, 3) := by decide +kernel
theorem dL_law_700 : decode cL_law 700 = .ok (.aload_n 2, 1) := by decide +kernel
theorem dL_law_701 : decode cL_law 701 = .ok (.aload_n 0, 1) := by decide +kernel
theorem dL_law_702 : decode cL_law 702 = .ok (.iload 5, 2) := by decide +kernel
theorem dL_law_704 : decode cL_law 704 = .ok (.iconst 1, 1) := by decide +kernel
theorem dL_law_705 : decode cL_law 705 = .ok (.iadd, 1) := by decide +kernel
theorem dL_law_706 : decode cL_law 706 = .ok (.iaload, 1) := by decide +kernel
theorem dL_law_707 : decode cL_law 707 = .ok (.aload_n 0, 1) := by decide +kernel
theorem dL_law_708 : decode cL_law 708 = .ok (.iload 5, 2) := by decide +kernel
theorem dL_law_710 : decode cL_law 710 = .ok (.iconst 2, 1) := by decide +kernel
theorem dL_law_711 : decode cL_law 711 = .ok (.iadd, 1) := by decide +kernel
theorem dL_law_712 : decode cL_law 712 = .ok (.iaload, 1) := by decide +kernel
theorem dL_law_713 : decode cL_law 713 = .ok (.aload_n 0, 1) := by decide +kernel
theorem dL_law_714 : decode cL_law 714 = .ok (.iload 5, 2) := by decide +kernel
theorem dL_law_716 : decode cL_law 716 = .ok (.iconst 3, 1) := by decide +kernel
theorem dL_law_717 : decode cL_law 717 = .ok (.iadd, 1) := by decide +kernel
theorem dL_law_718 : decode cL_law 718 = .ok (.iaload, 1) := by decide +kernel
theorem dL_law_719 : decode cL_law 719 = .ok (.aload_n 0, 1) := by decide +kernel
theorem dL_law_720 : decode cL_law 720 = .ok (.iload 5, 2) := by decide +kernel
theorem dL_law_722 : decode cL_law 722 = .ok (.iconst 4, 1) := by decide +kernel
theorem dL_law_723 : decode cL_law 723 = .ok (.iadd, 1) := by decide +kernel
theorem dL_law_724 : decode cL_law 724 = .ok (.iaload, 1) := by decide +kernel
theorem dL_law_725 : decode cL_law 725 = .ok (.invokevirtual 99, 3) := by decide +kernel
theorem dL_law_728 : decode cL_law 728 = .ok (.if_icmp .eq 372, 3) := by decide +kernel
theorem dL_law_731 : decode cL_law 731 = .ok (.iconst 0, 1) := by decide +kernel
theorem dL_law_732 : decode cL_law 732 = .ok (.ireturn, 1) := by decide +kernel
theorem dL_law_733 : decode cL_law 733 = .ok (.aload_n 1, 1) := by decide +kernel
theorem dL_law_734 : decode cL_law 734 = .ok (.aload_n 0, 1) := by decide +kernel
theorem dL_law_735 : decode cL_law 735 = .ok (.iload 5, 2) := by decide +kernel
theorem dL_law_737 : decode cL_law 737 = .ok (.iconst 1, 1) := by decide +kernel
theorem dL_law_738 : decode cL_law 738 = .ok (.iadd, 1) := by decide +kernel
theorem dL_law_739 : decode cL_law 739 = .ok (.iaload, 1) := by decide +kernel
theorem dL_law_740 : decode cL_law 740 = .ok (.aload_n 0, 1) := by decide +kernel
theorem dL_law_741 : decode cL_law 741 = .ok (.iload 5, 2) := by decide +kernel
theorem dL_law_743 : decode cL_law 743 = .ok (.iconst 2, 1) := by decide +kernel
theorem dL_law_744 : decode cL_law 744 = .ok (.iadd, 1) := by decide +kernel
theorem dL_law_745 : decode cL_law 745 = .ok (.iaload, 1) := by decide +kernel
theorem dL_law_746 : decode cL_law 746 = .ok (.invokevirtual 100, 3) := by decide +kernel
theorem dL_law_749 : decode cL_law 749 = .ok (.aload_n 2, 1) := by decide +kernel
theorem dL_law_750 : decode cL_law 750 = .ok (.aload_n 0, 1) := by decide +kernel
theorem dL_law_751 : decode cL_law 751 = .ok (.iload 5, 2) := by decide +kernel
theorem dL_law_753 : decode cL_law 753 = .ok (.iconst 1, 1) := by decide +kernel
theorem dL_law_754 : decode cL_law 754 = .ok (.iadd, 1) := by decide +kernel
theorem dL_law_755 : decode cL_law 755 = .ok (.iaload, 1) := by decide +kernel
theorem dL_law_756 : decode cL_law 756 = .ok (.aload_n 0, 1) := by decide +kernel
theorem dL_law_757 : decode cL_law 757 = .ok (.iload 5, 2) := by decide +kernel
theorem dL_law_759 : decode cL_law 759 = .ok (.iconst 2, 1) := by decide +kernel
theorem dL_law_760 : decode cL_law 760 = .ok (.iadd, 1) := by decide +kernel
theorem dL_law_761 : decode cL_law 761 = .ok (.iaload, 1) := by decide +kernel
theorem dL_law_762 : decode cL_law 762 = .ok (.invokevirtual 103, 3) := by decide +kernel
theorem dL_law_765 : decode cL_law 765 = .ok (.if_icmp .eq 335, 3) := by decide +kernel
theorem dL_law_768 : decode cL_law 768 = .ok (.iconst 0, 1) := by decide +kernel
theorem dL_law_769 : decode cL_law 769 = .ok (.ireturn, 1) := by decide +kernel
theorem dL_law_770 : decode cL_law 770 = .ok (.aload_n 1, 1) := by decide +kernel
theorem dL_law_771 : decode cL_law 771 = .ok (.aload_n 0, 1) := by decide +kernel
theorem dL_law_772 : decode cL_law 772 = .ok (.iload 5, 2) := by decide +kernel
theorem dL_law_774 : decode cL_law 774 = .ok (.iconst 1, 1) := by decide +kernel
theorem dL_law_775 : decode cL_law 775 = .ok (.iadd, 1) := by decide +kernel
theorem dL_law_776 : decode cL_law 776 = .ok (.iaload, 1) := by decide +kernel
theorem dL_law_777 : decode cL_law 777 = .ok (.aload_n 0, 1) := by decide +kernel
theorem dL_law_778 : decode cL_law 778 = .ok (.iload 5, 2) := by decide +kernel
theorem dL_law_780 : decode cL_law 780 = .ok (.iconst 2, 1) := by decide +kernel
theorem dL_law_781 : decode cL_law 781 = .ok (.iadd, 1) := by decide +kernel
theorem dL_law_782 : decode cL_law 782 = .ok (.iaload, 1) := by decide +kernel
theorem dL_law_783 : decode cL_law 783 = .ok (.ifCond .eq 7, 3) := by decide +kernel
theorem dL_law_786 : decode cL_law 786 = .ok (.iconst 1, 1) := by decide +kernel
theorem dL_law_787 : decode cL_law 787 = .ok (.goto 4, 3) := by decide +kernel
theorem dL_law_790 : decode cL_law 790 = .ok (.iconst 0, 1) := by decide +kernel
theorem dL_law_791 : decode cL_law 791 = .ok (.invokevirtual 104, 3) := by decide +kernel
theorem dL_law_794 : decode cL_law 794 = .ok (.aload_n 2, 1) := by decide +kernel
theorem dL_law_795 : decode cL_law 795 = .ok (.aload_n 0, 1) := by decide +kernel
theorem dL_law_796 : decode cL_law 796 = .ok (.iload 5, 2) := by decide +kernel
theorem dL_law_798 : decode cL_law 798 = .ok (.iconst 1, 1) := by decide +kernel
theorem dL_law_799 : decode cL_law 799 = .ok (.iadd, 1) := by decide +kernel
theorem dL_law_800 : decode cL_law 800 = .ok (.iaload, 1) := by decide +kernel
theorem dL_law_801 : decode cL_law 801 = .ok (.aload_n 0, 1) := by decide +kernel
theorem dL_law_802 : decode cL_law 802 = .ok (.iload 5, 2) := by decide +kernel
theorem dL_law_804 : decode cL_law 804 = .ok (.iconst 2, 1) := by decide +kernel
theorem dL_law_805 : decode cL_law 805 = .ok (.iadd, 1) := by decide +kernel
theorem dL_law_806 : decode cL_law 806 = .ok (.iaload, 1) := by decide +kernel
theorem dL_law_807 : decode cL_law 807 = .ok (.ifCond .eq 7, 3) := by decide +kernel
theorem dL_law_810 : decode cL_law 810 = .ok (.iconst 1, 1) := by decide +kernel
theorem dL_law_811 : decode cL_law 811 = .ok (.goto 4, 3) := by decide +kernel
theorem dL_law_814 : decode cL_law 814 = .ok (.iconst 0, 1) := by decide +kernel
theorem dL_law_815 : decode cL_law 815 = .ok (.invokevirtual 108, 3) := by decide +kernel
theorem dL_law_818 : decode cL_law 818 = .ok (.if_icmp .eq 282, 3) := by decide +kernel
theorem dL_law_821 : decode cL_law 821 = .ok (.iconst 0, 1) := by decide +kernel
theorem dL_law_822 : decode cL_law 822 = .ok (.ireturn, 1) := by decide +kernel
theorem dL_law_823 : decode cL_law 823 = .ok (.aload_n 1, 1) := by decide +kernel
theorem dL_law_824 : decode cL_law 824 = .ok (.aload_n 0, 1) := by decide +kernel
theorem dL_law_825 : decode cL_law 825 = .ok (.iload 5, 2) := by decide +kernel
theorem dL_law_827 : decode cL_law 827 = .ok (.iconst 1, 1) := by decide +kernel
theorem dL_law_828 : decode cL_law 828 = .ok (.iadd, 1) := by decide +kernel
theorem dL_law_829 : decode cL_law 829 = .ok (.iaload, 1) := by decide +kernel
theorem dL_law_830 : decode cL_law 830 = .ok (.invokevirtual 109, 3) := by decide +kernel
theorem dL_law_833 : decode cL_law 833 = .ok (.aload_n 2, 1) := by decide +kernel
theorem dL_law_834 : decode cL_law 834 = .ok (.aload_n 0, 1) := by decide +kernel
theorem dL_law_835 : decode cL_law 835 = .ok (.iload 5, 2) := by decide +kernel
theorem dL_law_837 : decode cL_law 837 = .ok (.iconst 1, 1) := by decide +kernel
theorem dL_law_838 : decode cL_law 838 = .ok (.iadd, 1) := by decide +kernel
theorem dL_law_839 : decode cL_law 839 = .ok (.iaload, 1) := by decide +kernel
theorem dL_law_840 : decode cL_law 840 = .ok (.invokevirtual 113, 3) := by decide +kernel
theorem dL_law_843 : decode cL_law 843 = .ok (.if_icmp .eq 257, 3) := by decide +kernel
theorem dL_law_846 : decode cL_law 846 = .ok (.iconst 0, 1) := by decide +kernel
theorem dL_law_847 : decode cL_law 847 = .ok (.ireturn, 1) := by decide +kernel
theorem dL_law_848 : decode cL_law 848 = .ok (.aload_n 1, 1) := by decide +kernel
theorem dL_law_849 : decode cL_law 849 = .ok (.aload 4, 2) := by decide +kernel
theorem dL_law_851 : decode cL_law 851 = .ok (.invokestatic 114, 3) := by decide +kernel
theorem dL_law_854 : decode cL_law 854 = .ok (.istore 6, 2) := by decide +kernel
theorem dL_law_856 : decode cL_law 856 = .ok (.aload_n 2, 1) := by decide +kernel
theorem dL_law_857 : decode cL_law 857 = .ok (.invokevirtual 117, 3) := by decide +kernel
theorem dL_law_860 : decode cL_law 860 = .ok (.fstore 7, 2) := by decide +kernel
theorem dL_law_862 : decode cL_law 862 = .ok (.aload_n 2, 1) := by decide +kernel
theorem dL_law_863 : decode cL_law 863 = .ok (.invokevirtual 57, 3) := by decide +kernel
theorem dL_law_866 : decode cL_law 866 = .ok (.iload 6, 2) := by decide +kernel
theorem dL_law_868 : decode cL_law 868 = .ok (.if_icmp .eq 5, 3) := by decide +kernel
theorem dL_law_871 : decode cL_law 871 = .ok (.iconst 0, 1) := by decide +kernel
theorem dL_law_872 : decode cL_law 872 = .ok (.ireturn, 1) := by decide +kernel
theorem dL_law_873 : decode cL_law 873 = .ok (.iload 6, 2) := by decide +kernel
theorem dL_law_875 : decode cL_law 875 = .ok (.ifCond .ne 36, 3) := by decide +kernel
theorem dL_law_878 : decode cL_law 878 = .ok (.aload 4, 2) := by decide +kernel
theorem dL_law_880 : decode cL_law 880 = .ok (.iconst 0, 1) := by decide +kernel
theorem dL_law_881 : decode cL_law 881 = .ok (.daload, 1) := by decide +kernel
theorem dL_law_882 : decode cL_law 882 = .ok (.fload 7, 2) := by decide +kernel
theorem dL_law_884 : decode cL_law 884 = .ok (.f2d, 1) := by decide +kernel
theorem dL_law_885 : decode cL_law 885 = .ok (.dcmp .l, 1) := by decide +kernel
theorem dL_law_886 : decode cL_law 886 = .ok (.ifCond .eq 25, 3) := by decide +kernel
theorem dL_law_889 : decode cL_law 889 = .ok (.aload 4, 2) := by decide +kernel
theorem dL_law_891 : decode cL_law 891 = .ok (.iconst 0, 1) := by decide +kernel
theorem dL_law_892 : decode cL_law 892 = .ok (.daload, 1) := by decide +kernel
theorem dL_law_893 : decode cL_law 893 = .ok (.aload 4, 2) := by decide +kernel
theorem dL_law_895 : decode cL_law 895 = .ok (.iconst 0, 1) := by decide +kernel
theorem dL_law_896 : decode cL_law 896 = .ok (.daload, 1) := by decide +kernel
theorem dL_law_897 : decode cL_law 897 = .ok (.dcmp .l, 1) := by decide +kernel
theorem dL_law_898 : decode cL_law 898 = .ok (.ifCond .eq 11, 3) := by decide +kernel
theorem dL_law_901 : decode cL_law 901 = .ok (.fload 7, 2) := by decide +kernel
theorem dL_law_903 : decode cL_law 903 = .ok (.fload 7, 2) := by decide +kernel
theorem dL_law_905 : decode cL_law 905 = .ok (.fcmp .l, 1) := by decide +kernel
theorem dL_law_906 : decode cL_law 906 = .ok (.ifCond .ne 5, 3) := by decide +kernel
theorem dL_law_909 : decode cL_law 909 = .ok (.iconst 0, 1) := by decide +kernel
theorem dL_law_910 : decode cL_law 910 = .ok (.ireturn, 1) := by decide +kernel
theorem dL_law_911 : decode cL_law 911 = .ok (.goto 189, 3) := by decide +kernel
theorem dL_law_914 : decode cL_law 914 = .ok (.aload_n 1, 1) := by decide +kernel
theorem dL_law_915 : decode cL_law 915 = .ok (.aload_n 0, 1) := by decide +kernel
theorem dL_law_916 : decode cL_law 916 = .ok (.iload 5, 2) := by decide +kernel
theorem dL_law_918 : decode cL_law 918 = .ok (.iconst 1, 1) := by decide +kernel
theorem dL_law_919 : decode cL_law 919 = .ok (.iadd, 1) := by decide +kernel
theorem dL_law_920 : decode cL_law 920 = .ok (.iaload, 1) := by decide +kernel
theorem dL_law_921 : decode cL_law 921 = .ok (.aload_n 0, 1) := by decide +kernel
theorem dL_law_922 : decode cL_law 922 = .ok (.iload 5, 2) := by decide +kernel
theorem dL_law_924 : decode cL_law 924 = .ok (.iconst 2, 1) := by decide +kernel
theorem dL_law_925 : decode cL_law 925 = .ok (.iadd, 1) := by decide +kernel
theorem dL_law_926 : decode cL_law 926 = .ok (.iaload, 1) := by decide +kernel
theorem dL_law_927 : decode cL_law 927 = .ok (.aload_n 3, 1) := by decide +kernel
theorem dL_law_928 : decode cL_law 928 = .ok (.invokestatic 118, 3) := by decide +kernel
theorem dL_law_931 : decode cL_law 931 = .ok (.istore 6, 2) := by decide +kernel
theorem dL_law_933 : decode cL_law 933 = .ok (.aload_n 2, 1) := by decide +kernel
theorem dL_law_934 : decode cL_law 934 = .ok (.aload_n 0, 1) := by decide +kernel
theorem dL_law_935 : decode cL_law 935 = .ok (.iload 5, 2) := by decide +kernel
theorem dL_law_937 : decode cL_law 937 = .ok (.iconst 1, 1) := by decide +kernel
theorem dL_law_938 : decode cL_law 938 = .ok (.iadd, 1) := by decide +kernel
theorem dL_law_939 : decode cL_law 939 = .ok (.iaload, 1) := by decide +kernel
theorem dL_law_940 : decode cL_law 940 = .ok (.aload_n 0, 1) := by decide +kernel
theorem dL_law_941 : decode cL_law 941 = .ok (.iload 5, 2) := by decide +kernel
theorem dL_law_943 : decode cL_law 943 = .ok (.iconst 2, 1) := by decide +kernel
theorem dL_law_944 : decode cL_law 944 = .ok (.iadd, 1) := by decide +kernel
theorem dL_law_945 : decode cL_law 945 = .ok (.iaload, 1) := by decide +kernel
theorem dL_law_946 : decode cL_law 946 = .ok (.invokevirtual 121, 3) := by decide +kernel
theorem dL_law_949 : decode cL_law 949 = .ok (.istore 7, 2) := by decide +kernel
theorem dL_law_951 : decode cL_law 951 = .ok (.aload_n 2, 1) := by decide +kernel
theorem dL_law_952 : decode cL_law 952 = .ok (.invokevirtual 57, 3) := by decide +kernel
theorem dL_law_955 : decode cL_law 955 = .ok (.iload 6, 2) := by decide +kernel
theorem dL_law_957 : decode cL_law 957 = .ok (.if_icmp .eq 5, 3) := by decide +kernel
theorem dL_law_960 : decode cL_law 960 = .ok (.iconst 0, 1) := by decide +kernel
theorem dL_law_961 : decode cL_law 961 = .ok (.ireturn, 1) := by decide +kernel
theorem dL_law_962 : decode cL_law 962 = .ok (.iload 6, 2) := by decide +kernel
theorem dL_law_964 : decode cL_law 964 = .ok (.ifCond .ne 15, 3) := by decide +kernel
theorem dL_law_967 : decode cL_law 967 = .ok (.aload_n 3, 1) := by decide +kernel
theorem dL_law_968 : decode cL_law 968 = .ok (.iconst 0, 1) := by decide +kernel
theorem dL_law_969 : decode cL_law 969 = .ok (.laload, 1) := by decide +kernel
theorem dL_law_970 : decode cL_law 970 = .ok (.iload 7, 2) := by decide +kernel
theorem dL_law_972 : decode cL_law 972 = .ok (.i2l, 1) := by decide +kernel
theorem dL_law_973 : decode cL_law 973 = .ok (.lcmp, 1) := by decide +kernel
theorem dL_law_974 : decode cL_law 974 = .ok (.ifCond .eq 5, 3) := by decide +kernel
theorem dL_law_977 : decode cL_law 977 = .ok (.iconst 0, 1) := by decide +kernel
theorem dL_law_978 : decode cL_law 978 = .ok (.ireturn, 1) := by decide +kernel
theorem dL_law_979 : decode cL_law 979 = .ok (.goto 121, 3) := by decide +kernel
theorem dL_law_982 : decode cL_law 982 = .ok (.aload_n 1, 1) := by decide +kernel
theorem dL_law_983 : decode cL_law 983 = .ok (.aload_n 0, 1) := by decide +kernel
theorem dL_law_984 : decode cL_law 984 = .ok (.iload 5, 2) := by decide +kernel
theorem dL_law_986 : decode cL_law 986 = .ok (.iconst 1, 1) := by decide +kernel
theorem dL_law_987 : decode cL_law 987 = .ok (.iadd, 1) := by decide +kernel
theorem dL_law_988 : decode cL_law 988 = .ok (.iaload, 1) := by decide +kernel
theorem dL_law_989 : decode cL_law 989 = .ok (.invokevirtual 122, 3) := by decide +kernel
theorem dL_law_992 : decode cL_law 992 = .ok (.aload_n 2, 1) := by decide +kernel
theorem dL_law_993 : decode cL_law 993 = .ok (.aload_n 0, 1) := by decide +kernel
theorem dL_law_994 : decode cL_law 994 = .ok (.iload 5, 2) := by decide +kernel
theorem dL_law_996 : decode cL_law 996 = .ok (.iconst 1, 1) := by decide +kernel
theorem dL_law_997 : decode cL_law 997 = .ok (.iadd, 1) := by decide +kernel
theorem dL_law_998 : decode cL_law 998 = .ok (.iaload, 1) := by decide +kernel
theorem dL_law_999 : decode cL_law 999 = .ok (.invokevirtual 125, 3) := by decide +kernel
theorem dL_law_1002 : decode cL_law 1002 = .ok (.if_icmp .eq 98, 3) := by decide +kernel
theorem dL_law_1005 : decode cL_law 1005 = .ok (.iconst 0, 1) := by decide +kernel
theorem dL_law_1006 : decode cL_law 1006 = .ok (.ireturn, 1) := by decide +kernel
theorem dL_law_1007 : decode cL_law 1007 = .ok (.aload_n 1, 1) := by decide +kernel
theorem dL_law_1008 : decode cL_law 1008 = .ok (.aload_n 0, 1) := by decide +kernel
theorem dL_law_1009 : decode cL_law 1009 = .ok (.iload 5, 2) := by decide +kernel
theorem dL_law_1011 : decode cL_law 1011 = .ok (.iconst 1, 1) := by decide +kernel
theorem dL_law_1012 : decode cL_law 1012 = .ok (.iadd, 1) := by decide +kernel
theorem dL_law_1013 : decode cL_law 1013 = .ok (.iaload, 1) := by decide +kernel
theorem dL_law_1014 : decode cL_law 1014 = .ok (.invokevirtual 126, 3) := by decide +kernel
theorem dL_law_1017 : decode cL_law 1017 = .ok (.aload_n 2, 1) := by decide +kernel
theorem dL_law_1018 : decode cL_law 1018 = .ok (.aload_n 0, 1) := by decide +kernel
theorem dL_law_1019 : decode cL_law 1019 = .ok (.iload 5, 2) := by decide +kernel
theorem dL_law_1021 : decode cL_law 1021 = .ok (.iconst 1, 1) := by decide +kernel
theorem dL_law_1022 : decode cL_law 1022 = .ok (.iadd, 1) := by decide +kernel
theorem dL_law_1023 : decode cL_law 1023 = .ok (.iaload, 1) := by decide +kernel
theorem dL_law_1024 : decode cL_law 1024 = .ok (.invokevirtual 129, 3) := by decide +kernel
theorem dL_law_1027 : decode cL_law 1027 = .ok (.if_icmp .eq 73, 3) := by decide +kernel
theorem dL_law_1030 : decode cL_law 1030 = .ok (.iconst 0, 1) := by decide +kernel
theorem dL_law_1031 : decode cL_law 1031 = .ok (.ireturn, 1) := by decide +kernel
theorem dL_law_1032 : decode cL_law 1032 = .ok (.aload_n 1, 1) := by decide +kernel
theorem dL_law_1033 : decode cL_law 1033 = .ok (.aload_n 0, 1) := by decide +kernel
theorem dL_law_1034 : decode cL_law 1034 = .ok (.iload 5, 2) := by decide +kernel
theorem dL_law_1036 : decode cL_law 1036 = .ok (.iconst 1, 1) := by decide +kernel
theorem dL_law_1037 : decode cL_law 1037 = .ok (.iadd, 1) := by decide +kernel
theorem dL_law_1038 : decode cL_law 1038 = .ok (.iaload, 1) := by decide +kernel
theorem dL_law_1039 : decode cL_law 1039 = .ok (.aload_n 0, 1) := by decide +kernel
theorem dL_law_1040 : decode cL_law 1040 = .ok (.iload 5, 2) := by decide +kernel
theorem dL_law_1042 : decode cL_law 1042 = .ok (.iconst 2, 1) := by decide +kernel
theorem dL_law_1043 : decode cL_law 1043 = .ok (.iadd, 1) := by decide +kernel
theorem dL_law_1044 : decode cL_law 1044 = .ok (.iaload, 1) := by decide +kernel
theorem dL_law_1045 : decode cL_law 1045 = .ok (.aload_n 3, 1) := by decide +kernel
theorem dL_law_1046 : decode cL_law 1046 = .ok (.invokestatic 130, 3) := by decide +kernel
theorem dL_law_1049 : decode cL_law 1049 = .ok (.istore 6, 2) := by decide +kernel
theorem dL_law_1051 : decode cL_law 1051 = .ok (.aload_n 2, 1) := by decide +kernel
theorem dL_law_1052 : decode cL_law 1052 = .ok (.aload_n 0, 1) := by decide +kernel
theorem dL_law_1053 : decode cL_law 1053 = .ok (.iload 5, 2) := by decide +kernel
theorem dL_law_1055 : decode cL_law 1055 = .ok (.iconst 1, 1) := by decide +kernel
theorem dL_law_1056 : decode cL_law 1056 = .ok (.iadd, 1) := by decide +kernel
theorem dL_law_1057 : decode cL_law 1057 = .ok (.iaload, 1) := by decide +kernel
theorem dL_law_1058 : decode cL_law 1058 = .ok (.aload_n 0, 1) := by decide +kernel
theorem dL_law_1059 : decode cL_law 1059 = .ok (.iload 5, 2) := by decide +kernel
theorem dL_law_1061 : decode cL_law 1061 = .ok (.iconst 2, 1) := by decide +kernel
theorem dL_law_1062 : decode cL_law 1062 = .ok (.iadd, 1) := by decide +kernel
theorem dL_law_1063 : decode cL_law 1063 = .ok (.iaload, 1) := by decide +kernel
theorem dL_law_1064 : decode cL_law 1064 = .ok (.invokevirtual 132, 3) := by decide +kernel
theorem dL_law_1067 : decode cL_law 1067 = .ok (.istore 7, 2) := by decide +kernel
theorem dL_law_1069 : decode cL_law 1069 = .ok (.aload_n 2, 1) := by decide +kernel
theorem dL_law_1070 : decode cL_law 1070 = .ok (.invokevirtual 57, 3) := by decide +kernel
theorem dL_law_1073 : decode cL_law 1073 = .ok (.iload 6, 2) := by decide +kernel
theorem dL_law_1075 : decode cL_law 1075 = .ok (.if_icmp .eq 5, 3) := by decide +kernel
theorem dL_law_1078 : decode cL_law 1078 = .ok (.iconst 0, 1) := by decide +kernel
theorem dL_law_1079 : decode cL_law 1079 = .ok (.ireturn, 1) := by decide +kernel
theorem dL_law_1080 : decode cL_law 1080 = .ok (.iload 6, 2) := by decide +kernel
theorem dL_law_1082 : decode cL_law 1082 = .ok (.ifCond .ne 15, 3) := by decide +kernel
theorem dL_law_1085 : decode cL_law 1085 = .ok (.aload_n 3, 1) := by decide +kernel
theorem dL_law_1086 : decode cL_law 1086 = .ok (.iconst 0, 1) := by decide +kernel
theorem dL_law_1087 : decode cL_law 1087 = .ok (.laload, 1) := by decide +kernel
theorem dL_law_1088 : decode cL_law 1088 = .ok (.iload 7, 2) := by decide +kernel
theorem dL_law_1090 : decode cL_law 1090 = .ok (.i2l, 1) := by decide +kernel
theorem dL_law_1091 : decode cL_law 1091 = .ok (.lcmp, 1) := by decide +kernel
theorem dL_law_1092 : decode cL_law 1092 = .ok (.ifCond .eq 5, 3) := by decide +kernel
theorem dL_law_1095 : decode cL_law 1095 = .ok (.iconst 0, 1) := by decide +kernel
theorem dL_law_1096 : decode cL_law 1096 = .ok (.ireturn, 1) := by decide +kernel
theorem dL_law_1097 : decode cL_law 1097 = .ok (.goto 3, 3) := by decide +kernel
theorem dL_law_1100 : decode cL_law 1100 = .ok (.iinc 5 6, 3) := by decide +kernel
theorem dL_law_1103 : decode cL_law 1103 = .ok (.goto (-1075), 3) := by decide +kernel
theorem dL_law_1106 : decode cL_law 1106 = .ok (.iconst 1, 1) := by decide +kernel
theorem dL_law_1107 : decode cL_law 1107 = .ok (.ireturn, 1) := by decide +kernel
