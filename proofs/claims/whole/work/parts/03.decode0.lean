theorem dX0_init_0 : decode cX0_init 0 = .ok (.aload_n 0, 1) := by decide +kernel
theorem dX0_init_1 : decode cX0_init 1 = .ok (.invokespecial 3, 3) := by decide +kernel
theorem dX0_init_4 : decode cX0_init 4 = .ok (.aload_n 0, 1) := by decide +kernel
theorem dX0_init_5 : decode cX0_init 5 = .ok (.bipush 48, 2) := by decide +kernel
theorem dX0_init_7 : decode cX0_init 7 = .ok (.newarray .long, 2) := by decide +kernel
theorem dX0_init_9 : decode cX0_init 9 = .ok (.putfield 9, 3) := by decide +kernel
theorem dX0_init_12 : decode cX0_init 12 = .ok (.aload_n 0, 1) := by decide +kernel
theorem dX0_init_13 : decode cX0_init 13 = .ok (.bipush 48, 2) := by decide +kernel
theorem dX0_init_15 : decode cX0_init 15 = .ok (.newarray .long, 2) := by decide +kernel
theorem dX0_init_17 : decode cX0_init 17 = .ok (.putfield 13, 3) := by decide +kernel
theorem dX0_init_20 : decode cX0_init 20 = .ok (.aload_n 0, 1) := by decide +kernel
theorem dX0_init_21 : decode cX0_init 21 = .ok (.bipush 48, 2) := by decide +kernel
theorem dX0_init_23 : decode cX0_init 23 = .ok (.newarray .int, 2) := by decide +kernel
theorem dX0_init_25 : decode cX0_init 25 = .ok (.putfield 16, 3) := by decide +kernel
theorem dX0_init_28 : decode cX0_init 28 = .ok (.aload_n 0, 1) := by decide +kernel
theorem dX0_init_29 : decode cX0_init 29 = .ok (.bipush 48, 2) := by decide +kernel
theorem dX0_init_31 : decode cX0_init 31 = .ok (.newarray .int, 2) := by decide +kernel
theorem dX0_init_33 : decode cX0_init 33 = .ok (.putfield 20, 3) := by decide +kernel
theorem dX0_init_36 : decode cX0_init 36 = .ok (.aload_n 0, 1) := by decide +kernel
theorem dX0_init_37 : decode cX0_init 37 = .ok (.bipush 48, 2) := by decide +kernel
theorem dX0_init_39 : decode cX0_init 39 = .ok (.newarray .int, 2) := by decide +kernel
theorem dX0_init_41 : decode cX0_init 41 = .ok (.putfield 23, 3) := by decide +kernel
theorem dX0_init_44 : decode cX0_init 44 = .ok (.aload_n 0, 1) := by decide +kernel
theorem dX0_init_45 : decode cX0_init 45 = .ok (.bipush 48, 2) := by decide +kernel
theorem dX0_init_47 : decode cX0_init 47 = .ok (.newarray .int, 2) := by decide +kernel
theorem dX0_init_49 : decode cX0_init 49 = .ok (.putfield 26, 3) := by decide +kernel
theorem dX0_init_52 : decode cX0_init 52 = .ok (.aload_n 0, 1) := by decide +kernel
theorem dX0_init_53 : decode cX0_init 53 = .ok (.bipush 48, 2) := by decide +kernel
theorem dX0_init_55 : decode cX0_init 55 = .ok (.newarray .int, 2) := by decide +kernel
theorem dX0_init_57 : decode cX0_init 57 = .ok (.putfield 29, 3) := by decide +kernel
theorem dX0_init_60 : decode cX0_init 60 = .ok (.aload_n 0, 1) := by decide +kernel
theorem dX0_init_61 : decode cX0_init 61 = .ok (.bipush 8, 2) := by decide +kernel
theorem dX0_init_63 : decode cX0_init 63 = .ok (.newarray .int, 2) := by decide +kernel
theorem dX0_init_65 : decode cX0_init 65 = .ok (.putfield 32, 3) := by decide +kernel
theorem dX0_init_68 : decode cX0_init 68 = .ok (.aload_n 0, 1) := by decide +kernel
theorem dX0_init_69 : decode cX0_init 69 = .ok (.bipush 12, 2) := by decide +kernel
theorem dX0_init_71 : decode cX0_init 71 = .ok (.newarray .int, 2) := by decide +kernel
theorem dX0_init_73 : decode cX0_init 73 = .ok (.putfield 35, 3) := by decide +kernel
theorem dX0_init_76 : decode cX0_init 76 = .ok (.aload_n 0, 1) := by decide +kernel
theorem dX0_init_77 : decode cX0_init 77 = .ok (.bipush 12, 2) := by decide +kernel
theorem dX0_init_79 : decode cX0_init 79 = .ok (.newarray .int, 2) := by decide +kernel
theorem dX0_init_81 : decode cX0_init 81 = .ok (.putfield 38, 3) := by decide +kernel
theorem dX0_init_84 : decode cX0_init 84 = .ok (.aload_n 0, 1) := by decide +kernel
theorem dX0_init_85 : decode cX0_init 85 = .ok (.bipush 12, 2) := by decide +kernel
theorem dX0_init_87 : decode cX0_init 87 = .ok (.newarray .int, 2) := by decide +kernel
theorem dX0_init_89 : decode cX0_init 89 = .ok (.putfield 41, 3) := by decide +kernel
theorem dX0_init_92 : decode cX0_init 92 = .ok (.aload_n 0, 1) := by decide +kernel
theorem dX0_init_93 : decode cX0_init 93 = .ok (.iconst (-1), 1) := by decide +kernel
theorem dX0_init_94 : decode cX0_init 94 = .ok (.putfield 44, 3) := by decide +kernel
theorem dX0_init_97 : decode cX0_init 97 = .ok (.return_, 1) := by decide +kernel
theorem dX0_clear_0 : decode cX0_clear 0 = .ok (.aload_n 0, 1) := by decide +kernel
theorem dX0_clear_1 : decode cX0_clear 1 = .ok (.iconst 0, 1) := by decide +kernel
theorem dX0_clear_2 : decode cX0_clear 2 = .ok (.putfield 48, 3) := by decide +kernel
theorem dX0_clear_5 : decode cX0_clear 5 = .ok (.aload_n 0, 1) := by decide +kernel
theorem dX0_clear_6 : decode cX0_clear 6 = .ok (.iconst 0, 1) := by decide +kernel
theorem dX0_clear_7 : decode cX0_clear 7 = .ok (.putfield 51, 3) := by decide +kernel
theorem dX0_clear_10 : decode cX0_clear 10 = .ok (.aload_n 0, 1) := by decide +kernel
theorem dX0_clear_11 : decode cX0_clear 11 = .ok (.iconst 0, 1) := by decide +kernel
theorem dX0_clear_12 : decode cX0_clear 12 = .ok (.putfield 54, 3) := by decide +kernel
theorem dX0_clear_15 : decode cX0_clear 15 = .ok (.aload_n 0, 1) := by decide +kernel
theorem dX0_clear_16 : decode cX0_clear 16 = .ok (.iconst 0, 1) := by decide +kernel
theorem dX0_clear_17 : decode cX0_clear 17 = .ok (.putfield 57, 3) := by decide +kernel
theorem dX0_clear_20 : decode cX0_clear 20 = .ok (.aload_n 0, 1) := by decide +kernel
theorem dX0_clear_21 : decode cX0_clear 21 = .ok (.invokevirtual 60, 3) := by decide +kernel
theorem dX0_clear_24 : decode cX0_clear 24 = .ok (.return_, 1) := by decide +kernel
theorem dX0_assign_0 : decode cX0_assign 0 = .ok (.iload_n 1, 1) := by decide +kernel
theorem dX0_assign_1 : decode cX0_assign 1 = .ok (.invokestatic 63, 3) := by decide +kernel
theorem dX0_assign_4 : decode cX0_assign 4 = .ok (.iload_n 2, 1) := by decide +kernel
theorem dX0_assign_5 : decode cX0_assign 5 = .ok (.invokestatic 67, 3) := by decide +kernel
theorem dX0_assign_8 : decode cX0_assign 8 = .ok (.aload_n 0, 1) := by decide +kernel
theorem dX0_assign_9 : decode cX0_assign 9 = .ok (.iload_n 2, 1) := by decide +kernel
theorem dX0_assign_10 : decode cX0_assign 10 = .ok (.iload_n 1, 1) := by decide +kernel
theorem dX0_assign_11 : decode cX0_assign 11 = .ok (.invokestatic 70, 3) := by decide +kernel
theorem dX0_assign_14 : decode cX0_assign 14 = .ok (.lconst 1, 1) := by decide +kernel
theorem dX0_assign_15 : decode cX0_assign 15 = .ok (.iload_n 1, 1) := by decide +kernel
theorem dX0_assign_16 : decode cX0_assign 16 = .ok (.lshl, 1) := by decide +kernel
theorem dX0_assign_17 : decode cX0_assign 17 = .ok (.iconst (-1), 1) := by decide +kernel
theorem dX0_assign_18 : decode cX0_assign 18 = .ok (.iload_n 2, 1) := by decide +kernel
theorem dX0_assign_19 : decode cX0_assign 19 = .ok (.invokestatic 74, 3) := by decide +kernel
theorem dX0_assign_22 : decode cX0_assign 22 = .ok (.invokevirtual 78, 3) := by decide +kernel
theorem dX0_assign_25 : decode cX0_assign 25 = .ok (.ireturn, 1) := by decide +kernel
theorem dX0_load_0 : decode cX0_load 0 = .ok (.iload_n 1, 1) := by decide +kernel
theorem dX0_load_1 : decode cX0_load 1 = .ok (.invokestatic 63, 3) := by decide +kernel
theorem dX0_load_4 : decode cX0_load 4 = .ok (.iload_n 2, 1) := by decide +kernel
theorem dX0_load_5 : decode cX0_load 5 = .ok (.invokestatic 82, 3) := by decide +kernel
theorem dX0_load_8 : decode cX0_load 8 = .ok (.iload_n 3, 1) := by decide +kernel
theorem dX0_load_9 : decode cX0_load 9 = .ok (.invokestatic 67, 3) := by decide +kernel
theorem dX0_load_12 : decode cX0_load 12 = .ok (.aload_n 0, 1) := by decide +kernel
theorem dX0_load_13 : decode cX0_load 13 = .ok (.iload_n 3, 1) := by decide +kernel
theorem dX0_load_14 : decode cX0_load 14 = .ok (.iload_n 1, 1) := by decide +kernel
theorem dX0_load_15 : decode cX0_load 15 = .ok (.invokestatic 70, 3) := by decide +kernel
theorem dX0_load_18 : decode cX0_load 18 = .ok (.lconst 1, 1) := by decide +kernel
theorem dX0_load_19 : decode cX0_load 19 = .ok (.iload_n 1, 1) := by decide +kernel
theorem dX0_load_20 : decode cX0_load 20 = .ok (.lshl, 1) := by decide +kernel
theorem dX0_load_21 : decode cX0_load 21 = .ok (.iload_n 2, 1) := by decide +kernel
theorem dX0_load_22 : decode cX0_load 22 = .ok (.iload_n 3, 1) := by decide +kernel
theorem dX0_load_23 : decode cX0_load 23 = .ok (.invokestatic 74, 3) := by decide +kernel
theorem dX0_load_26 : decode cX0_load 26 = .ok (.invokevirtual 78, 3) := by decide +kernel
theorem dX0_load_29 : decode cX0_load 29 = .ok (.ireturn, 1) := by decide +kernel
theorem dX0_store_0 : decode cX0_store 0 = .ok (.iload_n 1, 1) := by decide +kernel
theorem dX0_store_1 : decode cX0_store 1 = .ok (.invokestatic 82, 3) := by decide +kernel
theorem dX0_store_4 : decode cX0_store 4 = .ok (.iload_n 2, 1) := by decide +kernel
theorem dX0_store_5 : decode cX0_store 5 = .ok (.invokestatic 67, 3) := by decide +kernel
theorem dX0_store_8 : decode cX0_store 8 = .ok (.iload_n 3, 1) := by decide +kernel
theorem dX0_store_9 : decode cX0_store 9 = .ok (.invokestatic 67, 3) := by decide +kernel
theorem dX0_store_12 : decode cX0_store 12 = .ok (.aload_n 0, 1) := by decide +kernel
theorem dX0_store_13 : decode cX0_store 13 = .ok (.iload_n 2, 1) := by decide +kernel
theorem dX0_store_14 : decode cX0_store 14 = .ok (.iload_n 3, 1) := by decide +kernel
theorem dX0_store_15 : decode cX0_store 15 = .ok (.ior, 1) := by decide +kernel
theorem dX0_store_16 : decode cX0_store 16 = .ok (.invokestatic 85, 3) := by decide +kernel
theorem dX0_store_19 : decode cX0_store 19 = .ok (.lconst 0, 1) := by decide +kernel
theorem dX0_store_20 : decode cX0_store 20 = .ok (.iload_n 1, 1) := by decide +kernel
theorem dX0_store_21 : decode cX0_store 21 = .ok (.iload_n 2, 1) := by decide +kernel
theorem dX0_store_22 : decode cX0_store 22 = .ok (.invokestatic 74, 3) := by decide +kernel
theorem dX0_store_25 : decode cX0_store 25 = .ok (.iload_n 3, 1) := by decide +kernel
theorem dX0_store_26 : decode cX0_store 26 = .ok (.invokestatic 74, 3) := by decide +kernel
theorem dX0_store_29 : decode cX0_store 29 = .ok (.iadd, 1) := by decide +kernel
theorem dX0_store_30 : decode cX0_store 30 = .ok (.invokevirtual 78, 3) := by decide +kernel
theorem dX0_store_33 : decode cX0_store 33 = .ok (.ireturn, 1) := by decide +kernel
theorem dX0_valid_0 : decode cX0_valid 0 = .ok (.iload_n 1, 1) := by decide +kernel
theorem dX0_valid_1 : decode cX0_valid 1 = .ok (.ifCond .lt 9, 3) := by decide +kernel
theorem dX0_valid_4 : decode cX0_valid 4 = .ok (.iload_n 1, 1) := by decide +kernel
theorem dX0_valid_5 : decode cX0_valid 5 = .ok (.bipush 12, 2) := by decide +kernel
theorem dX0_valid_7 : decode cX0_valid 7 = .ok (.if_icmp .lt 13, 3) := by decide +kernel
theorem dX0_valid_10 : decode cX0_valid 10 = .ok (.new 89, 3) := by decide +kernel
theorem dX0_valid_13 : decode cX0_valid 13 = .ok (.dup, 1) := by decide +kernel
theorem dX0_valid_14 : decode cX0_valid 14 = .ok (.ldc 91, 2) := by decide +kernel
theorem dX0_valid_16 : decode cX0_valid 16 = .ok (.invokespecial 93, 3) := by decide +kernel
theorem dX0_valid_19 : decode cX0_valid 19 = .ok (.athrow, 1) := by decide +kernel
theorem dX0_valid_20 : decode cX0_valid 20 = .ok (.iconst 1, 1) := by decide +kernel
theorem dX0_valid_21 : decode cX0_valid 21 = .ok (.bipush 16, 2) := by decide +kernel
theorem dX0_valid_23 : decode cX0_valid 23 = .ok (.iload_n 1, 1) := by decide +kernel
theorem dX0_valid_24 : decode cX0_valid 24 = .ok (.iadd, 1) := by decide +kernel
theorem dX0_valid_25 : decode cX0_valid 25 = .ok (.ishl, 1) := by decide +kernel
theorem dX0_valid_26 : decode cX0_valid 26 = .ok (.istore_n 3, 1) := by decide +kernel
theorem dX0_valid_27 : decode cX0_valid 27 = .ok (.aload_n 0, 1) := by decide +kernel
theorem dX0_valid_28 : decode cX0_valid 28 = .ok (.iload_n 3, 1) := by decide +kernel
theorem dX0_valid_29 : decode cX0_valid 29 = .ok (.invokestatic 96, 3) := by decide +kernel
theorem dX0_valid_32 : decode cX0_valid 32 = .ok (.iload_n 3, 1) := by decide +kernel
theorem dX0_valid_33 : decode cX0_valid 33 = .ok (.i2l, 1) := by decide +kernel
theorem dX0_valid_34 : decode cX0_valid 34 = .ok (.iload_n 3, 1) := by decide +kernel
theorem dX0_valid_35 : decode cX0_valid 35 = .ok (.invokestatic 96, 3) := by decide +kernel
theorem dX0_valid_38 : decode cX0_valid 38 = .ok (.lor, 1) := by decide +kernel
theorem dX0_valid_39 : decode cX0_valid 39 = .ok (.iconst (-1), 1) := by decide +kernel
theorem dX0_valid_40 : decode cX0_valid 40 = .ok (.iconst 0, 1) := by decide +kernel
theorem dX0_valid_41 : decode cX0_valid 41 = .ok (.invokevirtual 78, 3) := by decide +kernel
theorem dX0_valid_44 : decode cX0_valid 44 = .ok (.ireturn, 1) := by decide +kernel
theorem dX0_drop_0 : decode cX0_drop 0 = .ok (.aload_n 0, 1) := by decide +kernel
theorem dX0_drop_1 : decode cX0_drop 1 = .ok (.lconst 0, 1) := by decide +kernel
theorem dX0_drop_2 : decode cX0_drop 2 = .ok (.ldc2_w 99, 3) := by decide +kernel
theorem dX0_drop_5 : decode cX0_drop 5 = .ok (.iconst (-1), 1) := by decide +kernel
theorem dX0_drop_6 : decode cX0_drop 6 = .ok (.iconst 0, 1) := by decide +kernel
theorem dX0_drop_7 : decode cX0_drop 7 = .ok (.invokevirtual 78, 3) := by decide +kernel
theorem dX0_drop_10 : decode cX0_drop 10 = .ok (.ireturn, 1) := by decide +kernel
theorem dX0_open_0 : decode cX0_open 0 = .ok (.iload_n 1, 1) := by decide +kernel
theorem dX0_open_1 : decode cX0_open 1 = .ok (.invokestatic 67, 3) := by decide +kernel
theorem dX0_open_4 : decode cX0_open 4 = .ok (.aload_n 0, 1) := by decide +kernel
theorem dX0_open_5 : decode cX0_open 5 = .ok (.getfield 54, 3) := by decide +kernel
theorem dX0_open_8 : decode cX0_open 8 = .ok (.ifCond .lt 12, 3) := by decide +kernel
theorem dX0_open_11 : decode cX0_open 11 = .ok (.aload_n 0, 1) := by decide +kernel
theorem dX0_open_12 : decode cX0_open 12 = .ok (.getfield 54, 3) := by decide +kernel
theorem dX0_open_15 : decode cX0_open 15 = .ok (.bipush 8, 2) := by decide +kernel
theorem dX0_open_17 : decode cX0_open 17 = .ok (.if_icmp .lt 13, 3) := by decide +kernel
theorem dX0_open_20 : decode cX0_open 20 = .ok (.new 101, 3) := by decide +kernel
theorem dX0_open_23 : decode cX0_open 23 = .ok (.dup, 1) := by decide +kernel
theorem dX0_open_24 : decode cX0_open 24 = .ok (.ldc 103, 2) := by decide +kernel
theorem dX0_open_26 : decode cX0_open 26 = .ok (.invokespecial 105, 3) := by decide +kernel
theorem dX0_open_29 : decode cX0_open 29 = .ok (.athrow, 1) := by decide +kernel
theorem dX0_open_30 : decode cX0_open 30 = .ok (.aload_n 0, 1) := by decide +kernel
theorem dX0_open_31 : decode cX0_open 31 = .ok (.iload_n 1, 1) := by decide +kernel
theorem dX0_open_32 : decode cX0_open 32 = .ok (.invokestatic 85, 3) := by decide +kernel
theorem dX0_open_35 : decode cX0_open 35 = .ok (.lconst 0, 1) := by decide +kernel
theorem dX0_open_36 : decode cX0_open 36 = .ok (.iconst (-1), 1) := by decide +kernel
theorem dX0_open_37 : decode cX0_open 37 = .ok (.iload_n 1, 1) := by decide +kernel
theorem dX0_open_38 : decode cX0_open 38 = .ok (.invokestatic 74, 3) := by decide +kernel
theorem dX0_open_41 : decode cX0_open 41 = .ok (.invokevirtual 78, 3) := by decide +kernel
theorem dX0_open_44 : decode cX0_open 44 = .ok (.istore_n 2, 1) := by decide +kernel
theorem dX0_open_45 : decode cX0_open 45 = .ok (.aload_n 0, 1) := by decide +kernel
theorem dX0_open_46 : decode cX0_open 46 = .ok (.getfield 32, 3) := by decide +kernel
theorem dX0_open_49 : decode cX0_open 49 = .ok (.aload_n 0, 1) := by decide +kernel
theorem dX0_open_50 : decode cX0_open 50 = .ok (.getfield 54, 3) := by decide +kernel
theorem dX0_open_53 : decode cX0_open 53 = .ok (.iload_n 2, 1) := by decide +kernel
theorem dX0_open_54 : decode cX0_open 54 = .ok (.iastore, 1) := by decide +kernel
theorem dX0_open_55 : decode cX0_open 55 = .ok (.aload_n 0, 1) := by decide +kernel
theorem dX0_open_56 : decode cX0_open 56 = .ok (.dup, 1) := by decide +kernel
theorem dX0_open_57 : decode cX0_open 57 = .ok (.getfield 54, 3) := by decide +kernel
theorem dX0_open_60 : decode cX0_open 60 = .ok (.iconst 1, 1) := by decide +kernel
theorem dX0_open_61 : decode cX0_open 61 = .ok (.iadd, 1) := by decide +kernel
theorem dX0_open_62 : decode cX0_open 62 = .ok (.putfield 54, 3) := by decide +kernel
theorem dX0_open_65 : decode cX0_open 65 = .ok (.iload_n 2, 1) := by decide +kernel
theorem dX0_open_66 : decode cX0_open 66 = .ok (.ireturn, 1) := by decide +kernel
theorem dX0_close_0 : decode cX0_close 0 = .ok (.aload_n 0, 1) := by decide +kernel
theorem dX0_close_1 : decode cX0_close 1 = .ok (.getfield 54, 3) := by decide +kernel
theorem dX0_close_4 : decode cX0_close 4 = .ok (.iconst 1, 1) := by decide +kernel
theorem dX0_close_5 : decode cX0_close 5 = .ok (.if_icmp .lt 12, 3) := by decide +kernel
theorem dX0_close_8 : decode cX0_close 8 = .ok (.aload_n 0, 1) := by decide +kernel
theorem dX0_close_9 : decode cX0_close 9 = .ok (.getfield 54, 3) := by decide +kernel
theorem dX0_close_12 : decode cX0_close 12 = .ok (.bipush 8, 2) := by decide +kernel
theorem dX0_close_14 : decode cX0_close 14 = .ok (.if_icmp .le 13, 3) := by decide +kernel
theorem dX0_close_17 : decode cX0_close 17 = .ok (.new 101, 3) := by decide +kernel
theorem dX0_close_20 : decode cX0_close 20 = .ok (.dup, 1) := by decide +kernel
theorem dX0_close_21 : decode cX0_close 21 = .ok (.ldc 106, 2) := by decide +kernel
theorem dX0_close_23 : decode cX0_close 23 = .ok (.invokespecial 105, 3) := by decide +kernel
theorem dX0_close_26 : decode cX0_close 26 = .ok (.athrow, 1) := by decide +kernel
theorem dX0_close_27 : decode cX0_close 27 = .ok (.aload_n 0, 1) := by decide +kernel
theorem dX0_close_28 : decode cX0_close 28 = .ok (.dup, 1) := by decide +kernel
theorem dX0_close_29 : decode cX0_close 29 = .ok (.getfield 54, 3) := by decide +kernel
theorem dX0_close_32 : decode cX0_close 32 = .ok (.iconst 1, 1) := by decide +kernel
theorem dX0_close_33 : decode cX0_close 33 = .ok (.isub, 1) := by decide +kernel
theorem dX0_close_34 : decode cX0_close 34 = .ok (.putfield 54, 3) := by decide +kernel
theorem dX0_close_37 : decode cX0_close 37 = .ok (.aload_n 0, 1) := by decide +kernel
theorem dX0_close_38 : decode cX0_close 38 = .ok (.getfield 32, 3) := by decide +kernel
theorem dX0_close_41 : decode cX0_close 41 = .ok (.aload_n 0, 1) := by decide +kernel
theorem dX0_close_42 : decode cX0_close 42 = .ok (.getfield 54, 3) := by decide +kernel
theorem dX0_close_45 : decode cX0_close 45 = .ok (.iaload, 1) := by decide +kernel
theorem dX0_close_46 : decode cX0_close 46 = .ok (.ireturn, 1) := by decide +kernel
theorem dX0_apply_0 : decode cX0_apply 0 = .ok (.iload_n 3, 1) := by decide +kernel
theorem dX0_apply_1 : decode cX0_apply 1 = .ok (.invokestatic 63, 3) := by decide +kernel
theorem dX0_apply_4 : decode cX0_apply 4 = .ok (.iload_n 1, 1) := by decide +kernel
theorem dX0_apply_5 : decode cX0_apply 5 = .ok (.invokestatic 67, 3) := by decide +kernel
theorem dX0_apply_8 : decode cX0_apply 8 = .ok (.iload_n 1, 1) := by decide +kernel
theorem dX0_apply_9 : decode cX0_apply 9 = .ok (.invokestatic 108, 3) := by decide +kernel
theorem dX0_apply_12 : decode cX0_apply 12 = .ok (.istore 4, 2) := by decide +kernel
theorem dX0_apply_14 : decode cX0_apply 14 = .ok (.iload_n 2, 1) := by decide +kernel
theorem dX0_apply_15 : decode cX0_apply 15 = .ok (.iconst 1, 1) := by decide +kernel
theorem dX0_apply_16 : decode cX0_apply 16 = .ok (.if_icmp .lt 9, 3) := by decide +kernel
theorem dX0_apply_19 : decode cX0_apply 19 = .ok (.iload_n 2, 1) := by decide +kernel
theorem dX0_apply_20 : decode cX0_apply 20 = .ok (.bipush 32, 2) := by decide +kernel
theorem dX0_apply_22 : decode cX0_apply 22 = .ok (.if_icmp .le 13, 3) := by decide +kernel
theorem dX0_apply_25 : decode cX0_apply 25 = .ok (.new 113, 3) := by decide +kernel
theorem dX0_apply_28 : decode cX0_apply 28 = .ok (.dup, 1) := by decide +kernel
theorem dX0_apply_29 : decode cX0_apply 29 = .ok (.ldc 115, 2) := by decide +kernel
theorem dX0_apply_31 : decode cX0_apply 31 = .ok (.invokespecial 117, 3) := by decide +kernel
theorem dX0_apply_34 : decode cX0_apply 34 = .ok (.athrow, 1) := by decide +kernel
theorem dX0_apply_35 : decode cX0_apply 35 = .ok (.iload 4, 2) := by decide +kernel
theorem dX0_apply_37 : decode cX0_apply 37 = .ok (.iconst 1, 1) := by decide +kernel
theorem dX0_apply_38 : decode cX0_apply 38 = .ok (.if_icmp .lt 9, 3) := by decide +kernel
theorem dX0_apply_41 : decode cX0_apply 41 = .ok (.iload 4, 2) := by decide +kernel
theorem dX0_apply_43 : decode cX0_apply 43 = .ok (.iconst 4, 1) := by decide +kernel
theorem dX0_apply_44 : decode cX0_apply 44 = .ok (.if_icmp .le 13, 3) := by decide +kernel
theorem dX0_apply_47 : decode cX0_apply 47 = .ok (.new 113, 3) := by decide +kernel
theorem dX0_apply_50 : decode cX0_apply 50 = .ok (.dup, 1) := by decide +kernel
theorem dX0_apply_51 : decode cX0_apply 51 = .ok (.ldc 118, 2) := by decide +kernel
theorem dX0_apply_53 : decode cX0_apply 53 = .ok (.invokespecial 117, 3) := by decide +kernel
theorem dX0_apply_56 : decode cX0_apply 56 = .ok (.athrow, 1) := by decide +kernel
theorem dX0_apply_57 : decode cX0_apply 57 = .ok (.aload_n 0, 1) := by decide +kernel
theorem dX0_apply_58 : decode cX0_apply 58 = .ok (.getfield 51, 3) := by decide +kernel
theorem dX0_apply_61 : decode cX0_apply 61 = .ok (.bipush 8, 2) := by decide +kernel
theorem dX0_apply_63 : decode cX0_apply 63 = .ok (.if_icmp .lt 13, 3) := by decide +kernel
theorem dX0_apply_66 : decode cX0_apply 66 = .ok (.new 101, 3) := by decide +kernel
theorem dX0_apply_69 : decode cX0_apply 69 = .ok (.dup, 1) := by decide +kernel
theorem dX0_apply_70 : decode cX0_apply 70 = .ok (.ldc 120, 2) := by decide +kernel
theorem dX0_apply_72 : decode cX0_apply 72 = .ok (.invokespecial 105, 3) := by decide +kernel
theorem dX0_apply_75 : decode cX0_apply 75 = .ok (.athrow, 1) := by decide +kernel
theorem dX0_apply_76 : decode cX0_apply 76 = .ok (.iload_n 1, 1) := by decide +kernel
theorem dX0_apply_77 : decode cX0_apply 77 = .ok (.invokestatic 74, 3) := by decide +kernel
theorem dX0_apply_80 : decode cX0_apply 80 = .ok (.iconst 0, 1) := by decide +kernel
theorem dX0_apply_81 : decode cX0_apply 81 = .ok (.invokestatic 74, 3) := by decide +kernel
theorem dX0_apply_84 : decode cX0_apply 84 = .ok (.iadd, 1) := by decide +kernel
theorem dX0_apply_85 : decode cX0_apply 85 = .ok (.istore 5, 2) := by decide +kernel
theorem dX0_apply_87 : decode cX0_apply 87 = .ok (.aload_n 0, 1) := by decide +kernel
theorem dX0_apply_88 : decode cX0_apply 88 = .ok (.iload_n 1, 1) := by decide +kernel
theorem dX0_apply_89 : decode cX0_apply 89 = .ok (.iload_n 3, 1) := by decide +kernel
theorem dX0_apply_90 : decode cX0_apply 90 = .ok (.invokestatic 70, 3) := by decide +kernel
theorem dX0_apply_93 : decode cX0_apply 93 = .ok (.lconst 1, 1) := by decide +kernel
theorem dX0_apply_94 : decode cX0_apply 94 = .ok (.iload_n 3, 1) := by decide +kernel
theorem dX0_apply_95 : decode cX0_apply 95 = .ok (.lshl, 1) := by decide +kernel
theorem dX0_apply_96 : decode cX0_apply 96 = .ok (.iconst (-1), 1) := by decide +kernel
theorem dX0_apply_97 : decode cX0_apply 97 = .ok (.iload 5, 2) := by decide +kernel
theorem dX0_apply_99 : decode cX0_apply 99 = .ok (.invokevirtual 78, 3) := by decide +kernel
theorem dX0_apply_102 : decode cX0_apply 102 = .ok (.istore 6, 2) := by decide +kernel
theorem dX0_apply_104 : decode cX0_apply 104 = .ok (.aload_n 0, 1) := by decide +kernel
theorem dX0_apply_105 : decode cX0_apply 105 = .ok (.iload 6, 2) := by decide +kernel
theorem dX0_apply_107 : decode cX0_apply 107 = .ok (.iload_n 2, 1) := by decide +kernel
theorem dX0_apply_108 : decode cX0_apply 108 = .ok (.bipush 16, 2) := by decide +kernel
theorem dX0_apply_110 : decode cX0_apply 110 = .ok (.iload 4, 2) := by decide +kernel
theorem dX0_apply_112 : decode cX0_apply 112 = .ok (.imul, 1) := by decide +kernel
theorem dX0_apply_113 : decode cX0_apply 113 = .ok (.bipush 8, 2) := by decide +kernel
theorem dX0_apply_115 : decode cX0_apply 115 = .ok (.iadd, 1) := by decide +kernel
theorem dX0_apply_116 : decode cX0_apply 116 = .ok (.imul, 1) := by decide +kernel
theorem dX0_apply_117 : decode cX0_apply 117 = .ok (.bipush 8, 2) := by decide +kernel
theorem dX0_apply_119 : decode cX0_apply 119 = .ok (.iload 4, 2) := by decide +kernel
theorem dX0_apply_121 : decode cX0_apply 121 = .ok (.imul, 1) := by decide +kernel
theorem dX0_apply_122 : decode cX0_apply 122 = .ok (.invokevirtual 122, 3) := by decide +kernel
theorem dX0_apply_125 : decode cX0_apply 125 = .ok (.aload_n 0, 1) := by decide +kernel
theorem dX0_apply_126 : decode cX0_apply 126 = .ok (.dup, 1) := by decide +kernel
theorem dX0_apply_127 : decode cX0_apply 127 = .ok (.getfield 51, 3) := by decide +kernel
theorem dX0_apply_130 : decode cX0_apply 130 = .ok (.iconst 1, 1) := by decide +kernel
theorem dX0_apply_131 : decode cX0_apply 131 = .ok (.iadd, 1) := by decide +kernel
theorem dX0_apply_132 : decode cX0_apply 132 = .ok (.putfield 51, 3) := by decide +kernel
theorem dX0_apply_135 : decode cX0_apply 135 = .ok (.iload 6, 2) := by decide +kernel
theorem dX0_apply_137 : decode cX0_apply 137 = .ok (.ireturn, 1) := by decide +kernel
theorem dX0_lay_0 : decode cX0_lay 0 = .ok (.iload_n 1, 1) := by decide +kernel
theorem dX0_lay_1 : decode cX0_lay 1 = .ok (.iconst 1, 1) := by decide +kernel
theorem dX0_lay_2 : decode cX0_lay 2 = .ok (.if_icmp .lt 9, 3) := by decide +kernel
theorem dX0_lay_5 : decode cX0_lay 5 = .ok (.iload_n 1, 1) := by decide +kernel
theorem dX0_lay_6 : decode cX0_lay 6 = .ok (.bipush 12, 2) := by decide +kernel
theorem dX0_lay_8 : decode cX0_lay 8 = .ok (.if_icmp .le 13, 3) := by decide +kernel
theorem dX0_lay_11 : decode cX0_lay 11 = .ok (.new 113, 3) := by decide +kernel
theorem dX0_lay_14 : decode cX0_lay 14 = .ok (.dup, 1) := by decide +kernel
theorem dX0_lay_15 : decode cX0_lay 15 = .ok (.ldc 126, 2) := by decide +kernel
theorem dX0_lay_17 : decode cX0_lay 17 = .ok (.invokespecial 117, 3) := by decide +kernel
theorem dX0_lay_20 : decode cX0_lay 20 = .ok (.athrow, 1) := by decide +kernel
theorem dX0_lay_21 : decode cX0_lay 21 = .ok (.iload_n 2, 1) := by decide +kernel
theorem dX0_lay_22 : decode cX0_lay 22 = .ok (.ifCond .lt 7, 3) := by decide +kernel
theorem dX0_lay_25 : decode cX0_lay 25 = .ok (.iload_n 3, 1) := by decide +kernel
theorem dX0_lay_26 : decode cX0_lay 26 = .ok (.ifCond .ge 13, 3) := by decide +kernel
theorem dX0_lay_29 : decode cX0_lay 29 = .ok (.new 113, 3) := by decide +kernel
theorem dX0_lay_32 : decode cX0_lay 32 = .ok (.dup, 1) := by decide +kernel
theorem dX0_lay_33 : decode cX0_lay 33 = .ok (.ldc 128, 2) := by decide +kernel
theorem dX0_lay_35 : decode cX0_lay 35 = .ok (.invokespecial 117, 3) := by decide +kernel
theorem dX0_lay_38 : decode cX0_lay 38 = .ok (.athrow, 1) := by decide +kernel
theorem dX0_lay_39 : decode cX0_lay 39 = .ok (.aload_n 0, 1) := by decide +kernel
theorem dX0_lay_40 : decode cX0_lay 40 = .ok (.invokevirtual 60, 3) := by decide +kernel
theorem dX0_lay_43 : decode cX0_lay 43 = .ok (.aload_n 0, 1) := by decide +kernel
theorem dX0_lay_44 : decode cX0_lay 44 = .ok (.invokevirtual 130, 3) := by decide +kernel
theorem dX0_lay_47 : decode cX0_lay 47 = .ok (.iconst 1, 1) := by decide +kernel
theorem dX0_lay_48 : decode cX0_lay 48 = .ok (.istore 4, 2) := by decide +kernel
theorem dX0_lay_50 : decode cX0_lay 50 = .ok (.iconst 0, 1) := by decide +kernel
theorem dX0_lay_51 : decode cX0_lay 51 = .ok (.istore 5, 2) := by decide +kernel
theorem dX0_lay_53 : decode cX0_lay 53 = .ok (.iload 5, 2) := by decide +kernel
theorem dX0_lay_55 : decode cX0_lay 55 = .ok (.aload_n 0, 1) := by decide +kernel
theorem dX0_lay_56 : decode cX0_lay 56 = .ok (.getfield 48, 3) := by decide +kernel
theorem dX0_lay_59 : decode cX0_lay 59 = .ok (.if_icmp .ge 53, 3) := by decide +kernel
theorem dX0_lay_62 : decode cX0_lay 62 = .ok (.aload_n 0, 1) := by decide +kernel
theorem dX0_lay_63 : decode cX0_lay 63 = .ok (.iload 5, 2) := by decide +kernel
theorem dX0_lay_65 : decode cX0_lay 65 = .ok (.iload_n 1, 1) := by decide +kernel
theorem dX0_lay_66 : decode cX0_lay 66 = .ok (.iload_n 2, 1) := by decide +kernel
theorem dX0_lay_67 : decode cX0_lay 67 = .ok (.iload_n 3, 1) := by decide +kernel
theorem dX0_lay_68 : decode cX0_lay 68 = .ok (.invokevirtual 133, 3) := by decide +kernel
theorem dX0_lay_71 : decode cX0_lay 71 = .ok (.istore 6, 2) := by decide +kernel
theorem dX0_lay_73 : decode cX0_lay 73 = .ok (.iload 6, 2) := by decide +kernel
theorem dX0_lay_75 : decode cX0_lay 75 = .ok (.iconst (-1), 1) := by decide +kernel
theorem dX0_lay_76 : decode cX0_lay 76 = .ok (.if_icmp .ne 11, 3) := by decide +kernel
theorem dX0_lay_79 : decode cX0_lay 79 = .ok (.aload_n 0, 1) := by decide +kernel
theorem dX0_lay_80 : decode cX0_lay 80 = .ok (.iload 5, 2) := by decide +kernel
theorem dX0_lay_82 : decode cX0_lay 82 = .ok (.putfield 44, 3) := by decide +kernel
theorem dX0_lay_85 : decode cX0_lay 85 = .ok (.iconst (-1), 1) := by decide +kernel
theorem dX0_lay_86 : decode cX0_lay 86 = .ok (.ireturn, 1) := by decide +kernel
theorem dX0_lay_87 : decode cX0_lay 87 = .ok (.aload_n 0, 1) := by decide +kernel
theorem dX0_lay_88 : decode cX0_lay 88 = .ok (.iload 5, 2) := by decide +kernel
theorem dX0_lay_90 : decode cX0_lay 90 = .ok (.iload 6, 2) := by decide +kernel
theorem dX0_lay_92 : decode cX0_lay 92 = .ok (.invokevirtual 137, 3) := by decide +kernel
theorem dX0_lay_95 : decode cX0_lay 95 = .ok (.iload 4, 2) := by decide +kernel
theorem dX0_lay_97 : decode cX0_lay 97 = .ok (.iload 6, 2) := by decide +kernel
theorem dX0_lay_99 : decode cX0_lay 99 = .ok (.iconst 1, 1) := by decide +kernel
theorem dX0_lay_100 : decode cX0_lay 100 = .ok (.iadd, 1) := by decide +kernel
theorem dX0_lay_101 : decode cX0_lay 101 = .ok (.invokestatic 141, 3) := by decide +kernel
theorem dX0_lay_104 : decode cX0_lay 104 = .ok (.istore 4, 2) := by decide +kernel
theorem dX0_lay_106 : decode cX0_lay 106 = .ok (.iinc 5 1, 3) := by decide +kernel
theorem dX0_lay_109 : decode cX0_lay 109 = .ok (.goto (-56), 3) := by decide +kernel
theorem dX0_lay_112 : decode cX0_lay 112 = .ok (.aload_n 0, 1) := by decide +kernel
theorem dX0_lay_113 : decode cX0_lay 113 = .ok (.iload 4, 2) := by decide +kernel
theorem dX0_lay_115 : decode cX0_lay 115 = .ok (.putfield 147, 3) := by decide +kernel
theorem dX0_lay_118 : decode cX0_lay 118 = .ok (.iload 4, 2) := by decide +kernel
theorem dX0_lay_120 : decode cX0_lay 120 = .ok (.ireturn, 1) := by decide +kernel
theorem dX0_homeless_0 : decode cX0_homeless 0 = .ok (.aload_n 0, 1) := by decide +kernel
theorem dX0_homeless_1 : decode cX0_homeless 1 = .ok (.getfield 44, 3) := by decide +kernel
theorem dX0_homeless_4 : decode cX0_homeless 4 = .ok (.ireturn, 1) := by decide +kernel
theorem dX0_stage_0 : decode cX0_stage 0 = .ok (.aload_n 0, 1) := by decide +kernel
theorem dX0_stage_1 : decode cX0_stage 1 = .ok (.getfield 147, 3) := by decide +kernel
theorem dX0_stage_4 : decode cX0_stage 4 = .ok (.ifCond .eq 21, 3) := by decide +kernel
theorem dX0_stage_7 : decode cX0_stage 7 = .ok (.iload_n 1, 1) := by decide +kernel
theorem dX0_stage_8 : decode cX0_stage 8 = .ok (.ifCond .lt 17, 3) := by decide +kernel
theorem dX0_stage_11 : decode cX0_stage 11 = .ok (.iload_n 1, 1) := by decide +kernel
theorem dX0_stage_12 : decode cX0_stage 12 = .ok (.aload_n 0, 1) := by decide +kernel
theorem dX0_stage_13 : decode cX0_stage 13 = .ok (.getfield 48, 3) := by decide +kernel
theorem dX0_stage_16 : decode cX0_stage 16 = .ok (.if_icmp .ge 9, 3) := by decide +kernel
theorem dX0_stage_19 : decode cX0_stage 19 = .ok (.iload_n 1, 1) := by decide +kernel
theorem dX0_stage_20 : decode cX0_stage 20 = .ok (.bipush 48, 2) := by decide +kernel
theorem dX0_stage_22 : decode cX0_stage 22 = .ok (.if_icmp .lt 5, 3) := by decide +kernel
theorem dX0_stage_25 : decode cX0_stage 25 = .ok (.iconst (-1), 1) := by decide +kernel
theorem dX0_stage_26 : decode cX0_stage 26 = .ok (.ireturn, 1) := by decide +kernel
theorem dX0_stage_27 : decode cX0_stage 27 = .ok (.aload_n 0, 1) := by decide +kernel
theorem dX0_stage_28 : decode cX0_stage 28 = .ok (.getfield 29, 3) := by decide +kernel
theorem dX0_stage_31 : decode cX0_stage 31 = .ok (.iload_n 1, 1) := by decide +kernel
theorem dX0_stage_32 : decode cX0_stage 32 = .ok (.iaload, 1) := by decide +kernel
theorem dX0_stage_33 : decode cX0_stage 33 = .ok (.ireturn, 1) := by decide +kernel
theorem dX0_used_0 : decode cX0_used 0 = .ok (.iload_n 1, 1) := by decide +kernel
theorem dX0_used_1 : decode cX0_used 1 = .ok (.ifCond .lt 17, 3) := by decide +kernel
theorem dX0_used_4 : decode cX0_used 4 = .ok (.iload_n 1, 1) := by decide +kernel
theorem dX0_used_5 : decode cX0_used 5 = .ok (.aload_n 0, 1) := by decide +kernel
theorem dX0_used_6 : decode cX0_used 6 = .ok (.getfield 147, 3) := by decide +kernel
theorem dX0_used_9 : decode cX0_used 9 = .ok (.if_icmp .ge 9, 3) := by decide +kernel
theorem dX0_used_12 : decode cX0_used 12 = .ok (.iload_n 1, 1) := by decide +kernel
theorem dX0_used_13 : decode cX0_used 13 = .ok (.bipush 12, 2) := by decide +kernel
theorem dX0_used_15 : decode cX0_used 15 = .ok (.if_icmp .lt 5, 3) := by decide +kernel
theorem dX0_used_18 : decode cX0_used 18 = .ok (.iconst (-1), 1) := by decide +kernel
theorem dX0_used_19 : decode cX0_used 19 = .ok (.ireturn, 1) := by decide +kernel
theorem dX0_used_20 : decode cX0_used 20 = .ok (.iload_n 2, 1) := by decide +kernel
theorem dX0_used_21 : decode cX0_used 21 = .ok (.tableswitch 48 0 2 #[27, 34, 41], 27) := by decide +kernel
theorem dX0_used_48 : decode cX0_used 48 = .ok (.aload_n 0, 1) := by decide +kernel
theorem dX0_used_49 : decode cX0_used 49 = .ok (.getfield 35, 3) := by decide +kernel
theorem dX0_used_52 : decode cX0_used 52 = .ok (.iload_n 1, 1) := by decide +kernel
theorem dX0_used_53 : decode cX0_used 53 = .ok (.iaload, 1) := by decide +kernel
theorem dX0_used_54 : decode cX0_used 54 = .ok (.ireturn, 1) := by decide +kernel
theorem dX0_used_55 : decode cX0_used 55 = .ok (.aload_n 0, 1) := by decide +kernel
theorem dX0_used_56 : decode cX0_used 56 = .ok (.getfield 38, 3) := by decide +kernel
theorem dX0_used_59 : decode cX0_used 59 = .ok (.iload_n 1, 1) := by decide +kernel
theorem dX0_used_60 : decode cX0_used 60 = .ok (.iaload, 1) := by decide +kernel
theorem dX0_used_61 : decode cX0_used 61 = .ok (.ireturn, 1) := by decide +kernel
theorem dX0_used_62 : decode cX0_used 62 = .ok (.aload_n 0, 1) := by decide +kernel
theorem dX0_used_63 : decode cX0_used 63 = .ok (.getfield 41, 3) := by decide +kernel
theorem dX0_used_66 : decode cX0_used 66 = .ok (.iload_n 1, 1) := by decide +kernel
theorem dX0_used_67 : decode cX0_used 67 = .ok (.iaload, 1) := by decide +kernel
theorem dX0_used_68 : decode cX0_used 68 = .ok (.ireturn, 1) := by decide +kernel
theorem dX0_used_69 : decode cX0_used 69 = .ok (.iconst (-1), 1) := by decide +kernel
theorem dX0_used_70 : decode cX0_used 70 = .ok (.ireturn, 1) := by decide +kernel
theorem dX0_count_0 : decode cX0_count 0 = .ok (.iload_n 1, 1) := by decide +kernel
theorem dX0_count_1 : decode cX0_count 1 = .ok (.tableswitch 42 0 2 #[27, 32, 37], 27) := by decide +kernel
theorem dX0_count_28 : decode cX0_count 28 = .ok (.aload_n 0, 1) := by decide +kernel
theorem dX0_count_29 : decode cX0_count 29 = .ok (.getfield 48, 3) := by decide +kernel
theorem dX0_count_32 : decode cX0_count 32 = .ok (.ireturn, 1) := by decide +kernel
theorem dX0_count_33 : decode cX0_count 33 = .ok (.aload_n 0, 1) := by decide +kernel
theorem dX0_count_34 : decode cX0_count 34 = .ok (.getfield 51, 3) := by decide +kernel
theorem dX0_count_37 : decode cX0_count 37 = .ok (.ireturn, 1) := by decide +kernel
theorem dX0_count_38 : decode cX0_count 38 = .ok (.aload_n 0, 1) := by decide +kernel
theorem dX0_count_39 : decode cX0_count 39 = .ok (.getfield 54, 3) := by decide +kernel
theorem dX0_count_42 : decode cX0_count 42 = .ok (.ireturn, 1) := by decide +kernel
theorem dX0_count_43 : decode cX0_count 43 = .ok (.iconst (-1), 1) := by decide +kernel
theorem dX0_count_44 : decode cX0_count 44 = .ok (.ireturn, 1) := by decide +kernel
theorem dX0_requirePlace_0 : decode cX0_requirePlace 0 = .ok (.iload_n 0, 1) := by decide +kernel
theorem dX0_requirePlace_1 : decode cX0_requirePlace 1 = .ok (.ifCond .lt 9, 3) := by decide +kernel
theorem dX0_requirePlace_4 : decode cX0_requirePlace 4 = .ok (.iload_n 0, 1) := by decide +kernel
theorem dX0_requirePlace_5 : decode cX0_requirePlace 5 = .ok (.bipush 28, 2) := by decide +kernel
theorem dX0_requirePlace_7 : decode cX0_requirePlace 7 = .ok (.if_icmp .lt 13, 3) := by decide +kernel
theorem dX0_requirePlace_10 : decode cX0_requirePlace 10 = .ok (.new 89, 3) := by decide +kernel
theorem dX0_requirePlace_13 : decode cX0_requirePlace 13 = .ok (.dup, 1) := by decide +kernel
theorem dX0_requirePlace_14 : decode cX0_requirePlace 14 = .ok (.ldc 150, 2) := by decide +kernel
theorem dX0_requirePlace_16 : decode cX0_requirePlace 16 = .ok (.invokespecial 93, 3) := by decide +kernel
theorem dX0_requirePlace_19 : decode cX0_requirePlace 19 = .ok (.athrow, 1) := by decide +kernel
theorem dX0_requirePlace_20 : decode cX0_requirePlace 20 = .ok (.return_, 1) := by decide +kernel
theorem dX0_requireArray_0 : decode cX0_requireArray 0 = .ok (.iload_n 0, 1) := by decide +kernel
theorem dX0_requireArray_1 : decode cX0_requireArray 1 = .ok (.ifCond .lt 9, 3) := by decide +kernel
theorem dX0_requireArray_4 : decode cX0_requireArray 4 = .ok (.iload_n 0, 1) := by decide +kernel
theorem dX0_requireArray_5 : decode cX0_requireArray 5 = .ok (.bipush 8, 2) := by decide +kernel
theorem dX0_requireArray_7 : decode cX0_requireArray 7 = .ok (.if_icmp .lt 13, 3) := by decide +kernel
theorem dX0_requireArray_10 : decode cX0_requireArray 10 = .ok (.new 89, 3) := by decide +kernel
theorem dX0_requireArray_13 : decode cX0_requireArray 13 = .ok (.dup, 1) := by decide +kernel
theorem dX0_requireArray_14 : decode cX0_requireArray 14 = .ok (.ldc 152, 2) := by decide +kernel
theorem dX0_requireArray_16 : decode cX0_requireArray 16 = .ok (.invokespecial 93, 3) := by decide +kernel
theorem dX0_requireArray_19 : decode cX0_requireArray 19 = .ok (.athrow, 1) := by decide +kernel
theorem dX0_requireArray_20 : decode cX0_requireArray 20 = .ok (.return_, 1) := by decide +kernel
theorem dX0_requireReadable_0 : decode cX0_requireReadable 0 = .ok (.iload_n 0, 1) := by decide +kernel
theorem dX0_requireReadable_1 : decode cX0_requireReadable 1 = .ok (.bipush 28, 2) := by decide +kernel
theorem dX0_requireReadable_3 : decode cX0_requireReadable 3 = .ok (.iushr, 1) := by decide +kernel
theorem dX0_requireReadable_4 : decode cX0_requireReadable 4 = .ok (.ifCond .eq 13, 3) := by decide +kernel
theorem dX0_requireReadable_7 : decode cX0_requireReadable 7 = .ok (.new 89, 3) := by decide +kernel
theorem dX0_requireReadable_10 : decode cX0_requireReadable 10 = .ok (.dup, 1) := by decide +kernel
theorem dX0_requireReadable_11 : decode cX0_requireReadable 11 = .ok (.ldc 154, 2) := by decide +kernel
theorem dX0_requireReadable_13 : decode cX0_requireReadable 13 = .ok (.invokespecial 93, 3) := by decide +kernel
theorem dX0_requireReadable_16 : decode cX0_requireReadable 16 = .ok (.athrow, 1) := by decide +kernel
theorem dX0_requireReadable_17 : decode cX0_requireReadable 17 = .ok (.return_, 1) := by decide +kernel
theorem dX0_validitiesOf_0 : decode cX0_validitiesOf 0 = .ok (.iload_n 0, 1) := by decide +kernel
theorem dX0_validitiesOf_1 : decode cX0_validitiesOf 1 = .ok (.bipush 16, 2) := by decide +kernel
theorem dX0_validitiesOf_3 : decode cX0_validitiesOf 3 = .ok (.iushr, 1) := by decide +kernel
theorem dX0_validitiesOf_4 : decode cX0_validitiesOf 4 = .ok (.i2l, 1) := by decide +kernel
theorem dX0_validitiesOf_5 : decode cX0_validitiesOf 5 = .ok (.bipush 28, 2) := by decide +kernel
theorem dX0_validitiesOf_7 : decode cX0_validitiesOf 7 = .ok (.lshl, 1) := by decide +kernel
theorem dX0_validitiesOf_8 : decode cX0_validitiesOf 8 = .ok (.lreturn, 1) := by decide +kernel
theorem dX0_reading_0 : decode cX0_reading 0 = .ok (.iload_n 0, 1) := by decide +kernel
theorem dX0_reading_1 : decode cX0_reading 1 = .ok (.i2l, 1) := by decide +kernel
theorem dX0_reading_2 : decode cX0_reading 2 = .ok (.iload_n 0, 1) := by decide +kernel
theorem dX0_reading_3 : decode cX0_reading 3 = .ok (.invokestatic 96, 3) := by decide +kernel
theorem dX0_reading_6 : decode cX0_reading 6 = .ok (.lor, 1) := by decide +kernel
theorem dX0_reading_7 : decode cX0_reading 7 = .ok (.lreturn, 1) := by decide +kernel
theorem dX0_readingAndWriting_0 : decode cX0_readingAndWriting 0 = .ok (.iload_n 0, 1) := by decide +kernel
theorem dX0_readingAndWriting_1 : decode cX0_readingAndWriting 1 = .ok (.invokestatic 85, 3) := by decide +kernel
theorem dX0_readingAndWriting_4 : decode cX0_readingAndWriting 4 = .ok (.iconst 1, 1) := by decide +kernel
theorem dX0_readingAndWriting_5 : decode cX0_readingAndWriting 5 = .ok (.iload_n 1, 1) := by decide +kernel
theorem dX0_readingAndWriting_6 : decode cX0_readingAndWriting 6 = .ok (.ishl, 1) := by decide +kernel
theorem dX0_readingAndWriting_7 : decode cX0_readingAndWriting 7 = .ok (.invokestatic 96, 3) := by decide +kernel
theorem dX0_readingAndWriting_10 : decode cX0_readingAndWriting 10 = .ok (.lor, 1) := by decide +kernel
theorem dX0_readingAndWriting_11 : decode cX0_readingAndWriting 11 = .ok (.lreturn, 1) := by decide +kernel
theorem dX0_costOf_0 : decode cX0_costOf 0 = .ok (.iconst 1, 1) := by decide +kernel
theorem dX0_costOf_1 : decode cX0_costOf 1 = .ok (.iload_n 0, 1) := by decide +kernel
theorem dX0_costOf_2 : decode cX0_costOf 2 = .ok (.invokestatic 108, 3) := by decide +kernel
theorem dX0_costOf_5 : decode cX0_costOf 5 = .ok (.invokestatic 141, 3) := by decide +kernel
theorem dX0_costOf_8 : decode cX0_costOf 8 = .ok (.ireturn, 1) := by decide +kernel
theorem dX0_addStep_0 : decode cX0_addStep 0 = .ok (.aload_n 0, 1) := by decide +kernel
theorem dX0_addStep_1 : decode cX0_addStep 1 = .ok (.getfield 48, 3) := by decide +kernel
theorem dX0_addStep_4 : decode cX0_addStep 4 = .ok (.ifCond .lt 12, 3) := by decide +kernel
theorem dX0_addStep_7 : decode cX0_addStep 7 = .ok (.aload_n 0, 1) := by decide +kernel
theorem dX0_addStep_8 : decode cX0_addStep 8 = .ok (.getfield 48, 3) := by decide +kernel
theorem dX0_addStep_11 : decode cX0_addStep 11 = .ok (.bipush 48, 2) := by decide +kernel
theorem dX0_addStep_13 : decode cX0_addStep 13 = .ok (.if_icmp .lt 13, 3) := by decide +kernel
theorem dX0_addStep_16 : decode cX0_addStep 16 = .ok (.new 101, 3) := by decide +kernel
theorem dX0_addStep_19 : decode cX0_addStep 19 = .ok (.dup, 1) := by decide +kernel
theorem dX0_addStep_20 : decode cX0_addStep 20 = .ok (.ldc 156, 2) := by decide +kernel
theorem dX0_addStep_22 : decode cX0_addStep 22 = .ok (.invokespecial 105, 3) := by decide +kernel
theorem dX0_addStep_25 : decode cX0_addStep 25 = .ok (.athrow, 1) := by decide +kernel
theorem dX0_addStep_26 : decode cX0_addStep 26 = .ok (.aload_n 0, 1) := by decide +kernel
theorem dX0_addStep_27 : decode cX0_addStep 27 = .ok (.getfield 57, 3) := by decide +kernel
theorem dX0_addStep_30 : decode cX0_addStep 30 = .ok (.iload 6, 2) := by decide +kernel
theorem dX0_addStep_32 : decode cX0_addStep 32 = .ok (.iadd, 1) := by decide +kernel
theorem dX0_addStep_33 : decode cX0_addStep 33 = .ok (.sipush 800, 3) := by decide +kernel
theorem dX0_addStep_36 : decode cX0_addStep 36 = .ok (.if_icmp .le 13, 3) := by decide +kernel
theorem dX0_addStep_39 : decode cX0_addStep 39 = .ok (.new 101, 3) := by decide +kernel
theorem dX0_addStep_42 : decode cX0_addStep 42 = .ok (.dup, 1) := by decide +kernel
theorem dX0_addStep_43 : decode cX0_addStep 43 = .ok (.ldc 158, 2) := by decide +kernel
theorem dX0_addStep_45 : decode cX0_addStep 45 = .ok (.invokespecial 105, 3) := by decide +kernel
theorem dX0_addStep_48 : decode cX0_addStep 48 = .ok (.athrow, 1) := by decide +kernel
theorem dX0_addStep_49 : decode cX0_addStep 49 = .ok (.aload_n 0, 1) := by decide +kernel
theorem dX0_addStep_50 : decode cX0_addStep 50 = .ok (.getfield 48, 3) := by decide +kernel
theorem dX0_addStep_53 : decode cX0_addStep 53 = .ok (.istore 7, 2) := by decide +kernel
theorem dX0_addStep_55 : decode cX0_addStep 55 = .ok (.aload_n 0, 1) := by decide +kernel
theorem dX0_addStep_56 : decode cX0_addStep 56 = .ok (.getfield 9, 3) := by decide +kernel
theorem dX0_addStep_59 : decode cX0_addStep 59 = .ok (.iload 7, 2) := by decide +kernel
theorem dX0_addStep_61 : decode cX0_addStep 61 = .ok (.lload_n 1, 1) := by decide +kernel
theorem dX0_addStep_62 : decode cX0_addStep 62 = .ok (.lastore, 1) := by decide +kernel
theorem dX0_addStep_63 : decode cX0_addStep 63 = .ok (.aload_n 0, 1) := by decide +kernel
theorem dX0_addStep_64 : decode cX0_addStep 64 = .ok (.getfield 13, 3) := by decide +kernel
theorem dX0_addStep_67 : decode cX0_addStep 67 = .ok (.iload 7, 2) := by decide +kernel
theorem dX0_addStep_69 : decode cX0_addStep 69 = .ok (.lload_n 3, 1) := by decide +kernel
theorem dX0_addStep_70 : decode cX0_addStep 70 = .ok (.lastore, 1) := by decide +kernel
theorem dX0_addStep_71 : decode cX0_addStep 71 = .ok (.aload_n 0, 1) := by decide +kernel
theorem dX0_addStep_72 : decode cX0_addStep 72 = .ok (.getfield 16, 3) := by decide +kernel
theorem dX0_addStep_75 : decode cX0_addStep 75 = .ok (.iload 7, 2) := by decide +kernel
theorem dX0_addStep_77 : decode cX0_addStep 77 = .ok (.iload 5, 2) := by decide +kernel
theorem dX0_addStep_79 : decode cX0_addStep 79 = .ok (.iastore, 1) := by decide +kernel
theorem dX0_addStep_80 : decode cX0_addStep 80 = .ok (.aload_n 0, 1) := by decide +kernel
theorem dX0_addStep_81 : decode cX0_addStep 81 = .ok (.getfield 20, 3) := by decide +kernel
theorem dX0_addStep_84 : decode cX0_addStep 84 = .ok (.iload 7, 2) := by decide +kernel
theorem dX0_addStep_86 : decode cX0_addStep 86 = .ok (.aload_n 0, 1) := by decide +kernel
theorem dX0_addStep_87 : decode cX0_addStep 87 = .ok (.invokevirtual 160, 3) := by decide +kernel
theorem dX0_addStep_90 : decode cX0_addStep 90 = .ok (.iastore, 1) := by decide +kernel
theorem dX0_addStep_91 : decode cX0_addStep 91 = .ok (.aload_n 0, 1) := by decide +kernel
theorem dX0_addStep_92 : decode cX0_addStep 92 = .ok (.iload 7, 2) := by decide +kernel
theorem dX0_addStep_94 : decode cX0_addStep 94 = .ok (.iconst 0, 1) := by decide +kernel
theorem dX0_addStep_95 : decode cX0_addStep 95 = .ok (.iconst 0, 1) := by decide +kernel
theorem dX0_addStep_96 : decode cX0_addStep 96 = .ok (.invokevirtual 122, 3) := by decide +kernel
theorem dX0_addStep_99 : decode cX0_addStep 99 = .ok (.aload_n 0, 1) := by decide +kernel
theorem dX0_addStep_100 : decode cX0_addStep 100 = .ok (.dup, 1) := by decide +kernel
theorem dX0_addStep_101 : decode cX0_addStep 101 = .ok (.getfield 48, 3) := by decide +kernel
theorem dX0_addStep_104 : decode cX0_addStep 104 = .ok (.iconst 1, 1) := by decide +kernel
theorem dX0_addStep_105 : decode cX0_addStep 105 = .ok (.iadd, 1) := by decide +kernel
theorem dX0_addStep_106 : decode cX0_addStep 106 = .ok (.putfield 48, 3) := by decide +kernel
theorem dX0_addStep_109 : decode cX0_addStep 109 = .ok (.aload_n 0, 1) := by decide +kernel
theorem dX0_addStep_110 : decode cX0_addStep 110 = .ok (.dup, 1) := by decide +kernel
theorem dX0_addStep_111 : decode cX0_addStep 111 = .ok (.getfield 57, 3) := by decide +kernel
theorem dX0_addStep_114 : decode cX0_addStep 114 = .ok (.iload 6, 2) := by decide +kernel
theorem dX0_addStep_116 : decode cX0_addStep 116 = .ok (.iadd, 1) := by decide +kernel
theorem dX0_addStep_117 : decode cX0_addStep 117 = .ok (.putfield 57, 3) := by decide +kernel
theorem dX0_addStep_120 : decode cX0_addStep 120 = .ok (.aload_n 0, 1) := by decide +kernel
theorem dX0_addStep_121 : decode cX0_addStep 121 = .ok (.invokevirtual 60, 3) := by decide +kernel
theorem dX0_addStep_124 : decode cX0_addStep 124 = .ok (.iload 7, 2) := by decide +kernel
theorem dX0_addStep_126 : decode cX0_addStep 126 = .ok (.ireturn, 1) := by decide +kernel
theorem dX0_need_0 : decode cX0_need 0 = .ok (.iload_n 1, 1) := by decide +kernel
theorem dX0_need_1 : decode cX0_need 1 = .ok (.ifCond .lt 23, 3) := by decide +kernel
theorem dX0_need_4 : decode cX0_need 4 = .ok (.iload_n 1, 1) := by decide +kernel
theorem dX0_need_5 : decode cX0_need 5 = .ok (.bipush 48, 2) := by decide +kernel
theorem dX0_need_7 : decode cX0_need 7 = .ok (.if_icmp .ge 17, 3) := by decide +kernel
theorem dX0_need_10 : decode cX0_need 10 = .ok (.aload_n 0, 1) := by decide +kernel
theorem dX0_need_11 : decode cX0_need 11 = .ok (.getfield 23, 3) := by decide +kernel
theorem dX0_need_14 : decode cX0_need 14 = .ok (.iload_n 1, 1) := by decide +kernel
theorem dX0_need_15 : decode cX0_need 15 = .ok (.iload_n 2, 1) := by decide +kernel
theorem dX0_need_16 : decode cX0_need 16 = .ok (.iastore, 1) := by decide +kernel
theorem dX0_need_17 : decode cX0_need 17 = .ok (.aload_n 0, 1) := by decide +kernel
theorem dX0_need_18 : decode cX0_need 18 = .ok (.getfield 26, 3) := by decide +kernel
theorem dX0_need_21 : decode cX0_need 21 = .ok (.iload_n 1, 1) := by decide +kernel
theorem dX0_need_22 : decode cX0_need 22 = .ok (.iload_n 3, 1) := by decide +kernel
theorem dX0_need_23 : decode cX0_need 23 = .ok (.iastore, 1) := by decide +kernel
theorem dX0_need_24 : decode cX0_need 24 = .ok (.return_, 1) := by decide +kernel
theorem dX0_innermostIf_0 : decode cX0_innermostIf 0 = .ok (.aload_n 0, 1) := by decide +kernel
theorem dX0_innermostIf_1 : decode cX0_innermostIf 1 = .ok (.getfield 54, 3) := by decide +kernel
theorem dX0_innermostIf_4 : decode cX0_innermostIf 4 = .ok (.iconst 1, 1) := by decide +kernel
theorem dX0_innermostIf_5 : decode cX0_innermostIf 5 = .ok (.if_icmp .lt 26, 3) := by decide +kernel
theorem dX0_innermostIf_8 : decode cX0_innermostIf 8 = .ok (.aload_n 0, 1) := by decide +kernel
theorem dX0_innermostIf_9 : decode cX0_innermostIf 9 = .ok (.getfield 54, 3) := by decide +kernel
theorem dX0_innermostIf_12 : decode cX0_innermostIf 12 = .ok (.bipush 8, 2) := by decide +kernel
theorem dX0_innermostIf_14 : decode cX0_innermostIf 14 = .ok (.if_icmp .gt 17, 3) := by decide +kernel
theorem dX0_innermostIf_17 : decode cX0_innermostIf 17 = .ok (.aload_n 0, 1) := by decide +kernel
theorem dX0_innermostIf_18 : decode cX0_innermostIf 18 = .ok (.getfield 32, 3) := by decide +kernel
theorem dX0_innermostIf_21 : decode cX0_innermostIf 21 = .ok (.aload_n 0, 1) := by decide +kernel
theorem dX0_innermostIf_22 : decode cX0_innermostIf 22 = .ok (.getfield 54, 3) := by decide +kernel
theorem dX0_innermostIf_25 : decode cX0_innermostIf 25 = .ok (.iconst 1, 1) := by decide +kernel
theorem dX0_innermostIf_26 : decode cX0_innermostIf 26 = .ok (.isub, 1) := by decide +kernel
theorem dX0_innermostIf_27 : decode cX0_innermostIf 27 = .ok (.iaload, 1) := by decide +kernel
theorem dX0_innermostIf_28 : decode cX0_innermostIf 28 = .ok (.goto 4, 3) := by decide +kernel
theorem dX0_innermostIf_31 : decode cX0_innermostIf 31 = .ok (.iconst (-1), 1) := by decide +kernel
theorem dX0_innermostIf_32 : decode cX0_innermostIf 32 = .ok (.ireturn, 1) := by decide +kernel
theorem dX0_forgetStages_0 : decode cX0_forgetStages 0 = .ok (.aload_n 0, 1) := by decide +kernel
theorem dX0_forgetStages_1 : decode cX0_forgetStages 1 = .ok (.iconst 0, 1) := by decide +kernel
theorem dX0_forgetStages_2 : decode cX0_forgetStages 2 = .ok (.putfield 147, 3) := by decide +kernel
theorem dX0_forgetStages_5 : decode cX0_forgetStages 5 = .ok (.aload_n 0, 1) := by decide +kernel
theorem dX0_forgetStages_6 : decode cX0_forgetStages 6 = .ok (.iconst (-1), 1) := by decide +kernel
theorem dX0_forgetStages_7 : decode cX0_forgetStages 7 = .ok (.putfield 44, 3) := by decide +kernel
theorem dX0_forgetStages_10 : decode cX0_forgetStages 10 = .ok (.return_, 1) := by decide +kernel
theorem dX0_emptyStages_0 : decode cX0_emptyStages 0 = .ok (.iconst 0, 1) := by decide +kernel
theorem dX0_emptyStages_1 : decode cX0_emptyStages 1 = .ok (.istore_n 1, 1) := by decide +kernel
theorem dX0_emptyStages_2 : decode cX0_emptyStages 2 = .ok (.iload_n 1, 1) := by decide +kernel
theorem dX0_emptyStages_3 : decode cX0_emptyStages 3 = .ok (.bipush 12, 2) := by decide +kernel
theorem dX0_emptyStages_5 : decode cX0_emptyStages 5 = .ok (.if_icmp .ge 30, 3) := by decide +kernel
theorem dX0_emptyStages_8 : decode cX0_emptyStages 8 = .ok (.aload_n 0, 1) := by decide +kernel
theorem dX0_emptyStages_9 : decode cX0_emptyStages 9 = .ok (.getfield 35, 3) := by decide +kernel
theorem dX0_emptyStages_12 : decode cX0_emptyStages 12 = .ok (.iload_n 1, 1) := by decide +kernel
theorem dX0_emptyStages_13 : decode cX0_emptyStages 13 = .ok (.iconst 0, 1) := by decide +kernel
theorem dX0_emptyStages_14 : decode cX0_emptyStages 14 = .ok (.iastore, 1) := by decide +kernel
theorem dX0_emptyStages_15 : decode cX0_emptyStages 15 = .ok (.aload_n 0, 1) := by decide +kernel
theorem dX0_emptyStages_16 : decode cX0_emptyStages 16 = .ok (.getfield 38, 3) := by decide +kernel
theorem dX0_emptyStages_19 : decode cX0_emptyStages 19 = .ok (.iload_n 1, 1) := by decide +kernel
theorem dX0_emptyStages_20 : decode cX0_emptyStages 20 = .ok (.iconst 0, 1) := by decide +kernel
theorem dX0_emptyStages_21 : decode cX0_emptyStages 21 = .ok (.iastore, 1) := by decide +kernel
theorem dX0_emptyStages_22 : decode cX0_emptyStages 22 = .ok (.aload_n 0, 1) := by decide +kernel
theorem dX0_emptyStages_23 : decode cX0_emptyStages 23 = .ok (.getfield 41, 3) := by decide +kernel
theorem dX0_emptyStages_26 : decode cX0_emptyStages 26 = .ok (.iload_n 1, 1) := by decide +kernel
theorem dX0_emptyStages_27 : decode cX0_emptyStages 27 = .ok (.iconst 0, 1) := by decide +kernel
theorem dX0_emptyStages_28 : decode cX0_emptyStages 28 = .ok (.iastore, 1) := by decide +kernel
theorem dX0_emptyStages_29 : decode cX0_emptyStages 29 = .ok (.iinc 1 1, 3) := by decide +kernel
theorem dX0_emptyStages_32 : decode cX0_emptyStages 32 = .ok (.goto (-30), 3) := by decide +kernel
theorem dX0_emptyStages_35 : decode cX0_emptyStages 35 = .ok (.return_, 1) := by decide +kernel
theorem dX0_findStage_0 : decode cX0_findStage 0 = .ok (.aload_n 0, 1) := by decide +kernel
theorem dX0_findStage_1 : decode cX0_findStage 1 = .ok (.iload_n 1, 1) := by decide +kernel
theorem dX0_findStage_2 : decode cX0_findStage 2 = .ok (.invokevirtual 164, 3) := by decide +kernel
theorem dX0_findStage_5 : decode cX0_findStage 5 = .ok (.istore 5, 2) := by decide +kernel
theorem dX0_findStage_7 : decode cX0_findStage 7 = .ok (.iload_n 2, 1) := by decide +kernel
theorem dX0_findStage_8 : decode cX0_findStage 8 = .ok (.iconst 1, 1) := by decide +kernel
theorem dX0_findStage_9 : decode cX0_findStage 9 = .ok (.isub, 1) := by decide +kernel
theorem dX0_findStage_10 : decode cX0_findStage 10 = .ok (.istore 6, 2) := by decide +kernel
theorem dX0_findStage_12 : decode cX0_findStage 12 = .ok (.aload_n 0, 1) := by decide +kernel
theorem dX0_findStage_13 : decode cX0_findStage 13 = .ok (.iload_n 1, 1) := by decide +kernel
theorem dX0_findStage_14 : decode cX0_findStage 14 = .ok (.invokevirtual 167, 3) := by decide +kernel
theorem dX0_findStage_17 : decode cX0_findStage 17 = .ok (.istore 7, 2) := by decide +kernel
theorem dX0_findStage_19 : decode cX0_findStage 19 = .ok (.iload 7, 2) := by decide +kernel
theorem dX0_findStage_21 : decode cX0_findStage 21 = .ok (.iconst (-1), 1) := by decide +kernel
theorem dX0_findStage_22 : decode cX0_findStage 22 = .ok (.if_icmp .eq 20, 3) := by decide +kernel
theorem dX0_findStage_25 : decode cX0_findStage 25 = .ok (.iload 7, 2) := by decide +kernel
theorem dX0_findStage_27 : decode cX0_findStage 27 = .ok (.iload 5, 2) := by decide +kernel
theorem dX0_findStage_29 : decode cX0_findStage 29 = .ok (.if_icmp .ge 5, 3) := by decide +kernel
theorem dX0_findStage_32 : decode cX0_findStage 32 = .ok (.iconst (-1), 1) := by decide +kernel
theorem dX0_findStage_33 : decode cX0_findStage 33 = .ok (.ireturn, 1) := by decide +kernel
theorem dX0_findStage_34 : decode cX0_findStage 34 = .ok (.iload 7, 2) := by decide +kernel
theorem dX0_findStage_36 : decode cX0_findStage 36 = .ok (.istore 5, 2) := by decide +kernel
theorem dX0_findStage_38 : decode cX0_findStage 38 = .ok (.iload 7, 2) := by decide +kernel
theorem dX0_findStage_40 : decode cX0_findStage 40 = .ok (.istore 6, 2) := by decide +kernel
theorem dX0_findStage_42 : decode cX0_findStage 42 = .ok (.iload 5, 2) := by decide +kernel
theorem dX0_findStage_44 : decode cX0_findStage 44 = .ok (.istore 8, 2) := by decide +kernel
theorem dX0_findStage_46 : decode cX0_findStage 46 = .ok (.iload 8, 2) := by decide +kernel
theorem dX0_findStage_48 : decode cX0_findStage 48 = .ok (.iload 6, 2) := by decide +kernel
theorem dX0_findStage_50 : decode cX0_findStage 50 = .ok (.if_icmp .gt 25, 3) := by decide +kernel
theorem dX0_findStage_53 : decode cX0_findStage 53 = .ok (.aload_n 0, 1) := by decide +kernel
theorem dX0_findStage_54 : decode cX0_findStage 54 = .ok (.iload_n 1, 1) := by decide +kernel
theorem dX0_findStage_55 : decode cX0_findStage 55 = .ok (.iload 8, 2) := by decide +kernel
theorem dX0_findStage_57 : decode cX0_findStage 57 = .ok (.iload_n 3, 1) := by decide +kernel
theorem dX0_findStage_58 : decode cX0_findStage 58 = .ok (.iload 4, 2) := by decide +kernel
theorem dX0_findStage_60 : decode cX0_findStage 60 = .ok (.invokevirtual 170, 3) := by decide +kernel
theorem dX0_findStage_63 : decode cX0_findStage 63 = .ok (.ifCond .eq 6, 3) := by decide +kernel
theorem dX0_findStage_66 : decode cX0_findStage 66 = .ok (.iload 8, 2) := by decide +kernel
theorem dX0_findStage_68 : decode cX0_findStage 68 = .ok (.ireturn, 1) := by decide +kernel
theorem dX0_findStage_69 : decode cX0_findStage 69 = .ok (.iinc 8 1, 3) := by decide +kernel
theorem dX0_findStage_72 : decode cX0_findStage 72 = .ok (.goto (-26), 3) := by decide +kernel
theorem dX0_findStage_75 : decode cX0_findStage 75 = .ok (.iconst (-1), 1) := by decide +kernel
theorem dX0_findStage_76 : decode cX0_findStage 76 = .ok (.ireturn, 1) := by decide +kernel
theorem dX0_earliestStage_0 : decode cX0_earliestStage 0 = .ok (.iload_n 1, 1) := by decide +kernel
theorem dX0_earliestStage_1 : decode cX0_earliestStage 1 = .ok (.ifCond .lt 9, 3) := by decide +kernel
theorem dX0_earliestStage_4 : decode cX0_earliestStage 4 = .ok (.iload_n 1, 1) := by decide +kernel
theorem dX0_earliestStage_5 : decode cX0_earliestStage 5 = .ok (.bipush 48, 2) := by decide +kernel
theorem dX0_earliestStage_7 : decode cX0_earliestStage 7 = .ok (.if_icmp .lt 5, 3) := by decide +kernel
theorem dX0_earliestStage_10 : decode cX0_earliestStage 10 = .ok (.iconst 0, 1) := by decide +kernel
theorem dX0_earliestStage_11 : decode cX0_earliestStage 11 = .ok (.ireturn, 1) := by decide +kernel
theorem dX0_earliestStage_12 : decode cX0_earliestStage 12 = .ok (.aload_n 0, 1) := by decide +kernel
theorem dX0_earliestStage_13 : decode cX0_earliestStage 13 = .ok (.getfield 20, 3) := by decide +kernel
theorem dX0_earliestStage_16 : decode cX0_earliestStage 16 = .ok (.iload_n 1, 1) := by decide +kernel
theorem dX0_earliestStage_17 : decode cX0_earliestStage 17 = .ok (.iaload, 1) := by decide +kernel
theorem dX0_earliestStage_18 : decode cX0_earliestStage 18 = .ok (.istore_n 2, 1) := by decide +kernel
theorem dX0_earliestStage_19 : decode cX0_earliestStage 19 = .ok (.iload_n 2, 1) := by decide +kernel
theorem dX0_earliestStage_20 : decode cX0_earliestStage 20 = .ok (.ifCond .lt 19, 3) := by decide +kernel
theorem dX0_earliestStage_23 : decode cX0_earliestStage 23 = .ok (.iload_n 2, 1) := by decide +kernel
theorem dX0_earliestStage_24 : decode cX0_earliestStage 24 = .ok (.iload_n 1, 1) := by decide +kernel
theorem dX0_earliestStage_25 : decode cX0_earliestStage 25 = .ok (.if_icmp .ge 14, 3) := by decide +kernel
theorem dX0_earliestStage_28 : decode cX0_earliestStage 28 = .ok (.aload_n 0, 1) := by decide +kernel
theorem dX0_earliestStage_29 : decode cX0_earliestStage 29 = .ok (.getfield 29, 3) := by decide +kernel
theorem dX0_earliestStage_32 : decode cX0_earliestStage 32 = .ok (.iload_n 2, 1) := by decide +kernel
theorem dX0_earliestStage_33 : decode cX0_earliestStage 33 = .ok (.iaload, 1) := by decide +kernel
theorem dX0_earliestStage_34 : decode cX0_earliestStage 34 = .ok (.iconst 1, 1) := by decide +kernel
theorem dX0_earliestStage_35 : decode cX0_earliestStage 35 = .ok (.iadd, 1) := by decide +kernel
theorem dX0_earliestStage_36 : decode cX0_earliestStage 36 = .ok (.goto 4, 3) := by decide +kernel
theorem dX0_earliestStage_39 : decode cX0_earliestStage 39 = .ok (.iconst 0, 1) := by decide +kernel
theorem dX0_earliestStage_40 : decode cX0_earliestStage 40 = .ok (.istore_n 3, 1) := by decide +kernel
theorem dX0_earliestStage_41 : decode cX0_earliestStage 41 = .ok (.aload_n 0, 1) := by decide +kernel
theorem dX0_earliestStage_42 : decode cX0_earliestStage 42 = .ok (.getfield 13, 3) := by decide +kernel
theorem dX0_earliestStage_45 : decode cX0_earliestStage 45 = .ok (.iload_n 1, 1) := by decide +kernel
theorem dX0_earliestStage_46 : decode cX0_earliestStage 46 = .ok (.laload, 1) := by decide +kernel
theorem dX0_earliestStage_47 : decode cX0_earliestStage 47 = .ok (.lstore 4, 2) := by decide +kernel
theorem dX0_earliestStage_49 : decode cX0_earliestStage 49 = .ok (.aload_n 0, 1) := by decide +kernel
theorem dX0_earliestStage_50 : decode cX0_earliestStage 50 = .ok (.getfield 9, 3) := by decide +kernel
theorem dX0_earliestStage_53 : decode cX0_earliestStage 53 = .ok (.iload_n 1, 1) := by decide +kernel
theorem dX0_earliestStage_54 : decode cX0_earliestStage 54 = .ok (.laload, 1) := by decide +kernel
theorem dX0_earliestStage_55 : decode cX0_earliestStage 55 = .ok (.lload 4, 2) := by decide +kernel
theorem dX0_earliestStage_57 : decode cX0_earliestStage 57 = .ok (.lor, 1) := by decide +kernel
theorem dX0_earliestStage_58 : decode cX0_earliestStage 58 = .ok (.lstore 6, 2) := by decide +kernel
theorem dX0_earliestStage_60 : decode cX0_earliestStage 60 = .ok (.iconst 0, 1) := by decide +kernel
theorem dX0_earliestStage_61 : decode cX0_earliestStage 61 = .ok (.istore 8, 2) := by decide +kernel
theorem dX0_earliestStage_63 : decode cX0_earliestStage 63 = .ok (.iload 8, 2) := by decide +kernel
theorem dX0_earliestStage_65 : decode cX0_earliestStage 65 = .ok (.iload_n 1, 1) := by decide +kernel
theorem dX0_earliestStage_66 : decode cX0_earliestStage 66 = .ok (.if_icmp .ge 68, 3) := by decide +kernel
theorem dX0_earliestStage_69 : decode cX0_earliestStage 69 = .ok (.aload_n 0, 1) := by decide +kernel
theorem dX0_earliestStage_70 : decode cX0_earliestStage 70 = .ok (.getfield 13, 3) := by decide +kernel
theorem dX0_earliestStage_73 : decode cX0_earliestStage 73 = .ok (.iload 8, 2) := by decide +kernel
theorem dX0_earliestStage_75 : decode cX0_earliestStage 75 = .ok (.laload, 1) := by decide +kernel
theorem dX0_earliestStage_76 : decode cX0_earliestStage 76 = .ok (.lload 6, 2) := by decide +kernel
theorem dX0_earliestStage_78 : decode cX0_earliestStage 78 = .ok (.land, 1) := by decide +kernel
theorem dX0_earliestStage_79 : decode cX0_earliestStage 79 = .ok (.lconst 0, 1) := by decide +kernel
theorem dX0_earliestStage_80 : decode cX0_earliestStage 80 = .ok (.lcmp, 1) := by decide +kernel
theorem dX0_earliestStage_81 : decode cX0_earliestStage 81 = .ok (.ifCond .eq 20, 3) := by decide +kernel
theorem dX0_earliestStage_84 : decode cX0_earliestStage 84 = .ok (.iload_n 3, 1) := by decide +kernel
theorem dX0_earliestStage_85 : decode cX0_earliestStage 85 = .ok (.aload_n 0, 1) := by decide +kernel
theorem dX0_earliestStage_86 : decode cX0_earliestStage 86 = .ok (.getfield 29, 3) := by decide +kernel
theorem dX0_earliestStage_89 : decode cX0_earliestStage 89 = .ok (.iload 8, 2) := by decide +kernel
theorem dX0_earliestStage_91 : decode cX0_earliestStage 91 = .ok (.iaload, 1) := by decide +kernel
theorem dX0_earliestStage_92 : decode cX0_earliestStage 92 = .ok (.iconst 1, 1) := by decide +kernel
theorem dX0_earliestStage_93 : decode cX0_earliestStage 93 = .ok (.iadd, 1) := by decide +kernel
theorem dX0_earliestStage_94 : decode cX0_earliestStage 94 = .ok (.invokestatic 141, 3) := by decide +kernel
theorem dX0_earliestStage_97 : decode cX0_earliestStage 97 = .ok (.istore_n 3, 1) := by decide +kernel
theorem dX0_earliestStage_98 : decode cX0_earliestStage 98 = .ok (.goto 30, 3) := by decide +kernel
theorem dX0_earliestStage_101 : decode cX0_earliestStage 101 = .ok (.aload_n 0, 1) := by decide +kernel
theorem dX0_earliestStage_102 : decode cX0_earliestStage 102 = .ok (.getfield 9, 3) := by decide +kernel
theorem dX0_earliestStage_105 : decode cX0_earliestStage 105 = .ok (.iload 8, 2) := by decide +kernel
theorem dX0_earliestStage_107 : decode cX0_earliestStage 107 = .ok (.laload, 1) := by decide +kernel
theorem dX0_earliestStage_108 : decode cX0_earliestStage 108 = .ok (.lload 4, 2) := by decide +kernel
theorem dX0_earliestStage_110 : decode cX0_earliestStage 110 = .ok (.land, 1) := by decide +kernel
theorem dX0_earliestStage_111 : decode cX0_earliestStage 111 = .ok (.lconst 0, 1) := by decide +kernel
theorem dX0_earliestStage_112 : decode cX0_earliestStage 112 = .ok (.lcmp, 1) := by decide +kernel
theorem dX0_earliestStage_113 : decode cX0_earliestStage 113 = .ok (.ifCond .eq 15, 3) := by decide +kernel
theorem dX0_earliestStage_116 : decode cX0_earliestStage 116 = .ok (.iload_n 3, 1) := by decide +kernel
theorem dX0_earliestStage_117 : decode cX0_earliestStage 117 = .ok (.aload_n 0, 1) := by decide +kernel
theorem dX0_earliestStage_118 : decode cX0_earliestStage 118 = .ok (.getfield 29, 3) := by decide +kernel
theorem dX0_earliestStage_121 : decode cX0_earliestStage 121 = .ok (.iload 8, 2) := by decide +kernel
theorem dX0_earliestStage_123 : decode cX0_earliestStage 123 = .ok (.iaload, 1) := by decide +kernel
theorem dX0_earliestStage_124 : decode cX0_earliestStage 124 = .ok (.invokestatic 141, 3) := by decide +kernel
theorem dX0_earliestStage_127 : decode cX0_earliestStage 127 = .ok (.istore_n 3, 1) := by decide +kernel
theorem dX0_earliestStage_128 : decode cX0_earliestStage 128 = .ok (.iinc 8 1, 3) := by decide +kernel
theorem dX0_earliestStage_131 : decode cX0_earliestStage 131 = .ok (.goto (-68), 3) := by decide +kernel
theorem dX0_earliestStage_134 : decode cX0_earliestStage 134 = .ok (.iload_n 3, 1) := by decide +kernel
theorem dX0_earliestStage_135 : decode cX0_earliestStage 135 = .ok (.ireturn, 1) := by decide +kernel
theorem dX0_stageOfSharedArray_0 : decode cX0_stageOfSharedArray 0 = .ok (.iload_n 1, 1) := by decide +kernel
theorem dX0_stageOfSharedArray_1 : decode cX0_stageOfSharedArray 1 = .ok (.ifCond .lt 19, 3) := by decide +kernel
theorem dX0_stageOfSharedArray_4 : decode cX0_stageOfSharedArray 4 = .ok (.iload_n 1, 1) := by decide +kernel
theorem dX0_stageOfSharedArray_5 : decode cX0_stageOfSharedArray 5 = .ok (.bipush 48, 2) := by decide +kernel
theorem dX0_stageOfSharedArray_7 : decode cX0_stageOfSharedArray 7 = .ok (.if_icmp .ge 13, 3) := by decide +kernel
theorem dX0_stageOfSharedArray_10 : decode cX0_stageOfSharedArray 10 = .ok (.aload_n 0, 1) := by decide +kernel
theorem dX0_stageOfSharedArray_11 : decode cX0_stageOfSharedArray 11 = .ok (.getfield 16, 3) := by decide +kernel
theorem dX0_stageOfSharedArray_14 : decode cX0_stageOfSharedArray 14 = .ok (.iload_n 1, 1) := by decide +kernel
theorem dX0_stageOfSharedArray_15 : decode cX0_stageOfSharedArray 15 = .ok (.iaload, 1) := by decide +kernel
theorem dX0_stageOfSharedArray_16 : decode cX0_stageOfSharedArray 16 = .ok (.iconst (-1), 1) := by decide +kernel
theorem dX0_stageOfSharedArray_17 : decode cX0_stageOfSharedArray 17 = .ok (.if_icmp .ne 5, 3) := by decide +kernel
theorem dX0_stageOfSharedArray_20 : decode cX0_stageOfSharedArray 20 = .ok (.iconst (-1), 1) := by decide +kernel
theorem dX0_stageOfSharedArray_21 : decode cX0_stageOfSharedArray 21 = .ok (.ireturn, 1) := by decide +kernel
theorem dX0_stageOfSharedArray_22 : decode cX0_stageOfSharedArray 22 = .ok (.iconst 0, 1) := by decide +kernel
theorem dX0_stageOfSharedArray_23 : decode cX0_stageOfSharedArray 23 = .ok (.istore_n 2, 1) := by decide +kernel
theorem dX0_stageOfSharedArray_24 : decode cX0_stageOfSharedArray 24 = .ok (.iload_n 2, 1) := by decide +kernel
theorem dX0_stageOfSharedArray_25 : decode cX0_stageOfSharedArray 25 = .ok (.iload_n 1, 1) := by decide +kernel
theorem dX0_stageOfSharedArray_26 : decode cX0_stageOfSharedArray 26 = .ok (.if_icmp .ge 31, 3) := by decide +kernel
theorem dX0_stageOfSharedArray_29 : decode cX0_stageOfSharedArray 29 = .ok (.aload_n 0, 1) := by decide +kernel
theorem dX0_stageOfSharedArray_30 : decode cX0_stageOfSharedArray 30 = .ok (.getfield 16, 3) := by decide +kernel
theorem dX0_stageOfSharedArray_33 : decode cX0_stageOfSharedArray 33 = .ok (.iload_n 2, 1) := by decide +kernel
theorem dX0_stageOfSharedArray_34 : decode cX0_stageOfSharedArray 34 = .ok (.iaload, 1) := by decide +kernel
theorem dX0_stageOfSharedArray_35 : decode cX0_stageOfSharedArray 35 = .ok (.aload_n 0, 1) := by decide +kernel
theorem dX0_stageOfSharedArray_36 : decode cX0_stageOfSharedArray 36 = .ok (.getfield 16, 3) := by decide +kernel
theorem dX0_stageOfSharedArray_39 : decode cX0_stageOfSharedArray 39 = .ok (.iload_n 1, 1) := by decide +kernel
theorem dX0_stageOfSharedArray_40 : decode cX0_stageOfSharedArray 40 = .ok (.iaload, 1) := by decide +kernel
theorem dX0_stageOfSharedArray_41 : decode cX0_stageOfSharedArray 41 = .ok (.if_icmp .ne 10, 3) := by decide +kernel
theorem dX0_stageOfSharedArray_44 : decode cX0_stageOfSharedArray 44 = .ok (.aload_n 0, 1) := by decide +kernel
theorem dX0_stageOfSharedArray_45 : decode cX0_stageOfSharedArray 45 = .ok (.getfield 29, 3) := by decide +kernel
theorem dX0_stageOfSharedArray_48 : decode cX0_stageOfSharedArray 48 = .ok (.iload_n 2, 1) := by decide +kernel
theorem dX0_stageOfSharedArray_49 : decode cX0_stageOfSharedArray 49 = .ok (.iaload, 1) := by decide +kernel
theorem dX0_stageOfSharedArray_50 : decode cX0_stageOfSharedArray 50 = .ok (.ireturn, 1) := by decide +kernel
theorem dX0_stageOfSharedArray_51 : decode cX0_stageOfSharedArray 51 = .ok (.iinc 2 1, 3) := by decide +kernel
theorem dX0_stageOfSharedArray_54 : decode cX0_stageOfSharedArray 54 = .ok (.goto (-30), 3) := by decide +kernel
theorem dX0_stageOfSharedArray_57 : decode cX0_stageOfSharedArray 57 = .ok (.iconst (-1), 1) := by decide +kernel
theorem dX0_stageOfSharedArray_58 : decode cX0_stageOfSharedArray 58 = .ok (.ireturn, 1) := by decide +kernel
theorem dX0_hasRoom_0 : decode cX0_hasRoom 0 = .ok (.iload_n 1, 1) := by decide +kernel
theorem dX0_hasRoom_1 : decode cX0_hasRoom 1 = .ok (.ifCond .lt 19, 3) := by decide +kernel
theorem dX0_hasRoom_4 : decode cX0_hasRoom 4 = .ok (.iload_n 1, 1) := by decide +kernel
theorem dX0_hasRoom_5 : decode cX0_hasRoom 5 = .ok (.bipush 48, 2) := by decide +kernel
theorem dX0_hasRoom_7 : decode cX0_hasRoom 7 = .ok (.if_icmp .ge 13, 3) := by decide +kernel
theorem dX0_hasRoom_10 : decode cX0_hasRoom 10 = .ok (.iload_n 2, 1) := by decide +kernel
theorem dX0_hasRoom_11 : decode cX0_hasRoom 11 = .ok (.ifCond .lt 9, 3) := by decide +kernel
theorem dX0_hasRoom_14 : decode cX0_hasRoom 14 = .ok (.iload_n 2, 1) := by decide +kernel
theorem dX0_hasRoom_15 : decode cX0_hasRoom 15 = .ok (.bipush 12, 2) := by decide +kernel
theorem dX0_hasRoom_17 : decode cX0_hasRoom 17 = .ok (.if_icmp .lt 5, 3) := by decide +kernel
theorem dX0_hasRoom_20 : decode cX0_hasRoom 20 = .ok (.iconst 0, 1) := by decide +kernel
theorem dX0_hasRoom_21 : decode cX0_hasRoom 21 = .ok (.ireturn, 1) := by decide +kernel
theorem dX0_hasRoom_22 : decode cX0_hasRoom 22 = .ok (.aload_n 0, 1) := by decide +kernel
theorem dX0_hasRoom_23 : decode cX0_hasRoom 23 = .ok (.getfield 35, 3) := by decide +kernel
theorem dX0_hasRoom_26 : decode cX0_hasRoom 26 = .ok (.iload_n 2, 1) := by decide +kernel
theorem dX0_hasRoom_27 : decode cX0_hasRoom 27 = .ok (.iaload, 1) := by decide +kernel
theorem dX0_hasRoom_28 : decode cX0_hasRoom 28 = .ok (.bipush 8, 2) := by decide +kernel
theorem dX0_hasRoom_30 : decode cX0_hasRoom 30 = .ok (.if_icmp .ge 42, 3) := by decide +kernel
theorem dX0_hasRoom_33 : decode cX0_hasRoom 33 = .ok (.aload_n 0, 1) := by decide +kernel
theorem dX0_hasRoom_34 : decode cX0_hasRoom 34 = .ok (.getfield 38, 3) := by decide +kernel
theorem dX0_hasRoom_37 : decode cX0_hasRoom 37 = .ok (.iload_n 2, 1) := by decide +kernel
theorem dX0_hasRoom_38 : decode cX0_hasRoom 38 = .ok (.iaload, 1) := by decide +kernel
theorem dX0_hasRoom_39 : decode cX0_hasRoom 39 = .ok (.aload_n 0, 1) := by decide +kernel
theorem dX0_hasRoom_40 : decode cX0_hasRoom 40 = .ok (.getfield 23, 3) := by decide +kernel
theorem dX0_hasRoom_43 : decode cX0_hasRoom 43 = .ok (.iload_n 1, 1) := by decide +kernel
theorem dX0_hasRoom_44 : decode cX0_hasRoom 44 = .ok (.iaload, 1) := by decide +kernel
theorem dX0_hasRoom_45 : decode cX0_hasRoom 45 = .ok (.iadd, 1) := by decide +kernel
theorem dX0_hasRoom_46 : decode cX0_hasRoom 46 = .ok (.iload_n 3, 1) := by decide +kernel
theorem dX0_hasRoom_47 : decode cX0_hasRoom 47 = .ok (.if_icmp .gt 25, 3) := by decide +kernel
theorem dX0_hasRoom_50 : decode cX0_hasRoom 50 = .ok (.aload_n 0, 1) := by decide +kernel
theorem dX0_hasRoom_51 : decode cX0_hasRoom 51 = .ok (.getfield 41, 3) := by decide +kernel
theorem dX0_hasRoom_54 : decode cX0_hasRoom 54 = .ok (.iload_n 2, 1) := by decide +kernel
theorem dX0_hasRoom_55 : decode cX0_hasRoom 55 = .ok (.iaload, 1) := by decide +kernel
theorem dX0_hasRoom_56 : decode cX0_hasRoom 56 = .ok (.aload_n 0, 1) := by decide +kernel
theorem dX0_hasRoom_57 : decode cX0_hasRoom 57 = .ok (.getfield 26, 3) := by decide +kernel
theorem dX0_hasRoom_60 : decode cX0_hasRoom 60 = .ok (.iload_n 1, 1) := by decide +kernel
theorem dX0_hasRoom_61 : decode cX0_hasRoom 61 = .ok (.iaload, 1) := by decide +kernel
theorem dX0_hasRoom_62 : decode cX0_hasRoom 62 = .ok (.iadd, 1) := by decide +kernel
theorem dX0_hasRoom_63 : decode cX0_hasRoom 63 = .ok (.iload 4, 2) := by decide +kernel
theorem dX0_hasRoom_65 : decode cX0_hasRoom 65 = .ok (.if_icmp .gt 7, 3) := by decide +kernel
theorem dX0_hasRoom_68 : decode cX0_hasRoom 68 = .ok (.iconst 1, 1) := by decide +kernel
theorem dX0_hasRoom_69 : decode cX0_hasRoom 69 = .ok (.goto 4, 3) := by decide +kernel
theorem dX0_hasRoom_72 : decode cX0_hasRoom 72 = .ok (.iconst 0, 1) := by decide +kernel
theorem dX0_hasRoom_73 : decode cX0_hasRoom 73 = .ok (.ireturn, 1) := by decide +kernel
theorem dX0_settle_0 : decode cX0_settle 0 = .ok (.iload_n 1, 1) := by decide +kernel
theorem dX0_settle_1 : decode cX0_settle 1 = .ok (.ifCond .lt 19, 3) := by decide +kernel
theorem dX0_settle_4 : decode cX0_settle 4 = .ok (.iload_n 1, 1) := by decide +kernel
theorem dX0_settle_5 : decode cX0_settle 5 = .ok (.bipush 48, 2) := by decide +kernel
theorem dX0_settle_7 : decode cX0_settle 7 = .ok (.if_icmp .ge 13, 3) := by decide +kernel
theorem dX0_settle_10 : decode cX0_settle 10 = .ok (.iload_n 2, 1) := by decide +kernel
theorem dX0_settle_11 : decode cX0_settle 11 = .ok (.ifCond .lt 9, 3) := by decide +kernel
theorem dX0_settle_14 : decode cX0_settle 14 = .ok (.iload_n 2, 1) := by decide +kernel
theorem dX0_settle_15 : decode cX0_settle 15 = .ok (.bipush 12, 2) := by decide +kernel
theorem dX0_settle_17 : decode cX0_settle 17 = .ok (.if_icmp .lt 4, 3) := by decide +kernel
theorem dX0_settle_20 : decode cX0_settle 20 = .ok (.return_, 1) := by decide +kernel
theorem dX0_settle_21 : decode cX0_settle 21 = .ok (.aload_n 0, 1) := by decide +kernel
theorem dX0_settle_22 : decode cX0_settle 22 = .ok (.getfield 29, 3) := by decide +kernel
theorem dX0_settle_25 : decode cX0_settle 25 = .ok (.iload_n 1, 1) := by decide +kernel
theorem dX0_settle_26 : decode cX0_settle 26 = .ok (.iload_n 2, 1) := by decide +kernel
theorem dX0_settle_27 : decode cX0_settle 27 = .ok (.iastore, 1) := by decide +kernel
theorem dX0_settle_28 : decode cX0_settle 28 = .ok (.aload_n 0, 1) := by decide +kernel
theorem dX0_settle_29 : decode cX0_settle 29 = .ok (.getfield 35, 3) := by decide +kernel
theorem dX0_settle_32 : decode cX0_settle 32 = .ok (.iload_n 2, 1) := by decide +kernel
theorem dX0_settle_33 : decode cX0_settle 33 = .ok (.dup2, 1) := by decide +kernel
theorem dX0_settle_34 : decode cX0_settle 34 = .ok (.iaload, 1) := by decide +kernel
theorem dX0_settle_35 : decode cX0_settle 35 = .ok (.iconst 1, 1) := by decide +kernel
theorem dX0_settle_36 : decode cX0_settle 36 = .ok (.iadd, 1) := by decide +kernel
theorem dX0_settle_37 : decode cX0_settle 37 = .ok (.iastore, 1) := by decide +kernel
theorem dX0_settle_38 : decode cX0_settle 38 = .ok (.aload_n 0, 1) := by decide +kernel
theorem dX0_settle_39 : decode cX0_settle 39 = .ok (.getfield 38, 3) := by decide +kernel
theorem dX0_settle_42 : decode cX0_settle 42 = .ok (.iload_n 2, 1) := by decide +kernel
theorem dX0_settle_43 : decode cX0_settle 43 = .ok (.dup2, 1) := by decide +kernel
theorem dX0_settle_44 : decode cX0_settle 44 = .ok (.iaload, 1) := by decide +kernel
theorem dX0_settle_45 : decode cX0_settle 45 = .ok (.aload_n 0, 1) := by decide +kernel
theorem dX0_settle_46 : decode cX0_settle 46 = .ok (.getfield 23, 3) := by decide +kernel
theorem dX0_settle_49 : decode cX0_settle 49 = .ok (.iload_n 1, 1) := by decide +kernel
theorem dX0_settle_50 : decode cX0_settle 50 = .ok (.iaload, 1) := by decide +kernel
theorem dX0_settle_51 : decode cX0_settle 51 = .ok (.iadd, 1) := by decide +kernel
theorem dX0_settle_52 : decode cX0_settle 52 = .ok (.iastore, 1) := by decide +kernel
theorem dX0_settle_53 : decode cX0_settle 53 = .ok (.aload_n 0, 1) := by decide +kernel
theorem dX0_settle_54 : decode cX0_settle 54 = .ok (.getfield 41, 3) := by decide +kernel
theorem dX0_settle_57 : decode cX0_settle 57 = .ok (.iload_n 2, 1) := by decide +kernel
theorem dX0_settle_58 : decode cX0_settle 58 = .ok (.dup2, 1) := by decide +kernel
theorem dX0_settle_59 : decode cX0_settle 59 = .ok (.iaload, 1) := by decide +kernel
theorem dX0_settle_60 : decode cX0_settle 60 = .ok (.aload_n 0, 1) := by decide +kernel
theorem dX0_settle_61 : decode cX0_settle 61 = .ok (.getfield 26, 3) := by decide +kernel
theorem dX0_settle_64 : decode cX0_settle 64 = .ok (.iload_n 1, 1) := by decide +kernel
theorem dX0_settle_65 : decode cX0_settle 65 = .ok (.iaload, 1) := by decide +kernel
theorem dX0_settle_66 : decode cX0_settle 66 = .ok (.iadd, 1) := by decide +kernel
theorem dX0_settle_67 : decode cX0_settle 67 = .ok (.iastore, 1) := by decide +kernel
theorem dX0_settle_68 : decode cX0_settle 68 = .ok (.return_, 1) := by decide +kernel
theorem dJ6_bitCount_0 : decode cJ6_bitCount 0 = .ok (.iload_n 0, 1) := by decide +kernel
theorem dJ6_bitCount_1 : decode cJ6_bitCount 1 = .ok (.iload_n 0, 1) := by decide +kernel
theorem dJ6_bitCount_2 : decode cJ6_bitCount 2 = .ok (.iconst 1, 1) := by decide +kernel
theorem dJ6_bitCount_3 : decode cJ6_bitCount 3 = .ok (.iushr, 1) := by decide +kernel
theorem dJ6_bitCount_4 : decode cJ6_bitCount 4 = .ok (.ldc_w 265, 3) := by decide +kernel
theorem dJ6_bitCount_7 : decode cJ6_bitCount 7 = .ok (.iand, 1) := by decide +kernel
theorem dJ6_bitCount_8 : decode cJ6_bitCount 8 = .ok (.isub, 1) := by decide +kernel
theorem dJ6_bitCount_9 : decode cJ6_bitCount 9 = .ok (.istore_n 0, 1) := by decide +kernel
theorem dJ6_bitCount_10 : decode cJ6_bitCount 10 = .ok (.iload_n 0, 1) := by decide +kernel
theorem dJ6_bitCount_11 : decode cJ6_bitCount 11 = .ok (.ldc_w 266, 3) := by decide +kernel
theorem dJ6_bitCount_14 : decode cJ6_bitCount 14 = .ok (.iand, 1) := by decide +kernel
theorem dJ6_bitCount_15 : decode cJ6_bitCount 15 = .ok (.iload_n 0, 1) := by decide +kernel
theorem dJ6_bitCount_16 : decode cJ6_bitCount 16 = .ok (.iconst 2, 1) := by decide +kernel
theorem dJ6_bitCount_17 : decode cJ6_bitCount 17 = .ok (.iushr, 1) := by decide +kernel
theorem dJ6_bitCount_18 : decode cJ6_bitCount 18 = .ok (.ldc_w 266, 3) := by decide +kernel
theorem dJ6_bitCount_21 : decode cJ6_bitCount 21 = .ok (.iand, 1) := by decide +kernel
theorem dJ6_bitCount_22 : decode cJ6_bitCount 22 = .ok (.iadd, 1) := by decide +kernel
theorem dJ6_bitCount_23 : decode cJ6_bitCount 23 = .ok (.istore_n 0, 1) := by decide +kernel
theorem dJ6_bitCount_24 : decode cJ6_bitCount 24 = .ok (.iload_n 0, 1) := by decide +kernel
theorem dJ6_bitCount_25 : decode cJ6_bitCount 25 = .ok (.iload_n 0, 1) := by decide +kernel
theorem dJ6_bitCount_26 : decode cJ6_bitCount 26 = .ok (.iconst 4, 1) := by decide +kernel
theorem dJ6_bitCount_27 : decode cJ6_bitCount 27 = .ok (.iushr, 1) := by decide +kernel
theorem dJ6_bitCount_28 : decode cJ6_bitCount 28 = .ok (.iadd, 1) := by decide +kernel
theorem dJ6_bitCount_29 : decode cJ6_bitCount 29 = .ok (.ldc_w 267, 3) := by decide +kernel
theorem dJ6_bitCount_32 : decode cJ6_bitCount 32 = .ok (.iand, 1) := by decide +kernel
theorem dJ6_bitCount_33 : decode cJ6_bitCount 33 = .ok (.istore_n 0, 1) := by decide +kernel
theorem dJ6_bitCount_34 : decode cJ6_bitCount 34 = .ok (.iload_n 0, 1) := by decide +kernel
theorem dJ6_bitCount_35 : decode cJ6_bitCount 35 = .ok (.iload_n 0, 1) := by decide +kernel
theorem dJ6_bitCount_36 : decode cJ6_bitCount 36 = .ok (.bipush 8, 2) := by decide +kernel
theorem dJ6_bitCount_38 : decode cJ6_bitCount 38 = .ok (.iushr, 1) := by decide +kernel
theorem dJ6_bitCount_39 : decode cJ6_bitCount 39 = .ok (.iadd, 1) := by decide +kernel
theorem dJ6_bitCount_40 : decode cJ6_bitCount 40 = .ok (.istore_n 0, 1) := by decide +kernel
theorem dJ6_bitCount_41 : decode cJ6_bitCount 41 = .ok (.iload_n 0, 1) := by decide +kernel
theorem dJ6_bitCount_42 : decode cJ6_bitCount 42 = .ok (.iload_n 0, 1) := by decide +kernel
theorem dJ6_bitCount_43 : decode cJ6_bitCount 43 = .ok (.bipush 16, 2) := by decide +kernel
theorem dJ6_bitCount_45 : decode cJ6_bitCount 45 = .ok (.iushr, 1) := by decide +kernel
theorem dJ6_bitCount_46 : decode cJ6_bitCount 46 = .ok (.iadd, 1) := by decide +kernel
theorem dJ6_bitCount_47 : decode cJ6_bitCount 47 = .ok (.istore_n 0, 1) := by decide +kernel
theorem dJ6_bitCount_48 : decode cJ6_bitCount 48 = .ok (.iload_n 0, 1) := by decide +kernel
theorem dJ6_bitCount_49 : decode cJ6_bitCount 49 = .ok (.bipush 63, 2) := by decide +kernel
theorem dJ6_bitCount_51 : decode cJ6_bitCount 51 = .ok (.iand, 1) := by decide +kernel
theorem dJ6_bitCount_52 : decode cJ6_bitCount 52 = .ok (.ireturn, 1) := by decide +kernel
