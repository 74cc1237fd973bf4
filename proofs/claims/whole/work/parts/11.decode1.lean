theorem dX1_init_0 : decode cX1_init 0 = .ok (.aload_n 0, 1) := by decide +kernel
theorem dX1_init_1 : decode cX1_init 1 = .ok (.invokespecial 1, 3) := by decide +kernel
theorem dX1_init_4 : decode cX1_init 4 = .ok (.aload_n 0, 1) := by decide +kernel
theorem dX1_init_5 : decode cX1_init 5 = .ok (.sipush 1968, 3) := by decide +kernel
theorem dX1_init_8 : decode cX1_init 8 = .ok (.newarray .boolean, 2) := by decide +kernel
theorem dX1_init_10 : decode cX1_init 10 = .ok (.putfield 7, 3) := by decide +kernel
theorem dX1_init_13 : decode cX1_init 13 = .ok (.aload_n 0, 1) := by decide +kernel
theorem dX1_init_14 : decode cX1_init 14 = .ok (.sipush 1968, 3) := by decide +kernel
theorem dX1_init_17 : decode cX1_init 17 = .ok (.newarray .boolean, 2) := by decide +kernel
theorem dX1_init_19 : decode cX1_init 19 = .ok (.putfield 13, 3) := by decide +kernel
theorem dX1_init_22 : decode cX1_init 22 = .ok (.aload_n 0, 1) := by decide +kernel
theorem dX1_init_23 : decode cX1_init 23 = .ok (.bipush 48, 2) := by decide +kernel
theorem dX1_init_25 : decode cX1_init 25 = .ok (.newarray .int, 2) := by decide +kernel
theorem dX1_init_27 : decode cX1_init 27 = .ok (.putfield 16, 3) := by decide +kernel
theorem dX1_init_30 : decode cX1_init 30 = .ok (.aload_n 0, 1) := by decide +kernel
theorem dX1_init_31 : decode cX1_init 31 = .ok (.bipush 48, 2) := by decide +kernel
theorem dX1_init_33 : decode cX1_init 33 = .ok (.newarray .int, 2) := by decide +kernel
theorem dX1_init_35 : decode cX1_init 35 = .ok (.putfield 20, 3) := by decide +kernel
theorem dX1_init_38 : decode cX1_init 38 = .ok (.aload_n 0, 1) := by decide +kernel
theorem dX1_init_39 : decode cX1_init 39 = .ok (.bipush 48, 2) := by decide +kernel
theorem dX1_init_41 : decode cX1_init 41 = .ok (.newarray .int, 2) := by decide +kernel
theorem dX1_init_43 : decode cX1_init 43 = .ok (.putfield 23, 3) := by decide +kernel
theorem dX1_init_46 : decode cX1_init 46 = .ok (.aload_n 0, 1) := by decide +kernel
theorem dX1_init_47 : decode cX1_init 47 = .ok (.bipush 48, 2) := by decide +kernel
theorem dX1_init_49 : decode cX1_init 49 = .ok (.newarray .boolean, 2) := by decide +kernel
theorem dX1_init_51 : decode cX1_init 51 = .ok (.putfield 26, 3) := by decide +kernel
theorem dX1_init_54 : decode cX1_init 54 = .ok (.aload_n 0, 1) := by decide +kernel
theorem dX1_init_55 : decode cX1_init 55 = .ok (.bipush 48, 2) := by decide +kernel
theorem dX1_init_57 : decode cX1_init 57 = .ok (.newarray .int, 2) := by decide +kernel
theorem dX1_init_59 : decode cX1_init 59 = .ok (.putfield 29, 3) := by decide +kernel
theorem dX1_init_62 : decode cX1_init 62 = .ok (.aload_n 0, 1) := by decide +kernel
theorem dX1_init_63 : decode cX1_init 63 = .ok (.iconst (-1), 1) := by decide +kernel
theorem dX1_init_64 : decode cX1_init 64 = .ok (.putfield 32, 3) := by decide +kernel
theorem dX1_init_67 : decode cX1_init 67 = .ok (.aload_n 0, 1) := by decide +kernel
theorem dX1_init_68 : decode cX1_init 68 = .ok (.bipush 48, 2) := by decide +kernel
theorem dX1_init_70 : decode cX1_init 70 = .ok (.newarray .int, 2) := by decide +kernel
theorem dX1_init_72 : decode cX1_init 72 = .ok (.putfield 36, 3) := by decide +kernel
theorem dX1_init_75 : decode cX1_init 75 = .ok (.aload_n 0, 1) := by decide +kernel
theorem dX1_init_76 : decode cX1_init 76 = .ok (.iconst (-1), 1) := by decide +kernel
theorem dX1_init_77 : decode cX1_init 77 = .ok (.putfield 39, 3) := by decide +kernel
theorem dX1_init_80 : decode cX1_init 80 = .ok (.return_, 1) := by decide +kernel
theorem dX1_thrown_0 : decode cX1_thrown 0 = .ok (.aload_n 0, 1) := by decide +kernel
theorem dX1_thrown_1 : decode cX1_thrown 1 = .ok (.getfield 42, 3) := by decide +kernel
theorem dX1_thrown_4 : decode cX1_thrown 4 = .ok (.ireturn, 1) := by decide +kernel
theorem dX1_clear_0 : decode cX1_clear 0 = .ok (.aload_n 0, 1) := by decide +kernel
theorem dX1_clear_1 : decode cX1_clear 1 = .ok (.iconst 0, 1) := by decide +kernel
theorem dX1_clear_2 : decode cX1_clear 2 = .ok (.putfield 42, 3) := by decide +kernel
theorem dX1_clear_5 : decode cX1_clear 5 = .ok (.aload_n 0, 1) := by decide +kernel
theorem dX1_clear_6 : decode cX1_clear 6 = .ok (.iconst 0, 1) := by decide +kernel
theorem dX1_clear_7 : decode cX1_clear 7 = .ok (.putfield 45, 3) := by decide +kernel
theorem dX1_clear_10 : decode cX1_clear 10 = .ok (.aload_n 0, 1) := by decide +kernel
theorem dX1_clear_11 : decode cX1_clear 11 = .ok (.iconst 0, 1) := by decide +kernel
theorem dX1_clear_12 : decode cX1_clear 12 = .ok (.putfield 48, 3) := by decide +kernel
theorem dX1_clear_15 : decode cX1_clear 15 = .ok (.aload_n 0, 1) := by decide +kernel
theorem dX1_clear_16 : decode cX1_clear 16 = .ok (.iconst 0, 1) := by decide +kernel
theorem dX1_clear_17 : decode cX1_clear 17 = .ok (.putfield 51, 3) := by decide +kernel
theorem dX1_clear_20 : decode cX1_clear 20 = .ok (.aload_n 0, 1) := by decide +kernel
theorem dX1_clear_21 : decode cX1_clear 21 = .ok (.iconst 0, 1) := by decide +kernel
theorem dX1_clear_22 : decode cX1_clear 22 = .ok (.putfield 54, 3) := by decide +kernel
theorem dX1_clear_25 : decode cX1_clear 25 = .ok (.aload_n 0, 1) := by decide +kernel
theorem dX1_clear_26 : decode cX1_clear 26 = .ok (.iconst (-1), 1) := by decide +kernel
theorem dX1_clear_27 : decode cX1_clear 27 = .ok (.putfield 32, 3) := by decide +kernel
theorem dX1_clear_30 : decode cX1_clear 30 = .ok (.aload_n 0, 1) := by decide +kernel
theorem dX1_clear_31 : decode cX1_clear 31 = .ok (.iconst 0, 1) := by decide +kernel
theorem dX1_clear_32 : decode cX1_clear 32 = .ok (.putfield 57, 3) := by decide +kernel
theorem dX1_clear_35 : decode cX1_clear 35 = .ok (.aload_n 0, 1) := by decide +kernel
theorem dX1_clear_36 : decode cX1_clear 36 = .ok (.iconst (-1), 1) := by decide +kernel
theorem dX1_clear_37 : decode cX1_clear 37 = .ok (.putfield 39, 3) := by decide +kernel
theorem dX1_clear_40 : decode cX1_clear 40 = .ok (.return_, 1) := by decide +kernel
theorem dX1_isSet_0 : decode cX1_isSet 0 = .ok (.iload_n 0, 1) := by decide +kernel
theorem dX1_isSet_1 : decode cX1_isSet 1 = .ok (.ifCond .lt 13, 3) := by decide +kernel
theorem dX1_isSet_4 : decode cX1_isSet 4 = .ok (.iload_n 0, 1) := by decide +kernel
theorem dX1_isSet_5 : decode cX1_isSet 5 = .ok (.ldc 61, 2) := by decide +kernel
theorem dX1_isSet_7 : decode cX1_isSet 7 = .ok (.if_icmp .ge 7, 3) := by decide +kernel
theorem dX1_isSet_10 : decode cX1_isSet 10 = .ok (.iconst 1, 1) := by decide +kernel
theorem dX1_isSet_11 : decode cX1_isSet 11 = .ok (.goto 4, 3) := by decide +kernel
theorem dX1_isSet_14 : decode cX1_isSet 14 = .ok (.iconst 0, 1) := by decide +kernel
theorem dX1_isSet_15 : decode cX1_isSet 15 = .ok (.ireturn, 1) := by decide +kernel
theorem dX1_ones_0 : decode cX1_ones 0 = .ok (.iconst 0, 1) := by decide +kernel
theorem dX1_ones_1 : decode cX1_ones 1 = .ok (.istore_n 1, 1) := by decide +kernel
theorem dX1_ones_2 : decode cX1_ones 2 = .ok (.iconst 0, 1) := by decide +kernel
theorem dX1_ones_3 : decode cX1_ones 3 = .ok (.istore_n 2, 1) := by decide +kernel
theorem dX1_ones_4 : decode cX1_ones 4 = .ok (.iload_n 2, 1) := by decide +kernel
theorem dX1_ones_5 : decode cX1_ones 5 = .ok (.bipush 28, 2) := by decide +kernel
theorem dX1_ones_7 : decode cX1_ones 7 = .ok (.if_icmp .ge 17, 3) := by decide +kernel
theorem dX1_ones_10 : decode cX1_ones 10 = .ok (.iload_n 1, 1) := by decide +kernel
theorem dX1_ones_11 : decode cX1_ones 11 = .ok (.iload_n 0, 1) := by decide +kernel
theorem dX1_ones_12 : decode cX1_ones 12 = .ok (.iload_n 2, 1) := by decide +kernel
theorem dX1_ones_13 : decode cX1_ones 13 = .ok (.ishr, 1) := by decide +kernel
theorem dX1_ones_14 : decode cX1_ones 14 = .ok (.iconst 1, 1) := by decide +kernel
theorem dX1_ones_15 : decode cX1_ones 15 = .ok (.iand, 1) := by decide +kernel
theorem dX1_ones_16 : decode cX1_ones 16 = .ok (.iadd, 1) := by decide +kernel
theorem dX1_ones_17 : decode cX1_ones 17 = .ok (.istore_n 1, 1) := by decide +kernel
theorem dX1_ones_18 : decode cX1_ones 18 = .ok (.iinc 2 1, 3) := by decide +kernel
theorem dX1_ones_21 : decode cX1_ones 21 = .ok (.goto (-17), 3) := by decide +kernel
theorem dX1_ones_24 : decode cX1_ones 24 = .ok (.iload_n 1, 1) := by decide +kernel
theorem dX1_ones_25 : decode cX1_ones 25 = .ok (.ireturn, 1) := by decide +kernel
theorem dX1_counts_0 : decode cX1_counts 0 = .ok (.iload_n 0, 1) := by decide +kernel
theorem dX1_counts_1 : decode cX1_counts 1 = .ok (.ifCond .ne 7, 3) := by decide +kernel
theorem dX1_counts_4 : decode cX1_counts 4 = .ok (.iconst 1, 1) := by decide +kernel
theorem dX1_counts_5 : decode cX1_counts 5 = .ok (.goto 7, 3) := by decide +kernel
theorem dX1_counts_8 : decode cX1_counts 8 = .ok (.iload_n 0, 1) := by decide +kernel
theorem dX1_counts_9 : decode cX1_counts 9 = .ok (.invokestatic 62, 3) := by decide +kernel
theorem dX1_counts_12 : decode cX1_counts 12 = .ok (.ireturn, 1) := by decide +kernel
theorem dX1_isPlace_0 : decode cX1_isPlace 0 = .ok (.iload_n 0, 1) := by decide +kernel
theorem dX1_isPlace_1 : decode cX1_isPlace 1 = .ok (.ifCond .lt 13, 3) := by decide +kernel
theorem dX1_isPlace_4 : decode cX1_isPlace 4 = .ok (.iload_n 0, 1) := by decide +kernel
theorem dX1_isPlace_5 : decode cX1_isPlace 5 = .ok (.bipush 28, 2) := by decide +kernel
theorem dX1_isPlace_7 : decode cX1_isPlace 7 = .ok (.if_icmp .ge 7, 3) := by decide +kernel
theorem dX1_isPlace_10 : decode cX1_isPlace 10 = .ok (.iconst 1, 1) := by decide +kernel
theorem dX1_isPlace_11 : decode cX1_isPlace 11 = .ok (.goto 4, 3) := by decide +kernel
theorem dX1_isPlace_14 : decode cX1_isPlace 14 = .ok (.iconst 0, 1) := by decide +kernel
theorem dX1_isPlace_15 : decode cX1_isPlace 15 = .ok (.ireturn, 1) := by decide +kernel
theorem dX1_isFull_0 : decode cX1_isFull 0 = .ok (.aload_n 0, 1) := by decide +kernel
theorem dX1_isFull_1 : decode cX1_isFull 1 = .ok (.getfield 45, 3) := by decide +kernel
theorem dX1_isFull_4 : decode cX1_isFull 4 = .ok (.bipush 48, 2) := by decide +kernel
theorem dX1_isFull_6 : decode cX1_isFull 6 = .ok (.if_icmp .eq 15, 3) := by decide +kernel
theorem dX1_isFull_9 : decode cX1_isFull 9 = .ok (.aload_n 0, 1) := by decide +kernel
theorem dX1_isFull_10 : decode cX1_isFull 10 = .ok (.getfield 48, 3) := by decide +kernel
theorem dX1_isFull_13 : decode cX1_isFull 13 = .ok (.iload_n 1, 1) := by decide +kernel
theorem dX1_isFull_14 : decode cX1_isFull 14 = .ok (.iadd, 1) := by decide +kernel
theorem dX1_isFull_15 : decode cX1_isFull 15 = .ok (.sipush 800, 3) := by decide +kernel
theorem dX1_isFull_18 : decode cX1_isFull 18 = .ok (.if_icmp .le 7, 3) := by decide +kernel
theorem dX1_isFull_21 : decode cX1_isFull 21 = .ok (.iconst 1, 1) := by decide +kernel
theorem dX1_isFull_22 : decode cX1_isFull 22 = .ok (.goto 4, 3) := by decide +kernel
theorem dX1_isFull_25 : decode cX1_isFull 25 = .ok (.iconst 0, 1) := by decide +kernel
theorem dX1_isFull_26 : decode cX1_isFull 26 = .ok (.ireturn, 1) := by decide +kernel
theorem dX1_comes_0 : decode cX1_comes 0 = .ok (.aload_n 0, 1) := by decide +kernel
theorem dX1_comes_1 : decode cX1_comes 1 = .ok (.getfield 45, 3) := by decide +kernel
theorem dX1_comes_4 : decode cX1_comes 4 = .ok (.istore_n 2, 1) := by decide +kernel
theorem dX1_comes_5 : decode cX1_comes 5 = .ok (.iconst 0, 1) := by decide +kernel
theorem dX1_comes_6 : decode cX1_comes 6 = .ok (.istore_n 3, 1) := by decide +kernel
theorem dX1_comes_7 : decode cX1_comes 7 = .ok (.iload_n 3, 1) := by decide +kernel
theorem dX1_comes_8 : decode cX1_comes 8 = .ok (.bipush 41, 2) := by decide +kernel
theorem dX1_comes_10 : decode cX1_comes 10 = .ok (.if_icmp .ge 33, 3) := by decide +kernel
theorem dX1_comes_13 : decode cX1_comes 13 = .ok (.aload_n 0, 1) := by decide +kernel
theorem dX1_comes_14 : decode cX1_comes 14 = .ok (.getfield 7, 3) := by decide +kernel
theorem dX1_comes_17 : decode cX1_comes 17 = .ok (.bipush 41, 2) := by decide +kernel
theorem dX1_comes_19 : decode cX1_comes 19 = .ok (.iload_n 2, 1) := by decide +kernel
theorem dX1_comes_20 : decode cX1_comes 20 = .ok (.imul, 1) := by decide +kernel
theorem dX1_comes_21 : decode cX1_comes 21 = .ok (.iload_n 3, 1) := by decide +kernel
theorem dX1_comes_22 : decode cX1_comes 22 = .ok (.iadd, 1) := by decide +kernel
theorem dX1_comes_23 : decode cX1_comes 23 = .ok (.iconst 0, 1) := by decide +kernel
theorem dX1_comes_24 : decode cX1_comes 24 = .ok (.bastore, 1) := by decide +kernel
theorem dX1_comes_25 : decode cX1_comes 25 = .ok (.aload_n 0, 1) := by decide +kernel
theorem dX1_comes_26 : decode cX1_comes 26 = .ok (.getfield 13, 3) := by decide +kernel
theorem dX1_comes_29 : decode cX1_comes 29 = .ok (.bipush 41, 2) := by decide +kernel
theorem dX1_comes_31 : decode cX1_comes 31 = .ok (.iload_n 2, 1) := by decide +kernel
theorem dX1_comes_32 : decode cX1_comes 32 = .ok (.imul, 1) := by decide +kernel
theorem dX1_comes_33 : decode cX1_comes 33 = .ok (.iload_n 3, 1) := by decide +kernel
theorem dX1_comes_34 : decode cX1_comes 34 = .ok (.iadd, 1) := by decide +kernel
theorem dX1_comes_35 : decode cX1_comes 35 = .ok (.iconst 0, 1) := by decide +kernel
theorem dX1_comes_36 : decode cX1_comes 36 = .ok (.bastore, 1) := by decide +kernel
theorem dX1_comes_37 : decode cX1_comes 37 = .ok (.iinc 3 1, 3) := by decide +kernel
theorem dX1_comes_40 : decode cX1_comes 40 = .ok (.goto (-33), 3) := by decide +kernel
theorem dX1_comes_43 : decode cX1_comes 43 = .ok (.aload_n 0, 1) := by decide +kernel
theorem dX1_comes_44 : decode cX1_comes 44 = .ok (.getfield 16, 3) := by decide +kernel
theorem dX1_comes_47 : decode cX1_comes 47 = .ok (.iload_n 2, 1) := by decide +kernel
theorem dX1_comes_48 : decode cX1_comes 48 = .ok (.iconst (-1), 1) := by decide +kernel
theorem dX1_comes_49 : decode cX1_comes 49 = .ok (.iastore, 1) := by decide +kernel
theorem dX1_comes_50 : decode cX1_comes 50 = .ok (.aload_n 0, 1) := by decide +kernel
theorem dX1_comes_51 : decode cX1_comes 51 = .ok (.getfield 20, 3) := by decide +kernel
theorem dX1_comes_54 : decode cX1_comes 54 = .ok (.iload_n 2, 1) := by decide +kernel
theorem dX1_comes_55 : decode cX1_comes 55 = .ok (.iconst 0, 1) := by decide +kernel
theorem dX1_comes_56 : decode cX1_comes 56 = .ok (.iastore, 1) := by decide +kernel
theorem dX1_comes_57 : decode cX1_comes 57 = .ok (.aload_n 0, 1) := by decide +kernel
theorem dX1_comes_58 : decode cX1_comes 58 = .ok (.getfield 23, 3) := by decide +kernel
theorem dX1_comes_61 : decode cX1_comes 61 = .ok (.iload_n 2, 1) := by decide +kernel
theorem dX1_comes_62 : decode cX1_comes 62 = .ok (.iconst 0, 1) := by decide +kernel
theorem dX1_comes_63 : decode cX1_comes 63 = .ok (.iastore, 1) := by decide +kernel
theorem dX1_comes_64 : decode cX1_comes 64 = .ok (.aload_n 0, 1) := by decide +kernel
theorem dX1_comes_65 : decode cX1_comes 65 = .ok (.getfield 26, 3) := by decide +kernel
theorem dX1_comes_68 : decode cX1_comes 68 = .ok (.iload_n 2, 1) := by decide +kernel
theorem dX1_comes_69 : decode cX1_comes 69 = .ok (.iconst 0, 1) := by decide +kernel
theorem dX1_comes_70 : decode cX1_comes 70 = .ok (.bastore, 1) := by decide +kernel
theorem dX1_comes_71 : decode cX1_comes 71 = .ok (.aload_n 0, 1) := by decide +kernel
theorem dX1_comes_72 : decode cX1_comes 72 = .ok (.getfield 29, 3) := by decide +kernel
theorem dX1_comes_75 : decode cX1_comes 75 = .ok (.iload_n 2, 1) := by decide +kernel
theorem dX1_comes_76 : decode cX1_comes 76 = .ok (.aload_n 0, 1) := by decide +kernel
theorem dX1_comes_77 : decode cX1_comes 77 = .ok (.getfield 32, 3) := by decide +kernel
theorem dX1_comes_80 : decode cX1_comes 80 = .ok (.iastore, 1) := by decide +kernel
theorem dX1_comes_81 : decode cX1_comes 81 = .ok (.aload_n 0, 1) := by decide +kernel
theorem dX1_comes_82 : decode cX1_comes 82 = .ok (.dup, 1) := by decide +kernel
theorem dX1_comes_83 : decode cX1_comes 83 = .ok (.getfield 48, 3) := by decide +kernel
theorem dX1_comes_86 : decode cX1_comes 86 = .ok (.iload_n 1, 1) := by decide +kernel
theorem dX1_comes_87 : decode cX1_comes 87 = .ok (.iadd, 1) := by decide +kernel
theorem dX1_comes_88 : decode cX1_comes 88 = .ok (.putfield 48, 3) := by decide +kernel
theorem dX1_comes_91 : decode cX1_comes 91 = .ok (.aload_n 0, 1) := by decide +kernel
theorem dX1_comes_92 : decode cX1_comes 92 = .ok (.dup, 1) := by decide +kernel
theorem dX1_comes_93 : decode cX1_comes 93 = .ok (.getfield 45, 3) := by decide +kernel
theorem dX1_comes_96 : decode cX1_comes 96 = .ok (.iconst 1, 1) := by decide +kernel
theorem dX1_comes_97 : decode cX1_comes 97 = .ok (.iadd, 1) := by decide +kernel
theorem dX1_comes_98 : decode cX1_comes 98 = .ok (.putfield 45, 3) := by decide +kernel
theorem dX1_comes_101 : decode cX1_comes 101 = .ok (.aload_n 0, 1) := by decide +kernel
theorem dX1_comes_102 : decode cX1_comes 102 = .ok (.iconst 0, 1) := by decide +kernel
theorem dX1_comes_103 : decode cX1_comes 103 = .ok (.putfield 57, 3) := by decide +kernel
theorem dX1_comes_106 : decode cX1_comes 106 = .ok (.aload_n 0, 1) := by decide +kernel
theorem dX1_comes_107 : decode cX1_comes 107 = .ok (.iconst (-1), 1) := by decide +kernel
theorem dX1_comes_108 : decode cX1_comes 108 = .ok (.putfield 39, 3) := by decide +kernel
theorem dX1_comes_111 : decode cX1_comes 111 = .ok (.iload_n 2, 1) := by decide +kernel
theorem dX1_comes_112 : decode cX1_comes 112 = .ok (.ireturn, 1) := by decide +kernel
theorem dX1_reads_0 : decode cX1_reads 0 = .ok (.iconst 0, 1) := by decide +kernel
theorem dX1_reads_1 : decode cX1_reads 1 = .ok (.istore_n 3, 1) := by decide +kernel
theorem dX1_reads_2 : decode cX1_reads 2 = .ok (.iload_n 3, 1) := by decide +kernel
theorem dX1_reads_3 : decode cX1_reads 3 = .ok (.bipush 28, 2) := by decide +kernel
theorem dX1_reads_5 : decode cX1_reads 5 = .ok (.if_icmp .ge 51, 3) := by decide +kernel
theorem dX1_reads_8 : decode cX1_reads 8 = .ok (.iload_n 2, 1) := by decide +kernel
theorem dX1_reads_9 : decode cX1_reads 9 = .ok (.iload_n 3, 1) := by decide +kernel
theorem dX1_reads_10 : decode cX1_reads 10 = .ok (.ishr, 1) := by decide +kernel
theorem dX1_reads_11 : decode cX1_reads 11 = .ok (.iconst 1, 1) := by decide +kernel
theorem dX1_reads_12 : decode cX1_reads 12 = .ok (.iand, 1) := by decide +kernel
theorem dX1_reads_13 : decode cX1_reads 13 = .ok (.iconst 1, 1) := by decide +kernel
theorem dX1_reads_14 : decode cX1_reads 14 = .ok (.if_icmp .ne 36, 3) := by decide +kernel
theorem dX1_reads_17 : decode cX1_reads 17 = .ok (.aload_n 0, 1) := by decide +kernel
theorem dX1_reads_18 : decode cX1_reads 18 = .ok (.getfield 7, 3) := by decide +kernel
theorem dX1_reads_21 : decode cX1_reads 21 = .ok (.bipush 41, 2) := by decide +kernel
theorem dX1_reads_23 : decode cX1_reads 23 = .ok (.iload_n 1, 1) := by decide +kernel
theorem dX1_reads_24 : decode cX1_reads 24 = .ok (.imul, 1) := by decide +kernel
theorem dX1_reads_25 : decode cX1_reads 25 = .ok (.iload_n 3, 1) := by decide +kernel
theorem dX1_reads_26 : decode cX1_reads 26 = .ok (.iadd, 1) := by decide +kernel
theorem dX1_reads_27 : decode cX1_reads 27 = .ok (.iconst 1, 1) := by decide +kernel
theorem dX1_reads_28 : decode cX1_reads 28 = .ok (.bastore, 1) := by decide +kernel
theorem dX1_reads_29 : decode cX1_reads 29 = .ok (.iload_n 3, 1) := by decide +kernel
theorem dX1_reads_30 : decode cX1_reads 30 = .ok (.bipush 15, 2) := by decide +kernel
theorem dX1_reads_32 : decode cX1_reads 32 = .ok (.if_icmp .le 18, 3) := by decide +kernel
theorem dX1_reads_35 : decode cX1_reads 35 = .ok (.aload_n 0, 1) := by decide +kernel
theorem dX1_reads_36 : decode cX1_reads 36 = .ok (.getfield 7, 3) := by decide +kernel
theorem dX1_reads_39 : decode cX1_reads 39 = .ok (.bipush 41, 2) := by decide +kernel
theorem dX1_reads_41 : decode cX1_reads 41 = .ok (.iload_n 1, 1) := by decide +kernel
theorem dX1_reads_42 : decode cX1_reads 42 = .ok (.imul, 1) := by decide +kernel
theorem dX1_reads_43 : decode cX1_reads 43 = .ok (.iload_n 3, 1) := by decide +kernel
theorem dX1_reads_44 : decode cX1_reads 44 = .ok (.iadd, 1) := by decide +kernel
theorem dX1_reads_45 : decode cX1_reads 45 = .ok (.bipush 12, 2) := by decide +kernel
theorem dX1_reads_47 : decode cX1_reads 47 = .ok (.iadd, 1) := by decide +kernel
theorem dX1_reads_48 : decode cX1_reads 48 = .ok (.iconst 1, 1) := by decide +kernel
theorem dX1_reads_49 : decode cX1_reads 49 = .ok (.bastore, 1) := by decide +kernel
theorem dX1_reads_50 : decode cX1_reads 50 = .ok (.iinc 3 1, 3) := by decide +kernel
theorem dX1_reads_53 : decode cX1_reads 53 = .ok (.goto (-51), 3) := by decide +kernel
theorem dX1_reads_56 : decode cX1_reads 56 = .ok (.return_, 1) := by decide +kernel
theorem dX1_writes_0 : decode cX1_writes 0 = .ok (.aload_n 0, 1) := by decide +kernel
theorem dX1_writes_1 : decode cX1_writes 1 = .ok (.getfield 13, 3) := by decide +kernel
theorem dX1_writes_4 : decode cX1_writes 4 = .ok (.bipush 41, 2) := by decide +kernel
theorem dX1_writes_6 : decode cX1_writes 6 = .ok (.iload_n 1, 1) := by decide +kernel
theorem dX1_writes_7 : decode cX1_writes 7 = .ok (.imul, 1) := by decide +kernel
theorem dX1_writes_8 : decode cX1_writes 8 = .ok (.iload_n 2, 1) := by decide +kernel
theorem dX1_writes_9 : decode cX1_writes 9 = .ok (.iadd, 1) := by decide +kernel
theorem dX1_writes_10 : decode cX1_writes 10 = .ok (.iconst 1, 1) := by decide +kernel
theorem dX1_writes_11 : decode cX1_writes 11 = .ok (.bastore, 1) := by decide +kernel
theorem dX1_writes_12 : decode cX1_writes 12 = .ok (.iload_n 2, 1) := by decide +kernel
theorem dX1_writes_13 : decode cX1_writes 13 = .ok (.bipush 15, 2) := by decide +kernel
theorem dX1_writes_15 : decode cX1_writes 15 = .ok (.if_icmp .le 24, 3) := by decide +kernel
theorem dX1_writes_18 : decode cX1_writes 18 = .ok (.iload_n 2, 1) := by decide +kernel
theorem dX1_writes_19 : decode cX1_writes 19 = .ok (.bipush 28, 2) := by decide +kernel
theorem dX1_writes_21 : decode cX1_writes 21 = .ok (.if_icmp .ge 18, 3) := by decide +kernel
theorem dX1_writes_24 : decode cX1_writes 24 = .ok (.aload_n 0, 1) := by decide +kernel
theorem dX1_writes_25 : decode cX1_writes 25 = .ok (.getfield 7, 3) := by decide +kernel
theorem dX1_writes_28 : decode cX1_writes 28 = .ok (.bipush 41, 2) := by decide +kernel
theorem dX1_writes_30 : decode cX1_writes 30 = .ok (.iload_n 1, 1) := by decide +kernel
theorem dX1_writes_31 : decode cX1_writes 31 = .ok (.imul, 1) := by decide +kernel
theorem dX1_writes_32 : decode cX1_writes 32 = .ok (.iload_n 2, 1) := by decide +kernel
theorem dX1_writes_33 : decode cX1_writes 33 = .ok (.iadd, 1) := by decide +kernel
theorem dX1_writes_34 : decode cX1_writes 34 = .ok (.bipush 12, 2) := by decide +kernel
theorem dX1_writes_36 : decode cX1_writes 36 = .ok (.iadd, 1) := by decide +kernel
theorem dX1_writes_37 : decode cX1_writes 37 = .ok (.iconst 1, 1) := by decide +kernel
theorem dX1_writes_38 : decode cX1_writes 38 = .ok (.bastore, 1) := by decide +kernel
theorem dX1_writes_39 : decode cX1_writes 39 = .ok (.return_, 1) := by decide +kernel
theorem dX1_assign_0 : decode cX1_assign 0 = .ok (.aload_n 0, 1) := by decide +kernel
theorem dX1_assign_1 : decode cX1_assign 1 = .ok (.iload_n 1, 1) := by decide +kernel
theorem dX1_assign_2 : decode cX1_assign 2 = .ok (.invokestatic 66, 3) := by decide +kernel
theorem dX1_assign_5 : decode cX1_assign 5 = .ok (.ifCond .eq 10, 3) := by decide +kernel
theorem dX1_assign_8 : decode cX1_assign 8 = .ok (.iload_n 2, 1) := by decide +kernel
theorem dX1_assign_9 : decode cX1_assign 9 = .ok (.invokestatic 70, 3) := by decide +kernel
theorem dX1_assign_12 : decode cX1_assign 12 = .ok (.ifCond .ne 7, 3) := by decide +kernel
theorem dX1_assign_15 : decode cX1_assign 15 = .ok (.iconst 1, 1) := by decide +kernel
theorem dX1_assign_16 : decode cX1_assign 16 = .ok (.goto 19, 3) := by decide +kernel
theorem dX1_assign_19 : decode cX1_assign 19 = .ok (.aload_n 0, 1) := by decide +kernel
theorem dX1_assign_20 : decode cX1_assign 20 = .ok (.iload_n 2, 1) := by decide +kernel
theorem dX1_assign_21 : decode cX1_assign 21 = .ok (.invokestatic 73, 3) := by decide +kernel
theorem dX1_assign_24 : decode cX1_assign 24 = .ok (.invokevirtual 76, 3) := by decide +kernel
theorem dX1_assign_27 : decode cX1_assign 27 = .ok (.ifCond .eq 7, 3) := by decide +kernel
theorem dX1_assign_30 : decode cX1_assign 30 = .ok (.iconst 2, 1) := by decide +kernel
theorem dX1_assign_31 : decode cX1_assign 31 = .ok (.goto 4, 3) := by decide +kernel
theorem dX1_assign_34 : decode cX1_assign 34 = .ok (.iconst 0, 1) := by decide +kernel
theorem dX1_assign_35 : decode cX1_assign 35 = .ok (.putfield 42, 3) := by decide +kernel
theorem dX1_assign_38 : decode cX1_assign 38 = .ok (.aload_n 0, 1) := by decide +kernel
theorem dX1_assign_39 : decode cX1_assign 39 = .ok (.getfield 42, 3) := by decide +kernel
theorem dX1_assign_42 : decode cX1_assign 42 = .ok (.ifCond .le 5, 3) := by decide +kernel
theorem dX1_assign_45 : decode cX1_assign 45 = .ok (.iconst 0, 1) := by decide +kernel
theorem dX1_assign_46 : decode cX1_assign 46 = .ok (.ireturn, 1) := by decide +kernel
theorem dX1_assign_47 : decode cX1_assign 47 = .ok (.aload_n 0, 1) := by decide +kernel
theorem dX1_assign_48 : decode cX1_assign 48 = .ok (.iload_n 2, 1) := by decide +kernel
theorem dX1_assign_49 : decode cX1_assign 49 = .ok (.invokestatic 73, 3) := by decide +kernel
theorem dX1_assign_52 : decode cX1_assign 52 = .ok (.invokevirtual 79, 3) := by decide +kernel
theorem dX1_assign_55 : decode cX1_assign 55 = .ok (.istore_n 3, 1) := by decide +kernel
theorem dX1_assign_56 : decode cX1_assign 56 = .ok (.aload_n 0, 1) := by decide +kernel
theorem dX1_assign_57 : decode cX1_assign 57 = .ok (.iload_n 3, 1) := by decide +kernel
theorem dX1_assign_58 : decode cX1_assign 58 = .ok (.iload_n 2, 1) := by decide +kernel
theorem dX1_assign_59 : decode cX1_assign 59 = .ok (.invokevirtual 82, 3) := by decide +kernel
theorem dX1_assign_62 : decode cX1_assign 62 = .ok (.aload_n 0, 1) := by decide +kernel
theorem dX1_assign_63 : decode cX1_assign 63 = .ok (.iload_n 3, 1) := by decide +kernel
theorem dX1_assign_64 : decode cX1_assign 64 = .ok (.iload_n 1, 1) := by decide +kernel
theorem dX1_assign_65 : decode cX1_assign 65 = .ok (.invokevirtual 85, 3) := by decide +kernel
theorem dX1_assign_68 : decode cX1_assign 68 = .ok (.iload_n 3, 1) := by decide +kernel
theorem dX1_assign_69 : decode cX1_assign 69 = .ok (.ireturn, 1) := by decide +kernel
theorem dX1_load_0 : decode cX1_load 0 = .ok (.aload_n 0, 1) := by decide +kernel
theorem dX1_load_1 : decode cX1_load 1 = .ok (.iload_n 1, 1) := by decide +kernel
theorem dX1_load_2 : decode cX1_load 2 = .ok (.invokestatic 66, 3) := by decide +kernel
theorem dX1_load_5 : decode cX1_load 5 = .ok (.ifCond .eq 20, 3) := by decide +kernel
theorem dX1_load_8 : decode cX1_load 8 = .ok (.iload_n 2, 1) := by decide +kernel
theorem dX1_load_9 : decode cX1_load 9 = .ok (.ifCond .lt 16, 3) := by decide +kernel
theorem dX1_load_12 : decode cX1_load 12 = .ok (.iload_n 2, 1) := by decide +kernel
theorem dX1_load_13 : decode cX1_load 13 = .ok (.bipush 7, 2) := by decide +kernel
theorem dX1_load_15 : decode cX1_load 15 = .ok (.if_icmp .gt 10, 3) := by decide +kernel
theorem dX1_load_18 : decode cX1_load 18 = .ok (.iload_n 3, 1) := by decide +kernel
theorem dX1_load_19 : decode cX1_load 19 = .ok (.invokestatic 70, 3) := by decide +kernel
theorem dX1_load_22 : decode cX1_load 22 = .ok (.ifCond .ne 7, 3) := by decide +kernel
theorem dX1_load_25 : decode cX1_load 25 = .ok (.iconst 1, 1) := by decide +kernel
theorem dX1_load_26 : decode cX1_load 26 = .ok (.goto 19, 3) := by decide +kernel
theorem dX1_load_29 : decode cX1_load 29 = .ok (.aload_n 0, 1) := by decide +kernel
theorem dX1_load_30 : decode cX1_load 30 = .ok (.iload_n 3, 1) := by decide +kernel
theorem dX1_load_31 : decode cX1_load 31 = .ok (.invokestatic 73, 3) := by decide +kernel
theorem dX1_load_34 : decode cX1_load 34 = .ok (.invokevirtual 76, 3) := by decide +kernel
theorem dX1_load_37 : decode cX1_load 37 = .ok (.ifCond .eq 7, 3) := by decide +kernel
theorem dX1_load_40 : decode cX1_load 40 = .ok (.iconst 2, 1) := by decide +kernel
theorem dX1_load_41 : decode cX1_load 41 = .ok (.goto 4, 3) := by decide +kernel
theorem dX1_load_44 : decode cX1_load 44 = .ok (.iconst 0, 1) := by decide +kernel
theorem dX1_load_45 : decode cX1_load 45 = .ok (.putfield 42, 3) := by decide +kernel
theorem dX1_load_48 : decode cX1_load 48 = .ok (.aload_n 0, 1) := by decide +kernel
theorem dX1_load_49 : decode cX1_load 49 = .ok (.getfield 42, 3) := by decide +kernel
theorem dX1_load_52 : decode cX1_load 52 = .ok (.ifCond .le 5, 3) := by decide +kernel
theorem dX1_load_55 : decode cX1_load 55 = .ok (.iconst 0, 1) := by decide +kernel
theorem dX1_load_56 : decode cX1_load 56 = .ok (.ireturn, 1) := by decide +kernel
theorem dX1_load_57 : decode cX1_load 57 = .ok (.aload_n 0, 1) := by decide +kernel
theorem dX1_load_58 : decode cX1_load 58 = .ok (.iload_n 3, 1) := by decide +kernel
theorem dX1_load_59 : decode cX1_load 59 = .ok (.invokestatic 73, 3) := by decide +kernel
theorem dX1_load_62 : decode cX1_load 62 = .ok (.invokevirtual 79, 3) := by decide +kernel
theorem dX1_load_65 : decode cX1_load 65 = .ok (.istore 4, 2) := by decide +kernel
theorem dX1_load_67 : decode cX1_load 67 = .ok (.aload_n 0, 1) := by decide +kernel
theorem dX1_load_68 : decode cX1_load 68 = .ok (.iload 4, 2) := by decide +kernel
theorem dX1_load_70 : decode cX1_load 70 = .ok (.iload_n 3, 1) := by decide +kernel
theorem dX1_load_71 : decode cX1_load 71 = .ok (.invokevirtual 82, 3) := by decide +kernel
theorem dX1_load_74 : decode cX1_load 74 = .ok (.aload_n 0, 1) := by decide +kernel
theorem dX1_load_75 : decode cX1_load 75 = .ok (.iload 4, 2) := by decide +kernel
theorem dX1_load_77 : decode cX1_load 77 = .ok (.iload_n 1, 1) := by decide +kernel
theorem dX1_load_78 : decode cX1_load 78 = .ok (.invokevirtual 85, 3) := by decide +kernel
theorem dX1_load_81 : decode cX1_load 81 = .ok (.aload_n 0, 1) := by decide +kernel
theorem dX1_load_82 : decode cX1_load 82 = .ok (.getfield 16, 3) := by decide +kernel
theorem dX1_load_85 : decode cX1_load 85 = .ok (.iload 4, 2) := by decide +kernel
theorem dX1_load_87 : decode cX1_load 87 = .ok (.iload_n 2, 1) := by decide +kernel
theorem dX1_load_88 : decode cX1_load 88 = .ok (.iastore, 1) := by decide +kernel
theorem dX1_load_89 : decode cX1_load 89 = .ok (.iload 4, 2) := by decide +kernel
theorem dX1_load_91 : decode cX1_load 91 = .ok (.ireturn, 1) := by decide +kernel
theorem dX1_store_0 : decode cX1_store 0 = .ok (.aload_n 0, 1) := by decide +kernel
theorem dX1_store_1 : decode cX1_store 1 = .ok (.iload_n 1, 1) := by decide +kernel
theorem dX1_store_2 : decode cX1_store 2 = .ok (.ifCond .lt 23, 3) := by decide +kernel
theorem dX1_store_5 : decode cX1_store 5 = .ok (.iload_n 1, 1) := by decide +kernel
theorem dX1_store_6 : decode cX1_store 6 = .ok (.bipush 7, 2) := by decide +kernel
theorem dX1_store_8 : decode cX1_store 8 = .ok (.if_icmp .gt 17, 3) := by decide +kernel
theorem dX1_store_11 : decode cX1_store 11 = .ok (.iload_n 2, 1) := by decide +kernel
theorem dX1_store_12 : decode cX1_store 12 = .ok (.invokestatic 70, 3) := by decide +kernel
theorem dX1_store_15 : decode cX1_store 15 = .ok (.ifCond .eq 10, 3) := by decide +kernel
theorem dX1_store_18 : decode cX1_store 18 = .ok (.iload_n 3, 1) := by decide +kernel
theorem dX1_store_19 : decode cX1_store 19 = .ok (.invokestatic 70, 3) := by decide +kernel
theorem dX1_store_22 : decode cX1_store 22 = .ok (.ifCond .ne 7, 3) := by decide +kernel
theorem dX1_store_25 : decode cX1_store 25 = .ok (.iconst 1, 1) := by decide +kernel
theorem dX1_store_26 : decode cX1_store 26 = .ok (.goto 24, 3) := by decide +kernel
theorem dX1_store_29 : decode cX1_store 29 = .ok (.aload_n 0, 1) := by decide +kernel
theorem dX1_store_30 : decode cX1_store 30 = .ok (.iload_n 2, 1) := by decide +kernel
theorem dX1_store_31 : decode cX1_store 31 = .ok (.invokestatic 73, 3) := by decide +kernel
theorem dX1_store_34 : decode cX1_store 34 = .ok (.iload_n 3, 1) := by decide +kernel
theorem dX1_store_35 : decode cX1_store 35 = .ok (.invokestatic 73, 3) := by decide +kernel
theorem dX1_store_38 : decode cX1_store 38 = .ok (.iadd, 1) := by decide +kernel
theorem dX1_store_39 : decode cX1_store 39 = .ok (.invokevirtual 76, 3) := by decide +kernel
theorem dX1_store_42 : decode cX1_store 42 = .ok (.ifCond .eq 7, 3) := by decide +kernel
theorem dX1_store_45 : decode cX1_store 45 = .ok (.iconst 2, 1) := by decide +kernel
theorem dX1_store_46 : decode cX1_store 46 = .ok (.goto 4, 3) := by decide +kernel
theorem dX1_store_49 : decode cX1_store 49 = .ok (.iconst 0, 1) := by decide +kernel
theorem dX1_store_50 : decode cX1_store 50 = .ok (.putfield 42, 3) := by decide +kernel
theorem dX1_store_53 : decode cX1_store 53 = .ok (.aload_n 0, 1) := by decide +kernel
theorem dX1_store_54 : decode cX1_store 54 = .ok (.getfield 42, 3) := by decide +kernel
theorem dX1_store_57 : decode cX1_store 57 = .ok (.ifCond .le 5, 3) := by decide +kernel
theorem dX1_store_60 : decode cX1_store 60 = .ok (.iconst 0, 1) := by decide +kernel
theorem dX1_store_61 : decode cX1_store 61 = .ok (.ireturn, 1) := by decide +kernel
theorem dX1_store_62 : decode cX1_store 62 = .ok (.aload_n 0, 1) := by decide +kernel
theorem dX1_store_63 : decode cX1_store 63 = .ok (.iload_n 2, 1) := by decide +kernel
theorem dX1_store_64 : decode cX1_store 64 = .ok (.invokestatic 73, 3) := by decide +kernel
theorem dX1_store_67 : decode cX1_store 67 = .ok (.iload_n 3, 1) := by decide +kernel
theorem dX1_store_68 : decode cX1_store 68 = .ok (.invokestatic 73, 3) := by decide +kernel
theorem dX1_store_71 : decode cX1_store 71 = .ok (.iadd, 1) := by decide +kernel
theorem dX1_store_72 : decode cX1_store 72 = .ok (.invokevirtual 79, 3) := by decide +kernel
theorem dX1_store_75 : decode cX1_store 75 = .ok (.istore 4, 2) := by decide +kernel
theorem dX1_store_77 : decode cX1_store 77 = .ok (.aload_n 0, 1) := by decide +kernel
theorem dX1_store_78 : decode cX1_store 78 = .ok (.iload 4, 2) := by decide +kernel
theorem dX1_store_80 : decode cX1_store 80 = .ok (.iload_n 2, 1) := by decide +kernel
theorem dX1_store_81 : decode cX1_store 81 = .ok (.invokevirtual 82, 3) := by decide +kernel
theorem dX1_store_84 : decode cX1_store 84 = .ok (.aload_n 0, 1) := by decide +kernel
theorem dX1_store_85 : decode cX1_store 85 = .ok (.iload 4, 2) := by decide +kernel
theorem dX1_store_87 : decode cX1_store 87 = .ok (.iload_n 3, 1) := by decide +kernel
theorem dX1_store_88 : decode cX1_store 88 = .ok (.invokevirtual 82, 3) := by decide +kernel
theorem dX1_store_91 : decode cX1_store 91 = .ok (.aload_n 0, 1) := by decide +kernel
theorem dX1_store_92 : decode cX1_store 92 = .ok (.getfield 16, 3) := by decide +kernel
theorem dX1_store_95 : decode cX1_store 95 = .ok (.iload 4, 2) := by decide +kernel
theorem dX1_store_97 : decode cX1_store 97 = .ok (.iload_n 1, 1) := by decide +kernel
theorem dX1_store_98 : decode cX1_store 98 = .ok (.iastore, 1) := by decide +kernel
theorem dX1_store_99 : decode cX1_store 99 = .ok (.iload 4, 2) := by decide +kernel
theorem dX1_store_101 : decode cX1_store 101 = .ok (.ireturn, 1) := by decide +kernel
theorem dX1_valid_0 : decode cX1_valid 0 = .ok (.aload_n 0, 1) := by decide +kernel
theorem dX1_valid_1 : decode cX1_valid 1 = .ok (.iload_n 1, 1) := by decide +kernel
theorem dX1_valid_2 : decode cX1_valid 2 = .ok (.ifCond .lt 9, 3) := by decide +kernel
theorem dX1_valid_5 : decode cX1_valid 5 = .ok (.iload_n 1, 1) := by decide +kernel
theorem dX1_valid_6 : decode cX1_valid 6 = .ok (.bipush 11, 2) := by decide +kernel
theorem dX1_valid_8 : decode cX1_valid 8 = .ok (.if_icmp .le 7, 3) := by decide +kernel
theorem dX1_valid_11 : decode cX1_valid 11 = .ok (.iconst 1, 1) := by decide +kernel
theorem dX1_valid_12 : decode cX1_valid 12 = .ok (.goto 16, 3) := by decide +kernel
theorem dX1_valid_15 : decode cX1_valid 15 = .ok (.aload_n 0, 1) := by decide +kernel
theorem dX1_valid_16 : decode cX1_valid 16 = .ok (.iconst 0, 1) := by decide +kernel
theorem dX1_valid_17 : decode cX1_valid 17 = .ok (.invokevirtual 76, 3) := by decide +kernel
theorem dX1_valid_20 : decode cX1_valid 20 = .ok (.ifCond .eq 7, 3) := by decide +kernel
theorem dX1_valid_23 : decode cX1_valid 23 = .ok (.iconst 2, 1) := by decide +kernel
theorem dX1_valid_24 : decode cX1_valid 24 = .ok (.goto 4, 3) := by decide +kernel
theorem dX1_valid_27 : decode cX1_valid 27 = .ok (.iconst 0, 1) := by decide +kernel
theorem dX1_valid_28 : decode cX1_valid 28 = .ok (.putfield 42, 3) := by decide +kernel
theorem dX1_valid_31 : decode cX1_valid 31 = .ok (.aload_n 0, 1) := by decide +kernel
theorem dX1_valid_32 : decode cX1_valid 32 = .ok (.getfield 42, 3) := by decide +kernel
theorem dX1_valid_35 : decode cX1_valid 35 = .ok (.ifCond .le 5, 3) := by decide +kernel
theorem dX1_valid_38 : decode cX1_valid 38 = .ok (.iconst 0, 1) := by decide +kernel
theorem dX1_valid_39 : decode cX1_valid 39 = .ok (.ireturn, 1) := by decide +kernel
theorem dX1_valid_40 : decode cX1_valid 40 = .ok (.aload_n 0, 1) := by decide +kernel
theorem dX1_valid_41 : decode cX1_valid 41 = .ok (.iconst 0, 1) := by decide +kernel
theorem dX1_valid_42 : decode cX1_valid 42 = .ok (.invokevirtual 79, 3) := by decide +kernel
theorem dX1_valid_45 : decode cX1_valid 45 = .ok (.istore_n 3, 1) := by decide +kernel
theorem dX1_valid_46 : decode cX1_valid 46 = .ok (.aload_n 0, 1) := by decide +kernel
theorem dX1_valid_47 : decode cX1_valid 47 = .ok (.iload_n 3, 1) := by decide +kernel
theorem dX1_valid_48 : decode cX1_valid 48 = .ok (.bipush 16, 2) := by decide +kernel
theorem dX1_valid_50 : decode cX1_valid 50 = .ok (.iload_n 1, 1) := by decide +kernel
theorem dX1_valid_51 : decode cX1_valid 51 = .ok (.iadd, 1) := by decide +kernel
theorem dX1_valid_52 : decode cX1_valid 52 = .ok (.invokevirtual 85, 3) := by decide +kernel
theorem dX1_valid_55 : decode cX1_valid 55 = .ok (.aload_n 0, 1) := by decide +kernel
theorem dX1_valid_56 : decode cX1_valid 56 = .ok (.getfield 13, 3) := by decide +kernel
theorem dX1_valid_59 : decode cX1_valid 59 = .ok (.bipush 41, 2) := by decide +kernel
theorem dX1_valid_61 : decode cX1_valid 61 = .ok (.iload_n 3, 1) := by decide +kernel
theorem dX1_valid_62 : decode cX1_valid 62 = .ok (.imul, 1) := by decide +kernel
theorem dX1_valid_63 : decode cX1_valid 63 = .ok (.bipush 28, 2) := by decide +kernel
theorem dX1_valid_65 : decode cX1_valid 65 = .ok (.iadd, 1) := by decide +kernel
theorem dX1_valid_66 : decode cX1_valid 66 = .ok (.iload_n 1, 1) := by decide +kernel
theorem dX1_valid_67 : decode cX1_valid 67 = .ok (.iadd, 1) := by decide +kernel
theorem dX1_valid_68 : decode cX1_valid 68 = .ok (.iconst 1, 1) := by decide +kernel
theorem dX1_valid_69 : decode cX1_valid 69 = .ok (.bastore, 1) := by decide +kernel
theorem dX1_valid_70 : decode cX1_valid 70 = .ok (.iload_n 3, 1) := by decide +kernel
theorem dX1_valid_71 : decode cX1_valid 71 = .ok (.ireturn, 1) := by decide +kernel
theorem dX1_drop_0 : decode cX1_drop 0 = .ok (.aload_n 0, 1) := by decide +kernel
theorem dX1_drop_1 : decode cX1_drop 1 = .ok (.aload_n 0, 1) := by decide +kernel
theorem dX1_drop_2 : decode cX1_drop 2 = .ok (.iconst 0, 1) := by decide +kernel
theorem dX1_drop_3 : decode cX1_drop 3 = .ok (.invokevirtual 76, 3) := by decide +kernel
theorem dX1_drop_6 : decode cX1_drop 6 = .ok (.ifCond .eq 7, 3) := by decide +kernel
theorem dX1_drop_9 : decode cX1_drop 9 = .ok (.iconst 1, 1) := by decide +kernel
theorem dX1_drop_10 : decode cX1_drop 10 = .ok (.goto 4, 3) := by decide +kernel
theorem dX1_drop_13 : decode cX1_drop 13 = .ok (.iconst 0, 1) := by decide +kernel
theorem dX1_drop_14 : decode cX1_drop 14 = .ok (.putfield 42, 3) := by decide +kernel
theorem dX1_drop_17 : decode cX1_drop 17 = .ok (.aload_n 0, 1) := by decide +kernel
theorem dX1_drop_18 : decode cX1_drop 18 = .ok (.getfield 42, 3) := by decide +kernel
theorem dX1_drop_21 : decode cX1_drop 21 = .ok (.ifCond .le 5, 3) := by decide +kernel
theorem dX1_drop_24 : decode cX1_drop 24 = .ok (.iconst 0, 1) := by decide +kernel
theorem dX1_drop_25 : decode cX1_drop 25 = .ok (.ireturn, 1) := by decide +kernel
theorem dX1_drop_26 : decode cX1_drop 26 = .ok (.aload_n 0, 1) := by decide +kernel
theorem dX1_drop_27 : decode cX1_drop 27 = .ok (.iconst 0, 1) := by decide +kernel
theorem dX1_drop_28 : decode cX1_drop 28 = .ok (.invokevirtual 79, 3) := by decide +kernel
theorem dX1_drop_31 : decode cX1_drop 31 = .ok (.istore_n 1, 1) := by decide +kernel
theorem dX1_drop_32 : decode cX1_drop 32 = .ok (.aload_n 0, 1) := by decide +kernel
theorem dX1_drop_33 : decode cX1_drop 33 = .ok (.iload_n 1, 1) := by decide +kernel
theorem dX1_drop_34 : decode cX1_drop 34 = .ok (.bipush 40, 2) := by decide +kernel
theorem dX1_drop_36 : decode cX1_drop 36 = .ok (.invokevirtual 85, 3) := by decide +kernel
theorem dX1_drop_39 : decode cX1_drop 39 = .ok (.iload_n 1, 1) := by decide +kernel
theorem dX1_drop_40 : decode cX1_drop 40 = .ok (.ireturn, 1) := by decide +kernel
theorem dX1_open_0 : decode cX1_open 0 = .ok (.aload_n 0, 1) := by decide +kernel
theorem dX1_open_1 : decode cX1_open 1 = .ok (.iload_n 1, 1) := by decide +kernel
theorem dX1_open_2 : decode cX1_open 2 = .ok (.invokestatic 70, 3) := by decide +kernel
theorem dX1_open_5 : decode cX1_open 5 = .ok (.ifCond .ne 7, 3) := by decide +kernel
theorem dX1_open_8 : decode cX1_open 8 = .ok (.iconst 1, 1) := by decide +kernel
theorem dX1_open_9 : decode cX1_open 9 = .ok (.goto 28, 3) := by decide +kernel
theorem dX1_open_12 : decode cX1_open 12 = .ok (.aload_n 0, 1) := by decide +kernel
theorem dX1_open_13 : decode cX1_open 13 = .ok (.iload_n 1, 1) := by decide +kernel
theorem dX1_open_14 : decode cX1_open 14 = .ok (.invokestatic 73, 3) := by decide +kernel
theorem dX1_open_17 : decode cX1_open 17 = .ok (.invokevirtual 76, 3) := by decide +kernel
theorem dX1_open_20 : decode cX1_open 20 = .ok (.ifCond .ne 12, 3) := by decide +kernel
theorem dX1_open_23 : decode cX1_open 23 = .ok (.aload_n 0, 1) := by decide +kernel
theorem dX1_open_24 : decode cX1_open 24 = .ok (.getfield 54, 3) := by decide +kernel
theorem dX1_open_27 : decode cX1_open 27 = .ok (.bipush 8, 2) := by decide +kernel
theorem dX1_open_29 : decode cX1_open 29 = .ok (.if_icmp .ne 7, 3) := by decide +kernel
theorem dX1_open_32 : decode cX1_open 32 = .ok (.iconst 2, 1) := by decide +kernel
theorem dX1_open_33 : decode cX1_open 33 = .ok (.goto 4, 3) := by decide +kernel
theorem dX1_open_36 : decode cX1_open 36 = .ok (.iconst 0, 1) := by decide +kernel
theorem dX1_open_37 : decode cX1_open 37 = .ok (.putfield 42, 3) := by decide +kernel
theorem dX1_open_40 : decode cX1_open 40 = .ok (.aload_n 0, 1) := by decide +kernel
theorem dX1_open_41 : decode cX1_open 41 = .ok (.getfield 42, 3) := by decide +kernel
theorem dX1_open_44 : decode cX1_open 44 = .ok (.ifCond .le 5, 3) := by decide +kernel
theorem dX1_open_47 : decode cX1_open 47 = .ok (.iconst 0, 1) := by decide +kernel
theorem dX1_open_48 : decode cX1_open 48 = .ok (.ireturn, 1) := by decide +kernel
theorem dX1_open_49 : decode cX1_open 49 = .ok (.aload_n 0, 1) := by decide +kernel
theorem dX1_open_50 : decode cX1_open 50 = .ok (.iload_n 1, 1) := by decide +kernel
theorem dX1_open_51 : decode cX1_open 51 = .ok (.invokestatic 73, 3) := by decide +kernel
theorem dX1_open_54 : decode cX1_open 54 = .ok (.invokevirtual 79, 3) := by decide +kernel
theorem dX1_open_57 : decode cX1_open 57 = .ok (.istore_n 2, 1) := by decide +kernel
theorem dX1_open_58 : decode cX1_open 58 = .ok (.aload_n 0, 1) := by decide +kernel
theorem dX1_open_59 : decode cX1_open 59 = .ok (.iload_n 2, 1) := by decide +kernel
theorem dX1_open_60 : decode cX1_open 60 = .ok (.iload_n 1, 1) := by decide +kernel
theorem dX1_open_61 : decode cX1_open 61 = .ok (.invokevirtual 82, 3) := by decide +kernel
theorem dX1_open_64 : decode cX1_open 64 = .ok (.aload_n 0, 1) := by decide +kernel
theorem dX1_open_65 : decode cX1_open 65 = .ok (.getfield 26, 3) := by decide +kernel
theorem dX1_open_68 : decode cX1_open 68 = .ok (.iload_n 2, 1) := by decide +kernel
theorem dX1_open_69 : decode cX1_open 69 = .ok (.iconst 1, 1) := by decide +kernel
theorem dX1_open_70 : decode cX1_open 70 = .ok (.bastore, 1) := by decide +kernel
theorem dX1_open_71 : decode cX1_open 71 = .ok (.aload_n 0, 1) := by decide +kernel
theorem dX1_open_72 : decode cX1_open 72 = .ok (.iload_n 2, 1) := by decide +kernel
theorem dX1_open_73 : decode cX1_open 73 = .ok (.putfield 32, 3) := by decide +kernel
theorem dX1_open_76 : decode cX1_open 76 = .ok (.aload_n 0, 1) := by decide +kernel
theorem dX1_open_77 : decode cX1_open 77 = .ok (.dup, 1) := by decide +kernel
theorem dX1_open_78 : decode cX1_open 78 = .ok (.getfield 54, 3) := by decide +kernel
theorem dX1_open_81 : decode cX1_open 81 = .ok (.iconst 1, 1) := by decide +kernel
theorem dX1_open_82 : decode cX1_open 82 = .ok (.iadd, 1) := by decide +kernel
theorem dX1_open_83 : decode cX1_open 83 = .ok (.putfield 54, 3) := by decide +kernel
theorem dX1_open_86 : decode cX1_open 86 = .ok (.iload_n 2, 1) := by decide +kernel
theorem dX1_open_87 : decode cX1_open 87 = .ok (.ireturn, 1) := by decide +kernel
theorem dX1_close_0 : decode cX1_close 0 = .ok (.aload_n 0, 1) := by decide +kernel
theorem dX1_close_1 : decode cX1_close 1 = .ok (.aload_n 0, 1) := by decide +kernel
theorem dX1_close_2 : decode cX1_close 2 = .ok (.getfield 54, 3) := by decide +kernel
theorem dX1_close_5 : decode cX1_close 5 = .ok (.ifCond .ne 7, 3) := by decide +kernel
theorem dX1_close_8 : decode cX1_close 8 = .ok (.iconst 1, 1) := by decide +kernel
theorem dX1_close_9 : decode cX1_close 9 = .ok (.goto 4, 3) := by decide +kernel
theorem dX1_close_12 : decode cX1_close 12 = .ok (.iconst 0, 1) := by decide +kernel
theorem dX1_close_13 : decode cX1_close 13 = .ok (.putfield 42, 3) := by decide +kernel
theorem dX1_close_16 : decode cX1_close 16 = .ok (.aload_n 0, 1) := by decide +kernel
theorem dX1_close_17 : decode cX1_close 17 = .ok (.getfield 42, 3) := by decide +kernel
theorem dX1_close_20 : decode cX1_close 20 = .ok (.ifCond .le 5, 3) := by decide +kernel
theorem dX1_close_23 : decode cX1_close 23 = .ok (.iconst 0, 1) := by decide +kernel
theorem dX1_close_24 : decode cX1_close 24 = .ok (.ireturn, 1) := by decide +kernel
theorem dX1_close_25 : decode cX1_close 25 = .ok (.aload_n 0, 1) := by decide +kernel
theorem dX1_close_26 : decode cX1_close 26 = .ok (.getfield 32, 3) := by decide +kernel
theorem dX1_close_29 : decode cX1_close 29 = .ok (.istore_n 1, 1) := by decide +kernel
theorem dX1_close_30 : decode cX1_close 30 = .ok (.aload_n 0, 1) := by decide +kernel
theorem dX1_close_31 : decode cX1_close 31 = .ok (.aload_n 0, 1) := by decide +kernel
theorem dX1_close_32 : decode cX1_close 32 = .ok (.getfield 29, 3) := by decide +kernel
theorem dX1_close_35 : decode cX1_close 35 = .ok (.iload_n 1, 1) := by decide +kernel
theorem dX1_close_36 : decode cX1_close 36 = .ok (.iaload, 1) := by decide +kernel
theorem dX1_close_37 : decode cX1_close 37 = .ok (.putfield 32, 3) := by decide +kernel
theorem dX1_close_40 : decode cX1_close 40 = .ok (.aload_n 0, 1) := by decide +kernel
theorem dX1_close_41 : decode cX1_close 41 = .ok (.dup, 1) := by decide +kernel
theorem dX1_close_42 : decode cX1_close 42 = .ok (.getfield 54, 3) := by decide +kernel
theorem dX1_close_45 : decode cX1_close 45 = .ok (.iconst 1, 1) := by decide +kernel
theorem dX1_close_46 : decode cX1_close 46 = .ok (.isub, 1) := by decide +kernel
theorem dX1_close_47 : decode cX1_close 47 = .ok (.putfield 54, 3) := by decide +kernel
theorem dX1_close_50 : decode cX1_close 50 = .ok (.iload_n 1, 1) := by decide +kernel
theorem dX1_close_51 : decode cX1_close 51 = .ok (.ireturn, 1) := by decide +kernel
theorem dX1_apply_0 : decode cX1_apply 0 = .ok (.iload_n 1, 1) := by decide +kernel
theorem dX1_apply_1 : decode cX1_apply 1 = .ok (.invokestatic 62, 3) := by decide +kernel
theorem dX1_apply_4 : decode cX1_apply 4 = .ok (.istore 4, 2) := by decide +kernel
theorem dX1_apply_6 : decode cX1_apply 6 = .ok (.iload_n 2, 1) := by decide +kernel
theorem dX1_apply_7 : decode cX1_apply 7 = .ok (.iconst 1, 1) := by decide +kernel
theorem dX1_apply_8 : decode cX1_apply 8 = .ok (.if_icmp .lt 21, 3) := by decide +kernel
theorem dX1_apply_11 : decode cX1_apply 11 = .ok (.iload_n 2, 1) := by decide +kernel
theorem dX1_apply_12 : decode cX1_apply 12 = .ok (.bipush 32, 2) := by decide +kernel
theorem dX1_apply_14 : decode cX1_apply 14 = .ok (.if_icmp .gt 15, 3) := by decide +kernel
theorem dX1_apply_17 : decode cX1_apply 17 = .ok (.iload 4, 2) := by decide +kernel
theorem dX1_apply_19 : decode cX1_apply 19 = .ok (.iconst 1, 1) := by decide +kernel
theorem dX1_apply_20 : decode cX1_apply 20 = .ok (.if_icmp .lt 9, 3) := by decide +kernel
theorem dX1_apply_23 : decode cX1_apply 23 = .ok (.iload 4, 2) := by decide +kernel
theorem dX1_apply_25 : decode cX1_apply 25 = .ok (.iconst 4, 1) := by decide +kernel
theorem dX1_apply_26 : decode cX1_apply 26 = .ok (.if_icmp .le 7, 3) := by decide +kernel
theorem dX1_apply_29 : decode cX1_apply 29 = .ok (.iconst 1, 1) := by decide +kernel
theorem dX1_apply_30 : decode cX1_apply 30 = .ok (.goto 4, 3) := by decide +kernel
theorem dX1_apply_33 : decode cX1_apply 33 = .ok (.iconst 0, 1) := by decide +kernel
theorem dX1_apply_34 : decode cX1_apply 34 = .ok (.istore 5, 2) := by decide +kernel
theorem dX1_apply_36 : decode cX1_apply 36 = .ok (.aload_n 0, 1) := by decide +kernel
theorem dX1_apply_37 : decode cX1_apply 37 = .ok (.iload_n 3, 1) := by decide +kernel
theorem dX1_apply_38 : decode cX1_apply 38 = .ok (.invokestatic 66, 3) := by decide +kernel
theorem dX1_apply_41 : decode cX1_apply 41 = .ok (.ifCond .eq 10, 3) := by decide +kernel
theorem dX1_apply_44 : decode cX1_apply 44 = .ok (.iload_n 1, 1) := by decide +kernel
theorem dX1_apply_45 : decode cX1_apply 45 = .ok (.invokestatic 70, 3) := by decide +kernel
theorem dX1_apply_48 : decode cX1_apply 48 = .ok (.ifCond .ne 7, 3) := by decide +kernel
theorem dX1_apply_51 : decode cX1_apply 51 = .ok (.iconst 1, 1) := by decide +kernel
theorem dX1_apply_52 : decode cX1_apply 52 = .ok (.goto 37, 3) := by decide +kernel
theorem dX1_apply_55 : decode cX1_apply 55 = .ok (.iload 5, 2) := by decide +kernel
theorem dX1_apply_57 : decode cX1_apply 57 = .ok (.ifCond .eq 7, 3) := by decide +kernel
theorem dX1_apply_60 : decode cX1_apply 60 = .ok (.iconst 2, 1) := by decide +kernel
theorem dX1_apply_61 : decode cX1_apply 61 = .ok (.goto 28, 3) := by decide +kernel
theorem dX1_apply_64 : decode cX1_apply 64 = .ok (.aload_n 0, 1) := by decide +kernel
theorem dX1_apply_65 : decode cX1_apply 65 = .ok (.iload 4, 2) := by decide +kernel
theorem dX1_apply_67 : decode cX1_apply 67 = .ok (.iconst 1, 1) := by decide +kernel
theorem dX1_apply_68 : decode cX1_apply 68 = .ok (.iadd, 1) := by decide +kernel
theorem dX1_apply_69 : decode cX1_apply 69 = .ok (.invokevirtual 76, 3) := by decide +kernel
theorem dX1_apply_72 : decode cX1_apply 72 = .ok (.ifCond .ne 12, 3) := by decide +kernel
theorem dX1_apply_75 : decode cX1_apply 75 = .ok (.aload_n 0, 1) := by decide +kernel
theorem dX1_apply_76 : decode cX1_apply 76 = .ok (.getfield 51, 3) := by decide +kernel
theorem dX1_apply_79 : decode cX1_apply 79 = .ok (.bipush 8, 2) := by decide +kernel
theorem dX1_apply_81 : decode cX1_apply 81 = .ok (.if_icmp .ne 7, 3) := by decide +kernel
theorem dX1_apply_84 : decode cX1_apply 84 = .ok (.iconst 3, 1) := by decide +kernel
theorem dX1_apply_85 : decode cX1_apply 85 = .ok (.goto 4, 3) := by decide +kernel
theorem dX1_apply_88 : decode cX1_apply 88 = .ok (.iconst 0, 1) := by decide +kernel
theorem dX1_apply_89 : decode cX1_apply 89 = .ok (.putfield 42, 3) := by decide +kernel
theorem dX1_apply_92 : decode cX1_apply 92 = .ok (.aload_n 0, 1) := by decide +kernel
theorem dX1_apply_93 : decode cX1_apply 93 = .ok (.getfield 42, 3) := by decide +kernel
theorem dX1_apply_96 : decode cX1_apply 96 = .ok (.ifCond .le 5, 3) := by decide +kernel
theorem dX1_apply_99 : decode cX1_apply 99 = .ok (.iconst 0, 1) := by decide +kernel
theorem dX1_apply_100 : decode cX1_apply 100 = .ok (.ireturn, 1) := by decide +kernel
theorem dX1_apply_101 : decode cX1_apply 101 = .ok (.aload_n 0, 1) := by decide +kernel
theorem dX1_apply_102 : decode cX1_apply 102 = .ok (.iload 4, 2) := by decide +kernel
theorem dX1_apply_104 : decode cX1_apply 104 = .ok (.iconst 1, 1) := by decide +kernel
theorem dX1_apply_105 : decode cX1_apply 105 = .ok (.iadd, 1) := by decide +kernel
theorem dX1_apply_106 : decode cX1_apply 106 = .ok (.invokevirtual 79, 3) := by decide +kernel
theorem dX1_apply_109 : decode cX1_apply 109 = .ok (.istore 6, 2) := by decide +kernel
theorem dX1_apply_111 : decode cX1_apply 111 = .ok (.aload_n 0, 1) := by decide +kernel
theorem dX1_apply_112 : decode cX1_apply 112 = .ok (.iload 6, 2) := by decide +kernel
theorem dX1_apply_114 : decode cX1_apply 114 = .ok (.iload_n 1, 1) := by decide +kernel
theorem dX1_apply_115 : decode cX1_apply 115 = .ok (.invokevirtual 82, 3) := by decide +kernel
theorem dX1_apply_118 : decode cX1_apply 118 = .ok (.aload_n 0, 1) := by decide +kernel
theorem dX1_apply_119 : decode cX1_apply 119 = .ok (.iload 6, 2) := by decide +kernel
theorem dX1_apply_121 : decode cX1_apply 121 = .ok (.iload_n 3, 1) := by decide +kernel
theorem dX1_apply_122 : decode cX1_apply 122 = .ok (.invokevirtual 85, 3) := by decide +kernel
theorem dX1_apply_125 : decode cX1_apply 125 = .ok (.aload_n 0, 1) := by decide +kernel
theorem dX1_apply_126 : decode cX1_apply 126 = .ok (.getfield 20, 3) := by decide +kernel
theorem dX1_apply_129 : decode cX1_apply 129 = .ok (.iload 6, 2) := by decide +kernel
theorem dX1_apply_131 : decode cX1_apply 131 = .ok (.iload_n 2, 1) := by decide +kernel
theorem dX1_apply_132 : decode cX1_apply 132 = .ok (.bipush 16, 2) := by decide +kernel
theorem dX1_apply_134 : decode cX1_apply 134 = .ok (.iload 4, 2) := by decide +kernel
theorem dX1_apply_136 : decode cX1_apply 136 = .ok (.imul, 1) := by decide +kernel
theorem dX1_apply_137 : decode cX1_apply 137 = .ok (.bipush 8, 2) := by decide +kernel
theorem dX1_apply_139 : decode cX1_apply 139 = .ok (.iadd, 1) := by decide +kernel
theorem dX1_apply_140 : decode cX1_apply 140 = .ok (.imul, 1) := by decide +kernel
theorem dX1_apply_141 : decode cX1_apply 141 = .ok (.iastore, 1) := by decide +kernel
theorem dX1_apply_142 : decode cX1_apply 142 = .ok (.aload_n 0, 1) := by decide +kernel
theorem dX1_apply_143 : decode cX1_apply 143 = .ok (.getfield 23, 3) := by decide +kernel
theorem dX1_apply_146 : decode cX1_apply 146 = .ok (.iload 6, 2) := by decide +kernel
theorem dX1_apply_148 : decode cX1_apply 148 = .ok (.bipush 8, 2) := by decide +kernel
theorem dX1_apply_150 : decode cX1_apply 150 = .ok (.iload 4, 2) := by decide +kernel
theorem dX1_apply_152 : decode cX1_apply 152 = .ok (.imul, 1) := by decide +kernel
theorem dX1_apply_153 : decode cX1_apply 153 = .ok (.iastore, 1) := by decide +kernel
theorem dX1_apply_154 : decode cX1_apply 154 = .ok (.aload_n 0, 1) := by decide +kernel
theorem dX1_apply_155 : decode cX1_apply 155 = .ok (.dup, 1) := by decide +kernel
theorem dX1_apply_156 : decode cX1_apply 156 = .ok (.getfield 51, 3) := by decide +kernel
theorem dX1_apply_159 : decode cX1_apply 159 = .ok (.iconst 1, 1) := by decide +kernel
theorem dX1_apply_160 : decode cX1_apply 160 = .ok (.iadd, 1) := by decide +kernel
theorem dX1_apply_161 : decode cX1_apply 161 = .ok (.putfield 51, 3) := by decide +kernel
theorem dX1_apply_164 : decode cX1_apply 164 = .ok (.iload 6, 2) := by decide +kernel
theorem dX1_apply_166 : decode cX1_apply 166 = .ok (.ireturn, 1) := by decide +kernel
theorem dX1_isIn_0 : decode cX1_isIn 0 = .ok (.aload_n 0, 1) := by decide +kernel
theorem dX1_isIn_1 : decode cX1_isIn 1 = .ok (.getfield 29, 3) := by decide +kernel
theorem dX1_isIn_4 : decode cX1_isIn 4 = .ok (.iload_n 1, 1) := by decide +kernel
theorem dX1_isIn_5 : decode cX1_isIn 5 = .ok (.iaload, 1) := by decide +kernel
theorem dX1_isIn_6 : decode cX1_isIn 6 = .ok (.istore_n 3, 1) := by decide +kernel
theorem dX1_isIn_7 : decode cX1_isIn 7 = .ok (.iload_n 3, 1) := by decide +kernel
theorem dX1_isIn_8 : decode cX1_isIn 8 = .ok (.iconst (-1), 1) := by decide +kernel
theorem dX1_isIn_9 : decode cX1_isIn 9 = .ok (.if_icmp .eq 18, 3) := by decide +kernel
theorem dX1_isIn_12 : decode cX1_isIn 12 = .ok (.iload_n 3, 1) := by decide +kernel
theorem dX1_isIn_13 : decode cX1_isIn 13 = .ok (.iload_n 2, 1) := by decide +kernel
theorem dX1_isIn_14 : decode cX1_isIn 14 = .ok (.if_icmp .eq 13, 3) := by decide +kernel
theorem dX1_isIn_17 : decode cX1_isIn 17 = .ok (.aload_n 0, 1) := by decide +kernel
theorem dX1_isIn_18 : decode cX1_isIn 18 = .ok (.getfield 29, 3) := by decide +kernel
theorem dX1_isIn_21 : decode cX1_isIn 21 = .ok (.iload_n 3, 1) := by decide +kernel
theorem dX1_isIn_22 : decode cX1_isIn 22 = .ok (.iaload, 1) := by decide +kernel
theorem dX1_isIn_23 : decode cX1_isIn 23 = .ok (.istore_n 3, 1) := by decide +kernel
theorem dX1_isIn_24 : decode cX1_isIn 24 = .ok (.goto (-17), 3) := by decide +kernel
theorem dX1_isIn_27 : decode cX1_isIn 27 = .ok (.iload_n 3, 1) := by decide +kernel
theorem dX1_isIn_28 : decode cX1_isIn 28 = .ok (.iload_n 2, 1) := by decide +kernel
theorem dX1_isIn_29 : decode cX1_isIn 29 = .ok (.if_icmp .ne 7, 3) := by decide +kernel
theorem dX1_isIn_32 : decode cX1_isIn 32 = .ok (.iconst 1, 1) := by decide +kernel
theorem dX1_isIn_33 : decode cX1_isIn 33 = .ok (.goto 4, 3) := by decide +kernel
theorem dX1_isIn_36 : decode cX1_isIn 36 = .ok (.iconst 0, 1) := by decide +kernel
theorem dX1_isIn_37 : decode cX1_isIn 37 = .ok (.ireturn, 1) := by decide +kernel
theorem dX1_mayBe_0 : decode cX1_mayBe 0 = .ok (.aload_n 0, 1) := by decide +kernel
theorem dX1_mayBe_1 : decode cX1_mayBe 1 = .ok (.getfield 26, 3) := by decide +kernel
theorem dX1_mayBe_4 : decode cX1_mayBe 4 = .ok (.iload_n 2, 1) := by decide +kernel
theorem dX1_mayBe_5 : decode cX1_mayBe 5 = .ok (.baload, 1) := by decide +kernel
theorem dX1_mayBe_6 : decode cX1_mayBe 6 = .ok (.ifCond .eq 16, 3) := by decide +kernel
theorem dX1_mayBe_9 : decode cX1_mayBe 9 = .ok (.aload_n 0, 1) := by decide +kernel
theorem dX1_mayBe_10 : decode cX1_mayBe 10 = .ok (.iload_n 1, 1) := by decide +kernel
theorem dX1_mayBe_11 : decode cX1_mayBe 11 = .ok (.iload_n 2, 1) := by decide +kernel
theorem dX1_mayBe_12 : decode cX1_mayBe 12 = .ok (.invokevirtual 87, 3) := by decide +kernel
theorem dX1_mayBe_15 : decode cX1_mayBe 15 = .ok (.ifCond .eq 7, 3) := by decide +kernel
theorem dX1_mayBe_18 : decode cX1_mayBe 18 = .ok (.iconst 1, 1) := by decide +kernel
theorem dX1_mayBe_19 : decode cX1_mayBe 19 = .ok (.goto 4, 3) := by decide +kernel
theorem dX1_mayBe_22 : decode cX1_mayBe 22 = .ok (.iconst 0, 1) := by decide +kernel
theorem dX1_mayBe_23 : decode cX1_mayBe 23 = .ok (.istore 4, 2) := by decide +kernel
theorem dX1_mayBe_25 : decode cX1_mayBe 25 = .ok (.iconst 0, 1) := by decide +kernel
theorem dX1_mayBe_26 : decode cX1_mayBe 26 = .ok (.istore 5, 2) := by decide +kernel
theorem dX1_mayBe_28 : decode cX1_mayBe 28 = .ok (.iconst 0, 1) := by decide +kernel
theorem dX1_mayBe_29 : decode cX1_mayBe 29 = .ok (.istore 6, 2) := by decide +kernel
theorem dX1_mayBe_31 : decode cX1_mayBe 31 = .ok (.iload 6, 2) := by decide +kernel
theorem dX1_mayBe_33 : decode cX1_mayBe 33 = .ok (.bipush 41, 2) := by decide +kernel
theorem dX1_mayBe_35 : decode cX1_mayBe 35 = .ok (.if_icmp .ge 108, 3) := by decide +kernel
theorem dX1_mayBe_38 : decode cX1_mayBe 38 = .ok (.iload 4, 2) := by decide +kernel
theorem dX1_mayBe_40 : decode cX1_mayBe 40 = .ok (.ifCond .ne 48, 3) := by decide +kernel
theorem dX1_mayBe_43 : decode cX1_mayBe 43 = .ok (.aload_n 0, 1) := by decide +kernel
theorem dX1_mayBe_44 : decode cX1_mayBe 44 = .ok (.getfield 13, 3) := by decide +kernel
theorem dX1_mayBe_47 : decode cX1_mayBe 47 = .ok (.bipush 41, 2) := by decide +kernel
theorem dX1_mayBe_49 : decode cX1_mayBe 49 = .ok (.iload_n 2, 1) := by decide +kernel
theorem dX1_mayBe_50 : decode cX1_mayBe 50 = .ok (.imul, 1) := by decide +kernel
theorem dX1_mayBe_51 : decode cX1_mayBe 51 = .ok (.iload 6, 2) := by decide +kernel
theorem dX1_mayBe_53 : decode cX1_mayBe 53 = .ok (.iadd, 1) := by decide +kernel
theorem dX1_mayBe_54 : decode cX1_mayBe 54 = .ok (.baload, 1) := by decide +kernel
theorem dX1_mayBe_55 : decode cX1_mayBe 55 = .ok (.ifCond .eq 37, 3) := by decide +kernel
theorem dX1_mayBe_58 : decode cX1_mayBe 58 = .ok (.aload_n 0, 1) := by decide +kernel
theorem dX1_mayBe_59 : decode cX1_mayBe 59 = .ok (.getfield 7, 3) := by decide +kernel
theorem dX1_mayBe_62 : decode cX1_mayBe 62 = .ok (.bipush 41, 2) := by decide +kernel
theorem dX1_mayBe_64 : decode cX1_mayBe 64 = .ok (.iload_n 1, 1) := by decide +kernel
theorem dX1_mayBe_65 : decode cX1_mayBe 65 = .ok (.imul, 1) := by decide +kernel
theorem dX1_mayBe_66 : decode cX1_mayBe 66 = .ok (.iload 6, 2) := by decide +kernel
theorem dX1_mayBe_68 : decode cX1_mayBe 68 = .ok (.iadd, 1) := by decide +kernel
theorem dX1_mayBe_69 : decode cX1_mayBe 69 = .ok (.baload, 1) := by decide +kernel
theorem dX1_mayBe_70 : decode cX1_mayBe 70 = .ok (.ifCond .ne 18, 3) := by decide +kernel
theorem dX1_mayBe_73 : decode cX1_mayBe 73 = .ok (.aload_n 0, 1) := by decide +kernel
theorem dX1_mayBe_74 : decode cX1_mayBe 74 = .ok (.getfield 13, 3) := by decide +kernel
theorem dX1_mayBe_77 : decode cX1_mayBe 77 = .ok (.bipush 41, 2) := by decide +kernel
theorem dX1_mayBe_79 : decode cX1_mayBe 79 = .ok (.iload_n 1, 1) := by decide +kernel
theorem dX1_mayBe_80 : decode cX1_mayBe 80 = .ok (.imul, 1) := by decide +kernel
theorem dX1_mayBe_81 : decode cX1_mayBe 81 = .ok (.iload 6, 2) := by decide +kernel
theorem dX1_mayBe_83 : decode cX1_mayBe 83 = .ok (.iadd, 1) := by decide +kernel
theorem dX1_mayBe_84 : decode cX1_mayBe 84 = .ok (.baload, 1) := by decide +kernel
theorem dX1_mayBe_85 : decode cX1_mayBe 85 = .ok (.ifCond .eq 7, 3) := by decide +kernel
theorem dX1_mayBe_88 : decode cX1_mayBe 88 = .ok (.iconst 1, 1) := by decide +kernel
theorem dX1_mayBe_89 : decode cX1_mayBe 89 = .ok (.goto 4, 3) := by decide +kernel
theorem dX1_mayBe_92 : decode cX1_mayBe 92 = .ok (.iconst 0, 1) := by decide +kernel
theorem dX1_mayBe_93 : decode cX1_mayBe 93 = .ok (.istore 4, 2) := by decide +kernel
theorem dX1_mayBe_95 : decode cX1_mayBe 95 = .ok (.iload 5, 2) := by decide +kernel
theorem dX1_mayBe_97 : decode cX1_mayBe 97 = .ok (.ifCond .ne 33, 3) := by decide +kernel
theorem dX1_mayBe_100 : decode cX1_mayBe 100 = .ok (.aload_n 0, 1) := by decide +kernel
theorem dX1_mayBe_101 : decode cX1_mayBe 101 = .ok (.getfield 7, 3) := by decide +kernel
theorem dX1_mayBe_104 : decode cX1_mayBe 104 = .ok (.bipush 41, 2) := by decide +kernel
theorem dX1_mayBe_106 : decode cX1_mayBe 106 = .ok (.iload_n 2, 1) := by decide +kernel
theorem dX1_mayBe_107 : decode cX1_mayBe 107 = .ok (.imul, 1) := by decide +kernel
theorem dX1_mayBe_108 : decode cX1_mayBe 108 = .ok (.iload 6, 2) := by decide +kernel
theorem dX1_mayBe_110 : decode cX1_mayBe 110 = .ok (.iadd, 1) := by decide +kernel
theorem dX1_mayBe_111 : decode cX1_mayBe 111 = .ok (.baload, 1) := by decide +kernel
theorem dX1_mayBe_112 : decode cX1_mayBe 112 = .ok (.ifCond .eq 22, 3) := by decide +kernel
theorem dX1_mayBe_115 : decode cX1_mayBe 115 = .ok (.aload_n 0, 1) := by decide +kernel
theorem dX1_mayBe_116 : decode cX1_mayBe 116 = .ok (.getfield 13, 3) := by decide +kernel
theorem dX1_mayBe_119 : decode cX1_mayBe 119 = .ok (.bipush 41, 2) := by decide +kernel
theorem dX1_mayBe_121 : decode cX1_mayBe 121 = .ok (.iload_n 1, 1) := by decide +kernel
theorem dX1_mayBe_122 : decode cX1_mayBe 122 = .ok (.imul, 1) := by decide +kernel
theorem dX1_mayBe_123 : decode cX1_mayBe 123 = .ok (.iload 6, 2) := by decide +kernel
theorem dX1_mayBe_125 : decode cX1_mayBe 125 = .ok (.iadd, 1) := by decide +kernel
theorem dX1_mayBe_126 : decode cX1_mayBe 126 = .ok (.baload, 1) := by decide +kernel
theorem dX1_mayBe_127 : decode cX1_mayBe 127 = .ok (.ifCond .eq 7, 3) := by decide +kernel
theorem dX1_mayBe_130 : decode cX1_mayBe 130 = .ok (.iconst 1, 1) := by decide +kernel
theorem dX1_mayBe_131 : decode cX1_mayBe 131 = .ok (.goto 4, 3) := by decide +kernel
theorem dX1_mayBe_134 : decode cX1_mayBe 134 = .ok (.iconst 0, 1) := by decide +kernel
theorem dX1_mayBe_135 : decode cX1_mayBe 135 = .ok (.istore 5, 2) := by decide +kernel
theorem dX1_mayBe_137 : decode cX1_mayBe 137 = .ok (.iinc 6 1, 3) := by decide +kernel
theorem dX1_mayBe_140 : decode cX1_mayBe 140 = .ok (.goto (-109), 3) := by decide +kernel
theorem dX1_mayBe_143 : decode cX1_mayBe 143 = .ok (.iload 4, 2) := by decide +kernel
theorem dX1_mayBe_145 : decode cX1_mayBe 145 = .ok (.ifCond .eq 21, 3) := by decide +kernel
theorem dX1_mayBe_148 : decode cX1_mayBe 148 = .ok (.iload_n 3, 1) := by decide +kernel
theorem dX1_mayBe_149 : decode cX1_mayBe 149 = .ok (.aload_n 0, 1) := by decide +kernel
theorem dX1_mayBe_150 : decode cX1_mayBe 150 = .ok (.getfield 36, 3) := by decide +kernel
theorem dX1_mayBe_153 : decode cX1_mayBe 153 = .ok (.iload_n 2, 1) := by decide +kernel
theorem dX1_mayBe_154 : decode cX1_mayBe 154 = .ok (.iaload, 1) := by decide +kernel
theorem dX1_mayBe_155 : decode cX1_mayBe 155 = .ok (.if_icmp .le 7, 3) := by decide +kernel
theorem dX1_mayBe_158 : decode cX1_mayBe 158 = .ok (.iconst 1, 1) := by decide +kernel
theorem dX1_mayBe_159 : decode cX1_mayBe 159 = .ok (.goto 27, 3) := by decide +kernel
theorem dX1_mayBe_162 : decode cX1_mayBe 162 = .ok (.iconst 0, 1) := by decide +kernel
theorem dX1_mayBe_163 : decode cX1_mayBe 163 = .ok (.goto 23, 3) := by decide +kernel
theorem dX1_mayBe_166 : decode cX1_mayBe 166 = .ok (.iload 5, 2) := by decide +kernel
theorem dX1_mayBe_168 : decode cX1_mayBe 168 = .ok (.ifCond .eq 13, 3) := by decide +kernel
theorem dX1_mayBe_171 : decode cX1_mayBe 171 = .ok (.iload_n 3, 1) := by decide +kernel
theorem dX1_mayBe_172 : decode cX1_mayBe 172 = .ok (.aload_n 0, 1) := by decide +kernel
theorem dX1_mayBe_173 : decode cX1_mayBe 173 = .ok (.getfield 36, 3) := by decide +kernel
theorem dX1_mayBe_176 : decode cX1_mayBe 176 = .ok (.iload_n 2, 1) := by decide +kernel
theorem dX1_mayBe_177 : decode cX1_mayBe 177 = .ok (.iaload, 1) := by decide +kernel
theorem dX1_mayBe_178 : decode cX1_mayBe 178 = .ok (.if_icmp .lt 7, 3) := by decide +kernel
theorem dX1_mayBe_181 : decode cX1_mayBe 181 = .ok (.iconst 1, 1) := by decide +kernel
theorem dX1_mayBe_182 : decode cX1_mayBe 182 = .ok (.goto 4, 3) := by decide +kernel
theorem dX1_mayBe_185 : decode cX1_mayBe 185 = .ok (.iconst 0, 1) := by decide +kernel
theorem dX1_mayBe_186 : decode cX1_mayBe 186 = .ok (.istore 6, 2) := by decide +kernel
theorem dX1_mayBe_188 : decode cX1_mayBe 188 = .ok (.iload 6, 2) := by decide +kernel
theorem dX1_mayBe_190 : decode cX1_mayBe 190 = .ok (.ifCond .eq 42, 3) := by decide +kernel
theorem dX1_mayBe_193 : decode cX1_mayBe 193 = .ok (.aload_n 0, 1) := by decide +kernel
theorem dX1_mayBe_194 : decode cX1_mayBe 194 = .ok (.getfield 16, 3) := by decide +kernel
theorem dX1_mayBe_197 : decode cX1_mayBe 197 = .ok (.iload_n 2, 1) := by decide +kernel
theorem dX1_mayBe_198 : decode cX1_mayBe 198 = .ok (.iaload, 1) := by decide +kernel
theorem dX1_mayBe_199 : decode cX1_mayBe 199 = .ok (.iconst (-1), 1) := by decide +kernel
theorem dX1_mayBe_200 : decode cX1_mayBe 200 = .ok (.if_icmp .eq 28, 3) := by decide +kernel
theorem dX1_mayBe_203 : decode cX1_mayBe 203 = .ok (.aload_n 0, 1) := by decide +kernel
theorem dX1_mayBe_204 : decode cX1_mayBe 204 = .ok (.getfield 16, 3) := by decide +kernel
theorem dX1_mayBe_207 : decode cX1_mayBe 207 = .ok (.iload_n 2, 1) := by decide +kernel
theorem dX1_mayBe_208 : decode cX1_mayBe 208 = .ok (.iaload, 1) := by decide +kernel
theorem dX1_mayBe_209 : decode cX1_mayBe 209 = .ok (.aload_n 0, 1) := by decide +kernel
theorem dX1_mayBe_210 : decode cX1_mayBe 210 = .ok (.getfield 16, 3) := by decide +kernel
theorem dX1_mayBe_213 : decode cX1_mayBe 213 = .ok (.iload_n 1, 1) := by decide +kernel
theorem dX1_mayBe_214 : decode cX1_mayBe 214 = .ok (.iaload, 1) := by decide +kernel
theorem dX1_mayBe_215 : decode cX1_mayBe 215 = .ok (.if_icmp .ne 13, 3) := by decide +kernel
theorem dX1_mayBe_218 : decode cX1_mayBe 218 = .ok (.iload_n 3, 1) := by decide +kernel
theorem dX1_mayBe_219 : decode cX1_mayBe 219 = .ok (.aload_n 0, 1) := by decide +kernel
theorem dX1_mayBe_220 : decode cX1_mayBe 220 = .ok (.getfield 36, 3) := by decide +kernel
theorem dX1_mayBe_223 : decode cX1_mayBe 223 = .ok (.iload_n 2, 1) := by decide +kernel
theorem dX1_mayBe_224 : decode cX1_mayBe 224 = .ok (.iaload, 1) := by decide +kernel
theorem dX1_mayBe_225 : decode cX1_mayBe 225 = .ok (.if_icmp .ne 7, 3) := by decide +kernel
theorem dX1_mayBe_228 : decode cX1_mayBe 228 = .ok (.iconst 1, 1) := by decide +kernel
theorem dX1_mayBe_229 : decode cX1_mayBe 229 = .ok (.goto 4, 3) := by decide +kernel
theorem dX1_mayBe_232 : decode cX1_mayBe 232 = .ok (.iconst 0, 1) := by decide +kernel
theorem dX1_mayBe_233 : decode cX1_mayBe 233 = .ok (.ireturn, 1) := by decide +kernel
theorem dX1_sum_0 : decode cX1_sum 0 = .ok (.iconst 0, 1) := by decide +kernel
theorem dX1_sum_1 : decode cX1_sum 1 = .ok (.istore 4, 2) := by decide +kernel
theorem dX1_sum_3 : decode cX1_sum 3 = .ok (.iconst 0, 1) := by decide +kernel
theorem dX1_sum_4 : decode cX1_sum 4 = .ok (.istore 5, 2) := by decide +kernel
theorem dX1_sum_6 : decode cX1_sum 6 = .ok (.iload 5, 2) := by decide +kernel
theorem dX1_sum_8 : decode cX1_sum 8 = .ok (.iload_n 1, 1) := by decide +kernel
theorem dX1_sum_9 : decode cX1_sum 9 = .ok (.if_icmp .ge 59, 3) := by decide +kernel
theorem dX1_sum_12 : decode cX1_sum 12 = .ok (.iload 4, 2) := by decide +kernel
theorem dX1_sum_14 : decode cX1_sum 14 = .ok (.aload_n 0, 1) := by decide +kernel
theorem dX1_sum_15 : decode cX1_sum 15 = .ok (.getfield 36, 3) := by decide +kernel
theorem dX1_sum_18 : decode cX1_sum 18 = .ok (.iload 5, 2) := by decide +kernel
theorem dX1_sum_20 : decode cX1_sum 20 = .ok (.iaload, 1) := by decide +kernel
theorem dX1_sum_21 : decode cX1_sum 21 = .ok (.iload_n 2, 1) := by decide +kernel
theorem dX1_sum_22 : decode cX1_sum 22 = .ok (.if_icmp .eq 7, 3) := by decide +kernel
theorem dX1_sum_25 : decode cX1_sum 25 = .ok (.iconst 0, 1) := by decide +kernel
theorem dX1_sum_26 : decode cX1_sum 26 = .ok (.goto 33, 3) := by decide +kernel
theorem dX1_sum_29 : decode cX1_sum 29 = .ok (.iload_n 3, 1) := by decide +kernel
theorem dX1_sum_30 : decode cX1_sum 30 = .ok (.ifCond .ne 7, 3) := by decide +kernel
theorem dX1_sum_33 : decode cX1_sum 33 = .ok (.iconst 1, 1) := by decide +kernel
theorem dX1_sum_34 : decode cX1_sum 34 = .ok (.goto 25, 3) := by decide +kernel
theorem dX1_sum_37 : decode cX1_sum 37 = .ok (.iload_n 3, 1) := by decide +kernel
theorem dX1_sum_38 : decode cX1_sum 38 = .ok (.iconst 1, 1) := by decide +kernel
theorem dX1_sum_39 : decode cX1_sum 39 = .ok (.if_icmp .ne 13, 3) := by decide +kernel
theorem dX1_sum_42 : decode cX1_sum 42 = .ok (.aload_n 0, 1) := by decide +kernel
theorem dX1_sum_43 : decode cX1_sum 43 = .ok (.getfield 20, 3) := by decide +kernel
theorem dX1_sum_46 : decode cX1_sum 46 = .ok (.iload 5, 2) := by decide +kernel
theorem dX1_sum_48 : decode cX1_sum 48 = .ok (.iaload, 1) := by decide +kernel
theorem dX1_sum_49 : decode cX1_sum 49 = .ok (.goto 10, 3) := by decide +kernel
theorem dX1_sum_52 : decode cX1_sum 52 = .ok (.aload_n 0, 1) := by decide +kernel
theorem dX1_sum_53 : decode cX1_sum 53 = .ok (.getfield 23, 3) := by decide +kernel
theorem dX1_sum_56 : decode cX1_sum 56 = .ok (.iload 5, 2) := by decide +kernel
theorem dX1_sum_58 : decode cX1_sum 58 = .ok (.iaload, 1) := by decide +kernel
theorem dX1_sum_59 : decode cX1_sum 59 = .ok (.iadd, 1) := by decide +kernel
theorem dX1_sum_60 : decode cX1_sum 60 = .ok (.istore 4, 2) := by decide +kernel
theorem dX1_sum_62 : decode cX1_sum 62 = .ok (.iinc 5 1, 3) := by decide +kernel
theorem dX1_sum_65 : decode cX1_sum 65 = .ok (.goto (-59), 3) := by decide +kernel
theorem dX1_sum_68 : decode cX1_sum 68 = .ok (.iload 4, 2) := by decide +kernel
theorem dX1_sum_70 : decode cX1_sum 70 = .ok (.ireturn, 1) := by decide +kernel
theorem dX1_hasRoom_0 : decode cX1_hasRoom 0 = .ok (.aload_n 0, 1) := by decide +kernel
theorem dX1_hasRoom_1 : decode cX1_hasRoom 1 = .ok (.iload_n 1, 1) := by decide +kernel
theorem dX1_hasRoom_2 : decode cX1_hasRoom 2 = .ok (.iload_n 2, 1) := by decide +kernel
theorem dX1_hasRoom_3 : decode cX1_hasRoom 3 = .ok (.iconst 0, 1) := by decide +kernel
theorem dX1_hasRoom_4 : decode cX1_hasRoom 4 = .ok (.invokevirtual 91, 3) := by decide +kernel
theorem dX1_hasRoom_7 : decode cX1_hasRoom 7 = .ok (.bipush 8, 2) := by decide +kernel
theorem dX1_hasRoom_9 : decode cX1_hasRoom 9 = .ok (.if_icmp .ge 44, 3) := by decide +kernel
theorem dX1_hasRoom_12 : decode cX1_hasRoom 12 = .ok (.aload_n 0, 1) := by decide +kernel
theorem dX1_hasRoom_13 : decode cX1_hasRoom 13 = .ok (.iload_n 1, 1) := by decide +kernel
theorem dX1_hasRoom_14 : decode cX1_hasRoom 14 = .ok (.iload_n 2, 1) := by decide +kernel
theorem dX1_hasRoom_15 : decode cX1_hasRoom 15 = .ok (.iconst 1, 1) := by decide +kernel
theorem dX1_hasRoom_16 : decode cX1_hasRoom 16 = .ok (.invokevirtual 91, 3) := by decide +kernel
theorem dX1_hasRoom_19 : decode cX1_hasRoom 19 = .ok (.iload_n 3, 1) := by decide +kernel
theorem dX1_hasRoom_20 : decode cX1_hasRoom 20 = .ok (.aload_n 0, 1) := by decide +kernel
theorem dX1_hasRoom_21 : decode cX1_hasRoom 21 = .ok (.getfield 20, 3) := by decide +kernel
theorem dX1_hasRoom_24 : decode cX1_hasRoom 24 = .ok (.iload_n 1, 1) := by decide +kernel
theorem dX1_hasRoom_25 : decode cX1_hasRoom 25 = .ok (.iaload, 1) := by decide +kernel
theorem dX1_hasRoom_26 : decode cX1_hasRoom 26 = .ok (.isub, 1) := by decide +kernel
theorem dX1_hasRoom_27 : decode cX1_hasRoom 27 = .ok (.if_icmp .gt 26, 3) := by decide +kernel
theorem dX1_hasRoom_30 : decode cX1_hasRoom 30 = .ok (.aload_n 0, 1) := by decide +kernel
theorem dX1_hasRoom_31 : decode cX1_hasRoom 31 = .ok (.iload_n 1, 1) := by decide +kernel
theorem dX1_hasRoom_32 : decode cX1_hasRoom 32 = .ok (.iload_n 2, 1) := by decide +kernel
theorem dX1_hasRoom_33 : decode cX1_hasRoom 33 = .ok (.iconst 2, 1) := by decide +kernel
theorem dX1_hasRoom_34 : decode cX1_hasRoom 34 = .ok (.invokevirtual 91, 3) := by decide +kernel
theorem dX1_hasRoom_37 : decode cX1_hasRoom 37 = .ok (.iload 4, 2) := by decide +kernel
theorem dX1_hasRoom_39 : decode cX1_hasRoom 39 = .ok (.aload_n 0, 1) := by decide +kernel
theorem dX1_hasRoom_40 : decode cX1_hasRoom 40 = .ok (.getfield 23, 3) := by decide +kernel
theorem dX1_hasRoom_43 : decode cX1_hasRoom 43 = .ok (.iload_n 1, 1) := by decide +kernel
theorem dX1_hasRoom_44 : decode cX1_hasRoom 44 = .ok (.iaload, 1) := by decide +kernel
theorem dX1_hasRoom_45 : decode cX1_hasRoom 45 = .ok (.isub, 1) := by decide +kernel
theorem dX1_hasRoom_46 : decode cX1_hasRoom 46 = .ok (.if_icmp .gt 7, 3) := by decide +kernel
theorem dX1_hasRoom_49 : decode cX1_hasRoom 49 = .ok (.iconst 1, 1) := by decide +kernel
theorem dX1_hasRoom_50 : decode cX1_hasRoom 50 = .ok (.goto 4, 3) := by decide +kernel
theorem dX1_hasRoom_53 : decode cX1_hasRoom 53 = .ok (.iconst 0, 1) := by decide +kernel
theorem dX1_hasRoom_54 : decode cX1_hasRoom 54 = .ok (.ireturn, 1) := by decide +kernel
theorem dX1_place_0 : decode cX1_place 0 = .ok (.iconst 0, 1) := by decide +kernel
theorem dX1_place_1 : decode cX1_place 1 = .ok (.istore 5, 2) := by decide +kernel
theorem dX1_place_3 : decode cX1_place 3 = .ok (.iload 5, 2) := by decide +kernel
theorem dX1_place_5 : decode cX1_place 5 = .ok (.iload_n 2, 1) := by decide +kernel
theorem dX1_place_6 : decode cX1_place 6 = .ok (.if_icmp .ge 60, 3) := by decide +kernel
theorem dX1_place_9 : decode cX1_place 9 = .ok (.aload_n 0, 1) := by decide +kernel
theorem dX1_place_10 : decode cX1_place 10 = .ok (.iload_n 1, 1) := by decide +kernel
theorem dX1_place_11 : decode cX1_place 11 = .ok (.iload 5, 2) := by decide +kernel
theorem dX1_place_13 : decode cX1_place 13 = .ok (.iload_n 3, 1) := by decide +kernel
theorem dX1_place_14 : decode cX1_place 14 = .ok (.iload 4, 2) := by decide +kernel
theorem dX1_place_16 : decode cX1_place 16 = .ok (.invokevirtual 95, 3) := by decide +kernel
theorem dX1_place_19 : decode cX1_place 19 = .ok (.istore 6, 2) := by decide +kernel
theorem dX1_place_21 : decode cX1_place 21 = .ok (.iconst 0, 1) := by decide +kernel
theorem dX1_place_22 : decode cX1_place 22 = .ok (.istore 7, 2) := by decide +kernel
theorem dX1_place_24 : decode cX1_place 24 = .ok (.iload 7, 2) := by decide +kernel
theorem dX1_place_26 : decode cX1_place 26 = .ok (.iload_n 1, 1) := by decide +kernel
theorem dX1_place_27 : decode cX1_place 27 = .ok (.if_icmp .ge 25, 3) := by decide +kernel
theorem dX1_place_30 : decode cX1_place 30 = .ok (.iload 6, 2) := by decide +kernel
theorem dX1_place_32 : decode cX1_place 32 = .ok (.ifCond .eq 20, 3) := by decide +kernel
theorem dX1_place_35 : decode cX1_place 35 = .ok (.aload_n 0, 1) := by decide +kernel
theorem dX1_place_36 : decode cX1_place 36 = .ok (.iload_n 1, 1) := by decide +kernel
theorem dX1_place_37 : decode cX1_place 37 = .ok (.iload 7, 2) := by decide +kernel
theorem dX1_place_39 : decode cX1_place 39 = .ok (.iload 5, 2) := by decide +kernel
theorem dX1_place_41 : decode cX1_place 41 = .ok (.invokevirtual 99, 3) := by decide +kernel
theorem dX1_place_44 : decode cX1_place 44 = .ok (.istore 6, 2) := by decide +kernel
theorem dX1_place_46 : decode cX1_place 46 = .ok (.iinc 7 1, 3) := by decide +kernel
theorem dX1_place_49 : decode cX1_place 49 = .ok (.goto (-25), 3) := by decide +kernel
theorem dX1_place_52 : decode cX1_place 52 = .ok (.iload 6, 2) := by decide +kernel
theorem dX1_place_54 : decode cX1_place 54 = .ok (.ifCond .eq 6, 3) := by decide +kernel
theorem dX1_place_57 : decode cX1_place 57 = .ok (.iload 5, 2) := by decide +kernel
theorem dX1_place_59 : decode cX1_place 59 = .ok (.ireturn, 1) := by decide +kernel
theorem dX1_place_60 : decode cX1_place 60 = .ok (.iinc 5 1, 3) := by decide +kernel
theorem dX1_place_63 : decode cX1_place 63 = .ok (.goto (-60), 3) := by decide +kernel
theorem dX1_place_66 : decode cX1_place 66 = .ok (.iconst (-1), 1) := by decide +kernel
theorem dX1_place_67 : decode cX1_place 67 = .ok (.ireturn, 1) := by decide +kernel
theorem dX1_lay_0 : decode cX1_lay 0 = .ok (.aload_n 0, 1) := by decide +kernel
theorem dX1_lay_1 : decode cX1_lay 1 = .ok (.iload_n 1, 1) := by decide +kernel
theorem dX1_lay_2 : decode cX1_lay 2 = .ok (.iconst 1, 1) := by decide +kernel
theorem dX1_lay_3 : decode cX1_lay 3 = .ok (.if_icmp .lt 17, 3) := by decide +kernel
theorem dX1_lay_6 : decode cX1_lay 6 = .ok (.iload_n 1, 1) := by decide +kernel
theorem dX1_lay_7 : decode cX1_lay 7 = .ok (.bipush 12, 2) := by decide +kernel
theorem dX1_lay_9 : decode cX1_lay 9 = .ok (.if_icmp .gt 11, 3) := by decide +kernel
theorem dX1_lay_12 : decode cX1_lay 12 = .ok (.iload_n 2, 1) := by decide +kernel
theorem dX1_lay_13 : decode cX1_lay 13 = .ok (.ifCond .lt 7, 3) := by decide +kernel
theorem dX1_lay_16 : decode cX1_lay 16 = .ok (.iload_n 3, 1) := by decide +kernel
theorem dX1_lay_17 : decode cX1_lay 17 = .ok (.ifCond .ge 7, 3) := by decide +kernel
theorem dX1_lay_20 : decode cX1_lay 20 = .ok (.iconst 1, 1) := by decide +kernel
theorem dX1_lay_21 : decode cX1_lay 21 = .ok (.goto 4, 3) := by decide +kernel
theorem dX1_lay_24 : decode cX1_lay 24 = .ok (.iconst 0, 1) := by decide +kernel
theorem dX1_lay_25 : decode cX1_lay 25 = .ok (.putfield 42, 3) := by decide +kernel
theorem dX1_lay_28 : decode cX1_lay 28 = .ok (.aload_n 0, 1) := by decide +kernel
theorem dX1_lay_29 : decode cX1_lay 29 = .ok (.getfield 42, 3) := by decide +kernel
theorem dX1_lay_32 : decode cX1_lay 32 = .ok (.ifCond .le 5, 3) := by decide +kernel
theorem dX1_lay_35 : decode cX1_lay 35 = .ok (.iconst 0, 1) := by decide +kernel
theorem dX1_lay_36 : decode cX1_lay 36 = .ok (.ireturn, 1) := by decide +kernel
theorem dX1_lay_37 : decode cX1_lay 37 = .ok (.aload_n 0, 1) := by decide +kernel
theorem dX1_lay_38 : decode cX1_lay 38 = .ok (.iconst 0, 1) := by decide +kernel
theorem dX1_lay_39 : decode cX1_lay 39 = .ok (.putfield 57, 3) := by decide +kernel
theorem dX1_lay_42 : decode cX1_lay 42 = .ok (.aload_n 0, 1) := by decide +kernel
theorem dX1_lay_43 : decode cX1_lay 43 = .ok (.iconst (-1), 1) := by decide +kernel
theorem dX1_lay_44 : decode cX1_lay 44 = .ok (.putfield 39, 3) := by decide +kernel
theorem dX1_lay_47 : decode cX1_lay 47 = .ok (.aload_n 0, 1) := by decide +kernel
theorem dX1_lay_48 : decode cX1_lay 48 = .ok (.iconst 1, 1) := by decide +kernel
theorem dX1_lay_49 : decode cX1_lay 49 = .ok (.putfield 103, 3) := by decide +kernel
theorem dX1_lay_52 : decode cX1_lay 52 = .ok (.iconst 0, 1) := by decide +kernel
theorem dX1_lay_53 : decode cX1_lay 53 = .ok (.istore 4, 2) := by decide +kernel
theorem dX1_lay_55 : decode cX1_lay 55 = .ok (.iload 4, 2) := by decide +kernel
theorem dX1_lay_57 : decode cX1_lay 57 = .ok (.aload_n 0, 1) := by decide +kernel
theorem dX1_lay_58 : decode cX1_lay 58 = .ok (.getfield 45, 3) := by decide +kernel
theorem dX1_lay_61 : decode cX1_lay 61 = .ok (.if_icmp .ge 80, 3) := by decide +kernel
theorem dX1_lay_64 : decode cX1_lay 64 = .ok (.aload_n 0, 1) := by decide +kernel
theorem dX1_lay_65 : decode cX1_lay 65 = .ok (.getfield 36, 3) := by decide +kernel
theorem dX1_lay_68 : decode cX1_lay 68 = .ok (.iload 4, 2) := by decide +kernel
theorem dX1_lay_70 : decode cX1_lay 70 = .ok (.aload_n 0, 1) := by decide +kernel
theorem dX1_lay_71 : decode cX1_lay 71 = .ok (.iload 4, 2) := by decide +kernel
theorem dX1_lay_73 : decode cX1_lay 73 = .ok (.iload_n 1, 1) := by decide +kernel
theorem dX1_lay_74 : decode cX1_lay 74 = .ok (.iload_n 2, 1) := by decide +kernel
theorem dX1_lay_75 : decode cX1_lay 75 = .ok (.iload_n 3, 1) := by decide +kernel
theorem dX1_lay_76 : decode cX1_lay 76 = .ok (.invokevirtual 106, 3) := by decide +kernel
theorem dX1_lay_79 : decode cX1_lay 79 = .ok (.iastore, 1) := by decide +kernel
theorem dX1_lay_80 : decode cX1_lay 80 = .ok (.aload_n 0, 1) := by decide +kernel
theorem dX1_lay_81 : decode cX1_lay 81 = .ok (.getfield 36, 3) := by decide +kernel
theorem dX1_lay_84 : decode cX1_lay 84 = .ok (.iload 4, 2) := by decide +kernel
theorem dX1_lay_86 : decode cX1_lay 86 = .ok (.iaload, 1) := by decide +kernel
theorem dX1_lay_87 : decode cX1_lay 87 = .ok (.iconst (-1), 1) := by decide +kernel
theorem dX1_lay_88 : decode cX1_lay 88 = .ok (.if_icmp .ne 11, 3) := by decide +kernel
theorem dX1_lay_91 : decode cX1_lay 91 = .ok (.aload_n 0, 1) := by decide +kernel
theorem dX1_lay_92 : decode cX1_lay 92 = .ok (.iload 4, 2) := by decide +kernel
theorem dX1_lay_94 : decode cX1_lay 94 = .ok (.putfield 39, 3) := by decide +kernel
theorem dX1_lay_97 : decode cX1_lay 97 = .ok (.iconst (-1), 1) := by decide +kernel
theorem dX1_lay_98 : decode cX1_lay 98 = .ok (.ireturn, 1) := by decide +kernel
theorem dX1_lay_99 : decode cX1_lay 99 = .ok (.aload_n 0, 1) := by decide +kernel
theorem dX1_lay_100 : decode cX1_lay 100 = .ok (.aload_n 0, 1) := by decide +kernel
theorem dX1_lay_101 : decode cX1_lay 101 = .ok (.getfield 36, 3) := by decide +kernel
theorem dX1_lay_104 : decode cX1_lay 104 = .ok (.iload 4, 2) := by decide +kernel
theorem dX1_lay_106 : decode cX1_lay 106 = .ok (.iaload, 1) := by decide +kernel
theorem dX1_lay_107 : decode cX1_lay 107 = .ok (.iconst 1, 1) := by decide +kernel
theorem dX1_lay_108 : decode cX1_lay 108 = .ok (.iadd, 1) := by decide +kernel
theorem dX1_lay_109 : decode cX1_lay 109 = .ok (.aload_n 0, 1) := by decide +kernel
theorem dX1_lay_110 : decode cX1_lay 110 = .ok (.getfield 103, 3) := by decide +kernel
theorem dX1_lay_113 : decode cX1_lay 113 = .ok (.if_icmp .le 15, 3) := by decide +kernel
theorem dX1_lay_116 : decode cX1_lay 116 = .ok (.aload_n 0, 1) := by decide +kernel
theorem dX1_lay_117 : decode cX1_lay 117 = .ok (.getfield 36, 3) := by decide +kernel
theorem dX1_lay_120 : decode cX1_lay 120 = .ok (.iload 4, 2) := by decide +kernel
theorem dX1_lay_122 : decode cX1_lay 122 = .ok (.iaload, 1) := by decide +kernel
theorem dX1_lay_123 : decode cX1_lay 123 = .ok (.iconst 1, 1) := by decide +kernel
theorem dX1_lay_124 : decode cX1_lay 124 = .ok (.iadd, 1) := by decide +kernel
theorem dX1_lay_125 : decode cX1_lay 125 = .ok (.goto 7, 3) := by decide +kernel
theorem dX1_lay_128 : decode cX1_lay 128 = .ok (.aload_n 0, 1) := by decide +kernel
theorem dX1_lay_129 : decode cX1_lay 129 = .ok (.getfield 103, 3) := by decide +kernel
theorem dX1_lay_132 : decode cX1_lay 132 = .ok (.putfield 103, 3) := by decide +kernel
theorem dX1_lay_135 : decode cX1_lay 135 = .ok (.iinc 4 1, 3) := by decide +kernel
theorem dX1_lay_138 : decode cX1_lay 138 = .ok (.goto (-83), 3) := by decide +kernel
theorem dX1_lay_141 : decode cX1_lay 141 = .ok (.aload_n 0, 1) := by decide +kernel
theorem dX1_lay_142 : decode cX1_lay 142 = .ok (.iconst 1, 1) := by decide +kernel
theorem dX1_lay_143 : decode cX1_lay 143 = .ok (.putfield 57, 3) := by decide +kernel
theorem dX1_lay_146 : decode cX1_lay 146 = .ok (.aload_n 0, 1) := by decide +kernel
theorem dX1_lay_147 : decode cX1_lay 147 = .ok (.getfield 103, 3) := by decide +kernel
theorem dX1_lay_150 : decode cX1_lay 150 = .ok (.ireturn, 1) := by decide +kernel
theorem dX1_homeless_0 : decode cX1_homeless 0 = .ok (.aload_n 0, 1) := by decide +kernel
theorem dX1_homeless_1 : decode cX1_homeless 1 = .ok (.iconst 0, 1) := by decide +kernel
theorem dX1_homeless_2 : decode cX1_homeless 2 = .ok (.putfield 42, 3) := by decide +kernel
theorem dX1_homeless_5 : decode cX1_homeless 5 = .ok (.aload_n 0, 1) := by decide +kernel
theorem dX1_homeless_6 : decode cX1_homeless 6 = .ok (.getfield 39, 3) := by decide +kernel
theorem dX1_homeless_9 : decode cX1_homeless 9 = .ok (.ireturn, 1) := by decide +kernel
theorem dX1_stage_0 : decode cX1_stage 0 = .ok (.aload_n 0, 1) := by decide +kernel
theorem dX1_stage_1 : decode cX1_stage 1 = .ok (.iconst 0, 1) := by decide +kernel
theorem dX1_stage_2 : decode cX1_stage 2 = .ok (.putfield 42, 3) := by decide +kernel
theorem dX1_stage_5 : decode cX1_stage 5 = .ok (.aload_n 0, 1) := by decide +kernel
theorem dX1_stage_6 : decode cX1_stage 6 = .ok (.getfield 57, 3) := by decide +kernel
theorem dX1_stage_9 : decode cX1_stage 9 = .ok (.ifCond .eq 24, 3) := by decide +kernel
theorem dX1_stage_12 : decode cX1_stage 12 = .ok (.iload_n 1, 1) := by decide +kernel
theorem dX1_stage_13 : decode cX1_stage 13 = .ok (.ifCond .lt 20, 3) := by decide +kernel
theorem dX1_stage_16 : decode cX1_stage 16 = .ok (.iload_n 1, 1) := by decide +kernel
theorem dX1_stage_17 : decode cX1_stage 17 = .ok (.aload_n 0, 1) := by decide +kernel
theorem dX1_stage_18 : decode cX1_stage 18 = .ok (.getfield 45, 3) := by decide +kernel
theorem dX1_stage_21 : decode cX1_stage 21 = .ok (.if_icmp .ge 12, 3) := by decide +kernel
theorem dX1_stage_24 : decode cX1_stage 24 = .ok (.aload_n 0, 1) := by decide +kernel
theorem dX1_stage_25 : decode cX1_stage 25 = .ok (.getfield 36, 3) := by decide +kernel
theorem dX1_stage_28 : decode cX1_stage 28 = .ok (.iload_n 1, 1) := by decide +kernel
theorem dX1_stage_29 : decode cX1_stage 29 = .ok (.iaload, 1) := by decide +kernel
theorem dX1_stage_30 : decode cX1_stage 30 = .ok (.goto 4, 3) := by decide +kernel
theorem dX1_stage_33 : decode cX1_stage 33 = .ok (.iconst (-1), 1) := by decide +kernel
theorem dX1_stage_34 : decode cX1_stage 34 = .ok (.ireturn, 1) := by decide +kernel
theorem dX1_used_0 : decode cX1_used 0 = .ok (.aload_n 0, 1) := by decide +kernel
theorem dX1_used_1 : decode cX1_used 1 = .ok (.iconst 0, 1) := by decide +kernel
theorem dX1_used_2 : decode cX1_used 2 = .ok (.putfield 42, 3) := by decide +kernel
theorem dX1_used_5 : decode cX1_used 5 = .ok (.aload_n 0, 1) := by decide +kernel
theorem dX1_used_6 : decode cX1_used 6 = .ok (.getfield 57, 3) := by decide +kernel
theorem dX1_used_9 : decode cX1_used 9 = .ok (.ifCond .eq 37, 3) := by decide +kernel
theorem dX1_used_12 : decode cX1_used 12 = .ok (.iload_n 1, 1) := by decide +kernel
theorem dX1_used_13 : decode cX1_used 13 = .ok (.ifCond .lt 33, 3) := by decide +kernel
theorem dX1_used_16 : decode cX1_used 16 = .ok (.iload_n 1, 1) := by decide +kernel
theorem dX1_used_17 : decode cX1_used 17 = .ok (.aload_n 0, 1) := by decide +kernel
theorem dX1_used_18 : decode cX1_used 18 = .ok (.getfield 103, 3) := by decide +kernel
theorem dX1_used_21 : decode cX1_used 21 = .ok (.if_icmp .ge 25, 3) := by decide +kernel
theorem dX1_used_24 : decode cX1_used 24 = .ok (.iload_n 2, 1) := by decide +kernel
theorem dX1_used_25 : decode cX1_used 25 = .ok (.ifCond .lt 21, 3) := by decide +kernel
theorem dX1_used_28 : decode cX1_used 28 = .ok (.iload_n 2, 1) := by decide +kernel
theorem dX1_used_29 : decode cX1_used 29 = .ok (.iconst 3, 1) := by decide +kernel
theorem dX1_used_30 : decode cX1_used 30 = .ok (.if_icmp .ge 16, 3) := by decide +kernel
theorem dX1_used_33 : decode cX1_used 33 = .ok (.aload_n 0, 1) := by decide +kernel
theorem dX1_used_34 : decode cX1_used 34 = .ok (.aload_n 0, 1) := by decide +kernel
theorem dX1_used_35 : decode cX1_used 35 = .ok (.getfield 45, 3) := by decide +kernel
theorem dX1_used_38 : decode cX1_used 38 = .ok (.iload_n 1, 1) := by decide +kernel
theorem dX1_used_39 : decode cX1_used 39 = .ok (.iload_n 2, 1) := by decide +kernel
theorem dX1_used_40 : decode cX1_used 40 = .ok (.invokevirtual 91, 3) := by decide +kernel
theorem dX1_used_43 : decode cX1_used 43 = .ok (.goto 4, 3) := by decide +kernel
theorem dX1_used_46 : decode cX1_used 46 = .ok (.iconst (-1), 1) := by decide +kernel
theorem dX1_used_47 : decode cX1_used 47 = .ok (.ireturn, 1) := by decide +kernel
theorem dX1_count_0 : decode cX1_count 0 = .ok (.aload_n 0, 1) := by decide +kernel
theorem dX1_count_1 : decode cX1_count 1 = .ok (.iconst 0, 1) := by decide +kernel
theorem dX1_count_2 : decode cX1_count 2 = .ok (.putfield 42, 3) := by decide +kernel
theorem dX1_count_5 : decode cX1_count 5 = .ok (.iload_n 1, 1) := by decide +kernel
theorem dX1_count_6 : decode cX1_count 6 = .ok (.ifCond .ne 10, 3) := by decide +kernel
theorem dX1_count_9 : decode cX1_count 9 = .ok (.aload_n 0, 1) := by decide +kernel
theorem dX1_count_10 : decode cX1_count 10 = .ok (.getfield 45, 3) := by decide +kernel
theorem dX1_count_13 : decode cX1_count 13 = .ok (.goto 28, 3) := by decide +kernel
theorem dX1_count_16 : decode cX1_count 16 = .ok (.iload_n 1, 1) := by decide +kernel
theorem dX1_count_17 : decode cX1_count 17 = .ok (.iconst 1, 1) := by decide +kernel
theorem dX1_count_18 : decode cX1_count 18 = .ok (.if_icmp .ne 10, 3) := by decide +kernel
theorem dX1_count_21 : decode cX1_count 21 = .ok (.aload_n 0, 1) := by decide +kernel
theorem dX1_count_22 : decode cX1_count 22 = .ok (.getfield 51, 3) := by decide +kernel
theorem dX1_count_25 : decode cX1_count 25 = .ok (.goto 16, 3) := by decide +kernel
theorem dX1_count_28 : decode cX1_count 28 = .ok (.iload_n 1, 1) := by decide +kernel
theorem dX1_count_29 : decode cX1_count 29 = .ok (.iconst 2, 1) := by decide +kernel
theorem dX1_count_30 : decode cX1_count 30 = .ok (.if_icmp .ne 10, 3) := by decide +kernel
theorem dX1_count_33 : decode cX1_count 33 = .ok (.aload_n 0, 1) := by decide +kernel
theorem dX1_count_34 : decode cX1_count 34 = .ok (.getfield 54, 3) := by decide +kernel
theorem dX1_count_37 : decode cX1_count 37 = .ok (.goto 4, 3) := by decide +kernel
theorem dX1_count_40 : decode cX1_count 40 = .ok (.iconst (-1), 1) := by decide +kernel
theorem dX1_count_41 : decode cX1_count 41 = .ok (.ireturn, 1) := by decide +kernel
