theorem dL_assign_0 : decode cL_assign 0 = .ok (.aload_n 3, 1) := by decide +kernel
theorem dL_assign_1 : decode cL_assign 1 = .ok (.iconst 0, 1) := by decide +kernel
theorem dL_assign_2 : decode cL_assign 2 = .ok (.aload_n 0, 1) := by decide +kernel
theorem dL_assign_3 : decode cL_assign 3 = .ok (.iload_n 1, 1) := by decide +kernel
theorem dL_assign_4 : decode cL_assign 4 = .ok (.iload_n 2, 1) := by decide +kernel
theorem dL_assign_5 : decode cL_assign 5 = .ok (.invokevirtual 7, 3) := by decide +kernel
theorem dL_assign_8 : decode cL_assign 8 = .ok (.i2l, 1) := by decide +kernel
theorem dL_assign_9 : decode cL_assign 9 = .ok (.lastore, 1) := by decide +kernel
theorem dL_assign_10 : decode cL_assign 10 = .ok (.goto 11, 3) := by decide +kernel
theorem dL_assign_13 : decode cL_assign 13 = .ok (.astore 4, 2) := by decide +kernel
theorem dL_assign_15 : decode cL_assign 15 = .ok (.iconst 1, 1) := by decide +kernel
theorem dL_assign_16 : decode cL_assign 16 = .ok (.ireturn, 1) := by decide +kernel
theorem dL_assign_17 : decode cL_assign 17 = .ok (.astore 4, 2) := by decide +kernel
theorem dL_assign_19 : decode cL_assign 19 = .ok (.iconst 2, 1) := by decide +kernel
theorem dL_assign_20 : decode cL_assign 20 = .ok (.ireturn, 1) := by decide +kernel
theorem dL_assign_21 : decode cL_assign 21 = .ok (.iconst 0, 1) := by decide +kernel
theorem dL_assign_22 : decode cL_assign 22 = .ok (.ireturn, 1) := by decide +kernel
theorem dL_load_0 : decode cL_load 0 = .ok (.aload 4, 2) := by decide +kernel
theorem dL_load_2 : decode cL_load 2 = .ok (.iconst 0, 1) := by decide +kernel
theorem dL_load_3 : decode cL_load 3 = .ok (.aload_n 0, 1) := by decide +kernel
theorem dL_load_4 : decode cL_load 4 = .ok (.iload_n 1, 1) := by decide +kernel
theorem dL_load_5 : decode cL_load 5 = .ok (.iload_n 2, 1) := by decide +kernel
theorem dL_load_6 : decode cL_load 6 = .ok (.iload_n 3, 1) := by decide +kernel
theorem dL_load_7 : decode cL_load 7 = .ok (.invokevirtual 17, 3) := by decide +kernel
theorem dL_load_10 : decode cL_load 10 = .ok (.i2l, 1) := by decide +kernel
theorem dL_load_11 : decode cL_load 11 = .ok (.lastore, 1) := by decide +kernel
theorem dL_load_12 : decode cL_load 12 = .ok (.goto 11, 3) := by decide +kernel
theorem dL_load_15 : decode cL_load 15 = .ok (.astore 5, 2) := by decide +kernel
theorem dL_load_17 : decode cL_load 17 = .ok (.iconst 1, 1) := by decide +kernel
theorem dL_load_18 : decode cL_load 18 = .ok (.ireturn, 1) := by decide +kernel
theorem dL_load_19 : decode cL_load 19 = .ok (.astore 5, 2) := by decide +kernel
theorem dL_load_21 : decode cL_load 21 = .ok (.iconst 2, 1) := by decide +kernel
theorem dL_load_22 : decode cL_load 22 = .ok (.ireturn, 1) := by decide +kernel
theorem dL_load_23 : decode cL_load 23 = .ok (.iconst 0, 1) := by decide +kernel
theorem dL_load_24 : decode cL_load 24 = .ok (.ireturn, 1) := by decide +kernel
theorem dL_store_0 : decode cL_store 0 = .ok (.aload 4, 2) := by decide +kernel
theorem dL_store_2 : decode cL_store 2 = .ok (.iconst 0, 1) := by decide +kernel
theorem dL_store_3 : decode cL_store 3 = .ok (.aload_n 0, 1) := by decide +kernel
theorem dL_store_4 : decode cL_store 4 = .ok (.iload_n 1, 1) := by decide +kernel
theorem dL_store_5 : decode cL_store 5 = .ok (.iload_n 2, 1) := by decide +kernel
theorem dL_store_6 : decode cL_store 6 = .ok (.iload_n 3, 1) := by decide +kernel
theorem dL_store_7 : decode cL_store 7 = .ok (.invokevirtual 21, 3) := by decide +kernel
theorem dL_store_10 : decode cL_store 10 = .ok (.i2l, 1) := by decide +kernel
theorem dL_store_11 : decode cL_store 11 = .ok (.lastore, 1) := by decide +kernel
theorem dL_store_12 : decode cL_store 12 = .ok (.goto 11, 3) := by decide +kernel
theorem dL_store_15 : decode cL_store 15 = .ok (.astore 5, 2) := by decide +kernel
theorem dL_store_17 : decode cL_store 17 = .ok (.iconst 1, 1) := by decide +kernel
theorem dL_store_18 : decode cL_store 18 = .ok (.ireturn, 1) := by decide +kernel
theorem dL_store_19 : decode cL_store 19 = .ok (.astore 5, 2) := by decide +kernel
theorem dL_store_21 : decode cL_store 21 = .ok (.iconst 2, 1) := by decide +kernel
theorem dL_store_22 : decode cL_store 22 = .ok (.ireturn, 1) := by decide +kernel
theorem dL_store_23 : decode cL_store 23 = .ok (.iconst 0, 1) := by decide +kernel
theorem dL_store_24 : decode cL_store 24 = .ok (.ireturn, 1) := by decide +kernel
theorem dL_valid_0 : decode cL_valid 0 = .ok (.aload_n 3, 1) := by decide +kernel
theorem dL_valid_1 : decode cL_valid 1 = .ok (.iconst 0, 1) := by decide +kernel
theorem dL_valid_2 : decode cL_valid 2 = .ok (.aload_n 0, 1) := by decide +kernel
theorem dL_valid_3 : decode cL_valid 3 = .ok (.iload_n 1, 1) := by decide +kernel
theorem dL_valid_4 : decode cL_valid 4 = .ok (.iload_n 2, 1) := by decide +kernel
theorem dL_valid_5 : decode cL_valid 5 = .ok (.invokevirtual 24, 3) := by decide +kernel
theorem dL_valid_8 : decode cL_valid 8 = .ok (.i2l, 1) := by decide +kernel
theorem dL_valid_9 : decode cL_valid 9 = .ok (.lastore, 1) := by decide +kernel
theorem dL_valid_10 : decode cL_valid 10 = .ok (.goto 11, 3) := by decide +kernel
theorem dL_valid_13 : decode cL_valid 13 = .ok (.astore 4, 2) := by decide +kernel
theorem dL_valid_15 : decode cL_valid 15 = .ok (.iconst 1, 1) := by decide +kernel
theorem dL_valid_16 : decode cL_valid 16 = .ok (.ireturn, 1) := by decide +kernel
theorem dL_valid_17 : decode cL_valid 17 = .ok (.astore 4, 2) := by decide +kernel
theorem dL_valid_19 : decode cL_valid 19 = .ok (.iconst 2, 1) := by decide +kernel
theorem dL_valid_20 : decode cL_valid 20 = .ok (.ireturn, 1) := by decide +kernel
theorem dL_valid_21 : decode cL_valid 21 = .ok (.iconst 0, 1) := by decide +kernel
theorem dL_valid_22 : decode cL_valid 22 = .ok (.ireturn, 1) := by decide +kernel
theorem dL_drop_0 : decode cL_drop 0 = .ok (.aload_n 1, 1) := by decide +kernel
theorem dL_drop_1 : decode cL_drop 1 = .ok (.iconst 0, 1) := by decide +kernel
theorem dL_drop_2 : decode cL_drop 2 = .ok (.aload_n 0, 1) := by decide +kernel
theorem dL_drop_3 : decode cL_drop 3 = .ok (.invokevirtual 28, 3) := by decide +kernel
theorem dL_drop_6 : decode cL_drop 6 = .ok (.i2l, 1) := by decide +kernel
theorem dL_drop_7 : decode cL_drop 7 = .ok (.lastore, 1) := by decide +kernel
theorem dL_drop_8 : decode cL_drop 8 = .ok (.goto 6, 3) := by decide +kernel
theorem dL_drop_11 : decode cL_drop 11 = .ok (.astore_n 2, 1) := by decide +kernel
theorem dL_drop_12 : decode cL_drop 12 = .ok (.iconst 1, 1) := by decide +kernel
theorem dL_drop_13 : decode cL_drop 13 = .ok (.ireturn, 1) := by decide +kernel
theorem dL_drop_14 : decode cL_drop 14 = .ok (.iconst 0, 1) := by decide +kernel
theorem dL_drop_15 : decode cL_drop 15 = .ok (.ireturn, 1) := by decide +kernel
theorem dL_open_0 : decode cL_open 0 = .ok (.aload_n 2, 1) := by decide +kernel
theorem dL_open_1 : decode cL_open 1 = .ok (.iconst 0, 1) := by decide +kernel
theorem dL_open_2 : decode cL_open 2 = .ok (.aload_n 0, 1) := by decide +kernel
theorem dL_open_3 : decode cL_open 3 = .ok (.iload_n 1, 1) := by decide +kernel
theorem dL_open_4 : decode cL_open 4 = .ok (.invokevirtual 32, 3) := by decide +kernel
theorem dL_open_7 : decode cL_open 7 = .ok (.i2l, 1) := by decide +kernel
theorem dL_open_8 : decode cL_open 8 = .ok (.lastore, 1) := by decide +kernel
theorem dL_open_9 : decode cL_open 9 = .ok (.goto 9, 3) := by decide +kernel
theorem dL_open_12 : decode cL_open 12 = .ok (.astore_n 3, 1) := by decide +kernel
theorem dL_open_13 : decode cL_open 13 = .ok (.iconst 1, 1) := by decide +kernel
theorem dL_open_14 : decode cL_open 14 = .ok (.ireturn, 1) := by decide +kernel
theorem dL_open_15 : decode cL_open 15 = .ok (.astore_n 3, 1) := by decide +kernel
theorem dL_open_16 : decode cL_open 16 = .ok (.iconst 2, 1) := by decide +kernel
theorem dL_open_17 : decode cL_open 17 = .ok (.ireturn, 1) := by decide +kernel
theorem dL_open_18 : decode cL_open 18 = .ok (.iconst 0, 1) := by decide +kernel
theorem dL_open_19 : decode cL_open 19 = .ok (.ireturn, 1) := by decide +kernel
theorem dL_close_0 : decode cL_close 0 = .ok (.aload_n 1, 1) := by decide +kernel
theorem dL_close_1 : decode cL_close 1 = .ok (.iconst 0, 1) := by decide +kernel
theorem dL_close_2 : decode cL_close 2 = .ok (.aload_n 0, 1) := by decide +kernel
theorem dL_close_3 : decode cL_close 3 = .ok (.invokevirtual 36, 3) := by decide +kernel
theorem dL_close_6 : decode cL_close 6 = .ok (.i2l, 1) := by decide +kernel
theorem dL_close_7 : decode cL_close 7 = .ok (.lastore, 1) := by decide +kernel
theorem dL_close_8 : decode cL_close 8 = .ok (.goto 6, 3) := by decide +kernel
theorem dL_close_11 : decode cL_close 11 = .ok (.astore_n 2, 1) := by decide +kernel
theorem dL_close_12 : decode cL_close 12 = .ok (.iconst 1, 1) := by decide +kernel
theorem dL_close_13 : decode cL_close 13 = .ok (.ireturn, 1) := by decide +kernel
theorem dL_close_14 : decode cL_close 14 = .ok (.iconst 0, 1) := by decide +kernel
theorem dL_close_15 : decode cL_close 15 = .ok (.ireturn, 1) := by decide +kernel
theorem dL_apply_0 : decode cL_apply 0 = .ok (.aload 4, 2) := by decide +kernel
theorem dL_apply_2 : decode cL_apply 2 = .ok (.iconst 0, 1) := by decide +kernel
theorem dL_apply_3 : decode cL_apply 3 = .ok (.aload_n 0, 1) := by decide +kernel
theorem dL_apply_4 : decode cL_apply 4 = .ok (.iload_n 1, 1) := by decide +kernel
theorem dL_apply_5 : decode cL_apply 5 = .ok (.iload_n 2, 1) := by decide +kernel
theorem dL_apply_6 : decode cL_apply 6 = .ok (.iload_n 3, 1) := by decide +kernel
theorem dL_apply_7 : decode cL_apply 7 = .ok (.invokevirtual 39, 3) := by decide +kernel
theorem dL_apply_10 : decode cL_apply 10 = .ok (.i2l, 1) := by decide +kernel
theorem dL_apply_11 : decode cL_apply 11 = .ok (.lastore, 1) := by decide +kernel
theorem dL_apply_12 : decode cL_apply 12 = .ok (.goto 15, 3) := by decide +kernel
theorem dL_apply_15 : decode cL_apply 15 = .ok (.astore 5, 2) := by decide +kernel
theorem dL_apply_17 : decode cL_apply 17 = .ok (.iconst 1, 1) := by decide +kernel
theorem dL_apply_18 : decode cL_apply 18 = .ok (.ireturn, 1) := by decide +kernel
theorem dL_apply_19 : decode cL_apply 19 = .ok (.astore 5, 2) := by decide +kernel
theorem dL_apply_21 : decode cL_apply 21 = .ok (.iconst 2, 1) := by decide +kernel
theorem dL_apply_22 : decode cL_apply 22 = .ok (.ireturn, 1) := by decide +kernel
theorem dL_apply_23 : decode cL_apply 23 = .ok (.astore 5, 2) := by decide +kernel
theorem dL_apply_25 : decode cL_apply 25 = .ok (.iconst 3, 1) := by decide +kernel
theorem dL_apply_26 : decode cL_apply 26 = .ok (.ireturn, 1) := by decide +kernel
theorem dL_apply_27 : decode cL_apply 27 = .ok (.iconst 0, 1) := by decide +kernel
theorem dL_apply_28 : decode cL_apply 28 = .ok (.ireturn, 1) := by decide +kernel
theorem dL_lay_0 : decode cL_lay 0 = .ok (.aload 4, 2) := by decide +kernel
theorem dL_lay_2 : decode cL_lay 2 = .ok (.iconst 0, 1) := by decide +kernel
theorem dL_lay_3 : decode cL_lay 3 = .ok (.aload_n 0, 1) := by decide +kernel
theorem dL_lay_4 : decode cL_lay 4 = .ok (.iload_n 1, 1) := by decide +kernel
theorem dL_lay_5 : decode cL_lay 5 = .ok (.iload_n 2, 1) := by decide +kernel
theorem dL_lay_6 : decode cL_lay 6 = .ok (.iload_n 3, 1) := by decide +kernel
theorem dL_lay_7 : decode cL_lay 7 = .ok (.invokevirtual 44, 3) := by decide +kernel
theorem dL_lay_10 : decode cL_lay 10 = .ok (.i2l, 1) := by decide +kernel
theorem dL_lay_11 : decode cL_lay 11 = .ok (.lastore, 1) := by decide +kernel
theorem dL_lay_12 : decode cL_lay 12 = .ok (.goto 7, 3) := by decide +kernel
theorem dL_lay_15 : decode cL_lay 15 = .ok (.astore 5, 2) := by decide +kernel
theorem dL_lay_17 : decode cL_lay 17 = .ok (.iconst 1, 1) := by decide +kernel
theorem dL_lay_18 : decode cL_lay 18 = .ok (.ireturn, 1) := by decide +kernel
theorem dL_lay_19 : decode cL_lay 19 = .ok (.iconst 0, 1) := by decide +kernel
theorem dL_lay_20 : decode cL_lay 20 = .ok (.ireturn, 1) := by decide +kernel
