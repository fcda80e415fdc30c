theorem dX4_better_154 : decode cX4_better 154 = .ok (.iload 6, 2) := by decide +kernel
theorem dX4_better_156 : decode cX4_better 156 = .ok (.iastore, 1) := by decide +kernel
theorem dX4_better_157 : decode cX4_better 157 = .ok (.iload_n 3, 1) := by decide +kernel
theorem dX4_better_158 : decode cX4_better 158 = .ok (.ifCond .ne 8, 3) := by decide +kernel
theorem dX4_better_161 : decode cX4_better 161 = .ok (.iload 7, 2) := by decide +kernel
theorem dX4_better_163 : decode cX4_better 163 = .ok (.goto 5, 3) := by decide +kernel
theorem dX4_better_166 : decode cX4_better 166 = .ok (.iload 8, 2) := by decide +kernel
theorem dX4_better_168 : decode cX4_better 168 = .ok (.ireturn, 1) := by decide +kernel
theorem dX4_run_0 : decode cX4_run 0 = .ok (.iload_n 1, 1) := by decide +kernel
theorem dX4_run_1 : decode cX4_run 1 = .ok (.i2l, 1) := by decide +kernel
theorem dX4_run_2 : decode cX4_run 2 = .ok (.iconst 1, 1) := by decide +kernel
theorem dX4_run_3 : decode cX4_run 3 = .ok (.sipush 300, 3) := by decide +kernel
theorem dX4_run_6 : decode cX4_run 6 = .ok (.invokestatic 50, 3) := by decide +kernel
theorem dX4_run_9 : decode cX4_run 9 = .ok (.ifCond .ne 6, 3) := by decide +kernel
theorem dX4_run_12 : decode cX4_run 12 = .ok (.bipush (-2), 2) := by decide +kernel
theorem dX4_run_14 : decode cX4_run 14 = .ok (.ireturn, 1) := by decide +kernel
theorem dX4_run_15 : decode cX4_run 15 = .ok (.aload_n 0, 1) := by decide +kernel
theorem dX4_run_16 : decode cX4_run 16 = .ok (.getfield 31, 3) := by decide +kernel
theorem dX4_run_19 : decode cX4_run 19 = .ok (.aload_n 0, 1) := by decide +kernel
theorem dX4_run_20 : decode cX4_run 20 = .ok (.getfield 12, 3) := by decide +kernel
theorem dX4_run_23 : decode cX4_run 23 = .ok (.iload_n 1, 1) := by decide +kernel
theorem dX4_run_24 : decode cX4_run 24 = .ok (.invokevirtual 145, 3) := by decide +kernel
theorem dX4_run_27 : decode cX4_run 27 = .ok (.aload_n 0, 1) := by decide +kernel
theorem dX4_run_28 : decode cX4_run 28 = .ok (.getfield 31, 3) := by decide +kernel
theorem dX4_run_31 : decode cX4_run 31 = .ok (.getfield 149, 3) := by decide +kernel
theorem dX4_run_34 : decode cX4_run 34 = .ok (.ireturn, 1) := by decide +kernel
theorem dX4_seen_0 : decode cX4_seen 0 = .ok (.aload_n 0, 1) := by decide +kernel
theorem dX4_seen_1 : decode cX4_seen 1 = .ok (.getfield 12, 3) := by decide +kernel
theorem dX4_seen_4 : decode cX4_seen 4 = .ok (.iload_n 1, 1) := by decide +kernel
theorem dX4_seen_5 : decode cX4_seen 5 = .ok (.iload_n 2, 1) := by decide +kernel
theorem dX4_seen_6 : decode cX4_seen 6 = .ok (.invokevirtual 80, 3) := by decide +kernel
theorem dX4_seen_9 : decode cX4_seen 9 = .ok (.istore 4, 2) := by decide +kernel
theorem dX4_seen_11 : decode cX4_seen 11 = .ok (.iload 4, 2) := by decide +kernel
theorem dX4_seen_13 : decode cX4_seen 13 = .ok (.iconst (-1), 1) := by decide +kernel
theorem dX4_seen_14 : decode cX4_seen 14 = .ok (.if_icmp .eq 13, 3) := by decide +kernel
theorem dX4_seen_17 : decode cX4_seen 17 = .ok (.iload_n 3, 1) := by decide +kernel
theorem dX4_seen_18 : decode cX4_seen 18 = .ok (.i2l, 1) := by decide +kernel
theorem dX4_seen_19 : decode cX4_seen 19 = .ok (.iconst 0, 1) := by decide +kernel
theorem dX4_seen_20 : decode cX4_seen 20 = .ok (.iconst 2, 1) := by decide +kernel
theorem dX4_seen_21 : decode cX4_seen 21 = .ok (.invokestatic 50, 3) := by decide +kernel
theorem dX4_seen_24 : decode cX4_seen 24 = .ok (.ifCond .ne 6, 3) := by decide +kernel
theorem dX4_seen_27 : decode cX4_seen 27 = .ok (.bipush (-2), 2) := by decide +kernel
theorem dX4_seen_29 : decode cX4_seen 29 = .ok (.ireturn, 1) := by decide +kernel
theorem dX4_seen_30 : decode cX4_seen 30 = .ok (.aload_n 0, 1) := by decide +kernel
theorem dX4_seen_31 : decode cX4_seen 31 = .ok (.getfield 31, 3) := by decide +kernel
theorem dX4_seen_34 : decode cX4_seen 34 = .ok (.iload 4, 2) := by decide +kernel
theorem dX4_seen_36 : decode cX4_seen 36 = .ok (.iload_n 3, 1) := by decide +kernel
theorem dX4_seen_37 : decode cX4_seen 37 = .ok (.invokevirtual 152, 3) := by decide +kernel
theorem dX4_seen_40 : decode cX4_seen 40 = .ok (.ireturn, 1) := by decide +kernel
theorem dX4_tick_0 : decode cX4_tick 0 = .ok (.iload_n 1, 1) := by decide +kernel
theorem dX4_tick_1 : decode cX4_tick 1 = .ok (.i2l, 1) := by decide +kernel
theorem dX4_tick_2 : decode cX4_tick 2 = .ok (.iconst 0, 1) := by decide +kernel
theorem dX4_tick_3 : decode cX4_tick 3 = .ok (.iconst 1, 1) := by decide +kernel
theorem dX4_tick_4 : decode cX4_tick 4 = .ok (.invokestatic 50, 3) := by decide +kernel
theorem dX4_tick_7 : decode cX4_tick 7 = .ok (.ifCond .eq 15, 3) := by decide +kernel
theorem dX4_tick_10 : decode cX4_tick 10 = .ok (.iload_n 2, 1) := by decide +kernel
theorem dX4_tick_11 : decode cX4_tick 11 = .ok (.i2l, 1) := by decide +kernel
theorem dX4_tick_12 : decode cX4_tick 12 = .ok (.iconst 0, 1) := by decide +kernel
theorem dX4_tick_13 : decode cX4_tick 13 = .ok (.sipush 299, 3) := by decide +kernel
theorem dX4_tick_16 : decode cX4_tick 16 = .ok (.invokestatic 50, 3) := by decide +kernel
theorem dX4_tick_19 : decode cX4_tick 19 = .ok (.ifCond .ne 6, 3) := by decide +kernel
theorem dX4_tick_22 : decode cX4_tick 22 = .ok (.bipush (-2), 2) := by decide +kernel
theorem dX4_tick_24 : decode cX4_tick 24 = .ok (.ireturn, 1) := by decide +kernel
theorem dX4_tick_25 : decode cX4_tick 25 = .ok (.aload_n 0, 1) := by decide +kernel
theorem dX4_tick_26 : decode cX4_tick 26 = .ok (.getfield 31, 3) := by decide +kernel
theorem dX4_tick_29 : decode cX4_tick 29 = .ok (.getfield 155, 3) := by decide +kernel
theorem dX4_tick_32 : decode cX4_tick 32 = .ok (.iload_n 1, 1) := by decide +kernel
theorem dX4_tick_33 : decode cX4_tick 33 = .ok (.aaload, 1) := by decide +kernel
theorem dX4_tick_34 : decode cX4_tick 34 = .ok (.iload_n 2, 1) := by decide +kernel
theorem dX4_tick_35 : decode cX4_tick 35 = .ok (.iaload, 1) := by decide +kernel
theorem dX4_tick_36 : decode cX4_tick 36 = .ok (.ireturn, 1) := by decide +kernel
theorem dX4_sheet_0 : decode cX4_sheet 0 = .ok (.iload_n 1, 1) := by decide +kernel
theorem dX4_sheet_1 : decode cX4_sheet 1 = .ok (.invokestatic 87, 3) := by decide +kernel
theorem dX4_sheet_4 : decode cX4_sheet 4 = .ok (.ifCond .eq 16, 3) := by decide +kernel
theorem dX4_sheet_7 : decode cX4_sheet 7 = .ok (.iload_n 2, 1) := by decide +kernel
theorem dX4_sheet_8 : decode cX4_sheet 8 = .ok (.invokestatic 158, 3) := by decide +kernel
theorem dX4_sheet_11 : decode cX4_sheet 11 = .ok (.ifCond .eq 9, 3) := by decide +kernel
theorem dX4_sheet_14 : decode cX4_sheet 14 = .ok (.iload_n 3, 1) := by decide +kernel
theorem dX4_sheet_15 : decode cX4_sheet 15 = .ok (.bipush 60, 2) := by decide +kernel
theorem dX4_sheet_17 : decode cX4_sheet 17 = .ok (.if_icmp .le 6, 3) := by decide +kernel
theorem dX4_sheet_20 : decode cX4_sheet 20 = .ok (.bipush (-2), 2) := by decide +kernel
theorem dX4_sheet_22 : decode cX4_sheet 22 = .ok (.ireturn, 1) := by decide +kernel
theorem dX4_sheet_23 : decode cX4_sheet 23 = .ok (.iload_n 3, 1) := by decide +kernel
theorem dX4_sheet_24 : decode cX4_sheet 24 = .ok (.ifCond .ge 9, 3) := by decide +kernel
theorem dX4_sheet_27 : decode cX4_sheet 27 = .ok (.aload_n 0, 1) := by decide +kernel
theorem dX4_sheet_28 : decode cX4_sheet 28 = .ok (.iconst 5, 1) := by decide +kernel
theorem dX4_sheet_29 : decode cX4_sheet 29 = .ok (.invokevirtual 93, 3) := by decide +kernel
theorem dX4_sheet_32 : decode cX4_sheet 32 = .ok (.ireturn, 1) := by decide +kernel
theorem dX4_sheet_33 : decode cX4_sheet 33 = .ok (.aload_n 0, 1) := by decide +kernel
theorem dX4_sheet_34 : decode cX4_sheet 34 = .ok (.getfield 37, 3) := by decide +kernel
theorem dX4_sheet_37 : decode cX4_sheet 37 = .ok (.iload_n 1, 1) := by decide +kernel
theorem dX4_sheet_38 : decode cX4_sheet 38 = .ok (.aaload, 1) := by decide +kernel
theorem dX4_sheet_39 : decode cX4_sheet 39 = .ok (.iload_n 2, 1) := by decide +kernel
theorem dX4_sheet_40 : decode cX4_sheet 40 = .ok (.iload_n 3, 1) := by decide +kernel
theorem dX4_sheet_41 : decode cX4_sheet 41 = .ok (.invokevirtual 161, 3) := by decide +kernel
theorem dX4_sheet_44 : decode cX4_sheet 44 = .ok (.iload_n 3, 1) := by decide +kernel
theorem dX4_sheet_45 : decode cX4_sheet 45 = .ok (.ireturn, 1) := by decide +kernel
theorem dX4_lose_0 : decode cX4_lose 0 = .ok (.iload_n 1, 1) := by decide +kernel
theorem dX4_lose_1 : decode cX4_lose 1 = .ok (.invokestatic 87, 3) := by decide +kernel
theorem dX4_lose_4 : decode cX4_lose 4 = .ok (.ifCond .ne 6, 3) := by decide +kernel
theorem dX4_lose_7 : decode cX4_lose 7 = .ok (.bipush (-2), 2) := by decide +kernel
theorem dX4_lose_9 : decode cX4_lose 9 = .ok (.ireturn, 1) := by decide +kernel
theorem dX4_lose_10 : decode cX4_lose 10 = .ok (.aload_n 0, 1) := by decide +kernel
theorem dX4_lose_11 : decode cX4_lose 11 = .ok (.getfield 37, 3) := by decide +kernel
theorem dX4_lose_14 : decode cX4_lose 14 = .ok (.iload_n 1, 1) := by decide +kernel
theorem dX4_lose_15 : decode cX4_lose 15 = .ok (.aaload, 1) := by decide +kernel
theorem dX4_lose_16 : decode cX4_lose 16 = .ok (.getfield 90, 3) := by decide +kernel
theorem dX4_lose_19 : decode cX4_lose 19 = .ok (.ifCond .eq 9, 3) := by decide +kernel
theorem dX4_lose_22 : decode cX4_lose 22 = .ok (.aload_n 0, 1) := by decide +kernel
theorem dX4_lose_23 : decode cX4_lose 23 = .ok (.iconst 1, 1) := by decide +kernel
theorem dX4_lose_24 : decode cX4_lose 24 = .ok (.invokevirtual 93, 3) := by decide +kernel
theorem dX4_lose_27 : decode cX4_lose 27 = .ok (.ireturn, 1) := by decide +kernel
theorem dX4_lose_28 : decode cX4_lose 28 = .ok (.aload_n 0, 1) := by decide +kernel
theorem dX4_lose_29 : decode cX4_lose 29 = .ok (.getfield 37, 3) := by decide +kernel
theorem dX4_lose_32 : decode cX4_lose 32 = .ok (.iload_n 1, 1) := by decide +kernel
theorem dX4_lose_33 : decode cX4_lose 33 = .ok (.aaload, 1) := by decide +kernel
theorem dX4_lose_34 : decode cX4_lose 34 = .ok (.iconst 1, 1) := by decide +kernel
theorem dX4_lose_35 : decode cX4_lose 35 = .ok (.putfield 90, 3) := by decide +kernel
theorem dX4_lose_38 : decode cX4_lose 38 = .ok (.aload_n 0, 1) := by decide +kernel
theorem dX4_lose_39 : decode cX4_lose 39 = .ok (.getfield 37, 3) := by decide +kernel
theorem dX4_lose_42 : decode cX4_lose 42 = .ok (.iload_n 1, 1) := by decide +kernel
theorem dX4_lose_43 : decode cX4_lose 43 = .ok (.aaload, 1) := by decide +kernel
theorem dX4_lose_44 : decode cX4_lose 44 = .ok (.getfield 97, 3) := by decide +kernel
theorem dX4_lose_47 : decode cX4_lose 47 = .ok (.ireturn, 1) := by decide +kernel
theorem dX4_lay_0 : decode cX4_lay 0 = .ok (.iload_n 1, 1) := by decide +kernel
theorem dX4_lay_1 : decode cX4_lay 1 = .ok (.invokestatic 87, 3) := by decide +kernel
theorem dX4_lay_4 : decode cX4_lay 4 = .ok (.ifCond .eq 10, 3) := by decide +kernel
theorem dX4_lay_7 : decode cX4_lay 7 = .ok (.iload_n 2, 1) := by decide +kernel
theorem dX4_lay_8 : decode cX4_lay 8 = .ok (.invokestatic 158, 3) := by decide +kernel
theorem dX4_lay_11 : decode cX4_lay 11 = .ok (.ifCond .ne 6, 3) := by decide +kernel
theorem dX4_lay_14 : decode cX4_lay 14 = .ok (.bipush (-2), 2) := by decide +kernel
theorem dX4_lay_16 : decode cX4_lay 16 = .ok (.ireturn, 1) := by decide +kernel
theorem dX4_lay_17 : decode cX4_lay 17 = .ok (.aload_n 0, 1) := by decide +kernel
theorem dX4_lay_18 : decode cX4_lay 18 = .ok (.getfield 37, 3) := by decide +kernel
theorem dX4_lay_21 : decode cX4_lay 21 = .ok (.iload_n 1, 1) := by decide +kernel
theorem dX4_lay_22 : decode cX4_lay 22 = .ok (.aaload, 1) := by decide +kernel
theorem dX4_lay_23 : decode cX4_lay 23 = .ok (.iload_n 2, 1) := by decide +kernel
theorem dX4_lay_24 : decode cX4_lay 24 = .ok (.iload_n 3, 1) := by decide +kernel
theorem dX4_lay_25 : decode cX4_lay 25 = .ok (.invokevirtual 165, 3) := by decide +kernel
theorem dX4_lay_28 : decode cX4_lay 28 = .ok (.istore 5, 2) := by decide +kernel
theorem dX4_lay_30 : decode cX4_lay 30 = .ok (.iload 5, 2) := by decide +kernel
theorem dX4_lay_32 : decode cX4_lay 32 = .ok (.ifCond .eq 10, 3) := by decide +kernel
theorem dX4_lay_35 : decode cX4_lay 35 = .ok (.aload_n 0, 1) := by decide +kernel
theorem dX4_lay_36 : decode cX4_lay 36 = .ok (.iload 5, 2) := by decide +kernel
theorem dX4_lay_38 : decode cX4_lay 38 = .ok (.invokevirtual 93, 3) := by decide +kernel
theorem dX4_lay_41 : decode cX4_lay 41 = .ok (.ireturn, 1) := by decide +kernel
theorem dX4_lay_42 : decode cX4_lay 42 = .ok (.aload_n 0, 1) := by decide +kernel
theorem dX4_lay_43 : decode cX4_lay 43 = .ok (.getfield 37, 3) := by decide +kernel
theorem dX4_lay_46 : decode cX4_lay 46 = .ok (.iload_n 1, 1) := by decide +kernel
theorem dX4_lay_47 : decode cX4_lay 47 = .ok (.aaload, 1) := by decide +kernel
theorem dX4_lay_48 : decode cX4_lay 48 = .ok (.iload_n 3, 1) := by decide +kernel
theorem dX4_lay_49 : decode cX4_lay 49 = .ok (.iload_n 2, 1) := by decide +kernel
theorem dX4_lay_50 : decode cX4_lay 50 = .ok (.iconst 2, 1) := by decide +kernel
theorem dX4_lay_51 : decode cX4_lay 51 = .ok (.if_icmp .ne 13, 3) := by decide +kernel
theorem dX4_lay_54 : decode cX4_lay 54 = .ok (.iload 4, 2) := by decide +kernel
theorem dX4_lay_56 : decode cX4_lay 56 = .ok (.i2l, 1) := by decide +kernel
theorem dX4_lay_57 : decode cX4_lay 57 = .ok (.ldc2_w 168, 3) := by decide +kernel
theorem dX4_lay_60 : decode cX4_lay 60 = .ok (.lmul, 1) := by decide +kernel
theorem dX4_lay_61 : decode cX4_lay 61 = .ok (.goto 6, 3) := by decide +kernel
theorem dX4_lay_64 : decode cX4_lay 64 = .ok (.iload 4, 2) := by decide +kernel
theorem dX4_lay_66 : decode cX4_lay 66 = .ok (.i2l, 1) := by decide +kernel
theorem dX4_lay_67 : decode cX4_lay 67 = .ok (.invokevirtual 170, 3) := by decide +kernel
theorem dX4_lay_70 : decode cX4_lay 70 = .ok (.iconst 1, 1) := by decide +kernel
theorem dX4_lay_71 : decode cX4_lay 71 = .ok (.ireturn, 1) := by decide +kernel
theorem dX4_get_0 : decode cX4_get 0 = .ok (.iload_n 1, 1) := by decide +kernel
theorem dX4_get_1 : decode cX4_get 1 = .ok (.invokestatic 87, 3) := by decide +kernel
theorem dX4_get_4 : decode cX4_get 4 = .ok (.ifCond .eq 10, 3) := by decide +kernel
theorem dX4_get_7 : decode cX4_get 7 = .ok (.iload_n 2, 1) := by decide +kernel
theorem dX4_get_8 : decode cX4_get 8 = .ok (.invokestatic 158, 3) := by decide +kernel
theorem dX4_get_11 : decode cX4_get 11 = .ok (.ifCond .ne 7, 3) := by decide +kernel
theorem dX4_get_14 : decode cX4_get 14 = .ok (.ldc2_w 174, 3) := by decide +kernel
theorem dX4_get_17 : decode cX4_get 17 = .ok (.lreturn, 1) := by decide +kernel
theorem dX4_get_18 : decode cX4_get 18 = .ok (.aload_n 0, 1) := by decide +kernel
theorem dX4_get_19 : decode cX4_get 19 = .ok (.getfield 37, 3) := by decide +kernel
theorem dX4_get_22 : decode cX4_get 22 = .ok (.iload_n 1, 1) := by decide +kernel
theorem dX4_get_23 : decode cX4_get 23 = .ok (.aaload, 1) := by decide +kernel
theorem dX4_get_24 : decode cX4_get 24 = .ok (.iload_n 2, 1) := by decide +kernel
theorem dX4_get_25 : decode cX4_get 25 = .ok (.iload_n 3, 1) := by decide +kernel
theorem dX4_get_26 : decode cX4_get 26 = .ok (.invokevirtual 165, 3) := by decide +kernel
theorem dX4_get_29 : decode cX4_get 29 = .ok (.istore 4, 2) := by decide +kernel
theorem dX4_get_31 : decode cX4_get 31 = .ok (.iload 4, 2) := by decide +kernel
theorem dX4_get_33 : decode cX4_get 33 = .ok (.ifCond .eq 15, 3) := by decide +kernel
theorem dX4_get_36 : decode cX4_get 36 = .ok (.ldc2_w 176, 3) := by decide +kernel
theorem dX4_get_39 : decode cX4_get 39 = .ok (.aload_n 0, 1) := by decide +kernel
theorem dX4_get_40 : decode cX4_get 40 = .ok (.iload 4, 2) := by decide +kernel
theorem dX4_get_42 : decode cX4_get 42 = .ok (.invokevirtual 93, 3) := by decide +kernel
theorem dX4_get_45 : decode cX4_get 45 = .ok (.i2l, 1) := by decide +kernel
theorem dX4_get_46 : decode cX4_get 46 = .ok (.lsub, 1) := by decide +kernel
theorem dX4_get_47 : decode cX4_get 47 = .ok (.lreturn, 1) := by decide +kernel
theorem dX4_get_48 : decode cX4_get 48 = .ok (.aload_n 0, 1) := by decide +kernel
theorem dX4_get_49 : decode cX4_get 49 = .ok (.getfield 37, 3) := by decide +kernel
theorem dX4_get_52 : decode cX4_get 52 = .ok (.iload_n 1, 1) := by decide +kernel
theorem dX4_get_53 : decode cX4_get 53 = .ok (.aaload, 1) := by decide +kernel
theorem dX4_get_54 : decode cX4_get 54 = .ok (.getfield 104, 3) := by decide +kernel
theorem dX4_get_57 : decode cX4_get 57 = .ok (.iload_n 3, 1) := by decide +kernel
theorem dX4_get_58 : decode cX4_get 58 = .ok (.laload, 1) := by decide +kernel
theorem dX4_get_59 : decode cX4_get 59 = .ok (.lreturn, 1) := by decide +kernel
theorem dX4_copy_0 : decode cX4_copy 0 = .ok (.iload_n 1, 1) := by decide +kernel
theorem dX4_copy_1 : decode cX4_copy 1 = .ok (.invokestatic 87, 3) := by decide +kernel
theorem dX4_copy_4 : decode cX4_copy 4 = .ok (.ifCond .eq 10, 3) := by decide +kernel
theorem dX4_copy_7 : decode cX4_copy 7 = .ok (.iload_n 3, 1) := by decide +kernel
theorem dX4_copy_8 : decode cX4_copy 8 = .ok (.invokestatic 87, 3) := by decide +kernel
theorem dX4_copy_11 : decode cX4_copy 11 = .ok (.ifCond .ne 6, 3) := by decide +kernel
theorem dX4_copy_14 : decode cX4_copy 14 = .ok (.bipush (-2), 2) := by decide +kernel
theorem dX4_copy_16 : decode cX4_copy 16 = .ok (.ireturn, 1) := by decide +kernel
theorem dX4_copy_17 : decode cX4_copy 17 = .ok (.aload_n 0, 1) := by decide +kernel
theorem dX4_copy_18 : decode cX4_copy 18 = .ok (.getfield 37, 3) := by decide +kernel
theorem dX4_copy_21 : decode cX4_copy 21 = .ok (.iload_n 1, 1) := by decide +kernel
theorem dX4_copy_22 : decode cX4_copy 22 = .ok (.aaload, 1) := by decide +kernel
theorem dX4_copy_23 : decode cX4_copy 23 = .ok (.astore 6, 2) := by decide +kernel
theorem dX4_copy_25 : decode cX4_copy 25 = .ok (.aload_n 0, 1) := by decide +kernel
theorem dX4_copy_26 : decode cX4_copy 26 = .ok (.getfield 37, 3) := by decide +kernel
theorem dX4_copy_29 : decode cX4_copy 29 = .ok (.iload_n 3, 1) := by decide +kernel
theorem dX4_copy_30 : decode cX4_copy 30 = .ok (.aaload, 1) := by decide +kernel
theorem dX4_copy_31 : decode cX4_copy 31 = .ok (.astore 7, 2) := by decide +kernel
theorem dX4_copy_33 : decode cX4_copy 33 = .ok (.aload 6, 2) := by decide +kernel
theorem dX4_copy_35 : decode cX4_copy 35 = .ok (.getfield 90, 3) := by decide +kernel
theorem dX4_copy_38 : decode cX4_copy 38 = .ok (.ifCond .ne 11, 3) := by decide +kernel
theorem dX4_copy_41 : decode cX4_copy 41 = .ok (.aload 7, 2) := by decide +kernel
theorem dX4_copy_43 : decode cX4_copy 43 = .ok (.getfield 90, 3) := by decide +kernel
theorem dX4_copy_46 : decode cX4_copy 46 = .ok (.ifCond .eq 9, 3) := by decide +kernel
theorem dX4_copy_49 : decode cX4_copy 49 = .ok (.aload_n 0, 1) := by decide +kernel
theorem dX4_copy_50 : decode cX4_copy 50 = .ok (.iconst 1, 1) := by decide +kernel
theorem dX4_copy_51 : decode cX4_copy 51 = .ok (.invokevirtual 93, 3) := by decide +kernel
theorem dX4_copy_54 : decode cX4_copy 54 = .ok (.ireturn, 1) := by decide +kernel
theorem dX4_copy_55 : decode cX4_copy 55 = .ok (.aload 6, 2) := by decide +kernel
theorem dX4_copy_57 : decode cX4_copy 57 = .ok (.getfield 178, 3) := by decide +kernel
theorem dX4_copy_60 : decode cX4_copy 60 = .ok (.aload 7, 2) := by decide +kernel
theorem dX4_copy_62 : decode cX4_copy 62 = .ok (.getfield 178, 3) := by decide +kernel
theorem dX4_copy_65 : decode cX4_copy 65 = .ok (.if_icmp .eq 9, 3) := by decide +kernel
theorem dX4_copy_68 : decode cX4_copy 68 = .ok (.aload_n 0, 1) := by decide +kernel
theorem dX4_copy_69 : decode cX4_copy 69 = .ok (.iconst 4, 1) := by decide +kernel
theorem dX4_copy_70 : decode cX4_copy 70 = .ok (.invokevirtual 93, 3) := by decide +kernel
theorem dX4_copy_73 : decode cX4_copy 73 = .ok (.ireturn, 1) := by decide +kernel
theorem dX4_copy_74 : decode cX4_copy 74 = .ok (.aload 6, 2) := by decide +kernel
theorem dX4_copy_76 : decode cX4_copy 76 = .ok (.iload_n 2, 1) := by decide +kernel
theorem dX4_copy_77 : decode cX4_copy 77 = .ok (.iload 5, 2) := by decide +kernel
theorem dX4_copy_79 : decode cX4_copy 79 = .ok (.invokevirtual 181, 3) := by decide +kernel
theorem dX4_copy_82 : decode cX4_copy 82 = .ok (.ifCond .eq 15, 3) := by decide +kernel
theorem dX4_copy_85 : decode cX4_copy 85 = .ok (.aload 7, 2) := by decide +kernel
theorem dX4_copy_87 : decode cX4_copy 87 = .ok (.iload 4, 2) := by decide +kernel
theorem dX4_copy_89 : decode cX4_copy 89 = .ok (.iload 5, 2) := by decide +kernel
theorem dX4_copy_91 : decode cX4_copy 91 = .ok (.invokevirtual 181, 3) := by decide +kernel
theorem dX4_copy_94 : decode cX4_copy 94 = .ok (.ifCond .ne 9, 3) := by decide +kernel
theorem dX4_copy_97 : decode cX4_copy 97 = .ok (.aload_n 0, 1) := by decide +kernel
theorem dX4_copy_98 : decode cX4_copy 98 = .ok (.iconst 2, 1) := by decide +kernel
theorem dX4_copy_99 : decode cX4_copy 99 = .ok (.invokevirtual 93, 3) := by decide +kernel
theorem dX4_copy_102 : decode cX4_copy 102 = .ok (.ireturn, 1) := by decide +kernel
theorem dX4_copy_103 : decode cX4_copy 103 = .ok (.aload 6, 2) := by decide +kernel
theorem dX4_copy_105 : decode cX4_copy 105 = .ok (.getfield 104, 3) := by decide +kernel
theorem dX4_copy_108 : decode cX4_copy 108 = .ok (.iload_n 2, 1) := by decide +kernel
theorem dX4_copy_109 : decode cX4_copy 109 = .ok (.aload 7, 2) := by decide +kernel
theorem dX4_copy_111 : decode cX4_copy 111 = .ok (.getfield 104, 3) := by decide +kernel
theorem dX4_copy_114 : decode cX4_copy 114 = .ok (.iload 4, 2) := by decide +kernel
theorem dX4_copy_116 : decode cX4_copy 116 = .ok (.iload 5, 2) := by decide +kernel
theorem dX4_copy_118 : decode cX4_copy 118 = .ok (.invokestatic 185, 3) := by decide +kernel
theorem dX4_copy_121 : decode cX4_copy 121 = .ok (.iconst 1, 1) := by decide +kernel
theorem dX4_copy_122 : decode cX4_copy 122 = .ok (.ireturn, 1) := by decide +kernel
theorem dX4_write_0 : decode cX4_write 0 = .ok (.iload_n 1, 1) := by decide +kernel
theorem dX4_write_1 : decode cX4_write 1 = .ok (.invokestatic 87, 3) := by decide +kernel
theorem dX4_write_4 : decode cX4_write 4 = .ok (.ifCond .ne 6, 3) := by decide +kernel
theorem dX4_write_7 : decode cX4_write 7 = .ok (.bipush (-2), 2) := by decide +kernel
theorem dX4_write_9 : decode cX4_write 9 = .ok (.ireturn, 1) := by decide +kernel
theorem dX4_write_10 : decode cX4_write 10 = .ok (.aload_n 0, 1) := by decide +kernel
theorem dX4_write_11 : decode cX4_write 11 = .ok (.getfield 37, 3) := by decide +kernel
theorem dX4_write_14 : decode cX4_write 14 = .ok (.iload_n 1, 1) := by decide +kernel
theorem dX4_write_15 : decode cX4_write 15 = .ok (.aaload, 1) := by decide +kernel
theorem dX4_write_16 : decode cX4_write 16 = .ok (.astore_n 2, 1) := by decide +kernel
theorem dX4_write_17 : decode cX4_write 17 = .ok (.aload_n 2, 1) := by decide +kernel
theorem dX4_write_18 : decode cX4_write 18 = .ok (.getfield 90, 3) := by decide +kernel
theorem dX4_write_21 : decode cX4_write 21 = .ok (.ifCond .eq 9, 3) := by decide +kernel
theorem dX4_write_24 : decode cX4_write 24 = .ok (.aload_n 0, 1) := by decide +kernel
theorem dX4_write_25 : decode cX4_write 25 = .ok (.iconst 1, 1) := by decide +kernel
theorem dX4_write_26 : decode cX4_write 26 = .ok (.invokevirtual 93, 3) := by decide +kernel
theorem dX4_write_29 : decode cX4_write 29 = .ok (.ireturn, 1) := by decide +kernel
theorem dX4_write_30 : decode cX4_write 30 = .ok (.aload_n 0, 1) := by decide +kernel
theorem dX4_write_31 : decode cX4_write 31 = .ok (.getfield 21, 3) := by decide +kernel
theorem dX4_write_34 : decode cX4_write 34 = .ok (.invokevirtual 111, 3) := by decide +kernel
theorem dX4_write_37 : decode cX4_write 37 = .ok (.iconst 0, 1) := by decide +kernel
theorem dX4_write_38 : decode cX4_write 38 = .ok (.istore_n 3, 1) := by decide +kernel
theorem dX4_write_39 : decode cX4_write 39 = .ok (.iconst 0, 1) := by decide +kernel
theorem dX4_write_40 : decode cX4_write 40 = .ok (.istore 4, 2) := by decide +kernel
theorem dX4_write_42 : decode cX4_write 42 = .ok (.iload 4, 2) := by decide +kernel
theorem dX4_write_44 : decode cX4_write 44 = .ok (.bipush 9, 2) := by decide +kernel
theorem dX4_write_46 : decode cX4_write 46 = .ok (.if_icmp .ge 47, 3) := by decide +kernel
theorem dX4_write_49 : decode cX4_write 49 = .ok (.iload_n 3, 1) := by decide +kernel
theorem dX4_write_50 : decode cX4_write 50 = .ok (.aload_n 2, 1) := by decide +kernel
theorem dX4_write_51 : decode cX4_write 51 = .ok (.getfield 97, 3) := by decide +kernel
theorem dX4_write_54 : decode cX4_write 54 = .ok (.if_icmp .ge 39, 3) := by decide +kernel
theorem dX4_write_57 : decode cX4_write 57 = .ok (.aload_n 0, 1) := by decide +kernel
theorem dX4_write_58 : decode cX4_write 58 = .ok (.getfield 12, 3) := by decide +kernel
theorem dX4_write_61 : decode cX4_write 61 = .ok (.iload 4, 2) := by decide +kernel
theorem dX4_write_63 : decode cX4_write 63 = .ok (.invokevirtual 191, 3) := by decide +kernel
theorem dX4_write_66 : decode cX4_write 66 = .ok (.ifCond .eq 21, 3) := by decide +kernel
theorem dX4_write_69 : decode cX4_write 69 = .ok (.aload_n 2, 1) := by decide +kernel
theorem dX4_write_70 : decode cX4_write 70 = .ok (.iload_n 3, 1) := by decide +kernel
theorem dX4_write_71 : decode cX4_write 71 = .ok (.aload_n 0, 1) := by decide +kernel
theorem dX4_write_72 : decode cX4_write 72 = .ok (.getfield 21, 3) := by decide +kernel
theorem dX4_write_75 : decode cX4_write 75 = .ok (.iload 4, 2) := by decide +kernel
theorem dX4_write_77 : decode cX4_write 77 = .ok (.invokevirtual 120, 3) := by decide +kernel
theorem dX4_write_80 : decode cX4_write 80 = .ok (.i2l, 1) := by decide +kernel
theorem dX4_write_81 : decode cX4_write 81 = .ok (.invokevirtual 170, 3) := by decide +kernel
theorem dX4_write_84 : decode cX4_write 84 = .ok (.iinc 3 1, 3) := by decide +kernel
theorem dX4_write_87 : decode cX4_write 87 = .ok (.iinc 4 1, 3) := by decide +kernel
theorem dX4_write_90 : decode cX4_write 90 = .ok (.goto (-48), 3) := by decide +kernel
theorem dX4_write_93 : decode cX4_write 93 = .ok (.iload_n 3, 1) := by decide +kernel
theorem dX4_write_94 : decode cX4_write 94 = .ok (.ireturn, 1) := by decide +kernel
theorem dX4_count_0 : decode cX4_count 0 = .ok (.iload_n 1, 1) := by decide +kernel
theorem dX4_count_1 : decode cX4_count 1 = .ok (.i2l, 1) := by decide +kernel
theorem dX4_count_2 : decode cX4_count 2 = .ok (.iconst 0, 1) := by decide +kernel
theorem dX4_count_3 : decode cX4_count 3 = .ok (.bipush 8, 2) := by decide +kernel
theorem dX4_count_5 : decode cX4_count 5 = .ok (.invokestatic 50, 3) := by decide +kernel
theorem dX4_count_8 : decode cX4_count 8 = .ok (.ifCond .ne 6, 3) := by decide +kernel
theorem dX4_count_11 : decode cX4_count 11 = .ok (.bipush (-2), 2) := by decide +kernel
theorem dX4_count_13 : decode cX4_count 13 = .ok (.ireturn, 1) := by decide +kernel
theorem dX4_count_14 : decode cX4_count 14 = .ok (.iload_n 1, 1) := by decide +kernel
theorem dX4_count_15 : decode cX4_count 15 = .ok (.iconst 1, 1) := by decide +kernel
theorem dX4_count_16 : decode cX4_count 16 = .ok (.if_icmp .eq 8, 3) := by decide +kernel
theorem dX4_count_19 : decode cX4_count 19 = .ok (.iload_n 1, 1) := by decide +kernel
theorem dX4_count_20 : decode cX4_count 20 = .ok (.iconst 2, 1) := by decide +kernel
theorem dX4_count_21 : decode cX4_count 21 = .ok (.if_icmp .ne 10, 3) := by decide +kernel
theorem dX4_count_24 : decode cX4_count 24 = .ok (.aload_n 0, 1) := by decide +kernel
theorem dX4_count_25 : decode cX4_count 25 = .ok (.getfield 21, 3) := by decide +kernel
theorem dX4_count_28 : decode cX4_count 28 = .ok (.invokevirtual 111, 3) := by decide +kernel
theorem dX4_count_31 : decode cX4_count 31 = .ok (.aload_n 0, 1) := by decide +kernel
theorem dX4_count_32 : decode cX4_count 32 = .ok (.iload_n 1, 1) := by decide +kernel
theorem dX4_count_33 : decode cX4_count 33 = .ok (.invokevirtual 194, 3) := by decide +kernel
theorem dX4_count_36 : decode cX4_count 36 = .ok (.ireturn, 1) := by decide +kernel
theorem dX4_digest_0 : decode cX4_digest 0 = .ok (.aload_n 0, 1) := by decide +kernel
theorem dX4_digest_1 : decode cX4_digest 1 = .ok (.getfield 21, 3) := by decide +kernel
theorem dX4_digest_4 : decode cX4_digest 4 = .ok (.invokevirtual 111, 3) := by decide +kernel
theorem dX4_digest_7 : decode cX4_digest 7 = .ok (.ldc2_w 197, 3) := by decide +kernel
theorem dX4_digest_10 : decode cX4_digest 10 = .ok (.lstore_n 1, 1) := by decide +kernel
theorem dX4_digest_11 : decode cX4_digest 11 = .ok (.iconst 0, 1) := by decide +kernel
theorem dX4_digest_12 : decode cX4_digest 12 = .ok (.istore_n 3, 1) := by decide +kernel
theorem dX4_digest_13 : decode cX4_digest 13 = .ok (.iload_n 3, 1) := by decide +kernel
theorem dX4_digest_14 : decode cX4_digest 14 = .ok (.bipush 7, 2) := by decide +kernel
theorem dX4_digest_16 : decode cX4_digest 16 = .ok (.if_icmp .gt 22, 3) := by decide +kernel
theorem dX4_digest_19 : decode cX4_digest 19 = .ok (.ldc2_w 199, 3) := by decide +kernel
theorem dX4_digest_22 : decode cX4_digest 22 = .ok (.lload_n 1, 1) := by decide +kernel
theorem dX4_digest_23 : decode cX4_digest 23 = .ok (.lmul, 1) := by decide +kernel
theorem dX4_digest_24 : decode cX4_digest 24 = .ok (.aload_n 0, 1) := by decide +kernel
theorem dX4_digest_25 : decode cX4_digest 25 = .ok (.iload_n 3, 1) := by decide +kernel
theorem dX4_digest_26 : decode cX4_digest 26 = .ok (.invokevirtual 194, 3) := by decide +kernel
theorem dX4_digest_29 : decode cX4_digest 29 = .ok (.i2l, 1) := by decide +kernel
theorem dX4_digest_30 : decode cX4_digest 30 = .ok (.ladd, 1) := by decide +kernel
theorem dX4_digest_31 : decode cX4_digest 31 = .ok (.lstore_n 1, 1) := by decide +kernel
theorem dX4_digest_32 : decode cX4_digest 32 = .ok (.iinc 3 1, 3) := by decide +kernel
theorem dX4_digest_35 : decode cX4_digest 35 = .ok (.goto (-22), 3) := by decide +kernel
theorem dX4_digest_38 : decode cX4_digest 38 = .ok (.ldc2_w 199, 3) := by decide +kernel
theorem dX4_digest_41 : decode cX4_digest 41 = .ok (.lload_n 1, 1) := by decide +kernel
theorem dX4_digest_42 : decode cX4_digest 42 = .ok (.lmul, 1) := by decide +kernel
theorem dX4_digest_43 : decode cX4_digest 43 = .ok (.aload_n 0, 1) := by decide +kernel
theorem dX4_digest_44 : decode cX4_digest 44 = .ok (.getfield 21, 3) := by decide +kernel
theorem dX4_digest_47 : decode cX4_digest 47 = .ok (.getfield 129, 3) := by decide +kernel
theorem dX4_digest_50 : decode cX4_digest 50 = .ok (.i2l, 1) := by decide +kernel
theorem dX4_digest_51 : decode cX4_digest 51 = .ok (.ladd, 1) := by decide +kernel
theorem dX4_digest_52 : decode cX4_digest 52 = .ok (.lstore_n 1, 1) := by decide +kernel
theorem dX4_digest_53 : decode cX4_digest 53 = .ok (.ldc2_w 199, 3) := by decide +kernel
theorem dX4_digest_56 : decode cX4_digest 56 = .ok (.lload_n 1, 1) := by decide +kernel
theorem dX4_digest_57 : decode cX4_digest 57 = .ok (.lmul, 1) := by decide +kernel
theorem dX4_digest_58 : decode cX4_digest 58 = .ok (.aload_n 0, 1) := by decide +kernel
theorem dX4_digest_59 : decode cX4_digest 59 = .ok (.getfield 21, 3) := by decide +kernel
theorem dX4_digest_62 : decode cX4_digest 62 = .ok (.invokevirtual 135, 3) := by decide +kernel
theorem dX4_digest_65 : decode cX4_digest 65 = .ok (.i2l, 1) := by decide +kernel
theorem dX4_digest_66 : decode cX4_digest 66 = .ok (.ladd, 1) := by decide +kernel
theorem dX4_digest_67 : decode cX4_digest 67 = .ok (.lstore_n 1, 1) := by decide +kernel
theorem dX4_digest_68 : decode cX4_digest 68 = .ok (.iconst 0, 1) := by decide +kernel
theorem dX4_digest_69 : decode cX4_digest 69 = .ok (.istore_n 3, 1) := by decide +kernel
theorem dX4_digest_70 : decode cX4_digest 70 = .ok (.iload_n 3, 1) := by decide +kernel
theorem dX4_digest_71 : decode cX4_digest 71 = .ok (.iconst 3, 1) := by decide +kernel
theorem dX4_digest_72 : decode cX4_digest 72 = .ok (.if_icmp .ge 39, 3) := by decide +kernel
theorem dX4_digest_75 : decode cX4_digest 75 = .ok (.iconst 0, 1) := by decide +kernel
theorem dX4_digest_76 : decode cX4_digest 76 = .ok (.istore 4, 2) := by decide +kernel
theorem dX4_digest_78 : decode cX4_digest 78 = .ok (.iload 4, 2) := by decide +kernel
theorem dX4_digest_80 : decode cX4_digest 80 = .ok (.iconst 5, 1) := by decide +kernel
theorem dX4_digest_81 : decode cX4_digest 81 = .ok (.if_icmp .gt 24, 3) := by decide +kernel
theorem dX4_digest_84 : decode cX4_digest 84 = .ok (.ldc2_w 199, 3) := by decide +kernel
theorem dX4_digest_87 : decode cX4_digest 87 = .ok (.lload_n 1, 1) := by decide +kernel
theorem dX4_digest_88 : decode cX4_digest 88 = .ok (.lmul, 1) := by decide +kernel
theorem dX4_digest_89 : decode cX4_digest 89 = .ok (.aload_n 0, 1) := by decide +kernel
theorem dX4_digest_90 : decode cX4_digest 90 = .ok (.iload_n 3, 1) := by decide +kernel
theorem dX4_digest_91 : decode cX4_digest 91 = .ok (.iload 4, 2) := by decide +kernel
theorem dX4_digest_93 : decode cX4_digest 93 = .ok (.invokevirtual 108, 3) := by decide +kernel
theorem dX4_digest_96 : decode cX4_digest 96 = .ok (.i2l, 1) := by decide +kernel
theorem dX4_digest_97 : decode cX4_digest 97 = .ok (.ladd, 1) := by decide +kernel
theorem dX4_digest_98 : decode cX4_digest 98 = .ok (.lstore_n 1, 1) := by decide +kernel
theorem dX4_digest_99 : decode cX4_digest 99 = .ok (.iinc 4 1, 3) := by decide +kernel
theorem dX4_digest_102 : decode cX4_digest 102 = .ok (.goto (-24), 3) := by decide +kernel
theorem dX4_digest_105 : decode cX4_digest 105 = .ok (.iinc 3 1, 3) := by decide +kernel
theorem dX4_digest_108 : decode cX4_digest 108 = .ok (.goto (-38), 3) := by decide +kernel
theorem dX4_digest_111 : decode cX4_digest 111 = .ok (.iconst 0, 1) := by decide +kernel
theorem dX4_digest_112 : decode cX4_digest 112 = .ok (.istore_n 3, 1) := by decide +kernel
theorem dX4_digest_113 : decode cX4_digest 113 = .ok (.iload_n 3, 1) := by decide +kernel
theorem dX4_digest_114 : decode cX4_digest 114 = .ok (.bipush 9, 2) := by decide +kernel
theorem dX4_digest_116 : decode cX4_digest 116 = .ok (.if_icmp .ge 27, 3) := by decide +kernel
theorem dX4_digest_119 : decode cX4_digest 119 = .ok (.aload_n 0, 1) := by decide +kernel
theorem dX4_digest_120 : decode cX4_digest 120 = .ok (.getfield 12, 3) := by decide +kernel
theorem dX4_digest_123 : decode cX4_digest 123 = .ok (.iload_n 3, 1) := by decide +kernel
theorem dX4_digest_124 : decode cX4_digest 124 = .ok (.invokevirtual 191, 3) := by decide +kernel
theorem dX4_digest_127 : decode cX4_digest 127 = .ok (.ifCond .eq 10, 3) := by decide +kernel
theorem dX4_digest_130 : decode cX4_digest 130 = .ok (.aload_n 0, 1) := by decide +kernel
theorem dX4_digest_131 : decode cX4_digest 131 = .ok (.lload_n 1, 1) := by decide +kernel
theorem dX4_digest_132 : decode cX4_digest 132 = .ok (.iload_n 3, 1) := by decide +kernel
theorem dX4_digest_133 : decode cX4_digest 133 = .ok (.invokevirtual 201, 3) := by decide +kernel
theorem dX4_digest_136 : decode cX4_digest 136 = .ok (.lstore_n 1, 1) := by decide +kernel
theorem dX4_digest_137 : decode cX4_digest 137 = .ok (.iinc 3 1, 3) := by decide +kernel
theorem dX4_digest_140 : decode cX4_digest 140 = .ok (.goto (-27), 3) := by decide +kernel
theorem dX4_digest_143 : decode cX4_digest 143 = .ok (.iconst 0, 1) := by decide +kernel
theorem dX4_digest_144 : decode cX4_digest 144 = .ok (.istore_n 3, 1) := by decide +kernel
theorem dX4_digest_145 : decode cX4_digest 145 = .ok (.iload_n 3, 1) := by decide +kernel
theorem dX4_digest_146 : decode cX4_digest 146 = .ok (.bipush 60, 2) := by decide +kernel
theorem dX4_digest_148 : decode cX4_digest 148 = .ok (.if_icmp .ge 47, 3) := by decide +kernel
theorem dX4_digest_151 : decode cX4_digest 151 = .ok (.ldc2_w 199, 3) := by decide +kernel
theorem dX4_digest_154 : decode cX4_digest 154 = .ok (.lload_n 1, 1) := by decide +kernel
theorem dX4_digest_155 : decode cX4_digest 155 = .ok (.lmul, 1) := by decide +kernel
theorem dX4_digest_156 : decode cX4_digest 156 = .ok (.aload_n 0, 1) := by decide +kernel
theorem dX4_digest_157 : decode cX4_digest 157 = .ok (.getfield 31, 3) := by decide +kernel
theorem dX4_digest_160 : decode cX4_digest 160 = .ok (.getfield 155, 3) := by decide +kernel
theorem dX4_digest_163 : decode cX4_digest 163 = .ok (.iconst 0, 1) := by decide +kernel
theorem dX4_digest_164 : decode cX4_digest 164 = .ok (.aaload, 1) := by decide +kernel
theorem dX4_digest_165 : decode cX4_digest 165 = .ok (.iload_n 3, 1) := by decide +kernel
theorem dX4_digest_166 : decode cX4_digest 166 = .ok (.iaload, 1) := by decide +kernel
theorem dX4_digest_167 : decode cX4_digest 167 = .ok (.i2l, 1) := by decide +kernel
theorem dX4_digest_168 : decode cX4_digest 168 = .ok (.ladd, 1) := by decide +kernel
theorem dX4_digest_169 : decode cX4_digest 169 = .ok (.lstore_n 1, 1) := by decide +kernel
theorem dX4_digest_170 : decode cX4_digest 170 = .ok (.ldc2_w 199, 3) := by decide +kernel
theorem dX4_digest_173 : decode cX4_digest 173 = .ok (.lload_n 1, 1) := by decide +kernel
theorem dX4_digest_174 : decode cX4_digest 174 = .ok (.lmul, 1) := by decide +kernel
theorem dX4_digest_175 : decode cX4_digest 175 = .ok (.aload_n 0, 1) := by decide +kernel
theorem dX4_digest_176 : decode cX4_digest 176 = .ok (.getfield 31, 3) := by decide +kernel
theorem dX4_digest_179 : decode cX4_digest 179 = .ok (.getfield 155, 3) := by decide +kernel
theorem dX4_digest_182 : decode cX4_digest 182 = .ok (.iconst 1, 1) := by decide +kernel
theorem dX4_digest_183 : decode cX4_digest 183 = .ok (.aaload, 1) := by decide +kernel
theorem dX4_digest_184 : decode cX4_digest 184 = .ok (.iload_n 3, 1) := by decide +kernel
theorem dX4_digest_185 : decode cX4_digest 185 = .ok (.iaload, 1) := by decide +kernel
theorem dX4_digest_186 : decode cX4_digest 186 = .ok (.i2l, 1) := by decide +kernel
theorem dX4_digest_187 : decode cX4_digest 187 = .ok (.ladd, 1) := by decide +kernel
theorem dX4_digest_188 : decode cX4_digest 188 = .ok (.lstore_n 1, 1) := by decide +kernel
theorem dX4_digest_189 : decode cX4_digest 189 = .ok (.iinc 3 1, 3) := by decide +kernel
theorem dX4_digest_192 : decode cX4_digest 192 = .ok (.goto (-47), 3) := by decide +kernel
theorem dX4_digest_195 : decode cX4_digest 195 = .ok (.lload_n 1, 1) := by decide +kernel
theorem dX4_digest_196 : decode cX4_digest 196 = .ok (.lreturn, 1) := by decide +kernel
theorem dX4_within_0 : decode cX4_within 0 = .ok (.lload_n 0, 1) := by decide +kernel
theorem dX4_within_1 : decode cX4_within 1 = .ok (.iload_n 2, 1) := by decide +kernel
theorem dX4_within_2 : decode cX4_within 2 = .ok (.i2l, 1) := by decide +kernel
theorem dX4_within_3 : decode cX4_within 3 = .ok (.lcmp, 1) := by decide +kernel
theorem dX4_within_4 : decode cX4_within 4 = .ok (.ifCond .lt 14, 3) := by decide +kernel
theorem dX4_within_7 : decode cX4_within 7 = .ok (.lload_n 0, 1) := by decide +kernel
theorem dX4_within_8 : decode cX4_within 8 = .ok (.iload_n 3, 1) := by decide +kernel
theorem dX4_within_9 : decode cX4_within 9 = .ok (.i2l, 1) := by decide +kernel
theorem dX4_within_10 : decode cX4_within 10 = .ok (.lcmp, 1) := by decide +kernel
theorem dX4_within_11 : decode cX4_within 11 = .ok (.ifCond .gt 7, 3) := by decide +kernel
theorem dX4_within_14 : decode cX4_within 14 = .ok (.iconst 1, 1) := by decide +kernel
theorem dX4_within_15 : decode cX4_within 15 = .ok (.goto 4, 3) := by decide +kernel
theorem dX4_within_18 : decode cX4_within 18 = .ok (.iconst 0, 1) := by decide +kernel
theorem dX4_within_19 : decode cX4_within 19 = .ok (.ireturn, 1) := by decide +kernel
theorem dX4_isChain_0 : decode cX4_isChain 0 = .ok (.iload_n 0, 1) := by decide +kernel
theorem dX4_isChain_1 : decode cX4_isChain 1 = .ok (.i2l, 1) := by decide +kernel
theorem dX4_isChain_2 : decode cX4_isChain 2 = .ok (.iconst 0, 1) := by decide +kernel
theorem dX4_isChain_3 : decode cX4_isChain 3 = .ok (.iconst 2, 1) := by decide +kernel
theorem dX4_isChain_4 : decode cX4_isChain 4 = .ok (.invokestatic 50, 3) := by decide +kernel
theorem dX4_isChain_7 : decode cX4_isChain 7 = .ok (.ireturn, 1) := by decide +kernel
theorem dX4_isSheet_0 : decode cX4_isSheet 0 = .ok (.iload_n 0, 1) := by decide +kernel
theorem dX4_isSheet_1 : decode cX4_isSheet 1 = .ok (.i2l, 1) := by decide +kernel
theorem dX4_isSheet_2 : decode cX4_isSheet 2 = .ok (.iconst 0, 1) := by decide +kernel
theorem dX4_isSheet_3 : decode cX4_isSheet 3 = .ok (.iconst 3, 1) := by decide +kernel
theorem dX4_isSheet_4 : decode cX4_isSheet 4 = .ok (.invokestatic 50, 3) := by decide +kernel
theorem dX4_isSheet_7 : decode cX4_isSheet 7 = .ok (.ireturn, 1) := by decide +kernel
theorem dX4_isForm_0 : decode cX4_isForm 0 = .ok (.iload_n 0, 1) := by decide +kernel
theorem dX4_isForm_1 : decode cX4_isForm 1 = .ok (.i2l, 1) := by decide +kernel
theorem dX4_isForm_2 : decode cX4_isForm 2 = .ok (.iconst 0, 1) := by decide +kernel
theorem dX4_isForm_3 : decode cX4_isForm 3 = .ok (.iconst 2, 1) := by decide +kernel
theorem dX4_isForm_4 : decode cX4_isForm 4 = .ok (.invokestatic 50, 3) := by decide +kernel
theorem dX4_isForm_7 : decode cX4_isForm 7 = .ok (.ireturn, 1) := by decide +kernel
theorem dX4_isMark_0 : decode cX4_isMark 0 = .ok (.lload_n 1, 1) := by decide +kernel
theorem dX4_isMark_1 : decode cX4_isMark 1 = .ok (.getstatic 205, 3) := by decide +kernel
theorem dX4_isMark_4 : decode cX4_isMark 4 = .ok (.iload_n 0, 1) := by decide +kernel
theorem dX4_isMark_5 : decode cX4_isMark 5 = .ok (.iaload, 1) := by decide +kernel
theorem dX4_isMark_6 : decode cX4_isMark 6 = .ok (.getstatic 208, 3) := by decide +kernel
theorem dX4_isMark_9 : decode cX4_isMark 9 = .ok (.iload_n 0, 1) := by decide +kernel
theorem dX4_isMark_10 : decode cX4_isMark 10 = .ok (.iaload, 1) := by decide +kernel
theorem dX4_isMark_11 : decode cX4_isMark 11 = .ok (.invokestatic 50, 3) := by decide +kernel
theorem dX4_isMark_14 : decode cX4_isMark 14 = .ok (.ireturn, 1) := by decide +kernel
theorem dX4_holdsStep_0 : decode cX4_holdsStep 0 = .ok (.iconst 0, 1) := by decide +kernel
theorem dX4_holdsStep_1 : decode cX4_holdsStep 1 = .ok (.istore_n 2, 1) := by decide +kernel
theorem dX4_holdsStep_2 : decode cX4_holdsStep 2 = .ok (.iload_n 2, 1) := by decide +kernel
theorem dX4_holdsStep_3 : decode cX4_holdsStep 3 = .ok (.iconst 4, 1) := by decide +kernel
theorem dX4_holdsStep_4 : decode cX4_holdsStep 4 = .ok (.if_icmp .ge 26, 3) := by decide +kernel
theorem dX4_holdsStep_7 : decode cX4_holdsStep 7 = .ok (.iload_n 2, 1) := by decide +kernel
theorem dX4_holdsStep_8 : decode cX4_holdsStep 8 = .ok (.aload_n 0, 1) := by decide +kernel
theorem dX4_holdsStep_9 : decode cX4_holdsStep 9 = .ok (.getfield 104, 3) := by decide +kernel
theorem dX4_holdsStep_12 : decode cX4_holdsStep 12 = .ok (.iload_n 1, 1) := by decide +kernel
theorem dX4_holdsStep_13 : decode cX4_holdsStep 13 = .ok (.iload_n 2, 1) := by decide +kernel
theorem dX4_holdsStep_14 : decode cX4_holdsStep 14 = .ok (.iadd, 1) := by decide +kernel
theorem dX4_holdsStep_15 : decode cX4_holdsStep 15 = .ok (.laload, 1) := by decide +kernel
theorem dX4_holdsStep_16 : decode cX4_holdsStep 16 = .ok (.invokestatic 69, 3) := by decide +kernel
theorem dX4_holdsStep_19 : decode cX4_holdsStep 19 = .ok (.ifCond .ne 5, 3) := by decide +kernel
theorem dX4_holdsStep_22 : decode cX4_holdsStep 22 = .ok (.iconst 0, 1) := by decide +kernel
theorem dX4_holdsStep_23 : decode cX4_holdsStep 23 = .ok (.ireturn, 1) := by decide +kernel
theorem dX4_holdsStep_24 : decode cX4_holdsStep 24 = .ok (.iinc 2 1, 3) := by decide +kernel
theorem dX4_holdsStep_27 : decode cX4_holdsStep 27 = .ok (.goto (-25), 3) := by decide +kernel
theorem dX4_holdsStep_30 : decode cX4_holdsStep 30 = .ok (.iconst 1, 1) := by decide +kernel
theorem dX4_holdsStep_31 : decode cX4_holdsStep 31 = .ok (.ireturn, 1) := by decide +kernel
theorem dX4_found_0 : decode cX4_found 0 = .ok (.aload_n 0, 1) := by decide +kernel
theorem dX4_found_1 : decode cX4_found 1 = .ok (.iload_n 1, 1) := by decide +kernel
theorem dX4_found_2 : decode cX4_found 2 = .ok (.putfield 42, 3) := by decide +kernel
theorem dX4_found_5 : decode cX4_found 5 = .ok (.bipush (-10), 2) := by decide +kernel
theorem dX4_found_7 : decode cX4_found 7 = .ok (.iload_n 1, 1) := by decide +kernel
theorem dX4_found_8 : decode cX4_found 8 = .ok (.isub, 1) := by decide +kernel
theorem dX4_found_9 : decode cX4_found 9 = .ok (.ireturn, 1) := by decide +kernel
theorem dX4_traitOf_0 : decode cX4_traitOf 0 = .ok (.iload_n 2, 1) := by decide +kernel
theorem dX4_traitOf_1 : decode cX4_traitOf 1 = .ok (.iconst 5, 1) := by decide +kernel
theorem dX4_traitOf_2 : decode cX4_traitOf 2 = .ok (.if_icmp .ne 15, 3) := by decide +kernel
theorem dX4_traitOf_5 : decode cX4_traitOf 5 = .ok (.aload_n 0, 1) := by decide +kernel
theorem dX4_traitOf_6 : decode cX4_traitOf 6 = .ok (.getfield 12, 3) := by decide +kernel
theorem dX4_traitOf_9 : decode cX4_traitOf 9 = .ok (.getfield 73, 3) := by decide +kernel
theorem dX4_traitOf_12 : decode cX4_traitOf 12 = .ok (.iload_n 1, 1) := by decide +kernel
theorem dX4_traitOf_13 : decode cX4_traitOf 13 = .ok (.iaload, 1) := by decide +kernel
theorem dX4_traitOf_14 : decode cX4_traitOf 14 = .ok (.goto 14, 3) := by decide +kernel
theorem dX4_traitOf_17 : decode cX4_traitOf 17 = .ok (.aload_n 0, 1) := by decide +kernel
theorem dX4_traitOf_18 : decode cX4_traitOf 18 = .ok (.getfield 12, 3) := by decide +kernel
theorem dX4_traitOf_21 : decode cX4_traitOf 21 = .ok (.getfield 61, 3) := by decide +kernel
theorem dX4_traitOf_24 : decode cX4_traitOf 24 = .ok (.iload_n 2, 1) := by decide +kernel
theorem dX4_traitOf_25 : decode cX4_traitOf 25 = .ok (.aaload, 1) := by decide +kernel
theorem dX4_traitOf_26 : decode cX4_traitOf 26 = .ok (.iload_n 1, 1) := by decide +kernel
theorem dX4_traitOf_27 : decode cX4_traitOf 27 = .ok (.iaload, 1) := by decide +kernel
theorem dX4_traitOf_28 : decode cX4_traitOf 28 = .ok (.ireturn, 1) := by decide +kernel
theorem dX4_infoOf_0 : decode cX4_infoOf 0 = .ok (.iload_n 2, 1) := by decide +kernel
theorem dX4_infoOf_1 : decode cX4_infoOf 1 = .ok (.tableswitch 54 4 6 #[27, 36, 45], 27) := by decide +kernel
theorem dX4_infoOf_28 : decode cX4_infoOf 28 = .ok (.aload_n 0, 1) := by decide +kernel
theorem dX4_infoOf_29 : decode cX4_infoOf 29 = .ok (.getfield 12, 3) := by decide +kernel
theorem dX4_infoOf_32 : decode cX4_infoOf 32 = .ok (.iload_n 1, 1) := by decide +kernel
theorem dX4_infoOf_33 : decode cX4_infoOf 33 = .ok (.invokevirtual 211, 3) := by decide +kernel
theorem dX4_infoOf_36 : decode cX4_infoOf 36 = .ok (.ireturn, 1) := by decide +kernel
theorem dX4_infoOf_37 : decode cX4_infoOf 37 = .ok (.aload_n 0, 1) := by decide +kernel
theorem dX4_infoOf_38 : decode cX4_infoOf 38 = .ok (.getfield 21, 3) := by decide +kernel
theorem dX4_infoOf_41 : decode cX4_infoOf 41 = .ok (.iload_n 1, 1) := by decide +kernel
theorem dX4_infoOf_42 : decode cX4_infoOf 42 = .ok (.invokevirtual 214, 3) := by decide +kernel
theorem dX4_infoOf_45 : decode cX4_infoOf 45 = .ok (.ireturn, 1) := by decide +kernel
theorem dX4_infoOf_46 : decode cX4_infoOf 46 = .ok (.aload_n 0, 1) := by decide +kernel
theorem dX4_infoOf_47 : decode cX4_infoOf 47 = .ok (.getfield 12, 3) := by decide +kernel
theorem dX4_infoOf_50 : decode cX4_infoOf 50 = .ok (.iload_n 1, 1) := by decide +kernel
theorem dX4_infoOf_51 : decode cX4_infoOf 51 = .ok (.invokevirtual 217, 3) := by decide +kernel
theorem dX4_infoOf_54 : decode cX4_infoOf 54 = .ok (.ireturn, 1) := by decide +kernel
theorem dX4_infoOf_55 : decode cX4_infoOf 55 = .ok (.aload_n 0, 1) := by decide +kernel
theorem dX4_infoOf_56 : decode cX4_infoOf 56 = .ok (.getfield 12, 3) := by decide +kernel
theorem dX4_infoOf_59 : decode cX4_infoOf 59 = .ok (.getfield 84, 3) := by decide +kernel
theorem dX4_infoOf_62 : decode cX4_infoOf 62 = .ok (.iload_n 2, 1) := by decide +kernel
theorem dX4_infoOf_63 : decode cX4_infoOf 63 = .ok (.aaload, 1) := by decide +kernel
theorem dX4_infoOf_64 : decode cX4_infoOf 64 = .ok (.iload_n 1, 1) := by decide +kernel
theorem dX4_infoOf_65 : decode cX4_infoOf 65 = .ok (.iaload, 1) := by decide +kernel
theorem dX4_infoOf_66 : decode cX4_infoOf 66 = .ok (.ireturn, 1) := by decide +kernel
theorem dX4_countOf_0 : decode cX4_countOf 0 = .ok (.iload_n 1, 1) := by decide +kernel
theorem dX4_countOf_1 : decode cX4_countOf 1 = .ok (.tableswitch 127 0 7 #[47, 55, 72, 83, 91, 101, 111, 119], 47) := by decide +kernel
theorem dX4_countOf_48 : decode cX4_countOf 48 = .ok (.aload_n 0, 1) := by decide +kernel
theorem dX4_countOf_49 : decode cX4_countOf 49 = .ok (.getfield 12, 3) := by decide +kernel
theorem dX4_countOf_52 : decode cX4_countOf 52 = .ok (.invokevirtual 220, 3) := by decide +kernel
theorem dX4_countOf_55 : decode cX4_countOf 55 = .ok (.ireturn, 1) := by decide +kernel
theorem dX4_countOf_56 : decode cX4_countOf 56 = .ok (.aload_n 0, 1) := by decide +kernel
theorem dX4_countOf_57 : decode cX4_countOf 57 = .ok (.getfield 21, 3) := by decide +kernel
theorem dX4_countOf_60 : decode cX4_countOf 60 = .ok (.getfield 129, 3) := by decide +kernel
theorem dX4_countOf_63 : decode cX4_countOf 63 = .ok (.iconst (-1), 1) := by decide +kernel
theorem dX4_countOf_64 : decode cX4_countOf 64 = .ok (.if_icmp .ne 7, 3) := by decide +kernel
theorem dX4_countOf_67 : decode cX4_countOf 67 = .ok (.iconst 0, 1) := by decide +kernel
theorem dX4_countOf_68 : decode cX4_countOf 68 = .ok (.goto 4, 3) := by decide +kernel
theorem dX4_countOf_71 : decode cX4_countOf 71 = .ok (.iconst 1, 1) := by decide +kernel
theorem dX4_countOf_72 : decode cX4_countOf 72 = .ok (.ireturn, 1) := by decide +kernel
theorem dX4_countOf_73 : decode cX4_countOf 73 = .ok (.aload_n 0, 1) := by decide +kernel
theorem dX4_countOf_74 : decode cX4_countOf 74 = .ok (.getfield 21, 3) := by decide +kernel
theorem dX4_countOf_77 : decode cX4_countOf 77 = .ok (.invokevirtual 135, 3) := by decide +kernel
theorem dX4_countOf_80 : decode cX4_countOf 80 = .ok (.invokestatic 223, 3) := by decide +kernel
theorem dX4_countOf_83 : decode cX4_countOf 83 = .ok (.ireturn, 1) := by decide +kernel
theorem dX4_countOf_84 : decode cX4_countOf 84 = .ok (.aload_n 0, 1) := by decide +kernel
theorem dX4_countOf_85 : decode cX4_countOf 85 = .ok (.getfield 31, 3) := by decide +kernel
theorem dX4_countOf_88 : decode cX4_countOf 88 = .ok (.getfield 149, 3) := by decide +kernel
theorem dX4_countOf_91 : decode cX4_countOf 91 = .ok (.ireturn, 1) := by decide +kernel
theorem dX4_countOf_92 : decode cX4_countOf 92 = .ok (.aload_n 0, 1) := by decide +kernel
theorem dX4_countOf_93 : decode cX4_countOf 93 = .ok (.getfield 31, 3) := by decide +kernel
theorem dX4_countOf_96 : decode cX4_countOf 96 = .ok (.getfield 228, 3) := by decide +kernel
theorem dX4_countOf_99 : decode cX4_countOf 99 = .ok (.iconst 0, 1) := by decide +kernel
theorem dX4_countOf_100 : decode cX4_countOf 100 = .ok (.iaload, 1) := by decide +kernel
theorem dX4_countOf_101 : decode cX4_countOf 101 = .ok (.ireturn, 1) := by decide +kernel
theorem dX4_countOf_102 : decode cX4_countOf 102 = .ok (.aload_n 0, 1) := by decide +kernel
theorem dX4_countOf_103 : decode cX4_countOf 103 = .ok (.getfield 31, 3) := by decide +kernel
theorem dX4_countOf_106 : decode cX4_countOf 106 = .ok (.getfield 228, 3) := by decide +kernel
theorem dX4_countOf_109 : decode cX4_countOf 109 = .ok (.iconst 1, 1) := by decide +kernel
theorem dX4_countOf_110 : decode cX4_countOf 110 = .ok (.iaload, 1) := by decide +kernel
theorem dX4_countOf_111 : decode cX4_countOf 111 = .ok (.ireturn, 1) := by decide +kernel
theorem dX4_countOf_112 : decode cX4_countOf 112 = .ok (.aload_n 0, 1) := by decide +kernel
theorem dX4_countOf_113 : decode cX4_countOf 113 = .ok (.getfield 31, 3) := by decide +kernel
theorem dX4_countOf_116 : decode cX4_countOf 116 = .ok (.getfield 231, 3) := by decide +kernel
theorem dX4_countOf_119 : decode cX4_countOf 119 = .ok (.ireturn, 1) := by decide +kernel
theorem dX4_countOf_120 : decode cX4_countOf 120 = .ok (.aload_n 0, 1) := by decide +kernel
theorem dX4_countOf_121 : decode cX4_countOf 121 = .ok (.getfield 12, 3) := by decide +kernel
theorem dX4_countOf_124 : decode cX4_countOf 124 = .ok (.invokevirtual 234, 3) := by decide +kernel
theorem dX4_countOf_127 : decode cX4_countOf 127 = .ok (.ireturn, 1) := by decide +kernel
theorem dX4_countOf_128 : decode cX4_countOf 128 = .ok (.aload_n 0, 1) := by decide +kernel
theorem dX4_countOf_129 : decode cX4_countOf 129 = .ok (.getfield 42, 3) := by decide +kernel
theorem dX4_countOf_132 : decode cX4_countOf 132 = .ok (.ireturn, 1) := by decide +kernel
theorem dX4_withStep_0 : decode cX4_withStep 0 = .ok (.lload_n 1, 1) := by decide +kernel
theorem dX4_withStep_1 : decode cX4_withStep 1 = .ok (.lstore 4, 2) := by decide +kernel
theorem dX4_withStep_3 : decode cX4_withStep 3 = .ok (.iconst 0, 1) := by decide +kernel
theorem dX4_withStep_4 : decode cX4_withStep 4 = .ok (.istore 6, 2) := by decide +kernel
theorem dX4_withStep_6 : decode cX4_withStep 6 = .ok (.iload 6, 2) := by decide +kernel
theorem dX4_withStep_8 : decode cX4_withStep 8 = .ok (.bipush 6, 2) := by decide +kernel
theorem dX4_withStep_10 : decode cX4_withStep 10 = .ok (.if_icmp .gt 26, 3) := by decide +kernel
theorem dX4_withStep_13 : decode cX4_withStep 13 = .ok (.ldc2_w 199, 3) := by decide +kernel
theorem dX4_withStep_16 : decode cX4_withStep 16 = .ok (.lload 4, 2) := by decide +kernel
theorem dX4_withStep_18 : decode cX4_withStep 18 = .ok (.lmul, 1) := by decide +kernel
theorem dX4_withStep_19 : decode cX4_withStep 19 = .ok (.aload_n 0, 1) := by decide +kernel
theorem dX4_withStep_20 : decode cX4_withStep 20 = .ok (.iload_n 3, 1) := by decide +kernel
theorem dX4_withStep_21 : decode cX4_withStep 21 = .ok (.iload 6, 2) := by decide +kernel
theorem dX4_withStep_23 : decode cX4_withStep 23 = .ok (.invokevirtual 114, 3) := by decide +kernel
theorem dX4_withStep_26 : decode cX4_withStep 26 = .ok (.i2l, 1) := by decide +kernel
theorem dX4_withStep_27 : decode cX4_withStep 27 = .ok (.ladd, 1) := by decide +kernel
theorem dX4_withStep_28 : decode cX4_withStep 28 = .ok (.lstore 4, 2) := by decide +kernel
theorem dX4_withStep_30 : decode cX4_withStep 30 = .ok (.iinc 6 1, 3) := by decide +kernel
theorem dX4_withStep_33 : decode cX4_withStep 33 = .ok (.goto (-27), 3) := by decide +kernel
theorem dX4_withStep_36 : decode cX4_withStep 36 = .ok (.ldc2_w 199, 3) := by decide +kernel
theorem dX4_withStep_39 : decode cX4_withStep 39 = .ok (.lload 4, 2) := by decide +kernel
theorem dX4_withStep_41 : decode cX4_withStep 41 = .ok (.lmul, 1) := by decide +kernel
theorem dX4_withStep_42 : decode cX4_withStep 42 = .ok (.aload_n 0, 1) := by decide +kernel
theorem dX4_withStep_43 : decode cX4_withStep 43 = .ok (.getfield 12, 3) := by decide +kernel
theorem dX4_withStep_46 : decode cX4_withStep 46 = .ok (.iload_n 3, 1) := by decide +kernel
theorem dX4_withStep_47 : decode cX4_withStep 47 = .ok (.iconst 0, 1) := by decide +kernel
theorem dX4_withStep_48 : decode cX4_withStep 48 = .ok (.invokevirtual 117, 3) := by decide +kernel
theorem dX4_withStep_51 : decode cX4_withStep 51 = .ok (.i2l, 1) := by decide +kernel
theorem dX4_withStep_52 : decode cX4_withStep 52 = .ok (.ladd, 1) := by decide +kernel
theorem dX4_withStep_53 : decode cX4_withStep 53 = .ok (.lstore 4, 2) := by decide +kernel
theorem dX4_withStep_55 : decode cX4_withStep 55 = .ok (.ldc2_w 199, 3) := by decide +kernel
theorem dX4_withStep_58 : decode cX4_withStep 58 = .ok (.lload 4, 2) := by decide +kernel
theorem dX4_withStep_60 : decode cX4_withStep 60 = .ok (.lmul, 1) := by decide +kernel
theorem dX4_withStep_61 : decode cX4_withStep 61 = .ok (.aload_n 0, 1) := by decide +kernel
theorem dX4_withStep_62 : decode cX4_withStep 62 = .ok (.getfield 12, 3) := by decide +kernel
theorem dX4_withStep_65 : decode cX4_withStep 65 = .ok (.iload_n 3, 1) := by decide +kernel
theorem dX4_withStep_66 : decode cX4_withStep 66 = .ok (.iconst 1, 1) := by decide +kernel
theorem dX4_withStep_67 : decode cX4_withStep 67 = .ok (.invokevirtual 117, 3) := by decide +kernel
theorem dX4_withStep_70 : decode cX4_withStep 70 = .ok (.i2l, 1) := by decide +kernel
theorem dX4_withStep_71 : decode cX4_withStep 71 = .ok (.ladd, 1) := by decide +kernel
theorem dX4_withStep_72 : decode cX4_withStep 72 = .ok (.lstore 4, 2) := by decide +kernel
theorem dX4_withStep_74 : decode cX4_withStep 74 = .ok (.ldc2_w 199, 3) := by decide +kernel
theorem dX4_withStep_77 : decode cX4_withStep 77 = .ok (.lload 4, 2) := by decide +kernel
theorem dX4_withStep_79 : decode cX4_withStep 79 = .ok (.lmul, 1) := by decide +kernel
theorem dX4_withStep_80 : decode cX4_withStep 80 = .ok (.aload_n 0, 1) := by decide +kernel
theorem dX4_withStep_81 : decode cX4_withStep 81 = .ok (.getfield 21, 3) := by decide +kernel
theorem dX4_withStep_84 : decode cX4_withStep 84 = .ok (.iload_n 3, 1) := by decide +kernel
theorem dX4_withStep_85 : decode cX4_withStep 85 = .ok (.invokevirtual 120, 3) := by decide +kernel
theorem dX4_withStep_88 : decode cX4_withStep 88 = .ok (.i2l, 1) := by decide +kernel
theorem dX4_withStep_89 : decode cX4_withStep 89 = .ok (.ladd, 1) := by decide +kernel
theorem dX4_withStep_90 : decode cX4_withStep 90 = .ok (.lstore 4, 2) := by decide +kernel
theorem dX4_withStep_92 : decode cX4_withStep 92 = .ok (.ldc2_w 199, 3) := by decide +kernel
theorem dX4_withStep_95 : decode cX4_withStep 95 = .ok (.lload 4, 2) := by decide +kernel
theorem dX4_withStep_97 : decode cX4_withStep 97 = .ok (.lmul, 1) := by decide +kernel
theorem dX4_withStep_98 : decode cX4_withStep 98 = .ok (.aload_n 0, 1) := by decide +kernel
theorem dX4_withStep_99 : decode cX4_withStep 99 = .ok (.getfield 21, 3) := by decide +kernel
theorem dX4_withStep_102 : decode cX4_withStep 102 = .ok (.iload_n 3, 1) := by decide +kernel
theorem dX4_withStep_103 : decode cX4_withStep 103 = .ok (.invokevirtual 123, 3) := by decide +kernel
theorem dX4_withStep_106 : decode cX4_withStep 106 = .ok (.i2l, 1) := by decide +kernel
theorem dX4_withStep_107 : decode cX4_withStep 107 = .ok (.ladd, 1) := by decide +kernel
theorem dX4_withStep_108 : decode cX4_withStep 108 = .ok (.lstore 4, 2) := by decide +kernel
theorem dX4_withStep_110 : decode cX4_withStep 110 = .ok (.ldc2_w 199, 3) := by decide +kernel
theorem dX4_withStep_113 : decode cX4_withStep 113 = .ok (.lload 4, 2) := by decide +kernel
theorem dX4_withStep_115 : decode cX4_withStep 115 = .ok (.lmul, 1) := by decide +kernel
theorem dX4_withStep_116 : decode cX4_withStep 116 = .ok (.aload_n 0, 1) := by decide +kernel
theorem dX4_withStep_117 : decode cX4_withStep 117 = .ok (.getfield 21, 3) := by decide +kernel
theorem dX4_withStep_120 : decode cX4_withStep 120 = .ok (.iload_n 3, 1) := by decide +kernel
theorem dX4_withStep_121 : decode cX4_withStep 121 = .ok (.invokevirtual 126, 3) := by decide +kernel
theorem dX4_withStep_124 : decode cX4_withStep 124 = .ok (.i2l, 1) := by decide +kernel
theorem dX4_withStep_125 : decode cX4_withStep 125 = .ok (.ladd, 1) := by decide +kernel
theorem dX4_withStep_126 : decode cX4_withStep 126 = .ok (.lstore 4, 2) := by decide +kernel
theorem dX4_withStep_128 : decode cX4_withStep 128 = .ok (.iconst 0, 1) := by decide +kernel
theorem dX4_withStep_129 : decode cX4_withStep 129 = .ok (.istore 6, 2) := by decide +kernel
theorem dX4_withStep_131 : decode cX4_withStep 131 = .ok (.iload 6, 2) := by decide +kernel
theorem dX4_withStep_133 : decode cX4_withStep 133 = .ok (.iconst 2, 1) := by decide +kernel
theorem dX4_withStep_134 : decode cX4_withStep 134 = .ok (.if_icmp .gt 29, 3) := by decide +kernel
theorem dX4_withStep_137 : decode cX4_withStep 137 = .ok (.ldc2_w 199, 3) := by decide +kernel
theorem dX4_withStep_140 : decode cX4_withStep 140 = .ok (.lload 4, 2) := by decide +kernel
theorem dX4_withStep_142 : decode cX4_withStep 142 = .ok (.lmul, 1) := by decide +kernel
theorem dX4_withStep_143 : decode cX4_withStep 143 = .ok (.aload_n 0, 1) := by decide +kernel
theorem dX4_withStep_144 : decode cX4_withStep 144 = .ok (.getfield 21, 3) := by decide +kernel
theorem dX4_withStep_147 : decode cX4_withStep 147 = .ok (.iload_n 3, 1) := by decide +kernel
theorem dX4_withStep_148 : decode cX4_withStep 148 = .ok (.iload 6, 2) := by decide +kernel
theorem dX4_withStep_150 : decode cX4_withStep 150 = .ok (.invokevirtual 132, 3) := by decide +kernel
theorem dX4_withStep_153 : decode cX4_withStep 153 = .ok (.i2l, 1) := by decide +kernel
theorem dX4_withStep_154 : decode cX4_withStep 154 = .ok (.ladd, 1) := by decide +kernel
theorem dX4_withStep_155 : decode cX4_withStep 155 = .ok (.lstore 4, 2) := by decide +kernel
theorem dX4_withStep_157 : decode cX4_withStep 157 = .ok (.iinc 6 1, 3) := by decide +kernel
theorem dX4_withStep_160 : decode cX4_withStep 160 = .ok (.goto (-29), 3) := by decide +kernel
theorem dX4_withStep_163 : decode cX4_withStep 163 = .ok (.iconst 0, 1) := by decide +kernel
theorem dX4_withStep_164 : decode cX4_withStep 164 = .ok (.istore 6, 2) := by decide +kernel
theorem dX4_withStep_166 : decode cX4_withStep 166 = .ok (.iload 6, 2) := by decide +kernel
theorem dX4_withStep_168 : decode cX4_withStep 168 = .ok (.iconst 2, 1) := by decide +kernel
theorem dX4_withStep_169 : decode cX4_withStep 169 = .ok (.if_icmp .gt 29, 3) := by decide +kernel
theorem dX4_withStep_172 : decode cX4_withStep 172 = .ok (.ldc2_w 199, 3) := by decide +kernel
theorem dX4_withStep_175 : decode cX4_withStep 175 = .ok (.lload 4, 2) := by decide +kernel
theorem dX4_withStep_177 : decode cX4_withStep 177 = .ok (.lmul, 1) := by decide +kernel
theorem dX4_withStep_178 : decode cX4_withStep 178 = .ok (.aload_n 0, 1) := by decide +kernel
theorem dX4_withStep_179 : decode cX4_withStep 179 = .ok (.getfield 31, 3) := by decide +kernel
theorem dX4_withStep_182 : decode cX4_withStep 182 = .ok (.iload_n 3, 1) := by decide +kernel
theorem dX4_withStep_183 : decode cX4_withStep 183 = .ok (.iload 6, 2) := by decide +kernel
theorem dX4_withStep_185 : decode cX4_withStep 185 = .ok (.invokevirtual 152, 3) := by decide +kernel
theorem dX4_withStep_188 : decode cX4_withStep 188 = .ok (.i2l, 1) := by decide +kernel
theorem dX4_withStep_189 : decode cX4_withStep 189 = .ok (.ladd, 1) := by decide +kernel
theorem dX4_withStep_190 : decode cX4_withStep 190 = .ok (.lstore 4, 2) := by decide +kernel
theorem dX4_withStep_192 : decode cX4_withStep 192 = .ok (.iinc 6 1, 3) := by decide +kernel
theorem dX4_withStep_195 : decode cX4_withStep 195 = .ok (.goto (-29), 3) := by decide +kernel
theorem dX4_withStep_198 : decode cX4_withStep 198 = .ok (.lload 4, 2) := by decide +kernel
theorem dX4_withStep_200 : decode cX4_withStep 200 = .ok (.lreturn, 1) := by decide +kernel
theorem dX5_init_0 : decode cX5_init 0 = .ok (.aload_n 0, 1) := by decide +kernel
theorem dX5_init_1 : decode cX5_init 1 = .ok (.invokespecial 1, 3) := by decide +kernel
theorem dX5_init_4 : decode cX5_init 4 = .ok (.aload_n 0, 1) := by decide +kernel
theorem dX5_init_5 : decode cX5_init 5 = .ok (.iconst 4, 1) := by decide +kernel
theorem dX5_init_6 : decode cX5_init 6 = .ok (.newarray .int, 2) := by decide +kernel
theorem dX5_init_8 : decode cX5_init 8 = .ok (.putfield 7, 3) := by decide +kernel
theorem dX5_init_11 : decode cX5_init 11 = .ok (.aload_n 0, 1) := by decide +kernel
theorem dX5_init_12 : decode cX5_init 12 = .ok (.iconst 4, 1) := by decide +kernel
theorem dX5_init_13 : decode cX5_init 13 = .ok (.newarray .int, 2) := by decide +kernel
theorem dX5_init_15 : decode cX5_init 15 = .ok (.putfield 13, 3) := by decide +kernel
theorem dX5_init_18 : decode cX5_init 18 = .ok (.aload_n 0, 1) := by decide +kernel
theorem dX5_init_19 : decode cX5_init 19 = .ok (.sipush 240, 3) := by decide +kernel
theorem dX5_init_22 : decode cX5_init 22 = .ok (.newarray .long, 2) := by decide +kernel
theorem dX5_init_24 : decode cX5_init 24 = .ok (.putfield 16, 3) := by decide +kernel
theorem dX5_init_27 : decode cX5_init 27 = .ok (.aload_n 0, 1) := by decide +kernel
theorem dX5_init_28 : decode cX5_init 28 = .ok (.bipush 60, 2) := by decide +kernel
theorem dX5_init_30 : decode cX5_init 30 = .ok (.newarray .long, 2) := by decide +kernel
theorem dX5_init_32 : decode cX5_init 32 = .ok (.putfield 20, 3) := by decide +kernel
theorem dX5_init_35 : decode cX5_init 35 = .ok (.aload_n 0, 1) := by decide +kernel
theorem dX5_init_36 : decode cX5_init 36 = .ok (.iconst 3, 1) := by decide +kernel
theorem dX5_init_37 : decode cX5_init 37 = .ok (.newarray .int, 2) := by decide +kernel
theorem dX5_init_39 : decode cX5_init 39 = .ok (.putfield 23, 3) := by decide +kernel
theorem dX5_init_42 : decode cX5_init 42 = .ok (.aload_n 0, 1) := by decide +kernel
theorem dX5_init_43 : decode cX5_init 43 = .ok (.iconst 3, 1) := by decide +kernel
theorem dX5_init_44 : decode cX5_init 44 = .ok (.newarray .int, 2) := by decide +kernel
theorem dX5_init_46 : decode cX5_init 46 = .ok (.putfield 26, 3) := by decide +kernel
theorem dX5_init_49 : decode cX5_init 49 = .ok (.aload_n 0, 1) := by decide +kernel
theorem dX5_init_50 : decode cX5_init 50 = .ok (.iconst 3, 1) := by decide +kernel
theorem dX5_init_51 : decode cX5_init 51 = .ok (.newarray .int, 2) := by decide +kernel
theorem dX5_init_53 : decode cX5_init 53 = .ok (.putfield 29, 3) := by decide +kernel
theorem dX5_init_56 : decode cX5_init 56 = .ok (.aload_n 0, 1) := by decide +kernel
theorem dX5_init_57 : decode cX5_init 57 = .ok (.iconst 3, 1) := by decide +kernel
theorem dX5_init_58 : decode cX5_init 58 = .ok (.newarray .int, 2) := by decide +kernel
theorem dX5_init_60 : decode cX5_init 60 = .ok (.putfield 32, 3) := by decide +kernel
theorem dX5_init_63 : decode cX5_init 63 = .ok (.aload_n 0, 1) := by decide +kernel
theorem dX5_init_64 : decode cX5_init 64 = .ok (.iconst 3, 1) := by decide +kernel
theorem dX5_init_65 : decode cX5_init 65 = .ok (.newarray .int, 2) := by decide +kernel
theorem dX5_init_67 : decode cX5_init 67 = .ok (.putfield 35, 3) := by decide +kernel
theorem dX5_init_70 : decode cX5_init 70 = .ok (.aload_n 0, 1) := by decide +kernel
theorem dX5_init_71 : decode cX5_init 71 = .ok (.iconst 3, 1) := by decide +kernel
theorem dX5_init_72 : decode cX5_init 72 = .ok (.newarray .int, 2) := by decide +kernel
theorem dX5_init_74 : decode cX5_init 74 = .ok (.putfield 38, 3) := by decide +kernel
theorem dX5_init_77 : decode cX5_init 77 = .ok (.aload_n 0, 1) := by decide +kernel
theorem dX5_init_78 : decode cX5_init 78 = .ok (.bipush 9, 2) := by decide +kernel
theorem dX5_init_80 : decode cX5_init 80 = .ok (.newarray .int, 2) := by decide +kernel
theorem dX5_init_82 : decode cX5_init 82 = .ok (.putfield 41, 3) := by decide +kernel
theorem dX5_init_85 : decode cX5_init 85 = .ok (.aload_n 0, 1) := by decide +kernel
theorem dX5_init_86 : decode cX5_init 86 = .ok (.bipush 9, 2) := by decide +kernel
theorem dX5_init_88 : decode cX5_init 88 = .ok (.newarray .int, 2) := by decide +kernel
theorem dX5_init_90 : decode cX5_init 90 = .ok (.putfield 44, 3) := by decide +kernel
theorem dX5_init_93 : decode cX5_init 93 = .ok (.aload_n 0, 1) := by decide +kernel
theorem dX5_init_94 : decode cX5_init 94 = .ok (.bipush 9, 2) := by decide +kernel
theorem dX5_init_96 : decode cX5_init 96 = .ok (.newarray .int, 2) := by decide +kernel
theorem dX5_init_98 : decode cX5_init 98 = .ok (.putfield 47, 3) := by decide +kernel
theorem dX5_init_101 : decode cX5_init 101 = .ok (.aload_n 0, 1) := by decide +kernel
theorem dX5_init_102 : decode cX5_init 102 = .ok (.bipush 9, 2) := by decide +kernel
theorem dX5_init_104 : decode cX5_init 104 = .ok (.newarray .int, 2) := by decide +kernel
theorem dX5_init_106 : decode cX5_init 106 = .ok (.putfield 50, 3) := by decide +kernel
theorem dX5_init_109 : decode cX5_init 109 = .ok (.aload_n 0, 1) := by decide +kernel
theorem dX5_init_110 : decode cX5_init 110 = .ok (.bipush 9, 2) := by decide +kernel
theorem dX5_init_112 : decode cX5_init 112 = .ok (.newarray .int, 2) := by decide +kernel
theorem dX5_init_114 : decode cX5_init 114 = .ok (.putfield 53, 3) := by decide +kernel
theorem dX5_init_117 : decode cX5_init 117 = .ok (.aload_n 0, 1) := by decide +kernel
theorem dX5_init_118 : decode cX5_init 118 = .ok (.iconst 3, 1) := by decide +kernel
theorem dX5_init_119 : decode cX5_init 119 = .ok (.newarray .int, 2) := by decide +kernel
theorem dX5_init_121 : decode cX5_init 121 = .ok (.putfield 56, 3) := by decide +kernel
theorem dX5_init_124 : decode cX5_init 124 = .ok (.aload_n 0, 1) := by decide +kernel
theorem dX5_init_125 : decode cX5_init 125 = .ok (.bipush 9, 2) := by decide +kernel
theorem dX5_init_127 : decode cX5_init 127 = .ok (.newarray .int, 2) := by decide +kernel
theorem dX5_init_129 : decode cX5_init 129 = .ok (.putfield 59, 3) := by decide +kernel
theorem dX5_init_132 : decode cX5_init 132 = .ok (.aload_n 0, 1) := by decide +kernel
theorem dX5_init_133 : decode cX5_init 133 = .ok (.bipush 9, 2) := by decide +kernel
theorem dX5_init_135 : decode cX5_init 135 = .ok (.newarray .int, 2) := by decide +kernel
theorem dX5_init_137 : decode cX5_init 137 = .ok (.putfield 62, 3) := by decide +kernel
theorem dX5_init_140 : decode cX5_init 140 = .ok (.aload_n 0, 1) := by decide +kernel
theorem dX5_init_141 : decode cX5_init 141 = .ok (.bipush 9, 2) := by decide +kernel
theorem dX5_init_143 : decode cX5_init 143 = .ok (.newarray .int, 2) := by decide +kernel
theorem dX5_init_145 : decode cX5_init 145 = .ok (.putfield 65, 3) := by decide +kernel
theorem dX5_init_148 : decode cX5_init 148 = .ok (.aload_n 0, 1) := by decide +kernel
theorem dX5_init_149 : decode cX5_init 149 = .ok (.bipush 9, 2) := by decide +kernel
theorem dX5_init_151 : decode cX5_init 151 = .ok (.newarray .int, 2) := by decide +kernel
theorem dX5_init_153 : decode cX5_init 153 = .ok (.putfield 68, 3) := by decide +kernel
theorem dX5_init_156 : decode cX5_init 156 = .ok (.aload_n 0, 1) := by decide +kernel
theorem dX5_init_157 : decode cX5_init 157 = .ok (.sipush 576, 3) := by decide +kernel
theorem dX5_init_160 : decode cX5_init 160 = .ok (.newarray .int, 2) := by decide +kernel
theorem dX5_init_162 : decode cX5_init 162 = .ok (.putfield 71, 3) := by decide +kernel
theorem dX5_init_165 : decode cX5_init 165 = .ok (.aload_n 0, 1) := by decide +kernel
theorem dX5_init_166 : decode cX5_init 166 = .ok (.sipush 576, 3) := by decide +kernel
theorem dX5_init_169 : decode cX5_init 169 = .ok (.newarray .int, 2) := by decide +kernel
theorem dX5_init_171 : decode cX5_init 171 = .ok (.putfield 74, 3) := by decide +kernel
theorem dX5_init_174 : decode cX5_init 174 = .ok (.aload_n 0, 1) := by decide +kernel
theorem dX5_init_175 : decode cX5_init 175 = .ok (.bipush 9, 2) := by decide +kernel
theorem dX5_init_177 : decode cX5_init 177 = .ok (.newarray .int, 2) := by decide +kernel
theorem dX5_init_179 : decode cX5_init 179 = .ok (.putfield 77, 3) := by decide +kernel
theorem dX5_init_182 : decode cX5_init 182 = .ok (.aload_n 0, 1) := by decide +kernel
theorem dX5_init_183 : decode cX5_init 183 = .ok (.bipush 9, 2) := by decide +kernel
theorem dX5_init_185 : decode cX5_init 185 = .ok (.newarray .int, 2) := by decide +kernel
theorem dX5_init_187 : decode cX5_init 187 = .ok (.putfield 80, 3) := by decide +kernel
theorem dX5_init_190 : decode cX5_init 190 = .ok (.aload_n 0, 1) := by decide +kernel
theorem dX5_init_191 : decode cX5_init 191 = .ok (.bipush 9, 2) := by decide +kernel
theorem dX5_init_193 : decode cX5_init 193 = .ok (.newarray .int, 2) := by decide +kernel
theorem dX5_init_195 : decode cX5_init 195 = .ok (.putfield 83, 3) := by decide +kernel
theorem dX5_init_198 : decode cX5_init 198 = .ok (.aload_n 0, 1) := by decide +kernel
theorem dX5_init_199 : decode cX5_init 199 = .ok (.sipush 600, 3) := by decide +kernel
theorem dX5_init_202 : decode cX5_init 202 = .ok (.newarray .int, 2) := by decide +kernel
theorem dX5_init_204 : decode cX5_init 204 = .ok (.putfield 86, 3) := by decide +kernel
theorem dX5_init_207 : decode cX5_init 207 = .ok (.iconst 0, 1) := by decide +kernel
theorem dX5_init_208 : decode cX5_init 208 = .ok (.istore_n 1, 1) := by decide +kernel
theorem dX5_init_209 : decode cX5_init 209 = .ok (.iload_n 1, 1) := by decide +kernel
theorem dX5_init_210 : decode cX5_init 210 = .ok (.iconst 4, 1) := by decide +kernel
theorem dX5_init_211 : decode cX5_init 211 = .ok (.if_icmp .ge 16, 3) := by decide +kernel
theorem dX5_init_214 : decode cX5_init 214 = .ok (.aload_n 0, 1) := by decide +kernel
theorem dX5_init_215 : decode cX5_init 215 = .ok (.getfield 7, 3) := by decide +kernel
theorem dX5_init_218 : decode cX5_init 218 = .ok (.iload_n 1, 1) := by decide +kernel
theorem dX5_init_219 : decode cX5_init 219 = .ok (.iconst (-1), 1) := by decide +kernel
theorem dX5_init_220 : decode cX5_init 220 = .ok (.iastore, 1) := by decide +kernel
theorem dX5_init_221 : decode cX5_init 221 = .ok (.iinc 1 1, 3) := by decide +kernel
theorem dX5_init_224 : decode cX5_init 224 = .ok (.goto (-15), 3) := by decide +kernel
theorem dX5_init_227 : decode cX5_init 227 = .ok (.iconst 0, 1) := by decide +kernel
theorem dX5_init_228 : decode cX5_init 228 = .ok (.istore_n 1, 1) := by decide +kernel
theorem dX5_init_229 : decode cX5_init 229 = .ok (.iload_n 1, 1) := by decide +kernel
theorem dX5_init_230 : decode cX5_init 230 = .ok (.iconst 3, 1) := by decide +kernel
theorem dX5_init_231 : decode cX5_init 231 = .ok (.if_icmp .ge 17, 3) := by decide +kernel
theorem dX5_init_234 : decode cX5_init 234 = .ok (.aload_n 0, 1) := by decide +kernel
theorem dX5_init_235 : decode cX5_init 235 = .ok (.getfield 23, 3) := by decide +kernel
theorem dX5_init_238 : decode cX5_init 238 = .ok (.iload_n 1, 1) := by decide +kernel
theorem dX5_init_239 : decode cX5_init 239 = .ok (.bipush 20, 2) := by decide +kernel
theorem dX5_init_241 : decode cX5_init 241 = .ok (.iastore, 1) := by decide +kernel
theorem dX5_init_242 : decode cX5_init 242 = .ok (.iinc 1 1, 3) := by decide +kernel
theorem dX5_init_245 : decode cX5_init 245 = .ok (.goto (-16), 3) := by decide +kernel
theorem dX5_init_248 : decode cX5_init 248 = .ok (.iconst 0, 1) := by decide +kernel
theorem dX5_init_249 : decode cX5_init 249 = .ok (.istore_n 1, 1) := by decide +kernel
theorem dX5_init_250 : decode cX5_init 250 = .ok (.iload_n 1, 1) := by decide +kernel
theorem dX5_init_251 : decode cX5_init 251 = .ok (.bipush 9, 2) := by decide +kernel
theorem dX5_init_253 : decode cX5_init 253 = .ok (.if_icmp .ge 23, 3) := by decide +kernel
theorem dX5_init_256 : decode cX5_init 256 = .ok (.aload_n 0, 1) := by decide +kernel
theorem dX5_init_257 : decode cX5_init 257 = .ok (.getfield 77, 3) := by decide +kernel
theorem dX5_init_260 : decode cX5_init 260 = .ok (.iload_n 1, 1) := by decide +kernel
theorem dX5_init_261 : decode cX5_init 261 = .ok (.iconst (-1), 1) := by decide +kernel
theorem dX5_init_262 : decode cX5_init 262 = .ok (.iastore, 1) := by decide +kernel
theorem dX5_init_263 : decode cX5_init 263 = .ok (.aload_n 0, 1) := by decide +kernel
theorem dX5_init_264 : decode cX5_init 264 = .ok (.getfield 80, 3) := by decide +kernel
theorem dX5_init_267 : decode cX5_init 267 = .ok (.iload_n 1, 1) := by decide +kernel
theorem dX5_init_268 : decode cX5_init 268 = .ok (.iconst (-1), 1) := by decide +kernel
theorem dX5_init_269 : decode cX5_init 269 = .ok (.iastore, 1) := by decide +kernel
theorem dX5_init_270 : decode cX5_init 270 = .ok (.iinc 1 1, 3) := by decide +kernel
theorem dX5_init_273 : decode cX5_init 273 = .ok (.goto (-23), 3) := by decide +kernel
theorem dX5_init_276 : decode cX5_init 276 = .ok (.return_, 1) := by decide +kernel
theorem dX5_in_0 : decode cX5_in 0 = .ok (.lload_n 0, 1) := by decide +kernel
theorem dX5_in_1 : decode cX5_in 1 = .ok (.lload_n 2, 1) := by decide +kernel
theorem dX5_in_2 : decode cX5_in 2 = .ok (.lcmp, 1) := by decide +kernel
theorem dX5_in_3 : decode cX5_in 3 = .ok (.ifCond .lt 14, 3) := by decide +kernel
theorem dX5_in_6 : decode cX5_in 6 = .ok (.lload_n 0, 1) := by decide +kernel
theorem dX5_in_7 : decode cX5_in 7 = .ok (.lload 4, 2) := by decide +kernel
theorem dX5_in_9 : decode cX5_in 9 = .ok (.lcmp, 1) := by decide +kernel
theorem dX5_in_10 : decode cX5_in 10 = .ok (.ifCond .gt 7, 3) := by decide +kernel
theorem dX5_in_13 : decode cX5_in 13 = .ok (.iconst 1, 1) := by decide +kernel
theorem dX5_in_14 : decode cX5_in 14 = .ok (.goto 4, 3) := by decide +kernel
theorem dX5_in_17 : decode cX5_in 17 = .ok (.iconst 0, 1) := by decide +kernel
theorem dX5_in_18 : decode cX5_in 18 = .ok (.ireturn, 1) := by decide +kernel
theorem dX5_isTwo_0 : decode cX5_isTwo 0 = .ok (.iload_n 0, 1) := by decide +kernel
theorem dX5_isTwo_1 : decode cX5_isTwo 1 = .ok (.i2l, 1) := by decide +kernel
theorem dX5_isTwo_2 : decode cX5_isTwo 2 = .ok (.lconst 0, 1) := by decide +kernel
theorem dX5_isTwo_3 : decode cX5_isTwo 3 = .ok (.lconst 1, 1) := by decide +kernel
theorem dX5_isTwo_4 : decode cX5_isTwo 4 = .ok (.invokestatic 89, 3) := by decide +kernel
theorem dX5_isTwo_7 : decode cX5_isTwo 7 = .ok (.ireturn, 1) := by decide +kernel
theorem dX5_no_0 : decode cX5_no 0 = .ok (.ldc2_w 93, 3) := by decide +kernel
theorem dX5_no_3 : decode cX5_no 3 = .ok (.iload_n 0, 1) := by decide +kernel
theorem dX5_no_4 : decode cX5_no 4 = .ok (.i2l, 1) := by decide +kernel
theorem dX5_no_5 : decode cX5_no 5 = .ok (.lsub, 1) := by decide +kernel
theorem dX5_no_6 : decode cX5_no 6 = .ok (.lreturn, 1) := by decide +kernel
theorem dX5_lesser_0 : decode cX5_lesser 0 = .ok (.iload_n 0, 1) := by decide +kernel
theorem dX5_lesser_1 : decode cX5_lesser 1 = .ok (.iload_n 1, 1) := by decide +kernel
theorem dX5_lesser_2 : decode cX5_lesser 2 = .ok (.if_icmp .ge 7, 3) := by decide +kernel
theorem dX5_lesser_5 : decode cX5_lesser 5 = .ok (.iload_n 0, 1) := by decide +kernel
theorem dX5_lesser_6 : decode cX5_lesser 6 = .ok (.goto 4, 3) := by decide +kernel
theorem dX5_lesser_9 : decode cX5_lesser 9 = .ok (.iload_n 1, 1) := by decide +kernel
theorem dX5_lesser_10 : decode cX5_lesser 10 = .ok (.ireturn, 1) := by decide +kernel
theorem dX5_greater_0 : decode cX5_greater 0 = .ok (.iload_n 0, 1) := by decide +kernel
theorem dX5_greater_1 : decode cX5_greater 1 = .ok (.iload_n 1, 1) := by decide +kernel
theorem dX5_greater_2 : decode cX5_greater 2 = .ok (.if_icmp .le 7, 3) := by decide +kernel
theorem dX5_greater_5 : decode cX5_greater 5 = .ok (.iload_n 0, 1) := by decide +kernel
theorem dX5_greater_6 : decode cX5_greater 6 = .ok (.goto 4, 3) := by decide +kernel
theorem dX5_greater_9 : decode cX5_greater 9 = .ok (.iload_n 1, 1) := by decide +kernel
theorem dX5_greater_10 : decode cX5_greater 10 = .ok (.ireturn, 1) := by decide +kernel
theorem dX5_finds_0 : decode cX5_finds 0 = .ok (.aload_n 0, 1) := by decide +kernel
theorem dX5_finds_1 : decode cX5_finds 1 = .ok (.iload_n 1, 1) := by decide +kernel
theorem dX5_finds_2 : decode cX5_finds 2 = .ok (.putfield 95, 3) := by decide +kernel
theorem dX5_finds_5 : decode cX5_finds 5 = .ok (.bipush (-10), 2) := by decide +kernel
theorem dX5_finds_7 : decode cX5_finds 7 = .ok (.iload_n 1, 1) := by decide +kernel
theorem dX5_finds_8 : decode cX5_finds 8 = .ok (.isub, 1) := by decide +kernel
theorem dX5_finds_9 : decode cX5_finds 9 = .ok (.ireturn, 1) := by decide +kernel
theorem dX5_isSheet_0 : decode cX5_isSheet 0 = .ok (.iload_n 0, 1) := by decide +kernel
theorem dX5_isSheet_1 : decode cX5_isSheet 1 = .ok (.i2l, 1) := by decide +kernel
theorem dX5_isSheet_2 : decode cX5_isSheet 2 = .ok (.lconst 0, 1) := by decide +kernel
theorem dX5_isSheet_3 : decode cX5_isSheet 3 = .ok (.ldc2_w 99, 3) := by decide +kernel
theorem dX5_isSheet_6 : decode cX5_isSheet 6 = .ok (.invokestatic 89, 3) := by decide +kernel
theorem dX5_isSheet_9 : decode cX5_isSheet 9 = .ok (.ireturn, 1) := by decide +kernel
theorem dX5_sheet_0 : decode cX5_sheet 0 = .ok (.iload_n 1, 1) := by decide +kernel
theorem dX5_sheet_1 : decode cX5_sheet 1 = .ok (.invokestatic 101, 3) := by decide +kernel
theorem dX5_sheet_4 : decode cX5_sheet 4 = .ok (.ifCond .eq 21, 3) := by decide +kernel
theorem dX5_sheet_7 : decode cX5_sheet 7 = .ok (.iload_n 2, 1) := by decide +kernel
theorem dX5_sheet_8 : decode cX5_sheet 8 = .ok (.i2l, 1) := by decide +kernel
theorem dX5_sheet_9 : decode cX5_sheet 9 = .ok (.lconst 0, 1) := by decide +kernel
theorem dX5_sheet_10 : decode cX5_sheet 10 = .ok (.ldc2_w 105, 3) := by decide +kernel
theorem dX5_sheet_13 : decode cX5_sheet 13 = .ok (.invokestatic 89, 3) := by decide +kernel
theorem dX5_sheet_16 : decode cX5_sheet 16 = .ok (.ifCond .eq 9, 3) := by decide +kernel
theorem dX5_sheet_19 : decode cX5_sheet 19 = .ok (.iload_n 3, 1) := by decide +kernel
theorem dX5_sheet_20 : decode cX5_sheet 20 = .ok (.bipush 60, 2) := by decide +kernel
theorem dX5_sheet_22 : decode cX5_sheet 22 = .ok (.if_icmp .le 6, 3) := by decide +kernel
theorem dX5_sheet_25 : decode cX5_sheet 25 = .ok (.bipush (-2), 2) := by decide +kernel
theorem dX5_sheet_27 : decode cX5_sheet 27 = .ok (.ireturn, 1) := by decide +kernel
theorem dX5_sheet_28 : decode cX5_sheet 28 = .ok (.iload_n 3, 1) := by decide +kernel
theorem dX5_sheet_29 : decode cX5_sheet 29 = .ok (.ifCond .ge 9, 3) := by decide +kernel
theorem dX5_sheet_32 : decode cX5_sheet 32 = .ok (.aload_n 0, 1) := by decide +kernel
theorem dX5_sheet_33 : decode cX5_sheet 33 = .ok (.iconst 5, 1) := by decide +kernel
theorem dX5_sheet_34 : decode cX5_sheet 34 = .ok (.invokevirtual 107, 3) := by decide +kernel
theorem dX5_sheet_37 : decode cX5_sheet 37 = .ok (.ireturn, 1) := by decide +kernel
theorem dX5_sheet_38 : decode cX5_sheet 38 = .ok (.aload_n 0, 1) := by decide +kernel
theorem dX5_sheet_39 : decode cX5_sheet 39 = .ok (.getfield 7, 3) := by decide +kernel
theorem dX5_sheet_42 : decode cX5_sheet 42 = .ok (.iload_n 1, 1) := by decide +kernel
theorem dX5_sheet_43 : decode cX5_sheet 43 = .ok (.iload_n 2, 1) := by decide +kernel
theorem dX5_sheet_44 : decode cX5_sheet 44 = .ok (.iastore, 1) := by decide +kernel
theorem dX5_sheet_45 : decode cX5_sheet 45 = .ok (.aload_n 0, 1) := by decide +kernel
theorem dX5_sheet_46 : decode cX5_sheet 46 = .ok (.getfield 13, 3) := by decide +kernel
theorem dX5_sheet_49 : decode cX5_sheet 49 = .ok (.iload_n 1, 1) := by decide +kernel
theorem dX5_sheet_50 : decode cX5_sheet 50 = .ok (.iload_n 3, 1) := by decide +kernel
theorem dX5_sheet_51 : decode cX5_sheet 51 = .ok (.iastore, 1) := by decide +kernel
theorem dX5_sheet_52 : decode cX5_sheet 52 = .ok (.iconst 0, 1) := by decide +kernel
theorem dX5_sheet_53 : decode cX5_sheet 53 = .ok (.istore 4, 2) := by decide +kernel
theorem dX5_sheet_55 : decode cX5_sheet 55 = .ok (.iload 4, 2) := by decide +kernel
theorem dX5_sheet_57 : decode cX5_sheet 57 = .ok (.iload_n 3, 1) := by decide +kernel
theorem dX5_sheet_58 : decode cX5_sheet 58 = .ok (.if_icmp .ge 22, 3) := by decide +kernel
theorem dX5_sheet_61 : decode cX5_sheet 61 = .ok (.aload_n 0, 1) := by decide +kernel
theorem dX5_sheet_62 : decode cX5_sheet 62 = .ok (.getfield 16, 3) := by decide +kernel
theorem dX5_sheet_65 : decode cX5_sheet 65 = .ok (.bipush 60, 2) := by decide +kernel
theorem dX5_sheet_67 : decode cX5_sheet 67 = .ok (.iload_n 1, 1) := by decide +kernel
theorem dX5_sheet_68 : decode cX5_sheet 68 = .ok (.imul, 1) := by decide +kernel
theorem dX5_sheet_69 : decode cX5_sheet 69 = .ok (.iload 4, 2) := by decide +kernel
theorem dX5_sheet_71 : decode cX5_sheet 71 = .ok (.iadd, 1) := by decide +kernel
theorem dX5_sheet_72 : decode cX5_sheet 72 = .ok (.lconst 0, 1) := by decide +kernel
theorem dX5_sheet_73 : decode cX5_sheet 73 = .ok (.lastore, 1) := by decide +kernel
theorem dX5_sheet_74 : decode cX5_sheet 74 = .ok (.iinc 4 1, 3) := by decide +kernel
theorem dX5_sheet_77 : decode cX5_sheet 77 = .ok (.goto (-22), 3) := by decide +kernel
theorem dX5_sheet_80 : decode cX5_sheet 80 = .ok (.iload_n 3, 1) := by decide +kernel
theorem dX5_sheet_81 : decode cX5_sheet 81 = .ok (.ireturn, 1) := by decide +kernel
theorem dX5_lose_0 : decode cX5_lose 0 = .ok (.iload_n 1, 1) := by decide +kernel
theorem dX5_lose_1 : decode cX5_lose 1 = .ok (.invokestatic 101, 3) := by decide +kernel
theorem dX5_lose_4 : decode cX5_lose 4 = .ok (.ifCond .ne 6, 3) := by decide +kernel
theorem dX5_lose_7 : decode cX5_lose 7 = .ok (.bipush (-2), 2) := by decide +kernel
theorem dX5_lose_9 : decode cX5_lose 9 = .ok (.ireturn, 1) := by decide +kernel
theorem dX5_lose_10 : decode cX5_lose 10 = .ok (.aload_n 0, 1) := by decide +kernel
theorem dX5_lose_11 : decode cX5_lose 11 = .ok (.getfield 7, 3) := by decide +kernel
theorem dX5_lose_14 : decode cX5_lose 14 = .ok (.iload_n 1, 1) := by decide +kernel
theorem dX5_lose_15 : decode cX5_lose 15 = .ok (.iaload, 1) := by decide +kernel
theorem dX5_lose_16 : decode cX5_lose 16 = .ok (.ifCond .ge 9, 3) := by decide +kernel
theorem dX5_lose_19 : decode cX5_lose 19 = .ok (.aload_n 0, 1) := by decide +kernel
theorem dX5_lose_20 : decode cX5_lose 20 = .ok (.iconst 1, 1) := by decide +kernel
theorem dX5_lose_21 : decode cX5_lose 21 = .ok (.invokevirtual 107, 3) := by decide +kernel
theorem dX5_lose_24 : decode cX5_lose 24 = .ok (.ireturn, 1) := by decide +kernel
theorem dX5_lose_25 : decode cX5_lose 25 = .ok (.aload_n 0, 1) := by decide +kernel
theorem dX5_lose_26 : decode cX5_lose 26 = .ok (.getfield 7, 3) := by decide +kernel
theorem dX5_lose_29 : decode cX5_lose 29 = .ok (.iload_n 1, 1) := by decide +kernel
theorem dX5_lose_30 : decode cX5_lose 30 = .ok (.iconst (-1), 1) := by decide +kernel
theorem dX5_lose_31 : decode cX5_lose 31 = .ok (.iastore, 1) := by decide +kernel
theorem dX5_lose_32 : decode cX5_lose 32 = .ok (.aload_n 0, 1) := by decide +kernel
theorem dX5_lose_33 : decode cX5_lose 33 = .ok (.getfield 13, 3) := by decide +kernel
theorem dX5_lose_36 : decode cX5_lose 36 = .ok (.iload_n 1, 1) := by decide +kernel
theorem dX5_lose_37 : decode cX5_lose 37 = .ok (.iaload, 1) := by decide +kernel
theorem dX5_lose_38 : decode cX5_lose 38 = .ok (.ireturn, 1) := by decide +kernel
theorem dX5_lacks_0 : decode cX5_lacks 0 = .ok (.aload_n 0, 1) := by decide +kernel
theorem dX5_lacks_1 : decode cX5_lacks 1 = .ok (.getfield 7, 3) := by decide +kernel
theorem dX5_lacks_4 : decode cX5_lacks 4 = .ok (.iload_n 1, 1) := by decide +kernel
theorem dX5_lacks_5 : decode cX5_lacks 5 = .ok (.iaload, 1) := by decide +kernel
theorem dX5_lacks_6 : decode cX5_lacks 6 = .ok (.ifCond .ge 9, 3) := by decide +kernel
theorem dX5_lacks_9 : decode cX5_lacks 9 = .ok (.aload_n 0, 1) := by decide +kernel
theorem dX5_lacks_10 : decode cX5_lacks 10 = .ok (.iconst 1, 1) := by decide +kernel
theorem dX5_lacks_11 : decode cX5_lacks 11 = .ok (.invokevirtual 107, 3) := by decide +kernel
theorem dX5_lacks_14 : decode cX5_lacks 14 = .ok (.ireturn, 1) := by decide +kernel
theorem dX5_lacks_15 : decode cX5_lacks 15 = .ok (.aload_n 0, 1) := by decide +kernel
theorem dX5_lacks_16 : decode cX5_lacks 16 = .ok (.getfield 7, 3) := by decide +kernel
theorem dX5_lacks_19 : decode cX5_lacks 19 = .ok (.iload_n 1, 1) := by decide +kernel
theorem dX5_lacks_20 : decode cX5_lacks 20 = .ok (.iaload, 1) := by decide +kernel
theorem dX5_lacks_21 : decode cX5_lacks 21 = .ok (.iload_n 2, 1) := by decide +kernel
theorem dX5_lacks_22 : decode cX5_lacks 22 = .ok (.if_icmp .eq 9, 3) := by decide +kernel
theorem dX5_lacks_25 : decode cX5_lacks 25 = .ok (.aload_n 0, 1) := by decide +kernel
theorem dX5_lacks_26 : decode cX5_lacks 26 = .ok (.iconst 3, 1) := by decide +kernel
theorem dX5_lacks_27 : decode cX5_lacks 27 = .ok (.invokevirtual 107, 3) := by decide +kernel
theorem dX5_lacks_30 : decode cX5_lacks 30 = .ok (.ireturn, 1) := by decide +kernel
theorem dX5_lacks_31 : decode cX5_lacks 31 = .ok (.iload_n 3, 1) := by decide +kernel
theorem dX5_lacks_32 : decode cX5_lacks 32 = .ok (.i2l, 1) := by decide +kernel
theorem dX5_lacks_33 : decode cX5_lacks 33 = .ok (.lconst 0, 1) := by decide +kernel
theorem dX5_lacks_34 : decode cX5_lacks 34 = .ok (.aload_n 0, 1) := by decide +kernel
theorem dX5_lacks_35 : decode cX5_lacks 35 = .ok (.getfield 13, 3) := by decide +kernel
theorem dX5_lacks_38 : decode cX5_lacks 38 = .ok (.iload_n 1, 1) := by decide +kernel
theorem dX5_lacks_39 : decode cX5_lacks 39 = .ok (.iaload, 1) := by decide +kernel
theorem dX5_lacks_40 : decode cX5_lacks 40 = .ok (.iconst 1, 1) := by decide +kernel
theorem dX5_lacks_41 : decode cX5_lacks 41 = .ok (.isub, 1) := by decide +kernel
theorem dX5_lacks_42 : decode cX5_lacks 42 = .ok (.i2l, 1) := by decide +kernel
theorem dX5_lacks_43 : decode cX5_lacks 43 = .ok (.invokestatic 89, 3) := by decide +kernel
theorem dX5_lacks_46 : decode cX5_lacks 46 = .ok (.ifCond .eq 7, 3) := by decide +kernel
theorem dX5_lacks_49 : decode cX5_lacks 49 = .ok (.iconst 0, 1) := by decide +kernel
theorem dX5_lacks_50 : decode cX5_lacks 50 = .ok (.goto 8, 3) := by decide +kernel
theorem dX5_lacks_53 : decode cX5_lacks 53 = .ok (.aload_n 0, 1) := by decide +kernel
theorem dX5_lacks_54 : decode cX5_lacks 54 = .ok (.iconst 2, 1) := by decide +kernel
theorem dX5_lacks_55 : decode cX5_lacks 55 = .ok (.invokevirtual 107, 3) := by decide +kernel
theorem dX5_lacks_58 : decode cX5_lacks 58 = .ok (.ireturn, 1) := by decide +kernel
theorem dX5_lay_0 : decode cX5_lay 0 = .ok (.iload_n 1, 1) := by decide +kernel
theorem dX5_lay_1 : decode cX5_lay 1 = .ok (.invokestatic 101, 3) := by decide +kernel
theorem dX5_lay_4 : decode cX5_lay 4 = .ok (.ifCond .eq 15, 3) := by decide +kernel
theorem dX5_lay_7 : decode cX5_lay 7 = .ok (.iload_n 2, 1) := by decide +kernel
theorem dX5_lay_8 : decode cX5_lay 8 = .ok (.i2l, 1) := by decide +kernel
theorem dX5_lay_9 : decode cX5_lay 9 = .ok (.lconst 0, 1) := by decide +kernel
theorem dX5_lay_10 : decode cX5_lay 10 = .ok (.ldc2_w 105, 3) := by decide +kernel
theorem dX5_lay_13 : decode cX5_lay 13 = .ok (.invokestatic 89, 3) := by decide +kernel
theorem dX5_lay_16 : decode cX5_lay 16 = .ok (.ifCond .ne 6, 3) := by decide +kernel
theorem dX5_lay_19 : decode cX5_lay 19 = .ok (.bipush (-2), 2) := by decide +kernel
theorem dX5_lay_21 : decode cX5_lay 21 = .ok (.ireturn, 1) := by decide +kernel
theorem dX5_lay_22 : decode cX5_lay 22 = .ok (.aload_n 0, 1) := by decide +kernel
theorem dX5_lay_23 : decode cX5_lay 23 = .ok (.iload_n 1, 1) := by decide +kernel
theorem dX5_lay_24 : decode cX5_lay 24 = .ok (.iload_n 2, 1) := by decide +kernel
theorem dX5_lay_25 : decode cX5_lay 25 = .ok (.iload_n 3, 1) := by decide +kernel
theorem dX5_lay_26 : decode cX5_lay 26 = .ok (.invokevirtual 111, 3) := by decide +kernel
theorem dX5_lay_29 : decode cX5_lay 29 = .ok (.istore 5, 2) := by decide +kernel
theorem dX5_lay_31 : decode cX5_lay 31 = .ok (.iload 5, 2) := by decide +kernel
theorem dX5_lay_33 : decode cX5_lay 33 = .ok (.ifCond .eq 6, 3) := by decide +kernel
theorem dX5_lay_36 : decode cX5_lay 36 = .ok (.iload 5, 2) := by decide +kernel
theorem dX5_lay_38 : decode cX5_lay 38 = .ok (.ireturn, 1) := by decide +kernel
theorem dX5_lay_39 : decode cX5_lay 39 = .ok (.aload_n 0, 1) := by decide +kernel
theorem dX5_lay_40 : decode cX5_lay 40 = .ok (.getfield 16, 3) := by decide +kernel
theorem dX5_lay_43 : decode cX5_lay 43 = .ok (.bipush 60, 2) := by decide +kernel
theorem dX5_lay_45 : decode cX5_lay 45 = .ok (.iload_n 1, 1) := by decide +kernel
theorem dX5_lay_46 : decode cX5_lay 46 = .ok (.imul, 1) := by decide +kernel
theorem dX5_lay_47 : decode cX5_lay 47 = .ok (.iload_n 3, 1) := by decide +kernel
theorem dX5_lay_48 : decode cX5_lay 48 = .ok (.iadd, 1) := by decide +kernel
theorem dX5_lay_49 : decode cX5_lay 49 = .ok (.iload_n 2, 1) := by decide +kernel
theorem dX5_lay_50 : decode cX5_lay 50 = .ok (.ifCond .ne 10, 3) := by decide +kernel
theorem dX5_lay_53 : decode cX5_lay 53 = .ok (.iload 4, 2) := by decide +kernel
theorem dX5_lay_55 : decode cX5_lay 55 = .ok (.i2s, 1) := by decide +kernel
theorem dX5_lay_56 : decode cX5_lay 56 = .ok (.i2l, 1) := by decide +kernel
theorem dX5_lay_57 : decode cX5_lay 57 = .ok (.goto 21, 3) := by decide +kernel
theorem dX5_lay_60 : decode cX5_lay 60 = .ok (.iload_n 2, 1) := by decide +kernel
theorem dX5_lay_61 : decode cX5_lay 61 = .ok (.iconst 1, 1) := by decide +kernel
theorem dX5_lay_62 : decode cX5_lay 62 = .ok (.if_icmp .ne 9, 3) := by decide +kernel
theorem dX5_lay_65 : decode cX5_lay 65 = .ok (.iload 4, 2) := by decide +kernel
theorem dX5_lay_67 : decode cX5_lay 67 = .ok (.i2l, 1) := by decide +kernel
theorem dX5_lay_68 : decode cX5_lay 68 = .ok (.goto 10, 3) := by decide +kernel
theorem dX5_lay_71 : decode cX5_lay 71 = .ok (.ldc2_w 115, 3) := by decide +kernel
theorem dX5_lay_74 : decode cX5_lay 74 = .ok (.iload 4, 2) := by decide +kernel
theorem dX5_lay_76 : decode cX5_lay 76 = .ok (.i2l, 1) := by decide +kernel
theorem dX5_lay_77 : decode cX5_lay 77 = .ok (.lmul, 1) := by decide +kernel
theorem dX5_lay_78 : decode cX5_lay 78 = .ok (.lastore, 1) := by decide +kernel
theorem dX5_lay_79 : decode cX5_lay 79 = .ok (.iconst 1, 1) := by decide +kernel
theorem dX5_lay_80 : decode cX5_lay 80 = .ok (.ireturn, 1) := by decide +kernel
theorem dX5_get_0 : decode cX5_get 0 = .ok (.iload_n 1, 1) := by decide +kernel
theorem dX5_get_1 : decode cX5_get 1 = .ok (.invokestatic 101, 3) := by decide +kernel
theorem dX5_get_4 : decode cX5_get 4 = .ok (.ifCond .eq 15, 3) := by decide +kernel
theorem dX5_get_7 : decode cX5_get 7 = .ok (.iload_n 2, 1) := by decide +kernel
theorem dX5_get_8 : decode cX5_get 8 = .ok (.i2l, 1) := by decide +kernel
theorem dX5_get_9 : decode cX5_get 9 = .ok (.lconst 0, 1) := by decide +kernel
theorem dX5_get_10 : decode cX5_get 10 = .ok (.ldc2_w 105, 3) := by decide +kernel
theorem dX5_get_13 : decode cX5_get 13 = .ok (.invokestatic 89, 3) := by decide +kernel
theorem dX5_get_16 : decode cX5_get 16 = .ok (.ifCond .ne 9, 3) := by decide +kernel
theorem dX5_get_19 : decode cX5_get 19 = .ok (.bipush (-2), 2) := by decide +kernel
theorem dX5_get_21 : decode cX5_get 21 = .ok (.invokestatic 117, 3) := by decide +kernel
theorem dX5_get_24 : decode cX5_get 24 = .ok (.lreturn, 1) := by decide +kernel
theorem dX5_get_25 : decode cX5_get 25 = .ok (.aload_n 0, 1) := by decide +kernel
theorem dX5_get_26 : decode cX5_get 26 = .ok (.iload_n 1, 1) := by decide +kernel
theorem dX5_get_27 : decode cX5_get 27 = .ok (.iload_n 2, 1) := by decide +kernel
theorem dX5_get_28 : decode cX5_get 28 = .ok (.iload_n 3, 1) := by decide +kernel
theorem dX5_get_29 : decode cX5_get 29 = .ok (.invokevirtual 111, 3) := by decide +kernel
theorem dX5_get_32 : decode cX5_get 32 = .ok (.istore 4, 2) := by decide +kernel
theorem dX5_get_34 : decode cX5_get 34 = .ok (.iload 4, 2) := by decide +kernel
theorem dX5_get_36 : decode cX5_get 36 = .ok (.ifCond .eq 11, 3) := by decide +kernel
theorem dX5_get_39 : decode cX5_get 39 = .ok (.iload 4, 2) := by decide +kernel
theorem dX5_get_41 : decode cX5_get 41 = .ok (.invokestatic 117, 3) := by decide +kernel
theorem dX5_get_44 : decode cX5_get 44 = .ok (.goto 14, 3) := by decide +kernel
theorem dX5_get_47 : decode cX5_get 47 = .ok (.aload_n 0, 1) := by decide +kernel
theorem dX5_get_48 : decode cX5_get 48 = .ok (.getfield 16, 3) := by decide +kernel
theorem dX5_get_51 : decode cX5_get 51 = .ok (.bipush 60, 2) := by decide +kernel
theorem dX5_get_53 : decode cX5_get 53 = .ok (.iload_n 1, 1) := by decide +kernel
theorem dX5_get_54 : decode cX5_get 54 = .ok (.imul, 1) := by decide +kernel
theorem dX5_get_55 : decode cX5_get 55 = .ok (.iload_n 3, 1) := by decide +kernel
theorem dX5_get_56 : decode cX5_get 56 = .ok (.iadd, 1) := by decide +kernel
theorem dX5_get_57 : decode cX5_get 57 = .ok (.laload, 1) := by decide +kernel
theorem dX5_get_58 : decode cX5_get 58 = .ok (.lreturn, 1) := by decide +kernel
theorem dX5_copy_0 : decode cX5_copy 0 = .ok (.iload_n 1, 1) := by decide +kernel
theorem dX5_copy_1 : decode cX5_copy 1 = .ok (.invokestatic 101, 3) := by decide +kernel
theorem dX5_copy_4 : decode cX5_copy 4 = .ok (.ifCond .eq 10, 3) := by decide +kernel
theorem dX5_copy_7 : decode cX5_copy 7 = .ok (.iload_n 3, 1) := by decide +kernel
theorem dX5_copy_8 : decode cX5_copy 8 = .ok (.invokestatic 101, 3) := by decide +kernel
theorem dX5_copy_11 : decode cX5_copy 11 = .ok (.ifCond .ne 6, 3) := by decide +kernel
theorem dX5_copy_14 : decode cX5_copy 14 = .ok (.bipush (-2), 2) := by decide +kernel
theorem dX5_copy_16 : decode cX5_copy 16 = .ok (.ireturn, 1) := by decide +kernel
theorem dX5_copy_17 : decode cX5_copy 17 = .ok (.aload_n 0, 1) := by decide +kernel
theorem dX5_copy_18 : decode cX5_copy 18 = .ok (.getfield 7, 3) := by decide +kernel
theorem dX5_copy_21 : decode cX5_copy 21 = .ok (.iload_n 1, 1) := by decide +kernel
theorem dX5_copy_22 : decode cX5_copy 22 = .ok (.iaload, 1) := by decide +kernel
theorem dX5_copy_23 : decode cX5_copy 23 = .ok (.ifCond .lt 12, 3) := by decide +kernel
theorem dX5_copy_26 : decode cX5_copy 26 = .ok (.aload_n 0, 1) := by decide +kernel
theorem dX5_copy_27 : decode cX5_copy 27 = .ok (.getfield 7, 3) := by decide +kernel
theorem dX5_copy_30 : decode cX5_copy 30 = .ok (.iload_n 3, 1) := by decide +kernel
theorem dX5_copy_31 : decode cX5_copy 31 = .ok (.iaload, 1) := by decide +kernel
theorem dX5_copy_32 : decode cX5_copy 32 = .ok (.ifCond .ge 9, 3) := by decide +kernel
theorem dX5_copy_35 : decode cX5_copy 35 = .ok (.aload_n 0, 1) := by decide +kernel
theorem dX5_copy_36 : decode cX5_copy 36 = .ok (.iconst 1, 1) := by decide +kernel
theorem dX5_copy_37 : decode cX5_copy 37 = .ok (.invokevirtual 107, 3) := by decide +kernel
theorem dX5_copy_40 : decode cX5_copy 40 = .ok (.ireturn, 1) := by decide +kernel
theorem dX5_copy_41 : decode cX5_copy 41 = .ok (.aload_n 0, 1) := by decide +kernel
theorem dX5_copy_42 : decode cX5_copy 42 = .ok (.getfield 7, 3) := by decide +kernel
theorem dX5_copy_45 : decode cX5_copy 45 = .ok (.iload_n 1, 1) := by decide +kernel
theorem dX5_copy_46 : decode cX5_copy 46 = .ok (.iaload, 1) := by decide +kernel
theorem dX5_copy_47 : decode cX5_copy 47 = .ok (.aload_n 0, 1) := by decide +kernel
theorem dX5_copy_48 : decode cX5_copy 48 = .ok (.getfield 7, 3) := by decide +kernel
theorem dX5_copy_51 : decode cX5_copy 51 = .ok (.iload_n 3, 1) := by decide +kernel
theorem dX5_copy_52 : decode cX5_copy 52 = .ok (.iaload, 1) := by decide +kernel
theorem dX5_copy_53 : decode cX5_copy 53 = .ok (.if_icmp .eq 9, 3) := by decide +kernel
theorem dX5_copy_56 : decode cX5_copy 56 = .ok (.aload_n 0, 1) := by decide +kernel
theorem dX5_copy_57 : decode cX5_copy 57 = .ok (.iconst 4, 1) := by decide +kernel
theorem dX5_copy_58 : decode cX5_copy 58 = .ok (.invokevirtual 107, 3) := by decide +kernel
theorem dX5_copy_61 : decode cX5_copy 61 = .ok (.ireturn, 1) := by decide +kernel
theorem dX5_copy_62 : decode cX5_copy 62 = .ok (.iload_n 2, 1) := by decide +kernel
theorem dX5_copy_63 : decode cX5_copy 63 = .ok (.ifCond .lt 48, 3) := by decide +kernel
theorem dX5_copy_66 : decode cX5_copy 66 = .ok (.iload 4, 2) := by decide +kernel
theorem dX5_copy_68 : decode cX5_copy 68 = .ok (.ifCond .lt 43, 3) := by decide +kernel
theorem dX5_copy_71 : decode cX5_copy 71 = .ok (.iload 5, 2) := by decide +kernel
theorem dX5_copy_73 : decode cX5_copy 73 = .ok (.ifCond .lt 38, 3) := by decide +kernel
theorem dX5_copy_76 : decode cX5_copy 76 = .ok (.iload_n 2, 1) := by decide +kernel
theorem dX5_copy_77 : decode cX5_copy 77 = .ok (.i2l, 1) := by decide +kernel
theorem dX5_copy_78 : decode cX5_copy 78 = .ok (.iload 5, 2) := by decide +kernel
theorem dX5_copy_80 : decode cX5_copy 80 = .ok (.i2l, 1) := by decide +kernel
theorem dX5_copy_81 : decode cX5_copy 81 = .ok (.ladd, 1) := by decide +kernel
theorem dX5_copy_82 : decode cX5_copy 82 = .ok (.aload_n 0, 1) := by decide +kernel
theorem dX5_copy_83 : decode cX5_copy 83 = .ok (.getfield 13, 3) := by decide +kernel
theorem dX5_copy_86 : decode cX5_copy 86 = .ok (.iload_n 1, 1) := by decide +kernel
theorem dX5_copy_87 : decode cX5_copy 87 = .ok (.iaload, 1) := by decide +kernel
theorem dX5_copy_88 : decode cX5_copy 88 = .ok (.i2l, 1) := by decide +kernel
theorem dX5_copy_89 : decode cX5_copy 89 = .ok (.lcmp, 1) := by decide +kernel
theorem dX5_copy_90 : decode cX5_copy 90 = .ok (.ifCond .gt 21, 3) := by decide +kernel
theorem dX5_copy_93 : decode cX5_copy 93 = .ok (.iload 4, 2) := by decide +kernel
theorem dX5_copy_95 : decode cX5_copy 95 = .ok (.i2l, 1) := by decide +kernel
theorem dX5_copy_96 : decode cX5_copy 96 = .ok (.iload 5, 2) := by decide +kernel
theorem dX5_copy_98 : decode cX5_copy 98 = .ok (.i2l, 1) := by decide +kernel
theorem dX5_copy_99 : decode cX5_copy 99 = .ok (.ladd, 1) := by decide +kernel
theorem dX5_copy_100 : decode cX5_copy 100 = .ok (.aload_n 0, 1) := by decide +kernel
theorem dX5_copy_101 : decode cX5_copy 101 = .ok (.getfield 13, 3) := by decide +kernel
theorem dX5_copy_104 : decode cX5_copy 104 = .ok (.iload_n 3, 1) := by decide +kernel
theorem dX5_copy_105 : decode cX5_copy 105 = .ok (.iaload, 1) := by decide +kernel
theorem dX5_copy_106 : decode cX5_copy 106 = .ok (.i2l, 1) := by decide +kernel
theorem dX5_copy_107 : decode cX5_copy 107 = .ok (.lcmp, 1) := by decide +kernel
theorem dX5_copy_108 : decode cX5_copy 108 = .ok (.ifCond .le 9, 3) := by decide +kernel
theorem dX5_copy_111 : decode cX5_copy 111 = .ok (.aload_n 0, 1) := by decide +kernel
theorem dX5_copy_112 : decode cX5_copy 112 = .ok (.iconst 2, 1) := by decide +kernel
theorem dX5_copy_113 : decode cX5_copy 113 = .ok (.invokevirtual 107, 3) := by decide +kernel
theorem dX5_copy_116 : decode cX5_copy 116 = .ok (.ireturn, 1) := by decide +kernel
theorem dX5_copy_117 : decode cX5_copy 117 = .ok (.iconst 0, 1) := by decide +kernel
theorem dX5_copy_118 : decode cX5_copy 118 = .ok (.istore 6, 2) := by decide +kernel
theorem dX5_copy_120 : decode cX5_copy 120 = .ok (.iload 6, 2) := by decide +kernel
theorem dX5_copy_122 : decode cX5_copy 122 = .ok (.iload 5, 2) := by decide +kernel
theorem dX5_copy_124 : decode cX5_copy 124 = .ok (.if_icmp .ge 30, 3) := by decide +kernel
theorem dX5_copy_127 : decode cX5_copy 127 = .ok (.aload_n 0, 1) := by decide +kernel
theorem dX5_copy_128 : decode cX5_copy 128 = .ok (.getfield 20, 3) := by decide +kernel
theorem dX5_copy_131 : decode cX5_copy 131 = .ok (.iload 6, 2) := by decide +kernel
theorem dX5_copy_133 : decode cX5_copy 133 = .ok (.aload_n 0, 1) := by decide +kernel
theorem dX5_copy_134 : decode cX5_copy 134 = .ok (.getfield 16, 3) := by decide +kernel
theorem dX5_copy_137 : decode cX5_copy 137 = .ok (.bipush 60, 2) := by decide +kernel
theorem dX5_copy_139 : decode cX5_copy 139 = .ok (.iload_n 1, 1) := by decide +kernel
theorem dX5_copy_140 : decode cX5_copy 140 = .ok (.imul, 1) := by decide +kernel
theorem dX5_copy_141 : decode cX5_copy 141 = .ok (.iload_n 2, 1) := by decide +kernel
theorem dX5_copy_142 : decode cX5_copy 142 = .ok (.iadd, 1) := by decide +kernel
theorem dX5_copy_143 : decode cX5_copy 143 = .ok (.iload 6, 2) := by decide +kernel
theorem dX5_copy_145 : decode cX5_copy 145 = .ok (.iadd, 1) := by decide +kernel
theorem dX5_copy_146 : decode cX5_copy 146 = .ok (.laload, 1) := by decide +kernel
theorem dX5_copy_147 : decode cX5_copy 147 = .ok (.lastore, 1) := by decide +kernel
theorem dX5_copy_148 : decode cX5_copy 148 = .ok (.iinc 6 1, 3) := by decide +kernel
theorem dX5_copy_151 : decode cX5_copy 151 = .ok (.goto (-31), 3) := by decide +kernel
theorem dX5_copy_154 : decode cX5_copy 154 = .ok (.iconst 0, 1) := by decide +kernel
theorem dX5_copy_155 : decode cX5_copy 155 = .ok (.istore 6, 2) := by decide +kernel
theorem dX5_copy_157 : decode cX5_copy 157 = .ok (.iload 6, 2) := by decide +kernel
theorem dX5_copy_159 : decode cX5_copy 159 = .ok (.iload 5, 2) := by decide +kernel
theorem dX5_copy_161 : decode cX5_copy 161 = .ok (.if_icmp .ge 31, 3) := by decide +kernel
theorem dX5_copy_164 : decode cX5_copy 164 = .ok (.aload_n 0, 1) := by decide +kernel
theorem dX5_copy_165 : decode cX5_copy 165 = .ok (.getfield 16, 3) := by decide +kernel
theorem dX5_copy_168 : decode cX5_copy 168 = .ok (.bipush 60, 2) := by decide +kernel
theorem dX5_copy_170 : decode cX5_copy 170 = .ok (.iload_n 3, 1) := by decide +kernel
theorem dX5_copy_171 : decode cX5_copy 171 = .ok (.imul, 1) := by decide +kernel
theorem dX5_copy_172 : decode cX5_copy 172 = .ok (.iload 4, 2) := by decide +kernel
theorem dX5_copy_174 : decode cX5_copy 174 = .ok (.iadd, 1) := by decide +kernel
theorem dX5_copy_175 : decode cX5_copy 175 = .ok (.iload 6, 2) := by decide +kernel
theorem dX5_copy_177 : decode cX5_copy 177 = .ok (.iadd, 1) := by decide +kernel
theorem dX5_copy_178 : decode cX5_copy 178 = .ok (.aload_n 0, 1) := by decide +kernel
theorem dX5_copy_179 : decode cX5_copy 179 = .ok (.getfield 20, 3) := by decide +kernel
theorem dX5_copy_182 : decode cX5_copy 182 = .ok (.iload 6, 2) := by decide +kernel
theorem dX5_copy_184 : decode cX5_copy 184 = .ok (.laload, 1) := by decide +kernel
theorem dX5_copy_185 : decode cX5_copy 185 = .ok (.lastore, 1) := by decide +kernel
theorem dX5_copy_186 : decode cX5_copy 186 = .ok (.iinc 6 1, 3) := by decide +kernel
theorem dX5_copy_189 : decode cX5_copy 189 = .ok (.goto (-32), 3) := by decide +kernel
theorem dX5_copy_192 : decode cX5_copy 192 = .ok (.iconst 1, 1) := by decide +kernel
theorem dX5_copy_193 : decode cX5_copy 193 = .ok (.ireturn, 1) := by decide +kernel
theorem dX5_isChain_0 : decode cX5_isChain 0 = .ok (.iload_n 0, 1) := by decide +kernel
theorem dX5_isChain_1 : decode cX5_isChain 1 = .ok (.i2l, 1) := by decide +kernel
theorem dX5_isChain_2 : decode cX5_isChain 2 = .ok (.lconst 0, 1) := by decide +kernel
theorem dX5_isChain_3 : decode cX5_isChain 3 = .ok (.ldc2_w 105, 3) := by decide +kernel
theorem dX5_isChain_6 : decode cX5_isChain 6 = .ok (.invokestatic 89, 3) := by decide +kernel
theorem dX5_isChain_9 : decode cX5_isChain 9 = .ok (.ireturn, 1) := by decide +kernel
theorem dX5_isStep_0 : decode cX5_isStep 0 = .ok (.iload_n 1, 1) := by decide +kernel
theorem dX5_isStep_1 : decode cX5_isStep 1 = .ok (.invokestatic 121, 3) := by decide +kernel
theorem dX5_isStep_4 : decode cX5_isStep 4 = .ok (.ifCond .eq 25, 3) := by decide +kernel
theorem dX5_isStep_7 : decode cX5_isStep 7 = .ok (.iload_n 2, 1) := by decide +kernel
theorem dX5_isStep_8 : decode cX5_isStep 8 = .ok (.i2l, 1) := by decide +kernel
theorem dX5_isStep_9 : decode cX5_isStep 9 = .ok (.lconst 0, 1) := by decide +kernel
theorem dX5_isStep_10 : decode cX5_isStep 10 = .ok (.aload_n 0, 1) := by decide +kernel
theorem dX5_isStep_11 : decode cX5_isStep 11 = .ok (.getfield 38, 3) := by decide +kernel
theorem dX5_isStep_14 : decode cX5_isStep 14 = .ok (.iload_n 1, 1) := by decide +kernel
theorem dX5_isStep_15 : decode cX5_isStep 15 = .ok (.iaload, 1) := by decide +kernel
theorem dX5_isStep_16 : decode cX5_isStep 16 = .ok (.iconst 1, 1) := by decide +kernel
theorem dX5_isStep_17 : decode cX5_isStep 17 = .ok (.isub, 1) := by decide +kernel
theorem dX5_isStep_18 : decode cX5_isStep 18 = .ok (.i2l, 1) := by decide +kernel
theorem dX5_isStep_19 : decode cX5_isStep 19 = .ok (.invokestatic 89, 3) := by decide +kernel
theorem dX5_isStep_22 : decode cX5_isStep 22 = .ok (.ifCond .eq 7, 3) := by decide +kernel
theorem dX5_isStep_25 : decode cX5_isStep 25 = .ok (.iconst 1, 1) := by decide +kernel
theorem dX5_isStep_26 : decode cX5_isStep 26 = .ok (.goto 4, 3) := by decide +kernel
theorem dX5_isStep_29 : decode cX5_isStep 29 = .ok (.iconst 0, 1) := by decide +kernel
theorem dX5_isStep_30 : decode cX5_isStep 30 = .ok (.ireturn, 1) := by decide +kernel
theorem dX5_isThere_0 : decode cX5_isThere 0 = .ok (.iload_n 1, 1) := by decide +kernel
theorem dX5_isThere_1 : decode cX5_isThere 1 = .ok (.iconst 3, 1) := by decide +kernel
theorem dX5_isThere_2 : decode cX5_isThere 2 = .ok (.irem, 1) := by decide +kernel
theorem dX5_isThere_3 : decode cX5_isThere 3 = .ok (.aload_n 0, 1) := by decide +kernel
theorem dX5_isThere_4 : decode cX5_isThere 4 = .ok (.getfield 38, 3) := by decide +kernel
theorem dX5_isThere_7 : decode cX5_isThere 7 = .ok (.iload_n 1, 1) := by decide +kernel
theorem dX5_isThere_8 : decode cX5_isThere 8 = .ok (.iconst 3, 1) := by decide +kernel
theorem dX5_isThere_9 : decode cX5_isThere 9 = .ok (.idiv, 1) := by decide +kernel
theorem dX5_isThere_10 : decode cX5_isThere 10 = .ok (.iaload, 1) := by decide +kernel
theorem dX5_isThere_11 : decode cX5_isThere 11 = .ok (.if_icmp .ge 7, 3) := by decide +kernel
theorem dX5_isThere_14 : decode cX5_isThere 14 = .ok (.iconst 1, 1) := by decide +kernel
theorem dX5_isThere_15 : decode cX5_isThere 15 = .ok (.goto 4, 3) := by decide +kernel
theorem dX5_isThere_18 : decode cX5_isThere 18 = .ok (.iconst 0, 1) := by decide +kernel
theorem dX5_isThere_19 : decode cX5_isThere 19 = .ok (.ireturn, 1) := by decide +kernel
theorem dX5_hasBy_0 : decode cX5_hasBy 0 = .ok (.iload_n 2, 1) := by decide +kernel
theorem dX5_hasBy_1 : decode cX5_hasBy 1 = .ok (.tableswitch 70 0 4 #[35, 42, 49, 56, 63], 35) := by decide +kernel
theorem dX5_hasBy_36 : decode cX5_hasBy 36 = .ok (.aload_n 0, 1) := by decide +kernel
theorem dX5_hasBy_37 : decode cX5_hasBy 37 = .ok (.getfield 23, 3) := by decide +kernel
theorem dX5_hasBy_40 : decode cX5_hasBy 40 = .ok (.iload_n 1, 1) := by decide +kernel
theorem dX5_hasBy_41 : decode cX5_hasBy 41 = .ok (.iaload, 1) := by decide +kernel
theorem dX5_hasBy_42 : decode cX5_hasBy 42 = .ok (.ireturn, 1) := by decide +kernel
theorem dX5_hasBy_43 : decode cX5_hasBy 43 = .ok (.aload_n 0, 1) := by decide +kernel
theorem dX5_hasBy_44 : decode cX5_hasBy 44 = .ok (.getfield 26, 3) := by decide +kernel
theorem dX5_hasBy_47 : decode cX5_hasBy 47 = .ok (.iload_n 1, 1) := by decide +kernel
theorem dX5_hasBy_48 : decode cX5_hasBy 48 = .ok (.iaload, 1) := by decide +kernel
theorem dX5_hasBy_49 : decode cX5_hasBy 49 = .ok (.ireturn, 1) := by decide +kernel
theorem dX5_hasBy_50 : decode cX5_hasBy 50 = .ok (.aload_n 0, 1) := by decide +kernel
theorem dX5_hasBy_51 : decode cX5_hasBy 51 = .ok (.getfield 29, 3) := by decide +kernel
theorem dX5_hasBy_54 : decode cX5_hasBy 54 = .ok (.iload_n 1, 1) := by decide +kernel
theorem dX5_hasBy_55 : decode cX5_hasBy 55 = .ok (.iaload, 1) := by decide +kernel
theorem dX5_hasBy_56 : decode cX5_hasBy 56 = .ok (.ireturn, 1) := by decide +kernel
theorem dX5_hasBy_57 : decode cX5_hasBy 57 = .ok (.aload_n 0, 1) := by decide +kernel
theorem dX5_hasBy_58 : decode cX5_hasBy 58 = .ok (.getfield 32, 3) := by decide +kernel
theorem dX5_hasBy_61 : decode cX5_hasBy 61 = .ok (.iload_n 1, 1) := by decide +kernel
theorem dX5_hasBy_62 : decode cX5_hasBy 62 = .ok (.iaload, 1) := by decide +kernel
theorem dX5_hasBy_63 : decode cX5_hasBy 63 = .ok (.ireturn, 1) := by decide +kernel
theorem dX5_hasBy_64 : decode cX5_hasBy 64 = .ok (.aload_n 0, 1) := by decide +kernel
theorem dX5_hasBy_65 : decode cX5_hasBy 65 = .ok (.getfield 35, 3) := by decide +kernel
theorem dX5_hasBy_68 : decode cX5_hasBy 68 = .ok (.iload_n 1, 1) := by decide +kernel
theorem dX5_hasBy_69 : decode cX5_hasBy 69 = .ok (.iaload, 1) := by decide +kernel
theorem dX5_hasBy_70 : decode cX5_hasBy 70 = .ok (.ireturn, 1) := by decide +kernel
theorem dX5_hasBy_71 : decode cX5_hasBy 71 = .ok (.aload_n 0, 1) := by decide +kernel
theorem dX5_hasBy_72 : decode cX5_hasBy 72 = .ok (.getfield 38, 3) := by decide +kernel
theorem dX5_hasBy_75 : decode cX5_hasBy 75 = .ok (.iload_n 1, 1) := by decide +kernel
theorem dX5_hasBy_76 : decode cX5_hasBy 76 = .ok (.iaload, 1) := by decide +kernel
theorem dX5_hasBy_77 : decode cX5_hasBy 77 = .ok (.ireturn, 1) := by decide +kernel
theorem dX5_mayChain_0 : decode cX5_mayChain 0 = .ok (.iload_n 0, 1) := by decide +kernel
theorem dX5_mayChain_1 : decode cX5_mayChain 1 = .ok (.tableswitch 87 0 4 #[35, 47, 57, 67, 77], 35) := by decide +kernel
theorem dX5_mayChain_36 : decode cX5_mayChain 36 = .ok (.iload_n 1, 1) := by decide +kernel
theorem dX5_mayChain_37 : decode cX5_mayChain 37 = .ok (.i2l, 1) := by decide +kernel
theorem dX5_mayChain_38 : decode cX5_mayChain 38 = .ok (.ldc2_w 124, 3) := by decide +kernel
theorem dX5_mayChain_41 : decode cX5_mayChain 41 = .ok (.ldc2_w 126, 3) := by decide +kernel
theorem dX5_mayChain_44 : decode cX5_mayChain 44 = .ok (.invokestatic 89, 3) := by decide +kernel
theorem dX5_mayChain_47 : decode cX5_mayChain 47 = .ok (.ireturn, 1) := by decide +kernel
theorem dX5_mayChain_48 : decode cX5_mayChain 48 = .ok (.iload_n 1, 1) := by decide +kernel
theorem dX5_mayChain_49 : decode cX5_mayChain 49 = .ok (.i2l, 1) := by decide +kernel
theorem dX5_mayChain_50 : decode cX5_mayChain 50 = .ok (.lconst 0, 1) := by decide +kernel
theorem dX5_mayChain_51 : decode cX5_mayChain 51 = .ok (.ldc2_w 128, 3) := by decide +kernel
theorem dX5_mayChain_54 : decode cX5_mayChain 54 = .ok (.invokestatic 89, 3) := by decide +kernel
theorem dX5_mayChain_57 : decode cX5_mayChain 57 = .ok (.ireturn, 1) := by decide +kernel
theorem dX5_mayChain_58 : decode cX5_mayChain 58 = .ok (.iload_n 1, 1) := by decide +kernel
theorem dX5_mayChain_59 : decode cX5_mayChain 59 = .ok (.i2l, 1) := by decide +kernel
theorem dX5_mayChain_60 : decode cX5_mayChain 60 = .ok (.lconst 0, 1) := by decide +kernel
theorem dX5_mayChain_61 : decode cX5_mayChain 61 = .ok (.ldc2_w 130, 3) := by decide +kernel
theorem dX5_mayChain_64 : decode cX5_mayChain 64 = .ok (.invokestatic 89, 3) := by decide +kernel
theorem dX5_mayChain_67 : decode cX5_mayChain 67 = .ok (.ireturn, 1) := by decide +kernel
theorem dX5_mayChain_68 : decode cX5_mayChain 68 = .ok (.iload_n 1, 1) := by decide +kernel
