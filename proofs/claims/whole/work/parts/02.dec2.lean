theorem dX1_released_18 : decode cX1_released 18 = .ok (.iadd, 1) := by decide +kernel
theorem dX1_released_19 : decode cX1_released 19 = .ok (.ireturn, 1) := by decide +kernel
theorem dX1_mostUrgent_0 : decode cX1_mostUrgent 0 = .ok (.iconst (-1), 1) := by decide +kernel
theorem dX1_mostUrgent_1 : decode cX1_mostUrgent 1 = .ok (.istore 4, 2) := by decide +kernel
theorem dX1_mostUrgent_3 : decode cX1_mostUrgent 3 = .ok (.iconst 0, 1) := by decide +kernel
theorem dX1_mostUrgent_4 : decode cX1_mostUrgent 4 = .ok (.istore 5, 2) := by decide +kernel
theorem dX1_mostUrgent_6 : decode cX1_mostUrgent 6 = .ok (.iload 5, 2) := by decide +kernel
theorem dX1_mostUrgent_8 : decode cX1_mostUrgent 8 = .ok (.bipush 9, 2) := by decide +kernel
theorem dX1_mostUrgent_10 : decode cX1_mostUrgent 10 = .ok (.if_icmp .ge 73, 3) := by decide +kernel
theorem dX1_mostUrgent_13 : decode cX1_mostUrgent 13 = .ok (.aload_n 1, 1) := by decide +kernel
theorem dX1_mostUrgent_14 : decode cX1_mostUrgent 14 = .ok (.iload 5, 2) := by decide +kernel
theorem dX1_mostUrgent_16 : decode cX1_mostUrgent 16 = .ok (.invokevirtual 82, 3) := by decide +kernel
theorem dX1_mostUrgent_19 : decode cX1_mostUrgent 19 = .ok (.ifCond .eq 58, 3) := by decide +kernel
theorem dX1_mostUrgent_22 : decode cX1_mostUrgent 22 = .ok (.aload_n 1, 1) := by decide +kernel
theorem dX1_mostUrgent_23 : decode cX1_mostUrgent 23 = .ok (.getfield 79, 3) := by decide +kernel
theorem dX1_mostUrgent_26 : decode cX1_mostUrgent 26 = .ok (.iconst 0, 1) := by decide +kernel
theorem dX1_mostUrgent_27 : decode cX1_mostUrgent 27 = .ok (.aaload, 1) := by decide +kernel
theorem dX1_mostUrgent_28 : decode cX1_mostUrgent 28 = .ok (.iload 5, 2) := by decide +kernel
theorem dX1_mostUrgent_30 : decode cX1_mostUrgent 30 = .ok (.iaload, 1) := by decide +kernel
theorem dX1_mostUrgent_31 : decode cX1_mostUrgent 31 = .ok (.iload_n 2, 1) := by decide +kernel
theorem dX1_mostUrgent_32 : decode cX1_mostUrgent 32 = .ok (.if_icmp .ne 45, 3) := by decide +kernel
theorem dX1_mostUrgent_35 : decode cX1_mostUrgent 35 = .ok (.aload_n 0, 1) := by decide +kernel
theorem dX1_mostUrgent_36 : decode cX1_mostUrgent 36 = .ok (.aload_n 1, 1) := by decide +kernel
theorem dX1_mostUrgent_37 : decode cX1_mostUrgent 37 = .ok (.iload 5, 2) := by decide +kernel
theorem dX1_mostUrgent_39 : decode cX1_mostUrgent 39 = .ok (.iload_n 3, 1) := by decide +kernel
theorem dX1_mostUrgent_40 : decode cX1_mostUrgent 40 = .ok (.invokevirtual 86, 3) := by decide +kernel
theorem dX1_mostUrgent_43 : decode cX1_mostUrgent 43 = .ok (.ifCond .eq 34, 3) := by decide +kernel
theorem dX1_mostUrgent_46 : decode cX1_mostUrgent 46 = .ok (.iload 4, 2) := by decide +kernel
theorem dX1_mostUrgent_48 : decode cX1_mostUrgent 48 = .ok (.iconst (-1), 1) := by decide +kernel
theorem dX1_mostUrgent_49 : decode cX1_mostUrgent 49 = .ok (.if_icmp .eq 24, 3) := by decide +kernel
theorem dX1_mostUrgent_52 : decode cX1_mostUrgent 52 = .ok (.aload_n 1, 1) := by decide +kernel
theorem dX1_mostUrgent_53 : decode cX1_mostUrgent 53 = .ok (.getfield 79, 3) := by decide +kernel
theorem dX1_mostUrgent_56 : decode cX1_mostUrgent 56 = .ok (.iconst 2, 1) := by decide +kernel
theorem dX1_mostUrgent_57 : decode cX1_mostUrgent 57 = .ok (.aaload, 1) := by decide +kernel
theorem dX1_mostUrgent_58 : decode cX1_mostUrgent 58 = .ok (.iload 5, 2) := by decide +kernel
theorem dX1_mostUrgent_60 : decode cX1_mostUrgent 60 = .ok (.iaload, 1) := by decide +kernel
theorem dX1_mostUrgent_61 : decode cX1_mostUrgent 61 = .ok (.aload_n 1, 1) := by decide +kernel
theorem dX1_mostUrgent_62 : decode cX1_mostUrgent 62 = .ok (.getfield 79, 3) := by decide +kernel
theorem dX1_mostUrgent_65 : decode cX1_mostUrgent 65 = .ok (.iconst 2, 1) := by decide +kernel
theorem dX1_mostUrgent_66 : decode cX1_mostUrgent 66 = .ok (.aaload, 1) := by decide +kernel
theorem dX1_mostUrgent_67 : decode cX1_mostUrgent 67 = .ok (.iload 4, 2) := by decide +kernel
theorem dX1_mostUrgent_69 : decode cX1_mostUrgent 69 = .ok (.iaload, 1) := by decide +kernel
theorem dX1_mostUrgent_70 : decode cX1_mostUrgent 70 = .ok (.if_icmp .le 7, 3) := by decide +kernel
theorem dX1_mostUrgent_73 : decode cX1_mostUrgent 73 = .ok (.iload 5, 2) := by decide +kernel
theorem dX1_mostUrgent_75 : decode cX1_mostUrgent 75 = .ok (.istore 4, 2) := by decide +kernel
theorem dX1_mostUrgent_77 : decode cX1_mostUrgent 77 = .ok (.iinc 5 1, 3) := by decide +kernel
theorem dX1_mostUrgent_80 : decode cX1_mostUrgent 80 = .ok (.goto (-74), 3) := by decide +kernel
theorem dX1_mostUrgent_83 : decode cX1_mostUrgent 83 = .ok (.iload 4, 2) := by decide +kernel
theorem dX1_mostUrgent_85 : decode cX1_mostUrgent 85 = .ok (.ireturn, 1) := by decide +kernel
theorem dX1_isReady_0 : decode cX1_isReady 0 = .ok (.aload_n 0, 1) := by decide +kernel
theorem dX1_isReady_1 : decode cX1_isReady 1 = .ok (.getfield 26, 3) := by decide +kernel
theorem dX1_isReady_4 : decode cX1_isReady 4 = .ok (.iload_n 2, 1) := by decide +kernel
theorem dX1_isReady_5 : decode cX1_isReady 5 = .ok (.iaload, 1) := by decide +kernel
theorem dX1_isReady_6 : decode cX1_isReady 6 = .ok (.istore 4, 2) := by decide +kernel
theorem dX1_isReady_8 : decode cX1_isReady 8 = .ok (.iload 4, 2) := by decide +kernel
theorem dX1_isReady_10 : decode cX1_isReady 10 = .ok (.bipush 60, 2) := by decide +kernel
theorem dX1_isReady_12 : decode cX1_isReady 12 = .ok (.if_icmp .lt 5, 3) := by decide +kernel
theorem dX1_isReady_15 : decode cX1_isReady 15 = .ok (.iconst 0, 1) := by decide +kernel
theorem dX1_isReady_16 : decode cX1_isReady 16 = .ok (.ireturn, 1) := by decide +kernel
theorem dX1_isReady_17 : decode cX1_isReady 17 = .ok (.iload_n 2, 1) := by decide +kernel
theorem dX1_isReady_18 : decode cX1_isReady 18 = .ok (.iconst 3, 1) := by decide +kernel
theorem dX1_isReady_19 : decode cX1_isReady 19 = .ok (.irem, 1) := by decide +kernel
theorem dX1_isReady_20 : decode cX1_isReady 20 = .ok (.ifCond .ne 21, 3) := by decide +kernel
theorem dX1_isReady_23 : decode cX1_isReady 23 = .ok (.aload_n 0, 1) := by decide +kernel
theorem dX1_isReady_24 : decode cX1_isReady 24 = .ok (.getfield 35, 3) := by decide +kernel
theorem dX1_isReady_27 : decode cX1_isReady 27 = .ok (.iload_n 2, 1) := by decide +kernel
theorem dX1_isReady_28 : decode cX1_isReady 28 = .ok (.iconst 3, 1) := by decide +kernel
theorem dX1_isReady_29 : decode cX1_isReady 29 = .ok (.idiv, 1) := by decide +kernel
theorem dX1_isReady_30 : decode cX1_isReady 30 = .ok (.iaload, 1) := by decide +kernel
theorem dX1_isReady_31 : decode cX1_isReady 31 = .ok (.iload_n 3, 1) := by decide +kernel
theorem dX1_isReady_32 : decode cX1_isReady 32 = .ok (.if_icmp .gt 7, 3) := by decide +kernel
theorem dX1_isReady_35 : decode cX1_isReady 35 = .ok (.iconst 1, 1) := by decide +kernel
theorem dX1_isReady_36 : decode cX1_isReady 36 = .ok (.goto 4, 3) := by decide +kernel
theorem dX1_isReady_39 : decode cX1_isReady 39 = .ok (.iconst 0, 1) := by decide +kernel
theorem dX1_isReady_40 : decode cX1_isReady 40 = .ok (.ireturn, 1) := by decide +kernel
theorem dX1_isReady_41 : decode cX1_isReady 41 = .ok (.iload 4, 2) := by decide +kernel
theorem dX1_isReady_43 : decode cX1_isReady 43 = .ok (.aload_n 0, 1) := by decide +kernel
theorem dX1_isReady_44 : decode cX1_isReady 44 = .ok (.getfield 26, 3) := by decide +kernel
theorem dX1_isReady_47 : decode cX1_isReady 47 = .ok (.iload_n 2, 1) := by decide +kernel
theorem dX1_isReady_48 : decode cX1_isReady 48 = .ok (.iconst 1, 1) := by decide +kernel
theorem dX1_isReady_49 : decode cX1_isReady 49 = .ok (.isub, 1) := by decide +kernel
theorem dX1_isReady_50 : decode cX1_isReady 50 = .ok (.iaload, 1) := by decide +kernel
theorem dX1_isReady_51 : decode cX1_isReady 51 = .ok (.if_icmp .ge 31, 3) := by decide +kernel
theorem dX1_isReady_54 : decode cX1_isReady 54 = .ok (.aload_n 0, 1) := by decide +kernel
theorem dX1_isReady_55 : decode cX1_isReady 55 = .ok (.getfield 32, 3) := by decide +kernel
theorem dX1_isReady_58 : decode cX1_isReady 58 = .ok (.iload_n 2, 1) := by decide +kernel
theorem dX1_isReady_59 : decode cX1_isReady 59 = .ok (.iconst 1, 1) := by decide +kernel
theorem dX1_isReady_60 : decode cX1_isReady 60 = .ok (.isub, 1) := by decide +kernel
theorem dX1_isReady_61 : decode cX1_isReady 61 = .ok (.aaload, 1) := by decide +kernel
theorem dX1_isReady_62 : decode cX1_isReady 62 = .ok (.iload 4, 2) := by decide +kernel
theorem dX1_isReady_64 : decode cX1_isReady 64 = .ok (.iaload, 1) := by decide +kernel
theorem dX1_isReady_65 : decode cX1_isReady 65 = .ok (.aload_n 1, 1) := by decide +kernel
theorem dX1_isReady_66 : decode cX1_isReady 66 = .ok (.getfield 79, 3) := by decide +kernel
theorem dX1_isReady_69 : decode cX1_isReady 69 = .ok (.iconst 3, 1) := by decide +kernel
theorem dX1_isReady_70 : decode cX1_isReady 70 = .ok (.aaload, 1) := by decide +kernel
theorem dX1_isReady_71 : decode cX1_isReady 71 = .ok (.iload_n 2, 1) := by decide +kernel
theorem dX1_isReady_72 : decode cX1_isReady 72 = .ok (.iaload, 1) := by decide +kernel
theorem dX1_isReady_73 : decode cX1_isReady 73 = .ok (.iadd, 1) := by decide +kernel
theorem dX1_isReady_74 : decode cX1_isReady 74 = .ok (.iload_n 3, 1) := by decide +kernel
theorem dX1_isReady_75 : decode cX1_isReady 75 = .ok (.if_icmp .gt 7, 3) := by decide +kernel
theorem dX1_isReady_78 : decode cX1_isReady 78 = .ok (.iconst 1, 1) := by decide +kernel
theorem dX1_isReady_79 : decode cX1_isReady 79 = .ok (.goto 4, 3) := by decide +kernel
theorem dX1_isReady_82 : decode cX1_isReady 82 = .ok (.iconst 0, 1) := by decide +kernel
theorem dX1_isReady_83 : decode cX1_isReady 83 = .ok (.ireturn, 1) := by decide +kernel
theorem dX1_doTick_0 : decode cX1_doTick 0 = .ok (.aload_n 0, 1) := by decide +kernel
theorem dX1_doTick_1 : decode cX1_doTick 1 = .ok (.getfield 29, 3) := by decide +kernel
theorem dX1_doTick_4 : decode cX1_doTick 4 = .ok (.iload_n 2, 1) := by decide +kernel
theorem dX1_doTick_5 : decode cX1_doTick 5 = .ok (.dup2, 1) := by decide +kernel
theorem dX1_doTick_6 : decode cX1_doTick 6 = .ok (.iaload, 1) := by decide +kernel
theorem dX1_doTick_7 : decode cX1_doTick 7 = .ok (.iconst 1, 1) := by decide +kernel
theorem dX1_doTick_8 : decode cX1_doTick 8 = .ok (.iadd, 1) := by decide +kernel
theorem dX1_doTick_9 : decode cX1_doTick 9 = .ok (.iastore, 1) := by decide +kernel
theorem dX1_doTick_10 : decode cX1_doTick 10 = .ok (.aload_n 0, 1) := by decide +kernel
theorem dX1_doTick_11 : decode cX1_doTick 11 = .ok (.getfield 29, 3) := by decide +kernel
theorem dX1_doTick_14 : decode cX1_doTick 14 = .ok (.iload_n 2, 1) := by decide +kernel
theorem dX1_doTick_15 : decode cX1_doTick 15 = .ok (.iaload, 1) := by decide +kernel
theorem dX1_doTick_16 : decode cX1_doTick 16 = .ok (.aload_n 1, 1) := by decide +kernel
theorem dX1_doTick_17 : decode cX1_doTick 17 = .ok (.getfield 79, 3) := by decide +kernel
theorem dX1_doTick_20 : decode cX1_doTick 20 = .ok (.iconst 1, 1) := by decide +kernel
theorem dX1_doTick_21 : decode cX1_doTick 21 = .ok (.aaload, 1) := by decide +kernel
theorem dX1_doTick_22 : decode cX1_doTick 22 = .ok (.iload_n 2, 1) := by decide +kernel
theorem dX1_doTick_23 : decode cX1_doTick 23 = .ok (.iaload, 1) := by decide +kernel
theorem dX1_doTick_24 : decode cX1_doTick 24 = .ok (.if_icmp .ge 4, 3) := by decide +kernel
theorem dX1_doTick_27 : decode cX1_doTick 27 = .ok (.return_, 1) := by decide +kernel
theorem dX1_doTick_28 : decode cX1_doTick 28 = .ok (.iload_n 2, 1) := by decide +kernel
theorem dX1_doTick_29 : decode cX1_doTick 29 = .ok (.iconst 3, 1) := by decide +kernel
theorem dX1_doTick_30 : decode cX1_doTick 30 = .ok (.idiv, 1) := by decide +kernel
theorem dX1_doTick_31 : decode cX1_doTick 31 = .ok (.istore 4, 2) := by decide +kernel
theorem dX1_doTick_33 : decode cX1_doTick 33 = .ok (.aload_n 0, 1) := by decide +kernel
theorem dX1_doTick_34 : decode cX1_doTick 34 = .ok (.getfield 26, 3) := by decide +kernel
theorem dX1_doTick_37 : decode cX1_doTick 37 = .ok (.iload_n 2, 1) := by decide +kernel
theorem dX1_doTick_38 : decode cX1_doTick 38 = .ok (.iaload, 1) := by decide +kernel
theorem dX1_doTick_39 : decode cX1_doTick 39 = .ok (.istore 5, 2) := by decide +kernel
theorem dX1_doTick_41 : decode cX1_doTick 41 = .ok (.iload_n 3, 1) := by decide +kernel
theorem dX1_doTick_42 : decode cX1_doTick 42 = .ok (.iconst 1, 1) := by decide +kernel
theorem dX1_doTick_43 : decode cX1_doTick 43 = .ok (.iadd, 1) := by decide +kernel
theorem dX1_doTick_44 : decode cX1_doTick 44 = .ok (.aload_n 1, 1) := by decide +kernel
theorem dX1_doTick_45 : decode cX1_doTick 45 = .ok (.iload 4, 2) := by decide +kernel
theorem dX1_doTick_47 : decode cX1_doTick 47 = .ok (.iload 5, 2) := by decide +kernel
theorem dX1_doTick_49 : decode cX1_doTick 49 = .ok (.invokestatic 76, 3) := by decide +kernel
theorem dX1_doTick_52 : decode cX1_doTick 52 = .ok (.isub, 1) := by decide +kernel
theorem dX1_doTick_53 : decode cX1_doTick 53 = .ok (.istore 6, 2) := by decide +kernel
theorem dX1_doTick_55 : decode cX1_doTick 55 = .ok (.aload_n 0, 1) := by decide +kernel
theorem dX1_doTick_56 : decode cX1_doTick 56 = .ok (.getfield 32, 3) := by decide +kernel
theorem dX1_doTick_59 : decode cX1_doTick 59 = .ok (.iload_n 2, 1) := by decide +kernel
theorem dX1_doTick_60 : decode cX1_doTick 60 = .ok (.aaload, 1) := by decide +kernel
theorem dX1_doTick_61 : decode cX1_doTick 61 = .ok (.iload 5, 2) := by decide +kernel
theorem dX1_doTick_63 : decode cX1_doTick 63 = .ok (.iload_n 3, 1) := by decide +kernel
theorem dX1_doTick_64 : decode cX1_doTick 64 = .ok (.iconst 1, 1) := by decide +kernel
theorem dX1_doTick_65 : decode cX1_doTick 65 = .ok (.iadd, 1) := by decide +kernel
theorem dX1_doTick_66 : decode cX1_doTick 66 = .ok (.iastore, 1) := by decide +kernel
theorem dX1_doTick_67 : decode cX1_doTick 67 = .ok (.aload_n 0, 1) := by decide +kernel
theorem dX1_doTick_68 : decode cX1_doTick 68 = .ok (.getfield 29, 3) := by decide +kernel
theorem dX1_doTick_71 : decode cX1_doTick 71 = .ok (.iload_n 2, 1) := by decide +kernel
theorem dX1_doTick_72 : decode cX1_doTick 72 = .ok (.iconst 0, 1) := by decide +kernel
theorem dX1_doTick_73 : decode cX1_doTick 73 = .ok (.iastore, 1) := by decide +kernel
theorem dX1_doTick_74 : decode cX1_doTick 74 = .ok (.aload_n 0, 1) := by decide +kernel
theorem dX1_doTick_75 : decode cX1_doTick 75 = .ok (.getfield 26, 3) := by decide +kernel
theorem dX1_doTick_78 : decode cX1_doTick 78 = .ok (.iload_n 2, 1) := by decide +kernel
theorem dX1_doTick_79 : decode cX1_doTick 79 = .ok (.dup2, 1) := by decide +kernel
theorem dX1_doTick_80 : decode cX1_doTick 80 = .ok (.iaload, 1) := by decide +kernel
theorem dX1_doTick_81 : decode cX1_doTick 81 = .ok (.iconst 1, 1) := by decide +kernel
theorem dX1_doTick_82 : decode cX1_doTick 82 = .ok (.iadd, 1) := by decide +kernel
theorem dX1_doTick_83 : decode cX1_doTick 83 = .ok (.iastore, 1) := by decide +kernel
theorem dX1_doTick_84 : decode cX1_doTick 84 = .ok (.aload_n 0, 1) := by decide +kernel
theorem dX1_doTick_85 : decode cX1_doTick 85 = .ok (.dup, 1) := by decide +kernel
theorem dX1_doTick_86 : decode cX1_doTick 86 = .ok (.getfield 45, 3) := by decide +kernel
theorem dX1_doTick_89 : decode cX1_doTick 89 = .ok (.iconst 1, 1) := by decide +kernel
theorem dX1_doTick_90 : decode cX1_doTick 90 = .ok (.iadd, 1) := by decide +kernel
theorem dX1_doTick_91 : decode cX1_doTick 91 = .ok (.putfield 45, 3) := by decide +kernel
theorem dX1_doTick_94 : decode cX1_doTick 94 = .ok (.aload_n 0, 1) := by decide +kernel
theorem dX1_doTick_95 : decode cX1_doTick 95 = .ok (.getfield 20, 3) := by decide +kernel
theorem dX1_doTick_98 : decode cX1_doTick 98 = .ok (.iload_n 2, 1) := by decide +kernel
theorem dX1_doTick_99 : decode cX1_doTick 99 = .ok (.aload_n 0, 1) := by decide +kernel
theorem dX1_doTick_100 : decode cX1_doTick 100 = .ok (.getfield 20, 3) := by decide +kernel
theorem dX1_doTick_103 : decode cX1_doTick 103 = .ok (.iload_n 2, 1) := by decide +kernel
theorem dX1_doTick_104 : decode cX1_doTick 104 = .ok (.iaload, 1) := by decide +kernel
theorem dX1_doTick_105 : decode cX1_doTick 105 = .ok (.iload 6, 2) := by decide +kernel
theorem dX1_doTick_107 : decode cX1_doTick 107 = .ok (.invokestatic 70, 3) := by decide +kernel
theorem dX1_doTick_110 : decode cX1_doTick 110 = .ok (.iastore, 1) := by decide +kernel
theorem dX1_doTick_111 : decode cX1_doTick 111 = .ok (.aload_n 0, 1) := by decide +kernel
theorem dX1_doTick_112 : decode cX1_doTick 112 = .ok (.getfield 23, 3) := by decide +kernel
theorem dX1_doTick_115 : decode cX1_doTick 115 = .ok (.iload_n 2, 1) := by decide +kernel
theorem dX1_doTick_116 : decode cX1_doTick 116 = .ok (.aload_n 0, 1) := by decide +kernel
theorem dX1_doTick_117 : decode cX1_doTick 117 = .ok (.getfield 23, 3) := by decide +kernel
theorem dX1_doTick_120 : decode cX1_doTick 120 = .ok (.iload_n 2, 1) := by decide +kernel
theorem dX1_doTick_121 : decode cX1_doTick 121 = .ok (.iaload, 1) := by decide +kernel
theorem dX1_doTick_122 : decode cX1_doTick 122 = .ok (.iconst (-1), 1) := by decide +kernel
theorem dX1_doTick_123 : decode cX1_doTick 123 = .ok (.if_icmp .ne 8, 3) := by decide +kernel
theorem dX1_doTick_126 : decode cX1_doTick 126 = .ok (.iload 6, 2) := by decide +kernel
theorem dX1_doTick_128 : decode cX1_doTick 128 = .ok (.goto 14, 3) := by decide +kernel
theorem dX1_doTick_131 : decode cX1_doTick 131 = .ok (.aload_n 0, 1) := by decide +kernel
theorem dX1_doTick_132 : decode cX1_doTick 132 = .ok (.getfield 23, 3) := by decide +kernel
theorem dX1_doTick_135 : decode cX1_doTick 135 = .ok (.iload_n 2, 1) := by decide +kernel
theorem dX1_doTick_136 : decode cX1_doTick 136 = .ok (.iaload, 1) := by decide +kernel
theorem dX1_doTick_137 : decode cX1_doTick 137 = .ok (.iload 6, 2) := by decide +kernel
theorem dX1_doTick_139 : decode cX1_doTick 139 = .ok (.invokestatic 90, 3) := by decide +kernel
theorem dX1_doTick_142 : decode cX1_doTick 142 = .ok (.iastore, 1) := by decide +kernel
theorem dX1_doTick_143 : decode cX1_doTick 143 = .ok (.iload_n 2, 1) := by decide +kernel
theorem dX1_doTick_144 : decode cX1_doTick 144 = .ok (.iconst 3, 1) := by decide +kernel
theorem dX1_doTick_145 : decode cX1_doTick 145 = .ok (.irem, 1) := by decide +kernel
theorem dX1_doTick_146 : decode cX1_doTick 146 = .ok (.ifCond .ne 30, 3) := by decide +kernel
theorem dX1_doTick_149 : decode cX1_doTick 149 = .ok (.aload_n 0, 1) := by decide +kernel
theorem dX1_doTick_150 : decode cX1_doTick 150 = .ok (.getfield 35, 3) := by decide +kernel
theorem dX1_doTick_153 : decode cX1_doTick 153 = .ok (.iload 4, 2) := by decide +kernel
theorem dX1_doTick_155 : decode cX1_doTick 155 = .ok (.aload_n 0, 1) := by decide +kernel
theorem dX1_doTick_156 : decode cX1_doTick 156 = .ok (.getfield 35, 3) := by decide +kernel
theorem dX1_doTick_159 : decode cX1_doTick 159 = .ok (.iload 4, 2) := by decide +kernel
theorem dX1_doTick_161 : decode cX1_doTick 161 = .ok (.iaload, 1) := by decide +kernel
theorem dX1_doTick_162 : decode cX1_doTick 162 = .ok (.aload_n 1, 1) := by decide +kernel
theorem dX1_doTick_163 : decode cX1_doTick 163 = .ok (.iload 4, 2) := by decide +kernel
theorem dX1_doTick_165 : decode cX1_doTick 165 = .ok (.iload 5, 2) := by decide +kernel
theorem dX1_doTick_167 : decode cX1_doTick 167 = .ok (.iconst 1, 1) := by decide +kernel
theorem dX1_doTick_168 : decode cX1_doTick 168 = .ok (.iadd, 1) := by decide +kernel
theorem dX1_doTick_169 : decode cX1_doTick 169 = .ok (.invokestatic 54, 3) := by decide +kernel
theorem dX1_doTick_172 : decode cX1_doTick 172 = .ok (.invokestatic 70, 3) := by decide +kernel
theorem dX1_doTick_175 : decode cX1_doTick 175 = .ok (.iastore, 1) := by decide +kernel
theorem dX1_doTick_176 : decode cX1_doTick 176 = .ok (.return_, 1) := by decide +kernel
theorem dX2_init_0 : decode cX2_init 0 = .ok (.aload_n 0, 1) := by decide +kernel
theorem dX2_init_1 : decode cX2_init 1 = .ok (.invokespecial 3, 3) := by decide +kernel
theorem dX2_init_4 : decode cX2_init 4 = .ok (.aload_n 0, 1) := by decide +kernel
theorem dX2_init_5 : decode cX2_init 5 = .ok (.iconst 5, 1) := by decide +kernel
theorem dX2_init_6 : decode cX2_init 6 = .ok (.iconst 3, 1) := by decide +kernel
theorem dX2_init_7 : decode cX2_init 7 = .ok (.multianewarray 9 2, 4) := by decide +kernel
theorem dX2_init_11 : decode cX2_init 11 = .ok (.putfield 11, 3) := by decide +kernel
theorem dX2_init_14 : decode cX2_init 14 = .ok (.aload_n 0, 1) := by decide +kernel
theorem dX2_init_15 : decode cX2_init 15 = .ok (.iconst 4, 1) := by decide +kernel
theorem dX2_init_16 : decode cX2_init 16 = .ok (.bipush 9, 2) := by decide +kernel
theorem dX2_init_18 : decode cX2_init 18 = .ok (.multianewarray 9 2, 4) := by decide +kernel
theorem dX2_init_22 : decode cX2_init 22 = .ok (.putfield 16, 3) := by decide +kernel
theorem dX2_init_25 : decode cX2_init 25 = .ok (.aload_n 0, 1) := by decide +kernel
theorem dX2_init_26 : decode cX2_init 26 = .ok (.iconst 3, 1) := by decide +kernel
theorem dX2_init_27 : decode cX2_init 27 = .ok (.newarray .int, 2) := by decide +kernel
theorem dX2_init_29 : decode cX2_init 29 = .ok (.putfield 19, 3) := by decide +kernel
theorem dX2_init_32 : decode cX2_init 32 = .ok (.aload_n 0, 1) := by decide +kernel
theorem dX2_init_33 : decode cX2_init 33 = .ok (.getfield 11, 3) := by decide +kernel
theorem dX2_init_36 : decode cX2_init 36 = .ok (.iconst 0, 1) := by decide +kernel
theorem dX2_init_37 : decode cX2_init 37 = .ok (.aaload, 1) := by decide +kernel
theorem dX2_init_38 : decode cX2_init 38 = .ok (.bipush 20, 2) := by decide +kernel
theorem dX2_init_40 : decode cX2_init 40 = .ok (.invokestatic 23, 3) := by decide +kernel
theorem dX2_init_43 : decode cX2_init 43 = .ok (.return_, 1) := by decide +kernel
theorem dX2_append_0 : decode cX2_append 0 = .ok (.aload_n 0, 1) := by decide +kernel
theorem dX2_append_1 : decode cX2_append 1 = .ok (.getfield 19, 3) := by decide +kernel
theorem dX2_append_4 : decode cX2_append 4 = .ok (.iload_n 1, 1) := by decide +kernel
theorem dX2_append_5 : decode cX2_append 5 = .ok (.iaload, 1) := by decide +kernel
theorem dX2_append_6 : decode cX2_append 6 = .ok (.istore 6, 2) := by decide +kernel
theorem dX2_append_8 : decode cX2_append 8 = .ok (.iload_n 1, 1) := by decide +kernel
theorem dX2_append_9 : decode cX2_append 9 = .ok (.iconst 3, 1) := by decide +kernel
theorem dX2_append_10 : decode cX2_append 10 = .ok (.imul, 1) := by decide +kernel
theorem dX2_append_11 : decode cX2_append 11 = .ok (.iload 6, 2) := by decide +kernel
theorem dX2_append_13 : decode cX2_append 13 = .ok (.iadd, 1) := by decide +kernel
theorem dX2_append_14 : decode cX2_append 14 = .ok (.istore 7, 2) := by decide +kernel
theorem dX2_append_16 : decode cX2_append 16 = .ok (.aload_n 0, 1) := by decide +kernel
theorem dX2_append_17 : decode cX2_append 17 = .ok (.getfield 16, 3) := by decide +kernel
theorem dX2_append_20 : decode cX2_append 20 = .ok (.iconst 0, 1) := by decide +kernel
theorem dX2_append_21 : decode cX2_append 21 = .ok (.aaload, 1) := by decide +kernel
theorem dX2_append_22 : decode cX2_append 22 = .ok (.iload 7, 2) := by decide +kernel
theorem dX2_append_24 : decode cX2_append 24 = .ok (.iload_n 2, 1) := by decide +kernel
theorem dX2_append_25 : decode cX2_append 25 = .ok (.iastore, 1) := by decide +kernel
theorem dX2_append_26 : decode cX2_append 26 = .ok (.aload_n 0, 1) := by decide +kernel
theorem dX2_append_27 : decode cX2_append 27 = .ok (.getfield 16, 3) := by decide +kernel
theorem dX2_append_30 : decode cX2_append 30 = .ok (.iconst 1, 1) := by decide +kernel
theorem dX2_append_31 : decode cX2_append 31 = .ok (.aaload, 1) := by decide +kernel
theorem dX2_append_32 : decode cX2_append 32 = .ok (.iload 7, 2) := by decide +kernel
theorem dX2_append_34 : decode cX2_append 34 = .ok (.iload_n 3, 1) := by decide +kernel
theorem dX2_append_35 : decode cX2_append 35 = .ok (.iastore, 1) := by decide +kernel
theorem dX2_append_36 : decode cX2_append 36 = .ok (.aload_n 0, 1) := by decide +kernel
theorem dX2_append_37 : decode cX2_append 37 = .ok (.getfield 16, 3) := by decide +kernel
theorem dX2_append_40 : decode cX2_append 40 = .ok (.iconst 2, 1) := by decide +kernel
theorem dX2_append_41 : decode cX2_append 41 = .ok (.aaload, 1) := by decide +kernel
theorem dX2_append_42 : decode cX2_append 42 = .ok (.iload 7, 2) := by decide +kernel
theorem dX2_append_44 : decode cX2_append 44 = .ok (.iload 4, 2) := by decide +kernel
theorem dX2_append_46 : decode cX2_append 46 = .ok (.iastore, 1) := by decide +kernel
theorem dX2_append_47 : decode cX2_append 47 = .ok (.aload_n 0, 1) := by decide +kernel
theorem dX2_append_48 : decode cX2_append 48 = .ok (.getfield 16, 3) := by decide +kernel
theorem dX2_append_51 : decode cX2_append 51 = .ok (.iconst 3, 1) := by decide +kernel
theorem dX2_append_52 : decode cX2_append 52 = .ok (.aaload, 1) := by decide +kernel
theorem dX2_append_53 : decode cX2_append 53 = .ok (.iload 7, 2) := by decide +kernel
theorem dX2_append_55 : decode cX2_append 55 = .ok (.iload 5, 2) := by decide +kernel
theorem dX2_append_57 : decode cX2_append 57 = .ok (.iastore, 1) := by decide +kernel
theorem dX2_append_58 : decode cX2_append 58 = .ok (.aload_n 0, 1) := by decide +kernel
theorem dX2_append_59 : decode cX2_append 59 = .ok (.getfield 19, 3) := by decide +kernel
theorem dX2_append_62 : decode cX2_append 62 = .ok (.iload_n 1, 1) := by decide +kernel
theorem dX2_append_63 : decode cX2_append 63 = .ok (.iload 6, 2) := by decide +kernel
theorem dX2_append_65 : decode cX2_append 65 = .ok (.iconst 1, 1) := by decide +kernel
theorem dX2_append_66 : decode cX2_append 66 = .ok (.iadd, 1) := by decide +kernel
theorem dX2_append_67 : decode cX2_append 67 = .ok (.iastore, 1) := by decide +kernel
theorem dX2_append_68 : decode cX2_append 68 = .ok (.iload 6, 2) := by decide +kernel
theorem dX2_append_70 : decode cX2_append 70 = .ok (.ireturn, 1) := by decide +kernel
theorem dX2_numberOf_0 : decode cX2_numberOf 0 = .ok (.iload_n 1, 1) := by decide +kernel
theorem dX2_numberOf_1 : decode cX2_numberOf 1 = .ok (.invokestatic 29, 3) := by decide +kernel
theorem dX2_numberOf_4 : decode cX2_numberOf 4 = .ok (.ifCond .eq 20, 3) := by decide +kernel
theorem dX2_numberOf_7 : decode cX2_numberOf 7 = .ok (.iload_n 2, 1) := by decide +kernel
theorem dX2_numberOf_8 : decode cX2_numberOf 8 = .ok (.i2l, 1) := by decide +kernel
theorem dX2_numberOf_9 : decode cX2_numberOf 9 = .ok (.iconst 0, 1) := by decide +kernel
theorem dX2_numberOf_10 : decode cX2_numberOf 10 = .ok (.aload_n 0, 1) := by decide +kernel
theorem dX2_numberOf_11 : decode cX2_numberOf 11 = .ok (.getfield 19, 3) := by decide +kernel
theorem dX2_numberOf_14 : decode cX2_numberOf 14 = .ok (.iload_n 1, 1) := by decide +kernel
theorem dX2_numberOf_15 : decode cX2_numberOf 15 = .ok (.iaload, 1) := by decide +kernel
theorem dX2_numberOf_16 : decode cX2_numberOf 16 = .ok (.iconst 1, 1) := by decide +kernel
theorem dX2_numberOf_17 : decode cX2_numberOf 17 = .ok (.isub, 1) := by decide +kernel
theorem dX2_numberOf_18 : decode cX2_numberOf 18 = .ok (.invokestatic 33, 3) := by decide +kernel
theorem dX2_numberOf_21 : decode cX2_numberOf 21 = .ok (.ifCond .ne 5, 3) := by decide +kernel
theorem dX2_numberOf_24 : decode cX2_numberOf 24 = .ok (.iconst (-1), 1) := by decide +kernel
theorem dX2_numberOf_25 : decode cX2_numberOf 25 = .ok (.ireturn, 1) := by decide +kernel
theorem dX2_numberOf_26 : decode cX2_numberOf 26 = .ok (.iload_n 1, 1) := by decide +kernel
theorem dX2_numberOf_27 : decode cX2_numberOf 27 = .ok (.iconst 3, 1) := by decide +kernel
theorem dX2_numberOf_28 : decode cX2_numberOf 28 = .ok (.imul, 1) := by decide +kernel
theorem dX2_numberOf_29 : decode cX2_numberOf 29 = .ok (.iload_n 2, 1) := by decide +kernel
theorem dX2_numberOf_30 : decode cX2_numberOf 30 = .ok (.iadd, 1) := by decide +kernel
theorem dX2_numberOf_31 : decode cX2_numberOf 31 = .ok (.ireturn, 1) := by decide +kernel
theorem dX2_isStep_0 : decode cX2_isStep 0 = .ok (.iload_n 1, 1) := by decide +kernel
theorem dX2_isStep_1 : decode cX2_isStep 1 = .ok (.iconst 3, 1) := by decide +kernel
theorem dX2_isStep_2 : decode cX2_isStep 2 = .ok (.irem, 1) := by decide +kernel
theorem dX2_isStep_3 : decode cX2_isStep 3 = .ok (.aload_n 0, 1) := by decide +kernel
theorem dX2_isStep_4 : decode cX2_isStep 4 = .ok (.getfield 19, 3) := by decide +kernel
theorem dX2_isStep_7 : decode cX2_isStep 7 = .ok (.iload_n 1, 1) := by decide +kernel
theorem dX2_isStep_8 : decode cX2_isStep 8 = .ok (.iconst 3, 1) := by decide +kernel
theorem dX2_isStep_9 : decode cX2_isStep 9 = .ok (.idiv, 1) := by decide +kernel
theorem dX2_isStep_10 : decode cX2_isStep 10 = .ok (.iaload, 1) := by decide +kernel
theorem dX2_isStep_11 : decode cX2_isStep 11 = .ok (.if_icmp .ge 7, 3) := by decide +kernel
theorem dX2_isStep_14 : decode cX2_isStep 14 = .ok (.iconst 1, 1) := by decide +kernel
theorem dX2_isStep_15 : decode cX2_isStep 15 = .ok (.goto 4, 3) := by decide +kernel
theorem dX2_isStep_18 : decode cX2_isStep 18 = .ok (.iconst 0, 1) := by decide +kernel
theorem dX2_isStep_19 : decode cX2_isStep 19 = .ok (.ireturn, 1) := by decide +kernel
theorem dX2_lastOf_0 : decode cX2_lastOf 0 = .ok (.iload_n 1, 1) := by decide +kernel
theorem dX2_lastOf_1 : decode cX2_lastOf 1 = .ok (.iconst 3, 1) := by decide +kernel
theorem dX2_lastOf_2 : decode cX2_lastOf 2 = .ok (.imul, 1) := by decide +kernel
theorem dX2_lastOf_3 : decode cX2_lastOf 3 = .ok (.aload_n 0, 1) := by decide +kernel
theorem dX2_lastOf_4 : decode cX2_lastOf 4 = .ok (.getfield 19, 3) := by decide +kernel
theorem dX2_lastOf_7 : decode cX2_lastOf 7 = .ok (.iload_n 1, 1) := by decide +kernel
theorem dX2_lastOf_8 : decode cX2_lastOf 8 = .ok (.iaload, 1) := by decide +kernel
theorem dX2_lastOf_9 : decode cX2_lastOf 9 = .ok (.iadd, 1) := by decide +kernel
theorem dX2_lastOf_10 : decode cX2_lastOf 10 = .ok (.iconst 1, 1) := by decide +kernel
theorem dX2_lastOf_11 : decode cX2_lastOf 11 = .ok (.isub, 1) := by decide +kernel
theorem dX2_lastOf_12 : decode cX2_lastOf 12 = .ok (.ireturn, 1) := by decide +kernel
theorem dX2_stepsInAll_0 : decode cX2_stepsInAll 0 = .ok (.aload_n 0, 1) := by decide +kernel
theorem dX2_stepsInAll_1 : decode cX2_stepsInAll 1 = .ok (.getfield 19, 3) := by decide +kernel
theorem dX2_stepsInAll_4 : decode cX2_stepsInAll 4 = .ok (.iconst 0, 1) := by decide +kernel
theorem dX2_stepsInAll_5 : decode cX2_stepsInAll 5 = .ok (.iaload, 1) := by decide +kernel
theorem dX2_stepsInAll_6 : decode cX2_stepsInAll 6 = .ok (.aload_n 0, 1) := by decide +kernel
theorem dX2_stepsInAll_7 : decode cX2_stepsInAll 7 = .ok (.getfield 19, 3) := by decide +kernel
theorem dX2_stepsInAll_10 : decode cX2_stepsInAll 10 = .ok (.iconst 1, 1) := by decide +kernel
theorem dX2_stepsInAll_11 : decode cX2_stepsInAll 11 = .ok (.iaload, 1) := by decide +kernel
theorem dX2_stepsInAll_12 : decode cX2_stepsInAll 12 = .ok (.iadd, 1) := by decide +kernel
theorem dX2_stepsInAll_13 : decode cX2_stepsInAll 13 = .ok (.aload_n 0, 1) := by decide +kernel
theorem dX2_stepsInAll_14 : decode cX2_stepsInAll 14 = .ok (.getfield 19, 3) := by decide +kernel
theorem dX2_stepsInAll_17 : decode cX2_stepsInAll 17 = .ok (.iconst 2, 1) := by decide +kernel
theorem dX2_stepsInAll_18 : decode cX2_stepsInAll 18 = .ok (.iaload, 1) := by decide +kernel
theorem dX2_stepsInAll_19 : decode cX2_stepsInAll 19 = .ok (.iadd, 1) := by decide +kernel
theorem dX2_stepsInAll_20 : decode cX2_stepsInAll 20 = .ok (.ireturn, 1) := by decide +kernel
theorem dX2_periodOf_0 : decode cX2_periodOf 0 = .ok (.iconst 1, 1) := by decide +kernel
theorem dX2_periodOf_1 : decode cX2_periodOf 1 = .ok (.aload_n 0, 1) := by decide +kernel
theorem dX2_periodOf_2 : decode cX2_periodOf 2 = .ok (.getfield 11, 3) := by decide +kernel
theorem dX2_periodOf_5 : decode cX2_periodOf 5 = .ok (.iconst 0, 1) := by decide +kernel
theorem dX2_periodOf_6 : decode cX2_periodOf 6 = .ok (.aaload, 1) := by decide +kernel
theorem dX2_periodOf_7 : decode cX2_periodOf 7 = .ok (.iload_n 1, 1) := by decide +kernel
theorem dX2_periodOf_8 : decode cX2_periodOf 8 = .ok (.iaload, 1) := by decide +kernel
theorem dX2_periodOf_9 : decode cX2_periodOf 9 = .ok (.invokestatic 37, 3) := by decide +kernel
theorem dX2_periodOf_12 : decode cX2_periodOf 12 = .ok (.ireturn, 1) := by decide +kernel
theorem dX2_earliestOf_0 : decode cX2_earliestOf 0 = .ok (.aload_n 0, 1) := by decide +kernel
theorem dX2_earliestOf_1 : decode cX2_earliestOf 1 = .ok (.getfield 16, 3) := by decide +kernel
theorem dX2_earliestOf_4 : decode cX2_earliestOf 4 = .ok (.iconst 3, 1) := by decide +kernel
theorem dX2_earliestOf_5 : decode cX2_earliestOf 5 = .ok (.aaload, 1) := by decide +kernel
theorem dX2_earliestOf_6 : decode cX2_earliestOf 6 = .ok (.iload_n 1, 1) := by decide +kernel
theorem dX2_earliestOf_7 : decode cX2_earliestOf 7 = .ok (.iaload, 1) := by decide +kernel
theorem dX2_earliestOf_8 : decode cX2_earliestOf 8 = .ok (.istore_n 2, 1) := by decide +kernel
theorem dX2_earliestOf_9 : decode cX2_earliestOf 9 = .ok (.iload_n 1, 1) := by decide +kernel
theorem dX2_earliestOf_10 : decode cX2_earliestOf 10 = .ok (.iload_n 1, 1) := by decide +kernel
theorem dX2_earliestOf_11 : decode cX2_earliestOf 11 = .ok (.iconst 3, 1) := by decide +kernel
theorem dX2_earliestOf_12 : decode cX2_earliestOf 12 = .ok (.irem, 1) := by decide +kernel
theorem dX2_earliestOf_13 : decode cX2_earliestOf 13 = .ok (.isub, 1) := by decide +kernel
theorem dX2_earliestOf_14 : decode cX2_earliestOf 14 = .ok (.istore_n 3, 1) := by decide +kernel
theorem dX2_earliestOf_15 : decode cX2_earliestOf 15 = .ok (.iload_n 3, 1) := by decide +kernel
theorem dX2_earliestOf_16 : decode cX2_earliestOf 16 = .ok (.iload_n 1, 1) := by decide +kernel
theorem dX2_earliestOf_17 : decode cX2_earliestOf 17 = .ok (.if_icmp .ge 29, 3) := by decide +kernel
theorem dX2_earliestOf_20 : decode cX2_earliestOf 20 = .ok (.iload_n 2, 1) := by decide +kernel
theorem dX2_earliestOf_21 : decode cX2_earliestOf 21 = .ok (.aload_n 0, 1) := by decide +kernel
theorem dX2_earliestOf_22 : decode cX2_earliestOf 22 = .ok (.getfield 16, 3) := by decide +kernel
theorem dX2_earliestOf_25 : decode cX2_earliestOf 25 = .ok (.iconst 3, 1) := by decide +kernel
theorem dX2_earliestOf_26 : decode cX2_earliestOf 26 = .ok (.aaload, 1) := by decide +kernel
theorem dX2_earliestOf_27 : decode cX2_earliestOf 27 = .ok (.iload_n 3, 1) := by decide +kernel
theorem dX2_earliestOf_28 : decode cX2_earliestOf 28 = .ok (.iaload, 1) := by decide +kernel
theorem dX2_earliestOf_29 : decode cX2_earliestOf 29 = .ok (.aload_n 0, 1) := by decide +kernel
theorem dX2_earliestOf_30 : decode cX2_earliestOf 30 = .ok (.getfield 16, 3) := by decide +kernel
theorem dX2_earliestOf_33 : decode cX2_earliestOf 33 = .ok (.iconst 1, 1) := by decide +kernel
theorem dX2_earliestOf_34 : decode cX2_earliestOf 34 = .ok (.aaload, 1) := by decide +kernel
theorem dX2_earliestOf_35 : decode cX2_earliestOf 35 = .ok (.iload_n 3, 1) := by decide +kernel
theorem dX2_earliestOf_36 : decode cX2_earliestOf 36 = .ok (.iaload, 1) := by decide +kernel
theorem dX2_earliestOf_37 : decode cX2_earliestOf 37 = .ok (.iadd, 1) := by decide +kernel
theorem dX2_earliestOf_38 : decode cX2_earliestOf 38 = .ok (.iadd, 1) := by decide +kernel
theorem dX2_earliestOf_39 : decode cX2_earliestOf 39 = .ok (.istore_n 2, 1) := by decide +kernel
theorem dX2_earliestOf_40 : decode cX2_earliestOf 40 = .ok (.iinc 3 1, 3) := by decide +kernel
theorem dX2_earliestOf_43 : decode cX2_earliestOf 43 = .ok (.goto (-28), 3) := by decide +kernel
theorem dX2_earliestOf_46 : decode cX2_earliestOf 46 = .ok (.iload_n 2, 1) := by decide +kernel
theorem dX2_earliestOf_47 : decode cX2_earliestOf 47 = .ok (.ireturn, 1) := by decide +kernel
theorem dX2_isRival_0 : decode cX2_isRival 0 = .ok (.iload_n 2, 1) := by decide +kernel
theorem dX2_isRival_1 : decode cX2_isRival 1 = .ok (.iload_n 1, 1) := by decide +kernel
theorem dX2_isRival_2 : decode cX2_isRival 2 = .ok (.if_icmp .eq 53, 3) := by decide +kernel
theorem dX2_isRival_5 : decode cX2_isRival 5 = .ok (.aload_n 0, 1) := by decide +kernel
theorem dX2_isRival_6 : decode cX2_isRival 6 = .ok (.iload_n 2, 1) := by decide +kernel
theorem dX2_isRival_7 : decode cX2_isRival 7 = .ok (.invokevirtual 43, 3) := by decide +kernel
theorem dX2_isRival_10 : decode cX2_isRival 10 = .ok (.ifCond .eq 45, 3) := by decide +kernel
theorem dX2_isRival_13 : decode cX2_isRival 13 = .ok (.aload_n 0, 1) := by decide +kernel
theorem dX2_isRival_14 : decode cX2_isRival 14 = .ok (.getfield 16, 3) := by decide +kernel
theorem dX2_isRival_17 : decode cX2_isRival 17 = .ok (.iconst 0, 1) := by decide +kernel
theorem dX2_isRival_18 : decode cX2_isRival 18 = .ok (.aaload, 1) := by decide +kernel
theorem dX2_isRival_19 : decode cX2_isRival 19 = .ok (.iload_n 2, 1) := by decide +kernel
theorem dX2_isRival_20 : decode cX2_isRival 20 = .ok (.iaload, 1) := by decide +kernel
theorem dX2_isRival_21 : decode cX2_isRival 21 = .ok (.aload_n 0, 1) := by decide +kernel
theorem dX2_isRival_22 : decode cX2_isRival 22 = .ok (.getfield 16, 3) := by decide +kernel
theorem dX2_isRival_25 : decode cX2_isRival 25 = .ok (.iconst 0, 1) := by decide +kernel
theorem dX2_isRival_26 : decode cX2_isRival 26 = .ok (.aaload, 1) := by decide +kernel
theorem dX2_isRival_27 : decode cX2_isRival 27 = .ok (.iload_n 1, 1) := by decide +kernel
theorem dX2_isRival_28 : decode cX2_isRival 28 = .ok (.iaload, 1) := by decide +kernel
theorem dX2_isRival_29 : decode cX2_isRival 29 = .ok (.if_icmp .ne 26, 3) := by decide +kernel
theorem dX2_isRival_32 : decode cX2_isRival 32 = .ok (.aload_n 0, 1) := by decide +kernel
theorem dX2_isRival_33 : decode cX2_isRival 33 = .ok (.getfield 16, 3) := by decide +kernel
theorem dX2_isRival_36 : decode cX2_isRival 36 = .ok (.iconst 2, 1) := by decide +kernel
theorem dX2_isRival_37 : decode cX2_isRival 37 = .ok (.aaload, 1) := by decide +kernel
theorem dX2_isRival_38 : decode cX2_isRival 38 = .ok (.iload_n 2, 1) := by decide +kernel
theorem dX2_isRival_39 : decode cX2_isRival 39 = .ok (.iaload, 1) := by decide +kernel
theorem dX2_isRival_40 : decode cX2_isRival 40 = .ok (.aload_n 0, 1) := by decide +kernel
theorem dX2_isRival_41 : decode cX2_isRival 41 = .ok (.getfield 16, 3) := by decide +kernel
theorem dX2_isRival_44 : decode cX2_isRival 44 = .ok (.iconst 2, 1) := by decide +kernel
theorem dX2_isRival_45 : decode cX2_isRival 45 = .ok (.aaload, 1) := by decide +kernel
theorem dX2_isRival_46 : decode cX2_isRival 46 = .ok (.iload_n 1, 1) := by decide +kernel
theorem dX2_isRival_47 : decode cX2_isRival 47 = .ok (.iaload, 1) := by decide +kernel
theorem dX2_isRival_48 : decode cX2_isRival 48 = .ok (.if_icmp .lt 7, 3) := by decide +kernel
theorem dX2_isRival_51 : decode cX2_isRival 51 = .ok (.iconst 1, 1) := by decide +kernel
theorem dX2_isRival_52 : decode cX2_isRival 52 = .ok (.goto 4, 3) := by decide +kernel
theorem dX2_isRival_55 : decode cX2_isRival 55 = .ok (.iconst 0, 1) := by decide +kernel
theorem dX2_isRival_56 : decode cX2_isRival 56 = .ok (.ireturn, 1) := by decide +kernel
theorem dX2_rivalsOf_0 : decode cX2_rivalsOf 0 = .ok (.iconst 0, 1) := by decide +kernel
theorem dX2_rivalsOf_1 : decode cX2_rivalsOf 1 = .ok (.istore_n 2, 1) := by decide +kernel
theorem dX2_rivalsOf_2 : decode cX2_rivalsOf 2 = .ok (.iconst 0, 1) := by decide +kernel
theorem dX2_rivalsOf_3 : decode cX2_rivalsOf 3 = .ok (.istore_n 3, 1) := by decide +kernel
theorem dX2_rivalsOf_4 : decode cX2_rivalsOf 4 = .ok (.iload_n 3, 1) := by decide +kernel
theorem dX2_rivalsOf_5 : decode cX2_rivalsOf 5 = .ok (.bipush 9, 2) := by decide +kernel
theorem dX2_rivalsOf_7 : decode cX2_rivalsOf 7 = .ok (.if_icmp .ge 21, 3) := by decide +kernel
theorem dX2_rivalsOf_10 : decode cX2_rivalsOf 10 = .ok (.aload_n 0, 1) := by decide +kernel
theorem dX2_rivalsOf_11 : decode cX2_rivalsOf 11 = .ok (.iload_n 1, 1) := by decide +kernel
theorem dX2_rivalsOf_12 : decode cX2_rivalsOf 12 = .ok (.iload_n 3, 1) := by decide +kernel
theorem dX2_rivalsOf_13 : decode cX2_rivalsOf 13 = .ok (.invokevirtual 46, 3) := by decide +kernel
theorem dX2_rivalsOf_16 : decode cX2_rivalsOf 16 = .ok (.ifCond .eq 6, 3) := by decide +kernel
theorem dX2_rivalsOf_19 : decode cX2_rivalsOf 19 = .ok (.iinc 2 1, 3) := by decide +kernel
theorem dX2_rivalsOf_22 : decode cX2_rivalsOf 22 = .ok (.iinc 3 1, 3) := by decide +kernel
theorem dX2_rivalsOf_25 : decode cX2_rivalsOf 25 = .ok (.goto (-21), 3) := by decide +kernel
theorem dX2_rivalsOf_28 : decode cX2_rivalsOf 28 = .ok (.iload_n 2, 1) := by decide +kernel
theorem dX2_rivalsOf_29 : decode cX2_rivalsOf 29 = .ok (.ireturn, 1) := by decide +kernel
theorem dX2_loadBelow_0 : decode cX2_loadBelow 0 = .ok (.aload_n 0, 1) := by decide +kernel
theorem dX2_loadBelow_1 : decode cX2_loadBelow 1 = .ok (.iconst 0, 1) := by decide +kernel
theorem dX2_loadBelow_2 : decode cX2_loadBelow 2 = .ok (.invokevirtual 50, 3) := by decide +kernel
theorem dX2_loadBelow_5 : decode cX2_loadBelow 5 = .ok (.aload_n 0, 1) := by decide +kernel
theorem dX2_loadBelow_6 : decode cX2_loadBelow 6 = .ok (.iconst 1, 1) := by decide +kernel
theorem dX2_loadBelow_7 : decode cX2_loadBelow 7 = .ok (.invokevirtual 50, 3) := by decide +kernel
theorem dX2_loadBelow_10 : decode cX2_loadBelow 10 = .ok (.imul, 1) := by decide +kernel
theorem dX2_loadBelow_11 : decode cX2_loadBelow 11 = .ok (.aload_n 0, 1) := by decide +kernel
theorem dX2_loadBelow_12 : decode cX2_loadBelow 12 = .ok (.iconst 2, 1) := by decide +kernel
theorem dX2_loadBelow_13 : decode cX2_loadBelow 13 = .ok (.invokevirtual 50, 3) := by decide +kernel
theorem dX2_loadBelow_16 : decode cX2_loadBelow 16 = .ok (.imul, 1) := by decide +kernel
theorem dX2_loadBelow_17 : decode cX2_loadBelow 17 = .ok (.ireturn, 1) := by decide +kernel
theorem dX2_loadAbove_0 : decode cX2_loadAbove 0 = .ok (.aload_n 0, 1) := by decide +kernel
theorem dX2_loadAbove_1 : decode cX2_loadAbove 1 = .ok (.invokevirtual 54, 3) := by decide +kernel
theorem dX2_loadAbove_4 : decode cX2_loadAbove 4 = .ok (.istore_n 2, 1) := by decide +kernel
theorem dX2_loadAbove_5 : decode cX2_loadAbove 5 = .ok (.iconst 0, 1) := by decide +kernel
theorem dX2_loadAbove_6 : decode cX2_loadAbove 6 = .ok (.istore_n 3, 1) := by decide +kernel
theorem dX2_loadAbove_7 : decode cX2_loadAbove 7 = .ok (.iconst 0, 1) := by decide +kernel
theorem dX2_loadAbove_8 : decode cX2_loadAbove 8 = .ok (.istore 4, 2) := by decide +kernel
theorem dX2_loadAbove_10 : decode cX2_loadAbove 10 = .ok (.iload 4, 2) := by decide +kernel
theorem dX2_loadAbove_12 : decode cX2_loadAbove 12 = .ok (.bipush 9, 2) := by decide +kernel
theorem dX2_loadAbove_14 : decode cX2_loadAbove 14 = .ok (.if_icmp .ge 48, 3) := by decide +kernel
theorem dX2_loadAbove_17 : decode cX2_loadAbove 17 = .ok (.iload 4, 2) := by decide +kernel
theorem dX2_loadAbove_19 : decode cX2_loadAbove 19 = .ok (.iload_n 1, 1) := by decide +kernel
theorem dX2_loadAbove_20 : decode cX2_loadAbove 20 = .ok (.if_icmp .eq 13, 3) := by decide +kernel
theorem dX2_loadAbove_23 : decode cX2_loadAbove 23 = .ok (.aload_n 0, 1) := by decide +kernel
theorem dX2_loadAbove_24 : decode cX2_loadAbove 24 = .ok (.iload_n 1, 1) := by decide +kernel
theorem dX2_loadAbove_25 : decode cX2_loadAbove 25 = .ok (.iload 4, 2) := by decide +kernel
theorem dX2_loadAbove_27 : decode cX2_loadAbove 27 = .ok (.invokevirtual 46, 3) := by decide +kernel
theorem dX2_loadAbove_30 : decode cX2_loadAbove 30 = .ok (.ifCond .eq 26, 3) := by decide +kernel
theorem dX2_loadAbove_33 : decode cX2_loadAbove 33 = .ok (.iload_n 3, 1) := by decide +kernel
theorem dX2_loadAbove_34 : decode cX2_loadAbove 34 = .ok (.aload_n 0, 1) := by decide +kernel
theorem dX2_loadAbove_35 : decode cX2_loadAbove 35 = .ok (.getfield 16, 3) := by decide +kernel
theorem dX2_loadAbove_38 : decode cX2_loadAbove 38 = .ok (.iconst 1, 1) := by decide +kernel
theorem dX2_loadAbove_39 : decode cX2_loadAbove 39 = .ok (.aaload, 1) := by decide +kernel
theorem dX2_loadAbove_40 : decode cX2_loadAbove 40 = .ok (.iload 4, 2) := by decide +kernel
theorem dX2_loadAbove_42 : decode cX2_loadAbove 42 = .ok (.iaload, 1) := by decide +kernel
theorem dX2_loadAbove_43 : decode cX2_loadAbove 43 = .ok (.iload_n 2, 1) := by decide +kernel
theorem dX2_loadAbove_44 : decode cX2_loadAbove 44 = .ok (.aload_n 0, 1) := by decide +kernel
theorem dX2_loadAbove_45 : decode cX2_loadAbove 45 = .ok (.iload 4, 2) := by decide +kernel
theorem dX2_loadAbove_47 : decode cX2_loadAbove 47 = .ok (.iconst 3, 1) := by decide +kernel
theorem dX2_loadAbove_48 : decode cX2_loadAbove 48 = .ok (.idiv, 1) := by decide +kernel
theorem dX2_loadAbove_49 : decode cX2_loadAbove 49 = .ok (.invokevirtual 50, 3) := by decide +kernel
theorem dX2_loadAbove_52 : decode cX2_loadAbove 52 = .ok (.idiv, 1) := by decide +kernel
theorem dX2_loadAbove_53 : decode cX2_loadAbove 53 = .ok (.imul, 1) := by decide +kernel
theorem dX2_loadAbove_54 : decode cX2_loadAbove 54 = .ok (.iadd, 1) := by decide +kernel
theorem dX2_loadAbove_55 : decode cX2_loadAbove 55 = .ok (.istore_n 3, 1) := by decide +kernel
theorem dX2_loadAbove_56 : decode cX2_loadAbove 56 = .ok (.iinc 4 1, 3) := by decide +kernel
theorem dX2_loadAbove_59 : decode cX2_loadAbove 59 = .ok (.goto (-49), 3) := by decide +kernel
theorem dX2_loadAbove_62 : decode cX2_loadAbove 62 = .ok (.iload_n 3, 1) := by decide +kernel
theorem dX2_loadAbove_63 : decode cX2_loadAbove 63 = .ok (.ireturn, 1) := by decide +kernel
theorem dX2_isOverloaded_0 : decode cX2_isOverloaded 0 = .ok (.aload_n 0, 1) := by decide +kernel
theorem dX2_isOverloaded_1 : decode cX2_isOverloaded 1 = .ok (.iload_n 1, 1) := by decide +kernel
theorem dX2_isOverloaded_2 : decode cX2_isOverloaded 2 = .ok (.invokevirtual 58, 3) := by decide +kernel
theorem dX2_isOverloaded_5 : decode cX2_isOverloaded 5 = .ok (.aload_n 0, 1) := by decide +kernel
theorem dX2_isOverloaded_6 : decode cX2_isOverloaded 6 = .ok (.invokevirtual 54, 3) := by decide +kernel
theorem dX2_isOverloaded_9 : decode cX2_isOverloaded 9 = .ok (.if_icmp .le 7, 3) := by decide +kernel
theorem dX2_isOverloaded_12 : decode cX2_isOverloaded 12 = .ok (.iconst 1, 1) := by decide +kernel
theorem dX2_isOverloaded_13 : decode cX2_isOverloaded 13 = .ok (.goto 4, 3) := by decide +kernel
theorem dX2_isOverloaded_16 : decode cX2_isOverloaded 16 = .ok (.iconst 0, 1) := by decide +kernel
theorem dX2_isOverloaded_17 : decode cX2_isOverloaded 17 = .ok (.ireturn, 1) := by decide +kernel
theorem dX2_overloadedSteps_0 : decode cX2_overloadedSteps 0 = .ok (.iconst 0, 1) := by decide +kernel
theorem dX2_overloadedSteps_1 : decode cX2_overloadedSteps 1 = .ok (.istore_n 1, 1) := by decide +kernel
theorem dX2_overloadedSteps_2 : decode cX2_overloadedSteps 2 = .ok (.iconst 0, 1) := by decide +kernel
theorem dX2_overloadedSteps_3 : decode cX2_overloadedSteps 3 = .ok (.istore_n 2, 1) := by decide +kernel
theorem dX2_overloadedSteps_4 : decode cX2_overloadedSteps 4 = .ok (.iload_n 2, 1) := by decide +kernel
theorem dX2_overloadedSteps_5 : decode cX2_overloadedSteps 5 = .ok (.bipush 9, 2) := by decide +kernel
theorem dX2_overloadedSteps_7 : decode cX2_overloadedSteps 7 = .ok (.if_icmp .ge 28, 3) := by decide +kernel
theorem dX2_overloadedSteps_10 : decode cX2_overloadedSteps 10 = .ok (.aload_n 0, 1) := by decide +kernel
theorem dX2_overloadedSteps_11 : decode cX2_overloadedSteps 11 = .ok (.iload_n 2, 1) := by decide +kernel
theorem dX2_overloadedSteps_12 : decode cX2_overloadedSteps 12 = .ok (.invokevirtual 43, 3) := by decide +kernel
theorem dX2_overloadedSteps_15 : decode cX2_overloadedSteps 15 = .ok (.ifCond .eq 14, 3) := by decide +kernel
theorem dX2_overloadedSteps_18 : decode cX2_overloadedSteps 18 = .ok (.aload_n 0, 1) := by decide +kernel
theorem dX2_overloadedSteps_19 : decode cX2_overloadedSteps 19 = .ok (.iload_n 2, 1) := by decide +kernel
theorem dX2_overloadedSteps_20 : decode cX2_overloadedSteps 20 = .ok (.invokevirtual 61, 3) := by decide +kernel
theorem dX2_overloadedSteps_23 : decode cX2_overloadedSteps 23 = .ok (.ifCond .eq 6, 3) := by decide +kernel
theorem dX2_overloadedSteps_26 : decode cX2_overloadedSteps 26 = .ok (.iinc 1 1, 3) := by decide +kernel
theorem dX2_overloadedSteps_29 : decode cX2_overloadedSteps 29 = .ok (.iinc 2 1, 3) := by decide +kernel
theorem dX2_overloadedSteps_32 : decode cX2_overloadedSteps 32 = .ok (.goto (-28), 3) := by decide +kernel
theorem dX2_overloadedSteps_35 : decode cX2_overloadedSteps 35 = .ok (.iload_n 1, 1) := by decide +kernel
theorem dX2_overloadedSteps_36 : decode cX2_overloadedSteps 36 = .ok (.ireturn, 1) := by decide +kernel
theorem dX2_loadPart_0 : decode cX2_loadPart 0 = .ok (.aload_n 0, 1) := by decide +kernel
theorem dX2_loadPart_1 : decode cX2_loadPart 1 = .ok (.iload_n 1, 1) := by decide +kernel
theorem dX2_loadPart_2 : decode cX2_loadPart 2 = .ok (.invokevirtual 58, 3) := by decide +kernel
theorem dX2_loadPart_5 : decode cX2_loadPart 5 = .ok (.istore_n 3, 1) := by decide +kernel
theorem dX2_loadPart_6 : decode cX2_loadPart 6 = .ok (.aload_n 0, 1) := by decide +kernel
theorem dX2_loadPart_7 : decode cX2_loadPart 7 = .ok (.invokevirtual 54, 3) := by decide +kernel
theorem dX2_loadPart_10 : decode cX2_loadPart 10 = .ok (.istore 4, 2) := by decide +kernel
theorem dX2_loadPart_12 : decode cX2_loadPart 12 = .ok (.iload_n 3, 1) := by decide +kernel
theorem dX2_loadPart_13 : decode cX2_loadPart 13 = .ok (.iload 4, 2) := by decide +kernel
theorem dX2_loadPart_15 : decode cX2_loadPart 15 = .ok (.invokestatic 64, 3) := by decide +kernel
theorem dX2_loadPart_18 : decode cX2_loadPart 18 = .ok (.istore 5, 2) := by decide +kernel
theorem dX2_loadPart_20 : decode cX2_loadPart 20 = .ok (.iload_n 2, 1) := by decide +kernel
theorem dX2_loadPart_21 : decode cX2_loadPart 21 = .ok (.ifCond .ne 7, 3) := by decide +kernel
theorem dX2_loadPart_24 : decode cX2_loadPart 24 = .ok (.iload_n 3, 1) := by decide +kernel
theorem dX2_loadPart_25 : decode cX2_loadPart 25 = .ok (.goto 5, 3) := by decide +kernel
theorem dX2_loadPart_28 : decode cX2_loadPart 28 = .ok (.iload 4, 2) := by decide +kernel
theorem dX2_loadPart_30 : decode cX2_loadPart 30 = .ok (.iload 5, 2) := by decide +kernel
theorem dX2_loadPart_32 : decode cX2_loadPart 32 = .ok (.idiv, 1) := by decide +kernel
theorem dX2_loadPart_33 : decode cX2_loadPart 33 = .ok (.ireturn, 1) := by decide +kernel
theorem dX2_greatestDivisor_0 : decode cX2_greatestDivisor 0 = .ok (.iload_n 0, 1) := by decide +kernel
theorem dX2_greatestDivisor_1 : decode cX2_greatestDivisor 1 = .ok (.istore_n 2, 1) := by decide +kernel
theorem dX2_greatestDivisor_2 : decode cX2_greatestDivisor 2 = .ok (.iload_n 1, 1) := by decide +kernel
theorem dX2_greatestDivisor_3 : decode cX2_greatestDivisor 3 = .ok (.istore_n 3, 1) := by decide +kernel
theorem dX2_greatestDivisor_4 : decode cX2_greatestDivisor 4 = .ok (.iconst 0, 1) := by decide +kernel
theorem dX2_greatestDivisor_5 : decode cX2_greatestDivisor 5 = .ok (.istore 4, 2) := by decide +kernel
theorem dX2_greatestDivisor_7 : decode cX2_greatestDivisor 7 = .ok (.iload 4, 2) := by decide +kernel
theorem dX2_greatestDivisor_9 : decode cX2_greatestDivisor 9 = .ok (.bipush 64, 2) := by decide +kernel
theorem dX2_greatestDivisor_11 : decode cX2_greatestDivisor 11 = .ok (.if_icmp .ge 23, 3) := by decide +kernel
theorem dX2_greatestDivisor_14 : decode cX2_greatestDivisor 14 = .ok (.iload_n 3, 1) := by decide +kernel
theorem dX2_greatestDivisor_15 : decode cX2_greatestDivisor 15 = .ok (.ifCond .le 19, 3) := by decide +kernel
theorem dX2_greatestDivisor_18 : decode cX2_greatestDivisor 18 = .ok (.iload_n 2, 1) := by decide +kernel
theorem dX2_greatestDivisor_19 : decode cX2_greatestDivisor 19 = .ok (.iload_n 3, 1) := by decide +kernel
theorem dX2_greatestDivisor_20 : decode cX2_greatestDivisor 20 = .ok (.irem, 1) := by decide +kernel
theorem dX2_greatestDivisor_21 : decode cX2_greatestDivisor 21 = .ok (.istore 5, 2) := by decide +kernel
theorem dX2_greatestDivisor_23 : decode cX2_greatestDivisor 23 = .ok (.iload_n 3, 1) := by decide +kernel
theorem dX2_greatestDivisor_24 : decode cX2_greatestDivisor 24 = .ok (.istore_n 2, 1) := by decide +kernel
theorem dX2_greatestDivisor_25 : decode cX2_greatestDivisor 25 = .ok (.iload 5, 2) := by decide +kernel
theorem dX2_greatestDivisor_27 : decode cX2_greatestDivisor 27 = .ok (.istore_n 3, 1) := by decide +kernel
theorem dX2_greatestDivisor_28 : decode cX2_greatestDivisor 28 = .ok (.iinc 4 1, 3) := by decide +kernel
theorem dX2_greatestDivisor_31 : decode cX2_greatestDivisor 31 = .ok (.goto (-24), 3) := by decide +kernel
theorem dX2_greatestDivisor_34 : decode cX2_greatestDivisor 34 = .ok (.iconst 1, 1) := by decide +kernel
theorem dX2_greatestDivisor_35 : decode cX2_greatestDivisor 35 = .ok (.iload_n 2, 1) := by decide +kernel
theorem dX2_greatestDivisor_36 : decode cX2_greatestDivisor 36 = .ok (.invokestatic 37, 3) := by decide +kernel
theorem dX2_greatestDivisor_39 : decode cX2_greatestDivisor 39 = .ok (.ireturn, 1) := by decide +kernel
theorem dX2_dueBits_0 : decode cX2_dueBits 0 = .ok (.iconst 0, 1) := by decide +kernel
theorem dX2_dueBits_1 : decode cX2_dueBits 1 = .ok (.istore_n 1, 1) := by decide +kernel
theorem dX2_dueBits_2 : decode cX2_dueBits 2 = .ok (.iconst 0, 1) := by decide +kernel
theorem dX2_dueBits_3 : decode cX2_dueBits 3 = .ok (.istore_n 2, 1) := by decide +kernel
theorem dX2_dueBits_4 : decode cX2_dueBits 4 = .ok (.iload_n 2, 1) := by decide +kernel
theorem dX2_dueBits_5 : decode cX2_dueBits 5 = .ok (.iconst 3, 1) := by decide +kernel
theorem dX2_dueBits_6 : decode cX2_dueBits 6 = .ok (.if_icmp .ge 35, 3) := by decide +kernel
theorem dX2_dueBits_9 : decode cX2_dueBits 9 = .ok (.aload_n 0, 1) := by decide +kernel
theorem dX2_dueBits_10 : decode cX2_dueBits 10 = .ok (.getfield 19, 3) := by decide +kernel
theorem dX2_dueBits_13 : decode cX2_dueBits 13 = .ok (.iload_n 2, 1) := by decide +kernel
theorem dX2_dueBits_14 : decode cX2_dueBits 14 = .ok (.iaload, 1) := by decide +kernel
theorem dX2_dueBits_15 : decode cX2_dueBits 15 = .ok (.ifCond .le 20, 3) := by decide +kernel
theorem dX2_dueBits_18 : decode cX2_dueBits 18 = .ok (.aload_n 0, 1) := by decide +kernel
theorem dX2_dueBits_19 : decode cX2_dueBits 19 = .ok (.getfield 11, 3) := by decide +kernel
theorem dX2_dueBits_22 : decode cX2_dueBits 22 = .ok (.iconst 2, 1) := by decide +kernel
theorem dX2_dueBits_23 : decode cX2_dueBits 23 = .ok (.aaload, 1) := by decide +kernel
theorem dX2_dueBits_24 : decode cX2_dueBits 24 = .ok (.iload_n 2, 1) := by decide +kernel
theorem dX2_dueBits_25 : decode cX2_dueBits 25 = .ok (.iaload, 1) := by decide +kernel
theorem dX2_dueBits_26 : decode cX2_dueBits 26 = .ok (.ifCond .le 9, 3) := by decide +kernel
theorem dX2_dueBits_29 : decode cX2_dueBits 29 = .ok (.iload_n 1, 1) := by decide +kernel
theorem dX2_dueBits_30 : decode cX2_dueBits 30 = .ok (.iconst 1, 1) := by decide +kernel
theorem dX2_dueBits_31 : decode cX2_dueBits 31 = .ok (.iload_n 2, 1) := by decide +kernel
theorem dX2_dueBits_32 : decode cX2_dueBits 32 = .ok (.ishl, 1) := by decide +kernel
theorem dX2_dueBits_33 : decode cX2_dueBits 33 = .ok (.ior, 1) := by decide +kernel
theorem dX2_dueBits_34 : decode cX2_dueBits 34 = .ok (.istore_n 1, 1) := by decide +kernel
theorem dX2_dueBits_35 : decode cX2_dueBits 35 = .ok (.iinc 2 1, 3) := by decide +kernel
theorem dX2_dueBits_38 : decode cX2_dueBits 38 = .ok (.goto (-34), 3) := by decide +kernel
theorem dX2_dueBits_41 : decode cX2_dueBits 41 = .ok (.iload_n 1, 1) := by decide +kernel
theorem dX2_dueBits_42 : decode cX2_dueBits 42 = .ok (.ireturn, 1) := by decide +kernel
theorem dX3_init_0 : decode cX3_init 0 = .ok (.aload_n 0, 1) := by decide +kernel
theorem dX3_init_1 : decode cX3_init 1 = .ok (.invokespecial 3, 3) := by decide +kernel
theorem dX3_init_4 : decode cX3_init 4 = .ok (.aload_n 0, 1) := by decide +kernel
theorem dX3_init_5 : decode cX3_init 5 = .ok (.iconst 1, 1) := by decide +kernel
theorem dX3_init_6 : decode cX3_init 6 = .ok (.putfield 9, 3) := by decide +kernel
theorem dX3_init_9 : decode cX3_init 9 = .ok (.aload_n 0, 1) := by decide +kernel
theorem dX3_init_10 : decode cX3_init 10 = .ok (.bipush 60, 2) := by decide +kernel
theorem dX3_init_12 : decode cX3_init 12 = .ok (.newarray .long, 2) := by decide +kernel
theorem dX3_init_14 : decode cX3_init 14 = .ok (.putfield 15, 3) := by decide +kernel
theorem dX3_init_17 : decode cX3_init 17 = .ok (.return_, 1) := by decide +kernel
theorem dX3_begin_0 : decode cX3_begin 0 = .ok (.aload_n 0, 1) := by decide +kernel
theorem dX3_begin_1 : decode cX3_begin 1 = .ok (.iconst 0, 1) := by decide +kernel
theorem dX3_begin_2 : decode cX3_begin 2 = .ok (.putfield 9, 3) := by decide +kernel
theorem dX3_begin_5 : decode cX3_begin 5 = .ok (.aload_n 0, 1) := by decide +kernel
theorem dX3_begin_6 : decode cX3_begin 6 = .ok (.iload_n 1, 1) := by decide +kernel
theorem dX3_begin_7 : decode cX3_begin 7 = .ok (.putfield 19, 3) := by decide +kernel
theorem dX3_begin_10 : decode cX3_begin 10 = .ok (.aload_n 0, 1) := by decide +kernel
theorem dX3_begin_11 : decode cX3_begin 11 = .ok (.iload_n 2, 1) := by decide +kernel
theorem dX3_begin_12 : decode cX3_begin 12 = .ok (.putfield 23, 3) := by decide +kernel
theorem dX3_begin_15 : decode cX3_begin 15 = .ok (.aload_n 0, 1) := by decide +kernel
theorem dX3_begin_16 : decode cX3_begin 16 = .ok (.getfield 15, 3) := by decide +kernel
theorem dX3_begin_19 : decode cX3_begin 19 = .ok (.lconst 0, 1) := by decide +kernel
theorem dX3_begin_20 : decode cX3_begin 20 = .ok (.invokestatic 26, 3) := by decide +kernel
theorem dX3_begin_23 : decode cX3_begin 23 = .ok (.return_, 1) := by decide +kernel
theorem dX3_troubleAt_0 : decode cX3_troubleAt 0 = .ok (.aload_n 0, 1) := by decide +kernel
theorem dX3_troubleAt_1 : decode cX3_troubleAt 1 = .ok (.getfield 9, 3) := by decide +kernel
theorem dX3_troubleAt_4 : decode cX3_troubleAt 4 = .ok (.ifCond .eq 5, 3) := by decide +kernel
theorem dX3_troubleAt_7 : decode cX3_troubleAt 7 = .ok (.iconst 1, 1) := by decide +kernel
theorem dX3_troubleAt_8 : decode cX3_troubleAt 8 = .ok (.ireturn, 1) := by decide +kernel
theorem dX3_troubleAt_9 : decode cX3_troubleAt 9 = .ok (.aload_n 0, 1) := by decide +kernel
theorem dX3_troubleAt_10 : decode cX3_troubleAt 10 = .ok (.getfield 19, 3) := by decide +kernel
theorem dX3_troubleAt_13 : decode cX3_troubleAt 13 = .ok (.iload_n 1, 1) := by decide +kernel
theorem dX3_troubleAt_14 : decode cX3_troubleAt 14 = .ok (.if_icmp .eq 5, 3) := by decide +kernel
theorem dX3_troubleAt_17 : decode cX3_troubleAt 17 = .ok (.iconst 3, 1) := by decide +kernel
theorem dX3_troubleAt_18 : decode cX3_troubleAt 18 = .ok (.ireturn, 1) := by decide +kernel
theorem dX3_troubleAt_19 : decode cX3_troubleAt 19 = .ok (.iload_n 2, 1) := by decide +kernel
theorem dX3_troubleAt_20 : decode cX3_troubleAt 20 = .ok (.i2l, 1) := by decide +kernel
theorem dX3_troubleAt_21 : decode cX3_troubleAt 21 = .ok (.iconst 0, 1) := by decide +kernel
theorem dX3_troubleAt_22 : decode cX3_troubleAt 22 = .ok (.aload_n 0, 1) := by decide +kernel
theorem dX3_troubleAt_23 : decode cX3_troubleAt 23 = .ok (.getfield 23, 3) := by decide +kernel
theorem dX3_troubleAt_26 : decode cX3_troubleAt 26 = .ok (.iconst 1, 1) := by decide +kernel
theorem dX3_troubleAt_27 : decode cX3_troubleAt 27 = .ok (.isub, 1) := by decide +kernel
theorem dX3_troubleAt_28 : decode cX3_troubleAt 28 = .ok (.invokestatic 32, 3) := by decide +kernel
theorem dX3_troubleAt_31 : decode cX3_troubleAt 31 = .ok (.ifCond .eq 7, 3) := by decide +kernel
theorem dX3_troubleAt_34 : decode cX3_troubleAt 34 = .ok (.iconst 0, 1) := by decide +kernel
theorem dX3_troubleAt_35 : decode cX3_troubleAt 35 = .ok (.goto 4, 3) := by decide +kernel
theorem dX3_troubleAt_38 : decode cX3_troubleAt 38 = .ok (.iconst 2, 1) := by decide +kernel
theorem dX3_troubleAt_39 : decode cX3_troubleAt 39 = .ok (.ireturn, 1) := by decide +kernel
theorem dX3_hasRange_0 : decode cX3_hasRange 0 = .ok (.iload_n 1, 1) := by decide +kernel
theorem dX3_hasRange_1 : decode cX3_hasRange 1 = .ok (.ifCond .lt 29, 3) := by decide +kernel
theorem dX3_hasRange_4 : decode cX3_hasRange 4 = .ok (.iload_n 2, 1) := by decide +kernel
theorem dX3_hasRange_5 : decode cX3_hasRange 5 = .ok (.ifCond .lt 25, 3) := by decide +kernel
theorem dX3_hasRange_8 : decode cX3_hasRange 8 = .ok (.iload_n 1, 1) := by decide +kernel
theorem dX3_hasRange_9 : decode cX3_hasRange 9 = .ok (.aload_n 0, 1) := by decide +kernel
theorem dX3_hasRange_10 : decode cX3_hasRange 10 = .ok (.getfield 23, 3) := by decide +kernel
theorem dX3_hasRange_13 : decode cX3_hasRange 13 = .ok (.if_icmp .gt 17, 3) := by decide +kernel
theorem dX3_hasRange_16 : decode cX3_hasRange 16 = .ok (.iload_n 2, 1) := by decide +kernel
theorem dX3_hasRange_17 : decode cX3_hasRange 17 = .ok (.aload_n 0, 1) := by decide +kernel
theorem dX3_hasRange_18 : decode cX3_hasRange 18 = .ok (.getfield 23, 3) := by decide +kernel
theorem dX3_hasRange_21 : decode cX3_hasRange 21 = .ok (.iload_n 1, 1) := by decide +kernel
theorem dX3_hasRange_22 : decode cX3_hasRange 22 = .ok (.isub, 1) := by decide +kernel
theorem dX3_hasRange_23 : decode cX3_hasRange 23 = .ok (.if_icmp .gt 7, 3) := by decide +kernel
theorem dX3_hasRange_26 : decode cX3_hasRange 26 = .ok (.iconst 1, 1) := by decide +kernel
theorem dX3_hasRange_27 : decode cX3_hasRange 27 = .ok (.goto 4, 3) := by decide +kernel
theorem dX3_hasRange_30 : decode cX3_hasRange 30 = .ok (.iconst 0, 1) := by decide +kernel
theorem dX3_hasRange_31 : decode cX3_hasRange 31 = .ok (.ireturn, 1) := by decide +kernel
theorem dX3_put_0 : decode cX3_put 0 = .ok (.aload_n 0, 1) := by decide +kernel
theorem dX3_put_1 : decode cX3_put 1 = .ok (.getfield 15, 3) := by decide +kernel
theorem dX3_put_4 : decode cX3_put 4 = .ok (.iload_n 1, 1) := by decide +kernel
theorem dX3_put_5 : decode cX3_put 5 = .ok (.aload_n 0, 1) := by decide +kernel
theorem dX3_put_6 : decode cX3_put 6 = .ok (.getfield 19, 3) := by decide +kernel
theorem dX3_put_9 : decode cX3_put 9 = .ok (.ifCond .ne 10, 3) := by decide +kernel
theorem dX3_put_12 : decode cX3_put 12 = .ok (.lload_n 2, 1) := by decide +kernel
theorem dX3_put_13 : decode cX3_put 13 = .ok (.l2i, 1) := by decide +kernel
theorem dX3_put_14 : decode cX3_put 14 = .ok (.i2s, 1) := by decide +kernel
theorem dX3_put_15 : decode cX3_put 15 = .ok (.i2l, 1) := by decide +kernel
theorem dX3_put_16 : decode cX3_put 16 = .ok (.goto 4, 3) := by decide +kernel
theorem dX3_put_19 : decode cX3_put 19 = .ok (.lload_n 2, 1) := by decide +kernel
theorem dX3_put_20 : decode cX3_put 20 = .ok (.lastore, 1) := by decide +kernel
theorem dX3_put_21 : decode cX3_put 21 = .ok (.return_, 1) := by decide +kernel
theorem dX4_init_0 : decode cX4_init 0 = .ok (.aload_n 0, 1) := by decide +kernel
theorem dX4_init_1 : decode cX4_init 1 = .ok (.invokespecial 3, 3) := by decide +kernel
theorem dX4_init_4 : decode cX4_init 4 = .ok (.aload_n 0, 1) := by decide +kernel
theorem dX4_init_5 : decode cX4_init 5 = .ok (.new 9, 3) := by decide +kernel
theorem dX4_init_8 : decode cX4_init 8 = .ok (.dup, 1) := by decide +kernel
theorem dX4_init_9 : decode cX4_init 9 = .ok (.invokespecial 11, 3) := by decide +kernel
theorem dX4_init_12 : decode cX4_init 12 = .ok (.putfield 12, 3) := by decide +kernel
theorem dX4_init_15 : decode cX4_init 15 = .ok (.aload_n 0, 1) := by decide +kernel
theorem dX4_init_16 : decode cX4_init 16 = .ok (.new 16, 3) := by decide +kernel
theorem dX4_init_19 : decode cX4_init 19 = .ok (.dup, 1) := by decide +kernel
theorem dX4_init_20 : decode cX4_init 20 = .ok (.aload_n 0, 1) := by decide +kernel
theorem dX4_init_21 : decode cX4_init 21 = .ok (.getfield 12, 3) := by decide +kernel
theorem dX4_init_24 : decode cX4_init 24 = .ok (.invokespecial 18, 3) := by decide +kernel
theorem dX4_init_27 : decode cX4_init 27 = .ok (.putfield 21, 3) := by decide +kernel
theorem dX4_init_30 : decode cX4_init 30 = .ok (.aload_n 0, 1) := by decide +kernel
theorem dX4_init_31 : decode cX4_init 31 = .ok (.new 16, 3) := by decide +kernel
theorem dX4_init_34 : decode cX4_init 34 = .ok (.dup, 1) := by decide +kernel
theorem dX4_init_35 : decode cX4_init 35 = .ok (.aload_n 0, 1) := by decide +kernel
theorem dX4_init_36 : decode cX4_init 36 = .ok (.getfield 12, 3) := by decide +kernel
theorem dX4_init_39 : decode cX4_init 39 = .ok (.invokespecial 18, 3) := by decide +kernel
theorem dX4_init_42 : decode cX4_init 42 = .ok (.putfield 25, 3) := by decide +kernel
theorem dX4_init_45 : decode cX4_init 45 = .ok (.aload_n 0, 1) := by decide +kernel
theorem dX4_init_46 : decode cX4_init 46 = .ok (.new 28, 3) := by decide +kernel
theorem dX4_init_49 : decode cX4_init 49 = .ok (.dup, 1) := by decide +kernel
theorem dX4_init_50 : decode cX4_init 50 = .ok (.invokespecial 30, 3) := by decide +kernel
theorem dX4_init_53 : decode cX4_init 53 = .ok (.putfield 31, 3) := by decide +kernel
theorem dX4_init_56 : decode cX4_init 56 = .ok (.aload_n 0, 1) := by decide +kernel
theorem dX4_init_57 : decode cX4_init 57 = .ok (.iconst 4, 1) := by decide +kernel
theorem dX4_init_58 : decode cX4_init 58 = .ok (.anewarray 35, 3) := by decide +kernel
theorem dX4_init_61 : decode cX4_init 61 = .ok (.putfield 37, 3) := by decide +kernel
theorem dX4_init_64 : decode cX4_init 64 = .ok (.iconst 0, 1) := by decide +kernel
theorem dX4_init_65 : decode cX4_init 65 = .ok (.istore_n 1, 1) := by decide +kernel
theorem dX4_init_66 : decode cX4_init 66 = .ok (.iload_n 1, 1) := by decide +kernel
theorem dX4_init_67 : decode cX4_init 67 = .ok (.iconst 4, 1) := by decide +kernel
theorem dX4_init_68 : decode cX4_init 68 = .ok (.if_icmp .ge 22, 3) := by decide +kernel
theorem dX4_init_71 : decode cX4_init 71 = .ok (.aload_n 0, 1) := by decide +kernel
theorem dX4_init_72 : decode cX4_init 72 = .ok (.getfield 37, 3) := by decide +kernel
theorem dX4_init_75 : decode cX4_init 75 = .ok (.iload_n 1, 1) := by decide +kernel
theorem dX4_init_76 : decode cX4_init 76 = .ok (.new 35, 3) := by decide +kernel
theorem dX4_init_79 : decode cX4_init 79 = .ok (.dup, 1) := by decide +kernel
theorem dX4_init_80 : decode cX4_init 80 = .ok (.invokespecial 41, 3) := by decide +kernel
theorem dX4_init_83 : decode cX4_init 83 = .ok (.aastore, 1) := by decide +kernel
theorem dX4_init_84 : decode cX4_init 84 = .ok (.iinc 1 1, 3) := by decide +kernel
theorem dX4_init_87 : decode cX4_init 87 = .ok (.goto (-21), 3) := by decide +kernel
theorem dX4_init_90 : decode cX4_init 90 = .ok (.aload_n 0, 1) := by decide +kernel
theorem dX4_init_91 : decode cX4_init 91 = .ok (.iconst 0, 1) := by decide +kernel
theorem dX4_init_92 : decode cX4_init 92 = .ok (.putfield 42, 3) := by decide +kernel
theorem dX4_init_95 : decode cX4_init 95 = .ok (.return_, 1) := by decide +kernel
theorem dX4_chain_0 : decode cX4_chain 0 = .ok (.iload_n 1, 1) := by decide +kernel
theorem dX4_chain_1 : decode cX4_chain 1 = .ok (.invokestatic 46, 3) := by decide +kernel
theorem dX4_chain_4 : decode cX4_chain 4 = .ok (.ifCond .eq 31, 3) := by decide +kernel
theorem dX4_chain_7 : decode cX4_chain 7 = .ok (.iload_n 2, 1) := by decide +kernel
theorem dX4_chain_8 : decode cX4_chain 8 = .ok (.i2l, 1) := by decide +kernel
theorem dX4_chain_9 : decode cX4_chain 9 = .ok (.iconst 0, 1) := by decide +kernel
theorem dX4_chain_10 : decode cX4_chain 10 = .ok (.iconst 4, 1) := by decide +kernel
theorem dX4_chain_11 : decode cX4_chain 11 = .ok (.invokestatic 50, 3) := by decide +kernel
theorem dX4_chain_14 : decode cX4_chain 14 = .ok (.ifCond .eq 21, 3) := by decide +kernel
theorem dX4_chain_17 : decode cX4_chain 17 = .ok (.iload_n 3, 1) := by decide +kernel
theorem dX4_chain_18 : decode cX4_chain 18 = .ok (.i2l, 1) := by decide +kernel
theorem dX4_chain_19 : decode cX4_chain 19 = .ok (.getstatic 54, 3) := by decide +kernel
theorem dX4_chain_22 : decode cX4_chain 22 = .ok (.iload_n 2, 1) := by decide +kernel
theorem dX4_chain_23 : decode cX4_chain 23 = .ok (.iaload, 1) := by decide +kernel
theorem dX4_chain_24 : decode cX4_chain 24 = .ok (.getstatic 58, 3) := by decide +kernel
theorem dX4_chain_27 : decode cX4_chain 27 = .ok (.iload_n 2, 1) := by decide +kernel
theorem dX4_chain_28 : decode cX4_chain 28 = .ok (.iaload, 1) := by decide +kernel
theorem dX4_chain_29 : decode cX4_chain 29 = .ok (.invokestatic 50, 3) := by decide +kernel
theorem dX4_chain_32 : decode cX4_chain 32 = .ok (.ifCond .ne 6, 3) := by decide +kernel
theorem dX4_chain_35 : decode cX4_chain 35 = .ok (.bipush (-2), 2) := by decide +kernel
theorem dX4_chain_37 : decode cX4_chain 37 = .ok (.ireturn, 1) := by decide +kernel
theorem dX4_chain_38 : decode cX4_chain 38 = .ok (.aload_n 0, 1) := by decide +kernel
theorem dX4_chain_39 : decode cX4_chain 39 = .ok (.getfield 12, 3) := by decide +kernel
theorem dX4_chain_42 : decode cX4_chain 42 = .ok (.getfield 61, 3) := by decide +kernel
theorem dX4_chain_45 : decode cX4_chain 45 = .ok (.iload_n 2, 1) := by decide +kernel
theorem dX4_chain_46 : decode cX4_chain 46 = .ok (.aaload, 1) := by decide +kernel
theorem dX4_chain_47 : decode cX4_chain 47 = .ok (.iload_n 1, 1) := by decide +kernel
theorem dX4_chain_48 : decode cX4_chain 48 = .ok (.iaload, 1) := by decide +kernel
theorem dX4_chain_49 : decode cX4_chain 49 = .ok (.istore 4, 2) := by decide +kernel
theorem dX4_chain_51 : decode cX4_chain 51 = .ok (.aload_n 0, 1) := by decide +kernel
theorem dX4_chain_52 : decode cX4_chain 52 = .ok (.getfield 12, 3) := by decide +kernel
theorem dX4_chain_55 : decode cX4_chain 55 = .ok (.getfield 61, 3) := by decide +kernel
theorem dX4_chain_58 : decode cX4_chain 58 = .ok (.iload_n 2, 1) := by decide +kernel
theorem dX4_chain_59 : decode cX4_chain 59 = .ok (.aaload, 1) := by decide +kernel
theorem dX4_chain_60 : decode cX4_chain 60 = .ok (.iload_n 1, 1) := by decide +kernel
theorem dX4_chain_61 : decode cX4_chain 61 = .ok (.iload_n 3, 1) := by decide +kernel
theorem dX4_chain_62 : decode cX4_chain 62 = .ok (.iastore, 1) := by decide +kernel
theorem dX4_chain_63 : decode cX4_chain 63 = .ok (.aload_n 0, 1) := by decide +kernel
theorem dX4_chain_64 : decode cX4_chain 64 = .ok (.getfield 21, 3) := by decide +kernel
theorem dX4_chain_67 : decode cX4_chain 67 = .ok (.iconst 1, 1) := by decide +kernel
theorem dX4_chain_68 : decode cX4_chain 68 = .ok (.putfield 65, 3) := by decide +kernel
theorem dX4_chain_71 : decode cX4_chain 71 = .ok (.iload 4, 2) := by decide +kernel
theorem dX4_chain_73 : decode cX4_chain 73 = .ok (.ireturn, 1) := by decide +kernel
theorem dX4_step_0 : decode cX4_step 0 = .ok (.iload_n 1, 1) := by decide +kernel
theorem dX4_step_1 : decode cX4_step 1 = .ok (.invokestatic 46, 3) := by decide +kernel
theorem dX4_step_4 : decode cX4_step 4 = .ok (.ifCond .eq 41, 3) := by decide +kernel
theorem dX4_step_7 : decode cX4_step 7 = .ok (.iconst 0, 1) := by decide +kernel
theorem dX4_step_8 : decode cX4_step 8 = .ok (.iload_n 2, 1) := by decide +kernel
theorem dX4_step_9 : decode cX4_step 9 = .ok (.i2l, 1) := by decide +kernel
theorem dX4_step_10 : decode cX4_step 10 = .ok (.invokestatic 69, 3) := by decide +kernel
theorem dX4_step_13 : decode cX4_step 13 = .ok (.ifCond .eq 32, 3) := by decide +kernel
theorem dX4_step_16 : decode cX4_step 16 = .ok (.iconst 1, 1) := by decide +kernel
theorem dX4_step_17 : decode cX4_step 17 = .ok (.iload_n 3, 1) := by decide +kernel
theorem dX4_step_18 : decode cX4_step 18 = .ok (.i2l, 1) := by decide +kernel
theorem dX4_step_19 : decode cX4_step 19 = .ok (.invokestatic 69, 3) := by decide +kernel
theorem dX4_step_22 : decode cX4_step 22 = .ok (.ifCond .eq 23, 3) := by decide +kernel
theorem dX4_step_25 : decode cX4_step 25 = .ok (.iconst 2, 1) := by decide +kernel
theorem dX4_step_26 : decode cX4_step 26 = .ok (.iload 4, 2) := by decide +kernel
theorem dX4_step_28 : decode cX4_step 28 = .ok (.i2l, 1) := by decide +kernel
theorem dX4_step_29 : decode cX4_step 29 = .ok (.invokestatic 69, 3) := by decide +kernel
theorem dX4_step_32 : decode cX4_step 32 = .ok (.ifCond .eq 13, 3) := by decide +kernel
theorem dX4_step_35 : decode cX4_step 35 = .ok (.iconst 3, 1) := by decide +kernel
theorem dX4_step_36 : decode cX4_step 36 = .ok (.iload 5, 2) := by decide +kernel
theorem dX4_step_38 : decode cX4_step 38 = .ok (.i2l, 1) := by decide +kernel
theorem dX4_step_39 : decode cX4_step 39 = .ok (.invokestatic 69, 3) := by decide +kernel
theorem dX4_step_42 : decode cX4_step 42 = .ok (.ifCond .ne 6, 3) := by decide +kernel
theorem dX4_step_45 : decode cX4_step 45 = .ok (.bipush (-2), 2) := by decide +kernel
theorem dX4_step_47 : decode cX4_step 47 = .ok (.ireturn, 1) := by decide +kernel
theorem dX4_step_48 : decode cX4_step 48 = .ok (.aload_n 0, 1) := by decide +kernel
theorem dX4_step_49 : decode cX4_step 49 = .ok (.getfield 12, 3) := by decide +kernel
theorem dX4_step_52 : decode cX4_step 52 = .ok (.getfield 73, 3) := by decide +kernel
theorem dX4_step_55 : decode cX4_step 55 = .ok (.iload_n 1, 1) := by decide +kernel
theorem dX4_step_56 : decode cX4_step 56 = .ok (.iaload, 1) := by decide +kernel
theorem dX4_step_57 : decode cX4_step 57 = .ok (.iconst 3, 1) := by decide +kernel
theorem dX4_step_58 : decode cX4_step 58 = .ok (.if_icmp .lt 6, 3) := by decide +kernel
theorem dX4_step_61 : decode cX4_step 61 = .ok (.bipush (-4), 2) := by decide +kernel
theorem dX4_step_63 : decode cX4_step 63 = .ok (.ireturn, 1) := by decide +kernel
theorem dX4_step_64 : decode cX4_step 64 = .ok (.aload_n 0, 1) := by decide +kernel
theorem dX4_step_65 : decode cX4_step 65 = .ok (.getfield 21, 3) := by decide +kernel
theorem dX4_step_68 : decode cX4_step 68 = .ok (.iconst 1, 1) := by decide +kernel
theorem dX4_step_69 : decode cX4_step 69 = .ok (.putfield 65, 3) := by decide +kernel
theorem dX4_step_72 : decode cX4_step 72 = .ok (.aload_n 0, 1) := by decide +kernel
theorem dX4_step_73 : decode cX4_step 73 = .ok (.getfield 12, 3) := by decide +kernel
theorem dX4_step_76 : decode cX4_step 76 = .ok (.iload_n 1, 1) := by decide +kernel
theorem dX4_step_77 : decode cX4_step 77 = .ok (.iload_n 2, 1) := by decide +kernel
theorem dX4_step_78 : decode cX4_step 78 = .ok (.iload_n 3, 1) := by decide +kernel
theorem dX4_step_79 : decode cX4_step 79 = .ok (.iload 4, 2) := by decide +kernel
theorem dX4_step_81 : decode cX4_step 81 = .ok (.iload 5, 2) := by decide +kernel
theorem dX4_step_83 : decode cX4_step 83 = .ok (.invokevirtual 76, 3) := by decide +kernel
theorem dX4_step_86 : decode cX4_step 86 = .ok (.ireturn, 1) := by decide +kernel
theorem dX4_back_0 : decode cX4_back 0 = .ok (.iload_n 1, 1) := by decide +kernel
theorem dX4_back_1 : decode cX4_back 1 = .ok (.invokestatic 46, 3) := by decide +kernel
theorem dX4_back_4 : decode cX4_back 4 = .ok (.ifCond .ne 6, 3) := by decide +kernel
theorem dX4_back_7 : decode cX4_back 7 = .ok (.bipush (-2), 2) := by decide +kernel
theorem dX4_back_9 : decode cX4_back 9 = .ok (.ireturn, 1) := by decide +kernel
theorem dX4_back_10 : decode cX4_back 10 = .ok (.aload_n 0, 1) := by decide +kernel
theorem dX4_back_11 : decode cX4_back 11 = .ok (.getfield 12, 3) := by decide +kernel
theorem dX4_back_14 : decode cX4_back 14 = .ok (.getfield 73, 3) := by decide +kernel
theorem dX4_back_17 : decode cX4_back 17 = .ok (.iload_n 1, 1) := by decide +kernel
theorem dX4_back_18 : decode cX4_back 18 = .ok (.iaload, 1) := by decide +kernel
theorem dX4_back_19 : decode cX4_back 19 = .ok (.ifCond .ne 6, 3) := by decide +kernel
theorem dX4_back_22 : decode cX4_back 22 = .ok (.bipush (-3), 2) := by decide +kernel
theorem dX4_back_24 : decode cX4_back 24 = .ok (.ireturn, 1) := by decide +kernel
theorem dX4_back_25 : decode cX4_back 25 = .ok (.aload_n 0, 1) := by decide +kernel
theorem dX4_back_26 : decode cX4_back 26 = .ok (.getfield 12, 3) := by decide +kernel
theorem dX4_back_29 : decode cX4_back 29 = .ok (.getfield 73, 3) := by decide +kernel
theorem dX4_back_32 : decode cX4_back 32 = .ok (.iload_n 1, 1) := by decide +kernel
theorem dX4_back_33 : decode cX4_back 33 = .ok (.dup2, 1) := by decide +kernel
theorem dX4_back_34 : decode cX4_back 34 = .ok (.iaload, 1) := by decide +kernel
theorem dX4_back_35 : decode cX4_back 35 = .ok (.iconst 1, 1) := by decide +kernel
theorem dX4_back_36 : decode cX4_back 36 = .ok (.isub, 1) := by decide +kernel
theorem dX4_back_37 : decode cX4_back 37 = .ok (.iastore, 1) := by decide +kernel
theorem dX4_back_38 : decode cX4_back 38 = .ok (.aload_n 0, 1) := by decide +kernel
theorem dX4_back_39 : decode cX4_back 39 = .ok (.getfield 21, 3) := by decide +kernel
theorem dX4_back_42 : decode cX4_back 42 = .ok (.iconst 1, 1) := by decide +kernel
theorem dX4_back_43 : decode cX4_back 43 = .ok (.putfield 65, 3) := by decide +kernel
theorem dX4_back_46 : decode cX4_back 46 = .ok (.aload_n 0, 1) := by decide +kernel
theorem dX4_back_47 : decode cX4_back 47 = .ok (.getfield 12, 3) := by decide +kernel
theorem dX4_back_50 : decode cX4_back 50 = .ok (.getfield 73, 3) := by decide +kernel
theorem dX4_back_53 : decode cX4_back 53 = .ok (.iload_n 1, 1) := by decide +kernel
theorem dX4_back_54 : decode cX4_back 54 = .ok (.iaload, 1) := by decide +kernel
theorem dX4_back_55 : decode cX4_back 55 = .ok (.ireturn, 1) := by decide +kernel
theorem dX4_tune_0 : decode cX4_tune 0 = .ok (.aload_n 0, 1) := by decide +kernel
theorem dX4_tune_1 : decode cX4_tune 1 = .ok (.getfield 12, 3) := by decide +kernel
theorem dX4_tune_4 : decode cX4_tune 4 = .ok (.iload_n 1, 1) := by decide +kernel
theorem dX4_tune_5 : decode cX4_tune 5 = .ok (.iload_n 2, 1) := by decide +kernel
theorem dX4_tune_6 : decode cX4_tune 6 = .ok (.invokevirtual 80, 3) := by decide +kernel
theorem dX4_tune_9 : decode cX4_tune 9 = .ok (.istore 5, 2) := by decide +kernel
theorem dX4_tune_11 : decode cX4_tune 11 = .ok (.iload 5, 2) := by decide +kernel
theorem dX4_tune_13 : decode cX4_tune 13 = .ok (.iconst (-1), 1) := by decide +kernel
theorem dX4_tune_14 : decode cX4_tune 14 = .ok (.if_icmp .eq 23, 3) := by decide +kernel
theorem dX4_tune_17 : decode cX4_tune 17 = .ok (.iload_n 3, 1) := by decide +kernel
theorem dX4_tune_18 : decode cX4_tune 18 = .ok (.i2l, 1) := by decide +kernel
theorem dX4_tune_19 : decode cX4_tune 19 = .ok (.iconst 0, 1) := by decide +kernel
theorem dX4_tune_20 : decode cX4_tune 20 = .ok (.iconst 3, 1) := by decide +kernel
theorem dX4_tune_21 : decode cX4_tune 21 = .ok (.invokestatic 50, 3) := by decide +kernel
theorem dX4_tune_24 : decode cX4_tune 24 = .ok (.ifCond .eq 13, 3) := by decide +kernel
theorem dX4_tune_27 : decode cX4_tune 27 = .ok (.iload_n 3, 1) := by decide +kernel
theorem dX4_tune_28 : decode cX4_tune 28 = .ok (.iload 4, 2) := by decide +kernel
theorem dX4_tune_30 : decode cX4_tune 30 = .ok (.i2l, 1) := by decide +kernel
theorem dX4_tune_31 : decode cX4_tune 31 = .ok (.invokestatic 69, 3) := by decide +kernel
theorem dX4_tune_34 : decode cX4_tune 34 = .ok (.ifCond .ne 6, 3) := by decide +kernel
theorem dX4_tune_37 : decode cX4_tune 37 = .ok (.bipush (-2), 2) := by decide +kernel
theorem dX4_tune_39 : decode cX4_tune 39 = .ok (.ireturn, 1) := by decide +kernel
theorem dX4_tune_40 : decode cX4_tune 40 = .ok (.aload_n 0, 1) := by decide +kernel
theorem dX4_tune_41 : decode cX4_tune 41 = .ok (.getfield 12, 3) := by decide +kernel
theorem dX4_tune_44 : decode cX4_tune 44 = .ok (.getfield 84, 3) := by decide +kernel
theorem dX4_tune_47 : decode cX4_tune 47 = .ok (.iload_n 3, 1) := by decide +kernel
theorem dX4_tune_48 : decode cX4_tune 48 = .ok (.aaload, 1) := by decide +kernel
theorem dX4_tune_49 : decode cX4_tune 49 = .ok (.iload 5, 2) := by decide +kernel
theorem dX4_tune_51 : decode cX4_tune 51 = .ok (.iaload, 1) := by decide +kernel
theorem dX4_tune_52 : decode cX4_tune 52 = .ok (.istore 6, 2) := by decide +kernel
theorem dX4_tune_54 : decode cX4_tune 54 = .ok (.aload_n 0, 1) := by decide +kernel
theorem dX4_tune_55 : decode cX4_tune 55 = .ok (.getfield 12, 3) := by decide +kernel
theorem dX4_tune_58 : decode cX4_tune 58 = .ok (.getfield 84, 3) := by decide +kernel
theorem dX4_tune_61 : decode cX4_tune 61 = .ok (.iload_n 3, 1) := by decide +kernel
theorem dX4_tune_62 : decode cX4_tune 62 = .ok (.aaload, 1) := by decide +kernel
theorem dX4_tune_63 : decode cX4_tune 63 = .ok (.iload 5, 2) := by decide +kernel
theorem dX4_tune_65 : decode cX4_tune 65 = .ok (.iload 4, 2) := by decide +kernel
theorem dX4_tune_67 : decode cX4_tune 67 = .ok (.iastore, 1) := by decide +kernel
theorem dX4_tune_68 : decode cX4_tune 68 = .ok (.aload_n 0, 1) := by decide +kernel
theorem dX4_tune_69 : decode cX4_tune 69 = .ok (.getfield 21, 3) := by decide +kernel
theorem dX4_tune_72 : decode cX4_tune 72 = .ok (.iconst 1, 1) := by decide +kernel
theorem dX4_tune_73 : decode cX4_tune 73 = .ok (.putfield 65, 3) := by decide +kernel
theorem dX4_tune_76 : decode cX4_tune 76 = .ok (.iload 6, 2) := by decide +kernel
theorem dX4_tune_78 : decode cX4_tune 78 = .ok (.ireturn, 1) := by decide +kernel
theorem dX4_read_0 : decode cX4_read 0 = .ok (.iload_n 1, 1) := by decide +kernel
theorem dX4_read_1 : decode cX4_read 1 = .ok (.invokestatic 46, 3) := by decide +kernel
theorem dX4_read_4 : decode cX4_read 4 = .ok (.ifCond .eq 10, 3) := by decide +kernel
theorem dX4_read_7 : decode cX4_read 7 = .ok (.iload_n 2, 1) := by decide +kernel
theorem dX4_read_8 : decode cX4_read 8 = .ok (.invokestatic 87, 3) := by decide +kernel
theorem dX4_read_11 : decode cX4_read 11 = .ok (.ifCond .ne 6, 3) := by decide +kernel
theorem dX4_read_14 : decode cX4_read 14 = .ok (.bipush (-2), 2) := by decide +kernel
theorem dX4_read_16 : decode cX4_read 16 = .ok (.ireturn, 1) := by decide +kernel
theorem dX4_read_17 : decode cX4_read 17 = .ok (.aload_n 0, 1) := by decide +kernel
theorem dX4_read_18 : decode cX4_read 18 = .ok (.getfield 37, 3) := by decide +kernel
theorem dX4_read_21 : decode cX4_read 21 = .ok (.iload_n 2, 1) := by decide +kernel
theorem dX4_read_22 : decode cX4_read 22 = .ok (.aaload, 1) := by decide +kernel
theorem dX4_read_23 : decode cX4_read 23 = .ok (.astore_n 3, 1) := by decide +kernel
theorem dX4_read_24 : decode cX4_read 24 = .ok (.aload_n 3, 1) := by decide +kernel
theorem dX4_read_25 : decode cX4_read 25 = .ok (.getfield 90, 3) := by decide +kernel
theorem dX4_read_28 : decode cX4_read 28 = .ok (.ifCond .eq 9, 3) := by decide +kernel
theorem dX4_read_31 : decode cX4_read 31 = .ok (.aload_n 0, 1) := by decide +kernel
theorem dX4_read_32 : decode cX4_read 32 = .ok (.iconst 1, 1) := by decide +kernel
theorem dX4_read_33 : decode cX4_read 33 = .ok (.invokevirtual 93, 3) := by decide +kernel
theorem dX4_read_36 : decode cX4_read 36 = .ok (.ireturn, 1) := by decide +kernel
theorem dX4_read_37 : decode cX4_read 37 = .ok (.aload_n 3, 1) := by decide +kernel
theorem dX4_read_38 : decode cX4_read 38 = .ok (.getfield 97, 3) := by decide +kernel
theorem dX4_read_41 : decode cX4_read 41 = .ok (.iconst 4, 1) := by decide +kernel
theorem dX4_read_42 : decode cX4_read 42 = .ok (.idiv, 1) := by decide +kernel
theorem dX4_read_43 : decode cX4_read 43 = .ok (.istore 4, 2) := by decide +kernel
theorem dX4_read_45 : decode cX4_read 45 = .ok (.iconst 0, 1) := by decide +kernel
theorem dX4_read_46 : decode cX4_read 46 = .ok (.istore 5, 2) := by decide +kernel
theorem dX4_read_48 : decode cX4_read 48 = .ok (.iload 5, 2) := by decide +kernel
theorem dX4_read_50 : decode cX4_read 50 = .ok (.iload 4, 2) := by decide +kernel
theorem dX4_read_52 : decode cX4_read 52 = .ok (.if_icmp .ge 88, 3) := by decide +kernel
theorem dX4_read_55 : decode cX4_read 55 = .ok (.aload_n 0, 1) := by decide +kernel
theorem dX4_read_56 : decode cX4_read 56 = .ok (.getfield 12, 3) := by decide +kernel
theorem dX4_read_59 : decode cX4_read 59 = .ok (.getfield 73, 3) := by decide +kernel
theorem dX4_read_62 : decode cX4_read 62 = .ok (.iload_n 1, 1) := by decide +kernel
theorem dX4_read_63 : decode cX4_read 63 = .ok (.iaload, 1) := by decide +kernel
theorem dX4_read_64 : decode cX4_read 64 = .ok (.iconst 3, 1) := by decide +kernel
theorem dX4_read_65 : decode cX4_read 65 = .ok (.if_icmp .ge 75, 3) := by decide +kernel
theorem dX4_read_68 : decode cX4_read 68 = .ok (.aload_n 3, 1) := by decide +kernel
theorem dX4_read_69 : decode cX4_read 69 = .ok (.iload 5, 2) := by decide +kernel
theorem dX4_read_71 : decode cX4_read 71 = .ok (.iconst 4, 1) := by decide +kernel
theorem dX4_read_72 : decode cX4_read 72 = .ok (.imul, 1) := by decide +kernel
theorem dX4_read_73 : decode cX4_read 73 = .ok (.invokestatic 100, 3) := by decide +kernel
theorem dX4_read_76 : decode cX4_read 76 = .ok (.ifCond .eq 64, 3) := by decide +kernel
theorem dX4_read_79 : decode cX4_read 79 = .ok (.iload 5, 2) := by decide +kernel
theorem dX4_read_81 : decode cX4_read 81 = .ok (.iconst 4, 1) := by decide +kernel
theorem dX4_read_82 : decode cX4_read 82 = .ok (.imul, 1) := by decide +kernel
theorem dX4_read_83 : decode cX4_read 83 = .ok (.istore 6, 2) := by decide +kernel
theorem dX4_read_85 : decode cX4_read 85 = .ok (.aload_n 0, 1) := by decide +kernel
theorem dX4_read_86 : decode cX4_read 86 = .ok (.getfield 12, 3) := by decide +kernel
theorem dX4_read_89 : decode cX4_read 89 = .ok (.iload_n 1, 1) := by decide +kernel
theorem dX4_read_90 : decode cX4_read 90 = .ok (.aload_n 3, 1) := by decide +kernel
theorem dX4_read_91 : decode cX4_read 91 = .ok (.getfield 104, 3) := by decide +kernel
theorem dX4_read_94 : decode cX4_read 94 = .ok (.iload 6, 2) := by decide +kernel
theorem dX4_read_96 : decode cX4_read 96 = .ok (.iconst 0, 1) := by decide +kernel
theorem dX4_read_97 : decode cX4_read 97 = .ok (.iadd, 1) := by decide +kernel
theorem dX4_read_98 : decode cX4_read 98 = .ok (.laload, 1) := by decide +kernel
theorem dX4_read_99 : decode cX4_read 99 = .ok (.l2i, 1) := by decide +kernel
theorem dX4_read_100 : decode cX4_read 100 = .ok (.aload_n 3, 1) := by decide +kernel
theorem dX4_read_101 : decode cX4_read 101 = .ok (.getfield 104, 3) := by decide +kernel
theorem dX4_read_104 : decode cX4_read 104 = .ok (.iload 6, 2) := by decide +kernel
theorem dX4_read_106 : decode cX4_read 106 = .ok (.iconst 1, 1) := by decide +kernel
theorem dX4_read_107 : decode cX4_read 107 = .ok (.iadd, 1) := by decide +kernel
theorem dX4_read_108 : decode cX4_read 108 = .ok (.laload, 1) := by decide +kernel
theorem dX4_read_109 : decode cX4_read 109 = .ok (.l2i, 1) := by decide +kernel
theorem dX4_read_110 : decode cX4_read 110 = .ok (.aload_n 3, 1) := by decide +kernel
theorem dX4_read_111 : decode cX4_read 111 = .ok (.getfield 104, 3) := by decide +kernel
theorem dX4_read_114 : decode cX4_read 114 = .ok (.iload 6, 2) := by decide +kernel
theorem dX4_read_116 : decode cX4_read 116 = .ok (.iconst 2, 1) := by decide +kernel
theorem dX4_read_117 : decode cX4_read 117 = .ok (.iadd, 1) := by decide +kernel
theorem dX4_read_118 : decode cX4_read 118 = .ok (.laload, 1) := by decide +kernel
theorem dX4_read_119 : decode cX4_read 119 = .ok (.l2i, 1) := by decide +kernel
theorem dX4_read_120 : decode cX4_read 120 = .ok (.aload_n 3, 1) := by decide +kernel
theorem dX4_read_121 : decode cX4_read 121 = .ok (.getfield 104, 3) := by decide +kernel
theorem dX4_read_124 : decode cX4_read 124 = .ok (.iload 6, 2) := by decide +kernel
theorem dX4_read_126 : decode cX4_read 126 = .ok (.iconst 3, 1) := by decide +kernel
theorem dX4_read_127 : decode cX4_read 127 = .ok (.iadd, 1) := by decide +kernel
theorem dX4_read_128 : decode cX4_read 128 = .ok (.laload, 1) := by decide +kernel
theorem dX4_read_129 : decode cX4_read 129 = .ok (.l2i, 1) := by decide +kernel
theorem dX4_read_130 : decode cX4_read 130 = .ok (.invokevirtual 76, 3) := by decide +kernel
theorem dX4_read_133 : decode cX4_read 133 = .ok (.pop, 1) := by decide +kernel
theorem dX4_read_134 : decode cX4_read 134 = .ok (.iinc 5 1, 3) := by decide +kernel
theorem dX4_read_137 : decode cX4_read 137 = .ok (.goto (-89), 3) := by decide +kernel
theorem dX4_read_140 : decode cX4_read 140 = .ok (.iload 5, 2) := by decide +kernel
theorem dX4_read_142 : decode cX4_read 142 = .ok (.ifCond .le 11, 3) := by decide +kernel
theorem dX4_read_145 : decode cX4_read 145 = .ok (.aload_n 0, 1) := by decide +kernel
theorem dX4_read_146 : decode cX4_read 146 = .ok (.getfield 21, 3) := by decide +kernel
theorem dX4_read_149 : decode cX4_read 149 = .ok (.iconst 1, 1) := by decide +kernel
theorem dX4_read_150 : decode cX4_read 150 = .ok (.putfield 65, 3) := by decide +kernel
theorem dX4_read_153 : decode cX4_read 153 = .ok (.iload 5, 2) := by decide +kernel
theorem dX4_read_155 : decode cX4_read 155 = .ok (.ireturn, 1) := by decide +kernel
theorem dX4_has_0 : decode cX4_has 0 = .ok (.iload_n 1, 1) := by decide +kernel
theorem dX4_has_1 : decode cX4_has 1 = .ok (.invokestatic 46, 3) := by decide +kernel
theorem dX4_has_4 : decode cX4_has 4 = .ok (.ifCond .eq 13, 3) := by decide +kernel
theorem dX4_has_7 : decode cX4_has 7 = .ok (.iload_n 2, 1) := by decide +kernel
theorem dX4_has_8 : decode cX4_has 8 = .ok (.i2l, 1) := by decide +kernel
theorem dX4_has_9 : decode cX4_has 9 = .ok (.iconst 0, 1) := by decide +kernel
theorem dX4_has_10 : decode cX4_has 10 = .ok (.iconst 5, 1) := by decide +kernel
theorem dX4_has_11 : decode cX4_has 11 = .ok (.invokestatic 50, 3) := by decide +kernel
theorem dX4_has_14 : decode cX4_has 14 = .ok (.ifCond .ne 6, 3) := by decide +kernel
theorem dX4_has_17 : decode cX4_has 17 = .ok (.bipush (-2), 2) := by decide +kernel
theorem dX4_has_19 : decode cX4_has 19 = .ok (.ireturn, 1) := by decide +kernel
theorem dX4_has_20 : decode cX4_has 20 = .ok (.aload_n 0, 1) := by decide +kernel
theorem dX4_has_21 : decode cX4_has 21 = .ok (.iload_n 1, 1) := by decide +kernel
theorem dX4_has_22 : decode cX4_has 22 = .ok (.iload_n 2, 1) := by decide +kernel
theorem dX4_has_23 : decode cX4_has 23 = .ok (.invokevirtual 108, 3) := by decide +kernel
theorem dX4_has_26 : decode cX4_has 26 = .ok (.ireturn, 1) := by decide +kernel
theorem dX4_info_0 : decode cX4_info 0 = .ok (.aload_n 0, 1) := by decide +kernel
theorem dX4_info_1 : decode cX4_info 1 = .ok (.getfield 12, 3) := by decide +kernel
theorem dX4_info_4 : decode cX4_info 4 = .ok (.iload_n 1, 1) := by decide +kernel
theorem dX4_info_5 : decode cX4_info 5 = .ok (.iload_n 2, 1) := by decide +kernel
theorem dX4_info_6 : decode cX4_info 6 = .ok (.invokevirtual 80, 3) := by decide +kernel
theorem dX4_info_9 : decode cX4_info 9 = .ok (.istore 4, 2) := by decide +kernel
theorem dX4_info_11 : decode cX4_info 11 = .ok (.iload 4, 2) := by decide +kernel
theorem dX4_info_13 : decode cX4_info 13 = .ok (.iconst (-1), 1) := by decide +kernel
theorem dX4_info_14 : decode cX4_info 14 = .ok (.if_icmp .eq 14, 3) := by decide +kernel
theorem dX4_info_17 : decode cX4_info 17 = .ok (.iload_n 3, 1) := by decide +kernel
theorem dX4_info_18 : decode cX4_info 18 = .ok (.i2l, 1) := by decide +kernel
theorem dX4_info_19 : decode cX4_info 19 = .ok (.iconst 0, 1) := by decide +kernel
theorem dX4_info_20 : decode cX4_info 20 = .ok (.bipush 6, 2) := by decide +kernel
theorem dX4_info_22 : decode cX4_info 22 = .ok (.invokestatic 50, 3) := by decide +kernel
theorem dX4_info_25 : decode cX4_info 25 = .ok (.ifCond .ne 6, 3) := by decide +kernel
theorem dX4_info_28 : decode cX4_info 28 = .ok (.bipush (-2), 2) := by decide +kernel
theorem dX4_info_30 : decode cX4_info 30 = .ok (.ireturn, 1) := by decide +kernel
theorem dX4_info_31 : decode cX4_info 31 = .ok (.iload_n 3, 1) := by decide +kernel
theorem dX4_info_32 : decode cX4_info 32 = .ok (.iconst 5, 1) := by decide +kernel
theorem dX4_info_33 : decode cX4_info 33 = .ok (.if_icmp .ne 10, 3) := by decide +kernel
theorem dX4_info_36 : decode cX4_info 36 = .ok (.aload_n 0, 1) := by decide +kernel
theorem dX4_info_37 : decode cX4_info 37 = .ok (.getfield 21, 3) := by decide +kernel
theorem dX4_info_40 : decode cX4_info 40 = .ok (.invokevirtual 111, 3) := by decide +kernel
theorem dX4_info_43 : decode cX4_info 43 = .ok (.aload_n 0, 1) := by decide +kernel
theorem dX4_info_44 : decode cX4_info 44 = .ok (.iload 4, 2) := by decide +kernel
theorem dX4_info_46 : decode cX4_info 46 = .ok (.iload_n 3, 1) := by decide +kernel
theorem dX4_info_47 : decode cX4_info 47 = .ok (.invokevirtual 114, 3) := by decide +kernel
theorem dX4_info_50 : decode cX4_info 50 = .ok (.ireturn, 1) := by decide +kernel
theorem dX4_load_0 : decode cX4_load 0 = .ok (.aload_n 0, 1) := by decide +kernel
theorem dX4_load_1 : decode cX4_load 1 = .ok (.getfield 12, 3) := by decide +kernel
theorem dX4_load_4 : decode cX4_load 4 = .ok (.iload_n 1, 1) := by decide +kernel
theorem dX4_load_5 : decode cX4_load 5 = .ok (.iload_n 2, 1) := by decide +kernel
theorem dX4_load_6 : decode cX4_load 6 = .ok (.invokevirtual 80, 3) := by decide +kernel
theorem dX4_load_9 : decode cX4_load 9 = .ok (.istore 4, 2) := by decide +kernel
theorem dX4_load_11 : decode cX4_load 11 = .ok (.iload 4, 2) := by decide +kernel
theorem dX4_load_13 : decode cX4_load 13 = .ok (.iconst (-1), 1) := by decide +kernel
theorem dX4_load_14 : decode cX4_load 14 = .ok (.if_icmp .eq 13, 3) := by decide +kernel
theorem dX4_load_17 : decode cX4_load 17 = .ok (.iload_n 3, 1) := by decide +kernel
theorem dX4_load_18 : decode cX4_load 18 = .ok (.i2l, 1) := by decide +kernel
theorem dX4_load_19 : decode cX4_load 19 = .ok (.iconst 0, 1) := by decide +kernel
theorem dX4_load_20 : decode cX4_load 20 = .ok (.iconst 1, 1) := by decide +kernel
theorem dX4_load_21 : decode cX4_load 21 = .ok (.invokestatic 50, 3) := by decide +kernel
theorem dX4_load_24 : decode cX4_load 24 = .ok (.ifCond .ne 6, 3) := by decide +kernel
theorem dX4_load_27 : decode cX4_load 27 = .ok (.bipush (-2), 2) := by decide +kernel
theorem dX4_load_29 : decode cX4_load 29 = .ok (.ireturn, 1) := by decide +kernel
theorem dX4_load_30 : decode cX4_load 30 = .ok (.aload_n 0, 1) := by decide +kernel
theorem dX4_load_31 : decode cX4_load 31 = .ok (.getfield 12, 3) := by decide +kernel
theorem dX4_load_34 : decode cX4_load 34 = .ok (.iload 4, 2) := by decide +kernel
theorem dX4_load_36 : decode cX4_load 36 = .ok (.iload_n 3, 1) := by decide +kernel
theorem dX4_load_37 : decode cX4_load 37 = .ok (.invokevirtual 117, 3) := by decide +kernel
theorem dX4_load_40 : decode cX4_load 40 = .ok (.ireturn, 1) := by decide +kernel
theorem dX4_bound_0 : decode cX4_bound 0 = .ok (.aload_n 0, 1) := by decide +kernel
theorem dX4_bound_1 : decode cX4_bound 1 = .ok (.getfield 12, 3) := by decide +kernel
theorem dX4_bound_4 : decode cX4_bound 4 = .ok (.iload_n 1, 1) := by decide +kernel
theorem dX4_bound_5 : decode cX4_bound 5 = .ok (.iload_n 2, 1) := by decide +kernel
theorem dX4_bound_6 : decode cX4_bound 6 = .ok (.invokevirtual 80, 3) := by decide +kernel
theorem dX4_bound_9 : decode cX4_bound 9 = .ok (.istore_n 3, 1) := by decide +kernel
theorem dX4_bound_10 : decode cX4_bound 10 = .ok (.iload_n 3, 1) := by decide +kernel
theorem dX4_bound_11 : decode cX4_bound 11 = .ok (.iconst (-1), 1) := by decide +kernel
theorem dX4_bound_12 : decode cX4_bound 12 = .ok (.if_icmp .ne 6, 3) := by decide +kernel
theorem dX4_bound_15 : decode cX4_bound 15 = .ok (.bipush (-2), 2) := by decide +kernel
theorem dX4_bound_17 : decode cX4_bound 17 = .ok (.ireturn, 1) := by decide +kernel
theorem dX4_bound_18 : decode cX4_bound 18 = .ok (.aload_n 0, 1) := by decide +kernel
theorem dX4_bound_19 : decode cX4_bound 19 = .ok (.getfield 21, 3) := by decide +kernel
theorem dX4_bound_22 : decode cX4_bound 22 = .ok (.invokevirtual 111, 3) := by decide +kernel
theorem dX4_bound_25 : decode cX4_bound 25 = .ok (.aload_n 0, 1) := by decide +kernel
theorem dX4_bound_26 : decode cX4_bound 26 = .ok (.getfield 21, 3) := by decide +kernel
theorem dX4_bound_29 : decode cX4_bound 29 = .ok (.iload_n 3, 1) := by decide +kernel
theorem dX4_bound_30 : decode cX4_bound 30 = .ok (.invokevirtual 120, 3) := by decide +kernel
theorem dX4_bound_33 : decode cX4_bound 33 = .ok (.ireturn, 1) := by decide +kernel
theorem dX4_searched_0 : decode cX4_searched 0 = .ok (.aload_n 0, 1) := by decide +kernel
theorem dX4_searched_1 : decode cX4_searched 1 = .ok (.getfield 12, 3) := by decide +kernel
theorem dX4_searched_4 : decode cX4_searched 4 = .ok (.iload_n 1, 1) := by decide +kernel
theorem dX4_searched_5 : decode cX4_searched 5 = .ok (.iload_n 2, 1) := by decide +kernel
theorem dX4_searched_6 : decode cX4_searched 6 = .ok (.invokevirtual 80, 3) := by decide +kernel
theorem dX4_searched_9 : decode cX4_searched 9 = .ok (.istore_n 3, 1) := by decide +kernel
theorem dX4_searched_10 : decode cX4_searched 10 = .ok (.iload_n 3, 1) := by decide +kernel
theorem dX4_searched_11 : decode cX4_searched 11 = .ok (.iconst (-1), 1) := by decide +kernel
theorem dX4_searched_12 : decode cX4_searched 12 = .ok (.if_icmp .ne 6, 3) := by decide +kernel
theorem dX4_searched_15 : decode cX4_searched 15 = .ok (.bipush (-2), 2) := by decide +kernel
theorem dX4_searched_17 : decode cX4_searched 17 = .ok (.ireturn, 1) := by decide +kernel
theorem dX4_searched_18 : decode cX4_searched 18 = .ok (.aload_n 0, 1) := by decide +kernel
theorem dX4_searched_19 : decode cX4_searched 19 = .ok (.getfield 21, 3) := by decide +kernel
theorem dX4_searched_22 : decode cX4_searched 22 = .ok (.invokevirtual 111, 3) := by decide +kernel
theorem dX4_searched_25 : decode cX4_searched 25 = .ok (.aload_n 0, 1) := by decide +kernel
theorem dX4_searched_26 : decode cX4_searched 26 = .ok (.getfield 21, 3) := by decide +kernel
theorem dX4_searched_29 : decode cX4_searched 29 = .ok (.iload_n 3, 1) := by decide +kernel
theorem dX4_searched_30 : decode cX4_searched 30 = .ok (.invokevirtual 123, 3) := by decide +kernel
theorem dX4_searched_33 : decode cX4_searched 33 = .ok (.ireturn, 1) := by decide +kernel
theorem dX4_quick_0 : decode cX4_quick 0 = .ok (.aload_n 0, 1) := by decide +kernel
theorem dX4_quick_1 : decode cX4_quick 1 = .ok (.getfield 12, 3) := by decide +kernel
theorem dX4_quick_4 : decode cX4_quick 4 = .ok (.iload_n 1, 1) := by decide +kernel
theorem dX4_quick_5 : decode cX4_quick 5 = .ok (.iload_n 2, 1) := by decide +kernel
theorem dX4_quick_6 : decode cX4_quick 6 = .ok (.invokevirtual 80, 3) := by decide +kernel
theorem dX4_quick_9 : decode cX4_quick 9 = .ok (.istore_n 3, 1) := by decide +kernel
theorem dX4_quick_10 : decode cX4_quick 10 = .ok (.iload_n 3, 1) := by decide +kernel
theorem dX4_quick_11 : decode cX4_quick 11 = .ok (.iconst (-1), 1) := by decide +kernel
theorem dX4_quick_12 : decode cX4_quick 12 = .ok (.if_icmp .ne 6, 3) := by decide +kernel
theorem dX4_quick_15 : decode cX4_quick 15 = .ok (.bipush (-2), 2) := by decide +kernel
theorem dX4_quick_17 : decode cX4_quick 17 = .ok (.ireturn, 1) := by decide +kernel
theorem dX4_quick_18 : decode cX4_quick 18 = .ok (.aload_n 0, 1) := by decide +kernel
theorem dX4_quick_19 : decode cX4_quick 19 = .ok (.getfield 21, 3) := by decide +kernel
theorem dX4_quick_22 : decode cX4_quick 22 = .ok (.invokevirtual 111, 3) := by decide +kernel
theorem dX4_quick_25 : decode cX4_quick 25 = .ok (.aload_n 0, 1) := by decide +kernel
theorem dX4_quick_26 : decode cX4_quick 26 = .ok (.getfield 21, 3) := by decide +kernel
theorem dX4_quick_29 : decode cX4_quick 29 = .ok (.iload_n 3, 1) := by decide +kernel
theorem dX4_quick_30 : decode cX4_quick 30 = .ok (.invokevirtual 126, 3) := by decide +kernel
theorem dX4_quick_33 : decode cX4_quick 33 = .ok (.ireturn, 1) := by decide +kernel
theorem dX4_rounds_0 : decode cX4_rounds 0 = .ok (.aload_n 0, 1) := by decide +kernel
theorem dX4_rounds_1 : decode cX4_rounds 1 = .ok (.getfield 21, 3) := by decide +kernel
theorem dX4_rounds_4 : decode cX4_rounds 4 = .ok (.invokevirtual 111, 3) := by decide +kernel
theorem dX4_rounds_7 : decode cX4_rounds 7 = .ok (.aload_n 0, 1) := by decide +kernel
theorem dX4_rounds_8 : decode cX4_rounds 8 = .ok (.getfield 21, 3) := by decide +kernel
theorem dX4_rounds_11 : decode cX4_rounds 11 = .ok (.getfield 129, 3) := by decide +kernel
theorem dX4_rounds_14 : decode cX4_rounds 14 = .ok (.ireturn, 1) := by decide +kernel
theorem dX4_worst_0 : decode cX4_worst 0 = .ok (.aload_n 0, 1) := by decide +kernel
theorem dX4_worst_1 : decode cX4_worst 1 = .ok (.getfield 12, 3) := by decide +kernel
theorem dX4_worst_4 : decode cX4_worst 4 = .ok (.iload_n 1, 1) := by decide +kernel
theorem dX4_worst_5 : decode cX4_worst 5 = .ok (.iload_n 2, 1) := by decide +kernel
theorem dX4_worst_6 : decode cX4_worst 6 = .ok (.invokevirtual 80, 3) := by decide +kernel
theorem dX4_worst_9 : decode cX4_worst 9 = .ok (.istore 4, 2) := by decide +kernel
theorem dX4_worst_11 : decode cX4_worst 11 = .ok (.iload 4, 2) := by decide +kernel
theorem dX4_worst_13 : decode cX4_worst 13 = .ok (.iconst (-1), 1) := by decide +kernel
theorem dX4_worst_14 : decode cX4_worst 14 = .ok (.if_icmp .eq 13, 3) := by decide +kernel
theorem dX4_worst_17 : decode cX4_worst 17 = .ok (.iload_n 3, 1) := by decide +kernel
theorem dX4_worst_18 : decode cX4_worst 18 = .ok (.i2l, 1) := by decide +kernel
theorem dX4_worst_19 : decode cX4_worst 19 = .ok (.iconst 0, 1) := by decide +kernel
theorem dX4_worst_20 : decode cX4_worst 20 = .ok (.iconst 2, 1) := by decide +kernel
theorem dX4_worst_21 : decode cX4_worst 21 = .ok (.invokestatic 50, 3) := by decide +kernel
theorem dX4_worst_24 : decode cX4_worst 24 = .ok (.ifCond .ne 6, 3) := by decide +kernel
theorem dX4_worst_27 : decode cX4_worst 27 = .ok (.bipush (-2), 2) := by decide +kernel
theorem dX4_worst_29 : decode cX4_worst 29 = .ok (.ireturn, 1) := by decide +kernel
theorem dX4_worst_30 : decode cX4_worst 30 = .ok (.aload_n 0, 1) := by decide +kernel
theorem dX4_worst_31 : decode cX4_worst 31 = .ok (.getfield 21, 3) := by decide +kernel
theorem dX4_worst_34 : decode cX4_worst 34 = .ok (.invokevirtual 111, 3) := by decide +kernel
theorem dX4_worst_37 : decode cX4_worst 37 = .ok (.aload_n 0, 1) := by decide +kernel
theorem dX4_worst_38 : decode cX4_worst 38 = .ok (.getfield 21, 3) := by decide +kernel
theorem dX4_worst_41 : decode cX4_worst 41 = .ok (.iload 4, 2) := by decide +kernel
theorem dX4_worst_43 : decode cX4_worst 43 = .ok (.iload_n 3, 1) := by decide +kernel
theorem dX4_worst_44 : decode cX4_worst 44 = .ok (.invokevirtual 132, 3) := by decide +kernel
theorem dX4_worst_47 : decode cX4_worst 47 = .ok (.ireturn, 1) := by decide +kernel
theorem dX4_meets_0 : decode cX4_meets 0 = .ok (.aload_n 0, 1) := by decide +kernel
theorem dX4_meets_1 : decode cX4_meets 1 = .ok (.getfield 21, 3) := by decide +kernel
theorem dX4_meets_4 : decode cX4_meets 4 = .ok (.invokevirtual 111, 3) := by decide +kernel
theorem dX4_meets_7 : decode cX4_meets 7 = .ok (.aload_n 0, 1) := by decide +kernel
theorem dX4_meets_8 : decode cX4_meets 8 = .ok (.getfield 21, 3) := by decide +kernel
theorem dX4_meets_11 : decode cX4_meets 11 = .ok (.invokevirtual 135, 3) := by decide +kernel
theorem dX4_meets_14 : decode cX4_meets 14 = .ok (.ireturn, 1) := by decide +kernel
theorem dX4_margin_0 : decode cX4_margin 0 = .ok (.aload_n 0, 1) := by decide +kernel
theorem dX4_margin_1 : decode cX4_margin 1 = .ok (.getfield 12, 3) := by decide +kernel
theorem dX4_margin_4 : decode cX4_margin 4 = .ok (.iload_n 1, 1) := by decide +kernel
theorem dX4_margin_5 : decode cX4_margin 5 = .ok (.iload_n 2, 1) := by decide +kernel
theorem dX4_margin_6 : decode cX4_margin 6 = .ok (.invokevirtual 80, 3) := by decide +kernel
theorem dX4_margin_9 : decode cX4_margin 9 = .ok (.istore_n 3, 1) := by decide +kernel
theorem dX4_margin_10 : decode cX4_margin 10 = .ok (.iload_n 3, 1) := by decide +kernel
theorem dX4_margin_11 : decode cX4_margin 11 = .ok (.iconst (-1), 1) := by decide +kernel
theorem dX4_margin_12 : decode cX4_margin 12 = .ok (.if_icmp .ne 6, 3) := by decide +kernel
theorem dX4_margin_15 : decode cX4_margin 15 = .ok (.bipush (-2), 2) := by decide +kernel
theorem dX4_margin_17 : decode cX4_margin 17 = .ok (.ireturn, 1) := by decide +kernel
theorem dX4_margin_18 : decode cX4_margin 18 = .ok (.aload_n 0, 1) := by decide +kernel
theorem dX4_margin_19 : decode cX4_margin 19 = .ok (.getfield 12, 3) := by decide +kernel
theorem dX4_margin_22 : decode cX4_margin 22 = .ok (.getfield 84, 3) := by decide +kernel
theorem dX4_margin_25 : decode cX4_margin 25 = .ok (.iconst 1, 1) := by decide +kernel
theorem dX4_margin_26 : decode cX4_margin 26 = .ok (.aaload, 1) := by decide +kernel
theorem dX4_margin_27 : decode cX4_margin 27 = .ok (.iload_n 3, 1) := by decide +kernel
theorem dX4_margin_28 : decode cX4_margin 28 = .ok (.iaload, 1) := by decide +kernel
theorem dX4_margin_29 : decode cX4_margin 29 = .ok (.istore 4, 2) := by decide +kernel
theorem dX4_margin_31 : decode cX4_margin 31 = .ok (.aload_n 0, 1) := by decide +kernel
theorem dX4_margin_32 : decode cX4_margin 32 = .ok (.getfield 12, 3) := by decide +kernel
theorem dX4_margin_35 : decode cX4_margin 35 = .ok (.invokevirtual 139, 3) := by decide +kernel
theorem dX4_margin_38 : decode cX4_margin 38 = .ok (.istore 5, 2) := by decide +kernel
theorem dX4_margin_40 : decode cX4_margin 40 = .ok (.iconst (-1), 1) := by decide +kernel
theorem dX4_margin_41 : decode cX4_margin 41 = .ok (.istore 6, 2) := by decide +kernel
theorem dX4_margin_43 : decode cX4_margin 43 = .ok (.bipush 8, 2) := by decide +kernel
theorem dX4_margin_45 : decode cX4_margin 45 = .ok (.istore 7, 2) := by decide +kernel
theorem dX4_margin_47 : decode cX4_margin 47 = .ok (.iload 7, 2) := by decide +kernel
theorem dX4_margin_49 : decode cX4_margin 49 = .ok (.ifCond .lt 62, 3) := by decide +kernel
theorem dX4_margin_52 : decode cX4_margin 52 = .ok (.iload 6, 2) := by decide +kernel
theorem dX4_margin_54 : decode cX4_margin 54 = .ok (.iconst (-1), 1) := by decide +kernel
theorem dX4_margin_55 : decode cX4_margin 55 = .ok (.if_icmp .ne 56, 3) := by decide +kernel
theorem dX4_margin_58 : decode cX4_margin 58 = .ok (.aload_n 0, 1) := by decide +kernel
theorem dX4_margin_59 : decode cX4_margin 59 = .ok (.getfield 12, 3) := by decide +kernel
theorem dX4_margin_62 : decode cX4_margin 62 = .ok (.getfield 84, 3) := by decide +kernel
theorem dX4_margin_65 : decode cX4_margin 65 = .ok (.iconst 1, 1) := by decide +kernel
theorem dX4_margin_66 : decode cX4_margin 66 = .ok (.aaload, 1) := by decide +kernel
theorem dX4_margin_67 : decode cX4_margin 67 = .ok (.iload_n 3, 1) := by decide +kernel
theorem dX4_margin_68 : decode cX4_margin 68 = .ok (.iload 4, 2) := by decide +kernel
theorem dX4_margin_70 : decode cX4_margin 70 = .ok (.iload 7, 2) := by decide +kernel
theorem dX4_margin_72 : decode cX4_margin 72 = .ok (.iadd, 1) := by decide +kernel
theorem dX4_margin_73 : decode cX4_margin 73 = .ok (.iastore, 1) := by decide +kernel
theorem dX4_margin_74 : decode cX4_margin 74 = .ok (.aload_n 0, 1) := by decide +kernel
theorem dX4_margin_75 : decode cX4_margin 75 = .ok (.getfield 25, 3) := by decide +kernel
theorem dX4_margin_78 : decode cX4_margin 78 = .ok (.iconst 1, 1) := by decide +kernel
theorem dX4_margin_79 : decode cX4_margin 79 = .ok (.putfield 65, 3) := by decide +kernel
theorem dX4_margin_82 : decode cX4_margin 82 = .ok (.aload_n 0, 1) := by decide +kernel
theorem dX4_margin_83 : decode cX4_margin 83 = .ok (.getfield 25, 3) := by decide +kernel
theorem dX4_margin_86 : decode cX4_margin 86 = .ok (.invokevirtual 111, 3) := by decide +kernel
theorem dX4_margin_89 : decode cX4_margin 89 = .ok (.aload_n 0, 1) := by decide +kernel
theorem dX4_margin_90 : decode cX4_margin 90 = .ok (.getfield 25, 3) := by decide +kernel
theorem dX4_margin_93 : decode cX4_margin 93 = .ok (.invokevirtual 135, 3) := by decide +kernel
theorem dX4_margin_96 : decode cX4_margin 96 = .ok (.iload 5, 2) := by decide +kernel
theorem dX4_margin_98 : decode cX4_margin 98 = .ok (.if_icmp .ne 7, 3) := by decide +kernel
theorem dX4_margin_101 : decode cX4_margin 101 = .ok (.iload 7, 2) := by decide +kernel
theorem dX4_margin_103 : decode cX4_margin 103 = .ok (.istore 6, 2) := by decide +kernel
theorem dX4_margin_105 : decode cX4_margin 105 = .ok (.iinc 7 (-1), 3) := by decide +kernel
theorem dX4_margin_108 : decode cX4_margin 108 = .ok (.goto (-61), 3) := by decide +kernel
theorem dX4_margin_111 : decode cX4_margin 111 = .ok (.aload_n 0, 1) := by decide +kernel
theorem dX4_margin_112 : decode cX4_margin 112 = .ok (.getfield 12, 3) := by decide +kernel
theorem dX4_margin_115 : decode cX4_margin 115 = .ok (.getfield 84, 3) := by decide +kernel
theorem dX4_margin_118 : decode cX4_margin 118 = .ok (.iconst 1, 1) := by decide +kernel
theorem dX4_margin_119 : decode cX4_margin 119 = .ok (.aaload, 1) := by decide +kernel
theorem dX4_margin_120 : decode cX4_margin 120 = .ok (.iload_n 3, 1) := by decide +kernel
theorem dX4_margin_121 : decode cX4_margin 121 = .ok (.iload 4, 2) := by decide +kernel
theorem dX4_margin_123 : decode cX4_margin 123 = .ok (.iastore, 1) := by decide +kernel
theorem dX4_margin_124 : decode cX4_margin 124 = .ok (.iload 6, 2) := by decide +kernel
theorem dX4_margin_126 : decode cX4_margin 126 = .ok (.ireturn, 1) := by decide +kernel
theorem dX4_better_0 : decode cX4_better 0 = .ok (.aload_n 0, 1) := by decide +kernel
theorem dX4_better_1 : decode cX4_better 1 = .ok (.getfield 12, 3) := by decide +kernel
theorem dX4_better_4 : decode cX4_better 4 = .ok (.iload_n 1, 1) := by decide +kernel
theorem dX4_better_5 : decode cX4_better 5 = .ok (.iload_n 2, 1) := by decide +kernel
theorem dX4_better_6 : decode cX4_better 6 = .ok (.invokevirtual 80, 3) := by decide +kernel
theorem dX4_better_9 : decode cX4_better 9 = .ok (.istore 4, 2) := by decide +kernel
theorem dX4_better_11 : decode cX4_better 11 = .ok (.iload 4, 2) := by decide +kernel
theorem dX4_better_13 : decode cX4_better 13 = .ok (.iconst (-1), 1) := by decide +kernel
theorem dX4_better_14 : decode cX4_better 14 = .ok (.if_icmp .eq 13, 3) := by decide +kernel
theorem dX4_better_17 : decode cX4_better 17 = .ok (.iload_n 3, 1) := by decide +kernel
theorem dX4_better_18 : decode cX4_better 18 = .ok (.i2l, 1) := by decide +kernel
theorem dX4_better_19 : decode cX4_better 19 = .ok (.iconst 0, 1) := by decide +kernel
theorem dX4_better_20 : decode cX4_better 20 = .ok (.iconst 1, 1) := by decide +kernel
theorem dX4_better_21 : decode cX4_better 21 = .ok (.invokestatic 50, 3) := by decide +kernel
theorem dX4_better_24 : decode cX4_better 24 = .ok (.ifCond .ne 6, 3) := by decide +kernel
theorem dX4_better_27 : decode cX4_better 27 = .ok (.bipush (-2), 2) := by decide +kernel
theorem dX4_better_29 : decode cX4_better 29 = .ok (.ireturn, 1) := by decide +kernel
theorem dX4_better_30 : decode cX4_better 30 = .ok (.aload_n 0, 1) := by decide +kernel
theorem dX4_better_31 : decode cX4_better 31 = .ok (.getfield 12, 3) := by decide +kernel
theorem dX4_better_34 : decode cX4_better 34 = .ok (.iload_n 1, 1) := by decide +kernel
theorem dX4_better_35 : decode cX4_better 35 = .ok (.invokevirtual 142, 3) := by decide +kernel
theorem dX4_better_38 : decode cX4_better 38 = .ok (.istore 5, 2) := by decide +kernel
theorem dX4_better_40 : decode cX4_better 40 = .ok (.aload_n 0, 1) := by decide +kernel
theorem dX4_better_41 : decode cX4_better 41 = .ok (.getfield 12, 3) := by decide +kernel
theorem dX4_better_44 : decode cX4_better 44 = .ok (.getfield 84, 3) := by decide +kernel
theorem dX4_better_47 : decode cX4_better 47 = .ok (.iconst 2, 1) := by decide +kernel
theorem dX4_better_48 : decode cX4_better 48 = .ok (.aaload, 1) := by decide +kernel
theorem dX4_better_49 : decode cX4_better 49 = .ok (.iload 4, 2) := by decide +kernel
theorem dX4_better_51 : decode cX4_better 51 = .ok (.iaload, 1) := by decide +kernel
theorem dX4_better_52 : decode cX4_better 52 = .ok (.istore 6, 2) := by decide +kernel
theorem dX4_better_54 : decode cX4_better 54 = .ok (.iconst (-1), 1) := by decide +kernel
theorem dX4_better_55 : decode cX4_better 55 = .ok (.istore 7, 2) := by decide +kernel
theorem dX4_better_57 : decode cX4_better 57 = .ok (.iconst (-1), 1) := by decide +kernel
theorem dX4_better_58 : decode cX4_better 58 = .ok (.istore 8, 2) := by decide +kernel
theorem dX4_better_60 : decode cX4_better 60 = .ok (.iconst 0, 1) := by decide +kernel
theorem dX4_better_61 : decode cX4_better 61 = .ok (.istore 9, 2) := by decide +kernel
theorem dX4_better_63 : decode cX4_better 63 = .ok (.iload 9, 2) := by decide +kernel
theorem dX4_better_65 : decode cX4_better 65 = .ok (.bipush 9, 2) := by decide +kernel
theorem dX4_better_67 : decode cX4_better 67 = .ok (.if_icmp .gt 76, 3) := by decide +kernel
theorem dX4_better_70 : decode cX4_better 70 = .ok (.aload_n 0, 1) := by decide +kernel
theorem dX4_better_71 : decode cX4_better 71 = .ok (.getfield 12, 3) := by decide +kernel
theorem dX4_better_74 : decode cX4_better 74 = .ok (.getfield 84, 3) := by decide +kernel
theorem dX4_better_77 : decode cX4_better 77 = .ok (.iconst 2, 1) := by decide +kernel
theorem dX4_better_78 : decode cX4_better 78 = .ok (.aaload, 1) := by decide +kernel
theorem dX4_better_79 : decode cX4_better 79 = .ok (.iload 4, 2) := by decide +kernel
theorem dX4_better_81 : decode cX4_better 81 = .ok (.iload 9, 2) := by decide +kernel
theorem dX4_better_83 : decode cX4_better 83 = .ok (.iastore, 1) := by decide +kernel
theorem dX4_better_84 : decode cX4_better 84 = .ok (.aload_n 0, 1) := by decide +kernel
theorem dX4_better_85 : decode cX4_better 85 = .ok (.getfield 25, 3) := by decide +kernel
theorem dX4_better_88 : decode cX4_better 88 = .ok (.iconst 1, 1) := by decide +kernel
theorem dX4_better_89 : decode cX4_better 89 = .ok (.putfield 65, 3) := by decide +kernel
theorem dX4_better_92 : decode cX4_better 92 = .ok (.aload_n 0, 1) := by decide +kernel
theorem dX4_better_93 : decode cX4_better 93 = .ok (.getfield 25, 3) := by decide +kernel
theorem dX4_better_96 : decode cX4_better 96 = .ok (.invokevirtual 111, 3) := by decide +kernel
theorem dX4_better_99 : decode cX4_better 99 = .ok (.aload_n 0, 1) := by decide +kernel
theorem dX4_better_100 : decode cX4_better 100 = .ok (.getfield 25, 3) := by decide +kernel
theorem dX4_better_103 : decode cX4_better 103 = .ok (.iload 5, 2) := by decide +kernel
theorem dX4_better_105 : decode cX4_better 105 = .ok (.invokevirtual 120, 3) := by decide +kernel
theorem dX4_better_108 : decode cX4_better 108 = .ok (.istore 10, 2) := by decide +kernel
theorem dX4_better_110 : decode cX4_better 110 = .ok (.iload 10, 2) := by decide +kernel
theorem dX4_better_112 : decode cX4_better 112 = .ok (.iconst (-1), 1) := by decide +kernel
theorem dX4_better_113 : decode cX4_better 113 = .ok (.if_icmp .eq 24, 3) := by decide +kernel
theorem dX4_better_116 : decode cX4_better 116 = .ok (.iload 8, 2) := by decide +kernel
theorem dX4_better_118 : decode cX4_better 118 = .ok (.iconst (-1), 1) := by decide +kernel
theorem dX4_better_119 : decode cX4_better 119 = .ok (.if_icmp .eq 10, 3) := by decide +kernel
theorem dX4_better_122 : decode cX4_better 122 = .ok (.iload 10, 2) := by decide +kernel
theorem dX4_better_124 : decode cX4_better 124 = .ok (.iload 8, 2) := by decide +kernel
theorem dX4_better_126 : decode cX4_better 126 = .ok (.if_icmp .ge 11, 3) := by decide +kernel
theorem dX4_better_129 : decode cX4_better 129 = .ok (.iload 9, 2) := by decide +kernel
theorem dX4_better_131 : decode cX4_better 131 = .ok (.istore 7, 2) := by decide +kernel
theorem dX4_better_133 : decode cX4_better 133 = .ok (.iload 10, 2) := by decide +kernel
theorem dX4_better_135 : decode cX4_better 135 = .ok (.istore 8, 2) := by decide +kernel
theorem dX4_better_137 : decode cX4_better 137 = .ok (.iinc 9 1, 3) := by decide +kernel
theorem dX4_better_140 : decode cX4_better 140 = .ok (.goto (-77), 3) := by decide +kernel
theorem dX4_better_143 : decode cX4_better 143 = .ok (.aload_n 0, 1) := by decide +kernel
theorem dX4_better_144 : decode cX4_better 144 = .ok (.getfield 12, 3) := by decide +kernel
theorem dX4_better_147 : decode cX4_better 147 = .ok (.getfield 84, 3) := by decide +kernel
theorem dX4_better_150 : decode cX4_better 150 = .ok (.iconst 2, 1) := by decide +kernel
theorem dX4_better_151 : decode cX4_better 151 = .ok (.aaload, 1) := by decide +kernel
theorem dX4_better_152 : decode cX4_better 152 = .ok (.iload 4, 2) := by decide +kernel
