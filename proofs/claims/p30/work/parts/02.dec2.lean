theorem dX1_mostUrgent_43 : decode cX1_mostUrgent 43 = .ok (.ifCond .eq 34, 3) := by decide +kernel
theorem dX1_mostUrgent_46 : decode cX1_mostUrgent 46 = .ok (.iload 4, 2) := by decide +kernel
theorem dX1_mostUrgent_48 : decode cX1_mostUrgent 48 = .ok (.iconst (-1), 1) := by decide +kernel
theorem dX1_mostUrgent_49 : decode cX1_mostUrgent 49 = .ok (.if_icmp .eq 24, 3) := by decide +kernel
theorem dX1_mostUrgent_52 : decode cX1_mostUrgent 52 = .ok (.aload_n 1, 1) := by decide +kernel
theorem dX1_mostUrgent_53 : decode cX1_mostUrgent 53 = .ok (.getfield 79, 3) := by decide +kernel
theorem dX1_mostUrgent_56 : decode cX1_mostUrgent 56 = .ok (.iconst 2, 1) := by decide +kernel
theorem dX1_mostUrgent_57 : decode cX1_mostUrgent 57 = .ok (.aaload, 1) := by decide +kernel
theorem dX1_mostUrgent_58 : decode cX1_mostUrgent 58 = .ok (.iload 5, 2) := by decide +kernel
theorem dX1_mostUrgent_60 : decode cX1_mostUrgent 60 = .ok (.iaload, 1) := by decide +kernel
theorem dX1_mostUrgent_61 : decode cX1_mostUrgent 61 = .ok (.aload_n 1, 1) := by decide +kernel
theorem dX1_mostUrgent_62 : decode cX1_mostUrgent 62 = .ok (.getfield 79, 3) := by decide +kernel
theorem dX1_mostUrgent_65 : decode cX1_mostUrgent 65 = .ok (.iconst 2, 1) := by decide +kernel
theorem dX1_mostUrgent_66 : decode cX1_mostUrgent 66 = .ok (.aaload, 1) := by decide +kernel
theorem dX1_mostUrgent_67 : decode cX1_mostUrgent 67 = .ok (.iload 4, 2) := by decide +kernel
theorem dX1_mostUrgent_69 : decode cX1_mostUrgent 69 = .ok (.iaload, 1) := by decide +kernel
theorem dX1_mostUrgent_70 : decode cX1_mostUrgent 70 = .ok (.if_icmp .le 7, 3) := by decide +kernel
theorem dX1_mostUrgent_73 : decode cX1_mostUrgent 73 = .ok (.iload 5, 2) := by decide +kernel
theorem dX1_mostUrgent_75 : decode cX1_mostUrgent 75 = .ok (.istore 4, 2) := by decide +kernel
theorem dX1_mostUrgent_77 : decode cX1_mostUrgent 77 = .ok (.iinc 5 1, 3) := by decide +kernel
theorem dX1_mostUrgent_80 : decode cX1_mostUrgent 80 = .ok (.goto (-74), 3) := by decide +kernel
theorem dX1_mostUrgent_83 : decode cX1_mostUrgent 83 = .ok (.iload 4, 2) := by decide +kernel
theorem dX1_mostUrgent_85 : decode cX1_mostUrgent 85 = .ok (.ireturn, 1) := by decide +kernel
theorem dX1_isReady_0 : decode cX1_isReady 0 = .ok (.aload_n 0, 1) := by decide +kernel
theorem dX1_isReady_1 : decode cX1_isReady 1 = .ok (.getfield 26, 3) := by decide +kernel
theorem dX1_isReady_4 : decode cX1_isReady 4 = .ok (.iload_n 2, 1) := by decide +kernel
theorem dX1_isReady_5 : decode cX1_isReady 5 = .ok (.iaload, 1) := by decide +kernel
theorem dX1_isReady_6 : decode cX1_isReady 6 = .ok (.istore 4, 2) := by decide +kernel
theorem dX1_isReady_8 : decode cX1_isReady 8 = .ok (.iload 4, 2) := by decide +kernel
theorem dX1_isReady_10 : decode cX1_isReady 10 = .ok (.bipush 60, 2) := by decide +kernel
theorem dX1_isReady_12 : decode cX1_isReady 12 = .ok (.if_icmp .lt 5, 3) := by decide +kernel
theorem dX1_isReady_15 : decode cX1_isReady 15 = .ok (.iconst 0, 1) := by decide +kernel
theorem dX1_isReady_16 : decode cX1_isReady 16 = .ok (.ireturn, 1) := by decide +kernel
theorem dX1_isReady_17 : decode cX1_isReady 17 = .ok (.iload_n 2, 1) := by decide +kernel
theorem dX1_isReady_18 : decode cX1_isReady 18 = .ok (.iconst 3, 1) := by decide +kernel
theorem dX1_isReady_19 : decode cX1_isReady 19 = .ok (.irem, 1) := by decide +kernel
theorem dX1_isReady_20 : decode cX1_isReady 20 = .ok (.ifCond .ne 21, 3) := by decide +kernel
theorem dX1_isReady_23 : decode cX1_isReady 23 = .ok (.aload_n 0, 1) := by decide +kernel
theorem dX1_isReady_24 : decode cX1_isReady 24 = .ok (.getfield 35, 3) := by decide +kernel
theorem dX1_isReady_27 : decode cX1_isReady 27 = .ok (.iload_n 2, 1) := by decide +kernel
theorem dX1_isReady_28 : decode cX1_isReady 28 = .ok (.iconst 3, 1) := by decide +kernel
theorem dX1_isReady_29 : decode cX1_isReady 29 = .ok (.idiv, 1) := by decide +kernel
theorem dX1_isReady_30 : decode cX1_isReady 30 = .ok (.iaload, 1) := by decide +kernel
theorem dX1_isReady_31 : decode cX1_isReady 31 = .ok (.iload_n 3, 1) := by decide +kernel
theorem dX1_isReady_32 : decode cX1_isReady 32 = .ok (.if_icmp .gt 7, 3) := by decide +kernel
theorem dX1_isReady_35 : decode cX1_isReady 35 = .ok (.iconst 1, 1) := by decide +kernel
theorem dX1_isReady_36 : decode cX1_isReady 36 = .ok (.goto 4, 3) := by decide +kernel
theorem dX1_isReady_39 : decode cX1_isReady 39 = .ok (.iconst 0, 1) := by decide +kernel
theorem dX1_isReady_40 : decode cX1_isReady 40 = .ok (.ireturn, 1) := by decide +kernel
theorem dX1_isReady_41 : decode cX1_isReady 41 = .ok (.iload 4, 2) := by decide +kernel
theorem dX1_isReady_43 : decode cX1_isReady 43 = .ok (.aload_n 0, 1) := by decide +kernel
theorem dX1_isReady_44 : decode cX1_isReady 44 = .ok (.getfield 26, 3) := by decide +kernel
theorem dX1_isReady_47 : decode cX1_isReady 47 = .ok (.iload_n 2, 1) := by decide +kernel
theorem dX1_isReady_48 : decode cX1_isReady 48 = .ok (.iconst 1, 1) := by decide +kernel
theorem dX1_isReady_49 : decode cX1_isReady 49 = .ok (.isub, 1) := by decide +kernel
theorem dX1_isReady_50 : decode cX1_isReady 50 = .ok (.iaload, 1) := by decide +kernel
theorem dX1_isReady_51 : decode cX1_isReady 51 = .ok (.if_icmp .ge 31, 3) := by decide +kernel
theorem dX1_isReady_54 : decode cX1_isReady 54 = .ok (.aload_n 0, 1) := by decide +kernel
theorem dX1_isReady_55 : decode cX1_isReady 55 = .ok (.getfield 32, 3) := by decide +kernel
theorem dX1_isReady_58 : decode cX1_isReady 58 = .ok (.iload_n 2, 1) := by decide +kernel
theorem dX1_isReady_59 : decode cX1_isReady 59 = .ok (.iconst 1, 1) := by decide +kernel
theorem dX1_isReady_60 : decode cX1_isReady 60 = .ok (.isub, 1) := by decide +kernel
theorem dX1_isReady_61 : decode cX1_isReady 61 = .ok (.aaload, 1) := by decide +kernel
theorem dX1_isReady_62 : decode cX1_isReady 62 = .ok (.iload 4, 2) := by decide +kernel
theorem dX1_isReady_64 : decode cX1_isReady 64 = .ok (.iaload, 1) := by decide +kernel
theorem dX1_isReady_65 : decode cX1_isReady 65 = .ok (.aload_n 1, 1) := by decide +kernel
theorem dX1_isReady_66 : decode cX1_isReady 66 = .ok (.getfield 79, 3) := by decide +kernel
theorem dX1_isReady_69 : decode cX1_isReady 69 = .ok (.iconst 3, 1) := by decide +kernel
theorem dX1_isReady_70 : decode cX1_isReady 70 = .ok (.aaload, 1) := by decide +kernel
theorem dX1_isReady_71 : decode cX1_isReady 71 = .ok (.iload_n 2, 1) := by decide +kernel
theorem dX1_isReady_72 : decode cX1_isReady 72 = .ok (.iaload, 1) := by decide +kernel
theorem dX1_isReady_73 : decode cX1_isReady 73 = .ok (.iadd, 1) := by decide +kernel
theorem dX1_isReady_74 : decode cX1_isReady 74 = .ok (.iload_n 3, 1) := by decide +kernel
theorem dX1_isReady_75 : decode cX1_isReady 75 = .ok (.if_icmp .gt 7, 3) := by decide +kernel
theorem dX1_isReady_78 : decode cX1_isReady 78 = .ok (.iconst 1, 1) := by decide +kernel
theorem dX1_isReady_79 : decode cX1_isReady 79 = .ok (.goto 4, 3) := by decide +kernel
theorem dX1_isReady_82 : decode cX1_isReady 82 = .ok (.iconst 0, 1) := by decide +kernel
theorem dX1_isReady_83 : decode cX1_isReady 83 = .ok (.ireturn, 1) := by decide +kernel
theorem dX1_doTick_0 : decode cX1_doTick 0 = .ok (.aload_n 0, 1) := by decide +kernel
theorem dX1_doTick_1 : decode cX1_doTick 1 = .ok (.getfield 29, 3) := by decide +kernel
theorem dX1_doTick_4 : decode cX1_doTick 4 = .ok (.iload_n 2, 1) := by decide +kernel
theorem dX1_doTick_5 : decode cX1_doTick 5 = .ok (.dup2, 1) := by decide +kernel
theorem dX1_doTick_6 : decode cX1_doTick 6 = .ok (.iaload, 1) := by decide +kernel
theorem dX1_doTick_7 : decode cX1_doTick 7 = .ok (.iconst 1, 1) := by decide +kernel
theorem dX1_doTick_8 : decode cX1_doTick 8 = .ok (.iadd, 1) := by decide +kernel
theorem dX1_doTick_9 : decode cX1_doTick 9 = .ok (.iastore, 1) := by decide +kernel
theorem dX1_doTick_10 : decode cX1_doTick 10 = .ok (.aload_n 0, 1) := by decide +kernel
theorem dX1_doTick_11 : decode cX1_doTick 11 = .ok (.getfield 29, 3) := by decide +kernel
theorem dX1_doTick_14 : decode cX1_doTick 14 = .ok (.iload_n 2, 1) := by decide +kernel
theorem dX1_doTick_15 : decode cX1_doTick 15 = .ok (.iaload, 1) := by decide +kernel
theorem dX1_doTick_16 : decode cX1_doTick 16 = .ok (.aload_n 1, 1) := by decide +kernel
theorem dX1_doTick_17 : decode cX1_doTick 17 = .ok (.getfield 79, 3) := by decide +kernel
theorem dX1_doTick_20 : decode cX1_doTick 20 = .ok (.iconst 1, 1) := by decide +kernel
theorem dX1_doTick_21 : decode cX1_doTick 21 = .ok (.aaload, 1) := by decide +kernel
theorem dX1_doTick_22 : decode cX1_doTick 22 = .ok (.iload_n 2, 1) := by decide +kernel
theorem dX1_doTick_23 : decode cX1_doTick 23 = .ok (.iaload, 1) := by decide +kernel
theorem dX1_doTick_24 : decode cX1_doTick 24 = .ok (.if_icmp .ge 4, 3) := by decide +kernel
theorem dX1_doTick_27 : decode cX1_doTick 27 = .ok (.return_, 1) := by decide +kernel
theorem dX1_doTick_28 : decode cX1_doTick 28 = .ok (.iload_n 2, 1) := by decide +kernel
theorem dX1_doTick_29 : decode cX1_doTick 29 = .ok (.iconst 3, 1) := by decide +kernel
theorem dX1_doTick_30 : decode cX1_doTick 30 = .ok (.idiv, 1) := by decide +kernel
theorem dX1_doTick_31 : decode cX1_doTick 31 = .ok (.istore 4, 2) := by decide +kernel
theorem dX1_doTick_33 : decode cX1_doTick 33 = .ok (.aload_n 0, 1) := by decide +kernel
theorem dX1_doTick_34 : decode cX1_doTick 34 = .ok (.getfield 26, 3) := by decide +kernel
theorem dX1_doTick_37 : decode cX1_doTick 37 = .ok (.iload_n 2, 1) := by decide +kernel
theorem dX1_doTick_38 : decode cX1_doTick 38 = .ok (.iaload, 1) := by decide +kernel
theorem dX1_doTick_39 : decode cX1_doTick 39 = .ok (.istore 5, 2) := by decide +kernel
theorem dX1_doTick_41 : decode cX1_doTick 41 = .ok (.iload_n 3, 1) := by decide +kernel
theorem dX1_doTick_42 : decode cX1_doTick 42 = .ok (.iconst 1, 1) := by decide +kernel
theorem dX1_doTick_43 : decode cX1_doTick 43 = .ok (.iadd, 1) := by decide +kernel
theorem dX1_doTick_44 : decode cX1_doTick 44 = .ok (.aload_n 1, 1) := by decide +kernel
theorem dX1_doTick_45 : decode cX1_doTick 45 = .ok (.iload 4, 2) := by decide +kernel
theorem dX1_doTick_47 : decode cX1_doTick 47 = .ok (.iload 5, 2) := by decide +kernel
theorem dX1_doTick_49 : decode cX1_doTick 49 = .ok (.invokestatic 76, 3) := by decide +kernel
theorem dX1_doTick_52 : decode cX1_doTick 52 = .ok (.isub, 1) := by decide +kernel
theorem dX1_doTick_53 : decode cX1_doTick 53 = .ok (.istore 6, 2) := by decide +kernel
theorem dX1_doTick_55 : decode cX1_doTick 55 = .ok (.aload_n 0, 1) := by decide +kernel
theorem dX1_doTick_56 : decode cX1_doTick 56 = .ok (.getfield 32, 3) := by decide +kernel
theorem dX1_doTick_59 : decode cX1_doTick 59 = .ok (.iload_n 2, 1) := by decide +kernel
theorem dX1_doTick_60 : decode cX1_doTick 60 = .ok (.aaload, 1) := by decide +kernel
theorem dX1_doTick_61 : decode cX1_doTick 61 = .ok (.iload 5, 2) := by decide +kernel
theorem dX1_doTick_63 : decode cX1_doTick 63 = .ok (.iload_n 3, 1) := by decide +kernel
theorem dX1_doTick_64 : decode cX1_doTick 64 = .ok (.iconst 1, 1) := by decide +kernel
theorem dX1_doTick_65 : decode cX1_doTick 65 = .ok (.iadd, 1) := by decide +kernel
theorem dX1_doTick_66 : decode cX1_doTick 66 = .ok (.iastore, 1) := by decide +kernel
theorem dX1_doTick_67 : decode cX1_doTick 67 = .ok (.aload_n 0, 1) := by decide +kernel
theorem dX1_doTick_68 : decode cX1_doTick 68 = .ok (.getfield 29, 3) := by decide +kernel
theorem dX1_doTick_71 : decode cX1_doTick 71 = .ok (.iload_n 2, 1) := by decide +kernel
theorem dX1_doTick_72 : decode cX1_doTick 72 = .ok (.iconst 0, 1) := by decide +kernel
theorem dX1_doTick_73 : decode cX1_doTick 73 = .ok (.iastore, 1) := by decide +kernel
theorem dX1_doTick_74 : decode cX1_doTick 74 = .ok (.aload_n 0, 1) := by decide +kernel
theorem dX1_doTick_75 : decode cX1_doTick 75 = .ok (.getfield 26, 3) := by decide +kernel
theorem dX1_doTick_78 : decode cX1_doTick 78 = .ok (.iload_n 2, 1) := by decide +kernel
theorem dX1_doTick_79 : decode cX1_doTick 79 = .ok (.dup2, 1) := by decide +kernel
theorem dX1_doTick_80 : decode cX1_doTick 80 = .ok (.iaload, 1) := by decide +kernel
theorem dX1_doTick_81 : decode cX1_doTick 81 = .ok (.iconst 1, 1) := by decide +kernel
theorem dX1_doTick_82 : decode cX1_doTick 82 = .ok (.iadd, 1) := by decide +kernel
theorem dX1_doTick_83 : decode cX1_doTick 83 = .ok (.iastore, 1) := by decide +kernel
theorem dX1_doTick_84 : decode cX1_doTick 84 = .ok (.aload_n 0, 1) := by decide +kernel
theorem dX1_doTick_85 : decode cX1_doTick 85 = .ok (.dup, 1) := by decide +kernel
theorem dX1_doTick_86 : decode cX1_doTick 86 = .ok (.getfield 45, 3) := by decide +kernel
theorem dX1_doTick_89 : decode cX1_doTick 89 = .ok (.iconst 1, 1) := by decide +kernel
theorem dX1_doTick_90 : decode cX1_doTick 90 = .ok (.iadd, 1) := by decide +kernel
theorem dX1_doTick_91 : decode cX1_doTick 91 = .ok (.putfield 45, 3) := by decide +kernel
theorem dX1_doTick_94 : decode cX1_doTick 94 = .ok (.aload_n 0, 1) := by decide +kernel
theorem dX1_doTick_95 : decode cX1_doTick 95 = .ok (.getfield 20, 3) := by decide +kernel
theorem dX1_doTick_98 : decode cX1_doTick 98 = .ok (.iload_n 2, 1) := by decide +kernel
theorem dX1_doTick_99 : decode cX1_doTick 99 = .ok (.aload_n 0, 1) := by decide +kernel
theorem dX1_doTick_100 : decode cX1_doTick 100 = .ok (.getfield 20, 3) := by decide +kernel
theorem dX1_doTick_103 : decode cX1_doTick 103 = .ok (.iload_n 2, 1) := by decide +kernel
theorem dX1_doTick_104 : decode cX1_doTick 104 = .ok (.iaload, 1) := by decide +kernel
theorem dX1_doTick_105 : decode cX1_doTick 105 = .ok (.iload 6, 2) := by decide +kernel
theorem dX1_doTick_107 : decode cX1_doTick 107 = .ok (.invokestatic 70, 3) := by decide +kernel
theorem dX1_doTick_110 : decode cX1_doTick 110 = .ok (.iastore, 1) := by decide +kernel
theorem dX1_doTick_111 : decode cX1_doTick 111 = .ok (.aload_n 0, 1) := by decide +kernel
theorem dX1_doTick_112 : decode cX1_doTick 112 = .ok (.getfield 23, 3) := by decide +kernel
theorem dX1_doTick_115 : decode cX1_doTick 115 = .ok (.iload_n 2, 1) := by decide +kernel
theorem dX1_doTick_116 : decode cX1_doTick 116 = .ok (.aload_n 0, 1) := by decide +kernel
theorem dX1_doTick_117 : decode cX1_doTick 117 = .ok (.getfield 23, 3) := by decide +kernel
theorem dX1_doTick_120 : decode cX1_doTick 120 = .ok (.iload_n 2, 1) := by decide +kernel
theorem dX1_doTick_121 : decode cX1_doTick 121 = .ok (.iaload, 1) := by decide +kernel
theorem dX1_doTick_122 : decode cX1_doTick 122 = .ok (.iconst (-1), 1) := by decide +kernel
theorem dX1_doTick_123 : decode cX1_doTick 123 = .ok (.if_icmp .ne 8, 3) := by decide +kernel
theorem dX1_doTick_126 : decode cX1_doTick 126 = .ok (.iload 6, 2) := by decide +kernel
theorem dX1_doTick_128 : decode cX1_doTick 128 = .ok (.goto 14, 3) := by decide +kernel
theorem dX1_doTick_131 : decode cX1_doTick 131 = .ok (.aload_n 0, 1) := by decide +kernel
theorem dX1_doTick_132 : decode cX1_doTick 132 = .ok (.getfield 23, 3) := by decide +kernel
theorem dX1_doTick_135 : decode cX1_doTick 135 = .ok (.iload_n 2, 1) := by decide +kernel
theorem dX1_doTick_136 : decode cX1_doTick 136 = .ok (.iaload, 1) := by decide +kernel
theorem dX1_doTick_137 : decode cX1_doTick 137 = .ok (.iload 6, 2) := by decide +kernel
theorem dX1_doTick_139 : decode cX1_doTick 139 = .ok (.invokestatic 90, 3) := by decide +kernel
theorem dX1_doTick_142 : decode cX1_doTick 142 = .ok (.iastore, 1) := by decide +kernel
theorem dX1_doTick_143 : decode cX1_doTick 143 = .ok (.iload_n 2, 1) := by decide +kernel
theorem dX1_doTick_144 : decode cX1_doTick 144 = .ok (.iconst 3, 1) := by decide +kernel
theorem dX1_doTick_145 : decode cX1_doTick 145 = .ok (.irem, 1) := by decide +kernel
theorem dX1_doTick_146 : decode cX1_doTick 146 = .ok (.ifCond .ne 30, 3) := by decide +kernel
theorem dX1_doTick_149 : decode cX1_doTick 149 = .ok (.aload_n 0, 1) := by decide +kernel
theorem dX1_doTick_150 : decode cX1_doTick 150 = .ok (.getfield 35, 3) := by decide +kernel
theorem dX1_doTick_153 : decode cX1_doTick 153 = .ok (.iload 4, 2) := by decide +kernel
theorem dX1_doTick_155 : decode cX1_doTick 155 = .ok (.aload_n 0, 1) := by decide +kernel
theorem dX1_doTick_156 : decode cX1_doTick 156 = .ok (.getfield 35, 3) := by decide +kernel
theorem dX1_doTick_159 : decode cX1_doTick 159 = .ok (.iload 4, 2) := by decide +kernel
theorem dX1_doTick_161 : decode cX1_doTick 161 = .ok (.iaload, 1) := by decide +kernel
theorem dX1_doTick_162 : decode cX1_doTick 162 = .ok (.aload_n 1, 1) := by decide +kernel
theorem dX1_doTick_163 : decode cX1_doTick 163 = .ok (.iload 4, 2) := by decide +kernel
theorem dX1_doTick_165 : decode cX1_doTick 165 = .ok (.iload 5, 2) := by decide +kernel
theorem dX1_doTick_167 : decode cX1_doTick 167 = .ok (.iconst 1, 1) := by decide +kernel
theorem dX1_doTick_168 : decode cX1_doTick 168 = .ok (.iadd, 1) := by decide +kernel
theorem dX1_doTick_169 : decode cX1_doTick 169 = .ok (.invokestatic 54, 3) := by decide +kernel
theorem dX1_doTick_172 : decode cX1_doTick 172 = .ok (.invokestatic 70, 3) := by decide +kernel
theorem dX1_doTick_175 : decode cX1_doTick 175 = .ok (.iastore, 1) := by decide +kernel
theorem dX1_doTick_176 : decode cX1_doTick 176 = .ok (.return_, 1) := by decide +kernel
theorem dX2_init_0 : decode cX2_init 0 = .ok (.aload_n 0, 1) := by decide +kernel
theorem dX2_init_1 : decode cX2_init 1 = .ok (.invokespecial 3, 3) := by decide +kernel
theorem dX2_init_4 : decode cX2_init 4 = .ok (.aload_n 0, 1) := by decide +kernel
theorem dX2_init_5 : decode cX2_init 5 = .ok (.iconst 5, 1) := by decide +kernel
theorem dX2_init_6 : decode cX2_init 6 = .ok (.iconst 3, 1) := by decide +kernel
theorem dX2_init_7 : decode cX2_init 7 = .ok (.multianewarray 9 2, 4) := by decide +kernel
theorem dX2_init_11 : decode cX2_init 11 = .ok (.putfield 11, 3) := by decide +kernel
theorem dX2_init_14 : decode cX2_init 14 = .ok (.aload_n 0, 1) := by decide +kernel
theorem dX2_init_15 : decode cX2_init 15 = .ok (.iconst 4, 1) := by decide +kernel
theorem dX2_init_16 : decode cX2_init 16 = .ok (.bipush 9, 2) := by decide +kernel
theorem dX2_init_18 : decode cX2_init 18 = .ok (.multianewarray 9 2, 4) := by decide +kernel
theorem dX2_init_22 : decode cX2_init 22 = .ok (.putfield 16, 3) := by decide +kernel
theorem dX2_init_25 : decode cX2_init 25 = .ok (.aload_n 0, 1) := by decide +kernel
theorem dX2_init_26 : decode cX2_init 26 = .ok (.iconst 3, 1) := by decide +kernel
theorem dX2_init_27 : decode cX2_init 27 = .ok (.newarray .int, 2) := by decide +kernel
theorem dX2_init_29 : decode cX2_init 29 = .ok (.putfield 19, 3) := by decide +kernel
theorem dX2_init_32 : decode cX2_init 32 = .ok (.aload_n 0, 1) := by decide +kernel
theorem dX2_init_33 : decode cX2_init 33 = .ok (.getfield 11, 3) := by decide +kernel
theorem dX2_init_36 : decode cX2_init 36 = .ok (.iconst 0, 1) := by decide +kernel
theorem dX2_init_37 : decode cX2_init 37 = .ok (.aaload, 1) := by decide +kernel
theorem dX2_init_38 : decode cX2_init 38 = .ok (.bipush 20, 2) := by decide +kernel
theorem dX2_init_40 : decode cX2_init 40 = .ok (.invokestatic 23, 3) := by decide +kernel
theorem dX2_init_43 : decode cX2_init 43 = .ok (.return_, 1) := by decide +kernel
theorem dX2_append_0 : decode cX2_append 0 = .ok (.aload_n 0, 1) := by decide +kernel
theorem dX2_append_1 : decode cX2_append 1 = .ok (.getfield 19, 3) := by decide +kernel
theorem dX2_append_4 : decode cX2_append 4 = .ok (.iload_n 1, 1) := by decide +kernel
theorem dX2_append_5 : decode cX2_append 5 = .ok (.iaload, 1) := by decide +kernel
theorem dX2_append_6 : decode cX2_append 6 = .ok (.istore 6, 2) := by decide +kernel
theorem dX2_append_8 : decode cX2_append 8 = .ok (.iload_n 1, 1) := by decide +kernel
theorem dX2_append_9 : decode cX2_append 9 = .ok (.iconst 3, 1) := by decide +kernel
theorem dX2_append_10 : decode cX2_append 10 = .ok (.imul, 1) := by decide +kernel
theorem dX2_append_11 : decode cX2_append 11 = .ok (.iload 6, 2) := by decide +kernel
theorem dX2_append_13 : decode cX2_append 13 = .ok (.iadd, 1) := by decide +kernel
theorem dX2_append_14 : decode cX2_append 14 = .ok (.istore 7, 2) := by decide +kernel
theorem dX2_append_16 : decode cX2_append 16 = .ok (.aload_n 0, 1) := by decide +kernel
theorem dX2_append_17 : decode cX2_append 17 = .ok (.getfield 16, 3) := by decide +kernel
theorem dX2_append_20 : decode cX2_append 20 = .ok (.iconst 0, 1) := by decide +kernel
theorem dX2_append_21 : decode cX2_append 21 = .ok (.aaload, 1) := by decide +kernel
theorem dX2_append_22 : decode cX2_append 22 = .ok (.iload 7, 2) := by decide +kernel
theorem dX2_append_24 : decode cX2_append 24 = .ok (.iload_n 2, 1) := by decide +kernel
theorem dX2_append_25 : decode cX2_append 25 = .ok (.iastore, 1) := by decide +kernel
theorem dX2_append_26 : decode cX2_append 26 = .ok (.aload_n 0, 1) := by decide +kernel
theorem dX2_append_27 : decode cX2_append 27 = .ok (.getfield 16, 3) := by decide +kernel
theorem dX2_append_30 : decode cX2_append 30 = .ok (.iconst 1, 1) := by decide +kernel
theorem dX2_append_31 : decode cX2_append 31 = .ok (.aaload, 1) := by decide +kernel
theorem dX2_append_32 : decode cX2_append 32 = .ok (.iload 7, 2) := by decide +kernel
theorem dX2_append_34 : decode cX2_append 34 = .ok (.iload_n 3, 1) := by decide +kernel
theorem dX2_append_35 : decode cX2_append 35 = .ok (.iastore, 1) := by decide +kernel
theorem dX2_append_36 : decode cX2_append 36 = .ok (.aload_n 0, 1) := by decide +kernel
theorem dX2_append_37 : decode cX2_append 37 = .ok (.getfield 16, 3) := by decide +kernel
theorem dX2_append_40 : decode cX2_append 40 = .ok (.iconst 2, 1) := by decide +kernel
theorem dX2_append_41 : decode cX2_append 41 = .ok (.aaload, 1) := by decide +kernel
theorem dX2_append_42 : decode cX2_append 42 = .ok (.iload 7, 2) := by decide +kernel
theorem dX2_append_44 : decode cX2_append 44 = .ok (.iload 4, 2) := by decide +kernel
theorem dX2_append_46 : decode cX2_append 46 = .ok (.iastore, 1) := by decide +kernel
theorem dX2_append_47 : decode cX2_append 47 = .ok (.aload_n 0, 1) := by decide +kernel
theorem dX2_append_48 : decode cX2_append 48 = .ok (.getfield 16, 3) := by decide +kernel
theorem dX2_append_51 : decode cX2_append 51 = .ok (.iconst 3, 1) := by decide +kernel
theorem dX2_append_52 : decode cX2_append 52 = .ok (.aaload, 1) := by decide +kernel
theorem dX2_append_53 : decode cX2_append 53 = .ok (.iload 7, 2) := by decide +kernel
theorem dX2_append_55 : decode cX2_append 55 = .ok (.iload 5, 2) := by decide +kernel
theorem dX2_append_57 : decode cX2_append 57 = .ok (.iastore, 1) := by decide +kernel
theorem dX2_append_58 : decode cX2_append 58 = .ok (.aload_n 0, 1) := by decide +kernel
theorem dX2_append_59 : decode cX2_append 59 = .ok (.getfield 19, 3) := by decide +kernel
theorem dX2_append_62 : decode cX2_append 62 = .ok (.iload_n 1, 1) := by decide +kernel
theorem dX2_append_63 : decode cX2_append 63 = .ok (.iload 6, 2) := by decide +kernel
theorem dX2_append_65 : decode cX2_append 65 = .ok (.iconst 1, 1) := by decide +kernel
theorem dX2_append_66 : decode cX2_append 66 = .ok (.iadd, 1) := by decide +kernel
theorem dX2_append_67 : decode cX2_append 67 = .ok (.iastore, 1) := by decide +kernel
theorem dX2_append_68 : decode cX2_append 68 = .ok (.iload 6, 2) := by decide +kernel
theorem dX2_append_70 : decode cX2_append 70 = .ok (.ireturn, 1) := by decide +kernel
theorem dX2_numberOf_0 : decode cX2_numberOf 0 = .ok (.iload_n 1, 1) := by decide +kernel
theorem dX2_numberOf_1 : decode cX2_numberOf 1 = .ok (.invokestatic 29, 3) := by decide +kernel
theorem dX2_numberOf_4 : decode cX2_numberOf 4 = .ok (.ifCond .eq 20, 3) := by decide +kernel
theorem dX2_numberOf_7 : decode cX2_numberOf 7 = .ok (.iload_n 2, 1) := by decide +kernel
theorem dX2_numberOf_8 : decode cX2_numberOf 8 = .ok (.i2l, 1) := by decide +kernel
theorem dX2_numberOf_9 : decode cX2_numberOf 9 = .ok (.iconst 0, 1) := by decide +kernel
theorem dX2_numberOf_10 : decode cX2_numberOf 10 = .ok (.aload_n 0, 1) := by decide +kernel
theorem dX2_numberOf_11 : decode cX2_numberOf 11 = .ok (.getfield 19, 3) := by decide +kernel
theorem dX2_numberOf_14 : decode cX2_numberOf 14 = .ok (.iload_n 1, 1) := by decide +kernel
theorem dX2_numberOf_15 : decode cX2_numberOf 15 = .ok (.iaload, 1) := by decide +kernel
theorem dX2_numberOf_16 : decode cX2_numberOf 16 = .ok (.iconst 1, 1) := by decide +kernel
theorem dX2_numberOf_17 : decode cX2_numberOf 17 = .ok (.isub, 1) := by decide +kernel
theorem dX2_numberOf_18 : decode cX2_numberOf 18 = .ok (.invokestatic 33, 3) := by decide +kernel
theorem dX2_numberOf_21 : decode cX2_numberOf 21 = .ok (.ifCond .ne 5, 3) := by decide +kernel
theorem dX2_numberOf_24 : decode cX2_numberOf 24 = .ok (.iconst (-1), 1) := by decide +kernel
theorem dX2_numberOf_25 : decode cX2_numberOf 25 = .ok (.ireturn, 1) := by decide +kernel
theorem dX2_numberOf_26 : decode cX2_numberOf 26 = .ok (.iload_n 1, 1) := by decide +kernel
theorem dX2_numberOf_27 : decode cX2_numberOf 27 = .ok (.iconst 3, 1) := by decide +kernel
theorem dX2_numberOf_28 : decode cX2_numberOf 28 = .ok (.imul, 1) := by decide +kernel
theorem dX2_numberOf_29 : decode cX2_numberOf 29 = .ok (.iload_n 2, 1) := by decide +kernel
theorem dX2_numberOf_30 : decode cX2_numberOf 30 = .ok (.iadd, 1) := by decide +kernel
theorem dX2_numberOf_31 : decode cX2_numberOf 31 = .ok (.ireturn, 1) := by decide +kernel
theorem dX2_isStep_0 : decode cX2_isStep 0 = .ok (.iload_n 1, 1) := by decide +kernel
theorem dX2_isStep_1 : decode cX2_isStep 1 = .ok (.iconst 3, 1) := by decide +kernel
theorem dX2_isStep_2 : decode cX2_isStep 2 = .ok (.irem, 1) := by decide +kernel
theorem dX2_isStep_3 : decode cX2_isStep 3 = .ok (.aload_n 0, 1) := by decide +kernel
theorem dX2_isStep_4 : decode cX2_isStep 4 = .ok (.getfield 19, 3) := by decide +kernel
theorem dX2_isStep_7 : decode cX2_isStep 7 = .ok (.iload_n 1, 1) := by decide +kernel
theorem dX2_isStep_8 : decode cX2_isStep 8 = .ok (.iconst 3, 1) := by decide +kernel
theorem dX2_isStep_9 : decode cX2_isStep 9 = .ok (.idiv, 1) := by decide +kernel
theorem dX2_isStep_10 : decode cX2_isStep 10 = .ok (.iaload, 1) := by decide +kernel
theorem dX2_isStep_11 : decode cX2_isStep 11 = .ok (.if_icmp .ge 7, 3) := by decide +kernel
theorem dX2_isStep_14 : decode cX2_isStep 14 = .ok (.iconst 1, 1) := by decide +kernel
theorem dX2_isStep_15 : decode cX2_isStep 15 = .ok (.goto 4, 3) := by decide +kernel
theorem dX2_isStep_18 : decode cX2_isStep 18 = .ok (.iconst 0, 1) := by decide +kernel
theorem dX2_isStep_19 : decode cX2_isStep 19 = .ok (.ireturn, 1) := by decide +kernel
theorem dX2_lastOf_0 : decode cX2_lastOf 0 = .ok (.iload_n 1, 1) := by decide +kernel
theorem dX2_lastOf_1 : decode cX2_lastOf 1 = .ok (.iconst 3, 1) := by decide +kernel
theorem dX2_lastOf_2 : decode cX2_lastOf 2 = .ok (.imul, 1) := by decide +kernel
theorem dX2_lastOf_3 : decode cX2_lastOf 3 = .ok (.aload_n 0, 1) := by decide +kernel
theorem dX2_lastOf_4 : decode cX2_lastOf 4 = .ok (.getfield 19, 3) := by decide +kernel
theorem dX2_lastOf_7 : decode cX2_lastOf 7 = .ok (.iload_n 1, 1) := by decide +kernel
theorem dX2_lastOf_8 : decode cX2_lastOf 8 = .ok (.iaload, 1) := by decide +kernel
theorem dX2_lastOf_9 : decode cX2_lastOf 9 = .ok (.iadd, 1) := by decide +kernel
theorem dX2_lastOf_10 : decode cX2_lastOf 10 = .ok (.iconst 1, 1) := by decide +kernel
theorem dX2_lastOf_11 : decode cX2_lastOf 11 = .ok (.isub, 1) := by decide +kernel
theorem dX2_lastOf_12 : decode cX2_lastOf 12 = .ok (.ireturn, 1) := by decide +kernel
theorem dX2_stepsInAll_0 : decode cX2_stepsInAll 0 = .ok (.aload_n 0, 1) := by decide +kernel
theorem dX2_stepsInAll_1 : decode cX2_stepsInAll 1 = .ok (.getfield 19, 3) := by decide +kernel
theorem dX2_stepsInAll_4 : decode cX2_stepsInAll 4 = .ok (.iconst 0, 1) := by decide +kernel
theorem dX2_stepsInAll_5 : decode cX2_stepsInAll 5 = .ok (.iaload, 1) := by decide +kernel
theorem dX2_stepsInAll_6 : decode cX2_stepsInAll 6 = .ok (.aload_n 0, 1) := by decide +kernel
theorem dX2_stepsInAll_7 : decode cX2_stepsInAll 7 = .ok (.getfield 19, 3) := by decide +kernel
theorem dX2_stepsInAll_10 : decode cX2_stepsInAll 10 = .ok (.iconst 1, 1) := by decide +kernel
theorem dX2_stepsInAll_11 : decode cX2_stepsInAll 11 = .ok (.iaload, 1) := by decide +kernel
theorem dX2_stepsInAll_12 : decode cX2_stepsInAll 12 = .ok (.iadd, 1) := by decide +kernel
theorem dX2_stepsInAll_13 : decode cX2_stepsInAll 13 = .ok (.aload_n 0, 1) := by decide +kernel
theorem dX2_stepsInAll_14 : decode cX2_stepsInAll 14 = .ok (.getfield 19, 3) := by decide +kernel
theorem dX2_stepsInAll_17 : decode cX2_stepsInAll 17 = .ok (.iconst 2, 1) := by decide +kernel
theorem dX2_stepsInAll_18 : decode cX2_stepsInAll 18 = .ok (.iaload, 1) := by decide +kernel
theorem dX2_stepsInAll_19 : decode cX2_stepsInAll 19 = .ok (.iadd, 1) := by decide +kernel
theorem dX2_stepsInAll_20 : decode cX2_stepsInAll 20 = .ok (.ireturn, 1) := by decide +kernel
theorem dX2_periodOf_0 : decode cX2_periodOf 0 = .ok (.iconst 1, 1) := by decide +kernel
theorem dX2_periodOf_1 : decode cX2_periodOf 1 = .ok (.aload_n 0, 1) := by decide +kernel
theorem dX2_periodOf_2 : decode cX2_periodOf 2 = .ok (.getfield 11, 3) := by decide +kernel
theorem dX2_periodOf_5 : decode cX2_periodOf 5 = .ok (.iconst 0, 1) := by decide +kernel
theorem dX2_periodOf_6 : decode cX2_periodOf 6 = .ok (.aaload, 1) := by decide +kernel
theorem dX2_periodOf_7 : decode cX2_periodOf 7 = .ok (.iload_n 1, 1) := by decide +kernel
theorem dX2_periodOf_8 : decode cX2_periodOf 8 = .ok (.iaload, 1) := by decide +kernel
theorem dX2_periodOf_9 : decode cX2_periodOf 9 = .ok (.invokestatic 37, 3) := by decide +kernel
theorem dX2_periodOf_12 : decode cX2_periodOf 12 = .ok (.ireturn, 1) := by decide +kernel
theorem dX2_earliestOf_0 : decode cX2_earliestOf 0 = .ok (.aload_n 0, 1) := by decide +kernel
theorem dX2_earliestOf_1 : decode cX2_earliestOf 1 = .ok (.getfield 16, 3) := by decide +kernel
theorem dX2_earliestOf_4 : decode cX2_earliestOf 4 = .ok (.iconst 3, 1) := by decide +kernel
theorem dX2_earliestOf_5 : decode cX2_earliestOf 5 = .ok (.aaload, 1) := by decide +kernel
theorem dX2_earliestOf_6 : decode cX2_earliestOf 6 = .ok (.iload_n 1, 1) := by decide +kernel
theorem dX2_earliestOf_7 : decode cX2_earliestOf 7 = .ok (.iaload, 1) := by decide +kernel
theorem dX2_earliestOf_8 : decode cX2_earliestOf 8 = .ok (.istore_n 2, 1) := by decide +kernel
theorem dX2_earliestOf_9 : decode cX2_earliestOf 9 = .ok (.iload_n 1, 1) := by decide +kernel
theorem dX2_earliestOf_10 : decode cX2_earliestOf 10 = .ok (.iload_n 1, 1) := by decide +kernel
theorem dX2_earliestOf_11 : decode cX2_earliestOf 11 = .ok (.iconst 3, 1) := by decide +kernel
theorem dX2_earliestOf_12 : decode cX2_earliestOf 12 = .ok (.irem, 1) := by decide +kernel
theorem dX2_earliestOf_13 : decode cX2_earliestOf 13 = .ok (.isub, 1) := by decide +kernel
theorem dX2_earliestOf_14 : decode cX2_earliestOf 14 = .ok (.istore_n 3, 1) := by decide +kernel
theorem dX2_earliestOf_15 : decode cX2_earliestOf 15 = .ok (.iload_n 3, 1) := by decide +kernel
theorem dX2_earliestOf_16 : decode cX2_earliestOf 16 = .ok (.iload_n 1, 1) := by decide +kernel
theorem dX2_earliestOf_17 : decode cX2_earliestOf 17 = .ok (.if_icmp .ge 29, 3) := by decide +kernel
theorem dX2_earliestOf_20 : decode cX2_earliestOf 20 = .ok (.iload_n 2, 1) := by decide +kernel
theorem dX2_earliestOf_21 : decode cX2_earliestOf 21 = .ok (.aload_n 0, 1) := by decide +kernel
theorem dX2_earliestOf_22 : decode cX2_earliestOf 22 = .ok (.getfield 16, 3) := by decide +kernel
theorem dX2_earliestOf_25 : decode cX2_earliestOf 25 = .ok (.iconst 3, 1) := by decide +kernel
theorem dX2_earliestOf_26 : decode cX2_earliestOf 26 = .ok (.aaload, 1) := by decide +kernel
theorem dX2_earliestOf_27 : decode cX2_earliestOf 27 = .ok (.iload_n 3, 1) := by decide +kernel
theorem dX2_earliestOf_28 : decode cX2_earliestOf 28 = .ok (.iaload, 1) := by decide +kernel
theorem dX2_earliestOf_29 : decode cX2_earliestOf 29 = .ok (.aload_n 0, 1) := by decide +kernel
theorem dX2_earliestOf_30 : decode cX2_earliestOf 30 = .ok (.getfield 16, 3) := by decide +kernel
theorem dX2_earliestOf_33 : decode cX2_earliestOf 33 = .ok (.iconst 1, 1) := by decide +kernel
theorem dX2_earliestOf_34 : decode cX2_earliestOf 34 = .ok (.aaload, 1) := by decide +kernel
theorem dX2_earliestOf_35 : decode cX2_earliestOf 35 = .ok (.iload_n 3, 1) := by decide +kernel
theorem dX2_earliestOf_36 : decode cX2_earliestOf 36 = .ok (.iaload, 1) := by decide +kernel
theorem dX2_earliestOf_37 : decode cX2_earliestOf 37 = .ok (.iadd, 1) := by decide +kernel
theorem dX2_earliestOf_38 : decode cX2_earliestOf 38 = .ok (.iadd, 1) := by decide +kernel
theorem dX2_earliestOf_39 : decode cX2_earliestOf 39 = .ok (.istore_n 2, 1) := by decide +kernel
theorem dX2_earliestOf_40 : decode cX2_earliestOf 40 = .ok (.iinc 3 1, 3) := by decide +kernel
theorem dX2_earliestOf_43 : decode cX2_earliestOf 43 = .ok (.goto (-28), 3) := by decide +kernel
theorem dX2_earliestOf_46 : decode cX2_earliestOf 46 = .ok (.iload_n 2, 1) := by decide +kernel
theorem dX2_earliestOf_47 : decode cX2_earliestOf 47 = .ok (.ireturn, 1) := by decide +kernel
theorem dX2_isRival_0 : decode cX2_isRival 0 = .ok (.iload_n 2, 1) := by decide +kernel
theorem dX2_isRival_1 : decode cX2_isRival 1 = .ok (.iload_n 1, 1) := by decide +kernel
theorem dX2_isRival_2 : decode cX2_isRival 2 = .ok (.if_icmp .eq 53, 3) := by decide +kernel
theorem dX2_isRival_5 : decode cX2_isRival 5 = .ok (.aload_n 0, 1) := by decide +kernel
theorem dX2_isRival_6 : decode cX2_isRival 6 = .ok (.iload_n 2, 1) := by decide +kernel
theorem dX2_isRival_7 : decode cX2_isRival 7 = .ok (.invokevirtual 43, 3) := by decide +kernel
theorem dX2_isRival_10 : decode cX2_isRival 10 = .ok (.ifCond .eq 45, 3) := by decide +kernel
theorem dX2_isRival_13 : decode cX2_isRival 13 = .ok (.aload_n 0, 1) := by decide +kernel
theorem dX2_isRival_14 : decode cX2_isRival 14 = .ok (.getfield 16, 3) := by decide +kernel
theorem dX2_isRival_17 : decode cX2_isRival 17 = .ok (.iconst 0, 1) := by decide +kernel
theorem dX2_isRival_18 : decode cX2_isRival 18 = .ok (.aaload, 1) := by decide +kernel
theorem dX2_isRival_19 : decode cX2_isRival 19 = .ok (.iload_n 2, 1) := by decide +kernel
theorem dX2_isRival_20 : decode cX2_isRival 20 = .ok (.iaload, 1) := by decide +kernel
theorem dX2_isRival_21 : decode cX2_isRival 21 = .ok (.aload_n 0, 1) := by decide +kernel
theorem dX2_isRival_22 : decode cX2_isRival 22 = .ok (.getfield 16, 3) := by decide +kernel
theorem dX2_isRival_25 : decode cX2_isRival 25 = .ok (.iconst 0, 1) := by decide +kernel
theorem dX2_isRival_26 : decode cX2_isRival 26 = .ok (.aaload, 1) := by decide +kernel
theorem dX2_isRival_27 : decode cX2_isRival 27 = .ok (.iload_n 1, 1) := by decide +kernel
theorem dX2_isRival_28 : decode cX2_isRival 28 = .ok (.iaload, 1) := by decide +kernel
theorem dX2_isRival_29 : decode cX2_isRival 29 = .ok (.if_icmp .ne 26, 3) := by decide +kernel
theorem dX2_isRival_32 : decode cX2_isRival 32 = .ok (.aload_n 0, 1) := by decide +kernel
theorem dX2_isRival_33 : decode cX2_isRival 33 = .ok (.getfield 16, 3) := by decide +kernel
theorem dX2_isRival_36 : decode cX2_isRival 36 = .ok (.iconst 2, 1) := by decide +kernel
theorem dX2_isRival_37 : decode cX2_isRival 37 = .ok (.aaload, 1) := by decide +kernel
theorem dX2_isRival_38 : decode cX2_isRival 38 = .ok (.iload_n 2, 1) := by decide +kernel
theorem dX2_isRival_39 : decode cX2_isRival 39 = .ok (.iaload, 1) := by decide +kernel
theorem dX2_isRival_40 : decode cX2_isRival 40 = .ok (.aload_n 0, 1) := by decide +kernel
theorem dX2_isRival_41 : decode cX2_isRival 41 = .ok (.getfield 16, 3) := by decide +kernel
theorem dX2_isRival_44 : decode cX2_isRival 44 = .ok (.iconst 2, 1) := by decide +kernel
theorem dX2_isRival_45 : decode cX2_isRival 45 = .ok (.aaload, 1) := by decide +kernel
theorem dX2_isRival_46 : decode cX2_isRival 46 = .ok (.iload_n 1, 1) := by decide +kernel
theorem dX2_isRival_47 : decode cX2_isRival 47 = .ok (.iaload, 1) := by decide +kernel
theorem dX2_isRival_48 : decode cX2_isRival 48 = .ok (.if_icmp .lt 7, 3) := by decide +kernel
theorem dX2_isRival_51 : decode cX2_isRival 51 = .ok (.iconst 1, 1) := by decide +kernel
theorem dX2_isRival_52 : decode cX2_isRival 52 = .ok (.goto 4, 3) := by decide +kernel
theorem dX2_isRival_55 : decode cX2_isRival 55 = .ok (.iconst 0, 1) := by decide +kernel
theorem dX2_isRival_56 : decode cX2_isRival 56 = .ok (.ireturn, 1) := by decide +kernel
theorem dX2_rivalsOf_0 : decode cX2_rivalsOf 0 = .ok (.iconst 0, 1) := by decide +kernel
theorem dX2_rivalsOf_1 : decode cX2_rivalsOf 1 = .ok (.istore_n 2, 1) := by decide +kernel
theorem dX2_rivalsOf_2 : decode cX2_rivalsOf 2 = .ok (.iconst 0, 1) := by decide +kernel
theorem dX2_rivalsOf_3 : decode cX2_rivalsOf 3 = .ok (.istore_n 3, 1) := by decide +kernel
theorem dX2_rivalsOf_4 : decode cX2_rivalsOf 4 = .ok (.iload_n 3, 1) := by decide +kernel
theorem dX2_rivalsOf_5 : decode cX2_rivalsOf 5 = .ok (.bipush 9, 2) := by decide +kernel
theorem dX2_rivalsOf_7 : decode cX2_rivalsOf 7 = .ok (.if_icmp .ge 21, 3) := by decide +kernel
theorem dX2_rivalsOf_10 : decode cX2_rivalsOf 10 = .ok (.aload_n 0, 1) := by decide +kernel
theorem dX2_rivalsOf_11 : decode cX2_rivalsOf 11 = .ok (.iload_n 1, 1) := by decide +kernel
theorem dX2_rivalsOf_12 : decode cX2_rivalsOf 12 = .ok (.iload_n 3, 1) := by decide +kernel
theorem dX2_rivalsOf_13 : decode cX2_rivalsOf 13 = .ok (.invokevirtual 46, 3) := by decide +kernel
theorem dX2_rivalsOf_16 : decode cX2_rivalsOf 16 = .ok (.ifCond .eq 6, 3) := by decide +kernel
theorem dX2_rivalsOf_19 : decode cX2_rivalsOf 19 = .ok (.iinc 2 1, 3) := by decide +kernel
theorem dX2_rivalsOf_22 : decode cX2_rivalsOf 22 = .ok (.iinc 3 1, 3) := by decide +kernel
theorem dX2_rivalsOf_25 : decode cX2_rivalsOf 25 = .ok (.goto (-21), 3) := by decide +kernel
theorem dX2_rivalsOf_28 : decode cX2_rivalsOf 28 = .ok (.iload_n 2, 1) := by decide +kernel
theorem dX2_rivalsOf_29 : decode cX2_rivalsOf 29 = .ok (.ireturn, 1) := by decide +kernel
theorem dX2_loadBelow_0 : decode cX2_loadBelow 0 = .ok (.aload_n 0, 1) := by decide +kernel
theorem dX2_loadBelow_1 : decode cX2_loadBelow 1 = .ok (.iconst 0, 1) := by decide +kernel
theorem dX2_loadBelow_2 : decode cX2_loadBelow 2 = .ok (.invokevirtual 50, 3) := by decide +kernel
theorem dX2_loadBelow_5 : decode cX2_loadBelow 5 = .ok (.aload_n 0, 1) := by decide +kernel
theorem dX2_loadBelow_6 : decode cX2_loadBelow 6 = .ok (.iconst 1, 1) := by decide +kernel
theorem dX2_loadBelow_7 : decode cX2_loadBelow 7 = .ok (.invokevirtual 50, 3) := by decide +kernel
theorem dX2_loadBelow_10 : decode cX2_loadBelow 10 = .ok (.imul, 1) := by decide +kernel
theorem dX2_loadBelow_11 : decode cX2_loadBelow 11 = .ok (.aload_n 0, 1) := by decide +kernel
theorem dX2_loadBelow_12 : decode cX2_loadBelow 12 = .ok (.iconst 2, 1) := by decide +kernel
theorem dX2_loadBelow_13 : decode cX2_loadBelow 13 = .ok (.invokevirtual 50, 3) := by decide +kernel
theorem dX2_loadBelow_16 : decode cX2_loadBelow 16 = .ok (.imul, 1) := by decide +kernel
theorem dX2_loadBelow_17 : decode cX2_loadBelow 17 = .ok (.ireturn, 1) := by decide +kernel
theorem dX2_loadAbove_0 : decode cX2_loadAbove 0 = .ok (.aload_n 0, 1) := by decide +kernel
theorem dX2_loadAbove_1 : decode cX2_loadAbove 1 = .ok (.invokevirtual 54, 3) := by decide +kernel
theorem dX2_loadAbove_4 : decode cX2_loadAbove 4 = .ok (.istore_n 2, 1) := by decide +kernel
theorem dX2_loadAbove_5 : decode cX2_loadAbove 5 = .ok (.iconst 0, 1) := by decide +kernel
theorem dX2_loadAbove_6 : decode cX2_loadAbove 6 = .ok (.istore_n 3, 1) := by decide +kernel
theorem dX2_loadAbove_7 : decode cX2_loadAbove 7 = .ok (.iconst 0, 1) := by decide +kernel
theorem dX2_loadAbove_8 : decode cX2_loadAbove 8 = .ok (.istore 4, 2) := by decide +kernel
theorem dX2_loadAbove_10 : decode cX2_loadAbove 10 = .ok (.iload 4, 2) := by decide +kernel
theorem dX2_loadAbove_12 : decode cX2_loadAbove 12 = .ok (.bipush 9, 2) := by decide +kernel
theorem dX2_loadAbove_14 : decode cX2_loadAbove 14 = .ok (.if_icmp .ge 48, 3) := by decide +kernel
theorem dX2_loadAbove_17 : decode cX2_loadAbove 17 = .ok (.iload 4, 2) := by decide +kernel
theorem dX2_loadAbove_19 : decode cX2_loadAbove 19 = .ok (.iload_n 1, 1) := by decide +kernel
theorem dX2_loadAbove_20 : decode cX2_loadAbove 20 = .ok (.if_icmp .eq 13, 3) := by decide +kernel
theorem dX2_loadAbove_23 : decode cX2_loadAbove 23 = .ok (.aload_n 0, 1) := by decide +kernel
theorem dX2_loadAbove_24 : decode cX2_loadAbove 24 = .ok (.iload_n 1, 1) := by decide +kernel
theorem dX2_loadAbove_25 : decode cX2_loadAbove 25 = .ok (.iload 4, 2) := by decide +kernel
theorem dX2_loadAbove_27 : decode cX2_loadAbove 27 = .ok (.invokevirtual 46, 3) := by decide +kernel
theorem dX2_loadAbove_30 : decode cX2_loadAbove 30 = .ok (.ifCond .eq 26, 3) := by decide +kernel
theorem dX2_loadAbove_33 : decode cX2_loadAbove 33 = .ok (.iload_n 3, 1) := by decide +kernel
theorem dX2_loadAbove_34 : decode cX2_loadAbove 34 = .ok (.aload_n 0, 1) := by decide +kernel
theorem dX2_loadAbove_35 : decode cX2_loadAbove 35 = .ok (.getfield 16, 3) := by decide +kernel
theorem dX2_loadAbove_38 : decode cX2_loadAbove 38 = .ok (.iconst 1, 1) := by decide +kernel
theorem dX2_loadAbove_39 : decode cX2_loadAbove 39 = .ok (.aaload, 1) := by decide +kernel
theorem dX2_loadAbove_40 : decode cX2_loadAbove 40 = .ok (.iload 4, 2) := by decide +kernel
theorem dX2_loadAbove_42 : decode cX2_loadAbove 42 = .ok (.iaload, 1) := by decide +kernel
theorem dX2_loadAbove_43 : decode cX2_loadAbove 43 = .ok (.iload_n 2, 1) := by decide +kernel
theorem dX2_loadAbove_44 : decode cX2_loadAbove 44 = .ok (.aload_n 0, 1) := by decide +kernel
theorem dX2_loadAbove_45 : decode cX2_loadAbove 45 = .ok (.iload 4, 2) := by decide +kernel
theorem dX2_loadAbove_47 : decode cX2_loadAbove 47 = .ok (.iconst 3, 1) := by decide +kernel
theorem dX2_loadAbove_48 : decode cX2_loadAbove 48 = .ok (.idiv, 1) := by decide +kernel
theorem dX2_loadAbove_49 : decode cX2_loadAbove 49 = .ok (.invokevirtual 50, 3) := by decide +kernel
theorem dX2_loadAbove_52 : decode cX2_loadAbove 52 = .ok (.idiv, 1) := by decide +kernel
theorem dX2_loadAbove_53 : decode cX2_loadAbove 53 = .ok (.imul, 1) := by decide +kernel
theorem dX2_loadAbove_54 : decode cX2_loadAbove 54 = .ok (.iadd, 1) := by decide +kernel
theorem dX2_loadAbove_55 : decode cX2_loadAbove 55 = .ok (.istore_n 3, 1) := by decide +kernel
theorem dX2_loadAbove_56 : decode cX2_loadAbove 56 = .ok (.iinc 4 1, 3) := by decide +kernel
theorem dX2_loadAbove_59 : decode cX2_loadAbove 59 = .ok (.goto (-49), 3) := by decide +kernel
theorem dX2_loadAbove_62 : decode cX2_loadAbove 62 = .ok (.iload_n 3, 1) := by decide +kernel
theorem dX2_loadAbove_63 : decode cX2_loadAbove 63 = .ok (.ireturn, 1) := by decide +kernel
theorem dX2_isOverloaded_0 : decode cX2_isOverloaded 0 = .ok (.aload_n 0, 1) := by decide +kernel
theorem dX2_isOverloaded_1 : decode cX2_isOverloaded 1 = .ok (.iload_n 1, 1) := by decide +kernel
theorem dX2_isOverloaded_2 : decode cX2_isOverloaded 2 = .ok (.invokevirtual 58, 3) := by decide +kernel
theorem dX2_isOverloaded_5 : decode cX2_isOverloaded 5 = .ok (.aload_n 0, 1) := by decide +kernel
theorem dX2_isOverloaded_6 : decode cX2_isOverloaded 6 = .ok (.invokevirtual 54, 3) := by decide +kernel
theorem dX2_isOverloaded_9 : decode cX2_isOverloaded 9 = .ok (.if_icmp .le 7, 3) := by decide +kernel
theorem dX2_isOverloaded_12 : decode cX2_isOverloaded 12 = .ok (.iconst 1, 1) := by decide +kernel
theorem dX2_isOverloaded_13 : decode cX2_isOverloaded 13 = .ok (.goto 4, 3) := by decide +kernel
theorem dX2_isOverloaded_16 : decode cX2_isOverloaded 16 = .ok (.iconst 0, 1) := by decide +kernel
theorem dX2_isOverloaded_17 : decode cX2_isOverloaded 17 = .ok (.ireturn, 1) := by decide +kernel
theorem dX2_overloadedSteps_0 : decode cX2_overloadedSteps 0 = .ok (.iconst 0, 1) := by decide +kernel
theorem dX2_overloadedSteps_1 : decode cX2_overloadedSteps 1 = .ok (.istore_n 1, 1) := by decide +kernel
theorem dX2_overloadedSteps_2 : decode cX2_overloadedSteps 2 = .ok (.iconst 0, 1) := by decide +kernel
theorem dX2_overloadedSteps_3 : decode cX2_overloadedSteps 3 = .ok (.istore_n 2, 1) := by decide +kernel
theorem dX2_overloadedSteps_4 : decode cX2_overloadedSteps 4 = .ok (.iload_n 2, 1) := by decide +kernel
theorem dX2_overloadedSteps_5 : decode cX2_overloadedSteps 5 = .ok (.bipush 9, 2) := by decide +kernel
theorem dX2_overloadedSteps_7 : decode cX2_overloadedSteps 7 = .ok (.if_icmp .ge 28, 3) := by decide +kernel
theorem dX2_overloadedSteps_10 : decode cX2_overloadedSteps 10 = .ok (.aload_n 0, 1) := by decide +kernel
theorem dX2_overloadedSteps_11 : decode cX2_overloadedSteps 11 = .ok (.iload_n 2, 1) := by decide +kernel
theorem dX2_overloadedSteps_12 : decode cX2_overloadedSteps 12 = .ok (.invokevirtual 43, 3) := by decide +kernel
theorem dX2_overloadedSteps_15 : decode cX2_overloadedSteps 15 = .ok (.ifCond .eq 14, 3) := by decide +kernel
theorem dX2_overloadedSteps_18 : decode cX2_overloadedSteps 18 = .ok (.aload_n 0, 1) := by decide +kernel
theorem dX2_overloadedSteps_19 : decode cX2_overloadedSteps 19 = .ok (.iload_n 2, 1) := by decide +kernel
theorem dX2_overloadedSteps_20 : decode cX2_overloadedSteps 20 = .ok (.invokevirtual 61, 3) := by decide +kernel
theorem dX2_overloadedSteps_23 : decode cX2_overloadedSteps 23 = .ok (.ifCond .eq 6, 3) := by decide +kernel
theorem dX2_overloadedSteps_26 : decode cX2_overloadedSteps 26 = .ok (.iinc 1 1, 3) := by decide +kernel
theorem dX2_overloadedSteps_29 : decode cX2_overloadedSteps 29 = .ok (.iinc 2 1, 3) := by decide +kernel
theorem dX2_overloadedSteps_32 : decode cX2_overloadedSteps 32 = .ok (.goto (-28), 3) := by decide +kernel
theorem dX2_overloadedSteps_35 : decode cX2_overloadedSteps 35 = .ok (.iload_n 1, 1) := by decide +kernel
theorem dX2_overloadedSteps_36 : decode cX2_overloadedSteps 36 = .ok (.ireturn, 1) := by decide +kernel
theorem dX2_dueBits_0 : decode cX2_dueBits 0 = .ok (.iconst 0, 1) := by decide +kernel
theorem dX2_dueBits_1 : decode cX2_dueBits 1 = .ok (.istore_n 1, 1) := by decide +kernel
theorem dX2_dueBits_2 : decode cX2_dueBits 2 = .ok (.iconst 0, 1) := by decide +kernel
theorem dX2_dueBits_3 : decode cX2_dueBits 3 = .ok (.istore_n 2, 1) := by decide +kernel
theorem dX2_dueBits_4 : decode cX2_dueBits 4 = .ok (.iload_n 2, 1) := by decide +kernel
theorem dX2_dueBits_5 : decode cX2_dueBits 5 = .ok (.iconst 3, 1) := by decide +kernel
theorem dX2_dueBits_6 : decode cX2_dueBits 6 = .ok (.if_icmp .ge 35, 3) := by decide +kernel
theorem dX2_dueBits_9 : decode cX2_dueBits 9 = .ok (.aload_n 0, 1) := by decide +kernel
theorem dX2_dueBits_10 : decode cX2_dueBits 10 = .ok (.getfield 19, 3) := by decide +kernel
theorem dX2_dueBits_13 : decode cX2_dueBits 13 = .ok (.iload_n 2, 1) := by decide +kernel
theorem dX2_dueBits_14 : decode cX2_dueBits 14 = .ok (.iaload, 1) := by decide +kernel
theorem dX2_dueBits_15 : decode cX2_dueBits 15 = .ok (.ifCond .le 20, 3) := by decide +kernel
theorem dX2_dueBits_18 : decode cX2_dueBits 18 = .ok (.aload_n 0, 1) := by decide +kernel
theorem dX2_dueBits_19 : decode cX2_dueBits 19 = .ok (.getfield 11, 3) := by decide +kernel
theorem dX2_dueBits_22 : decode cX2_dueBits 22 = .ok (.iconst 2, 1) := by decide +kernel
theorem dX2_dueBits_23 : decode cX2_dueBits 23 = .ok (.aaload, 1) := by decide +kernel
theorem dX2_dueBits_24 : decode cX2_dueBits 24 = .ok (.iload_n 2, 1) := by decide +kernel
theorem dX2_dueBits_25 : decode cX2_dueBits 25 = .ok (.iaload, 1) := by decide +kernel
theorem dX2_dueBits_26 : decode cX2_dueBits 26 = .ok (.ifCond .le 9, 3) := by decide +kernel
theorem dX2_dueBits_29 : decode cX2_dueBits 29 = .ok (.iload_n 1, 1) := by decide +kernel
theorem dX2_dueBits_30 : decode cX2_dueBits 30 = .ok (.iconst 1, 1) := by decide +kernel
theorem dX2_dueBits_31 : decode cX2_dueBits 31 = .ok (.iload_n 2, 1) := by decide +kernel
theorem dX2_dueBits_32 : decode cX2_dueBits 32 = .ok (.ishl, 1) := by decide +kernel
theorem dX2_dueBits_33 : decode cX2_dueBits 33 = .ok (.ior, 1) := by decide +kernel
theorem dX2_dueBits_34 : decode cX2_dueBits 34 = .ok (.istore_n 1, 1) := by decide +kernel
theorem dX2_dueBits_35 : decode cX2_dueBits 35 = .ok (.iinc 2 1, 3) := by decide +kernel
theorem dX2_dueBits_38 : decode cX2_dueBits 38 = .ok (.goto (-34), 3) := by decide +kernel
theorem dX2_dueBits_41 : decode cX2_dueBits 41 = .ok (.iload_n 1, 1) := by decide +kernel
theorem dX2_dueBits_42 : decode cX2_dueBits 42 = .ok (.ireturn, 1) := by decide +kernel
theorem dX3_init_0 : decode cX3_init 0 = .ok (.aload_n 0, 1) := by decide +kernel
theorem dX3_init_1 : decode cX3_init 1 = .ok (.invokespecial 3, 3) := by decide +kernel
theorem dX3_init_4 : decode cX3_init 4 = .ok (.aload_n 0, 1) := by decide +kernel
theorem dX3_init_5 : decode cX3_init 5 = .ok (.iconst 1, 1) := by decide +kernel
theorem dX3_init_6 : decode cX3_init 6 = .ok (.putfield 9, 3) := by decide +kernel
theorem dX3_init_9 : decode cX3_init 9 = .ok (.aload_n 0, 1) := by decide +kernel
theorem dX3_init_10 : decode cX3_init 10 = .ok (.bipush 60, 2) := by decide +kernel
theorem dX3_init_12 : decode cX3_init 12 = .ok (.newarray .long, 2) := by decide +kernel
theorem dX3_init_14 : decode cX3_init 14 = .ok (.putfield 15, 3) := by decide +kernel
theorem dX3_init_17 : decode cX3_init 17 = .ok (.return_, 1) := by decide +kernel
theorem dX4_init_0 : decode cX4_init 0 = .ok (.aload_n 0, 1) := by decide +kernel
theorem dX4_init_1 : decode cX4_init 1 = .ok (.invokespecial 3, 3) := by decide +kernel
theorem dX4_init_4 : decode cX4_init 4 = .ok (.aload_n 0, 1) := by decide +kernel
theorem dX4_init_5 : decode cX4_init 5 = .ok (.new 9, 3) := by decide +kernel
theorem dX4_init_8 : decode cX4_init 8 = .ok (.dup, 1) := by decide +kernel
theorem dX4_init_9 : decode cX4_init 9 = .ok (.invokespecial 11, 3) := by decide +kernel
theorem dX4_init_12 : decode cX4_init 12 = .ok (.putfield 12, 3) := by decide +kernel
theorem dX4_init_15 : decode cX4_init 15 = .ok (.aload_n 0, 1) := by decide +kernel
theorem dX4_init_16 : decode cX4_init 16 = .ok (.new 16, 3) := by decide +kernel
theorem dX4_init_19 : decode cX4_init 19 = .ok (.dup, 1) := by decide +kernel
theorem dX4_init_20 : decode cX4_init 20 = .ok (.aload_n 0, 1) := by decide +kernel
theorem dX4_init_21 : decode cX4_init 21 = .ok (.getfield 12, 3) := by decide +kernel
theorem dX4_init_24 : decode cX4_init 24 = .ok (.invokespecial 18, 3) := by decide +kernel
theorem dX4_init_27 : decode cX4_init 27 = .ok (.putfield 21, 3) := by decide +kernel
theorem dX4_init_30 : decode cX4_init 30 = .ok (.aload_n 0, 1) := by decide +kernel
theorem dX4_init_31 : decode cX4_init 31 = .ok (.new 16, 3) := by decide +kernel
theorem dX4_init_34 : decode cX4_init 34 = .ok (.dup, 1) := by decide +kernel
theorem dX4_init_35 : decode cX4_init 35 = .ok (.aload_n 0, 1) := by decide +kernel
theorem dX4_init_36 : decode cX4_init 36 = .ok (.getfield 12, 3) := by decide +kernel
theorem dX4_init_39 : decode cX4_init 39 = .ok (.invokespecial 18, 3) := by decide +kernel
theorem dX4_init_42 : decode cX4_init 42 = .ok (.putfield 25, 3) := by decide +kernel
theorem dX4_init_45 : decode cX4_init 45 = .ok (.aload_n 0, 1) := by decide +kernel
theorem dX4_init_46 : decode cX4_init 46 = .ok (.new 28, 3) := by decide +kernel
theorem dX4_init_49 : decode cX4_init 49 = .ok (.dup, 1) := by decide +kernel
theorem dX4_init_50 : decode cX4_init 50 = .ok (.invokespecial 30, 3) := by decide +kernel
theorem dX4_init_53 : decode cX4_init 53 = .ok (.putfield 31, 3) := by decide +kernel
theorem dX4_init_56 : decode cX4_init 56 = .ok (.aload_n 0, 1) := by decide +kernel
theorem dX4_init_57 : decode cX4_init 57 = .ok (.iconst 4, 1) := by decide +kernel
theorem dX4_init_58 : decode cX4_init 58 = .ok (.anewarray 35, 3) := by decide +kernel
theorem dX4_init_61 : decode cX4_init 61 = .ok (.putfield 37, 3) := by decide +kernel
theorem dX4_init_64 : decode cX4_init 64 = .ok (.iconst 0, 1) := by decide +kernel
theorem dX4_init_65 : decode cX4_init 65 = .ok (.istore_n 1, 1) := by decide +kernel
theorem dX4_init_66 : decode cX4_init 66 = .ok (.iload_n 1, 1) := by decide +kernel
theorem dX4_init_67 : decode cX4_init 67 = .ok (.iconst 4, 1) := by decide +kernel
theorem dX4_init_68 : decode cX4_init 68 = .ok (.if_icmp .ge 22, 3) := by decide +kernel
theorem dX4_init_71 : decode cX4_init 71 = .ok (.aload_n 0, 1) := by decide +kernel
theorem dX4_init_72 : decode cX4_init 72 = .ok (.getfield 37, 3) := by decide +kernel
theorem dX4_init_75 : decode cX4_init 75 = .ok (.iload_n 1, 1) := by decide +kernel
theorem dX4_init_76 : decode cX4_init 76 = .ok (.new 35, 3) := by decide +kernel
theorem dX4_init_79 : decode cX4_init 79 = .ok (.dup, 1) := by decide +kernel
theorem dX4_init_80 : decode cX4_init 80 = .ok (.invokespecial 41, 3) := by decide +kernel
theorem dX4_init_83 : decode cX4_init 83 = .ok (.aastore, 1) := by decide +kernel
theorem dX4_init_84 : decode cX4_init 84 = .ok (.iinc 1 1, 3) := by decide +kernel
theorem dX4_init_87 : decode cX4_init 87 = .ok (.goto (-21), 3) := by decide +kernel
theorem dX4_init_90 : decode cX4_init 90 = .ok (.aload_n 0, 1) := by decide +kernel
theorem dX4_init_91 : decode cX4_init 91 = .ok (.iconst 0, 1) := by decide +kernel
theorem dX4_init_92 : decode cX4_init 92 = .ok (.putfield 42, 3) := by decide +kernel
theorem dX4_init_95 : decode cX4_init 95 = .ok (.return_, 1) := by decide +kernel
theorem dX4_chain_0 : decode cX4_chain 0 = .ok (.iload_n 1, 1) := by decide +kernel
theorem dX4_chain_1 : decode cX4_chain 1 = .ok (.invokestatic 46, 3) := by decide +kernel
theorem dX4_chain_4 : decode cX4_chain 4 = .ok (.ifCond .eq 31, 3) := by decide +kernel
theorem dX4_chain_7 : decode cX4_chain 7 = .ok (.iload_n 2, 1) := by decide +kernel
theorem dX4_chain_8 : decode cX4_chain 8 = .ok (.i2l, 1) := by decide +kernel
theorem dX4_chain_9 : decode cX4_chain 9 = .ok (.iconst 0, 1) := by decide +kernel
theorem dX4_chain_10 : decode cX4_chain 10 = .ok (.iconst 4, 1) := by decide +kernel
theorem dX4_chain_11 : decode cX4_chain 11 = .ok (.invokestatic 50, 3) := by decide +kernel
theorem dX4_chain_14 : decode cX4_chain 14 = .ok (.ifCond .eq 21, 3) := by decide +kernel
theorem dX4_chain_17 : decode cX4_chain 17 = .ok (.iload_n 3, 1) := by decide +kernel
theorem dX4_chain_18 : decode cX4_chain 18 = .ok (.i2l, 1) := by decide +kernel
theorem dX4_chain_19 : decode cX4_chain 19 = .ok (.getstatic 54, 3) := by decide +kernel
theorem dX4_chain_22 : decode cX4_chain 22 = .ok (.iload_n 2, 1) := by decide +kernel
theorem dX4_chain_23 : decode cX4_chain 23 = .ok (.iaload, 1) := by decide +kernel
theorem dX4_chain_24 : decode cX4_chain 24 = .ok (.getstatic 58, 3) := by decide +kernel
theorem dX4_chain_27 : decode cX4_chain 27 = .ok (.iload_n 2, 1) := by decide +kernel
theorem dX4_chain_28 : decode cX4_chain 28 = .ok (.iaload, 1) := by decide +kernel
theorem dX4_chain_29 : decode cX4_chain 29 = .ok (.invokestatic 50, 3) := by decide +kernel
theorem dX4_chain_32 : decode cX4_chain 32 = .ok (.ifCond .ne 6, 3) := by decide +kernel
theorem dX4_chain_35 : decode cX4_chain 35 = .ok (.bipush (-2), 2) := by decide +kernel
theorem dX4_chain_37 : decode cX4_chain 37 = .ok (.ireturn, 1) := by decide +kernel
theorem dX4_chain_38 : decode cX4_chain 38 = .ok (.aload_n 0, 1) := by decide +kernel
theorem dX4_chain_39 : decode cX4_chain 39 = .ok (.getfield 12, 3) := by decide +kernel
theorem dX4_chain_42 : decode cX4_chain 42 = .ok (.getfield 61, 3) := by decide +kernel
theorem dX4_chain_45 : decode cX4_chain 45 = .ok (.iload_n 2, 1) := by decide +kernel
theorem dX4_chain_46 : decode cX4_chain 46 = .ok (.aaload, 1) := by decide +kernel
theorem dX4_chain_47 : decode cX4_chain 47 = .ok (.iload_n 1, 1) := by decide +kernel
theorem dX4_chain_48 : decode cX4_chain 48 = .ok (.iaload, 1) := by decide +kernel
theorem dX4_chain_49 : decode cX4_chain 49 = .ok (.istore 4, 2) := by decide +kernel
theorem dX4_chain_51 : decode cX4_chain 51 = .ok (.aload_n 0, 1) := by decide +kernel
theorem dX4_chain_52 : decode cX4_chain 52 = .ok (.getfield 12, 3) := by decide +kernel
theorem dX4_chain_55 : decode cX4_chain 55 = .ok (.getfield 61, 3) := by decide +kernel
theorem dX4_chain_58 : decode cX4_chain 58 = .ok (.iload_n 2, 1) := by decide +kernel
theorem dX4_chain_59 : decode cX4_chain 59 = .ok (.aaload, 1) := by decide +kernel
theorem dX4_chain_60 : decode cX4_chain 60 = .ok (.iload_n 1, 1) := by decide +kernel
theorem dX4_chain_61 : decode cX4_chain 61 = .ok (.iload_n 3, 1) := by decide +kernel
theorem dX4_chain_62 : decode cX4_chain 62 = .ok (.iastore, 1) := by decide +kernel
theorem dX4_chain_63 : decode cX4_chain 63 = .ok (.aload_n 0, 1) := by decide +kernel
theorem dX4_chain_64 : decode cX4_chain 64 = .ok (.getfield 21, 3) := by decide +kernel
theorem dX4_chain_67 : decode cX4_chain 67 = .ok (.iconst 1, 1) := by decide +kernel
theorem dX4_chain_68 : decode cX4_chain 68 = .ok (.putfield 65, 3) := by decide +kernel
theorem dX4_chain_71 : decode cX4_chain 71 = .ok (.iload 4, 2) := by decide +kernel
theorem dX4_chain_73 : decode cX4_chain 73 = .ok (.ireturn, 1) := by decide +kernel
theorem dX4_step_0 : decode cX4_step 0 = .ok (.iload_n 1, 1) := by decide +kernel
theorem dX4_step_1 : decode cX4_step 1 = .ok (.invokestatic 46, 3) := by decide +kernel
theorem dX4_step_4 : decode cX4_step 4 = .ok (.ifCond .eq 41, 3) := by decide +kernel
theorem dX4_step_7 : decode cX4_step 7 = .ok (.iconst 0, 1) := by decide +kernel
theorem dX4_step_8 : decode cX4_step 8 = .ok (.iload_n 2, 1) := by decide +kernel
theorem dX4_step_9 : decode cX4_step 9 = .ok (.i2l, 1) := by decide +kernel
theorem dX4_step_10 : decode cX4_step 10 = .ok (.invokestatic 69, 3) := by decide +kernel
theorem dX4_step_13 : decode cX4_step 13 = .ok (.ifCond .eq 32, 3) := by decide +kernel
theorem dX4_step_16 : decode cX4_step 16 = .ok (.iconst 1, 1) := by decide +kernel
theorem dX4_step_17 : decode cX4_step 17 = .ok (.iload_n 3, 1) := by decide +kernel
theorem dX4_step_18 : decode cX4_step 18 = .ok (.i2l, 1) := by decide +kernel
theorem dX4_step_19 : decode cX4_step 19 = .ok (.invokestatic 69, 3) := by decide +kernel
theorem dX4_step_22 : decode cX4_step 22 = .ok (.ifCond .eq 23, 3) := by decide +kernel
theorem dX4_step_25 : decode cX4_step 25 = .ok (.iconst 2, 1) := by decide +kernel
theorem dX4_step_26 : decode cX4_step 26 = .ok (.iload 4, 2) := by decide +kernel
theorem dX4_step_28 : decode cX4_step 28 = .ok (.i2l, 1) := by decide +kernel
theorem dX4_step_29 : decode cX4_step 29 = .ok (.invokestatic 69, 3) := by decide +kernel
theorem dX4_step_32 : decode cX4_step 32 = .ok (.ifCond .eq 13, 3) := by decide +kernel
theorem dX4_step_35 : decode cX4_step 35 = .ok (.iconst 3, 1) := by decide +kernel
theorem dX4_step_36 : decode cX4_step 36 = .ok (.iload 5, 2) := by decide +kernel
theorem dX4_step_38 : decode cX4_step 38 = .ok (.i2l, 1) := by decide +kernel
theorem dX4_step_39 : decode cX4_step 39 = .ok (.invokestatic 69, 3) := by decide +kernel
theorem dX4_step_42 : decode cX4_step 42 = .ok (.ifCond .ne 6, 3) := by decide +kernel
theorem dX4_step_45 : decode cX4_step 45 = .ok (.bipush (-2), 2) := by decide +kernel
theorem dX4_step_47 : decode cX4_step 47 = .ok (.ireturn, 1) := by decide +kernel
theorem dX4_step_48 : decode cX4_step 48 = .ok (.aload_n 0, 1) := by decide +kernel
theorem dX4_step_49 : decode cX4_step 49 = .ok (.getfield 12, 3) := by decide +kernel
theorem dX4_step_52 : decode cX4_step 52 = .ok (.getfield 73, 3) := by decide +kernel
theorem dX4_step_55 : decode cX4_step 55 = .ok (.iload_n 1, 1) := by decide +kernel
theorem dX4_step_56 : decode cX4_step 56 = .ok (.iaload, 1) := by decide +kernel
theorem dX4_step_57 : decode cX4_step 57 = .ok (.iconst 3, 1) := by decide +kernel
theorem dX4_step_58 : decode cX4_step 58 = .ok (.if_icmp .lt 6, 3) := by decide +kernel
theorem dX4_step_61 : decode cX4_step 61 = .ok (.bipush (-4), 2) := by decide +kernel
theorem dX4_step_63 : decode cX4_step 63 = .ok (.ireturn, 1) := by decide +kernel
theorem dX4_step_64 : decode cX4_step 64 = .ok (.aload_n 0, 1) := by decide +kernel
theorem dX4_step_65 : decode cX4_step 65 = .ok (.getfield 21, 3) := by decide +kernel
theorem dX4_step_68 : decode cX4_step 68 = .ok (.iconst 1, 1) := by decide +kernel
theorem dX4_step_69 : decode cX4_step 69 = .ok (.putfield 65, 3) := by decide +kernel
theorem dX4_step_72 : decode cX4_step 72 = .ok (.aload_n 0, 1) := by decide +kernel
theorem dX4_step_73 : decode cX4_step 73 = .ok (.getfield 12, 3) := by decide +kernel
theorem dX4_step_76 : decode cX4_step 76 = .ok (.iload_n 1, 1) := by decide +kernel
theorem dX4_step_77 : decode cX4_step 77 = .ok (.iload_n 2, 1) := by decide +kernel
theorem dX4_step_78 : decode cX4_step 78 = .ok (.iload_n 3, 1) := by decide +kernel
theorem dX4_step_79 : decode cX4_step 79 = .ok (.iload 4, 2) := by decide +kernel
theorem dX4_step_81 : decode cX4_step 81 = .ok (.iload 5, 2) := by decide +kernel
theorem dX4_step_83 : decode cX4_step 83 = .ok (.invokevirtual 76, 3) := by decide +kernel
theorem dX4_step_86 : decode cX4_step 86 = .ok (.ireturn, 1) := by decide +kernel
theorem dX4_has_0 : decode cX4_has 0 = .ok (.iload_n 1, 1) := by decide +kernel
theorem dX4_has_1 : decode cX4_has 1 = .ok (.invokestatic 46, 3) := by decide +kernel
theorem dX4_has_4 : decode cX4_has 4 = .ok (.ifCond .eq 13, 3) := by decide +kernel
theorem dX4_has_7 : decode cX4_has 7 = .ok (.iload_n 2, 1) := by decide +kernel
theorem dX4_has_8 : decode cX4_has 8 = .ok (.i2l, 1) := by decide +kernel
theorem dX4_has_9 : decode cX4_has 9 = .ok (.iconst 0, 1) := by decide +kernel
theorem dX4_has_10 : decode cX4_has 10 = .ok (.iconst 5, 1) := by decide +kernel
theorem dX4_has_11 : decode cX4_has 11 = .ok (.invokestatic 50, 3) := by decide +kernel
theorem dX4_has_14 : decode cX4_has 14 = .ok (.ifCond .ne 6, 3) := by decide +kernel
theorem dX4_has_17 : decode cX4_has 17 = .ok (.bipush (-2), 2) := by decide +kernel
theorem dX4_has_19 : decode cX4_has 19 = .ok (.ireturn, 1) := by decide +kernel
theorem dX4_has_20 : decode cX4_has 20 = .ok (.aload_n 0, 1) := by decide +kernel
theorem dX4_has_21 : decode cX4_has 21 = .ok (.iload_n 1, 1) := by decide +kernel
theorem dX4_has_22 : decode cX4_has 22 = .ok (.iload_n 2, 1) := by decide +kernel
theorem dX4_has_23 : decode cX4_has 23 = .ok (.invokevirtual 108, 3) := by decide +kernel
theorem dX4_has_26 : decode cX4_has 26 = .ok (.ireturn, 1) := by decide +kernel
theorem dX4_info_0 : decode cX4_info 0 = .ok (.aload_n 0, 1) := by decide +kernel
theorem dX4_info_1 : decode cX4_info 1 = .ok (.getfield 12, 3) := by decide +kernel
theorem dX4_info_4 : decode cX4_info 4 = .ok (.iload_n 1, 1) := by decide +kernel
theorem dX4_info_5 : decode cX4_info 5 = .ok (.iload_n 2, 1) := by decide +kernel
theorem dX4_info_6 : decode cX4_info 6 = .ok (.invokevirtual 80, 3) := by decide +kernel
theorem dX4_info_9 : decode cX4_info 9 = .ok (.istore 4, 2) := by decide +kernel
theorem dX4_info_11 : decode cX4_info 11 = .ok (.iload 4, 2) := by decide +kernel
theorem dX4_info_13 : decode cX4_info 13 = .ok (.iconst (-1), 1) := by decide +kernel
theorem dX4_info_14 : decode cX4_info 14 = .ok (.if_icmp .eq 14, 3) := by decide +kernel
theorem dX4_info_17 : decode cX4_info 17 = .ok (.iload_n 3, 1) := by decide +kernel
theorem dX4_info_18 : decode cX4_info 18 = .ok (.i2l, 1) := by decide +kernel
theorem dX4_info_19 : decode cX4_info 19 = .ok (.iconst 0, 1) := by decide +kernel
theorem dX4_info_20 : decode cX4_info 20 = .ok (.bipush 6, 2) := by decide +kernel
theorem dX4_info_22 : decode cX4_info 22 = .ok (.invokestatic 50, 3) := by decide +kernel
theorem dX4_info_25 : decode cX4_info 25 = .ok (.ifCond .ne 6, 3) := by decide +kernel
theorem dX4_info_28 : decode cX4_info 28 = .ok (.bipush (-2), 2) := by decide +kernel
theorem dX4_info_30 : decode cX4_info 30 = .ok (.ireturn, 1) := by decide +kernel
theorem dX4_info_31 : decode cX4_info 31 = .ok (.iload_n 3, 1) := by decide +kernel
theorem dX4_info_32 : decode cX4_info 32 = .ok (.iconst 5, 1) := by decide +kernel
theorem dX4_info_33 : decode cX4_info 33 = .ok (.if_icmp .ne 10, 3) := by decide +kernel
theorem dX4_info_36 : decode cX4_info 36 = .ok (.aload_n 0, 1) := by decide +kernel
theorem dX4_info_37 : decode cX4_info 37 = .ok (.getfield 21, 3) := by decide +kernel
theorem dX4_info_40 : decode cX4_info 40 = .ok (.invokevirtual 111, 3) := by decide +kernel
theorem dX4_info_43 : decode cX4_info 43 = .ok (.aload_n 0, 1) := by decide +kernel
theorem dX4_info_44 : decode cX4_info 44 = .ok (.iload 4, 2) := by decide +kernel
theorem dX4_info_46 : decode cX4_info 46 = .ok (.iload_n 3, 1) := by decide +kernel
theorem dX4_info_47 : decode cX4_info 47 = .ok (.invokevirtual 114, 3) := by decide +kernel
theorem dX4_info_50 : decode cX4_info 50 = .ok (.ireturn, 1) := by decide +kernel
theorem dX4_bound_0 : decode cX4_bound 0 = .ok (.aload_n 0, 1) := by decide +kernel
theorem dX4_bound_1 : decode cX4_bound 1 = .ok (.getfield 12, 3) := by decide +kernel
theorem dX4_bound_4 : decode cX4_bound 4 = .ok (.iload_n 1, 1) := by decide +kernel
theorem dX4_bound_5 : decode cX4_bound 5 = .ok (.iload_n 2, 1) := by decide +kernel
theorem dX4_bound_6 : decode cX4_bound 6 = .ok (.invokevirtual 80, 3) := by decide +kernel
theorem dX4_bound_9 : decode cX4_bound 9 = .ok (.istore_n 3, 1) := by decide +kernel
theorem dX4_bound_10 : decode cX4_bound 10 = .ok (.iload_n 3, 1) := by decide +kernel
theorem dX4_bound_11 : decode cX4_bound 11 = .ok (.iconst (-1), 1) := by decide +kernel
theorem dX4_bound_12 : decode cX4_bound 12 = .ok (.if_icmp .ne 6, 3) := by decide +kernel
theorem dX4_bound_15 : decode cX4_bound 15 = .ok (.bipush (-2), 2) := by decide +kernel
theorem dX4_bound_17 : decode cX4_bound 17 = .ok (.ireturn, 1) := by decide +kernel
theorem dX4_bound_18 : decode cX4_bound 18 = .ok (.aload_n 0, 1) := by decide +kernel
theorem dX4_bound_19 : decode cX4_bound 19 = .ok (.getfield 21, 3) := by decide +kernel
theorem dX4_bound_22 : decode cX4_bound 22 = .ok (.invokevirtual 111, 3) := by decide +kernel
theorem dX4_bound_25 : decode cX4_bound 25 = .ok (.aload_n 0, 1) := by decide +kernel
theorem dX4_bound_26 : decode cX4_bound 26 = .ok (.getfield 21, 3) := by decide +kernel
theorem dX4_bound_29 : decode cX4_bound 29 = .ok (.iload_n 3, 1) := by decide +kernel
theorem dX4_bound_30 : decode cX4_bound 30 = .ok (.invokevirtual 120, 3) := by decide +kernel
theorem dX4_bound_33 : decode cX4_bound 33 = .ok (.ireturn, 1) := by decide +kernel
theorem dX4_searched_0 : decode cX4_searched 0 = .ok (.aload_n 0, 1) := by decide +kernel
theorem dX4_searched_1 : decode cX4_searched 1 = .ok (.getfield 12, 3) := by decide +kernel
theorem dX4_searched_4 : decode cX4_searched 4 = .ok (.iload_n 1, 1) := by decide +kernel
theorem dX4_searched_5 : decode cX4_searched 5 = .ok (.iload_n 2, 1) := by decide +kernel
theorem dX4_searched_6 : decode cX4_searched 6 = .ok (.invokevirtual 80, 3) := by decide +kernel
theorem dX4_searched_9 : decode cX4_searched 9 = .ok (.istore_n 3, 1) := by decide +kernel
theorem dX4_searched_10 : decode cX4_searched 10 = .ok (.iload_n 3, 1) := by decide +kernel
theorem dX4_searched_11 : decode cX4_searched 11 = .ok (.iconst (-1), 1) := by decide +kernel
theorem dX4_searched_12 : decode cX4_searched 12 = .ok (.if_icmp .ne 6, 3) := by decide +kernel
theorem dX4_searched_15 : decode cX4_searched 15 = .ok (.bipush (-2), 2) := by decide +kernel
theorem dX4_searched_17 : decode cX4_searched 17 = .ok (.ireturn, 1) := by decide +kernel
theorem dX4_searched_18 : decode cX4_searched 18 = .ok (.aload_n 0, 1) := by decide +kernel
theorem dX4_searched_19 : decode cX4_searched 19 = .ok (.getfield 21, 3) := by decide +kernel
theorem dX4_searched_22 : decode cX4_searched 22 = .ok (.invokevirtual 111, 3) := by decide +kernel
theorem dX4_searched_25 : decode cX4_searched 25 = .ok (.aload_n 0, 1) := by decide +kernel
theorem dX4_searched_26 : decode cX4_searched 26 = .ok (.getfield 21, 3) := by decide +kernel
theorem dX4_searched_29 : decode cX4_searched 29 = .ok (.iload_n 3, 1) := by decide +kernel
theorem dX4_searched_30 : decode cX4_searched 30 = .ok (.invokevirtual 123, 3) := by decide +kernel
theorem dX4_searched_33 : decode cX4_searched 33 = .ok (.ireturn, 1) := by decide +kernel
theorem dX4_quick_0 : decode cX4_quick 0 = .ok (.aload_n 0, 1) := by decide +kernel
theorem dX4_quick_1 : decode cX4_quick 1 = .ok (.getfield 12, 3) := by decide +kernel
theorem dX4_quick_4 : decode cX4_quick 4 = .ok (.iload_n 1, 1) := by decide +kernel
theorem dX4_quick_5 : decode cX4_quick 5 = .ok (.iload_n 2, 1) := by decide +kernel
theorem dX4_quick_6 : decode cX4_quick 6 = .ok (.invokevirtual 80, 3) := by decide +kernel
theorem dX4_quick_9 : decode cX4_quick 9 = .ok (.istore_n 3, 1) := by decide +kernel
theorem dX4_quick_10 : decode cX4_quick 10 = .ok (.iload_n 3, 1) := by decide +kernel
theorem dX4_quick_11 : decode cX4_quick 11 = .ok (.iconst (-1), 1) := by decide +kernel
theorem dX4_quick_12 : decode cX4_quick 12 = .ok (.if_icmp .ne 6, 3) := by decide +kernel
theorem dX4_quick_15 : decode cX4_quick 15 = .ok (.bipush (-2), 2) := by decide +kernel
theorem dX4_quick_17 : decode cX4_quick 17 = .ok (.ireturn, 1) := by decide +kernel
theorem dX4_quick_18 : decode cX4_quick 18 = .ok (.aload_n 0, 1) := by decide +kernel
theorem dX4_quick_19 : decode cX4_quick 19 = .ok (.getfield 21, 3) := by decide +kernel
theorem dX4_quick_22 : decode cX4_quick 22 = .ok (.invokevirtual 111, 3) := by decide +kernel
theorem dX4_quick_25 : decode cX4_quick 25 = .ok (.aload_n 0, 1) := by decide +kernel
theorem dX4_quick_26 : decode cX4_quick 26 = .ok (.getfield 21, 3) := by decide +kernel
theorem dX4_quick_29 : decode cX4_quick 29 = .ok (.iload_n 3, 1) := by decide +kernel
theorem dX4_quick_30 : decode cX4_quick 30 = .ok (.invokevirtual 126, 3) := by decide +kernel
theorem dX4_quick_33 : decode cX4_quick 33 = .ok (.ireturn, 1) := by decide +kernel
theorem dX4_rounds_0 : decode cX4_rounds 0 = .ok (.aload_n 0, 1) := by decide +kernel
theorem dX4_rounds_1 : decode cX4_rounds 1 = .ok (.getfield 21, 3) := by decide +kernel
theorem dX4_rounds_4 : decode cX4_rounds 4 = .ok (.invokevirtual 111, 3) := by decide +kernel
theorem dX4_rounds_7 : decode cX4_rounds 7 = .ok (.aload_n 0, 1) := by decide +kernel
theorem dX4_rounds_8 : decode cX4_rounds 8 = .ok (.getfield 21, 3) := by decide +kernel
theorem dX4_rounds_11 : decode cX4_rounds 11 = .ok (.getfield 129, 3) := by decide +kernel
theorem dX4_rounds_14 : decode cX4_rounds 14 = .ok (.ireturn, 1) := by decide +kernel
theorem dX4_meets_0 : decode cX4_meets 0 = .ok (.aload_n 0, 1) := by decide +kernel
theorem dX4_meets_1 : decode cX4_meets 1 = .ok (.getfield 21, 3) := by decide +kernel
theorem dX4_meets_4 : decode cX4_meets 4 = .ok (.invokevirtual 111, 3) := by decide +kernel
theorem dX4_meets_7 : decode cX4_meets 7 = .ok (.aload_n 0, 1) := by decide +kernel
theorem dX4_meets_8 : decode cX4_meets 8 = .ok (.getfield 21, 3) := by decide +kernel
theorem dX4_meets_11 : decode cX4_meets 11 = .ok (.invokevirtual 135, 3) := by decide +kernel
theorem dX4_meets_14 : decode cX4_meets 14 = .ok (.ireturn, 1) := by decide +kernel
theorem dX4_margin_0 : decode cX4_margin 0 = .ok (.aload_n 0, 1) := by decide +kernel
theorem dX4_margin_1 : decode cX4_margin 1 = .ok (.getfield 12, 3) := by decide +kernel
theorem dX4_margin_4 : decode cX4_margin 4 = .ok (.iload_n 1, 1) := by decide +kernel
theorem dX4_margin_5 : decode cX4_margin 5 = .ok (.iload_n 2, 1) := by decide +kernel
theorem dX4_margin_6 : decode cX4_margin 6 = .ok (.invokevirtual 80, 3) := by decide +kernel
theorem dX4_margin_9 : decode cX4_margin 9 = .ok (.istore_n 3, 1) := by decide +kernel
theorem dX4_margin_10 : decode cX4_margin 10 = .ok (.iload_n 3, 1) := by decide +kernel
theorem dX4_margin_11 : decode cX4_margin 11 = .ok (.iconst (-1), 1) := by decide +kernel
theorem dX4_margin_12 : decode cX4_margin 12 = .ok (.if_icmp .ne 6, 3) := by decide +kernel
theorem dX4_margin_15 : decode cX4_margin 15 = .ok (.bipush (-2), 2) := by decide +kernel
theorem dX4_margin_17 : decode cX4_margin 17 = .ok (.ireturn, 1) := by decide +kernel
theorem dX4_margin_18 : decode cX4_margin 18 = .ok (.aload_n 0, 1) := by decide +kernel
theorem dX4_margin_19 : decode cX4_margin 19 = .ok (.getfield 12, 3) := by decide +kernel
theorem dX4_margin_22 : decode cX4_margin 22 = .ok (.getfield 84, 3) := by decide +kernel
theorem dX4_margin_25 : decode cX4_margin 25 = .ok (.iconst 1, 1) := by decide +kernel
theorem dX4_margin_26 : decode cX4_margin 26 = .ok (.aaload, 1) := by decide +kernel
theorem dX4_margin_27 : decode cX4_margin 27 = .ok (.iload_n 3, 1) := by decide +kernel
theorem dX4_margin_28 : decode cX4_margin 28 = .ok (.iaload, 1) := by decide +kernel
theorem dX4_margin_29 : decode cX4_margin 29 = .ok (.istore 4, 2) := by decide +kernel
theorem dX4_margin_31 : decode cX4_margin 31 = .ok (.aload_n 0, 1) := by decide +kernel
theorem dX4_margin_32 : decode cX4_margin 32 = .ok (.getfield 12, 3) := by decide +kernel
theorem dX4_margin_35 : decode cX4_margin 35 = .ok (.invokevirtual 139, 3) := by decide +kernel
theorem dX4_margin_38 : decode cX4_margin 38 = .ok (.istore 5, 2) := by decide +kernel
theorem dX4_margin_40 : decode cX4_margin 40 = .ok (.iconst (-1), 1) := by decide +kernel
theorem dX4_margin_41 : decode cX4_margin 41 = .ok (.istore 6, 2) := by decide +kernel
theorem dX4_margin_43 : decode cX4_margin 43 = .ok (.bipush 8, 2) := by decide +kernel
theorem dX4_margin_45 : decode cX4_margin 45 = .ok (.istore 7, 2) := by decide +kernel
theorem dX4_margin_47 : decode cX4_margin 47 = .ok (.iload 7, 2) := by decide +kernel
theorem dX4_margin_49 : decode cX4_margin 49 = .ok (.ifCond .lt 62, 3) := by decide +kernel
theorem dX4_margin_52 : decode cX4_margin 52 = .ok (.iload 6, 2) := by decide +kernel
theorem dX4_margin_54 : decode cX4_margin 54 = .ok (.iconst (-1), 1) := by decide +kernel
theorem dX4_margin_55 : decode cX4_margin 55 = .ok (.if_icmp .ne 56, 3) := by decide +kernel
theorem dX4_margin_58 : decode cX4_margin 58 = .ok (.aload_n 0, 1) := by decide +kernel
theorem dX4_margin_59 : decode cX4_margin 59 = .ok (.getfield 12, 3) := by decide +kernel
theorem dX4_margin_62 : decode cX4_margin 62 = .ok (.getfield 84, 3) := by decide +kernel
theorem dX4_margin_65 : decode cX4_margin 65 = .ok (.iconst 1, 1) := by decide +kernel
theorem dX4_margin_66 : decode cX4_margin 66 = .ok (.aaload, 1) := by decide +kernel
theorem dX4_margin_67 : decode cX4_margin 67 = .ok (.iload_n 3, 1) := by decide +kernel
theorem dX4_margin_68 : decode cX4_margin 68 = .ok (.iload 4, 2) := by decide +kernel
theorem dX4_margin_70 : decode cX4_margin 70 = .ok (.iload 7, 2) := by decide +kernel
theorem dX4_margin_72 : decode cX4_margin 72 = .ok (.iadd, 1) := by decide +kernel
theorem dX4_margin_73 : decode cX4_margin 73 = .ok (.iastore, 1) := by decide +kernel
theorem dX4_margin_74 : decode cX4_margin 74 = .ok (.aload_n 0, 1) := by decide +kernel
theorem dX4_margin_75 : decode cX4_margin 75 = .ok (.getfield 25, 3) := by decide +kernel
theorem dX4_margin_78 : decode cX4_margin 78 = .ok (.iconst 1, 1) := by decide +kernel
theorem dX4_margin_79 : decode cX4_margin 79 = .ok (.putfield 65, 3) := by decide +kernel
theorem dX4_margin_82 : decode cX4_margin 82 = .ok (.aload_n 0, 1) := by decide +kernel
theorem dX4_margin_83 : decode cX4_margin 83 = .ok (.getfield 25, 3) := by decide +kernel
theorem dX4_margin_86 : decode cX4_margin 86 = .ok (.invokevirtual 111, 3) := by decide +kernel
theorem dX4_margin_89 : decode cX4_margin 89 = .ok (.aload_n 0, 1) := by decide +kernel
theorem dX4_margin_90 : decode cX4_margin 90 = .ok (.getfield 25, 3) := by decide +kernel
theorem dX4_margin_93 : decode cX4_margin 93 = .ok (.invokevirtual 135, 3) := by decide +kernel
theorem dX4_margin_96 : decode cX4_margin 96 = .ok (.iload 5, 2) := by decide +kernel
theorem dX4_margin_98 : decode cX4_margin 98 = .ok (.if_icmp .ne 7, 3) := by decide +kernel
theorem dX4_margin_101 : decode cX4_margin 101 = .ok (.iload 7, 2) := by decide +kernel
theorem dX4_margin_103 : decode cX4_margin 103 = .ok (.istore 6, 2) := by decide +kernel
theorem dX4_margin_105 : decode cX4_margin 105 = .ok (.iinc 7 (-1), 3) := by decide +kernel
theorem dX4_margin_108 : decode cX4_margin 108 = .ok (.goto (-61), 3) := by decide +kernel
theorem dX4_margin_111 : decode cX4_margin 111 = .ok (.aload_n 0, 1) := by decide +kernel
theorem dX4_margin_112 : decode cX4_margin 112 = .ok (.getfield 12, 3) := by decide +kernel
theorem dX4_margin_115 : decode cX4_margin 115 = .ok (.getfield 84, 3) := by decide +kernel
theorem dX4_margin_118 : decode cX4_margin 118 = .ok (.iconst 1, 1) := by decide +kernel
theorem dX4_margin_119 : decode cX4_margin 119 = .ok (.aaload, 1) := by decide +kernel
theorem dX4_margin_120 : decode cX4_margin 120 = .ok (.iload_n 3, 1) := by decide +kernel
theorem dX4_margin_121 : decode cX4_margin 121 = .ok (.iload 4, 2) := by decide +kernel
theorem dX4_margin_123 : decode cX4_margin 123 = .ok (.iastore, 1) := by decide +kernel
theorem dX4_margin_124 : decode cX4_margin 124 = .ok (.iload 6, 2) := by decide +kernel
theorem dX4_margin_126 : decode cX4_margin 126 = .ok (.ireturn, 1) := by decide +kernel
theorem dX4_better_0 : decode cX4_better 0 = .ok (.aload_n 0, 1) := by decide +kernel
theorem dX4_better_1 : decode cX4_better 1 = .ok (.getfield 12, 3) := by decide +kernel
theorem dX4_better_4 : decode cX4_better 4 = .ok (.iload_n 1, 1) := by decide +kernel
theorem dX4_better_5 : decode cX4_better 5 = .ok (.iload_n 2, 1) := by decide +kernel
theorem dX4_better_6 : decode cX4_better 6 = .ok (.invokevirtual 80, 3) := by decide +kernel
theorem dX4_better_9 : decode cX4_better 9 = .ok (.istore 4, 2) := by decide +kernel
theorem dX4_better_11 : decode cX4_better 11 = .ok (.iload 4, 2) := by decide +kernel
theorem dX4_better_13 : decode cX4_better 13 = .ok (.iconst (-1), 1) := by decide +kernel
theorem dX4_better_14 : decode cX4_better 14 = .ok (.if_icmp .eq 13, 3) := by decide +kernel
theorem dX4_better_17 : decode cX4_better 17 = .ok (.iload_n 3, 1) := by decide +kernel
theorem dX4_better_18 : decode cX4_better 18 = .ok (.i2l, 1) := by decide +kernel
theorem dX4_better_19 : decode cX4_better 19 = .ok (.iconst 0, 1) := by decide +kernel
theorem dX4_better_20 : decode cX4_better 20 = .ok (.iconst 1, 1) := by decide +kernel
theorem dX4_better_21 : decode cX4_better 21 = .ok (.invokestatic 50, 3) := by decide +kernel
theorem dX4_better_24 : decode cX4_better 24 = .ok (.ifCond .ne 6, 3) := by decide +kernel
theorem dX4_better_27 : decode cX4_better 27 = .ok (.bipush (-2), 2) := by decide +kernel
theorem dX4_better_29 : decode cX4_better 29 = .ok (.ireturn, 1) := by decide +kernel
theorem dX4_better_30 : decode cX4_better 30 = .ok (.aload_n 0, 1) := by decide +kernel
theorem dX4_better_31 : decode cX4_better 31 = .ok (.getfield 12, 3) := by decide +kernel
theorem dX4_better_34 : decode cX4_better 34 = .ok (.iload_n 1, 1) := by decide +kernel
theorem dX4_better_35 : decode cX4_better 35 = .ok (.invokevirtual 142, 3) := by decide +kernel
theorem dX4_better_38 : decode cX4_better 38 = .ok (.istore 5, 2) := by decide +kernel
theorem dX4_better_40 : decode cX4_better 40 = .ok (.aload_n 0, 1) := by decide +kernel
theorem dX4_better_41 : decode cX4_better 41 = .ok (.getfield 12, 3) := by decide +kernel
theorem dX4_better_44 : decode cX4_better 44 = .ok (.getfield 84, 3) := by decide +kernel
theorem dX4_better_47 : decode cX4_better 47 = .ok (.iconst 2, 1) := by decide +kernel
theorem dX4_better_48 : decode cX4_better 48 = .ok (.aaload, 1) := by decide +kernel
theorem dX4_better_49 : decode cX4_better 49 = .ok (.iload 4, 2) := by decide +kernel
theorem dX4_better_51 : decode cX4_better 51 = .ok (.iaload, 1) := by decide +kernel
theorem dX4_better_52 : decode cX4_better 52 = .ok (.istore 6, 2) := by decide +kernel
theorem dX4_better_54 : decode cX4_better 54 = .ok (.iconst (-1), 1) := by decide +kernel
theorem dX4_better_55 : decode cX4_better 55 = .ok (.istore 7, 2) := by decide +kernel
theorem dX4_better_57 : decode cX4_better 57 = .ok (.iconst (-1), 1) := by decide +kernel
theorem dX4_better_58 : decode cX4_better 58 = .ok (.istore 8, 2) := by decide +kernel
theorem dX4_better_60 : decode cX4_better 60 = .ok (.iconst 0, 1) := by decide +kernel
theorem dX4_better_61 : decode cX4_better 61 = .ok (.istore 9, 2) := by decide +kernel
theorem dX4_better_63 : decode cX4_better 63 = .ok (.iload 9, 2) := by decide +kernel
theorem dX4_better_65 : decode cX4_better 65 = .ok (.bipush 9, 2) := by decide +kernel
theorem dX4_better_67 : decode cX4_better 67 = .ok (.if_icmp .gt 76, 3) := by decide +kernel
theorem dX4_better_70 : decode cX4_better 70 = .ok (.aload_n 0, 1) := by decide +kernel
theorem dX4_better_71 : decode cX4_better 71 = .ok (.getfield 12, 3) := by decide +kernel
theorem dX4_better_74 : decode cX4_better 74 = .ok (.getfield 84, 3) := by decide +kernel
theorem dX4_better_77 : decode cX4_better 77 = .ok (.iconst 2, 1) := by decide +kernel
theorem dX4_better_78 : decode cX4_better 78 = .ok (.aaload, 1) := by decide +kernel
theorem dX4_better_79 : decode cX4_better 79 = .ok (.iload 4, 2) := by decide +kernel
theorem dX4_better_81 : decode cX4_better 81 = .ok (.iload 9, 2) := by decide +kernel
theorem dX4_better_83 : decode cX4_better 83 = .ok (.iastore, 1) := by decide +kernel
theorem dX4_better_84 : decode cX4_better 84 = .ok (.aload_n 0, 1) := by decide +kernel
theorem dX4_better_85 : decode cX4_better 85 = .ok (.getfield 25, 3) := by decide +kernel
theorem dX4_better_88 : decode cX4_better 88 = .ok (.iconst 1, 1) := by decide +kernel
theorem dX4_better_89 : decode cX4_better 89 = .ok (.putfield 65, 3) := by decide +kernel
theorem dX4_better_92 : decode cX4_better 92 = .ok (.aload_n 0, 1) := by decide +kernel
theorem dX4_better_93 : decode cX4_better 93 = .ok (.getfield 25, 3) := by decide +kernel
theorem dX4_better_96 : decode cX4_better 96 = .ok (.invokevirtual 111, 3) := by decide +kernel
theorem dX4_better_99 : decode cX4_better 99 = .ok (.aload_n 0, 1) := by decide +kernel
theorem dX4_better_100 : decode cX4_better 100 = .ok (.getfield 25, 3) := by decide +kernel
theorem dX4_better_103 : decode cX4_better 103 = .ok (.iload 5, 2) := by decide +kernel
theorem dX4_better_105 : decode cX4_better 105 = .ok (.invokevirtual 120, 3) := by decide +kernel
theorem dX4_better_108 : decode cX4_better 108 = .ok (.istore 10, 2) := by decide +kernel
theorem dX4_better_110 : decode cX4_better 110 = .ok (.iload 10, 2) := by decide +kernel
theorem dX4_better_112 : decode cX4_better 112 = .ok (.iconst (-1), 1) := by decide +kernel
theorem dX4_better_113 : decode cX4_better 113 = .ok (.if_icmp .eq 24, 3) := by decide +kernel
theorem dX4_better_116 : decode cX4_better 116 = .ok (.iload 8, 2) := by decide +kernel
theorem dX4_better_118 : decode cX4_better 118 = .ok (.iconst (-1), 1) := by decide +kernel
theorem dX4_better_119 : decode cX4_better 119 = .ok (.if_icmp .eq 10, 3) := by decide +kernel
theorem dX4_better_122 : decode cX4_better 122 = .ok (.iload 10, 2) := by decide +kernel
theorem dX4_better_124 : decode cX4_better 124 = .ok (.iload 8, 2) := by decide +kernel
theorem dX4_better_126 : decode cX4_better 126 = .ok (.if_icmp .ge 11, 3) := by decide +kernel
theorem dX4_better_129 : decode cX4_better 129 = .ok (.iload 9, 2) := by decide +kernel
theorem dX4_better_131 : decode cX4_better 131 = .ok (.istore 7, 2) := by decide +kernel
theorem dX4_better_133 : decode cX4_better 133 = .ok (.iload 10, 2) := by decide +kernel
theorem dX4_better_135 : decode cX4_better 135 = .ok (.istore 8, 2) := by decide +kernel
theorem dX4_better_137 : decode cX4_better 137 = .ok (.iinc 9 1, 3) := by decide +kernel
theorem dX4_better_140 : decode cX4_better 140 = .ok (.goto (-77), 3) := by decide +kernel
theorem dX4_better_143 : decode cX4_better 143 = .ok (.aload_n 0, 1) := by decide +kernel
theorem dX4_better_144 : decode cX4_better 144 = .ok (.getfield 12, 3) := by decide +kernel
theorem dX4_better_147 : decode cX4_better 147 = .ok (.getfield 84, 3) := by decide +kernel
theorem dX4_better_150 : decode cX4_better 150 = .ok (.iconst 2, 1) := by decide +kernel
theorem dX4_better_151 : decode cX4_better 151 = .ok (.aaload, 1) := by decide +kernel
theorem dX4_better_152 : decode cX4_better 152 = .ok (.iload 4, 2) := by decide +kernel
theorem dX4_better_154 : decode cX4_better 154 = .ok (.iload 6, 2) := by decide +kernel
theorem dX4_better_156 : decode cX4_better 156 = .ok (.iastore, 1) := by decide +kernel
theorem dX4_better_157 : decode cX4_better 157 = .ok (.iload_n 3, 1) := by decide +kernel
theorem dX4_better_158 : decode cX4_better 158 = .ok (.ifCond .ne 8, 3) := by decide +kernel
theorem dX4_better_161 : decode cX4_better 161 = .ok (.iload 7, 2) := by decide +kernel
theorem dX4_better_163 : decode cX4_better 163 = .ok (.goto 5, 3) := by decide +kernel
theorem dX4_better_166 : decode cX4_better 166 = .ok (.iload 8, 2) := by decide +kernel
theorem dX4_better_168 : decode cX4_better 168 = .ok (.ireturn, 1) := by decide +kernel
theorem dX4_run_0 : decode cX4_run 0 = .ok (.iload_n 1, 1) := by decide +kernel
theorem dX4_run_1 : decode cX4_run 1 = .ok (.i2l, 1) := by decide +kernel
theorem dX4_run_2 : decode cX4_run 2 = .ok (.iconst 1, 1) := by decide +kernel
theorem dX4_run_3 : decode cX4_run 3 = .ok (.sipush 300, 3) := by decide +kernel
theorem dX4_run_6 : decode cX4_run 6 = .ok (.invokestatic 50, 3) := by decide +kernel
theorem dX4_run_9 : decode cX4_run 9 = .ok (.ifCond .ne 6, 3) := by decide +kernel
theorem dX4_run_12 : decode cX4_run 12 = .ok (.bipush (-2), 2) := by decide +kernel
theorem dX4_run_14 : decode cX4_run 14 = .ok (.ireturn, 1) := by decide +kernel
theorem dX4_run_15 : decode cX4_run 15 = .ok (.aload_n 0, 1) := by decide +kernel
theorem dX4_run_16 : decode cX4_run 16 = .ok (.getfield 31, 3) := by decide +kernel
theorem dX4_run_19 : decode cX4_run 19 = .ok (.aload_n 0, 1) := by decide +kernel
theorem dX4_run_20 : decode cX4_run 20 = .ok (.getfield 12, 3) := by decide +kernel
theorem dX4_run_23 : decode cX4_run 23 = .ok (.iload_n 1, 1) := by decide +kernel
theorem dX4_run_24 : decode cX4_run 24 = .ok (.invokevirtual 145, 3) := by decide +kernel
theorem dX4_run_27 : decode cX4_run 27 = .ok (.aload_n 0, 1) := by decide +kernel
theorem dX4_run_28 : decode cX4_run 28 = .ok (.getfield 31, 3) := by decide +kernel
theorem dX4_run_31 : decode cX4_run 31 = .ok (.getfield 149, 3) := by decide +kernel
theorem dX4_run_34 : decode cX4_run 34 = .ok (.ireturn, 1) := by decide +kernel
theorem dX4_seen_0 : decode cX4_seen 0 = .ok (.aload_n 0, 1) := by decide +kernel
theorem dX4_seen_1 : decode cX4_seen 1 = .ok (.getfield 12, 3) := by decide +kernel
theorem dX4_seen_4 : decode cX4_seen 4 = .ok (.iload_n 1, 1) := by decide +kernel
theorem dX4_seen_5 : decode cX4_seen 5 = .ok (.iload_n 2, 1) := by decide +kernel
theorem dX4_seen_6 : decode cX4_seen 6 = .ok (.invokevirtual 80, 3) := by decide +kernel
theorem dX4_seen_9 : decode cX4_seen 9 = .ok (.istore 4, 2) := by decide +kernel
theorem dX4_seen_11 : decode cX4_seen 11 = .ok (.iload 4, 2) := by decide +kernel
theorem dX4_seen_13 : decode cX4_seen 13 = .ok (.iconst (-1), 1) := by decide +kernel
theorem dX4_seen_14 : decode cX4_seen 14 = .ok (.if_icmp .eq 13, 3) := by decide +kernel
theorem dX4_seen_17 : decode cX4_seen 17 = .ok (.iload_n 3, 1) := by decide +kernel
theorem dX4_seen_18 : decode cX4_seen 18 = .ok (.i2l, 1) := by decide +kernel
theorem dX4_seen_19 : decode cX4_seen 19 = .ok (.iconst 0, 1) := by decide +kernel
theorem dX4_seen_20 : decode cX4_seen 20 = .ok (.iconst 2, 1) := by decide +kernel
theorem dX4_seen_21 : decode cX4_seen 21 = .ok (.invokestatic 50, 3) := by decide +kernel
theorem dX4_seen_24 : decode cX4_seen 24 = .ok (.ifCond .ne 6, 3) := by decide +kernel
theorem dX4_seen_27 : decode cX4_seen 27 = .ok (.bipush (-2), 2) := by decide +kernel
theorem dX4_seen_29 : decode cX4_seen 29 = .ok (.ireturn, 1) := by decide +kernel
theorem dX4_seen_30 : decode cX4_seen 30 = .ok (.aload_n 0, 1) := by decide +kernel
theorem dX4_seen_31 : decode cX4_seen 31 = .ok (.getfield 31, 3) := by decide +kernel
theorem dX4_seen_34 : decode cX4_seen 34 = .ok (.iload 4, 2) := by decide +kernel
theorem dX4_seen_36 : decode cX4_seen 36 = .ok (.iload_n 3, 1) := by decide +kernel
theorem dX4_seen_37 : decode cX4_seen 37 = .ok (.invokevirtual 152, 3) := by decide +kernel
theorem dX4_seen_40 : decode cX4_seen 40 = .ok (.ireturn, 1) := by decide +kernel
theorem dX4_count_0 : decode cX4_count 0 = .ok (.iload_n 1, 1) := by decide +kernel
theorem dX4_count_1 : decode cX4_count 1 = .ok (.i2l, 1) := by decide +kernel
theorem dX4_count_2 : decode cX4_count 2 = .ok (.iconst 0, 1) := by decide +kernel
theorem dX4_count_3 : decode cX4_count 3 = .ok (.bipush 8, 2) := by decide +kernel
theorem dX4_count_5 : decode cX4_count 5 = .ok (.invokestatic 50, 3) := by decide +kernel
theorem dX4_count_8 : decode cX4_count 8 = .ok (.ifCond .ne 6, 3) := by decide +kernel
theorem dX4_count_11 : decode cX4_count 11 = .ok (.bipush (-2), 2) := by decide +kernel
theorem dX4_count_13 : decode cX4_count 13 = .ok (.ireturn, 1) := by decide +kernel
theorem dX4_count_14 : decode cX4_count 14 = .ok (.iload_n 1, 1) := by decide +kernel
theorem dX4_count_15 : decode cX4_count 15 = .ok (.iconst 1, 1) := by decide +kernel
theorem dX4_count_16 : decode cX4_count 16 = .ok (.if_icmp .eq 8, 3) := by decide +kernel
theorem dX4_count_19 : decode cX4_count 19 = .ok (.iload_n 1, 1) := by decide +kernel
theorem dX4_count_20 : decode cX4_count 20 = .ok (.iconst 2, 1) := by decide +kernel
theorem dX4_count_21 : decode cX4_count 21 = .ok (.if_icmp .ne 10, 3) := by decide +kernel
theorem dX4_count_24 : decode cX4_count 24 = .ok (.aload_n 0, 1) := by decide +kernel
theorem dX4_count_25 : decode cX4_count 25 = .ok (.getfield 21, 3) := by decide +kernel
theorem dX4_count_28 : decode cX4_count 28 = .ok (.invokevirtual 111, 3) := by decide +kernel
theorem dX4_count_31 : decode cX4_count 31 = .ok (.aload_n 0, 1) := by decide +kernel
theorem dX4_count_32 : decode cX4_count 32 = .ok (.iload_n 1, 1) := by decide +kernel
theorem dX4_count_33 : decode cX4_count 33 = .ok (.invokevirtual 194, 3) := by decide +kernel
theorem dX4_count_36 : decode cX4_count 36 = .ok (.ireturn, 1) := by decide +kernel
theorem dX4_within_0 : decode cX4_within 0 = .ok (.lload_n 0, 1) := by decide +kernel
theorem dX4_within_1 : decode cX4_within 1 = .ok (.iload_n 2, 1) := by decide +kernel
theorem dX4_within_2 : decode cX4_within 2 = .ok (.i2l, 1) := by decide +kernel
theorem dX4_within_3 : decode cX4_within 3 = .ok (.lcmp, 1) := by decide +kernel
theorem dX4_within_4 : decode cX4_within 4 = .ok (.ifCond .lt 14, 3) := by decide +kernel
theorem dX4_within_7 : decode cX4_within 7 = .ok (.lload_n 0, 1) := by decide +kernel
theorem dX4_within_8 : decode cX4_within 8 = .ok (.iload_n 3, 1) := by decide +kernel
theorem dX4_within_9 : decode cX4_within 9 = .ok (.i2l, 1) := by decide +kernel
theorem dX4_within_10 : decode cX4_within 10 = .ok (.lcmp, 1) := by decide +kernel
theorem dX4_within_11 : decode cX4_within 11 = .ok (.ifCond .gt 7, 3) := by decide +kernel
theorem dX4_within_14 : decode cX4_within 14 = .ok (.iconst 1, 1) := by decide +kernel
theorem dX4_within_15 : decode cX4_within 15 = .ok (.goto 4, 3) := by decide +kernel
theorem dX4_within_18 : decode cX4_within 18 = .ok (.iconst 0, 1) := by decide +kernel
theorem dX4_within_19 : decode cX4_within 19 = .ok (.ireturn, 1) := by decide +kernel
theorem dX4_isChain_0 : decode cX4_isChain 0 = .ok (.iload_n 0, 1) := by decide +kernel
theorem dX4_isChain_1 : decode cX4_isChain 1 = .ok (.i2l, 1) := by decide +kernel
theorem dX4_isChain_2 : decode cX4_isChain 2 = .ok (.iconst 0, 1) := by decide +kernel
theorem dX4_isChain_3 : decode cX4_isChain 3 = .ok (.iconst 2, 1) := by decide +kernel
theorem dX4_isChain_4 : decode cX4_isChain 4 = .ok (.invokestatic 50, 3) := by decide +kernel
theorem dX4_isChain_7 : decode cX4_isChain 7 = .ok (.ireturn, 1) := by decide +kernel
theorem dX4_isMark_0 : decode cX4_isMark 0 = .ok (.lload_n 1, 1) := by decide +kernel
theorem dX4_isMark_1 : decode cX4_isMark 1 = .ok (.getstatic 205, 3) := by decide +kernel
theorem dX4_isMark_4 : decode cX4_isMark 4 = .ok (.iload_n 0, 1) := by decide +kernel
theorem dX4_isMark_5 : decode cX4_isMark 5 = .ok (.iaload, 1) := by decide +kernel
theorem dX4_isMark_6 : decode cX4_isMark 6 = .ok (.getstatic 208, 3) := by decide +kernel
theorem dX4_isMark_9 : decode cX4_isMark 9 = .ok (.iload_n 0, 1) := by decide +kernel
theorem dX4_isMark_10 : decode cX4_isMark 10 = .ok (.iaload, 1) := by decide +kernel
theorem dX4_isMark_11 : decode cX4_isMark 11 = .ok (.invokestatic 50, 3) := by decide +kernel
theorem dX4_isMark_14 : decode cX4_isMark 14 = .ok (.ireturn, 1) := by decide +kernel
theorem dX4_traitOf_0 : decode cX4_traitOf 0 = .ok (.iload_n 2, 1) := by decide +kernel
theorem dX4_traitOf_1 : decode cX4_traitOf 1 = .ok (.iconst 5, 1) := by decide +kernel
theorem dX4_traitOf_2 : decode cX4_traitOf 2 = .ok (.if_icmp .ne 15, 3) := by decide +kernel
theorem dX4_traitOf_5 : decode cX4_traitOf 5 = .ok (.aload_n 0, 1) := by decide +kernel
theorem dX4_traitOf_6 : decode cX4_traitOf 6 = .ok (.getfield 12, 3) := by decide +kernel
theorem dX4_traitOf_9 : decode cX4_traitOf 9 = .ok (.getfield 73, 3) := by decide +kernel
theorem dX4_traitOf_12 : decode cX4_traitOf 12 = .ok (.iload_n 1, 1) := by decide +kernel
theorem dX4_traitOf_13 : decode cX4_traitOf 13 = .ok (.iaload, 1) := by decide +kernel
theorem dX4_traitOf_14 : decode cX4_traitOf 14 = .ok (.goto 14, 3) := by decide +kernel
theorem dX4_traitOf_17 : decode cX4_traitOf 17 = .ok (.aload_n 0, 1) := by decide +kernel
theorem dX4_traitOf_18 : decode cX4_traitOf 18 = .ok (.getfield 12, 3) := by decide +kernel
theorem dX4_traitOf_21 : decode cX4_traitOf 21 = .ok (.getfield 61, 3) := by decide +kernel
theorem dX4_traitOf_24 : decode cX4_traitOf 24 = .ok (.iload_n 2, 1) := by decide +kernel
theorem dX4_traitOf_25 : decode cX4_traitOf 25 = .ok (.aaload, 1) := by decide +kernel
theorem dX4_traitOf_26 : decode cX4_traitOf 26 = .ok (.iload_n 1, 1) := by decide +kernel
theorem dX4_traitOf_27 : decode cX4_traitOf 27 = .ok (.iaload, 1) := by decide +kernel
theorem dX4_traitOf_28 : decode cX4_traitOf 28 = .ok (.ireturn, 1) := by decide +kernel
theorem dX4_infoOf_0 : decode cX4_infoOf 0 = .ok (.iload_n 2, 1) := by decide +kernel
theorem dX4_infoOf_1 : decode cX4_infoOf 1 = .ok (.tableswitch 54 4 6 #[27, 36, 45], 27) := by decide +kernel
theorem dX4_infoOf_28 : decode cX4_infoOf 28 = .ok (.aload_n 0, 1) := by decide +kernel
theorem dX4_infoOf_29 : decode cX4_infoOf 29 = .ok (.getfield 12, 3) := by decide +kernel
theorem dX4_infoOf_32 : decode cX4_infoOf 32 = .ok (.iload_n 1, 1) := by decide +kernel
theorem dX4_infoOf_33 : decode cX4_infoOf 33 = .ok (.invokevirtual 211, 3) := by decide +kernel
theorem dX4_infoOf_36 : decode cX4_infoOf 36 = .ok (.ireturn, 1) := by decide +kernel
theorem dX4_infoOf_37 : decode cX4_infoOf 37 = .ok (.aload_n 0, 1) := by decide +kernel
theorem dX4_infoOf_38 : decode cX4_infoOf 38 = .ok (.getfield 21, 3) := by decide +kernel
theorem dX4_infoOf_41 : decode cX4_infoOf 41 = .ok (.iload_n 1, 1) := by decide +kernel
theorem dX4_infoOf_42 : decode cX4_infoOf 42 = .ok (.invokevirtual 214, 3) := by decide +kernel
theorem dX4_infoOf_45 : decode cX4_infoOf 45 = .ok (.ireturn, 1) := by decide +kernel
theorem dX4_infoOf_46 : decode cX4_infoOf 46 = .ok (.aload_n 0, 1) := by decide +kernel
theorem dX4_infoOf_47 : decode cX4_infoOf 47 = .ok (.getfield 12, 3) := by decide +kernel
theorem dX4_infoOf_50 : decode cX4_infoOf 50 = .ok (.iload_n 1, 1) := by decide +kernel
theorem dX4_infoOf_51 : decode cX4_infoOf 51 = .ok (.invokevirtual 217, 3) := by decide +kernel
theorem dX4_infoOf_54 : decode cX4_infoOf 54 = .ok (.ireturn, 1) := by decide +kernel
theorem dX4_infoOf_55 : decode cX4_infoOf 55 = .ok (.aload_n 0, 1) := by decide +kernel
theorem dX4_infoOf_56 : decode cX4_infoOf 56 = .ok (.getfield 12, 3) := by decide +kernel
theorem dX4_infoOf_59 : decode cX4_infoOf 59 = .ok (.getfield 84, 3) := by decide +kernel
theorem dX4_infoOf_62 : decode cX4_infoOf 62 = .ok (.iload_n 2, 1) := by decide +kernel
theorem dX4_infoOf_63 : decode cX4_infoOf 63 = .ok (.aaload, 1) := by decide +kernel
theorem dX4_infoOf_64 : decode cX4_infoOf 64 = .ok (.iload_n 1, 1) := by decide +kernel
theorem dX4_infoOf_65 : decode cX4_infoOf 65 = .ok (.iaload, 1) := by decide +kernel
theorem dX4_infoOf_66 : decode cX4_infoOf 66 = .ok (.ireturn, 1) := by decide +kernel
theorem dX4_countOf_0 : decode cX4_countOf 0 = .ok (.iload_n 1, 1) := by decide +kernel
theorem dX4_countOf_1 : decode cX4_countOf 1 = .ok (.tableswitch 127 0 7 #[47, 55, 72, 83, 91, 101, 111, 119], 47) := by decide +kernel
theorem dX4_countOf_48 : decode cX4_countOf 48 = .ok (.aload_n 0, 1) := by decide +kernel
theorem dX4_countOf_49 : decode cX4_countOf 49 = .ok (.getfield 12, 3) := by decide +kernel
theorem dX4_countOf_52 : decode cX4_countOf 52 = .ok (.invokevirtual 220, 3) := by decide +kernel
theorem dX4_countOf_55 : decode cX4_countOf 55 = .ok (.ireturn, 1) := by decide +kernel
theorem dX4_countOf_56 : decode cX4_countOf 56 = .ok (.aload_n 0, 1) := by decide +kernel
theorem dX4_countOf_57 : decode cX4_countOf 57 = .ok (.getfield 21, 3) := by decide +kernel
theorem dX4_countOf_60 : decode cX4_countOf 60 = .ok (.getfield 129, 3) := by decide +kernel
theorem dX4_countOf_63 : decode cX4_countOf 63 = .ok (.iconst (-1), 1) := by decide +kernel
theorem dX4_countOf_64 : decode cX4_countOf 64 = .ok (.if_icmp .ne 7, 3) := by decide +kernel
theorem dX4_countOf_67 : decode cX4_countOf 67 = .ok (.iconst 0, 1) := by decide +kernel
theorem dX4_countOf_68 : decode cX4_countOf 68 = .ok (.goto 4, 3) := by decide +kernel
theorem dX4_countOf_71 : decode cX4_countOf 71 = .ok (.iconst 1, 1) := by decide +kernel
theorem dX4_countOf_72 : decode cX4_countOf 72 = .ok (.ireturn, 1) := by decide +kernel
theorem dX4_countOf_73 : decode cX4_countOf 73 = .ok (.aload_n 0, 1) := by decide +kernel
theorem dX4_countOf_74 : decode cX4_countOf 74 = .ok (.getfield 21, 3) := by decide +kernel
theorem dX4_countOf_77 : decode cX4_countOf 77 = .ok (.invokevirtual 135, 3) := by decide +kernel
theorem dX4_countOf_80 : decode cX4_countOf 80 = .ok (.invokestatic 223, 3) := by decide +kernel
theorem dX4_countOf_83 : decode cX4_countOf 83 = .ok (.ireturn, 1) := by decide +kernel
theorem dX4_countOf_84 : decode cX4_countOf 84 = .ok (.aload_n 0, 1) := by decide +kernel
theorem dX4_countOf_85 : decode cX4_countOf 85 = .ok (.getfield 31, 3) := by decide +kernel
theorem dX4_countOf_88 : decode cX4_countOf 88 = .ok (.getfield 149, 3) := by decide +kernel
theorem dX4_countOf_91 : decode cX4_countOf 91 = .ok (.ireturn, 1) := by decide +kernel
theorem dX4_countOf_92 : decode cX4_countOf 92 = .ok (.aload_n 0, 1) := by decide +kernel
theorem dX4_countOf_93 : decode cX4_countOf 93 = .ok (.getfield 31, 3) := by decide +kernel
theorem dX4_countOf_96 : decode cX4_countOf 96 = .ok (.getfield 228, 3) := by decide +kernel
theorem dX4_countOf_99 : decode cX4_countOf 99 = .ok (.iconst 0, 1) := by decide +kernel
theorem dX4_countOf_100 : decode cX4_countOf 100 = .ok (.iaload, 1) := by decide +kernel
theorem dX4_countOf_101 : decode cX4_countOf 101 = .ok (.ireturn, 1) := by decide +kernel
theorem dX4_countOf_102 : decode cX4_countOf 102 = .ok (.aload_n 0, 1) := by decide +kernel
theorem dX4_countOf_103 : decode cX4_countOf 103 = .ok (.getfield 31, 3) := by decide +kernel
theorem dX4_countOf_106 : decode cX4_countOf 106 = .ok (.getfield 228, 3) := by decide +kernel
theorem dX4_countOf_109 : decode cX4_countOf 109 = .ok (.iconst 1, 1) := by decide +kernel
theorem dX4_countOf_110 : decode cX4_countOf 110 = .ok (.iaload, 1) := by decide +kernel
theorem dX4_countOf_111 : decode cX4_countOf 111 = .ok (.ireturn, 1) := by decide +kernel
theorem dX4_countOf_112 : decode cX4_countOf 112 = .ok (.aload_n 0, 1) := by decide +kernel
theorem dX4_countOf_113 : decode cX4_countOf 113 = .ok (.getfield 31, 3) := by decide +kernel
theorem dX4_countOf_116 : decode cX4_countOf 116 = .ok (.getfield 231, 3) := by decide +kernel
theorem dX4_countOf_119 : decode cX4_countOf 119 = .ok (.ireturn, 1) := by decide +kernel
theorem dX4_countOf_120 : decode cX4_countOf 120 = .ok (.aload_n 0, 1) := by decide +kernel
theorem dX4_countOf_121 : decode cX4_countOf 121 = .ok (.getfield 12, 3) := by decide +kernel
theorem dX4_countOf_124 : decode cX4_countOf 124 = .ok (.invokevirtual 234, 3) := by decide +kernel
theorem dX4_countOf_127 : decode cX4_countOf 127 = .ok (.ireturn, 1) := by decide +kernel
theorem dX4_countOf_128 : decode cX4_countOf 128 = .ok (.aload_n 0, 1) := by decide +kernel
theorem dX4_countOf_129 : decode cX4_countOf 129 = .ok (.getfield 42, 3) := by decide +kernel
theorem dX4_countOf_132 : decode cX4_countOf 132 = .ok (.ireturn, 1) := by decide +kernel
theorem dJ6_bitCount_0f7a4_0 : decode cJ6_bitCount_0f7a4 0 = .ok (.iload_n 0, 1) := by decide +kernel
theorem dJ6_bitCount_0f7a4_1 : decode cJ6_bitCount_0f7a4 1 = .ok (.iload_n 0, 1) := by decide +kernel
theorem dJ6_bitCount_0f7a4_2 : decode cJ6_bitCount_0f7a4 2 = .ok (.iconst 1, 1) := by decide +kernel
theorem dJ6_bitCount_0f7a4_3 : decode cJ6_bitCount_0f7a4 3 = .ok (.iushr, 1) := by decide +kernel
theorem dJ6_bitCount_0f7a4_4 : decode cJ6_bitCount_0f7a4 4 = .ok (.ldc_w 265, 3) := by decide +kernel
theorem dJ6_bitCount_0f7a4_7 : decode cJ6_bitCount_0f7a4 7 = .ok (.iand, 1) := by decide +kernel
theorem dJ6_bitCount_0f7a4_8 : decode cJ6_bitCount_0f7a4 8 = .ok (.isub, 1) := by decide +kernel
theorem dJ6_bitCount_0f7a4_9 : decode cJ6_bitCount_0f7a4 9 = .ok (.istore_n 0, 1) := by decide +kernel
theorem dJ6_bitCount_0f7a4_10 : decode cJ6_bitCount_0f7a4 10 = .ok (.iload_n 0, 1) := by decide +kernel
theorem dJ6_bitCount_0f7a4_11 : decode cJ6_bitCount_0f7a4 11 = .ok (.ldc_w 266, 3) := by decide +kernel
theorem dJ6_bitCount_0f7a4_14 : decode cJ6_bitCount_0f7a4 14 = .ok (.iand, 1) := by decide +kernel
theorem dJ6_bitCount_0f7a4_15 : decode cJ6_bitCount_0f7a4 15 = .ok (.iload_n 0, 1) := by decide +kernel
theorem dJ6_bitCount_0f7a4_16 : decode cJ6_bitCount_0f7a4 16 = .ok (.iconst 2, 1) := by decide +kernel
theorem dJ6_bitCount_0f7a4_17 : decode cJ6_bitCount_0f7a4 17 = .ok (.iushr, 1) := by decide +kernel
theorem dJ6_bitCount_0f7a4_18 : decode cJ6_bitCount_0f7a4 18 = .ok (.ldc_w 266, 3) := by decide +kernel
theorem dJ6_bitCount_0f7a4_21 : decode cJ6_bitCount_0f7a4 21 = .ok (.iand, 1) := by decide +kernel
theorem dJ6_bitCount_0f7a4_22 : decode cJ6_bitCount_0f7a4 22 = .ok (.iadd, 1) := by decide +kernel
theorem dJ6_bitCount_0f7a4_23 : decode cJ6_bitCount_0f7a4 23 = .ok (.istore_n 0, 1) := by decide +kernel
theorem dJ6_bitCount_0f7a4_24 : decode cJ6_bitCount_0f7a4 24 = .ok (.iload_n 0, 1) := by decide +kernel
theorem dJ6_bitCount_0f7a4_25 : decode cJ6_bitCount_0f7a4 25 = .ok (.iload_n 0, 1) := by decide +kernel
theorem dJ6_bitCount_0f7a4_26 : decode cJ6_bitCount_0f7a4 26 = .ok (.iconst 4, 1) := by decide +kernel
theorem dJ6_bitCount_0f7a4_27 : decode cJ6_bitCount_0f7a4 27 = .ok (.iushr, 1) := by decide +kernel
theorem dJ6_bitCount_0f7a4_28 : decode cJ6_bitCount_0f7a4 28 = .ok (.iadd, 1) := by decide +kernel
theorem dJ6_bitCount_0f7a4_29 : decode cJ6_bitCount_0f7a4 29 = .ok (.ldc_w 267, 3) := by decide +kernel
theorem dJ6_bitCount_0f7a4_32 : decode cJ6_bitCount_0f7a4 32 = .ok (.iand, 1) := by decide +kernel
theorem dJ6_bitCount_0f7a4_33 : decode cJ6_bitCount_0f7a4 33 = .ok (.istore_n 0, 1) := by decide +kernel
theorem dJ6_bitCount_0f7a4_34 : decode cJ6_bitCount_0f7a4 34 = .ok (.iload_n 0, 1) := by decide +kernel
theorem dJ6_bitCount_0f7a4_35 : decode cJ6_bitCount_0f7a4 35 = .ok (.iload_n 0, 1) := by decide +kernel
theorem dJ6_bitCount_0f7a4_36 : decode cJ6_bitCount_0f7a4 36 = .ok (.bipush 8, 2) := by decide +kernel
theorem dJ6_bitCount_0f7a4_38 : decode cJ6_bitCount_0f7a4 38 = .ok (.iushr, 1) := by decide +kernel
theorem dJ6_bitCount_0f7a4_39 : decode cJ6_bitCount_0f7a4 39 = .ok (.iadd, 1) := by decide +kernel
theorem dJ6_bitCount_0f7a4_40 : decode cJ6_bitCount_0f7a4 40 = .ok (.istore_n 0, 1) := by decide +kernel
theorem dJ6_bitCount_0f7a4_41 : decode cJ6_bitCount_0f7a4 41 = .ok (.iload_n 0, 1) := by decide +kernel
theorem dJ6_bitCount_0f7a4_42 : decode cJ6_bitCount_0f7a4 42 = .ok (.iload_n 0, 1) := by decide +kernel
theorem dJ6_bitCount_0f7a4_43 : decode cJ6_bitCount_0f7a4 43 = .ok (.bipush 16, 2) := by decide +kernel
theorem dJ6_bitCount_0f7a4_45 : decode cJ6_bitCount_0f7a4 45 = .ok (.iushr, 1) := by decide +kernel
theorem dJ6_bitCount_0f7a4_46 : decode cJ6_bitCount_0f7a4 46 = .ok (.iadd, 1) := by decide +kernel
theorem dJ6_bitCount_0f7a4_47 : decode cJ6_bitCount_0f7a4 47 = .ok (.istore_n 0, 1) := by decide +kernel
theorem dJ6_bitCount_0f7a4_48 : decode cJ6_bitCount_0f7a4 48 = .ok (.iload_n 0, 1) := by decide +kernel
theorem dJ6_bitCount_0f7a4_49 : decode cJ6_bitCount_0f7a4 49 = .ok (.bipush 63, 2) := by decide +kernel
theorem dJ6_bitCount_0f7a4_51 : decode cJ6_bitCount_0f7a4 51 = .ok (.iand, 1) := by decide +kernel
theorem dJ6_bitCount_0f7a4_52 : decode cJ6_bitCount_0f7a4 52 = .ok (.ireturn, 1) := by decide +kernel
theorem dJ9_floorMod_7cf53_0 : decode cJ9_floorMod_7cf53 0 = .ok (.iload_n 0, 1) := by decide +kernel
theorem dJ9_floorMod_7cf53_1 : decode cJ9_floorMod_7cf53 1 = .ok (.iload_n 1, 1) := by decide +kernel
theorem dJ9_floorMod_7cf53_2 : decode cJ9_floorMod_7cf53 2 = .ok (.irem, 1) := by decide +kernel
theorem dJ9_floorMod_7cf53_3 : decode cJ9_floorMod_7cf53 3 = .ok (.istore_n 2, 1) := by decide +kernel
theorem dJ9_floorMod_7cf53_4 : decode cJ9_floorMod_7cf53 4 = .ok (.iload_n 0, 1) := by decide +kernel
theorem dJ9_floorMod_7cf53_5 : decode cJ9_floorMod_7cf53 5 = .ok (.iload_n 1, 1) := by decide +kernel
theorem dJ9_floorMod_7cf53_6 : decode cJ9_floorMod_7cf53 6 = .ok (.ixor, 1) := by decide +kernel
theorem dJ9_floorMod_7cf53_7 : decode cJ9_floorMod_7cf53 7 = .ok (.ifCond .ge 11, 3) := by decide +kernel
theorem dJ9_floorMod_7cf53_10 : decode cJ9_floorMod_7cf53 10 = .ok (.iload_n 2, 1) := by decide +kernel
theorem dJ9_floorMod_7cf53_11 : decode cJ9_floorMod_7cf53 11 = .ok (.ifCond .eq 7, 3) := by decide +kernel
theorem dJ9_floorMod_7cf53_14 : decode cJ9_floorMod_7cf53 14 = .ok (.iload_n 2, 1) := by decide +kernel
theorem dJ9_floorMod_7cf53_15 : decode cJ9_floorMod_7cf53 15 = .ok (.iload_n 1, 1) := by decide +kernel
theorem dJ9_floorMod_7cf53_16 : decode cJ9_floorMod_7cf53 16 = .ok (.iadd, 1) := by decide +kernel
theorem dJ9_floorMod_7cf53_17 : decode cJ9_floorMod_7cf53 17 = .ok (.ireturn, 1) := by decide +kernel
theorem dJ9_floorMod_7cf53_18 : decode cJ9_floorMod_7cf53 18 = .ok (.iload_n 2, 1) := by decide +kernel
theorem dJ9_floorMod_7cf53_19 : decode cJ9_floorMod_7cf53 19 = .ok (.ireturn, 1) := by decide +kernel
theorem dJ9_max_7cf53_0 : decode cJ9_max_7cf53 0 = .ok (.iload_n 0, 1) := by decide +kernel
theorem dJ9_max_7cf53_1 : decode cJ9_max_7cf53 1 = .ok (.iload_n 1, 1) := by decide +kernel
theorem dJ9_max_7cf53_2 : decode cJ9_max_7cf53 2 = .ok (.if_icmp .lt 7, 3) := by decide +kernel
theorem dJ9_max_7cf53_5 : decode cJ9_max_7cf53 5 = .ok (.iload_n 0, 1) := by decide +kernel
theorem dJ9_max_7cf53_6 : decode cJ9_max_7cf53 6 = .ok (.goto 4, 3) := by decide +kernel
theorem dJ9_max_7cf53_9 : decode cJ9_max_7cf53 9 = .ok (.iload_n 1, 1) := by decide +kernel
theorem dJ9_max_7cf53_10 : decode cJ9_max_7cf53 10 = .ok (.ireturn, 1) := by decide +kernel
theorem dJ9_min_7cf53_0 : decode cJ9_min_7cf53 0 = .ok (.iload_n 0, 1) := by decide +kernel
theorem dJ9_min_7cf53_1 : decode cJ9_min_7cf53 1 = .ok (.iload_n 1, 1) := by decide +kernel
theorem dJ9_min_7cf53_2 : decode cJ9_min_7cf53 2 = .ok (.if_icmp .gt 7, 3) := by decide +kernel
theorem dJ9_min_7cf53_5 : decode cJ9_min_7cf53 5 = .ok (.iload_n 0, 1) := by decide +kernel
theorem dJ9_min_7cf53_6 : decode cJ9_min_7cf53 6 = .ok (.goto 4, 3) := by decide +kernel
theorem dJ9_min_7cf53_9 : decode cJ9_min_7cf53 9 = .ok (.iload_n 1, 1) := by decide +kernel
theorem dJ9_min_7cf53_10 : decode cJ9_min_7cf53 10 = .ok (.ireturn, 1) := by decide +kernel
theorem dJ7_fill_53178_0 : decode cJ7_fill_53178 0 = .ok (.iconst 0, 1) := by decide +kernel
theorem dJ7_fill_53178_1 : decode cJ7_fill_53178 1 = .ok (.istore_n 2, 1) := by decide +kernel
theorem dJ7_fill_53178_2 : decode cJ7_fill_53178 2 = .ok (.aload_n 0, 1) := by decide +kernel
theorem dJ7_fill_53178_3 : decode cJ7_fill_53178 3 = .ok (.arraylength, 1) := by decide +kernel
theorem dJ7_fill_53178_4 : decode cJ7_fill_53178 4 = .ok (.istore_n 3, 1) := by decide +kernel
theorem dJ7_fill_53178_5 : decode cJ7_fill_53178 5 = .ok (.iload_n 2, 1) := by decide +kernel
theorem dJ7_fill_53178_6 : decode cJ7_fill_53178 6 = .ok (.iload_n 3, 1) := by decide +kernel
theorem dJ7_fill_53178_7 : decode cJ7_fill_53178 7 = .ok (.if_icmp .ge 13, 3) := by decide +kernel
theorem dJ7_fill_53178_10 : decode cJ7_fill_53178 10 = .ok (.aload_n 0, 1) := by decide +kernel
theorem dJ7_fill_53178_11 : decode cJ7_fill_53178 11 = .ok (.iload_n 2, 1) := by decide +kernel
theorem dJ7_fill_53178_12 : decode cJ7_fill_53178 12 = .ok (.iload_n 1, 1) := by decide +kernel
theorem dJ7_fill_53178_13 : decode cJ7_fill_53178 13 = .ok (.iastore, 1) := by decide +kernel
theorem dJ7_fill_53178_14 : decode cJ7_fill_53178 14 = .ok (.iinc 2 1, 3) := by decide +kernel
theorem dJ7_fill_53178_17 : decode cJ7_fill_53178 17 = .ok (.goto (-12), 3) := by decide +kernel
theorem dJ7_fill_53178_20 : decode cJ7_fill_53178 20 = .ok (.return_, 1) := by decide +kernel
theorem dL_cell_0 : decode cL_cell 0 = .ok (.iload_n 1, 1) := by decide +kernel
theorem dL_cell_1 : decode cL_cell 1 = .ok (.aload_n 0, 1) := by decide +kernel
theorem dL_cell_2 : decode cL_cell 2 = .ok (.arraylength, 1) := by decide +kernel
theorem dL_cell_3 : decode cL_cell 3 = .ok (.if_icmp .ge 9, 3) := by decide +kernel
theorem dL_cell_6 : decode cL_cell 6 = .ok (.aload_n 0, 1) := by decide +kernel
theorem dL_cell_7 : decode cL_cell 7 = .ok (.iload_n 1, 1) := by decide +kernel
theorem dL_cell_8 : decode cL_cell 8 = .ok (.iaload, 1) := by decide +kernel
theorem dL_cell_9 : decode cL_cell 9 = .ok (.goto 9, 3) := by decide +kernel
theorem dL_cell_12 : decode cL_cell 12 = .ok (.ldc 7, 2) := by decide +kernel
theorem dL_cell_14 : decode cL_cell 14 = .ok (.iload_n 1, 1) := by decide +kernel
theorem dL_cell_15 : decode cL_cell 15 = .ok (.iconst 3, 1) := by decide +kernel
theorem dL_cell_16 : decode cL_cell 16 = .ok (.iadd, 1) := by decide +kernel
theorem dL_cell_17 : decode cL_cell 17 = .ok (.imul, 1) := by decide +kernel
theorem dL_cell_18 : decode cL_cell 18 = .ok (.ireturn, 1) := by decide +kernel
theorem dL_up_0 : decode cL_up 0 = .ok (.iload_n 0, 1) := by decide +kernel
theorem dL_up_1 : decode cL_up 1 = .ok (.ldc 8, 2) := by decide +kernel
theorem dL_up_3 : decode cL_up 3 = .ok (.iand, 1) := by decide +kernel
theorem dL_up_4 : decode cL_up 4 = .ok (.iload_n 1, 1) := by decide +kernel
theorem dL_up_5 : decode cL_up 5 = .ok (.irem, 1) := by decide +kernel
theorem dL_up_6 : decode cL_up 6 = .ok (.ireturn, 1) := by decide +kernel
theorem dL_tells_0 : decode cL_tells 0 = .ok (.iconst 0, 1) := by decide +kernel
theorem dL_tells_1 : decode cL_tells 1 = .ok (.istore 4, 2) := by decide +kernel
theorem dL_tells_3 : decode cL_tells 3 = .ok (.iload 4, 2) := by decide +kernel
theorem dL_tells_5 : decode cL_tells 5 = .ok (.iconst 3, 1) := by decide +kernel
theorem dL_tells_6 : decode cL_tells 6 = .ok (.if_icmp .ge 429, 3) := by decide +kernel
theorem dL_tells_9 : decode cL_tells 9 = .ok (.aload_n 1, 1) := by decide +kernel
theorem dL_tells_10 : decode cL_tells 10 = .ok (.iload_n 2, 1) := by decide +kernel
theorem dL_tells_11 : decode cL_tells 11 = .ok (.iconst 4, 1) := by decide +kernel
theorem dL_tells_12 : decode cL_tells 12 = .ok (.iload 4, 2) := by decide +kernel
theorem dL_tells_14 : decode cL_tells 14 = .ok (.imul, 1) := by decide +kernel
theorem dL_tells_15 : decode cL_tells 15 = .ok (.iadd, 1) := by decide +kernel
theorem dL_tells_16 : decode cL_tells 16 = .ok (.invokestatic 9, 3) := by decide +kernel
theorem dL_tells_19 : decode cL_tells 19 = .ok (.istore 5, 2) := by decide +kernel
theorem dL_tells_21 : decode cL_tells 21 = .ok (.aload_n 3, 1) := by decide +kernel
theorem dL_tells_22 : decode cL_tells 22 = .ok (.iload 4, 2) := by decide +kernel
theorem dL_tells_24 : decode cL_tells 24 = .ok (.iload 5, 2) := by decide +kernel
theorem dL_tells_26 : decode cL_tells 26 = .ok (.iconst 3, 1) := by decide +kernel
theorem dL_tells_27 : decode cL_tells 27 = .ok (.iand, 1) := by decide +kernel
theorem dL_tells_28 : decode cL_tells 28 = .ok (.ifCond .ne 17, 3) := by decide +kernel
theorem dL_tells_31 : decode cL_tells 31 = .ok (.iconst 5, 1) := by decide +kernel
theorem dL_tells_32 : decode cL_tells 32 = .ok (.iload 5, 2) := by decide +kernel
theorem dL_tells_34 : decode cL_tells 34 = .ok (.iconst 2, 1) := by decide +kernel
theorem dL_tells_35 : decode cL_tells 35 = .ok (.ishr, 1) := by decide +kernel
theorem dL_tells_36 : decode cL_tells 36 = .ok (.bipush 15, 2) := by decide +kernel
theorem dL_tells_38 : decode cL_tells 38 = .ok (.invokestatic 15, 3) := by decide +kernel
theorem dL_tells_41 : decode cL_tells 41 = .ok (.iadd, 1) := by decide +kernel
theorem dL_tells_42 : decode cL_tells 42 = .ok (.goto 15, 3) := by decide +kernel
theorem dL_tells_45 : decode cL_tells 45 = .ok (.bipush 10, 2) := by decide +kernel
theorem dL_tells_47 : decode cL_tells 47 = .ok (.iload 5, 2) := by decide +kernel
theorem dL_tells_49 : decode cL_tells 49 = .ok (.iconst 2, 1) := by decide +kernel
theorem dL_tells_50 : decode cL_tells 50 = .ok (.ishr, 1) := by decide +kernel
theorem dL_tells_51 : decode cL_tells 51 = .ok (.bipush 50, 2) := by decide +kernel
theorem dL_tells_53 : decode cL_tells 53 = .ok (.invokestatic 15, 3) := by decide +kernel
theorem dL_tells_56 : decode cL_tells 56 = .ok (.iadd, 1) := by decide +kernel
theorem dL_tells_57 : decode cL_tells 57 = .ok (.iastore, 1) := by decide +kernel
theorem dL_tells_58 : decode cL_tells 58 = .ok (.aload_n 3, 1) := by decide +kernel
theorem dL_tells_59 : decode cL_tells 59 = .ok (.iconst 3, 1) := by decide +kernel
theorem dL_tells_60 : decode cL_tells 60 = .ok (.iload 4, 2) := by decide +kernel
theorem dL_tells_62 : decode cL_tells 62 = .ok (.iadd, 1) := by decide +kernel
theorem dL_tells_63 : decode cL_tells 63 = .ok (.iload 5, 2) := by decide +kernel
theorem dL_tells_65 : decode cL_tells 65 = .ok (.bipush 9, 2) := by decide +kernel
theorem dL_tells_67 : decode cL_tells 67 = .ok (.ishr, 1) := by decide +kernel
theorem dL_tells_68 : decode cL_tells 68 = .ok (.iconst 1, 1) := by decide +kernel
theorem dL_tells_69 : decode cL_tells 69 = .ok (.iand, 1) := by decide +kernel
theorem dL_tells_70 : decode cL_tells 70 = .ok (.ifCond .ne 7, 3) := by decide +kernel
theorem dL_tells_73 : decode cL_tells 73 = .ok (.iconst 0, 1) := by decide +kernel
theorem dL_tells_74 : decode cL_tells 74 = .ok (.goto 13, 3) := by decide +kernel
theorem dL_tells_77 : decode cL_tells 77 = .ok (.iload 5, 2) := by decide +kernel
theorem dL_tells_79 : decode cL_tells 79 = .ok (.bipush 10, 2) := by decide +kernel
theorem dL_tells_81 : decode cL_tells 81 = .ok (.ishr, 1) := by decide +kernel
theorem dL_tells_82 : decode cL_tells 82 = .ok (.bipush 14, 2) := by decide +kernel
theorem dL_tells_84 : decode cL_tells 84 = .ok (.invokestatic 15, 3) := by decide +kernel
theorem dL_tells_87 : decode cL_tells 87 = .ok (.iastore, 1) := by decide +kernel
theorem dL_tells_88 : decode cL_tells 88 = .ok (.aload_n 3, 1) := by decide +kernel
theorem dL_tells_89 : decode cL_tells 89 = .ok (.bipush 6, 2) := by decide +kernel
theorem dL_tells_91 : decode cL_tells 91 = .ok (.iload 4, 2) := by decide +kernel
theorem dL_tells_93 : decode cL_tells 93 = .ok (.iadd, 1) := by decide +kernel
theorem dL_tells_94 : decode cL_tells 94 = .ok (.iload 5, 2) := by decide +kernel
theorem dL_tells_96 : decode cL_tells 96 = .ok (.bipush 15, 2) := by decide +kernel
theorem dL_tells_98 : decode cL_tells 98 = .ok (.ishr, 1) := by decide +kernel
