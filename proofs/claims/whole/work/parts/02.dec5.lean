theorem dX5_searchedBy_51 : decode cX5_searchedBy 51 = .ok (.ifCond .eq 117, 3) := by decide +kernel
theorem dX5_searchedBy_54 : decode cX5_searchedBy 54 = .ok (.iconst 0, 1) := by decide +kernel
theorem dX5_searchedBy_55 : decode cX5_searchedBy 55 = .ok (.istore 7, 2) := by decide +kernel
theorem dX5_searchedBy_57 : decode cX5_searchedBy 57 = .ok (.iload 7, 2) := by decide +kernel
theorem dX5_searchedBy_59 : decode cX5_searchedBy 59 = .ok (.iconst 3, 1) := by decide +kernel
theorem dX5_searchedBy_60 : decode cX5_searchedBy 60 = .ok (.if_icmp .ge 102, 3) := by decide +kernel
theorem dX5_searchedBy_63 : decode cX5_searchedBy 63 = .ok (.iload 5, 2) := by decide +kernel
theorem dX5_searchedBy_65 : decode cX5_searchedBy 65 = .ok (.ifCond .eq 97, 3) := by decide +kernel
theorem dX5_searchedBy_68 : decode cX5_searchedBy 68 = .ok (.aload_n 0, 1) := by decide +kernel
theorem dX5_searchedBy_69 : decode cX5_searchedBy 69 = .ok (.getfield 56, 3) := by decide +kernel
theorem dX5_searchedBy_72 : decode cX5_searchedBy 72 = .ok (.iload_n 2, 1) := by decide +kernel
theorem dX5_searchedBy_73 : decode cX5_searchedBy 73 = .ok (.aload_n 0, 1) := by decide +kernel
theorem dX5_searchedBy_74 : decode cX5_searchedBy 74 = .ok (.iload_n 1, 1) := by decide +kernel
theorem dX5_searchedBy_75 : decode cX5_searchedBy 75 = .ok (.iload_n 2, 1) := by decide +kernel
theorem dX5_searchedBy_76 : decode cX5_searchedBy 76 = .ok (.iload 6, 2) := by decide +kernel
theorem dX5_searchedBy_78 : decode cX5_searchedBy 78 = .ok (.invokevirtual 257, 3) := by decide +kernel
theorem dX5_searchedBy_81 : decode cX5_searchedBy 81 = .ok (.iastore, 1) := by decide +kernel
theorem dX5_searchedBy_82 : decode cX5_searchedBy 82 = .ok (.aload_n 0, 1) := by decide +kernel
theorem dX5_searchedBy_83 : decode cX5_searchedBy 83 = .ok (.getfield 56, 3) := by decide +kernel
theorem dX5_searchedBy_86 : decode cX5_searchedBy 86 = .ok (.iload_n 3, 1) := by decide +kernel
theorem dX5_searchedBy_87 : decode cX5_searchedBy 87 = .ok (.aload_n 0, 1) := by decide +kernel
theorem dX5_searchedBy_88 : decode cX5_searchedBy 88 = .ok (.iload_n 1, 1) := by decide +kernel
theorem dX5_searchedBy_89 : decode cX5_searchedBy 89 = .ok (.iload_n 3, 1) := by decide +kernel
theorem dX5_searchedBy_90 : decode cX5_searchedBy 90 = .ok (.iload 7, 2) := by decide +kernel
theorem dX5_searchedBy_92 : decode cX5_searchedBy 92 = .ok (.invokevirtual 257, 3) := by decide +kernel
theorem dX5_searchedBy_95 : decode cX5_searchedBy 95 = .ok (.iastore, 1) := by decide +kernel
theorem dX5_searchedBy_96 : decode cX5_searchedBy 96 = .ok (.iload 6, 2) := by decide +kernel
theorem dX5_searchedBy_98 : decode cX5_searchedBy 98 = .ok (.ifCond .eq 13, 3) := by decide +kernel
theorem dX5_searchedBy_101 : decode cX5_searchedBy 101 = .ok (.aload_n 0, 1) := by decide +kernel
theorem dX5_searchedBy_102 : decode cX5_searchedBy 102 = .ok (.getfield 56, 3) := by decide +kernel
theorem dX5_searchedBy_105 : decode cX5_searchedBy 105 = .ok (.iload_n 2, 1) := by decide +kernel
theorem dX5_searchedBy_106 : decode cX5_searchedBy 106 = .ok (.iaload, 1) := by decide +kernel
theorem dX5_searchedBy_107 : decode cX5_searchedBy 107 = .ok (.iconst (-1), 1) := by decide +kernel
theorem dX5_searchedBy_108 : decode cX5_searchedBy 108 = .ok (.if_icmp .eq 22, 3) := by decide +kernel
theorem dX5_searchedBy_111 : decode cX5_searchedBy 111 = .ok (.iload 7, 2) := by decide +kernel
theorem dX5_searchedBy_113 : decode cX5_searchedBy 113 = .ok (.ifCond .eq 13, 3) := by decide +kernel
theorem dX5_searchedBy_116 : decode cX5_searchedBy 116 = .ok (.aload_n 0, 1) := by decide +kernel
theorem dX5_searchedBy_117 : decode cX5_searchedBy 117 = .ok (.getfield 56, 3) := by decide +kernel
theorem dX5_searchedBy_120 : decode cX5_searchedBy 120 = .ok (.iload_n 3, 1) := by decide +kernel
theorem dX5_searchedBy_121 : decode cX5_searchedBy 121 = .ok (.iaload, 1) := by decide +kernel
theorem dX5_searchedBy_122 : decode cX5_searchedBy 122 = .ok (.iconst (-1), 1) := by decide +kernel
theorem dX5_searchedBy_123 : decode cX5_searchedBy 123 = .ok (.if_icmp .eq 7, 3) := by decide +kernel
theorem dX5_searchedBy_126 : decode cX5_searchedBy 126 = .ok (.iconst 1, 1) := by decide +kernel
theorem dX5_searchedBy_127 : decode cX5_searchedBy 127 = .ok (.goto 4, 3) := by decide +kernel
theorem dX5_searchedBy_130 : decode cX5_searchedBy 130 = .ok (.iconst 0, 1) := by decide +kernel
theorem dX5_searchedBy_131 : decode cX5_searchedBy 131 = .ok (.istore 8, 2) := by decide +kernel
theorem dX5_searchedBy_133 : decode cX5_searchedBy 133 = .ok (.iload 8, 2) := by decide +kernel
theorem dX5_searchedBy_135 : decode cX5_searchedBy 135 = .ok (.ifCond .eq 21, 3) := by decide +kernel
theorem dX5_searchedBy_138 : decode cX5_searchedBy 138 = .ok (.aload_n 0, 1) := by decide +kernel
theorem dX5_searchedBy_139 : decode cX5_searchedBy 139 = .ok (.iload_n 1, 1) := by decide +kernel
theorem dX5_searchedBy_140 : decode cX5_searchedBy 140 = .ok (.invokevirtual 226, 3) := by decide +kernel
theorem dX5_searchedBy_143 : decode cX5_searchedBy 143 = .ok (.istore 5, 2) := by decide +kernel
theorem dX5_searchedBy_145 : decode cX5_searchedBy 145 = .ok (.iload 4, 2) := by decide +kernel
theorem dX5_searchedBy_147 : decode cX5_searchedBy 147 = .ok (.aload_n 0, 1) := by decide +kernel
theorem dX5_searchedBy_148 : decode cX5_searchedBy 148 = .ok (.getfield 204, 3) := by decide +kernel
theorem dX5_searchedBy_151 : decode cX5_searchedBy 151 = .ok (.invokestatic 198, 3) := by decide +kernel
theorem dX5_searchedBy_154 : decode cX5_searchedBy 154 = .ok (.istore 4, 2) := by decide +kernel
theorem dX5_searchedBy_156 : decode cX5_searchedBy 156 = .ok (.iinc 7 1, 3) := by decide +kernel
theorem dX5_searchedBy_159 : decode cX5_searchedBy 159 = .ok (.goto (-102), 3) := by decide +kernel
theorem dX5_searchedBy_162 : decode cX5_searchedBy 162 = .ok (.iinc 6 1, 3) := by decide +kernel
theorem dX5_searchedBy_165 : decode cX5_searchedBy 165 = .ok (.goto (-122), 3) := by decide +kernel
theorem dX5_searchedBy_168 : decode cX5_searchedBy 168 = .ok (.aload_n 0, 1) := by decide +kernel
theorem dX5_searchedBy_169 : decode cX5_searchedBy 169 = .ok (.invokevirtual 229, 3) := by decide +kernel
theorem dX5_searchedBy_172 : decode cX5_searchedBy 172 = .ok (.iload 5, 2) := by decide +kernel
theorem dX5_searchedBy_174 : decode cX5_searchedBy 174 = .ok (.ifCond .eq 8, 3) := by decide +kernel
theorem dX5_searchedBy_177 : decode cX5_searchedBy 177 = .ok (.iload 4, 2) := by decide +kernel
theorem dX5_searchedBy_179 : decode cX5_searchedBy 179 = .ok (.goto 4, 3) := by decide +kernel
theorem dX5_searchedBy_182 : decode cX5_searchedBy 182 = .ok (.iconst (-1), 1) := by decide +kernel
theorem dX5_searchedBy_183 : decode cX5_searchedBy 183 = .ok (.ireturn, 1) := by decide +kernel
theorem dX5_searched_0 : decode cX5_searched 0 = .ok (.aload_n 0, 1) := by decide +kernel
theorem dX5_searched_1 : decode cX5_searched 1 = .ok (.invokevirtual 248, 3) := by decide +kernel
theorem dX5_searched_4 : decode cX5_searched 4 = .ok (.aload_n 0, 1) := by decide +kernel
theorem dX5_searched_5 : decode cX5_searched 5 = .ok (.iload_n 1, 1) := by decide +kernel
theorem dX5_searched_6 : decode cX5_searched 6 = .ok (.iload_n 2, 1) := by decide +kernel
theorem dX5_searched_7 : decode cX5_searched 7 = .ok (.invokevirtual 154, 3) := by decide +kernel
theorem dX5_searched_10 : decode cX5_searched 10 = .ok (.ifCond .eq 15, 3) := by decide +kernel
theorem dX5_searched_13 : decode cX5_searched 13 = .ok (.aload_n 0, 1) := by decide +kernel
theorem dX5_searched_14 : decode cX5_searched 14 = .ok (.iconst 3, 1) := by decide +kernel
theorem dX5_searched_15 : decode cX5_searched 15 = .ok (.iload_n 1, 1) := by decide +kernel
theorem dX5_searched_16 : decode cX5_searched 16 = .ok (.imul, 1) := by decide +kernel
theorem dX5_searched_17 : decode cX5_searched 17 = .ok (.iload_n 2, 1) := by decide +kernel
theorem dX5_searched_18 : decode cX5_searched 18 = .ok (.iadd, 1) := by decide +kernel
theorem dX5_searched_19 : decode cX5_searched 19 = .ok (.invokevirtual 260, 3) := by decide +kernel
theorem dX5_searched_22 : decode cX5_searched 22 = .ok (.goto 5, 3) := by decide +kernel
theorem dX5_searched_25 : decode cX5_searched 25 = .ok (.bipush (-2), 2) := by decide +kernel
theorem dX5_searched_27 : decode cX5_searched 27 = .ok (.ireturn, 1) := by decide +kernel
theorem dX5_comesQuick_0 : decode cX5_comesQuick 0 = .ok (.aload_n 0, 1) := by decide +kernel
theorem dX5_comesQuick_1 : decode cX5_comesQuick 1 = .ok (.getfield 53, 3) := by decide +kernel
theorem dX5_comesQuick_4 : decode cX5_comesQuick 4 = .ok (.iload_n 1, 1) := by decide +kernel
theorem dX5_comesQuick_5 : decode cX5_comesQuick 5 = .ok (.iaload, 1) := by decide +kernel
theorem dX5_comesQuick_6 : decode cX5_comesQuick 6 = .ok (.iload_n 2, 1) := by decide +kernel
theorem dX5_comesQuick_7 : decode cX5_comesQuick 7 = .ok (.iadd, 1) := by decide +kernel
theorem dX5_comesQuick_8 : decode cX5_comesQuick 8 = .ok (.aload_n 0, 1) := by decide +kernel
theorem dX5_comesQuick_9 : decode cX5_comesQuick 9 = .ok (.getfield 23, 3) := by decide +kernel
theorem dX5_comesQuick_12 : decode cX5_comesQuick 12 = .ok (.iload_n 1, 1) := by decide +kernel
theorem dX5_comesQuick_13 : decode cX5_comesQuick 13 = .ok (.iconst 3, 1) := by decide +kernel
theorem dX5_comesQuick_14 : decode cX5_comesQuick 14 = .ok (.idiv, 1) := by decide +kernel
theorem dX5_comesQuick_15 : decode cX5_comesQuick 15 = .ok (.iaload, 1) := by decide +kernel
theorem dX5_comesQuick_16 : decode cX5_comesQuick 16 = .ok (.invokestatic 189, 3) := by decide +kernel
theorem dX5_comesQuick_19 : decode cX5_comesQuick 19 = .ok (.ireturn, 1) := by decide +kernel
theorem dX5_holdsQuick_0 : decode cX5_holdsQuick 0 = .ok (.iconst 1, 1) := by decide +kernel
theorem dX5_holdsQuick_1 : decode cX5_holdsQuick 1 = .ok (.istore_n 3, 1) := by decide +kernel
theorem dX5_holdsQuick_2 : decode cX5_holdsQuick 2 = .ok (.iconst 0, 1) := by decide +kernel
theorem dX5_holdsQuick_3 : decode cX5_holdsQuick 3 = .ok (.istore 4, 2) := by decide +kernel
theorem dX5_holdsQuick_5 : decode cX5_holdsQuick 5 = .ok (.iload 4, 2) := by decide +kernel
theorem dX5_holdsQuick_7 : decode cX5_holdsQuick 7 = .ok (.sipush 202, 3) := by decide +kernel
theorem dX5_holdsQuick_10 : decode cX5_holdsQuick 10 = .ok (.if_icmp .ge 103, 3) := by decide +kernel
theorem dX5_holdsQuick_13 : decode cX5_holdsQuick 13 = .ok (.iload_n 3, 1) := by decide +kernel
theorem dX5_holdsQuick_14 : decode cX5_holdsQuick 14 = .ok (.sipush 200, 3) := by decide +kernel
theorem dX5_holdsQuick_17 : decode cX5_holdsQuick 17 = .ok (.if_icmp .gt 96, 3) := by decide +kernel
theorem dX5_holdsQuick_20 : decode cX5_holdsQuick 20 = .ok (.iload_n 2, 1) := by decide +kernel
theorem dX5_holdsQuick_21 : decode cX5_holdsQuick 21 = .ok (.iconst (-1), 1) := by decide +kernel
theorem dX5_holdsQuick_22 : decode cX5_holdsQuick 22 = .ok (.if_icmp .ne 12, 3) := by decide +kernel
theorem dX5_holdsQuick_25 : decode cX5_holdsQuick 25 = .ok (.aload_n 0, 1) := by decide +kernel
theorem dX5_holdsQuick_26 : decode cX5_holdsQuick 26 = .ok (.iload_n 1, 1) := by decide +kernel
theorem dX5_holdsQuick_27 : decode cX5_holdsQuick 27 = .ok (.iload_n 3, 1) := by decide +kernel
theorem dX5_holdsQuick_28 : decode cX5_holdsQuick 28 = .ok (.invokevirtual 263, 3) := by decide +kernel
theorem dX5_holdsQuick_31 : decode cX5_holdsQuick 31 = .ok (.goto 6, 3) := by decide +kernel
theorem dX5_holdsQuick_34 : decode cX5_holdsQuick 34 = .ok (.iload_n 2, 1) := by decide +kernel
theorem dX5_holdsQuick_35 : decode cX5_holdsQuick 35 = .ok (.iconst 1, 1) := by decide +kernel
theorem dX5_holdsQuick_36 : decode cX5_holdsQuick 36 = .ok (.iadd, 1) := by decide +kernel
theorem dX5_holdsQuick_37 : decode cX5_holdsQuick 37 = .ok (.aload_n 0, 1) := by decide +kernel
theorem dX5_holdsQuick_38 : decode cX5_holdsQuick 38 = .ok (.getfield 44, 3) := by decide +kernel
theorem dX5_holdsQuick_41 : decode cX5_holdsQuick 41 = .ok (.iload_n 1, 1) := by decide +kernel
theorem dX5_holdsQuick_42 : decode cX5_holdsQuick 42 = .ok (.iaload, 1) := by decide +kernel
theorem dX5_holdsQuick_43 : decode cX5_holdsQuick 43 = .ok (.imul, 1) := by decide +kernel
theorem dX5_holdsQuick_44 : decode cX5_holdsQuick 44 = .ok (.istore 5, 2) := by decide +kernel
theorem dX5_holdsQuick_46 : decode cX5_holdsQuick 46 = .ok (.iconst 0, 1) := by decide +kernel
theorem dX5_holdsQuick_47 : decode cX5_holdsQuick 47 = .ok (.istore 6, 2) := by decide +kernel
theorem dX5_holdsQuick_49 : decode cX5_holdsQuick 49 = .ok (.iload 6, 2) := by decide +kernel
theorem dX5_holdsQuick_51 : decode cX5_holdsQuick 51 = .ok (.bipush 9, 2) := by decide +kernel
theorem dX5_holdsQuick_53 : decode cX5_holdsQuick 53 = .ok (.if_icmp .ge 43, 3) := by decide +kernel
theorem dX5_holdsQuick_56 : decode cX5_holdsQuick 56 = .ok (.iload 5, 2) := by decide +kernel
theorem dX5_holdsQuick_58 : decode cX5_holdsQuick 58 = .ok (.aload_n 0, 1) := by decide +kernel
theorem dX5_holdsQuick_59 : decode cX5_holdsQuick 59 = .ok (.iload_n 1, 1) := by decide +kernel
theorem dX5_holdsQuick_60 : decode cX5_holdsQuick 60 = .ok (.iload 6, 2) := by decide +kernel
theorem dX5_holdsQuick_62 : decode cX5_holdsQuick 62 = .ok (.invokevirtual 163, 3) := by decide +kernel
theorem dX5_holdsQuick_65 : decode cX5_holdsQuick 65 = .ok (.ifCond .eq 21, 3) := by decide +kernel
theorem dX5_holdsQuick_68 : decode cX5_holdsQuick 68 = .ok (.aload_n 0, 1) := by decide +kernel
theorem dX5_holdsQuick_69 : decode cX5_holdsQuick 69 = .ok (.iload 6, 2) := by decide +kernel
theorem dX5_holdsQuick_71 : decode cX5_holdsQuick 71 = .ok (.iload_n 3, 1) := by decide +kernel
theorem dX5_holdsQuick_72 : decode cX5_holdsQuick 72 = .ok (.invokevirtual 263, 3) := by decide +kernel
theorem dX5_holdsQuick_75 : decode cX5_holdsQuick 75 = .ok (.aload_n 0, 1) := by decide +kernel
theorem dX5_holdsQuick_76 : decode cX5_holdsQuick 76 = .ok (.getfield 44, 3) := by decide +kernel
theorem dX5_holdsQuick_79 : decode cX5_holdsQuick 79 = .ok (.iload 6, 2) := by decide +kernel
theorem dX5_holdsQuick_81 : decode cX5_holdsQuick 81 = .ok (.iaload, 1) := by decide +kernel
theorem dX5_holdsQuick_82 : decode cX5_holdsQuick 82 = .ok (.imul, 1) := by decide +kernel
theorem dX5_holdsQuick_83 : decode cX5_holdsQuick 83 = .ok (.goto 4, 3) := by decide +kernel
theorem dX5_holdsQuick_86 : decode cX5_holdsQuick 86 = .ok (.iconst 0, 1) := by decide +kernel
theorem dX5_holdsQuick_87 : decode cX5_holdsQuick 87 = .ok (.iadd, 1) := by decide +kernel
theorem dX5_holdsQuick_88 : decode cX5_holdsQuick 88 = .ok (.istore 5, 2) := by decide +kernel
theorem dX5_holdsQuick_90 : decode cX5_holdsQuick 90 = .ok (.iinc 6 1, 3) := by decide +kernel
theorem dX5_holdsQuick_93 : decode cX5_holdsQuick 93 = .ok (.goto (-44), 3) := by decide +kernel
theorem dX5_holdsQuick_96 : decode cX5_holdsQuick 96 = .ok (.iload 5, 2) := by decide +kernel
theorem dX5_holdsQuick_98 : decode cX5_holdsQuick 98 = .ok (.iload_n 3, 1) := by decide +kernel
theorem dX5_holdsQuick_99 : decode cX5_holdsQuick 99 = .ok (.if_icmp .ne 5, 3) := by decide +kernel
theorem dX5_holdsQuick_102 : decode cX5_holdsQuick 102 = .ok (.iload_n 3, 1) := by decide +kernel
theorem dX5_holdsQuick_103 : decode cX5_holdsQuick 103 = .ok (.ireturn, 1) := by decide +kernel
theorem dX5_holdsQuick_104 : decode cX5_holdsQuick 104 = .ok (.iload 5, 2) := by decide +kernel
theorem dX5_holdsQuick_106 : decode cX5_holdsQuick 106 = .ok (.istore_n 3, 1) := by decide +kernel
theorem dX5_holdsQuick_107 : decode cX5_holdsQuick 107 = .ok (.iinc 4 1, 3) := by decide +kernel
theorem dX5_holdsQuick_110 : decode cX5_holdsQuick 110 = .ok (.goto (-105), 3) := by decide +kernel
theorem dX5_holdsQuick_113 : decode cX5_holdsQuick 113 = .ok (.iconst (-1), 1) := by decide +kernel
theorem dX5_holdsQuick_114 : decode cX5_holdsQuick 114 = .ok (.ireturn, 1) := by decide +kernel
theorem dX5_quickBy_0 : decode cX5_quickBy 0 = .ok (.aload_n 0, 1) := by decide +kernel
theorem dX5_quickBy_1 : decode cX5_quickBy 1 = .ok (.getfield 232, 3) := by decide +kernel
theorem dX5_quickBy_4 : decode cX5_quickBy 4 = .ok (.ifCond .eq 12, 3) := by decide +kernel
theorem dX5_quickBy_7 : decode cX5_quickBy 7 = .ok (.aload_n 0, 1) := by decide +kernel
theorem dX5_quickBy_8 : decode cX5_quickBy 8 = .ok (.iload_n 1, 1) := by decide +kernel
theorem dX5_quickBy_9 : decode cX5_quickBy 9 = .ok (.iconst (-1), 1) := by decide +kernel
theorem dX5_quickBy_10 : decode cX5_quickBy 10 = .ok (.invokevirtual 266, 3) := by decide +kernel
theorem dX5_quickBy_13 : decode cX5_quickBy 13 = .ok (.goto 4, 3) := by decide +kernel
theorem dX5_quickBy_16 : decode cX5_quickBy 16 = .ok (.iconst (-1), 1) := by decide +kernel
theorem dX5_quickBy_17 : decode cX5_quickBy 17 = .ok (.istore_n 2, 1) := by decide +kernel
theorem dX5_quickBy_18 : decode cX5_quickBy 18 = .ok (.iload_n 2, 1) := by decide +kernel
theorem dX5_quickBy_19 : decode cX5_quickBy 19 = .ok (.iconst (-1), 1) := by decide +kernel
theorem dX5_quickBy_20 : decode cX5_quickBy 20 = .ok (.if_icmp .ne 5, 3) := by decide +kernel
theorem dX5_quickBy_23 : decode cX5_quickBy 23 = .ok (.iconst (-1), 1) := by decide +kernel
theorem dX5_quickBy_24 : decode cX5_quickBy 24 = .ok (.ireturn, 1) := by decide +kernel
theorem dX5_quickBy_25 : decode cX5_quickBy 25 = .ok (.iconst (-1), 1) := by decide +kernel
theorem dX5_quickBy_26 : decode cX5_quickBy 26 = .ok (.istore_n 3, 1) := by decide +kernel
theorem dX5_quickBy_27 : decode cX5_quickBy 27 = .ok (.aload_n 0, 1) := by decide +kernel
theorem dX5_quickBy_28 : decode cX5_quickBy 28 = .ok (.iload_n 1, 1) := by decide +kernel
theorem dX5_quickBy_29 : decode cX5_quickBy 29 = .ok (.iload_n 2, 1) := by decide +kernel
theorem dX5_quickBy_30 : decode cX5_quickBy 30 = .ok (.invokevirtual 263, 3) := by decide +kernel
theorem dX5_quickBy_33 : decode cX5_quickBy 33 = .ok (.istore 4, 2) := by decide +kernel
theorem dX5_quickBy_35 : decode cX5_quickBy 35 = .ok (.iconst 0, 1) := by decide +kernel
theorem dX5_quickBy_36 : decode cX5_quickBy 36 = .ok (.istore 5, 2) := by decide +kernel
theorem dX5_quickBy_38 : decode cX5_quickBy 38 = .ok (.iload 5, 2) := by decide +kernel
theorem dX5_quickBy_40 : decode cX5_quickBy 40 = .ok (.iload 4, 2) := by decide +kernel
theorem dX5_quickBy_42 : decode cX5_quickBy 42 = .ok (.if_icmp .ge 58, 3) := by decide +kernel
theorem dX5_quickBy_45 : decode cX5_quickBy 45 = .ok (.aload_n 0, 1) := by decide +kernel
theorem dX5_quickBy_46 : decode cX5_quickBy 46 = .ok (.iload_n 1, 1) := by decide +kernel
theorem dX5_quickBy_47 : decode cX5_quickBy 47 = .ok (.iload 5, 2) := by decide +kernel
theorem dX5_quickBy_49 : decode cX5_quickBy 49 = .ok (.invokevirtual 266, 3) := by decide +kernel
theorem dX5_quickBy_52 : decode cX5_quickBy 52 = .ok (.istore 6, 2) := by decide +kernel
theorem dX5_quickBy_54 : decode cX5_quickBy 54 = .ok (.iload 6, 2) := by decide +kernel
theorem dX5_quickBy_56 : decode cX5_quickBy 56 = .ok (.iconst (-1), 1) := by decide +kernel
theorem dX5_quickBy_57 : decode cX5_quickBy 57 = .ok (.if_icmp .ne 5, 3) := by decide +kernel
theorem dX5_quickBy_60 : decode cX5_quickBy 60 = .ok (.iconst (-1), 1) := by decide +kernel
theorem dX5_quickBy_61 : decode cX5_quickBy 61 = .ok (.ireturn, 1) := by decide +kernel
theorem dX5_quickBy_62 : decode cX5_quickBy 62 = .ok (.iload_n 3, 1) := by decide +kernel
theorem dX5_quickBy_63 : decode cX5_quickBy 63 = .ok (.iload 6, 2) := by decide +kernel
theorem dX5_quickBy_65 : decode cX5_quickBy 65 = .ok (.aload_n 0, 1) := by decide +kernel
theorem dX5_quickBy_66 : decode cX5_quickBy 66 = .ok (.getfield 23, 3) := by decide +kernel
theorem dX5_quickBy_69 : decode cX5_quickBy 69 = .ok (.iload_n 1, 1) := by decide +kernel
theorem dX5_quickBy_70 : decode cX5_quickBy 70 = .ok (.iconst 3, 1) := by decide +kernel
theorem dX5_quickBy_71 : decode cX5_quickBy 71 = .ok (.idiv, 1) := by decide +kernel
theorem dX5_quickBy_72 : decode cX5_quickBy 72 = .ok (.iaload, 1) := by decide +kernel
theorem dX5_quickBy_73 : decode cX5_quickBy 73 = .ok (.iload 5, 2) := by decide +kernel
theorem dX5_quickBy_75 : decode cX5_quickBy 75 = .ok (.imul, 1) := by decide +kernel
theorem dX5_quickBy_76 : decode cX5_quickBy 76 = .ok (.isub, 1) := by decide +kernel
theorem dX5_quickBy_77 : decode cX5_quickBy 77 = .ok (.aload_n 0, 1) := by decide +kernel
theorem dX5_quickBy_78 : decode cX5_quickBy 78 = .ok (.getfield 53, 3) := by decide +kernel
theorem dX5_quickBy_81 : decode cX5_quickBy 81 = .ok (.iload_n 1, 1) := by decide +kernel
theorem dX5_quickBy_82 : decode cX5_quickBy 82 = .ok (.iaload, 1) := by decide +kernel
theorem dX5_quickBy_83 : decode cX5_quickBy 83 = .ok (.iadd, 1) := by decide +kernel
theorem dX5_quickBy_84 : decode cX5_quickBy 84 = .ok (.aload_n 0, 1) := by decide +kernel
theorem dX5_quickBy_85 : decode cX5_quickBy 85 = .ok (.iload_n 1, 1) := by decide +kernel
theorem dX5_quickBy_86 : decode cX5_quickBy 86 = .ok (.invokevirtual 183, 3) := by decide +kernel
theorem dX5_quickBy_89 : decode cX5_quickBy 89 = .ok (.iadd, 1) := by decide +kernel
theorem dX5_quickBy_90 : decode cX5_quickBy 90 = .ok (.invokestatic 198, 3) := by decide +kernel
theorem dX5_quickBy_93 : decode cX5_quickBy 93 = .ok (.istore_n 3, 1) := by decide +kernel
theorem dX5_quickBy_94 : decode cX5_quickBy 94 = .ok (.iinc 5 1, 3) := by decide +kernel
theorem dX5_quickBy_97 : decode cX5_quickBy 97 = .ok (.goto (-59), 3) := by decide +kernel
theorem dX5_quickBy_100 : decode cX5_quickBy 100 = .ok (.iload_n 3, 1) := by decide +kernel
theorem dX5_quickBy_101 : decode cX5_quickBy 101 = .ok (.ireturn, 1) := by decide +kernel
theorem dX5_quick_0 : decode cX5_quick 0 = .ok (.aload_n 0, 1) := by decide +kernel
theorem dX5_quick_1 : decode cX5_quick 1 = .ok (.invokevirtual 248, 3) := by decide +kernel
theorem dX5_quick_4 : decode cX5_quick 4 = .ok (.aload_n 0, 1) := by decide +kernel
theorem dX5_quick_5 : decode cX5_quick 5 = .ok (.iload_n 1, 1) := by decide +kernel
theorem dX5_quick_6 : decode cX5_quick 6 = .ok (.iload_n 2, 1) := by decide +kernel
theorem dX5_quick_7 : decode cX5_quick 7 = .ok (.invokevirtual 154, 3) := by decide +kernel
theorem dX5_quick_10 : decode cX5_quick 10 = .ok (.ifCond .eq 15, 3) := by decide +kernel
theorem dX5_quick_13 : decode cX5_quick 13 = .ok (.aload_n 0, 1) := by decide +kernel
theorem dX5_quick_14 : decode cX5_quick 14 = .ok (.iconst 3, 1) := by decide +kernel
theorem dX5_quick_15 : decode cX5_quick 15 = .ok (.iload_n 1, 1) := by decide +kernel
theorem dX5_quick_16 : decode cX5_quick 16 = .ok (.imul, 1) := by decide +kernel
theorem dX5_quick_17 : decode cX5_quick 17 = .ok (.iload_n 2, 1) := by decide +kernel
theorem dX5_quick_18 : decode cX5_quick 18 = .ok (.iadd, 1) := by decide +kernel
theorem dX5_quick_19 : decode cX5_quick 19 = .ok (.invokevirtual 269, 3) := by decide +kernel
theorem dX5_quick_22 : decode cX5_quick 22 = .ok (.goto 5, 3) := by decide +kernel
theorem dX5_quick_25 : decode cX5_quick 25 = .ok (.bipush (-2), 2) := by decide +kernel
theorem dX5_quick_27 : decode cX5_quick 27 = .ok (.ireturn, 1) := by decide +kernel
theorem dX5_roundsNow_0 : decode cX5_roundsNow 0 = .ok (.aload_n 0, 1) := by decide +kernel
theorem dX5_roundsNow_1 : decode cX5_roundsNow 1 = .ok (.getfield 232, 3) := by decide +kernel
theorem dX5_roundsNow_4 : decode cX5_roundsNow 4 = .ok (.ifCond .eq 10, 3) := by decide +kernel
theorem dX5_roundsNow_7 : decode cX5_roundsNow 7 = .ok (.aload_n 0, 1) := by decide +kernel
theorem dX5_roundsNow_8 : decode cX5_roundsNow 8 = .ok (.getfield 240, 3) := by decide +kernel
theorem dX5_roundsNow_11 : decode cX5_roundsNow 11 = .ok (.goto 4, 3) := by decide +kernel
theorem dX5_roundsNow_14 : decode cX5_roundsNow 14 = .ok (.iconst (-1), 1) := by decide +kernel
theorem dX5_roundsNow_15 : decode cX5_roundsNow 15 = .ok (.ireturn, 1) := by decide +kernel
theorem dX5_rounds_0 : decode cX5_rounds 0 = .ok (.aload_n 0, 1) := by decide +kernel
theorem dX5_rounds_1 : decode cX5_rounds 1 = .ok (.invokevirtual 248, 3) := by decide +kernel
theorem dX5_rounds_4 : decode cX5_rounds 4 = .ok (.aload_n 0, 1) := by decide +kernel
theorem dX5_rounds_5 : decode cX5_rounds 5 = .ok (.invokevirtual 272, 3) := by decide +kernel
theorem dX5_rounds_8 : decode cX5_rounds 8 = .ok (.ireturn, 1) := by decide +kernel
theorem dX5_worstBy_0 : decode cX5_worstBy 0 = .ok (.aload_n 0, 1) := by decide +kernel
theorem dX5_worstBy_1 : decode cX5_worstBy 1 = .ok (.getfield 232, 3) := by decide +kernel
theorem dX5_worstBy_4 : decode cX5_worstBy 4 = .ok (.ifCond .ne 7, 3) := by decide +kernel
theorem dX5_worstBy_7 : decode cX5_worstBy 7 = .ok (.iconst (-1), 1) := by decide +kernel
theorem dX5_worstBy_8 : decode cX5_worstBy 8 = .ok (.goto 36, 3) := by decide +kernel
theorem dX5_worstBy_11 : decode cX5_worstBy 11 = .ok (.iload_n 2, 1) := by decide +kernel
theorem dX5_worstBy_12 : decode cX5_worstBy 12 = .ok (.ifCond .ne 12, 3) := by decide +kernel
theorem dX5_worstBy_15 : decode cX5_worstBy 15 = .ok (.aload_n 0, 1) := by decide +kernel
theorem dX5_worstBy_16 : decode cX5_worstBy 16 = .ok (.getfield 62, 3) := by decide +kernel
theorem dX5_worstBy_19 : decode cX5_worstBy 19 = .ok (.iload_n 1, 1) := by decide +kernel
theorem dX5_worstBy_20 : decode cX5_worstBy 20 = .ok (.iaload, 1) := by decide +kernel
theorem dX5_worstBy_21 : decode cX5_worstBy 21 = .ok (.goto 23, 3) := by decide +kernel
theorem dX5_worstBy_24 : decode cX5_worstBy 24 = .ok (.iload_n 2, 1) := by decide +kernel
theorem dX5_worstBy_25 : decode cX5_worstBy 25 = .ok (.iconst 1, 1) := by decide +kernel
theorem dX5_worstBy_26 : decode cX5_worstBy 26 = .ok (.if_icmp .ne 12, 3) := by decide +kernel
theorem dX5_worstBy_29 : decode cX5_worstBy 29 = .ok (.aload_n 0, 1) := by decide +kernel
theorem dX5_worstBy_30 : decode cX5_worstBy 30 = .ok (.getfield 65, 3) := by decide +kernel
theorem dX5_worstBy_33 : decode cX5_worstBy 33 = .ok (.iload_n 1, 1) := by decide +kernel
theorem dX5_worstBy_34 : decode cX5_worstBy 34 = .ok (.iaload, 1) := by decide +kernel
theorem dX5_worstBy_35 : decode cX5_worstBy 35 = .ok (.goto 9, 3) := by decide +kernel
theorem dX5_worstBy_38 : decode cX5_worstBy 38 = .ok (.aload_n 0, 1) := by decide +kernel
theorem dX5_worstBy_39 : decode cX5_worstBy 39 = .ok (.getfield 68, 3) := by decide +kernel
theorem dX5_worstBy_42 : decode cX5_worstBy 42 = .ok (.iload_n 1, 1) := by decide +kernel
theorem dX5_worstBy_43 : decode cX5_worstBy 43 = .ok (.iaload, 1) := by decide +kernel
theorem dX5_worstBy_44 : decode cX5_worstBy 44 = .ok (.ireturn, 1) := by decide +kernel
theorem dX5_worst_0 : decode cX5_worst 0 = .ok (.aload_n 0, 1) := by decide +kernel
theorem dX5_worst_1 : decode cX5_worst 1 = .ok (.invokevirtual 248, 3) := by decide +kernel
theorem dX5_worst_4 : decode cX5_worst 4 = .ok (.aload_n 0, 1) := by decide +kernel
theorem dX5_worst_5 : decode cX5_worst 5 = .ok (.iload_n 1, 1) := by decide +kernel
theorem dX5_worst_6 : decode cX5_worst 6 = .ok (.iload_n 2, 1) := by decide +kernel
theorem dX5_worst_7 : decode cX5_worst 7 = .ok (.invokevirtual 154, 3) := by decide +kernel
theorem dX5_worst_10 : decode cX5_worst 10 = .ok (.ifCond .eq 28, 3) := by decide +kernel
theorem dX5_worst_13 : decode cX5_worst 13 = .ok (.iload_n 3, 1) := by decide +kernel
theorem dX5_worst_14 : decode cX5_worst 14 = .ok (.i2l, 1) := by decide +kernel
theorem dX5_worst_15 : decode cX5_worst 15 = .ok (.lconst 0, 1) := by decide +kernel
theorem dX5_worst_16 : decode cX5_worst 16 = .ok (.ldc2_w 105, 3) := by decide +kernel
theorem dX5_worst_19 : decode cX5_worst 19 = .ok (.invokestatic 89, 3) := by decide +kernel
theorem dX5_worst_22 : decode cX5_worst 22 = .ok (.ifCond .eq 16, 3) := by decide +kernel
theorem dX5_worst_25 : decode cX5_worst 25 = .ok (.aload_n 0, 1) := by decide +kernel
theorem dX5_worst_26 : decode cX5_worst 26 = .ok (.iconst 3, 1) := by decide +kernel
theorem dX5_worst_27 : decode cX5_worst 27 = .ok (.iload_n 1, 1) := by decide +kernel
theorem dX5_worst_28 : decode cX5_worst 28 = .ok (.imul, 1) := by decide +kernel
theorem dX5_worst_29 : decode cX5_worst 29 = .ok (.iload_n 2, 1) := by decide +kernel
theorem dX5_worst_30 : decode cX5_worst 30 = .ok (.iadd, 1) := by decide +kernel
theorem dX5_worst_31 : decode cX5_worst 31 = .ok (.iload_n 3, 1) := by decide +kernel
theorem dX5_worst_32 : decode cX5_worst 32 = .ok (.invokevirtual 276, 3) := by decide +kernel
theorem dX5_worst_35 : decode cX5_worst 35 = .ok (.goto 5, 3) := by decide +kernel
theorem dX5_worst_38 : decode cX5_worst 38 = .ok (.bipush (-2), 2) := by decide +kernel
theorem dX5_worst_40 : decode cX5_worst 40 = .ok (.ireturn, 1) := by decide +kernel
theorem dX5_isAsked_0 : decode cX5_isAsked 0 = .ok (.aload_n 0, 1) := by decide +kernel
theorem dX5_isAsked_1 : decode cX5_isAsked 1 = .ok (.getfield 38, 3) := by decide +kernel
theorem dX5_isAsked_4 : decode cX5_isAsked 4 = .ok (.iload_n 1, 1) := by decide +kernel
theorem dX5_isAsked_5 : decode cX5_isAsked 5 = .ok (.iaload, 1) := by decide +kernel
theorem dX5_isAsked_6 : decode cX5_isAsked 6 = .ok (.ifCond .le 16, 3) := by decide +kernel
theorem dX5_isAsked_9 : decode cX5_isAsked 9 = .ok (.aload_n 0, 1) := by decide +kernel
theorem dX5_isAsked_10 : decode cX5_isAsked 10 = .ok (.getfield 29, 3) := by decide +kernel
theorem dX5_isAsked_13 : decode cX5_isAsked 13 = .ok (.iload_n 1, 1) := by decide +kernel
theorem dX5_isAsked_14 : decode cX5_isAsked 14 = .ok (.iaload, 1) := by decide +kernel
theorem dX5_isAsked_15 : decode cX5_isAsked 15 = .ok (.ifCond .le 7, 3) := by decide +kernel
theorem dX5_isAsked_18 : decode cX5_isAsked 18 = .ok (.iconst 1, 1) := by decide +kernel
theorem dX5_isAsked_19 : decode cX5_isAsked 19 = .ok (.goto 4, 3) := by decide +kernel
theorem dX5_isAsked_22 : decode cX5_isAsked 22 = .ok (.iconst 0, 1) := by decide +kernel
theorem dX5_isAsked_23 : decode cX5_isAsked 23 = .ok (.ireturn, 1) := by decide +kernel
theorem dX5_isMet_0 : decode cX5_isMet 0 = .ok (.aload_n 0, 1) := by decide +kernel
theorem dX5_isMet_1 : decode cX5_isMet 1 = .ok (.iload_n 1, 1) := by decide +kernel
theorem dX5_isMet_2 : decode cX5_isMet 2 = .ok (.invokevirtual 279, 3) := by decide +kernel
theorem dX5_isMet_5 : decode cX5_isMet 5 = .ok (.ifCond .eq 40, 3) := by decide +kernel
theorem dX5_isMet_8 : decode cX5_isMet 8 = .ok (.aload_n 0, 1) := by decide +kernel
theorem dX5_isMet_9 : decode cX5_isMet 9 = .ok (.getfield 232, 3) := by decide +kernel
theorem dX5_isMet_12 : decode cX5_isMet 12 = .ok (.ifCond .eq 33, 3) := by decide +kernel
theorem dX5_isMet_15 : decode cX5_isMet 15 = .ok (.aload_n 0, 1) := by decide +kernel
theorem dX5_isMet_16 : decode cX5_isMet 16 = .ok (.getfield 59, 3) := by decide +kernel
theorem dX5_isMet_19 : decode cX5_isMet 19 = .ok (.iconst 3, 1) := by decide +kernel
theorem dX5_isMet_20 : decode cX5_isMet 20 = .ok (.iload_n 1, 1) := by decide +kernel
theorem dX5_isMet_21 : decode cX5_isMet 21 = .ok (.imul, 1) := by decide +kernel
theorem dX5_isMet_22 : decode cX5_isMet 22 = .ok (.aload_n 0, 1) := by decide +kernel
theorem dX5_isMet_23 : decode cX5_isMet 23 = .ok (.getfield 38, 3) := by decide +kernel
theorem dX5_isMet_26 : decode cX5_isMet 26 = .ok (.iload_n 1, 1) := by decide +kernel
theorem dX5_isMet_27 : decode cX5_isMet 27 = .ok (.iaload, 1) := by decide +kernel
theorem dX5_isMet_28 : decode cX5_isMet 28 = .ok (.iadd, 1) := by decide +kernel
theorem dX5_isMet_29 : decode cX5_isMet 29 = .ok (.iconst 1, 1) := by decide +kernel
theorem dX5_isMet_30 : decode cX5_isMet 30 = .ok (.isub, 1) := by decide +kernel
theorem dX5_isMet_31 : decode cX5_isMet 31 = .ok (.iaload, 1) := by decide +kernel
theorem dX5_isMet_32 : decode cX5_isMet 32 = .ok (.aload_n 0, 1) := by decide +kernel
theorem dX5_isMet_33 : decode cX5_isMet 33 = .ok (.getfield 29, 3) := by decide +kernel
theorem dX5_isMet_36 : decode cX5_isMet 36 = .ok (.iload_n 1, 1) := by decide +kernel
theorem dX5_isMet_37 : decode cX5_isMet 37 = .ok (.iaload, 1) := by decide +kernel
theorem dX5_isMet_38 : decode cX5_isMet 38 = .ok (.if_icmp .gt 7, 3) := by decide +kernel
theorem dX5_isMet_41 : decode cX5_isMet 41 = .ok (.iconst 1, 1) := by decide +kernel
theorem dX5_isMet_42 : decode cX5_isMet 42 = .ok (.goto 4, 3) := by decide +kernel
theorem dX5_isMet_45 : decode cX5_isMet 45 = .ok (.iconst 0, 1) := by decide +kernel
theorem dX5_isMet_46 : decode cX5_isMet 46 = .ok (.ireturn, 1) := by decide +kernel
theorem dX5_meetsNow_0 : decode cX5_meetsNow 0 = .ok (.iconst 0, 1) := by decide +kernel
theorem dX5_meetsNow_1 : decode cX5_meetsNow 1 = .ok (.istore_n 1, 1) := by decide +kernel
theorem dX5_meetsNow_2 : decode cX5_meetsNow 2 = .ok (.iconst 0, 1) := by decide +kernel
theorem dX5_meetsNow_3 : decode cX5_meetsNow 3 = .ok (.istore_n 2, 1) := by decide +kernel
theorem dX5_meetsNow_4 : decode cX5_meetsNow 4 = .ok (.iload_n 2, 1) := by decide +kernel
theorem dX5_meetsNow_5 : decode cX5_meetsNow 5 = .ok (.iconst 3, 1) := by decide +kernel
theorem dX5_meetsNow_6 : decode cX5_meetsNow 6 = .ok (.if_icmp .ge 27, 3) := by decide +kernel
theorem dX5_meetsNow_9 : decode cX5_meetsNow 9 = .ok (.iload_n 1, 1) := by decide +kernel
theorem dX5_meetsNow_10 : decode cX5_meetsNow 10 = .ok (.aload_n 0, 1) := by decide +kernel
theorem dX5_meetsNow_11 : decode cX5_meetsNow 11 = .ok (.iload_n 2, 1) := by decide +kernel
theorem dX5_meetsNow_12 : decode cX5_meetsNow 12 = .ok (.invokevirtual 282, 3) := by decide +kernel
theorem dX5_meetsNow_15 : decode cX5_meetsNow 15 = .ok (.ifCond .eq 9, 3) := by decide +kernel
theorem dX5_meetsNow_18 : decode cX5_meetsNow 18 = .ok (.iconst 1, 1) := by decide +kernel
theorem dX5_meetsNow_19 : decode cX5_meetsNow 19 = .ok (.iload_n 2, 1) := by decide +kernel
theorem dX5_meetsNow_20 : decode cX5_meetsNow 20 = .ok (.ishl, 1) := by decide +kernel
theorem dX5_meetsNow_21 : decode cX5_meetsNow 21 = .ok (.goto 4, 3) := by decide +kernel
theorem dX5_meetsNow_24 : decode cX5_meetsNow 24 = .ok (.iconst 0, 1) := by decide +kernel
theorem dX5_meetsNow_25 : decode cX5_meetsNow 25 = .ok (.ior, 1) := by decide +kernel
theorem dX5_meetsNow_26 : decode cX5_meetsNow 26 = .ok (.istore_n 1, 1) := by decide +kernel
theorem dX5_meetsNow_27 : decode cX5_meetsNow 27 = .ok (.iinc 2 1, 3) := by decide +kernel
theorem dX5_meetsNow_30 : decode cX5_meetsNow 30 = .ok (.goto (-26), 3) := by decide +kernel
theorem dX5_meetsNow_33 : decode cX5_meetsNow 33 = .ok (.iload_n 1, 1) := by decide +kernel
theorem dX5_meetsNow_34 : decode cX5_meetsNow 34 = .ok (.ireturn, 1) := by decide +kernel
theorem dX5_meets_0 : decode cX5_meets 0 = .ok (.aload_n 0, 1) := by decide +kernel
theorem dX5_meets_1 : decode cX5_meets 1 = .ok (.invokevirtual 248, 3) := by decide +kernel
theorem dX5_meets_4 : decode cX5_meets 4 = .ok (.aload_n 0, 1) := by decide +kernel
theorem dX5_meets_5 : decode cX5_meets 5 = .ok (.invokevirtual 285, 3) := by decide +kernel
theorem dX5_meets_8 : decode cX5_meets 8 = .ok (.ireturn, 1) := by decide +kernel
theorem dX5_allMeet_0 : decode cX5_allMeet 0 = .ok (.iconst 1, 1) := by decide +kernel
theorem dX5_allMeet_1 : decode cX5_allMeet 1 = .ok (.istore_n 1, 1) := by decide +kernel
theorem dX5_allMeet_2 : decode cX5_allMeet 2 = .ok (.iconst 0, 1) := by decide +kernel
theorem dX5_allMeet_3 : decode cX5_allMeet 3 = .ok (.istore_n 2, 1) := by decide +kernel
theorem dX5_allMeet_4 : decode cX5_allMeet 4 = .ok (.iload_n 2, 1) := by decide +kernel
theorem dX5_allMeet_5 : decode cX5_allMeet 5 = .ok (.iconst 3, 1) := by decide +kernel
theorem dX5_allMeet_6 : decode cX5_allMeet 6 = .ok (.if_icmp .ge 35, 3) := by decide +kernel
theorem dX5_allMeet_9 : decode cX5_allMeet 9 = .ok (.iload_n 1, 1) := by decide +kernel
theorem dX5_allMeet_10 : decode cX5_allMeet 10 = .ok (.ifCond .eq 23, 3) := by decide +kernel
theorem dX5_allMeet_13 : decode cX5_allMeet 13 = .ok (.aload_n 0, 1) := by decide +kernel
theorem dX5_allMeet_14 : decode cX5_allMeet 14 = .ok (.iload_n 2, 1) := by decide +kernel
theorem dX5_allMeet_15 : decode cX5_allMeet 15 = .ok (.invokevirtual 279, 3) := by decide +kernel
theorem dX5_allMeet_18 : decode cX5_allMeet 18 = .ok (.ifCond .eq 11, 3) := by decide +kernel
theorem dX5_allMeet_21 : decode cX5_allMeet 21 = .ok (.aload_n 0, 1) := by decide +kernel
theorem dX5_allMeet_22 : decode cX5_allMeet 22 = .ok (.iload_n 2, 1) := by decide +kernel
theorem dX5_allMeet_23 : decode cX5_allMeet 23 = .ok (.invokevirtual 282, 3) := by decide +kernel
theorem dX5_allMeet_26 : decode cX5_allMeet 26 = .ok (.ifCond .eq 7, 3) := by decide +kernel
theorem dX5_allMeet_29 : decode cX5_allMeet 29 = .ok (.iconst 1, 1) := by decide +kernel
theorem dX5_allMeet_30 : decode cX5_allMeet 30 = .ok (.goto 4, 3) := by decide +kernel
theorem dX5_allMeet_33 : decode cX5_allMeet 33 = .ok (.iconst 0, 1) := by decide +kernel
theorem dX5_allMeet_34 : decode cX5_allMeet 34 = .ok (.istore_n 1, 1) := by decide +kernel
theorem dX5_allMeet_35 : decode cX5_allMeet 35 = .ok (.iinc 2 1, 3) := by decide +kernel
theorem dX5_allMeet_38 : decode cX5_allMeet 38 = .ok (.goto (-34), 3) := by decide +kernel
theorem dX5_allMeet_41 : decode cX5_allMeet 41 = .ok (.iload_n 1, 1) := by decide +kernel
theorem dX5_allMeet_42 : decode cX5_allMeet 42 = .ok (.ireturn, 1) := by decide +kernel
theorem dX5_marginBy_0 : decode cX5_marginBy 0 = .ok (.aload_n 0, 1) := by decide +kernel
theorem dX5_marginBy_1 : decode cX5_marginBy 1 = .ok (.getfield 44, 3) := by decide +kernel
theorem dX5_marginBy_4 : decode cX5_marginBy 4 = .ok (.iload_n 1, 1) := by decide +kernel
theorem dX5_marginBy_5 : decode cX5_marginBy 5 = .ok (.iaload, 1) := by decide +kernel
theorem dX5_marginBy_6 : decode cX5_marginBy 6 = .ok (.istore_n 2, 1) := by decide +kernel
theorem dX5_marginBy_7 : decode cX5_marginBy 7 = .ok (.iconst (-1), 1) := by decide +kernel
theorem dX5_marginBy_8 : decode cX5_marginBy 8 = .ok (.istore_n 3, 1) := by decide +kernel
theorem dX5_marginBy_9 : decode cX5_marginBy 9 = .ok (.iconst 0, 1) := by decide +kernel
theorem dX5_marginBy_10 : decode cX5_marginBy 10 = .ok (.istore 4, 2) := by decide +kernel
theorem dX5_marginBy_12 : decode cX5_marginBy 12 = .ok (.iload 4, 2) := by decide +kernel
theorem dX5_marginBy_14 : decode cX5_marginBy 14 = .ok (.bipush 8, 2) := by decide +kernel
theorem dX5_marginBy_16 : decode cX5_marginBy 16 = .ok (.if_icmp .gt 37, 3) := by decide +kernel
theorem dX5_marginBy_19 : decode cX5_marginBy 19 = .ok (.aload_n 0, 1) := by decide +kernel
theorem dX5_marginBy_20 : decode cX5_marginBy 20 = .ok (.getfield 44, 3) := by decide +kernel
theorem dX5_marginBy_23 : decode cX5_marginBy 23 = .ok (.iload_n 1, 1) := by decide +kernel
theorem dX5_marginBy_24 : decode cX5_marginBy 24 = .ok (.iload_n 2, 1) := by decide +kernel
theorem dX5_marginBy_25 : decode cX5_marginBy 25 = .ok (.iload 4, 2) := by decide +kernel
theorem dX5_marginBy_27 : decode cX5_marginBy 27 = .ok (.iadd, 1) := by decide +kernel
theorem dX5_marginBy_28 : decode cX5_marginBy 28 = .ok (.iastore, 1) := by decide +kernel
theorem dX5_marginBy_29 : decode cX5_marginBy 29 = .ok (.aload_n 0, 1) := by decide +kernel
theorem dX5_marginBy_30 : decode cX5_marginBy 30 = .ok (.invokevirtual 248, 3) := by decide +kernel
theorem dX5_marginBy_33 : decode cX5_marginBy 33 = .ok (.aload_n 0, 1) := by decide +kernel
theorem dX5_marginBy_34 : decode cX5_marginBy 34 = .ok (.invokevirtual 288, 3) := by decide +kernel
theorem dX5_marginBy_37 : decode cX5_marginBy 37 = .ok (.ifCond .eq 8, 3) := by decide +kernel
theorem dX5_marginBy_40 : decode cX5_marginBy 40 = .ok (.iload 4, 2) := by decide +kernel
theorem dX5_marginBy_42 : decode cX5_marginBy 42 = .ok (.goto 4, 3) := by decide +kernel
theorem dX5_marginBy_45 : decode cX5_marginBy 45 = .ok (.iload_n 3, 1) := by decide +kernel
theorem dX5_marginBy_46 : decode cX5_marginBy 46 = .ok (.istore_n 3, 1) := by decide +kernel
theorem dX5_marginBy_47 : decode cX5_marginBy 47 = .ok (.iinc 4 1, 3) := by decide +kernel
theorem dX5_marginBy_50 : decode cX5_marginBy 50 = .ok (.goto (-38), 3) := by decide +kernel
theorem dX5_marginBy_53 : decode cX5_marginBy 53 = .ok (.aload_n 0, 1) := by decide +kernel
theorem dX5_marginBy_54 : decode cX5_marginBy 54 = .ok (.getfield 44, 3) := by decide +kernel
theorem dX5_marginBy_57 : decode cX5_marginBy 57 = .ok (.iload_n 1, 1) := by decide +kernel
theorem dX5_marginBy_58 : decode cX5_marginBy 58 = .ok (.iload_n 2, 1) := by decide +kernel
theorem dX5_marginBy_59 : decode cX5_marginBy 59 = .ok (.iastore, 1) := by decide +kernel
theorem dX5_marginBy_60 : decode cX5_marginBy 60 = .ok (.iload_n 3, 1) := by decide +kernel
theorem dX5_marginBy_61 : decode cX5_marginBy 61 = .ok (.ireturn, 1) := by decide +kernel
theorem dX5_margin_0 : decode cX5_margin 0 = .ok (.aload_n 0, 1) := by decide +kernel
theorem dX5_margin_1 : decode cX5_margin 1 = .ok (.iload_n 1, 1) := by decide +kernel
theorem dX5_margin_2 : decode cX5_margin 2 = .ok (.iload_n 2, 1) := by decide +kernel
theorem dX5_margin_3 : decode cX5_margin 3 = .ok (.invokevirtual 154, 3) := by decide +kernel
theorem dX5_margin_6 : decode cX5_margin 6 = .ok (.ifCond .eq 15, 3) := by decide +kernel
theorem dX5_margin_9 : decode cX5_margin 9 = .ok (.aload_n 0, 1) := by decide +kernel
theorem dX5_margin_10 : decode cX5_margin 10 = .ok (.iconst 3, 1) := by decide +kernel
theorem dX5_margin_11 : decode cX5_margin 11 = .ok (.iload_n 1, 1) := by decide +kernel
theorem dX5_margin_12 : decode cX5_margin 12 = .ok (.imul, 1) := by decide +kernel
theorem dX5_margin_13 : decode cX5_margin 13 = .ok (.iload_n 2, 1) := by decide +kernel
theorem dX5_margin_14 : decode cX5_margin 14 = .ok (.iadd, 1) := by decide +kernel
theorem dX5_margin_15 : decode cX5_margin 15 = .ok (.invokevirtual 291, 3) := by decide +kernel
theorem dX5_margin_18 : decode cX5_margin 18 = .ok (.goto 5, 3) := by decide +kernel
theorem dX5_margin_21 : decode cX5_margin 21 = .ok (.bipush (-2), 2) := by decide +kernel
theorem dX5_margin_23 : decode cX5_margin 23 = .ok (.ireturn, 1) := by decide +kernel
theorem dX5_betterBy_0 : decode cX5_betterBy 0 = .ok (.aload_n 0, 1) := by decide +kernel
theorem dX5_betterBy_1 : decode cX5_betterBy 1 = .ok (.getfield 47, 3) := by decide +kernel
theorem dX5_betterBy_4 : decode cX5_betterBy 4 = .ok (.iload_n 1, 1) := by decide +kernel
theorem dX5_betterBy_5 : decode cX5_betterBy 5 = .ok (.iaload, 1) := by decide +kernel
theorem dX5_betterBy_6 : decode cX5_betterBy 6 = .ok (.istore_n 3, 1) := by decide +kernel
theorem dX5_betterBy_7 : decode cX5_betterBy 7 = .ok (.iconst (-1), 1) := by decide +kernel
theorem dX5_betterBy_8 : decode cX5_betterBy 8 = .ok (.istore 4, 2) := by decide +kernel
theorem dX5_betterBy_10 : decode cX5_betterBy 10 = .ok (.iconst (-1), 1) := by decide +kernel
theorem dX5_betterBy_11 : decode cX5_betterBy 11 = .ok (.istore 5, 2) := by decide +kernel
theorem dX5_betterBy_13 : decode cX5_betterBy 13 = .ok (.iload_n 1, 1) := by decide +kernel
theorem dX5_betterBy_14 : decode cX5_betterBy 14 = .ok (.iconst 3, 1) := by decide +kernel
theorem dX5_betterBy_15 : decode cX5_betterBy 15 = .ok (.idiv, 1) := by decide +kernel
theorem dX5_betterBy_16 : decode cX5_betterBy 16 = .ok (.iconst 3, 1) := by decide +kernel
theorem dX5_betterBy_17 : decode cX5_betterBy 17 = .ok (.imul, 1) := by decide +kernel
theorem dX5_betterBy_18 : decode cX5_betterBy 18 = .ok (.aload_n 0, 1) := by decide +kernel
theorem dX5_betterBy_19 : decode cX5_betterBy 19 = .ok (.getfield 38, 3) := by decide +kernel
theorem dX5_betterBy_22 : decode cX5_betterBy 22 = .ok (.iload_n 1, 1) := by decide +kernel
theorem dX5_betterBy_23 : decode cX5_betterBy 23 = .ok (.iconst 3, 1) := by decide +kernel
theorem dX5_betterBy_24 : decode cX5_betterBy 24 = .ok (.idiv, 1) := by decide +kernel
theorem dX5_betterBy_25 : decode cX5_betterBy 25 = .ok (.iaload, 1) := by decide +kernel
theorem dX5_betterBy_26 : decode cX5_betterBy 26 = .ok (.iadd, 1) := by decide +kernel
theorem dX5_betterBy_27 : decode cX5_betterBy 27 = .ok (.iconst 1, 1) := by decide +kernel
theorem dX5_betterBy_28 : decode cX5_betterBy 28 = .ok (.isub, 1) := by decide +kernel
theorem dX5_betterBy_29 : decode cX5_betterBy 29 = .ok (.istore 6, 2) := by decide +kernel
theorem dX5_betterBy_31 : decode cX5_betterBy 31 = .ok (.iconst 0, 1) := by decide +kernel
theorem dX5_betterBy_32 : decode cX5_betterBy 32 = .ok (.istore 7, 2) := by decide +kernel
theorem dX5_betterBy_34 : decode cX5_betterBy 34 = .ok (.iload 7, 2) := by decide +kernel
theorem dX5_betterBy_36 : decode cX5_betterBy 36 = .ok (.bipush 9, 2) := by decide +kernel
theorem dX5_betterBy_38 : decode cX5_betterBy 38 = .ok (.if_icmp .gt 86, 3) := by decide +kernel
theorem dX5_betterBy_41 : decode cX5_betterBy 41 = .ok (.aload_n 0, 1) := by decide +kernel
theorem dX5_betterBy_42 : decode cX5_betterBy 42 = .ok (.getfield 47, 3) := by decide +kernel
theorem dX5_betterBy_45 : decode cX5_betterBy 45 = .ok (.iload_n 1, 1) := by decide +kernel
theorem dX5_betterBy_46 : decode cX5_betterBy 46 = .ok (.iload 7, 2) := by decide +kernel
theorem dX5_betterBy_48 : decode cX5_betterBy 48 = .ok (.iastore, 1) := by decide +kernel
theorem dX5_betterBy_49 : decode cX5_betterBy 49 = .ok (.aload_n 0, 1) := by decide +kernel
theorem dX5_betterBy_50 : decode cX5_betterBy 50 = .ok (.invokevirtual 248, 3) := by decide +kernel
theorem dX5_betterBy_53 : decode cX5_betterBy 53 = .ok (.aload_n 0, 1) := by decide +kernel
theorem dX5_betterBy_54 : decode cX5_betterBy 54 = .ok (.getfield 232, 3) := by decide +kernel
theorem dX5_betterBy_57 : decode cX5_betterBy 57 = .ok (.ifCond .eq 25, 3) := by decide +kernel
theorem dX5_betterBy_60 : decode cX5_betterBy 60 = .ok (.iload 4, 2) := by decide +kernel
theorem dX5_betterBy_62 : decode cX5_betterBy 62 = .ok (.iconst (-1), 1) := by decide +kernel
theorem dX5_betterBy_63 : decode cX5_betterBy 63 = .ok (.if_icmp .eq 15, 3) := by decide +kernel
theorem dX5_betterBy_66 : decode cX5_betterBy 66 = .ok (.aload_n 0, 1) := by decide +kernel
theorem dX5_betterBy_67 : decode cX5_betterBy 67 = .ok (.getfield 59, 3) := by decide +kernel
theorem dX5_betterBy_70 : decode cX5_betterBy 70 = .ok (.iload 6, 2) := by decide +kernel
theorem dX5_betterBy_72 : decode cX5_betterBy 72 = .ok (.iaload, 1) := by decide +kernel
theorem dX5_betterBy_73 : decode cX5_betterBy 73 = .ok (.iload 5, 2) := by decide +kernel
theorem dX5_betterBy_75 : decode cX5_betterBy 75 = .ok (.if_icmp .ge 7, 3) := by decide +kernel
theorem dX5_betterBy_78 : decode cX5_betterBy 78 = .ok (.iconst 1, 1) := by decide +kernel
theorem dX5_betterBy_79 : decode cX5_betterBy 79 = .ok (.goto 4, 3) := by decide +kernel
theorem dX5_betterBy_82 : decode cX5_betterBy 82 = .ok (.iconst 0, 1) := by decide +kernel
theorem dX5_betterBy_83 : decode cX5_betterBy 83 = .ok (.istore 8, 2) := by decide +kernel
theorem dX5_betterBy_85 : decode cX5_betterBy 85 = .ok (.iload 8, 2) := by decide +kernel
theorem dX5_betterBy_87 : decode cX5_betterBy 87 = .ok (.ifCond .eq 8, 3) := by decide +kernel
theorem dX5_betterBy_90 : decode cX5_betterBy 90 = .ok (.iload 7, 2) := by decide +kernel
theorem dX5_betterBy_92 : decode cX5_betterBy 92 = .ok (.goto 5, 3) := by decide +kernel
theorem dX5_betterBy_95 : decode cX5_betterBy 95 = .ok (.iload 4, 2) := by decide +kernel
theorem dX5_betterBy_97 : decode cX5_betterBy 97 = .ok (.istore 4, 2) := by decide +kernel
theorem dX5_betterBy_99 : decode cX5_betterBy 99 = .ok (.iload 8, 2) := by decide +kernel
theorem dX5_betterBy_101 : decode cX5_betterBy 101 = .ok (.ifCond .eq 13, 3) := by decide +kernel
theorem dX5_betterBy_104 : decode cX5_betterBy 104 = .ok (.aload_n 0, 1) := by decide +kernel
theorem dX5_betterBy_105 : decode cX5_betterBy 105 = .ok (.getfield 59, 3) := by decide +kernel
theorem dX5_betterBy_108 : decode cX5_betterBy 108 = .ok (.iload 6, 2) := by decide +kernel
theorem dX5_betterBy_110 : decode cX5_betterBy 110 = .ok (.iaload, 1) := by decide +kernel
theorem dX5_betterBy_111 : decode cX5_betterBy 111 = .ok (.goto 5, 3) := by decide +kernel
theorem dX5_betterBy_114 : decode cX5_betterBy 114 = .ok (.iload 5, 2) := by decide +kernel
theorem dX5_betterBy_116 : decode cX5_betterBy 116 = .ok (.istore 5, 2) := by decide +kernel
theorem dX5_betterBy_118 : decode cX5_betterBy 118 = .ok (.iinc 7 1, 3) := by decide +kernel
theorem dX5_betterBy_121 : decode cX5_betterBy 121 = .ok (.goto (-87), 3) := by decide +kernel
theorem dX5_betterBy_124 : decode cX5_betterBy 124 = .ok (.aload_n 0, 1) := by decide +kernel
theorem dX5_betterBy_125 : decode cX5_betterBy 125 = .ok (.getfield 47, 3) := by decide +kernel
theorem dX5_betterBy_128 : decode cX5_betterBy 128 = .ok (.iload_n 1, 1) := by decide +kernel
theorem dX5_betterBy_129 : decode cX5_betterBy 129 = .ok (.iload_n 3, 1) := by decide +kernel
theorem dX5_betterBy_130 : decode cX5_betterBy 130 = .ok (.iastore, 1) := by decide +kernel
theorem dX5_betterBy_131 : decode cX5_betterBy 131 = .ok (.iload_n 2, 1) := by decide +kernel
theorem dX5_betterBy_132 : decode cX5_betterBy 132 = .ok (.ifCond .ne 8, 3) := by decide +kernel
theorem dX5_betterBy_135 : decode cX5_betterBy 135 = .ok (.iload 4, 2) := by decide +kernel
theorem dX5_betterBy_137 : decode cX5_betterBy 137 = .ok (.goto 5, 3) := by decide +kernel
theorem dX5_betterBy_140 : decode cX5_betterBy 140 = .ok (.iload 5, 2) := by decide +kernel
theorem dX5_betterBy_142 : decode cX5_betterBy 142 = .ok (.ireturn, 1) := by decide +kernel
theorem dX5_better_0 : decode cX5_better 0 = .ok (.aload_n 0, 1) := by decide +kernel
theorem dX5_better_1 : decode cX5_better 1 = .ok (.iload_n 1, 1) := by decide +kernel
theorem dX5_better_2 : decode cX5_better 2 = .ok (.iload_n 2, 1) := by decide +kernel
theorem dX5_better_3 : decode cX5_better 3 = .ok (.invokevirtual 154, 3) := by decide +kernel
theorem dX5_better_6 : decode cX5_better 6 = .ok (.ifCond .eq 23, 3) := by decide +kernel
theorem dX5_better_9 : decode cX5_better 9 = .ok (.iload_n 3, 1) := by decide +kernel
theorem dX5_better_10 : decode cX5_better 10 = .ok (.invokestatic 177, 3) := by decide +kernel
theorem dX5_better_13 : decode cX5_better 13 = .ok (.ifCond .eq 16, 3) := by decide +kernel
theorem dX5_better_16 : decode cX5_better 16 = .ok (.aload_n 0, 1) := by decide +kernel
theorem dX5_better_17 : decode cX5_better 17 = .ok (.iconst 3, 1) := by decide +kernel
theorem dX5_better_18 : decode cX5_better 18 = .ok (.iload_n 1, 1) := by decide +kernel
theorem dX5_better_19 : decode cX5_better 19 = .ok (.imul, 1) := by decide +kernel
theorem dX5_better_20 : decode cX5_better 20 = .ok (.iload_n 2, 1) := by decide +kernel
theorem dX5_better_21 : decode cX5_better 21 = .ok (.iadd, 1) := by decide +kernel
theorem dX5_better_22 : decode cX5_better 22 = .ok (.iload_n 3, 1) := by decide +kernel
theorem dX5_better_23 : decode cX5_better 23 = .ok (.invokevirtual 294, 3) := by decide +kernel
theorem dX5_better_26 : decode cX5_better 26 = .ok (.goto 5, 3) := by decide +kernel
theorem dX5_better_29 : decode cX5_better 29 = .ok (.bipush (-2), 2) := by decide +kernel
theorem dX5_better_31 : decode cX5_better 31 = .ok (.ireturn, 1) := by decide +kernel
theorem dX5_releaseOf_0 : decode cX5_releaseOf 0 = .ok (.aload_n 0, 1) := by decide +kernel
theorem dX5_releaseOf_1 : decode cX5_releaseOf 1 = .ok (.getfield 32, 3) := by decide +kernel
theorem dX5_releaseOf_4 : decode cX5_releaseOf 4 = .ok (.iload_n 1, 1) := by decide +kernel
theorem dX5_releaseOf_5 : decode cX5_releaseOf 5 = .ok (.iconst 3, 1) := by decide +kernel
theorem dX5_releaseOf_6 : decode cX5_releaseOf 6 = .ok (.idiv, 1) := by decide +kernel
theorem dX5_releaseOf_7 : decode cX5_releaseOf 7 = .ok (.iaload, 1) := by decide +kernel
theorem dX5_releaseOf_8 : decode cX5_releaseOf 8 = .ok (.iload_n 2, 1) := by decide +kernel
theorem dX5_releaseOf_9 : decode cX5_releaseOf 9 = .ok (.aload_n 0, 1) := by decide +kernel
theorem dX5_releaseOf_10 : decode cX5_releaseOf 10 = .ok (.getfield 23, 3) := by decide +kernel
theorem dX5_releaseOf_13 : decode cX5_releaseOf 13 = .ok (.iload_n 1, 1) := by decide +kernel
theorem dX5_releaseOf_14 : decode cX5_releaseOf 14 = .ok (.iconst 3, 1) := by decide +kernel
theorem dX5_releaseOf_15 : decode cX5_releaseOf 15 = .ok (.idiv, 1) := by decide +kernel
theorem dX5_releaseOf_16 : decode cX5_releaseOf 16 = .ok (.iaload, 1) := by decide +kernel
theorem dX5_releaseOf_17 : decode cX5_releaseOf 17 = .ok (.imul, 1) := by decide +kernel
theorem dX5_releaseOf_18 : decode cX5_releaseOf 18 = .ok (.iadd, 1) := by decide +kernel
theorem dX5_releaseOf_19 : decode cX5_releaseOf 19 = .ok (.ireturn, 1) := by decide +kernel
theorem dX5_begins_0 : decode cX5_begins 0 = .ok (.iconst 0, 1) := by decide +kernel
theorem dX5_begins_1 : decode cX5_begins 1 = .ok (.istore_n 1, 1) := by decide +kernel
theorem dX5_begins_2 : decode cX5_begins 2 = .ok (.iload_n 1, 1) := by decide +kernel
theorem dX5_begins_3 : decode cX5_begins 3 = .ok (.bipush 9, 2) := by decide +kernel
theorem dX5_begins_5 : decode cX5_begins 5 = .ok (.if_icmp .ge 135, 3) := by decide +kernel
theorem dX5_begins_8 : decode cX5_begins 8 = .ok (.aload_n 0, 1) := by decide +kernel
theorem dX5_begins_9 : decode cX5_begins 9 = .ok (.getfield 77, 3) := by decide +kernel
theorem dX5_begins_12 : decode cX5_begins 12 = .ok (.iload_n 1, 1) := by decide +kernel
theorem dX5_begins_13 : decode cX5_begins 13 = .ok (.iconst (-1), 1) := by decide +kernel
theorem dX5_begins_14 : decode cX5_begins 14 = .ok (.iastore, 1) := by decide +kernel
theorem dX5_begins_15 : decode cX5_begins 15 = .ok (.aload_n 0, 1) := by decide +kernel
theorem dX5_begins_16 : decode cX5_begins 16 = .ok (.getfield 80, 3) := by decide +kernel
theorem dX5_begins_19 : decode cX5_begins 19 = .ok (.iload_n 1, 1) := by decide +kernel
theorem dX5_begins_20 : decode cX5_begins 20 = .ok (.iconst (-1), 1) := by decide +kernel
theorem dX5_begins_21 : decode cX5_begins 21 = .ok (.iastore, 1) := by decide +kernel
theorem dX5_begins_22 : decode cX5_begins 22 = .ok (.aload_n 0, 1) := by decide +kernel
theorem dX5_begins_23 : decode cX5_begins 23 = .ok (.getfield 83, 3) := by decide +kernel
theorem dX5_begins_26 : decode cX5_begins 26 = .ok (.iload_n 1, 1) := by decide +kernel
theorem dX5_begins_27 : decode cX5_begins 27 = .ok (.iconst 0, 1) := by decide +kernel
theorem dX5_begins_28 : decode cX5_begins 28 = .ok (.iastore, 1) := by decide +kernel
theorem dX5_begins_29 : decode cX5_begins 29 = .ok (.iconst 0, 1) := by decide +kernel
theorem dX5_begins_30 : decode cX5_begins 30 = .ok (.istore_n 2, 1) := by decide +kernel
theorem dX5_begins_31 : decode cX5_begins 31 = .ok (.iconst 0, 1) := by decide +kernel
theorem dX5_begins_32 : decode cX5_begins 32 = .ok (.istore_n 3, 1) := by decide +kernel
theorem dX5_begins_33 : decode cX5_begins 33 = .ok (.iload_n 3, 1) := by decide +kernel
theorem dX5_begins_34 : decode cX5_begins 34 = .ok (.bipush 64, 2) := by decide +kernel
theorem dX5_begins_36 : decode cX5_begins 36 = .ok (.if_icmp .ge 98, 3) := by decide +kernel
theorem dX5_begins_39 : decode cX5_begins 39 = .ok (.iload_n 1, 1) := by decide +kernel
theorem dX5_begins_40 : decode cX5_begins 40 = .ok (.iconst 3, 1) := by decide +kernel
theorem dX5_begins_41 : decode cX5_begins 41 = .ok (.idiv, 1) := by decide +kernel
theorem dX5_begins_42 : decode cX5_begins 42 = .ok (.istore 4, 2) := by decide +kernel
theorem dX5_begins_44 : decode cX5_begins 44 = .ok (.aload_n 0, 1) := by decide +kernel
theorem dX5_begins_45 : decode cX5_begins 45 = .ok (.iload_n 1, 1) := by decide +kernel
theorem dX5_begins_46 : decode cX5_begins 46 = .ok (.iload_n 3, 1) := by decide +kernel
theorem dX5_begins_47 : decode cX5_begins 47 = .ok (.invokevirtual 297, 3) := by decide +kernel
theorem dX5_begins_50 : decode cX5_begins 50 = .ok (.aload_n 0, 1) := by decide +kernel
theorem dX5_begins_51 : decode cX5_begins 51 = .ok (.getfield 50, 3) := by decide +kernel
theorem dX5_begins_54 : decode cX5_begins 54 = .ok (.iload_n 1, 1) := by decide +kernel
theorem dX5_begins_55 : decode cX5_begins 55 = .ok (.iaload, 1) := by decide +kernel
theorem dX5_begins_56 : decode cX5_begins 56 = .ok (.iadd, 1) := by decide +kernel
theorem dX5_begins_57 : decode cX5_begins 57 = .ok (.iload_n 3, 1) := by decide +kernel
theorem dX5_begins_58 : decode cX5_begins 58 = .ok (.aload_n 0, 1) := by decide +kernel
theorem dX5_begins_59 : decode cX5_begins 59 = .ok (.getfield 35, 3) := by decide +kernel
theorem dX5_begins_62 : decode cX5_begins 62 = .ok (.iload 4, 2) := by decide +kernel
theorem dX5_begins_64 : decode cX5_begins 64 = .ok (.iaload, 1) := by decide +kernel
theorem dX5_begins_65 : decode cX5_begins 65 = .ok (.imul, 1) := by decide +kernel
theorem dX5_begins_66 : decode cX5_begins 66 = .ok (.aload_n 0, 1) := by decide +kernel
theorem dX5_begins_67 : decode cX5_begins 67 = .ok (.getfield 26, 3) := by decide +kernel
theorem dX5_begins_70 : decode cX5_begins 70 = .ok (.iload 4, 2) := by decide +kernel
theorem dX5_begins_72 : decode cX5_begins 72 = .ok (.iaload, 1) := by decide +kernel
theorem dX5_begins_73 : decode cX5_begins 73 = .ok (.iconst 1, 1) := by decide +kernel
theorem dX5_begins_74 : decode cX5_begins 74 = .ok (.iadd, 1) := by decide +kernel
theorem dX5_begins_75 : decode cX5_begins 75 = .ok (.irem, 1) := by decide +kernel
theorem dX5_begins_76 : decode cX5_begins 76 = .ok (.iadd, 1) := by decide +kernel
theorem dX5_begins_77 : decode cX5_begins 77 = .ok (.istore 5, 2) := by decide +kernel
theorem dX5_begins_79 : decode cX5_begins 79 = .ok (.iload_n 2, 1) := by decide +kernel
theorem dX5_begins_80 : decode cX5_begins 80 = .ok (.iload 5, 2) := by decide +kernel
theorem dX5_begins_82 : decode cX5_begins 82 = .ok (.invokestatic 198, 3) := by decide +kernel
theorem dX5_begins_85 : decode cX5_begins 85 = .ok (.istore_n 2, 1) := by decide +kernel
theorem dX5_begins_86 : decode cX5_begins 86 = .ok (.aload_n 0, 1) := by decide +kernel
theorem dX5_begins_87 : decode cX5_begins 87 = .ok (.getfield 71, 3) := by decide +kernel
theorem dX5_begins_90 : decode cX5_begins 90 = .ok (.bipush 64, 2) := by decide +kernel
theorem dX5_begins_92 : decode cX5_begins 92 = .ok (.iload_n 1, 1) := by decide +kernel
theorem dX5_begins_93 : decode cX5_begins 93 = .ok (.imul, 1) := by decide +kernel
theorem dX5_begins_94 : decode cX5_begins 94 = .ok (.iload_n 3, 1) := by decide +kernel
theorem dX5_begins_95 : decode cX5_begins 95 = .ok (.iadd, 1) := by decide +kernel
theorem dX5_begins_96 : decode cX5_begins 96 = .ok (.iload_n 1, 1) := by decide +kernel
theorem dX5_begins_97 : decode cX5_begins 97 = .ok (.iconst 3, 1) := by decide +kernel
theorem dX5_begins_98 : decode cX5_begins 98 = .ok (.irem, 1) := by decide +kernel
theorem dX5_begins_99 : decode cX5_begins 99 = .ok (.ifCond .ne 15, 3) := by decide +kernel
theorem dX5_begins_102 : decode cX5_begins 102 = .ok (.aload_n 0, 1) := by decide +kernel
theorem dX5_begins_103 : decode cX5_begins 103 = .ok (.iload_n 1, 1) := by decide +kernel
theorem dX5_begins_104 : decode cX5_begins 104 = .ok (.invokevirtual 160, 3) := by decide +kernel
theorem dX5_begins_107 : decode cX5_begins 107 = .ok (.ifCond .eq 7, 3) := by decide +kernel
theorem dX5_begins_110 : decode cX5_begins 110 = .ok (.iload_n 2, 1) := by decide +kernel
theorem dX5_begins_111 : decode cX5_begins 111 = .ok (.goto 4, 3) := by decide +kernel
theorem dX5_begins_114 : decode cX5_begins 114 = .ok (.iconst (-1), 1) := by decide +kernel
theorem dX5_begins_115 : decode cX5_begins 115 = .ok (.iastore, 1) := by decide +kernel
theorem dX5_begins_116 : decode cX5_begins 116 = .ok (.aload_n 0, 1) := by decide +kernel
theorem dX5_begins_117 : decode cX5_begins 117 = .ok (.getfield 74, 3) := by decide +kernel
theorem dX5_begins_120 : decode cX5_begins 120 = .ok (.bipush 64, 2) := by decide +kernel
theorem dX5_begins_122 : decode cX5_begins 122 = .ok (.iload_n 1, 1) := by decide +kernel
theorem dX5_begins_123 : decode cX5_begins 123 = .ok (.imul, 1) := by decide +kernel
theorem dX5_begins_124 : decode cX5_begins 124 = .ok (.iload_n 3, 1) := by decide +kernel
theorem dX5_begins_125 : decode cX5_begins 125 = .ok (.iadd, 1) := by decide +kernel
theorem dX5_begins_126 : decode cX5_begins 126 = .ok (.iconst 0, 1) := by decide +kernel
theorem dX5_begins_127 : decode cX5_begins 127 = .ok (.iastore, 1) := by decide +kernel
theorem dX5_begins_128 : decode cX5_begins 128 = .ok (.iinc 3 1, 3) := by decide +kernel
theorem dX5_begins_131 : decode cX5_begins 131 = .ok (.goto (-98), 3) := by decide +kernel
theorem dX5_begins_134 : decode cX5_begins 134 = .ok (.iinc 1 1, 3) := by decide +kernel
theorem dX5_begins_137 : decode cX5_begins 137 = .ok (.goto (-135), 3) := by decide +kernel
theorem dX5_begins_140 : decode cX5_begins 140 = .ok (.return_, 1) := by decide +kernel
theorem dX5_does_0 : decode cX5_does 0 = .ok (.iconst (-1), 1) := by decide +kernel
theorem dX5_does_1 : decode cX5_does 1 = .ok (.istore_n 3, 1) := by decide +kernel
theorem dX5_does_2 : decode cX5_does 2 = .ok (.iconst 0, 1) := by decide +kernel
theorem dX5_does_3 : decode cX5_does 3 = .ok (.istore 4, 2) := by decide +kernel
theorem dX5_does_5 : decode cX5_does 5 = .ok (.iload 4, 2) := by decide +kernel
theorem dX5_does_7 : decode cX5_does 7 = .ok (.bipush 9, 2) := by decide +kernel
theorem dX5_does_9 : decode cX5_does 9 = .ok (.if_icmp .ge 140, 3) := by decide +kernel
theorem dX5_does_12 : decode cX5_does 12 = .ok (.aload_n 0, 1) := by decide +kernel
theorem dX5_does_13 : decode cX5_does 13 = .ok (.iload 4, 2) := by decide +kernel
theorem dX5_does_15 : decode cX5_does 15 = .ok (.invokevirtual 160, 3) := by decide +kernel
theorem dX5_does_18 : decode cX5_does 18 = .ok (.ifCond .eq 14, 3) := by decide +kernel
theorem dX5_does_21 : decode cX5_does 21 = .ok (.aload_n 0, 1) := by decide +kernel
theorem dX5_does_22 : decode cX5_does 22 = .ok (.getfield 41, 3) := by decide +kernel
theorem dX5_does_25 : decode cX5_does 25 = .ok (.iload 4, 2) := by decide +kernel
theorem dX5_does_27 : decode cX5_does 27 = .ok (.iaload, 1) := by decide +kernel
theorem dX5_does_28 : decode cX5_does 28 = .ok (.iload_n 1, 1) := by decide +kernel
theorem dX5_does_29 : decode cX5_does 29 = .ok (.if_icmp .eq 7, 3) := by decide +kernel
theorem dX5_does_32 : decode cX5_does 32 = .ok (.iconst 1, 1) := by decide +kernel
theorem dX5_does_33 : decode cX5_does 33 = .ok (.goto 4, 3) := by decide +kernel
theorem dX5_does_36 : decode cX5_does 36 = .ok (.iconst 0, 1) := by decide +kernel
theorem dX5_does_37 : decode cX5_does 37 = .ok (.istore 5, 2) := by decide +kernel
theorem dX5_does_39 : decode cX5_does 39 = .ok (.iconst 0, 1) := by decide +kernel
theorem dX5_does_40 : decode cX5_does 40 = .ok (.istore 6, 2) := by decide +kernel
theorem dX5_does_42 : decode cX5_does 42 = .ok (.iload 6, 2) := by decide +kernel
theorem dX5_does_44 : decode cX5_does 44 = .ok (.bipush 64, 2) := by decide +kernel
theorem dX5_does_46 : decode cX5_does 46 = .ok (.if_icmp .ge 97, 3) := by decide +kernel
theorem dX5_does_49 : decode cX5_does 49 = .ok (.iload 5, 2) := by decide +kernel
theorem dX5_does_51 : decode cX5_does 51 = .ok (.ifCond .ne 92, 3) := by decide +kernel
theorem dX5_does_54 : decode cX5_does 54 = .ok (.bipush 64, 2) := by decide +kernel
theorem dX5_does_56 : decode cX5_does 56 = .ok (.iload 4, 2) := by decide +kernel
theorem dX5_does_58 : decode cX5_does 58 = .ok (.imul, 1) := by decide +kernel
theorem dX5_does_59 : decode cX5_does 59 = .ok (.iload 6, 2) := by decide +kernel
theorem dX5_does_61 : decode cX5_does 61 = .ok (.iadd, 1) := by decide +kernel
theorem dX5_does_62 : decode cX5_does 62 = .ok (.istore 7, 2) := by decide +kernel
theorem dX5_does_64 : decode cX5_does 64 = .ok (.aload_n 0, 1) := by decide +kernel
theorem dX5_does_65 : decode cX5_does 65 = .ok (.getfield 71, 3) := by decide +kernel
theorem dX5_does_68 : decode cX5_does 68 = .ok (.iload 7, 2) := by decide +kernel
theorem dX5_does_70 : decode cX5_does 70 = .ok (.iaload, 1) := by decide +kernel
theorem dX5_does_71 : decode cX5_does 71 = .ok (.iconst (-1), 1) := by decide +kernel
theorem dX5_does_72 : decode cX5_does 72 = .ok (.if_icmp .eq 65, 3) := by decide +kernel
theorem dX5_does_75 : decode cX5_does 75 = .ok (.aload_n 0, 1) := by decide +kernel
theorem dX5_does_76 : decode cX5_does 76 = .ok (.getfield 71, 3) := by decide +kernel
theorem dX5_does_79 : decode cX5_does 79 = .ok (.iload 7, 2) := by decide +kernel
theorem dX5_does_81 : decode cX5_does 81 = .ok (.iaload, 1) := by decide +kernel
theorem dX5_does_82 : decode cX5_does 82 = .ok (.iload_n 2, 1) := by decide +kernel
theorem dX5_does_83 : decode cX5_does 83 = .ok (.if_icmp .gt 54, 3) := by decide +kernel
theorem dX5_does_86 : decode cX5_does 86 = .ok (.aload_n 0, 1) := by decide +kernel
theorem dX5_does_87 : decode cX5_does 87 = .ok (.getfield 74, 3) := by decide +kernel
theorem dX5_does_90 : decode cX5_does 90 = .ok (.iload 7, 2) := by decide +kernel
theorem dX5_does_92 : decode cX5_does 92 = .ok (.iaload, 1) := by decide +kernel
theorem dX5_does_93 : decode cX5_does 93 = .ok (.aload_n 0, 1) := by decide +kernel
theorem dX5_does_94 : decode cX5_does 94 = .ok (.getfield 44, 3) := by decide +kernel
theorem dX5_does_97 : decode cX5_does 97 = .ok (.iload 4, 2) := by decide +kernel
theorem dX5_does_99 : decode cX5_does 99 = .ok (.iaload, 1) := by decide +kernel
theorem dX5_does_100 : decode cX5_does 100 = .ok (.if_icmp .ge 37, 3) := by decide +kernel
theorem dX5_does_103 : decode cX5_does 103 = .ok (.iconst 1, 1) := by decide +kernel
theorem dX5_does_104 : decode cX5_does 104 = .ok (.istore 5, 2) := by decide +kernel
theorem dX5_does_106 : decode cX5_does 106 = .ok (.iload_n 3, 1) := by decide +kernel
theorem dX5_does_107 : decode cX5_does 107 = .ok (.iconst (-1), 1) := by decide +kernel
theorem dX5_does_108 : decode cX5_does 108 = .ok (.if_icmp .eq 22, 3) := by decide +kernel
theorem dX5_does_111 : decode cX5_does 111 = .ok (.aload_n 0, 1) := by decide +kernel
theorem dX5_does_112 : decode cX5_does 112 = .ok (.getfield 47, 3) := by decide +kernel
theorem dX5_does_115 : decode cX5_does 115 = .ok (.iload 4, 2) := by decide +kernel
theorem dX5_does_117 : decode cX5_does 117 = .ok (.iaload, 1) := by decide +kernel
theorem dX5_does_118 : decode cX5_does 118 = .ok (.aload_n 0, 1) := by decide +kernel
theorem dX5_does_119 : decode cX5_does 119 = .ok (.getfield 47, 3) := by decide +kernel
theorem dX5_does_122 : decode cX5_does 122 = .ok (.iload_n 3, 1) := by decide +kernel
theorem dX5_does_123 : decode cX5_does 123 = .ok (.bipush 64, 2) := by decide +kernel
theorem dX5_does_125 : decode cX5_does 125 = .ok (.idiv, 1) := by decide +kernel
theorem dX5_does_126 : decode cX5_does 126 = .ok (.iaload, 1) := by decide +kernel
theorem dX5_does_127 : decode cX5_does 127 = .ok (.if_icmp .le 8, 3) := by decide +kernel
theorem dX5_does_130 : decode cX5_does 130 = .ok (.iload 7, 2) := by decide +kernel
theorem dX5_does_132 : decode cX5_does 132 = .ok (.goto 4, 3) := by decide +kernel
theorem dX5_does_135 : decode cX5_does 135 = .ok (.iload_n 3, 1) := by decide +kernel
theorem dX5_does_136 : decode cX5_does 136 = .ok (.istore_n 3, 1) := by decide +kernel
theorem dX5_does_137 : decode cX5_does 137 = .ok (.iinc 6 1, 3) := by decide +kernel
theorem dX5_does_140 : decode cX5_does 140 = .ok (.goto (-98), 3) := by decide +kernel
theorem dX5_does_143 : decode cX5_does 143 = .ok (.iinc 4 1, 3) := by decide +kernel
theorem dX5_does_146 : decode cX5_does 146 = .ok (.goto (-141), 3) := by decide +kernel
theorem dX5_does_149 : decode cX5_does 149 = .ok (.iload_n 3, 1) := by decide +kernel
theorem dX5_does_150 : decode cX5_does 150 = .ok (.ireturn, 1) := by decide +kernel
theorem dX5_ends_0 : decode cX5_ends 0 = .ok (.iload_n 1, 1) := by decide +kernel
theorem dX5_ends_1 : decode cX5_ends 1 = .ok (.bipush 64, 2) := by decide +kernel
theorem dX5_ends_3 : decode cX5_ends 3 = .ok (.idiv, 1) := by decide +kernel
theorem dX5_ends_4 : decode cX5_ends 4 = .ok (.istore_n 3, 1) := by decide +kernel
theorem dX5_ends_5 : decode cX5_ends 5 = .ok (.iload_n 1, 1) := by decide +kernel
theorem dX5_ends_6 : decode cX5_ends 6 = .ok (.bipush 64, 2) := by decide +kernel
theorem dX5_ends_8 : decode cX5_ends 8 = .ok (.irem, 1) := by decide +kernel
theorem dX5_ends_9 : decode cX5_ends 9 = .ok (.istore 4, 2) := by decide +kernel
theorem dX5_ends_11 : decode cX5_ends 11 = .ok (.iload_n 2, 1) := by decide +kernel
theorem dX5_ends_12 : decode cX5_ends 12 = .ok (.aload_n 0, 1) := by decide +kernel
theorem dX5_ends_13 : decode cX5_ends 13 = .ok (.iload_n 3, 1) := by decide +kernel
theorem dX5_ends_14 : decode cX5_ends 14 = .ok (.iload 4, 2) := by decide +kernel
theorem dX5_ends_16 : decode cX5_ends 16 = .ok (.invokevirtual 297, 3) := by decide +kernel
theorem dX5_ends_19 : decode cX5_ends 19 = .ok (.isub, 1) := by decide +kernel
theorem dX5_ends_20 : decode cX5_ends 20 = .ok (.istore 5, 2) := by decide +kernel
theorem dX5_ends_22 : decode cX5_ends 22 = .ok (.aload_n 0, 1) := by decide +kernel
theorem dX5_ends_23 : decode cX5_ends 23 = .ok (.getfield 77, 3) := by decide +kernel
theorem dX5_ends_26 : decode cX5_ends 26 = .ok (.iload_n 3, 1) := by decide +kernel
theorem dX5_ends_27 : decode cX5_ends 27 = .ok (.aload_n 0, 1) := by decide +kernel
theorem dX5_ends_28 : decode cX5_ends 28 = .ok (.getfield 77, 3) := by decide +kernel
theorem dX5_ends_31 : decode cX5_ends 31 = .ok (.iload_n 3, 1) := by decide +kernel
theorem dX5_ends_32 : decode cX5_ends 32 = .ok (.iaload, 1) := by decide +kernel
theorem dX5_ends_33 : decode cX5_ends 33 = .ok (.iload 5, 2) := by decide +kernel
theorem dX5_ends_35 : decode cX5_ends 35 = .ok (.invokestatic 198, 3) := by decide +kernel
theorem dX5_ends_38 : decode cX5_ends 38 = .ok (.iastore, 1) := by decide +kernel
theorem dX5_ends_39 : decode cX5_ends 39 = .ok (.aload_n 0, 1) := by decide +kernel
theorem dX5_ends_40 : decode cX5_ends 40 = .ok (.getfield 80, 3) := by decide +kernel
theorem dX5_ends_43 : decode cX5_ends 43 = .ok (.iload_n 3, 1) := by decide +kernel
theorem dX5_ends_44 : decode cX5_ends 44 = .ok (.aload_n 0, 1) := by decide +kernel
theorem dX5_ends_45 : decode cX5_ends 45 = .ok (.getfield 80, 3) := by decide +kernel
theorem dX5_ends_48 : decode cX5_ends 48 = .ok (.iload_n 3, 1) := by decide +kernel
theorem dX5_ends_49 : decode cX5_ends 49 = .ok (.iaload, 1) := by decide +kernel
theorem dX5_ends_50 : decode cX5_ends 50 = .ok (.iconst (-1), 1) := by decide +kernel
theorem dX5_ends_51 : decode cX5_ends 51 = .ok (.if_icmp .ne 8, 3) := by decide +kernel
theorem dX5_ends_54 : decode cX5_ends 54 = .ok (.iload 5, 2) := by decide +kernel
theorem dX5_ends_56 : decode cX5_ends 56 = .ok (.goto 14, 3) := by decide +kernel
theorem dX5_ends_59 : decode cX5_ends 59 = .ok (.aload_n 0, 1) := by decide +kernel
theorem dX5_ends_60 : decode cX5_ends 60 = .ok (.getfield 80, 3) := by decide +kernel
theorem dX5_ends_63 : decode cX5_ends 63 = .ok (.iload_n 3, 1) := by decide +kernel
theorem dX5_ends_64 : decode cX5_ends 64 = .ok (.iaload, 1) := by decide +kernel
theorem dX5_ends_65 : decode cX5_ends 65 = .ok (.iload 5, 2) := by decide +kernel
theorem dX5_ends_67 : decode cX5_ends 67 = .ok (.invokestatic 300, 3) := by decide +kernel
theorem dX5_ends_70 : decode cX5_ends 70 = .ok (.iastore, 1) := by decide +kernel
theorem dX5_ends_71 : decode cX5_ends 71 = .ok (.aload_n 0, 1) := by decide +kernel
theorem dX5_ends_72 : decode cX5_ends 72 = .ok (.getfield 83, 3) := by decide +kernel
theorem dX5_ends_75 : decode cX5_ends 75 = .ok (.iload_n 3, 1) := by decide +kernel
theorem dX5_ends_76 : decode cX5_ends 76 = .ok (.dup2, 1) := by decide +kernel
theorem dX5_ends_77 : decode cX5_ends 77 = .ok (.iaload, 1) := by decide +kernel
theorem dX5_ends_78 : decode cX5_ends 78 = .ok (.iconst 1, 1) := by decide +kernel
theorem dX5_ends_79 : decode cX5_ends 79 = .ok (.iadd, 1) := by decide +kernel
theorem dX5_ends_80 : decode cX5_ends 80 = .ok (.iastore, 1) := by decide +kernel
theorem dX5_ends_81 : decode cX5_ends 81 = .ok (.iload_n 3, 1) := by decide +kernel
theorem dX5_ends_82 : decode cX5_ends 82 = .ok (.iconst 3, 1) := by decide +kernel
theorem dX5_ends_83 : decode cX5_ends 83 = .ok (.irem, 1) := by decide +kernel
theorem dX5_ends_84 : decode cX5_ends 84 = .ok (.iconst 2, 1) := by decide +kernel
theorem dX5_ends_85 : decode cX5_ends 85 = .ok (.if_icmp .ge 32, 3) := by decide +kernel
theorem dX5_ends_88 : decode cX5_ends 88 = .ok (.aload_n 0, 1) := by decide +kernel
theorem dX5_ends_89 : decode cX5_ends 89 = .ok (.iload_n 3, 1) := by decide +kernel
theorem dX5_ends_90 : decode cX5_ends 90 = .ok (.iconst 1, 1) := by decide +kernel
theorem dX5_ends_91 : decode cX5_ends 91 = .ok (.iadd, 1) := by decide +kernel
theorem dX5_ends_92 : decode cX5_ends 92 = .ok (.invokevirtual 160, 3) := by decide +kernel
theorem dX5_ends_95 : decode cX5_ends 95 = .ok (.ifCond .eq 22, 3) := by decide +kernel
theorem dX5_ends_98 : decode cX5_ends 98 = .ok (.aload_n 0, 1) := by decide +kernel
theorem dX5_ends_99 : decode cX5_ends 99 = .ok (.getfield 71, 3) := by decide +kernel
theorem dX5_ends_102 : decode cX5_ends 102 = .ok (.iload_n 1, 1) := by decide +kernel
theorem dX5_ends_103 : decode cX5_ends 103 = .ok (.bipush 64, 2) := by decide +kernel
theorem dX5_ends_105 : decode cX5_ends 105 = .ok (.iadd, 1) := by decide +kernel
theorem dX5_ends_106 : decode cX5_ends 106 = .ok (.iload_n 2, 1) := by decide +kernel
theorem dX5_ends_107 : decode cX5_ends 107 = .ok (.aload_n 0, 1) := by decide +kernel
theorem dX5_ends_108 : decode cX5_ends 108 = .ok (.getfield 50, 3) := by decide +kernel
theorem dX5_ends_111 : decode cX5_ends 111 = .ok (.iload_n 3, 1) := by decide +kernel
theorem dX5_ends_112 : decode cX5_ends 112 = .ok (.iconst 1, 1) := by decide +kernel
theorem dX5_ends_113 : decode cX5_ends 113 = .ok (.iadd, 1) := by decide +kernel
theorem dX5_ends_114 : decode cX5_ends 114 = .ok (.iaload, 1) := by decide +kernel
theorem dX5_ends_115 : decode cX5_ends 115 = .ok (.iadd, 1) := by decide +kernel
theorem dX5_ends_116 : decode cX5_ends 116 = .ok (.iastore, 1) := by decide +kernel
theorem dX5_ends_117 : decode cX5_ends 117 = .ok (.return_, 1) := by decide +kernel
theorem dX5_endedNow_0 : decode cX5_endedNow 0 = .ok (.iconst 0, 1) := by decide +kernel
theorem dX5_endedNow_1 : decode cX5_endedNow 1 = .ok (.istore_n 1, 1) := by decide +kernel
theorem dX5_endedNow_2 : decode cX5_endedNow 2 = .ok (.iconst 0, 1) := by decide +kernel
theorem dX5_endedNow_3 : decode cX5_endedNow 3 = .ok (.istore_n 2, 1) := by decide +kernel
theorem dX5_endedNow_4 : decode cX5_endedNow 4 = .ok (.iload_n 2, 1) := by decide +kernel
theorem dX5_endedNow_5 : decode cX5_endedNow 5 = .ok (.bipush 9, 2) := by decide +kernel
theorem dX5_endedNow_7 : decode cX5_endedNow 7 = .ok (.if_icmp .ge 18, 3) := by decide +kernel
theorem dX5_endedNow_10 : decode cX5_endedNow 10 = .ok (.iload_n 1, 1) := by decide +kernel
theorem dX5_endedNow_11 : decode cX5_endedNow 11 = .ok (.aload_n 0, 1) := by decide +kernel
theorem dX5_endedNow_12 : decode cX5_endedNow 12 = .ok (.getfield 83, 3) := by decide +kernel
theorem dX5_endedNow_15 : decode cX5_endedNow 15 = .ok (.iload_n 2, 1) := by decide +kernel
theorem dX5_endedNow_16 : decode cX5_endedNow 16 = .ok (.iaload, 1) := by decide +kernel
theorem dX5_endedNow_17 : decode cX5_endedNow 17 = .ok (.iadd, 1) := by decide +kernel
theorem dX5_endedNow_18 : decode cX5_endedNow 18 = .ok (.istore_n 1, 1) := by decide +kernel
theorem dX5_endedNow_19 : decode cX5_endedNow 19 = .ok (.iinc 2 1, 3) := by decide +kernel
theorem dX5_endedNow_22 : decode cX5_endedNow 22 = .ok (.goto (-18), 3) := by decide +kernel
theorem dX5_endedNow_25 : decode cX5_endedNow 25 = .ok (.iload_n 1, 1) := by decide +kernel
theorem dX5_endedNow_26 : decode cX5_endedNow 26 = .ok (.ireturn, 1) := by decide +kernel
theorem dX5_run_0 : decode cX5_run 0 = .ok (.iload_n 1, 1) := by decide +kernel
theorem dX5_run_1 : decode cX5_run 1 = .ok (.i2l, 1) := by decide +kernel
theorem dX5_run_2 : decode cX5_run 2 = .ok (.lconst 1, 1) := by decide +kernel
theorem dX5_run_3 : decode cX5_run 3 = .ok (.ldc2_w 303, 3) := by decide +kernel
theorem dX5_run_6 : decode cX5_run 6 = .ok (.invokestatic 89, 3) := by decide +kernel
theorem dX5_run_9 : decode cX5_run 9 = .ok (.ifCond .ne 6, 3) := by decide +kernel
theorem dX5_run_12 : decode cX5_run 12 = .ok (.bipush (-2), 2) := by decide +kernel
theorem dX5_run_14 : decode cX5_run 14 = .ok (.ireturn, 1) := by decide +kernel
theorem dX5_run_15 : decode cX5_run 15 = .ok (.aload_n 0, 1) := by decide +kernel
theorem dX5_run_16 : decode cX5_run 16 = .ok (.invokevirtual 305, 3) := by decide +kernel
theorem dX5_run_19 : decode cX5_run 19 = .ok (.aload_n 0, 1) := by decide +kernel
theorem dX5_run_20 : decode cX5_run 20 = .ok (.iload_n 1, 1) := by decide +kernel
theorem dX5_run_21 : decode cX5_run 21 = .ok (.putfield 308, 3) := by decide +kernel
theorem dX5_run_24 : decode cX5_run 24 = .ok (.iconst 0, 1) := by decide +kernel
theorem dX5_run_25 : decode cX5_run 25 = .ok (.istore_n 2, 1) := by decide +kernel
theorem dX5_run_26 : decode cX5_run 26 = .ok (.iload_n 2, 1) := by decide +kernel
theorem dX5_run_27 : decode cX5_run 27 = .ok (.iload_n 1, 1) := by decide +kernel
theorem dX5_run_28 : decode cX5_run 28 = .ok (.if_icmp .ge 166, 3) := by decide +kernel
theorem dX5_run_31 : decode cX5_run 31 = .ok (.aload_n 0, 1) := by decide +kernel
theorem dX5_run_32 : decode cX5_run 32 = .ok (.iconst 0, 1) := by decide +kernel
theorem dX5_run_33 : decode cX5_run 33 = .ok (.iload_n 2, 1) := by decide +kernel
theorem dX5_run_34 : decode cX5_run 34 = .ok (.invokevirtual 311, 3) := by decide +kernel
theorem dX5_run_37 : decode cX5_run 37 = .ok (.istore_n 3, 1) := by decide +kernel
theorem dX5_run_38 : decode cX5_run 38 = .ok (.aload_n 0, 1) := by decide +kernel
theorem dX5_run_39 : decode cX5_run 39 = .ok (.iconst 1, 1) := by decide +kernel
theorem dX5_run_40 : decode cX5_run 40 = .ok (.iload_n 2, 1) := by decide +kernel
theorem dX5_run_41 : decode cX5_run 41 = .ok (.invokevirtual 311, 3) := by decide +kernel
theorem dX5_run_44 : decode cX5_run 44 = .ok (.istore 4, 2) := by decide +kernel
theorem dX5_run_46 : decode cX5_run 46 = .ok (.aload_n 0, 1) := by decide +kernel
theorem dX5_run_47 : decode cX5_run 47 = .ok (.getfield 86, 3) := by decide +kernel
theorem dX5_run_50 : decode cX5_run 50 = .ok (.iload_n 2, 1) := by decide +kernel
theorem dX5_run_51 : decode cX5_run 51 = .ok (.iload_n 3, 1) := by decide +kernel
theorem dX5_run_52 : decode cX5_run 52 = .ok (.iconst (-1), 1) := by decide +kernel
theorem dX5_run_53 : decode cX5_run 53 = .ok (.if_icmp .ne 7, 3) := by decide +kernel
theorem dX5_run_56 : decode cX5_run 56 = .ok (.iconst (-1), 1) := by decide +kernel
theorem dX5_run_57 : decode cX5_run 57 = .ok (.goto 7, 3) := by decide +kernel
theorem dX5_run_60 : decode cX5_run 60 = .ok (.iload_n 3, 1) := by decide +kernel
theorem dX5_run_61 : decode cX5_run 61 = .ok (.bipush 64, 2) := by decide +kernel
theorem dX5_run_63 : decode cX5_run 63 = .ok (.idiv, 1) := by decide +kernel
theorem dX5_run_64 : decode cX5_run 64 = .ok (.iastore, 1) := by decide +kernel
theorem dX5_run_65 : decode cX5_run 65 = .ok (.aload_n 0, 1) := by decide +kernel
theorem dX5_run_66 : decode cX5_run 66 = .ok (.getfield 86, 3) := by decide +kernel
theorem dX5_run_69 : decode cX5_run 69 = .ok (.sipush 300, 3) := by decide +kernel
theorem dX5_run_72 : decode cX5_run 72 = .ok (.iload_n 2, 1) := by decide +kernel
theorem dX5_run_73 : decode cX5_run 73 = .ok (.iadd, 1) := by decide +kernel
theorem dX5_run_74 : decode cX5_run 74 = .ok (.iload 4, 2) := by decide +kernel
theorem dX5_run_76 : decode cX5_run 76 = .ok (.iconst (-1), 1) := by decide +kernel
theorem dX5_run_77 : decode cX5_run 77 = .ok (.if_icmp .ne 7, 3) := by decide +kernel
theorem dX5_run_80 : decode cX5_run 80 = .ok (.iconst (-1), 1) := by decide +kernel
theorem dX5_run_81 : decode cX5_run 81 = .ok (.goto 8, 3) := by decide +kernel
theorem dX5_run_84 : decode cX5_run 84 = .ok (.iload 4, 2) := by decide +kernel
theorem dX5_run_86 : decode cX5_run 86 = .ok (.bipush 64, 2) := by decide +kernel
theorem dX5_run_88 : decode cX5_run 88 = .ok (.idiv, 1) := by decide +kernel
theorem dX5_run_89 : decode cX5_run 89 = .ok (.iastore, 1) := by decide +kernel
theorem dX5_run_90 : decode cX5_run 90 = .ok (.iload_n 3, 1) := by decide +kernel
theorem dX5_run_91 : decode cX5_run 91 = .ok (.iconst (-1), 1) := by decide +kernel
theorem dX5_run_92 : decode cX5_run 92 = .ok (.if_icmp .eq 13, 3) := by decide +kernel
theorem dX5_run_95 : decode cX5_run 95 = .ok (.aload_n 0, 1) := by decide +kernel
theorem dX5_run_96 : decode cX5_run 96 = .ok (.getfield 74, 3) := by decide +kernel
theorem dX5_run_99 : decode cX5_run 99 = .ok (.iload_n 3, 1) := by decide +kernel
theorem dX5_run_100 : decode cX5_run 100 = .ok (.dup2, 1) := by decide +kernel
theorem dX5_run_101 : decode cX5_run 101 = .ok (.iaload, 1) := by decide +kernel
theorem dX5_run_102 : decode cX5_run 102 = .ok (.iconst 1, 1) := by decide +kernel
theorem dX5_run_103 : decode cX5_run 103 = .ok (.iadd, 1) := by decide +kernel
theorem dX5_run_104 : decode cX5_run 104 = .ok (.iastore, 1) := by decide +kernel
theorem dX5_run_105 : decode cX5_run 105 = .ok (.iload 4, 2) := by decide +kernel
theorem dX5_run_107 : decode cX5_run 107 = .ok (.iconst (-1), 1) := by decide +kernel
theorem dX5_run_108 : decode cX5_run 108 = .ok (.if_icmp .eq 14, 3) := by decide +kernel
theorem dX5_run_111 : decode cX5_run 111 = .ok (.aload_n 0, 1) := by decide +kernel
theorem dX5_run_112 : decode cX5_run 112 = .ok (.getfield 74, 3) := by decide +kernel
theorem dX5_run_115 : decode cX5_run 115 = .ok (.iload 4, 2) := by decide +kernel
theorem dX5_run_117 : decode cX5_run 117 = .ok (.dup2, 1) := by decide +kernel
theorem dX5_run_118 : decode cX5_run 118 = .ok (.iaload, 1) := by decide +kernel
theorem dX5_run_119 : decode cX5_run 119 = .ok (.iconst 1, 1) := by decide +kernel
theorem dX5_run_120 : decode cX5_run 120 = .ok (.iadd, 1) := by decide +kernel
theorem dX5_run_121 : decode cX5_run 121 = .ok (.iastore, 1) := by decide +kernel
theorem dX5_run_122 : decode cX5_run 122 = .ok (.iload_n 3, 1) := by decide +kernel
theorem dX5_run_123 : decode cX5_run 123 = .ok (.iconst (-1), 1) := by decide +kernel
theorem dX5_run_124 : decode cX5_run 124 = .ok (.if_icmp .eq 29, 3) := by decide +kernel
theorem dX5_run_127 : decode cX5_run 127 = .ok (.aload_n 0, 1) := by decide +kernel
theorem dX5_run_128 : decode cX5_run 128 = .ok (.getfield 74, 3) := by decide +kernel
theorem dX5_run_131 : decode cX5_run 131 = .ok (.iload_n 3, 1) := by decide +kernel
theorem dX5_run_132 : decode cX5_run 132 = .ok (.iaload, 1) := by decide +kernel
theorem dX5_run_133 : decode cX5_run 133 = .ok (.aload_n 0, 1) := by decide +kernel
theorem dX5_run_134 : decode cX5_run 134 = .ok (.getfield 44, 3) := by decide +kernel
theorem dX5_run_137 : decode cX5_run 137 = .ok (.iload_n 3, 1) := by decide +kernel
theorem dX5_run_138 : decode cX5_run 138 = .ok (.bipush 64, 2) := by decide +kernel
theorem dX5_run_140 : decode cX5_run 140 = .ok (.idiv, 1) := by decide +kernel
theorem dX5_run_141 : decode cX5_run 141 = .ok (.iaload, 1) := by decide +kernel
theorem dX5_run_142 : decode cX5_run 142 = .ok (.if_icmp .ne 11, 3) := by decide +kernel
theorem dX5_run_145 : decode cX5_run 145 = .ok (.aload_n 0, 1) := by decide +kernel
theorem dX5_run_146 : decode cX5_run 146 = .ok (.iload_n 3, 1) := by decide +kernel
theorem dX5_run_147 : decode cX5_run 147 = .ok (.iload_n 2, 1) := by decide +kernel
theorem dX5_run_148 : decode cX5_run 148 = .ok (.iconst 1, 1) := by decide +kernel
theorem dX5_run_149 : decode cX5_run 149 = .ok (.iadd, 1) := by decide +kernel
theorem dX5_run_150 : decode cX5_run 150 = .ok (.invokevirtual 314, 3) := by decide +kernel
theorem dX5_run_153 : decode cX5_run 153 = .ok (.iload 4, 2) := by decide +kernel
theorem dX5_run_155 : decode cX5_run 155 = .ok (.iconst (-1), 1) := by decide +kernel
theorem dX5_run_156 : decode cX5_run 156 = .ok (.if_icmp .eq 32, 3) := by decide +kernel
theorem dX5_run_159 : decode cX5_run 159 = .ok (.aload_n 0, 1) := by decide +kernel
theorem dX5_run_160 : decode cX5_run 160 = .ok (.getfield 74, 3) := by decide +kernel
theorem dX5_run_163 : decode cX5_run 163 = .ok (.iload 4, 2) := by decide +kernel
theorem dX5_run_165 : decode cX5_run 165 = .ok (.iaload, 1) := by decide +kernel
theorem dX5_run_166 : decode cX5_run 166 = .ok (.aload_n 0, 1) := by decide +kernel
theorem dX5_run_167 : decode cX5_run 167 = .ok (.getfield 44, 3) := by decide +kernel
theorem dX5_run_170 : decode cX5_run 170 = .ok (.iload 4, 2) := by decide +kernel
theorem dX5_run_172 : decode cX5_run 172 = .ok (.bipush 64, 2) := by decide +kernel
theorem dX5_run_174 : decode cX5_run 174 = .ok (.idiv, 1) := by decide +kernel
theorem dX5_run_175 : decode cX5_run 175 = .ok (.iaload, 1) := by decide +kernel
theorem dX5_run_176 : decode cX5_run 176 = .ok (.if_icmp .ne 12, 3) := by decide +kernel
theorem dX5_run_179 : decode cX5_run 179 = .ok (.aload_n 0, 1) := by decide +kernel
theorem dX5_run_180 : decode cX5_run 180 = .ok (.iload 4, 2) := by decide +kernel
theorem dX5_run_182 : decode cX5_run 182 = .ok (.iload_n 2, 1) := by decide +kernel
theorem dX5_run_183 : decode cX5_run 183 = .ok (.iconst 1, 1) := by decide +kernel
theorem dX5_run_184 : decode cX5_run 184 = .ok (.iadd, 1) := by decide +kernel
theorem dX5_run_185 : decode cX5_run 185 = .ok (.invokevirtual 314, 3) := by decide +kernel
theorem dX5_run_188 : decode cX5_run 188 = .ok (.iinc 2 1, 3) := by decide +kernel
theorem dX5_run_191 : decode cX5_run 191 = .ok (.goto (-165), 3) := by decide +kernel
theorem dX5_run_194 : decode cX5_run 194 = .ok (.aload_n 0, 1) := by decide +kernel
theorem dX5_run_195 : decode cX5_run 195 = .ok (.invokevirtual 318, 3) := by decide +kernel
theorem dX5_run_198 : decode cX5_run 198 = .ok (.ireturn, 1) := by decide +kernel
theorem dX5_seenBy_0 : decode cX5_seenBy 0 = .ok (.iload_n 2, 1) := by decide +kernel
theorem dX5_seenBy_1 : decode cX5_seenBy 1 = .ok (.ifCond .ne 12, 3) := by decide +kernel
theorem dX5_seenBy_4 : decode cX5_seenBy 4 = .ok (.aload_n 0, 1) := by decide +kernel
theorem dX5_seenBy_5 : decode cX5_seenBy 5 = .ok (.getfield 77, 3) := by decide +kernel
theorem dX5_seenBy_8 : decode cX5_seenBy 8 = .ok (.iload_n 1, 1) := by decide +kernel
theorem dX5_seenBy_9 : decode cX5_seenBy 9 = .ok (.iaload, 1) := by decide +kernel
theorem dX5_seenBy_10 : decode cX5_seenBy 10 = .ok (.goto 23, 3) := by decide +kernel
theorem dX5_seenBy_13 : decode cX5_seenBy 13 = .ok (.iload_n 2, 1) := by decide +kernel
theorem dX5_seenBy_14 : decode cX5_seenBy 14 = .ok (.iconst 1, 1) := by decide +kernel
theorem dX5_seenBy_15 : decode cX5_seenBy 15 = .ok (.if_icmp .ne 12, 3) := by decide +kernel
theorem dX5_seenBy_18 : decode cX5_seenBy 18 = .ok (.aload_n 0, 1) := by decide +kernel
theorem dX5_seenBy_19 : decode cX5_seenBy 19 = .ok (.getfield 80, 3) := by decide +kernel
theorem dX5_seenBy_22 : decode cX5_seenBy 22 = .ok (.iload_n 1, 1) := by decide +kernel
theorem dX5_seenBy_23 : decode cX5_seenBy 23 = .ok (.iaload, 1) := by decide +kernel
theorem dX5_seenBy_24 : decode cX5_seenBy 24 = .ok (.goto 9, 3) := by decide +kernel
theorem dX5_seenBy_27 : decode cX5_seenBy 27 = .ok (.aload_n 0, 1) := by decide +kernel
theorem dX5_seenBy_28 : decode cX5_seenBy 28 = .ok (.getfield 83, 3) := by decide +kernel
theorem dX5_seenBy_31 : decode cX5_seenBy 31 = .ok (.iload_n 1, 1) := by decide +kernel
theorem dX5_seenBy_32 : decode cX5_seenBy 32 = .ok (.iaload, 1) := by decide +kernel
theorem dX5_seenBy_33 : decode cX5_seenBy 33 = .ok (.ireturn, 1) := by decide +kernel
theorem dX5_seen_0 : decode cX5_seen 0 = .ok (.aload_n 0, 1) := by decide +kernel
theorem dX5_seen_1 : decode cX5_seen 1 = .ok (.iload_n 1, 1) := by decide +kernel
theorem dX5_seen_2 : decode cX5_seen 2 = .ok (.iload_n 2, 1) := by decide +kernel
theorem dX5_seen_3 : decode cX5_seen 3 = .ok (.invokevirtual 154, 3) := by decide +kernel
theorem dX5_seen_6 : decode cX5_seen 6 = .ok (.ifCond .eq 28, 3) := by decide +kernel
theorem dX5_seen_9 : decode cX5_seen 9 = .ok (.iload_n 3, 1) := by decide +kernel
theorem dX5_seen_10 : decode cX5_seen 10 = .ok (.i2l, 1) := by decide +kernel
theorem dX5_seen_11 : decode cX5_seen 11 = .ok (.lconst 0, 1) := by decide +kernel
theorem dX5_seen_12 : decode cX5_seen 12 = .ok (.ldc2_w 105, 3) := by decide +kernel
theorem dX5_seen_15 : decode cX5_seen 15 = .ok (.invokestatic 89, 3) := by decide +kernel
theorem dX5_seen_18 : decode cX5_seen 18 = .ok (.ifCond .eq 16, 3) := by decide +kernel
theorem dX5_seen_21 : decode cX5_seen 21 = .ok (.aload_n 0, 1) := by decide +kernel
theorem dX5_seen_22 : decode cX5_seen 22 = .ok (.iconst 3, 1) := by decide +kernel
theorem dX5_seen_23 : decode cX5_seen 23 = .ok (.iload_n 1, 1) := by decide +kernel
theorem dX5_seen_24 : decode cX5_seen 24 = .ok (.imul, 1) := by decide +kernel
theorem dX5_seen_25 : decode cX5_seen 25 = .ok (.iload_n 2, 1) := by decide +kernel
theorem dX5_seen_26 : decode cX5_seen 26 = .ok (.iadd, 1) := by decide +kernel
theorem dX5_seen_27 : decode cX5_seen 27 = .ok (.iload_n 3, 1) := by decide +kernel
theorem dX5_seen_28 : decode cX5_seen 28 = .ok (.invokevirtual 321, 3) := by decide +kernel
theorem dX5_seen_31 : decode cX5_seen 31 = .ok (.goto 5, 3) := by decide +kernel
theorem dX5_seen_34 : decode cX5_seen 34 = .ok (.bipush (-2), 2) := by decide +kernel
theorem dX5_seen_36 : decode cX5_seen 36 = .ok (.ireturn, 1) := by decide +kernel
theorem dX5_tickBy_0 : decode cX5_tickBy 0 = .ok (.iload_n 2, 1) := by decide +kernel
theorem dX5_tickBy_1 : decode cX5_tickBy 1 = .ok (.aload_n 0, 1) := by decide +kernel
theorem dX5_tickBy_2 : decode cX5_tickBy 2 = .ok (.getfield 308, 3) := by decide +kernel
theorem dX5_tickBy_5 : decode cX5_tickBy 5 = .ok (.if_icmp .ge 18, 3) := by decide +kernel
theorem dX5_tickBy_8 : decode cX5_tickBy 8 = .ok (.aload_n 0, 1) := by decide +kernel
theorem dX5_tickBy_9 : decode cX5_tickBy 9 = .ok (.getfield 86, 3) := by decide +kernel
theorem dX5_tickBy_12 : decode cX5_tickBy 12 = .ok (.sipush 300, 3) := by decide +kernel
theorem dX5_tickBy_15 : decode cX5_tickBy 15 = .ok (.iload_n 1, 1) := by decide +kernel
theorem dX5_tickBy_16 : decode cX5_tickBy 16 = .ok (.imul, 1) := by decide +kernel
theorem dX5_tickBy_17 : decode cX5_tickBy 17 = .ok (.iload_n 2, 1) := by decide +kernel
theorem dX5_tickBy_18 : decode cX5_tickBy 18 = .ok (.iadd, 1) := by decide +kernel
theorem dX5_tickBy_19 : decode cX5_tickBy 19 = .ok (.iaload, 1) := by decide +kernel
theorem dX5_tickBy_20 : decode cX5_tickBy 20 = .ok (.goto 4, 3) := by decide +kernel
theorem dX5_tickBy_23 : decode cX5_tickBy 23 = .ok (.iconst (-1), 1) := by decide +kernel
theorem dX5_tickBy_24 : decode cX5_tickBy 24 = .ok (.ireturn, 1) := by decide +kernel
theorem dX5_tick_0 : decode cX5_tick 0 = .ok (.iload_n 1, 1) := by decide +kernel
theorem dX5_tick_1 : decode cX5_tick 1 = .ok (.invokestatic 177, 3) := by decide +kernel
theorem dX5_tick_4 : decode cX5_tick 4 = .ok (.ifCond .eq 24, 3) := by decide +kernel
theorem dX5_tick_7 : decode cX5_tick 7 = .ok (.iload_n 2, 1) := by decide +kernel
theorem dX5_tick_8 : decode cX5_tick 8 = .ok (.i2l, 1) := by decide +kernel
theorem dX5_tick_9 : decode cX5_tick 9 = .ok (.lconst 0, 1) := by decide +kernel
theorem dX5_tick_10 : decode cX5_tick 10 = .ok (.ldc2_w 324, 3) := by decide +kernel
theorem dX5_tick_13 : decode cX5_tick 13 = .ok (.invokestatic 89, 3) := by decide +kernel
theorem dX5_tick_16 : decode cX5_tick 16 = .ok (.ifCond .eq 12, 3) := by decide +kernel
theorem dX5_tick_19 : decode cX5_tick 19 = .ok (.aload_n 0, 1) := by decide +kernel
theorem dX5_tick_20 : decode cX5_tick 20 = .ok (.iload_n 1, 1) := by decide +kernel
theorem dX5_tick_21 : decode cX5_tick 21 = .ok (.iload_n 2, 1) := by decide +kernel
theorem dX5_tick_22 : decode cX5_tick 22 = .ok (.invokevirtual 326, 3) := by decide +kernel
theorem dX5_tick_25 : decode cX5_tick 25 = .ok (.goto 5, 3) := by decide +kernel
theorem dX5_tick_28 : decode cX5_tick 28 = .ok (.bipush (-2), 2) := by decide +kernel
theorem dX5_tick_30 : decode cX5_tick 30 = .ok (.ireturn, 1) := by decide +kernel
theorem dX5_idle_0 : decode cX5_idle 0 = .ok (.iconst 0, 1) := by decide +kernel
theorem dX5_idle_1 : decode cX5_idle 1 = .ok (.istore_n 2, 1) := by decide +kernel
theorem dX5_idle_2 : decode cX5_idle 2 = .ok (.iconst 0, 1) := by decide +kernel
theorem dX5_idle_3 : decode cX5_idle 3 = .ok (.istore_n 3, 1) := by decide +kernel
theorem dX5_idle_4 : decode cX5_idle 4 = .ok (.iload_n 3, 1) := by decide +kernel
theorem dX5_idle_5 : decode cX5_idle 5 = .ok (.aload_n 0, 1) := by decide +kernel
theorem dX5_idle_6 : decode cX5_idle 6 = .ok (.getfield 308, 3) := by decide +kernel
theorem dX5_idle_9 : decode cX5_idle 9 = .ok (.if_icmp .ge 33, 3) := by decide +kernel
theorem dX5_idle_12 : decode cX5_idle 12 = .ok (.iload_n 2, 1) := by decide +kernel
theorem dX5_idle_13 : decode cX5_idle 13 = .ok (.aload_n 0, 1) := by decide +kernel
theorem dX5_idle_14 : decode cX5_idle 14 = .ok (.getfield 86, 3) := by decide +kernel
theorem dX5_idle_17 : decode cX5_idle 17 = .ok (.sipush 300, 3) := by decide +kernel
theorem dX5_idle_20 : decode cX5_idle 20 = .ok (.iload_n 1, 1) := by decide +kernel
theorem dX5_idle_21 : decode cX5_idle 21 = .ok (.imul, 1) := by decide +kernel
theorem dX5_idle_22 : decode cX5_idle 22 = .ok (.iload_n 3, 1) := by decide +kernel
theorem dX5_idle_23 : decode cX5_idle 23 = .ok (.iadd, 1) := by decide +kernel
theorem dX5_idle_24 : decode cX5_idle 24 = .ok (.iaload, 1) := by decide +kernel
theorem dX5_idle_25 : decode cX5_idle 25 = .ok (.iconst (-1), 1) := by decide +kernel
theorem dX5_idle_26 : decode cX5_idle 26 = .ok (.if_icmp .ne 7, 3) := by decide +kernel
theorem dX5_idle_29 : decode cX5_idle 29 = .ok (.iconst 1, 1) := by decide +kernel
theorem dX5_idle_30 : decode cX5_idle 30 = .ok (.goto 4, 3) := by decide +kernel
theorem dX5_idle_33 : decode cX5_idle 33 = .ok (.iconst 0, 1) := by decide +kernel
theorem dX5_idle_34 : decode cX5_idle 34 = .ok (.iadd, 1) := by decide +kernel
theorem dX5_idle_35 : decode cX5_idle 35 = .ok (.istore_n 2, 1) := by decide +kernel
theorem dX5_idle_36 : decode cX5_idle 36 = .ok (.iinc 3 1, 3) := by decide +kernel
theorem dX5_idle_39 : decode cX5_idle 39 = .ok (.goto (-35), 3) := by decide +kernel
theorem dX5_idle_42 : decode cX5_idle 42 = .ok (.iload_n 2, 1) := by decide +kernel
theorem dX5_idle_43 : decode cX5_idle 43 = .ok (.ireturn, 1) := by decide +kernel
theorem dX5_write_0 : decode cX5_write 0 = .ok (.iload_n 1, 1) := by decide +kernel
theorem dX5_write_1 : decode cX5_write 1 = .ok (.invokestatic 101, 3) := by decide +kernel
theorem dX5_write_4 : decode cX5_write 4 = .ok (.ifCond .ne 6, 3) := by decide +kernel
theorem dX5_write_7 : decode cX5_write 7 = .ok (.bipush (-2), 2) := by decide +kernel
theorem dX5_write_9 : decode cX5_write 9 = .ok (.ireturn, 1) := by decide +kernel
theorem dX5_write_10 : decode cX5_write 10 = .ok (.aload_n 0, 1) := by decide +kernel
theorem dX5_write_11 : decode cX5_write 11 = .ok (.getfield 7, 3) := by decide +kernel
theorem dX5_write_14 : decode cX5_write 14 = .ok (.iload_n 1, 1) := by decide +kernel
theorem dX5_write_15 : decode cX5_write 15 = .ok (.iaload, 1) := by decide +kernel
theorem dX5_write_16 : decode cX5_write 16 = .ok (.ifCond .ge 9, 3) := by decide +kernel
theorem dX5_write_19 : decode cX5_write 19 = .ok (.aload_n 0, 1) := by decide +kernel
theorem dX5_write_20 : decode cX5_write 20 = .ok (.iconst 1, 1) := by decide +kernel
theorem dX5_write_21 : decode cX5_write 21 = .ok (.invokevirtual 107, 3) := by decide +kernel
theorem dX5_write_24 : decode cX5_write 24 = .ok (.ireturn, 1) := by decide +kernel
theorem dX5_write_25 : decode cX5_write 25 = .ok (.aload_n 0, 1) := by decide +kernel
theorem dX5_write_26 : decode cX5_write 26 = .ok (.invokevirtual 248, 3) := by decide +kernel
theorem dX5_write_29 : decode cX5_write 29 = .ok (.iconst 0, 1) := by decide +kernel
theorem dX5_write_30 : decode cX5_write 30 = .ok (.istore_n 2, 1) := by decide +kernel
theorem dX5_write_31 : decode cX5_write 31 = .ok (.iconst 0, 1) := by decide +kernel
theorem dX5_write_32 : decode cX5_write 32 = .ok (.istore_n 3, 1) := by decide +kernel
theorem dX5_write_33 : decode cX5_write 33 = .ok (.iload_n 3, 1) := by decide +kernel
theorem dX5_write_34 : decode cX5_write 34 = .ok (.bipush 9, 2) := by decide +kernel
theorem dX5_write_36 : decode cX5_write 36 = .ok (.if_icmp .ge 66, 3) := by decide +kernel
theorem dX5_write_39 : decode cX5_write 39 = .ok (.aload_n 0, 1) := by decide +kernel
theorem dX5_write_40 : decode cX5_write 40 = .ok (.iload_n 3, 1) := by decide +kernel
theorem dX5_write_41 : decode cX5_write 41 = .ok (.invokevirtual 160, 3) := by decide +kernel
theorem dX5_write_44 : decode cX5_write 44 = .ok (.ifCond .eq 52, 3) := by decide +kernel
theorem dX5_write_47 : decode cX5_write 47 = .ok (.iload_n 2, 1) := by decide +kernel
theorem dX5_write_48 : decode cX5_write 48 = .ok (.aload_n 0, 1) := by decide +kernel
theorem dX5_write_49 : decode cX5_write 49 = .ok (.getfield 13, 3) := by decide +kernel
theorem dX5_write_52 : decode cX5_write 52 = .ok (.iload_n 1, 1) := by decide +kernel
theorem dX5_write_53 : decode cX5_write 53 = .ok (.iaload, 1) := by decide +kernel
theorem dX5_write_54 : decode cX5_write 54 = .ok (.if_icmp .ge 42, 3) := by decide +kernel
theorem dX5_write_57 : decode cX5_write 57 = .ok (.aload_n 0, 1) := by decide +kernel
theorem dX5_write_58 : decode cX5_write 58 = .ok (.getfield 16, 3) := by decide +kernel
theorem dX5_write_61 : decode cX5_write 61 = .ok (.bipush 60, 2) := by decide +kernel
theorem dX5_write_63 : decode cX5_write 63 = .ok (.iload_n 1, 1) := by decide +kernel
theorem dX5_write_64 : decode cX5_write 64 = .ok (.imul, 1) := by decide +kernel
theorem dX5_write_65 : decode cX5_write 65 = .ok (.iload_n 2, 1) := by decide +kernel
theorem dX5_write_66 : decode cX5_write 66 = .ok (.iadd, 1) := by decide +kernel
theorem dX5_write_67 : decode cX5_write 67 = .ok (.aload_n 0, 1) := by decide +kernel
theorem dX5_write_68 : decode cX5_write 68 = .ok (.getfield 7, 3) := by decide +kernel
theorem dX5_write_71 : decode cX5_write 71 = .ok (.iload_n 1, 1) := by decide +kernel
theorem dX5_write_72 : decode cX5_write 72 = .ok (.iaload, 1) := by decide +kernel
theorem dX5_write_73 : decode cX5_write 73 = .ok (.ifCond .ne 13, 3) := by decide +kernel
theorem dX5_write_76 : decode cX5_write 76 = .ok (.aload_n 0, 1) := by decide +kernel
theorem dX5_write_77 : decode cX5_write 77 = .ok (.iload_n 3, 1) := by decide +kernel
theorem dX5_write_78 : decode cX5_write 78 = .ok (.invokevirtual 254, 3) := by decide +kernel
theorem dX5_write_81 : decode cX5_write 81 = .ok (.i2s, 1) := by decide +kernel
theorem dX5_write_82 : decode cX5_write 82 = .ok (.i2l, 1) := by decide +kernel
theorem dX5_write_83 : decode cX5_write 83 = .ok (.goto 9, 3) := by decide +kernel
theorem dX5_write_86 : decode cX5_write 86 = .ok (.aload_n 0, 1) := by decide +kernel
theorem dX5_write_87 : decode cX5_write 87 = .ok (.iload_n 3, 1) := by decide +kernel
theorem dX5_write_88 : decode cX5_write 88 = .ok (.invokevirtual 254, 3) := by decide +kernel
theorem dX5_write_91 : decode cX5_write 91 = .ok (.i2l, 1) := by decide +kernel
theorem dX5_write_92 : decode cX5_write 92 = .ok (.lastore, 1) := by decide +kernel
theorem dX5_write_93 : decode cX5_write 93 = .ok (.iinc 2 1, 3) := by decide +kernel
theorem dX5_write_96 : decode cX5_write 96 = .ok (.iinc 3 1, 3) := by decide +kernel
theorem dX5_write_99 : decode cX5_write 99 = .ok (.goto (-66), 3) := by decide +kernel
theorem dX5_write_102 : decode cX5_write 102 = .ok (.iload_n 2, 1) := by decide +kernel
theorem dX5_write_103 : decode cX5_write 103 = .ok (.ireturn, 1) := by decide +kernel
theorem dX5_over_0 : decode cX5_over 0 = .ok (.iconst 0, 1) := by decide +kernel
theorem dX5_over_1 : decode cX5_over 1 = .ok (.istore_n 1, 1) := by decide +kernel
theorem dX5_over_2 : decode cX5_over 2 = .ok (.iconst 0, 1) := by decide +kernel
theorem dX5_over_3 : decode cX5_over 3 = .ok (.istore_n 2, 1) := by decide +kernel
theorem dX5_over_4 : decode cX5_over 4 = .ok (.iload_n 2, 1) := by decide +kernel
theorem dX5_over_5 : decode cX5_over 5 = .ok (.bipush 9, 2) := by decide +kernel
theorem dX5_over_7 : decode cX5_over 7 = .ok (.if_icmp .ge 33, 3) := by decide +kernel
theorem dX5_over_10 : decode cX5_over 10 = .ok (.iload_n 1, 1) := by decide +kernel
theorem dX5_over_11 : decode cX5_over 11 = .ok (.aload_n 0, 1) := by decide +kernel
theorem dX5_over_12 : decode cX5_over 12 = .ok (.iload_n 2, 1) := by decide +kernel
theorem dX5_over_13 : decode cX5_over 13 = .ok (.invokevirtual 160, 3) := by decide +kernel
theorem dX5_over_16 : decode cX5_over 16 = .ok (.ifCond .eq 15, 3) := by decide +kernel
theorem dX5_over_19 : decode cX5_over 19 = .ok (.aload_n 0, 1) := by decide +kernel
theorem dX5_over_20 : decode cX5_over 20 = .ok (.iload_n 2, 1) := by decide +kernel
theorem dX5_over_21 : decode cX5_over 21 = .ok (.invokevirtual 223, 3) := by decide +kernel
theorem dX5_over_24 : decode cX5_over 24 = .ok (.ifCond .eq 7, 3) := by decide +kernel
theorem dX5_over_27 : decode cX5_over 27 = .ok (.iconst 1, 1) := by decide +kernel
theorem dX5_over_28 : decode cX5_over 28 = .ok (.goto 4, 3) := by decide +kernel
theorem dX5_over_31 : decode cX5_over 31 = .ok (.iconst 0, 1) := by decide +kernel
theorem dX5_over_32 : decode cX5_over 32 = .ok (.iadd, 1) := by decide +kernel
theorem dX5_over_33 : decode cX5_over 33 = .ok (.istore_n 1, 1) := by decide +kernel
theorem dX5_over_34 : decode cX5_over 34 = .ok (.iinc 2 1, 3) := by decide +kernel
theorem dX5_over_37 : decode cX5_over 37 = .ok (.goto (-33), 3) := by decide +kernel
theorem dX5_over_40 : decode cX5_over 40 = .ok (.iload_n 1, 1) := by decide +kernel
theorem dX5_over_41 : decode cX5_over 41 = .ok (.ireturn, 1) := by decide +kernel
theorem dX5_countBy_0 : decode cX5_countBy 0 = .ok (.iload_n 1, 1) := by decide +kernel
theorem dX5_countBy_1 : decode cX5_countBy 1 = .ok (.tableswitch 159 0 8 #[51, 72, 85, 127, 132, 138, 144, 149, 154], 51) := by decide +kernel
theorem dX5_countBy_52 : decode cX5_countBy 52 = .ok (.aload_n 0, 1) := by decide +kernel
theorem dX5_countBy_53 : decode cX5_countBy 53 = .ok (.getfield 38, 3) := by decide +kernel
theorem dX5_countBy_56 : decode cX5_countBy 56 = .ok (.iconst 0, 1) := by decide +kernel
theorem dX5_countBy_57 : decode cX5_countBy 57 = .ok (.iaload, 1) := by decide +kernel
theorem dX5_countBy_58 : decode cX5_countBy 58 = .ok (.aload_n 0, 1) := by decide +kernel
theorem dX5_countBy_59 : decode cX5_countBy 59 = .ok (.getfield 38, 3) := by decide +kernel
theorem dX5_countBy_62 : decode cX5_countBy 62 = .ok (.iconst 1, 1) := by decide +kernel
theorem dX5_countBy_63 : decode cX5_countBy 63 = .ok (.iaload, 1) := by decide +kernel
theorem dX5_countBy_64 : decode cX5_countBy 64 = .ok (.iadd, 1) := by decide +kernel
theorem dX5_countBy_65 : decode cX5_countBy 65 = .ok (.aload_n 0, 1) := by decide +kernel
theorem dX5_countBy_66 : decode cX5_countBy 66 = .ok (.getfield 38, 3) := by decide +kernel
theorem dX5_countBy_69 : decode cX5_countBy 69 = .ok (.iconst 2, 1) := by decide +kernel
theorem dX5_countBy_70 : decode cX5_countBy 70 = .ok (.iaload, 1) := by decide +kernel
theorem dX5_countBy_71 : decode cX5_countBy 71 = .ok (.iadd, 1) := by decide +kernel
theorem dX5_countBy_72 : decode cX5_countBy 72 = .ok (.ireturn, 1) := by decide +kernel
theorem dX5_countBy_73 : decode cX5_countBy 73 = .ok (.aload_n 0, 1) := by decide +kernel
theorem dX5_countBy_74 : decode cX5_countBy 74 = .ok (.getfield 232, 3) := by decide +kernel
theorem dX5_countBy_77 : decode cX5_countBy 77 = .ok (.ifCond .eq 7, 3) := by decide +kernel
theorem dX5_countBy_80 : decode cX5_countBy 80 = .ok (.iconst 1, 1) := by decide +kernel
theorem dX5_countBy_81 : decode cX5_countBy 81 = .ok (.goto 4, 3) := by decide +kernel
theorem dX5_countBy_84 : decode cX5_countBy 84 = .ok (.iconst 0, 1) := by decide +kernel
theorem dX5_countBy_85 : decode cX5_countBy 85 = .ok (.ireturn, 1) := by decide +kernel
theorem dX5_countBy_86 : decode cX5_countBy 86 = .ok (.aload_n 0, 1) := by decide +kernel
theorem dX5_countBy_87 : decode cX5_countBy 87 = .ok (.iconst 0, 1) := by decide +kernel
theorem dX5_countBy_88 : decode cX5_countBy 88 = .ok (.invokevirtual 282, 3) := by decide +kernel
theorem dX5_countBy_91 : decode cX5_countBy 91 = .ok (.ifCond .eq 7, 3) := by decide +kernel
theorem dX5_countBy_94 : decode cX5_countBy 94 = .ok (.iconst 1, 1) := by decide +kernel
theorem dX5_countBy_95 : decode cX5_countBy 95 = .ok (.goto 4, 3) := by decide +kernel
theorem dX5_countBy_98 : decode cX5_countBy 98 = .ok (.iconst 0, 1) := by decide +kernel
theorem dX5_countBy_99 : decode cX5_countBy 99 = .ok (.aload_n 0, 1) := by decide +kernel
theorem dX5_countBy_100 : decode cX5_countBy 100 = .ok (.iconst 1, 1) := by decide +kernel
theorem dX5_countBy_101 : decode cX5_countBy 101 = .ok (.invokevirtual 282, 3) := by decide +kernel
theorem dX5_countBy_104 : decode cX5_countBy 104 = .ok (.ifCond .eq 7, 3) := by decide +kernel
theorem dX5_countBy_107 : decode cX5_countBy 107 = .ok (.iconst 1, 1) := by decide +kernel
theorem dX5_countBy_108 : decode cX5_countBy 108 = .ok (.goto 4, 3) := by decide +kernel
theorem dX5_countBy_111 : decode cX5_countBy 111 = .ok (.iconst 0, 1) := by decide +kernel
theorem dX5_countBy_112 : decode cX5_countBy 112 = .ok (.iadd, 1) := by decide +kernel
theorem dX5_countBy_113 : decode cX5_countBy 113 = .ok (.aload_n 0, 1) := by decide +kernel
theorem dX5_countBy_114 : decode cX5_countBy 114 = .ok (.iconst 2, 1) := by decide +kernel
theorem dX5_countBy_115 : decode cX5_countBy 115 = .ok (.invokevirtual 282, 3) := by decide +kernel
theorem dX5_countBy_118 : decode cX5_countBy 118 = .ok (.ifCond .eq 7, 3) := by decide +kernel
theorem dX5_countBy_121 : decode cX5_countBy 121 = .ok (.iconst 1, 1) := by decide +kernel
theorem dX5_countBy_122 : decode cX5_countBy 122 = .ok (.goto 4, 3) := by decide +kernel
theorem dX5_countBy_125 : decode cX5_countBy 125 = .ok (.iconst 0, 1) := by decide +kernel
theorem dX5_countBy_126 : decode cX5_countBy 126 = .ok (.iadd, 1) := by decide +kernel
theorem dX5_countBy_127 : decode cX5_countBy 127 = .ok (.ireturn, 1) := by decide +kernel
theorem dX5_countBy_128 : decode cX5_countBy 128 = .ok (.aload_n 0, 1) := by decide +kernel
theorem dX5_countBy_129 : decode cX5_countBy 129 = .ok (.invokevirtual 318, 3) := by decide +kernel
theorem dX5_countBy_132 : decode cX5_countBy 132 = .ok (.ireturn, 1) := by decide +kernel
theorem dX5_countBy_133 : decode cX5_countBy 133 = .ok (.aload_n 0, 1) := by decide +kernel
theorem dX5_countBy_134 : decode cX5_countBy 134 = .ok (.iconst 0, 1) := by decide +kernel
theorem dX5_countBy_135 : decode cX5_countBy 135 = .ok (.invokevirtual 329, 3) := by decide +kernel
theorem dX5_countBy_138 : decode cX5_countBy 138 = .ok (.ireturn, 1) := by decide +kernel
theorem dX5_countBy_139 : decode cX5_countBy 139 = .ok (.aload_n 0, 1) := by decide +kernel
theorem dX5_countBy_140 : decode cX5_countBy 140 = .ok (.iconst 1, 1) := by decide +kernel
theorem dX5_countBy_141 : decode cX5_countBy 141 = .ok (.invokevirtual 329, 3) := by decide +kernel
theorem dX5_countBy_144 : decode cX5_countBy 144 = .ok (.ireturn, 1) := by decide +kernel
theorem dX5_countBy_145 : decode cX5_countBy 145 = .ok (.aload_n 0, 1) := by decide +kernel
theorem dX5_countBy_146 : decode cX5_countBy 146 = .ok (.getfield 308, 3) := by decide +kernel
theorem dX5_countBy_149 : decode cX5_countBy 149 = .ok (.ireturn, 1) := by decide +kernel
theorem dX5_countBy_150 : decode cX5_countBy 150 = .ok (.aload_n 0, 1) := by decide +kernel
theorem dX5_countBy_151 : decode cX5_countBy 151 = .ok (.invokevirtual 332, 3) := by decide +kernel
theorem dX5_countBy_154 : decode cX5_countBy 154 = .ok (.ireturn, 1) := by decide +kernel
theorem dX5_countBy_155 : decode cX5_countBy 155 = .ok (.aload_n 0, 1) := by decide +kernel
theorem dX5_countBy_156 : decode cX5_countBy 156 = .ok (.getfield 95, 3) := by decide +kernel
theorem dX5_countBy_159 : decode cX5_countBy 159 = .ok (.ireturn, 1) := by decide +kernel
theorem dX5_countBy_160 : decode cX5_countBy 160 = .ok (.bipush (-2), 2) := by decide +kernel
theorem dX5_countBy_162 : decode cX5_countBy 162 = .ok (.ireturn, 1) := by decide +kernel
theorem dX5_count_0 : decode cX5_count 0 = .ok (.aload_n 0, 1) := by decide +kernel
theorem dX5_count_1 : decode cX5_count 1 = .ok (.invokevirtual 248, 3) := by decide +kernel
theorem dX5_count_4 : decode cX5_count 4 = .ok (.aload_n 0, 1) := by decide +kernel
theorem dX5_count_5 : decode cX5_count 5 = .ok (.iload_n 1, 1) := by decide +kernel
theorem dX5_count_6 : decode cX5_count 6 = .ok (.invokevirtual 335, 3) := by decide +kernel
theorem dX5_count_9 : decode cX5_count 9 = .ok (.ireturn, 1) := by decide +kernel
theorem dX5_stepTells_0 : decode cX5_stepTells 0 = .ok (.lload_n 1, 1) := by decide +kernel
theorem dX5_stepTells_1 : decode cX5_stepTells 1 = .ok (.lstore 4, 2) := by decide +kernel
theorem dX5_stepTells_3 : decode cX5_stepTells 3 = .ok (.iconst 0, 1) := by decide +kernel
theorem dX5_stepTells_4 : decode cX5_stepTells 4 = .ok (.istore 6, 2) := by decide +kernel
theorem dX5_stepTells_6 : decode cX5_stepTells 6 = .ok (.iload 6, 2) := by decide +kernel
theorem dX5_stepTells_8 : decode cX5_stepTells 8 = .ok (.bipush 7, 2) := by decide +kernel
theorem dX5_stepTells_10 : decode cX5_stepTells 10 = .ok (.if_icmp .ge 26, 3) := by decide +kernel
theorem dX5_stepTells_13 : decode cX5_stepTells 13 = .ok (.ldc2_w 338, 3) := by decide +kernel
theorem dX5_stepTells_16 : decode cX5_stepTells 16 = .ok (.lload 4, 2) := by decide +kernel
theorem dX5_stepTells_18 : decode cX5_stepTells 18 = .ok (.lmul, 1) := by decide +kernel
theorem dX5_stepTells_19 : decode cX5_stepTells 19 = .ok (.aload_n 0, 1) := by decide +kernel
theorem dX5_stepTells_20 : decode cX5_stepTells 20 = .ok (.iload_n 3, 1) := by decide +kernel
theorem dX5_stepTells_21 : decode cX5_stepTells 21 = .ok (.iload 6, 2) := by decide +kernel
theorem dX5_stepTells_23 : decode cX5_stepTells 23 = .ok (.invokevirtual 251, 3) := by decide +kernel
theorem dX5_stepTells_26 : decode cX5_stepTells 26 = .ok (.i2l, 1) := by decide +kernel
theorem dX5_stepTells_27 : decode cX5_stepTells 27 = .ok (.ladd, 1) := by decide +kernel
theorem dX5_stepTells_28 : decode cX5_stepTells 28 = .ok (.lstore 4, 2) := by decide +kernel
theorem dX5_stepTells_30 : decode cX5_stepTells 30 = .ok (.iinc 6 1, 3) := by decide +kernel
theorem dX5_stepTells_33 : decode cX5_stepTells 33 = .ok (.goto (-27), 3) := by decide +kernel
theorem dX5_stepTells_36 : decode cX5_stepTells 36 = .ok (.ldc2_w 338, 3) := by decide +kernel
theorem dX5_stepTells_39 : decode cX5_stepTells 39 = .ok (.lload 4, 2) := by decide +kernel
theorem dX5_stepTells_41 : decode cX5_stepTells 41 = .ok (.lmul, 1) := by decide +kernel
theorem dX5_stepTells_42 : decode cX5_stepTells 42 = .ok (.aload_n 0, 1) := by decide +kernel
theorem dX5_stepTells_43 : decode cX5_stepTells 43 = .ok (.iload_n 3, 1) := by decide +kernel
theorem dX5_stepTells_44 : decode cX5_stepTells 44 = .ok (.iconst 0, 1) := by decide +kernel
theorem dX5_stepTells_45 : decode cX5_stepTells 45 = .ok (.invokevirtual 180, 3) := by decide +kernel
theorem dX5_stepTells_48 : decode cX5_stepTells 48 = .ok (.i2l, 1) := by decide +kernel
theorem dX5_stepTells_49 : decode cX5_stepTells 49 = .ok (.ladd, 1) := by decide +kernel
theorem dX5_stepTells_50 : decode cX5_stepTells 50 = .ok (.lstore 4, 2) := by decide +kernel
theorem dX5_stepTells_52 : decode cX5_stepTells 52 = .ok (.ldc2_w 338, 3) := by decide +kernel
theorem dX5_stepTells_55 : decode cX5_stepTells 55 = .ok (.lload 4, 2) := by decide +kernel
theorem dX5_stepTells_57 : decode cX5_stepTells 57 = .ok (.lmul, 1) := by decide +kernel
theorem dX5_stepTells_58 : decode cX5_stepTells 58 = .ok (.aload_n 0, 1) := by decide +kernel
theorem dX5_stepTells_59 : decode cX5_stepTells 59 = .ok (.iload_n 3, 1) := by decide +kernel
theorem dX5_stepTells_60 : decode cX5_stepTells 60 = .ok (.iconst 1, 1) := by decide +kernel
theorem dX5_stepTells_61 : decode cX5_stepTells 61 = .ok (.invokevirtual 180, 3) := by decide +kernel
theorem dX5_stepTells_64 : decode cX5_stepTells 64 = .ok (.i2l, 1) := by decide +kernel
theorem dX5_stepTells_65 : decode cX5_stepTells 65 = .ok (.ladd, 1) := by decide +kernel
theorem dX5_stepTells_66 : decode cX5_stepTells 66 = .ok (.lstore 4, 2) := by decide +kernel
theorem dX5_stepTells_68 : decode cX5_stepTells 68 = .ok (.ldc2_w 338, 3) := by decide +kernel
theorem dX5_stepTells_71 : decode cX5_stepTells 71 = .ok (.lload 4, 2) := by decide +kernel
theorem dX5_stepTells_73 : decode cX5_stepTells 73 = .ok (.lmul, 1) := by decide +kernel
theorem dX5_stepTells_74 : decode cX5_stepTells 74 = .ok (.aload_n 0, 1) := by decide +kernel
theorem dX5_stepTells_75 : decode cX5_stepTells 75 = .ok (.iload_n 3, 1) := by decide +kernel
theorem dX5_stepTells_76 : decode cX5_stepTells 76 = .ok (.invokevirtual 254, 3) := by decide +kernel
theorem dX5_stepTells_79 : decode cX5_stepTells 79 = .ok (.i2l, 1) := by decide +kernel
theorem dX5_stepTells_80 : decode cX5_stepTells 80 = .ok (.ladd, 1) := by decide +kernel
theorem dX5_stepTells_81 : decode cX5_stepTells 81 = .ok (.lstore 4, 2) := by decide +kernel
theorem dX5_stepTells_83 : decode cX5_stepTells 83 = .ok (.ldc2_w 338, 3) := by decide +kernel
theorem dX5_stepTells_86 : decode cX5_stepTells 86 = .ok (.lload 4, 2) := by decide +kernel
theorem dX5_stepTells_88 : decode cX5_stepTells 88 = .ok (.lmul, 1) := by decide +kernel
theorem dX5_stepTells_89 : decode cX5_stepTells 89 = .ok (.aload_n 0, 1) := by decide +kernel
theorem dX5_stepTells_90 : decode cX5_stepTells 90 = .ok (.iload_n 3, 1) := by decide +kernel
theorem dX5_stepTells_91 : decode cX5_stepTells 91 = .ok (.invokevirtual 260, 3) := by decide +kernel
theorem dX5_stepTells_94 : decode cX5_stepTells 94 = .ok (.i2l, 1) := by decide +kernel
theorem dX5_stepTells_95 : decode cX5_stepTells 95 = .ok (.ladd, 1) := by decide +kernel
theorem dX5_stepTells_96 : decode cX5_stepTells 96 = .ok (.lstore 4, 2) := by decide +kernel
theorem dX5_stepTells_98 : decode cX5_stepTells 98 = .ok (.ldc2_w 338, 3) := by decide +kernel
theorem dX5_stepTells_101 : decode cX5_stepTells 101 = .ok (.lload 4, 2) := by decide +kernel
theorem dX5_stepTells_103 : decode cX5_stepTells 103 = .ok (.lmul, 1) := by decide +kernel
theorem dX5_stepTells_104 : decode cX5_stepTells 104 = .ok (.aload_n 0, 1) := by decide +kernel
theorem dX5_stepTells_105 : decode cX5_stepTells 105 = .ok (.iload_n 3, 1) := by decide +kernel
theorem dX5_stepTells_106 : decode cX5_stepTells 106 = .ok (.invokevirtual 269, 3) := by decide +kernel
theorem dX5_stepTells_109 : decode cX5_stepTells 109 = .ok (.i2l, 1) := by decide +kernel
theorem dX5_stepTells_110 : decode cX5_stepTells 110 = .ok (.ladd, 1) := by decide +kernel
theorem dX5_stepTells_111 : decode cX5_stepTells 111 = .ok (.lstore 4, 2) := by decide +kernel
theorem dX5_stepTells_113 : decode cX5_stepTells 113 = .ok (.iconst 0, 1) := by decide +kernel
theorem dX5_stepTells_114 : decode cX5_stepTells 114 = .ok (.istore 6, 2) := by decide +kernel
theorem dX5_stepTells_116 : decode cX5_stepTells 116 = .ok (.iload 6, 2) := by decide +kernel
theorem dX5_stepTells_118 : decode cX5_stepTells 118 = .ok (.iconst 3, 1) := by decide +kernel
theorem dX5_stepTells_119 : decode cX5_stepTells 119 = .ok (.if_icmp .ge 26, 3) := by decide +kernel
theorem dX5_stepTells_122 : decode cX5_stepTells 122 = .ok (.ldc2_w 338, 3) := by decide +kernel
theorem dX5_stepTells_125 : decode cX5_stepTells 125 = .ok (.lload 4, 2) := by decide +kernel
theorem dX5_stepTells_127 : decode cX5_stepTells 127 = .ok (.lmul, 1) := by decide +kernel
theorem dX5_stepTells_128 : decode cX5_stepTells 128 = .ok (.aload_n 0, 1) := by decide +kernel
theorem dX5_stepTells_129 : decode cX5_stepTells 129 = .ok (.iload_n 3, 1) := by decide +kernel
theorem dX5_stepTells_130 : decode cX5_stepTells 130 = .ok (.iload 6, 2) := by decide +kernel
theorem dX5_stepTells_132 : decode cX5_stepTells 132 = .ok (.invokevirtual 276, 3) := by decide +kernel
theorem dX5_stepTells_135 : decode cX5_stepTells 135 = .ok (.i2l, 1) := by decide +kernel
