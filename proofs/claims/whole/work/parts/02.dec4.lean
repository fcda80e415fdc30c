theorem dX5_mayChain_69 : decode cX5_mayChain 69 = .ok (.i2l, 1) := by decide +kernel
theorem dX5_mayChain_70 : decode cX5_mayChain 70 = .ok (.lconst 0, 1) := by decide +kernel
theorem dX5_mayChain_71 : decode cX5_mayChain 71 = .ok (.ldc2_w 132, 3) := by decide +kernel
theorem dX5_mayChain_74 : decode cX5_mayChain 74 = .ok (.invokestatic 89, 3) := by decide +kernel
theorem dX5_mayChain_77 : decode cX5_mayChain 77 = .ok (.ireturn, 1) := by decide +kernel
theorem dX5_mayChain_78 : decode cX5_mayChain 78 = .ok (.iload_n 1, 1) := by decide +kernel
theorem dX5_mayChain_79 : decode cX5_mayChain 79 = .ok (.i2l, 1) := by decide +kernel
theorem dX5_mayChain_80 : decode cX5_mayChain 80 = .ok (.lconst 0, 1) := by decide +kernel
theorem dX5_mayChain_81 : decode cX5_mayChain 81 = .ok (.ldc2_w 134, 3) := by decide +kernel
theorem dX5_mayChain_84 : decode cX5_mayChain 84 = .ok (.invokestatic 89, 3) := by decide +kernel
theorem dX5_mayChain_87 : decode cX5_mayChain 87 = .ok (.ireturn, 1) := by decide +kernel
theorem dX5_mayChain_88 : decode cX5_mayChain 88 = .ok (.iconst 0, 1) := by decide +kernel
theorem dX5_mayChain_89 : decode cX5_mayChain 89 = .ok (.ireturn, 1) := by decide +kernel
theorem dX5_chain_0 : decode cX5_chain 0 = .ok (.iload_n 1, 1) := by decide +kernel
theorem dX5_chain_1 : decode cX5_chain 1 = .ok (.invokestatic 121, 3) := by decide +kernel
theorem dX5_chain_4 : decode cX5_chain 4 = .ok (.ifCond .eq 11, 3) := by decide +kernel
theorem dX5_chain_7 : decode cX5_chain 7 = .ok (.iload_n 2, 1) := by decide +kernel
theorem dX5_chain_8 : decode cX5_chain 8 = .ok (.iload_n 3, 1) := by decide +kernel
theorem dX5_chain_9 : decode cX5_chain 9 = .ok (.invokestatic 136, 3) := by decide +kernel
theorem dX5_chain_12 : decode cX5_chain 12 = .ok (.ifCond .ne 6, 3) := by decide +kernel
theorem dX5_chain_15 : decode cX5_chain 15 = .ok (.bipush (-2), 2) := by decide +kernel
theorem dX5_chain_17 : decode cX5_chain 17 = .ok (.ireturn, 1) := by decide +kernel
theorem dX5_chain_18 : decode cX5_chain 18 = .ok (.aload_n 0, 1) := by decide +kernel
theorem dX5_chain_19 : decode cX5_chain 19 = .ok (.iload_n 1, 1) := by decide +kernel
theorem dX5_chain_20 : decode cX5_chain 20 = .ok (.iload_n 2, 1) := by decide +kernel
theorem dX5_chain_21 : decode cX5_chain 21 = .ok (.invokevirtual 140, 3) := by decide +kernel
theorem dX5_chain_24 : decode cX5_chain 24 = .ok (.istore 4, 2) := by decide +kernel
theorem dX5_chain_26 : decode cX5_chain 26 = .ok (.iload_n 2, 1) := by decide +kernel
theorem dX5_chain_27 : decode cX5_chain 27 = .ok (.tableswitch 69 0 3 #[29, 39, 49, 59], 29) := by decide +kernel
theorem dX5_chain_56 : decode cX5_chain 56 = .ok (.aload_n 0, 1) := by decide +kernel
theorem dX5_chain_57 : decode cX5_chain 57 = .ok (.getfield 23, 3) := by decide +kernel
theorem dX5_chain_60 : decode cX5_chain 60 = .ok (.iload_n 1, 1) := by decide +kernel
theorem dX5_chain_61 : decode cX5_chain 61 = .ok (.iload_n 3, 1) := by decide +kernel
theorem dX5_chain_62 : decode cX5_chain 62 = .ok (.iastore, 1) := by decide +kernel
theorem dX5_chain_63 : decode cX5_chain 63 = .ok (.goto 40, 3) := by decide +kernel
theorem dX5_chain_66 : decode cX5_chain 66 = .ok (.aload_n 0, 1) := by decide +kernel
theorem dX5_chain_67 : decode cX5_chain 67 = .ok (.getfield 26, 3) := by decide +kernel
theorem dX5_chain_70 : decode cX5_chain 70 = .ok (.iload_n 1, 1) := by decide +kernel
theorem dX5_chain_71 : decode cX5_chain 71 = .ok (.iload_n 3, 1) := by decide +kernel
theorem dX5_chain_72 : decode cX5_chain 72 = .ok (.iastore, 1) := by decide +kernel
theorem dX5_chain_73 : decode cX5_chain 73 = .ok (.goto 30, 3) := by decide +kernel
theorem dX5_chain_76 : decode cX5_chain 76 = .ok (.aload_n 0, 1) := by decide +kernel
theorem dX5_chain_77 : decode cX5_chain 77 = .ok (.getfield 29, 3) := by decide +kernel
theorem dX5_chain_80 : decode cX5_chain 80 = .ok (.iload_n 1, 1) := by decide +kernel
theorem dX5_chain_81 : decode cX5_chain 81 = .ok (.iload_n 3, 1) := by decide +kernel
theorem dX5_chain_82 : decode cX5_chain 82 = .ok (.iastore, 1) := by decide +kernel
theorem dX5_chain_83 : decode cX5_chain 83 = .ok (.goto 20, 3) := by decide +kernel
theorem dX5_chain_86 : decode cX5_chain 86 = .ok (.aload_n 0, 1) := by decide +kernel
theorem dX5_chain_87 : decode cX5_chain 87 = .ok (.getfield 32, 3) := by decide +kernel
theorem dX5_chain_90 : decode cX5_chain 90 = .ok (.iload_n 1, 1) := by decide +kernel
theorem dX5_chain_91 : decode cX5_chain 91 = .ok (.iload_n 3, 1) := by decide +kernel
theorem dX5_chain_92 : decode cX5_chain 92 = .ok (.iastore, 1) := by decide +kernel
theorem dX5_chain_93 : decode cX5_chain 93 = .ok (.goto 10, 3) := by decide +kernel
theorem dX5_chain_96 : decode cX5_chain 96 = .ok (.aload_n 0, 1) := by decide +kernel
theorem dX5_chain_97 : decode cX5_chain 97 = .ok (.getfield 35, 3) := by decide +kernel
theorem dX5_chain_100 : decode cX5_chain 100 = .ok (.iload_n 1, 1) := by decide +kernel
theorem dX5_chain_101 : decode cX5_chain 101 = .ok (.iload_n 3, 1) := by decide +kernel
theorem dX5_chain_102 : decode cX5_chain 102 = .ok (.iastore, 1) := by decide +kernel
theorem dX5_chain_103 : decode cX5_chain 103 = .ok (.iload 4, 2) := by decide +kernel
theorem dX5_chain_105 : decode cX5_chain 105 = .ok (.ireturn, 1) := by decide +kernel
theorem dX5_mayStep_0 : decode cX5_mayStep 0 = .ok (.iload_n 0, 1) := by decide +kernel
theorem dX5_mayStep_1 : decode cX5_mayStep 1 = .ok (.tableswitch 65 0 3 #[31, 38, 47, 56], 31) := by decide +kernel
theorem dX5_mayStep_32 : decode cX5_mayStep 32 = .ok (.lload_n 1, 1) := by decide +kernel
theorem dX5_mayStep_33 : decode cX5_mayStep 33 = .ok (.lconst 0, 1) := by decide +kernel
theorem dX5_mayStep_34 : decode cX5_mayStep 34 = .ok (.lconst 1, 1) := by decide +kernel
theorem dX5_mayStep_35 : decode cX5_mayStep 35 = .ok (.invokestatic 89, 3) := by decide +kernel
theorem dX5_mayStep_38 : decode cX5_mayStep 38 = .ok (.ireturn, 1) := by decide +kernel
theorem dX5_mayStep_39 : decode cX5_mayStep 39 = .ok (.lload_n 1, 1) := by decide +kernel
theorem dX5_mayStep_40 : decode cX5_mayStep 40 = .ok (.lconst 1, 1) := by decide +kernel
theorem dX5_mayStep_41 : decode cX5_mayStep 41 = .ok (.ldc2_w 144, 3) := by decide +kernel
theorem dX5_mayStep_44 : decode cX5_mayStep 44 = .ok (.invokestatic 89, 3) := by decide +kernel
theorem dX5_mayStep_47 : decode cX5_mayStep 47 = .ok (.ireturn, 1) := by decide +kernel
theorem dX5_mayStep_48 : decode cX5_mayStep 48 = .ok (.lload_n 1, 1) := by decide +kernel
theorem dX5_mayStep_49 : decode cX5_mayStep 49 = .ok (.lconst 0, 1) := by decide +kernel
theorem dX5_mayStep_50 : decode cX5_mayStep 50 = .ok (.ldc2_w 134, 3) := by decide +kernel
theorem dX5_mayStep_53 : decode cX5_mayStep 53 = .ok (.invokestatic 89, 3) := by decide +kernel
theorem dX5_mayStep_56 : decode cX5_mayStep 56 = .ok (.ireturn, 1) := by decide +kernel
theorem dX5_mayStep_57 : decode cX5_mayStep 57 = .ok (.lload_n 1, 1) := by decide +kernel
theorem dX5_mayStep_58 : decode cX5_mayStep 58 = .ok (.lconst 0, 1) := by decide +kernel
theorem dX5_mayStep_59 : decode cX5_mayStep 59 = .ok (.ldc2_w 144, 3) := by decide +kernel
theorem dX5_mayStep_62 : decode cX5_mayStep 62 = .ok (.invokestatic 89, 3) := by decide +kernel
theorem dX5_mayStep_65 : decode cX5_mayStep 65 = .ok (.ireturn, 1) := by decide +kernel
theorem dX5_mayStep_66 : decode cX5_mayStep 66 = .ok (.iconst 0, 1) := by decide +kernel
theorem dX5_mayStep_67 : decode cX5_mayStep 67 = .ok (.ireturn, 1) := by decide +kernel
theorem dX5_tells_0 : decode cX5_tells 0 = .ok (.iload_n 2, 1) := by decide +kernel
theorem dX5_tells_1 : decode cX5_tells 1 = .ok (.tableswitch 57 0 2 #[27, 37, 47], 27) := by decide +kernel
theorem dX5_tells_28 : decode cX5_tells 28 = .ok (.aload_n 0, 1) := by decide +kernel
theorem dX5_tells_29 : decode cX5_tells 29 = .ok (.getfield 41, 3) := by decide +kernel
theorem dX5_tells_32 : decode cX5_tells 32 = .ok (.iload_n 1, 1) := by decide +kernel
theorem dX5_tells_33 : decode cX5_tells 33 = .ok (.iload_n 3, 1) := by decide +kernel
theorem dX5_tells_34 : decode cX5_tells 34 = .ok (.iastore, 1) := by decide +kernel
theorem dX5_tells_35 : decode cX5_tells 35 = .ok (.goto 30, 3) := by decide +kernel
theorem dX5_tells_38 : decode cX5_tells 38 = .ok (.aload_n 0, 1) := by decide +kernel
theorem dX5_tells_39 : decode cX5_tells 39 = .ok (.getfield 44, 3) := by decide +kernel
theorem dX5_tells_42 : decode cX5_tells 42 = .ok (.iload_n 1, 1) := by decide +kernel
theorem dX5_tells_43 : decode cX5_tells 43 = .ok (.iload_n 3, 1) := by decide +kernel
theorem dX5_tells_44 : decode cX5_tells 44 = .ok (.iastore, 1) := by decide +kernel
theorem dX5_tells_45 : decode cX5_tells 45 = .ok (.goto 20, 3) := by decide +kernel
theorem dX5_tells_48 : decode cX5_tells 48 = .ok (.aload_n 0, 1) := by decide +kernel
theorem dX5_tells_49 : decode cX5_tells 49 = .ok (.getfield 47, 3) := by decide +kernel
theorem dX5_tells_52 : decode cX5_tells 52 = .ok (.iload_n 1, 1) := by decide +kernel
theorem dX5_tells_53 : decode cX5_tells 53 = .ok (.iload_n 3, 1) := by decide +kernel
theorem dX5_tells_54 : decode cX5_tells 54 = .ok (.iastore, 1) := by decide +kernel
theorem dX5_tells_55 : decode cX5_tells 55 = .ok (.goto 10, 3) := by decide +kernel
theorem dX5_tells_58 : decode cX5_tells 58 = .ok (.aload_n 0, 1) := by decide +kernel
theorem dX5_tells_59 : decode cX5_tells 59 = .ok (.getfield 50, 3) := by decide +kernel
theorem dX5_tells_62 : decode cX5_tells 62 = .ok (.iload_n 1, 1) := by decide +kernel
theorem dX5_tells_63 : decode cX5_tells 63 = .ok (.iload_n 3, 1) := by decide +kernel
theorem dX5_tells_64 : decode cX5_tells 64 = .ok (.iastore, 1) := by decide +kernel
theorem dX5_tells_65 : decode cX5_tells 65 = .ok (.return_, 1) := by decide +kernel
theorem dX5_step_0 : decode cX5_step 0 = .ok (.iload_n 1, 1) := by decide +kernel
theorem dX5_step_1 : decode cX5_step 1 = .ok (.invokestatic 121, 3) := by decide +kernel
theorem dX5_step_4 : decode cX5_step 4 = .ok (.ifCond .eq 41, 3) := by decide +kernel
theorem dX5_step_7 : decode cX5_step 7 = .ok (.iconst 0, 1) := by decide +kernel
theorem dX5_step_8 : decode cX5_step 8 = .ok (.iload_n 2, 1) := by decide +kernel
theorem dX5_step_9 : decode cX5_step 9 = .ok (.i2l, 1) := by decide +kernel
theorem dX5_step_10 : decode cX5_step 10 = .ok (.invokestatic 146, 3) := by decide +kernel
theorem dX5_step_13 : decode cX5_step 13 = .ok (.ifCond .eq 32, 3) := by decide +kernel
theorem dX5_step_16 : decode cX5_step 16 = .ok (.iconst 1, 1) := by decide +kernel
theorem dX5_step_17 : decode cX5_step 17 = .ok (.iload_n 3, 1) := by decide +kernel
theorem dX5_step_18 : decode cX5_step 18 = .ok (.i2l, 1) := by decide +kernel
theorem dX5_step_19 : decode cX5_step 19 = .ok (.invokestatic 146, 3) := by decide +kernel
theorem dX5_step_22 : decode cX5_step 22 = .ok (.ifCond .eq 23, 3) := by decide +kernel
theorem dX5_step_25 : decode cX5_step 25 = .ok (.iconst 2, 1) := by decide +kernel
theorem dX5_step_26 : decode cX5_step 26 = .ok (.iload 4, 2) := by decide +kernel
theorem dX5_step_28 : decode cX5_step 28 = .ok (.i2l, 1) := by decide +kernel
theorem dX5_step_29 : decode cX5_step 29 = .ok (.invokestatic 146, 3) := by decide +kernel
theorem dX5_step_32 : decode cX5_step 32 = .ok (.ifCond .eq 13, 3) := by decide +kernel
theorem dX5_step_35 : decode cX5_step 35 = .ok (.iconst 3, 1) := by decide +kernel
theorem dX5_step_36 : decode cX5_step 36 = .ok (.iload 5, 2) := by decide +kernel
theorem dX5_step_38 : decode cX5_step 38 = .ok (.i2l, 1) := by decide +kernel
theorem dX5_step_39 : decode cX5_step 39 = .ok (.invokestatic 146, 3) := by decide +kernel
theorem dX5_step_42 : decode cX5_step 42 = .ok (.ifCond .ne 6, 3) := by decide +kernel
theorem dX5_step_45 : decode cX5_step 45 = .ok (.bipush (-2), 2) := by decide +kernel
theorem dX5_step_47 : decode cX5_step 47 = .ok (.ireturn, 1) := by decide +kernel
theorem dX5_step_48 : decode cX5_step 48 = .ok (.aload_n 0, 1) := by decide +kernel
theorem dX5_step_49 : decode cX5_step 49 = .ok (.getfield 38, 3) := by decide +kernel
theorem dX5_step_52 : decode cX5_step 52 = .ok (.iload_n 1, 1) := by decide +kernel
theorem dX5_step_53 : decode cX5_step 53 = .ok (.iaload, 1) := by decide +kernel
theorem dX5_step_54 : decode cX5_step 54 = .ok (.iconst 3, 1) := by decide +kernel
theorem dX5_step_55 : decode cX5_step 55 = .ok (.if_icmp .ne 6, 3) := by decide +kernel
theorem dX5_step_58 : decode cX5_step 58 = .ok (.bipush (-4), 2) := by decide +kernel
theorem dX5_step_60 : decode cX5_step 60 = .ok (.ireturn, 1) := by decide +kernel
theorem dX5_step_61 : decode cX5_step 61 = .ok (.iconst 3, 1) := by decide +kernel
theorem dX5_step_62 : decode cX5_step 62 = .ok (.iload_n 1, 1) := by decide +kernel
theorem dX5_step_63 : decode cX5_step 63 = .ok (.imul, 1) := by decide +kernel
theorem dX5_step_64 : decode cX5_step 64 = .ok (.aload_n 0, 1) := by decide +kernel
theorem dX5_step_65 : decode cX5_step 65 = .ok (.getfield 38, 3) := by decide +kernel
theorem dX5_step_68 : decode cX5_step 68 = .ok (.iload_n 1, 1) := by decide +kernel
theorem dX5_step_69 : decode cX5_step 69 = .ok (.iaload, 1) := by decide +kernel
theorem dX5_step_70 : decode cX5_step 70 = .ok (.iadd, 1) := by decide +kernel
theorem dX5_step_71 : decode cX5_step 71 = .ok (.istore 6, 2) := by decide +kernel
theorem dX5_step_73 : decode cX5_step 73 = .ok (.aload_n 0, 1) := by decide +kernel
theorem dX5_step_74 : decode cX5_step 74 = .ok (.iload 6, 2) := by decide +kernel
theorem dX5_step_76 : decode cX5_step 76 = .ok (.iconst 0, 1) := by decide +kernel
theorem dX5_step_77 : decode cX5_step 77 = .ok (.iload_n 2, 1) := by decide +kernel
theorem dX5_step_78 : decode cX5_step 78 = .ok (.invokevirtual 150, 3) := by decide +kernel
theorem dX5_step_81 : decode cX5_step 81 = .ok (.aload_n 0, 1) := by decide +kernel
theorem dX5_step_82 : decode cX5_step 82 = .ok (.iload 6, 2) := by decide +kernel
theorem dX5_step_84 : decode cX5_step 84 = .ok (.iconst 1, 1) := by decide +kernel
theorem dX5_step_85 : decode cX5_step 85 = .ok (.iload_n 3, 1) := by decide +kernel
theorem dX5_step_86 : decode cX5_step 86 = .ok (.invokevirtual 150, 3) := by decide +kernel
theorem dX5_step_89 : decode cX5_step 89 = .ok (.aload_n 0, 1) := by decide +kernel
theorem dX5_step_90 : decode cX5_step 90 = .ok (.iload 6, 2) := by decide +kernel
theorem dX5_step_92 : decode cX5_step 92 = .ok (.iconst 2, 1) := by decide +kernel
theorem dX5_step_93 : decode cX5_step 93 = .ok (.iload 4, 2) := by decide +kernel
theorem dX5_step_95 : decode cX5_step 95 = .ok (.invokevirtual 150, 3) := by decide +kernel
theorem dX5_step_98 : decode cX5_step 98 = .ok (.aload_n 0, 1) := by decide +kernel
theorem dX5_step_99 : decode cX5_step 99 = .ok (.iload 6, 2) := by decide +kernel
theorem dX5_step_101 : decode cX5_step 101 = .ok (.iconst 3, 1) := by decide +kernel
theorem dX5_step_102 : decode cX5_step 102 = .ok (.iload 5, 2) := by decide +kernel
theorem dX5_step_104 : decode cX5_step 104 = .ok (.invokevirtual 150, 3) := by decide +kernel
theorem dX5_step_107 : decode cX5_step 107 = .ok (.aload_n 0, 1) := by decide +kernel
theorem dX5_step_108 : decode cX5_step 108 = .ok (.getfield 38, 3) := by decide +kernel
theorem dX5_step_111 : decode cX5_step 111 = .ok (.iload_n 1, 1) := by decide +kernel
theorem dX5_step_112 : decode cX5_step 112 = .ok (.dup2, 1) := by decide +kernel
theorem dX5_step_113 : decode cX5_step 113 = .ok (.iaload, 1) := by decide +kernel
theorem dX5_step_114 : decode cX5_step 114 = .ok (.iconst 1, 1) := by decide +kernel
theorem dX5_step_115 : decode cX5_step 115 = .ok (.iadd, 1) := by decide +kernel
theorem dX5_step_116 : decode cX5_step 116 = .ok (.iastore, 1) := by decide +kernel
theorem dX5_step_117 : decode cX5_step 117 = .ok (.aload_n 0, 1) := by decide +kernel
theorem dX5_step_118 : decode cX5_step 118 = .ok (.getfield 38, 3) := by decide +kernel
theorem dX5_step_121 : decode cX5_step 121 = .ok (.iload_n 1, 1) := by decide +kernel
theorem dX5_step_122 : decode cX5_step 122 = .ok (.iaload, 1) := by decide +kernel
theorem dX5_step_123 : decode cX5_step 123 = .ok (.iconst 1, 1) := by decide +kernel
theorem dX5_step_124 : decode cX5_step 124 = .ok (.isub, 1) := by decide +kernel
theorem dX5_step_125 : decode cX5_step 125 = .ok (.ireturn, 1) := by decide +kernel
theorem dX5_back_0 : decode cX5_back 0 = .ok (.iload_n 1, 1) := by decide +kernel
theorem dX5_back_1 : decode cX5_back 1 = .ok (.invokestatic 121, 3) := by decide +kernel
theorem dX5_back_4 : decode cX5_back 4 = .ok (.ifCond .ne 6, 3) := by decide +kernel
theorem dX5_back_7 : decode cX5_back 7 = .ok (.bipush (-2), 2) := by decide +kernel
theorem dX5_back_9 : decode cX5_back 9 = .ok (.ireturn, 1) := by decide +kernel
theorem dX5_back_10 : decode cX5_back 10 = .ok (.aload_n 0, 1) := by decide +kernel
theorem dX5_back_11 : decode cX5_back 11 = .ok (.getfield 38, 3) := by decide +kernel
theorem dX5_back_14 : decode cX5_back 14 = .ok (.iload_n 1, 1) := by decide +kernel
theorem dX5_back_15 : decode cX5_back 15 = .ok (.iaload, 1) := by decide +kernel
theorem dX5_back_16 : decode cX5_back 16 = .ok (.ifCond .ne 6, 3) := by decide +kernel
theorem dX5_back_19 : decode cX5_back 19 = .ok (.bipush (-3), 2) := by decide +kernel
theorem dX5_back_21 : decode cX5_back 21 = .ok (.ireturn, 1) := by decide +kernel
theorem dX5_back_22 : decode cX5_back 22 = .ok (.aload_n 0, 1) := by decide +kernel
theorem dX5_back_23 : decode cX5_back 23 = .ok (.getfield 38, 3) := by decide +kernel
theorem dX5_back_26 : decode cX5_back 26 = .ok (.iload_n 1, 1) := by decide +kernel
theorem dX5_back_27 : decode cX5_back 27 = .ok (.dup2, 1) := by decide +kernel
theorem dX5_back_28 : decode cX5_back 28 = .ok (.iaload, 1) := by decide +kernel
theorem dX5_back_29 : decode cX5_back 29 = .ok (.iconst 1, 1) := by decide +kernel
theorem dX5_back_30 : decode cX5_back 30 = .ok (.isub, 1) := by decide +kernel
theorem dX5_back_31 : decode cX5_back 31 = .ok (.iastore, 1) := by decide +kernel
theorem dX5_back_32 : decode cX5_back 32 = .ok (.aload_n 0, 1) := by decide +kernel
theorem dX5_back_33 : decode cX5_back 33 = .ok (.getfield 38, 3) := by decide +kernel
theorem dX5_back_36 : decode cX5_back 36 = .ok (.iload_n 1, 1) := by decide +kernel
theorem dX5_back_37 : decode cX5_back 37 = .ok (.iaload, 1) := by decide +kernel
theorem dX5_back_38 : decode cX5_back 38 = .ok (.ireturn, 1) := by decide +kernel
theorem dX5_toldBy_0 : decode cX5_toldBy 0 = .ok (.iload_n 2, 1) := by decide +kernel
theorem dX5_toldBy_1 : decode cX5_toldBy 1 = .ok (.ifCond .ne 12, 3) := by decide +kernel
theorem dX5_toldBy_4 : decode cX5_toldBy 4 = .ok (.aload_n 0, 1) := by decide +kernel
theorem dX5_toldBy_5 : decode cX5_toldBy 5 = .ok (.getfield 41, 3) := by decide +kernel
theorem dX5_toldBy_8 : decode cX5_toldBy 8 = .ok (.iload_n 1, 1) := by decide +kernel
theorem dX5_toldBy_9 : decode cX5_toldBy 9 = .ok (.iaload, 1) := by decide +kernel
theorem dX5_toldBy_10 : decode cX5_toldBy 10 = .ok (.goto 37, 3) := by decide +kernel
theorem dX5_toldBy_13 : decode cX5_toldBy 13 = .ok (.iload_n 2, 1) := by decide +kernel
theorem dX5_toldBy_14 : decode cX5_toldBy 14 = .ok (.iconst 1, 1) := by decide +kernel
theorem dX5_toldBy_15 : decode cX5_toldBy 15 = .ok (.if_icmp .ne 12, 3) := by decide +kernel
theorem dX5_toldBy_18 : decode cX5_toldBy 18 = .ok (.aload_n 0, 1) := by decide +kernel
theorem dX5_toldBy_19 : decode cX5_toldBy 19 = .ok (.getfield 44, 3) := by decide +kernel
theorem dX5_toldBy_22 : decode cX5_toldBy 22 = .ok (.iload_n 1, 1) := by decide +kernel
theorem dX5_toldBy_23 : decode cX5_toldBy 23 = .ok (.iaload, 1) := by decide +kernel
theorem dX5_toldBy_24 : decode cX5_toldBy 24 = .ok (.goto 23, 3) := by decide +kernel
theorem dX5_toldBy_27 : decode cX5_toldBy 27 = .ok (.iload_n 2, 1) := by decide +kernel
theorem dX5_toldBy_28 : decode cX5_toldBy 28 = .ok (.iconst 2, 1) := by decide +kernel
theorem dX5_toldBy_29 : decode cX5_toldBy 29 = .ok (.if_icmp .ne 12, 3) := by decide +kernel
theorem dX5_toldBy_32 : decode cX5_toldBy 32 = .ok (.aload_n 0, 1) := by decide +kernel
theorem dX5_toldBy_33 : decode cX5_toldBy 33 = .ok (.getfield 47, 3) := by decide +kernel
theorem dX5_toldBy_36 : decode cX5_toldBy 36 = .ok (.iload_n 1, 1) := by decide +kernel
theorem dX5_toldBy_37 : decode cX5_toldBy 37 = .ok (.iaload, 1) := by decide +kernel
theorem dX5_toldBy_38 : decode cX5_toldBy 38 = .ok (.goto 9, 3) := by decide +kernel
theorem dX5_toldBy_41 : decode cX5_toldBy 41 = .ok (.aload_n 0, 1) := by decide +kernel
theorem dX5_toldBy_42 : decode cX5_toldBy 42 = .ok (.getfield 50, 3) := by decide +kernel
theorem dX5_toldBy_45 : decode cX5_toldBy 45 = .ok (.iload_n 1, 1) := by decide +kernel
theorem dX5_toldBy_46 : decode cX5_toldBy 46 = .ok (.iaload, 1) := by decide +kernel
theorem dX5_toldBy_47 : decode cX5_toldBy 47 = .ok (.ireturn, 1) := by decide +kernel
theorem dX5_tune_0 : decode cX5_tune 0 = .ok (.aload_n 0, 1) := by decide +kernel
theorem dX5_tune_1 : decode cX5_tune 1 = .ok (.iload_n 1, 1) := by decide +kernel
theorem dX5_tune_2 : decode cX5_tune 2 = .ok (.iload_n 2, 1) := by decide +kernel
theorem dX5_tune_3 : decode cX5_tune 3 = .ok (.invokevirtual 154, 3) := by decide +kernel
theorem dX5_tune_6 : decode cX5_tune 6 = .ok (.ifCond .eq 13, 3) := by decide +kernel
theorem dX5_tune_9 : decode cX5_tune 9 = .ok (.iload_n 3, 1) := by decide +kernel
theorem dX5_tune_10 : decode cX5_tune 10 = .ok (.iload 4, 2) := by decide +kernel
theorem dX5_tune_12 : decode cX5_tune 12 = .ok (.i2l, 1) := by decide +kernel
theorem dX5_tune_13 : decode cX5_tune 13 = .ok (.invokestatic 146, 3) := by decide +kernel
theorem dX5_tune_16 : decode cX5_tune 16 = .ok (.ifCond .ne 6, 3) := by decide +kernel
theorem dX5_tune_19 : decode cX5_tune 19 = .ok (.bipush (-2), 2) := by decide +kernel
theorem dX5_tune_21 : decode cX5_tune 21 = .ok (.ireturn, 1) := by decide +kernel
theorem dX5_tune_22 : decode cX5_tune 22 = .ok (.aload_n 0, 1) := by decide +kernel
theorem dX5_tune_23 : decode cX5_tune 23 = .ok (.iconst 3, 1) := by decide +kernel
theorem dX5_tune_24 : decode cX5_tune 24 = .ok (.iload_n 1, 1) := by decide +kernel
theorem dX5_tune_25 : decode cX5_tune 25 = .ok (.imul, 1) := by decide +kernel
theorem dX5_tune_26 : decode cX5_tune 26 = .ok (.iload_n 2, 1) := by decide +kernel
theorem dX5_tune_27 : decode cX5_tune 27 = .ok (.iadd, 1) := by decide +kernel
theorem dX5_tune_28 : decode cX5_tune 28 = .ok (.iload_n 3, 1) := by decide +kernel
theorem dX5_tune_29 : decode cX5_tune 29 = .ok (.invokevirtual 157, 3) := by decide +kernel
theorem dX5_tune_32 : decode cX5_tune 32 = .ok (.istore 5, 2) := by decide +kernel
theorem dX5_tune_34 : decode cX5_tune 34 = .ok (.aload_n 0, 1) := by decide +kernel
theorem dX5_tune_35 : decode cX5_tune 35 = .ok (.iconst 3, 1) := by decide +kernel
theorem dX5_tune_36 : decode cX5_tune 36 = .ok (.iload_n 1, 1) := by decide +kernel
theorem dX5_tune_37 : decode cX5_tune 37 = .ok (.imul, 1) := by decide +kernel
theorem dX5_tune_38 : decode cX5_tune 38 = .ok (.iload_n 2, 1) := by decide +kernel
theorem dX5_tune_39 : decode cX5_tune 39 = .ok (.iadd, 1) := by decide +kernel
theorem dX5_tune_40 : decode cX5_tune 40 = .ok (.iload_n 3, 1) := by decide +kernel
theorem dX5_tune_41 : decode cX5_tune 41 = .ok (.iload 4, 2) := by decide +kernel
theorem dX5_tune_43 : decode cX5_tune 43 = .ok (.invokevirtual 150, 3) := by decide +kernel
theorem dX5_tune_46 : decode cX5_tune 46 = .ok (.iload 5, 2) := by decide +kernel
theorem dX5_tune_48 : decode cX5_tune 48 = .ok (.ireturn, 1) := by decide +kernel
theorem dX5_read_0 : decode cX5_read 0 = .ok (.iload_n 1, 1) := by decide +kernel
theorem dX5_read_1 : decode cX5_read 1 = .ok (.invokestatic 121, 3) := by decide +kernel
theorem dX5_read_4 : decode cX5_read 4 = .ok (.ifCond .eq 10, 3) := by decide +kernel
theorem dX5_read_7 : decode cX5_read 7 = .ok (.iload_n 2, 1) := by decide +kernel
theorem dX5_read_8 : decode cX5_read 8 = .ok (.invokestatic 101, 3) := by decide +kernel
theorem dX5_read_11 : decode cX5_read 11 = .ok (.ifCond .ne 6, 3) := by decide +kernel
theorem dX5_read_14 : decode cX5_read 14 = .ok (.bipush (-2), 2) := by decide +kernel
theorem dX5_read_16 : decode cX5_read 16 = .ok (.ireturn, 1) := by decide +kernel
theorem dX5_read_17 : decode cX5_read 17 = .ok (.aload_n 0, 1) := by decide +kernel
theorem dX5_read_18 : decode cX5_read 18 = .ok (.getfield 7, 3) := by decide +kernel
theorem dX5_read_21 : decode cX5_read 21 = .ok (.iload_n 2, 1) := by decide +kernel
theorem dX5_read_22 : decode cX5_read 22 = .ok (.iaload, 1) := by decide +kernel
theorem dX5_read_23 : decode cX5_read 23 = .ok (.ifCond .ge 9, 3) := by decide +kernel
theorem dX5_read_26 : decode cX5_read 26 = .ok (.aload_n 0, 1) := by decide +kernel
theorem dX5_read_27 : decode cX5_read 27 = .ok (.iconst 1, 1) := by decide +kernel
theorem dX5_read_28 : decode cX5_read 28 = .ok (.invokevirtual 107, 3) := by decide +kernel
theorem dX5_read_31 : decode cX5_read 31 = .ok (.ireturn, 1) := by decide +kernel
theorem dX5_read_32 : decode cX5_read 32 = .ok (.iconst 0, 1) := by decide +kernel
theorem dX5_read_33 : decode cX5_read 33 = .ok (.istore_n 3, 1) := by decide +kernel
theorem dX5_read_34 : decode cX5_read 34 = .ok (.iconst 1, 1) := by decide +kernel
theorem dX5_read_35 : decode cX5_read 35 = .ok (.istore 4, 2) := by decide +kernel
theorem dX5_read_37 : decode cX5_read 37 = .ok (.iconst 0, 1) := by decide +kernel
theorem dX5_read_38 : decode cX5_read 38 = .ok (.istore 5, 2) := by decide +kernel
theorem dX5_read_40 : decode cX5_read 40 = .ok (.iconst 4, 1) := by decide +kernel
theorem dX5_read_41 : decode cX5_read 41 = .ok (.iload 5, 2) := by decide +kernel
theorem dX5_read_43 : decode cX5_read 43 = .ok (.imul, 1) := by decide +kernel
theorem dX5_read_44 : decode cX5_read 44 = .ok (.iconst 3, 1) := by decide +kernel
theorem dX5_read_45 : decode cX5_read 45 = .ok (.iadd, 1) := by decide +kernel
theorem dX5_read_46 : decode cX5_read 46 = .ok (.aload_n 0, 1) := by decide +kernel
theorem dX5_read_47 : decode cX5_read 47 = .ok (.getfield 13, 3) := by decide +kernel
theorem dX5_read_50 : decode cX5_read 50 = .ok (.iload_n 2, 1) := by decide +kernel
theorem dX5_read_51 : decode cX5_read 51 = .ok (.iaload, 1) := by decide +kernel
theorem dX5_read_52 : decode cX5_read 52 = .ok (.if_icmp .ge 150, 3) := by decide +kernel
theorem dX5_read_55 : decode cX5_read 55 = .ok (.iload 4, 2) := by decide +kernel
theorem dX5_read_57 : decode cX5_read 57 = .ok (.ifCond .eq 145, 3) := by decide +kernel
theorem dX5_read_60 : decode cX5_read 60 = .ok (.aload_n 0, 1) := by decide +kernel
theorem dX5_read_61 : decode cX5_read 61 = .ok (.getfield 38, 3) := by decide +kernel
theorem dX5_read_64 : decode cX5_read 64 = .ok (.iload_n 1, 1) := by decide +kernel
theorem dX5_read_65 : decode cX5_read 65 = .ok (.iaload, 1) := by decide +kernel
theorem dX5_read_66 : decode cX5_read 66 = .ok (.iconst 3, 1) := by decide +kernel
theorem dX5_read_67 : decode cX5_read 67 = .ok (.if_icmp .ge 7, 3) := by decide +kernel
theorem dX5_read_70 : decode cX5_read 70 = .ok (.iconst 1, 1) := by decide +kernel
theorem dX5_read_71 : decode cX5_read 71 = .ok (.goto 4, 3) := by decide +kernel
theorem dX5_read_74 : decode cX5_read 74 = .ok (.iconst 0, 1) := by decide +kernel
theorem dX5_read_75 : decode cX5_read 75 = .ok (.istore 4, 2) := by decide +kernel
theorem dX5_read_77 : decode cX5_read 77 = .ok (.iconst 0, 1) := by decide +kernel
theorem dX5_read_78 : decode cX5_read 78 = .ok (.istore 6, 2) := by decide +kernel
theorem dX5_read_80 : decode cX5_read 80 = .ok (.iload 6, 2) := by decide +kernel
theorem dX5_read_82 : decode cX5_read 82 = .ok (.iconst 4, 1) := by decide +kernel
theorem dX5_read_83 : decode cX5_read 83 = .ok (.if_icmp .ge 46, 3) := by decide +kernel
theorem dX5_read_86 : decode cX5_read 86 = .ok (.iload 4, 2) := by decide +kernel
theorem dX5_read_88 : decode cX5_read 88 = .ok (.ifCond .eq 32, 3) := by decide +kernel
theorem dX5_read_91 : decode cX5_read 91 = .ok (.iload 6, 2) := by decide +kernel
theorem dX5_read_93 : decode cX5_read 93 = .ok (.aload_n 0, 1) := by decide +kernel
theorem dX5_read_94 : decode cX5_read 94 = .ok (.getfield 16, 3) := by decide +kernel
theorem dX5_read_97 : decode cX5_read 97 = .ok (.bipush 60, 2) := by decide +kernel
theorem dX5_read_99 : decode cX5_read 99 = .ok (.iload_n 2, 1) := by decide +kernel
theorem dX5_read_100 : decode cX5_read 100 = .ok (.imul, 1) := by decide +kernel
theorem dX5_read_101 : decode cX5_read 101 = .ok (.iconst 4, 1) := by decide +kernel
theorem dX5_read_102 : decode cX5_read 102 = .ok (.iload 5, 2) := by decide +kernel
theorem dX5_read_104 : decode cX5_read 104 = .ok (.imul, 1) := by decide +kernel
theorem dX5_read_105 : decode cX5_read 105 = .ok (.iadd, 1) := by decide +kernel
theorem dX5_read_106 : decode cX5_read 106 = .ok (.iload 6, 2) := by decide +kernel
theorem dX5_read_108 : decode cX5_read 108 = .ok (.iadd, 1) := by decide +kernel
theorem dX5_read_109 : decode cX5_read 109 = .ok (.laload, 1) := by decide +kernel
theorem dX5_read_110 : decode cX5_read 110 = .ok (.invokestatic 146, 3) := by decide +kernel
theorem dX5_read_113 : decode cX5_read 113 = .ok (.ifCond .eq 7, 3) := by decide +kernel
theorem dX5_read_116 : decode cX5_read 116 = .ok (.iconst 1, 1) := by decide +kernel
theorem dX5_read_117 : decode cX5_read 117 = .ok (.goto 4, 3) := by decide +kernel
theorem dX5_read_120 : decode cX5_read 120 = .ok (.iconst 0, 1) := by decide +kernel
theorem dX5_read_121 : decode cX5_read 121 = .ok (.istore 4, 2) := by decide +kernel
theorem dX5_read_123 : decode cX5_read 123 = .ok (.iinc 6 1, 3) := by decide +kernel
theorem dX5_read_126 : decode cX5_read 126 = .ok (.goto (-46), 3) := by decide +kernel
theorem dX5_read_129 : decode cX5_read 129 = .ok (.iload 4, 2) := by decide +kernel
theorem dX5_read_131 : decode cX5_read 131 = .ok (.ifCond .eq 65, 3) := by decide +kernel
theorem dX5_read_134 : decode cX5_read 134 = .ok (.iconst 0, 1) := by decide +kernel
theorem dX5_read_135 : decode cX5_read 135 = .ok (.istore 6, 2) := by decide +kernel
theorem dX5_read_137 : decode cX5_read 137 = .ok (.iload 6, 2) := by decide +kernel
theorem dX5_read_139 : decode cX5_read 139 = .ok (.iconst 4, 1) := by decide +kernel
theorem dX5_read_140 : decode cX5_read 140 = .ok (.if_icmp .ge 43, 3) := by decide +kernel
theorem dX5_read_143 : decode cX5_read 143 = .ok (.aload_n 0, 1) := by decide +kernel
theorem dX5_read_144 : decode cX5_read 144 = .ok (.iconst 3, 1) := by decide +kernel
theorem dX5_read_145 : decode cX5_read 145 = .ok (.iload_n 1, 1) := by decide +kernel
theorem dX5_read_146 : decode cX5_read 146 = .ok (.imul, 1) := by decide +kernel
theorem dX5_read_147 : decode cX5_read 147 = .ok (.aload_n 0, 1) := by decide +kernel
theorem dX5_read_148 : decode cX5_read 148 = .ok (.getfield 38, 3) := by decide +kernel
theorem dX5_read_151 : decode cX5_read 151 = .ok (.iload_n 1, 1) := by decide +kernel
theorem dX5_read_152 : decode cX5_read 152 = .ok (.iaload, 1) := by decide +kernel
theorem dX5_read_153 : decode cX5_read 153 = .ok (.iadd, 1) := by decide +kernel
theorem dX5_read_154 : decode cX5_read 154 = .ok (.iload 6, 2) := by decide +kernel
theorem dX5_read_156 : decode cX5_read 156 = .ok (.aload_n 0, 1) := by decide +kernel
theorem dX5_read_157 : decode cX5_read 157 = .ok (.getfield 16, 3) := by decide +kernel
theorem dX5_read_160 : decode cX5_read 160 = .ok (.bipush 60, 2) := by decide +kernel
theorem dX5_read_162 : decode cX5_read 162 = .ok (.iload_n 2, 1) := by decide +kernel
theorem dX5_read_163 : decode cX5_read 163 = .ok (.imul, 1) := by decide +kernel
theorem dX5_read_164 : decode cX5_read 164 = .ok (.iconst 4, 1) := by decide +kernel
theorem dX5_read_165 : decode cX5_read 165 = .ok (.iload 5, 2) := by decide +kernel
theorem dX5_read_167 : decode cX5_read 167 = .ok (.imul, 1) := by decide +kernel
theorem dX5_read_168 : decode cX5_read 168 = .ok (.iadd, 1) := by decide +kernel
theorem dX5_read_169 : decode cX5_read 169 = .ok (.iload 6, 2) := by decide +kernel
theorem dX5_read_171 : decode cX5_read 171 = .ok (.iadd, 1) := by decide +kernel
theorem dX5_read_172 : decode cX5_read 172 = .ok (.laload, 1) := by decide +kernel
theorem dX5_read_173 : decode cX5_read 173 = .ok (.l2i, 1) := by decide +kernel
theorem dX5_read_174 : decode cX5_read 174 = .ok (.invokevirtual 150, 3) := by decide +kernel
theorem dX5_read_177 : decode cX5_read 177 = .ok (.iinc 6 1, 3) := by decide +kernel
theorem dX5_read_180 : decode cX5_read 180 = .ok (.goto (-43), 3) := by decide +kernel
theorem dX5_read_183 : decode cX5_read 183 = .ok (.aload_n 0, 1) := by decide +kernel
theorem dX5_read_184 : decode cX5_read 184 = .ok (.getfield 38, 3) := by decide +kernel
theorem dX5_read_187 : decode cX5_read 187 = .ok (.iload_n 1, 1) := by decide +kernel
theorem dX5_read_188 : decode cX5_read 188 = .ok (.dup2, 1) := by decide +kernel
theorem dX5_read_189 : decode cX5_read 189 = .ok (.iaload, 1) := by decide +kernel
theorem dX5_read_190 : decode cX5_read 190 = .ok (.iconst 1, 1) := by decide +kernel
theorem dX5_read_191 : decode cX5_read 191 = .ok (.iadd, 1) := by decide +kernel
theorem dX5_read_192 : decode cX5_read 192 = .ok (.iastore, 1) := by decide +kernel
theorem dX5_read_193 : decode cX5_read 193 = .ok (.iinc 3 1, 3) := by decide +kernel
theorem dX5_read_196 : decode cX5_read 196 = .ok (.iinc 5 1, 3) := by decide +kernel
theorem dX5_read_199 : decode cX5_read 199 = .ok (.goto (-159), 3) := by decide +kernel
theorem dX5_read_202 : decode cX5_read 202 = .ok (.iload_n 3, 1) := by decide +kernel
theorem dX5_read_203 : decode cX5_read 203 = .ok (.ireturn, 1) := by decide +kernel
theorem dX5_has_0 : decode cX5_has 0 = .ok (.iload_n 1, 1) := by decide +kernel
theorem dX5_has_1 : decode cX5_has 1 = .ok (.invokestatic 121, 3) := by decide +kernel
theorem dX5_has_4 : decode cX5_has 4 = .ok (.ifCond .eq 24, 3) := by decide +kernel
theorem dX5_has_7 : decode cX5_has 7 = .ok (.iload_n 2, 1) := by decide +kernel
theorem dX5_has_8 : decode cX5_has 8 = .ok (.i2l, 1) := by decide +kernel
theorem dX5_has_9 : decode cX5_has 9 = .ok (.lconst 0, 1) := by decide +kernel
theorem dX5_has_10 : decode cX5_has 10 = .ok (.ldc2_w 124, 3) := by decide +kernel
theorem dX5_has_13 : decode cX5_has 13 = .ok (.invokestatic 89, 3) := by decide +kernel
theorem dX5_has_16 : decode cX5_has 16 = .ok (.ifCond .eq 12, 3) := by decide +kernel
theorem dX5_has_19 : decode cX5_has 19 = .ok (.aload_n 0, 1) := by decide +kernel
theorem dX5_has_20 : decode cX5_has 20 = .ok (.iload_n 1, 1) := by decide +kernel
theorem dX5_has_21 : decode cX5_has 21 = .ok (.iload_n 2, 1) := by decide +kernel
theorem dX5_has_22 : decode cX5_has 22 = .ok (.invokevirtual 140, 3) := by decide +kernel
theorem dX5_has_25 : decode cX5_has 25 = .ok (.goto 5, 3) := by decide +kernel
theorem dX5_has_28 : decode cX5_has 28 = .ok (.bipush (-2), 2) := by decide +kernel
theorem dX5_has_30 : decode cX5_has 30 = .ok (.ireturn, 1) := by decide +kernel
theorem dX5_earliest_0 : decode cX5_earliest 0 = .ok (.iconst 0, 1) := by decide +kernel
theorem dX5_earliest_1 : decode cX5_earliest 1 = .ok (.istore_n 2, 1) := by decide +kernel
theorem dX5_earliest_2 : decode cX5_earliest 2 = .ok (.iload_n 1, 1) := by decide +kernel
theorem dX5_earliest_3 : decode cX5_earliest 3 = .ok (.iconst 3, 1) := by decide +kernel
theorem dX5_earliest_4 : decode cX5_earliest 4 = .ok (.idiv, 1) := by decide +kernel
theorem dX5_earliest_5 : decode cX5_earliest 5 = .ok (.iconst 3, 1) := by decide +kernel
theorem dX5_earliest_6 : decode cX5_earliest 6 = .ok (.imul, 1) := by decide +kernel
theorem dX5_earliest_7 : decode cX5_earliest 7 = .ok (.istore_n 3, 1) := by decide +kernel
theorem dX5_earliest_8 : decode cX5_earliest 8 = .ok (.iload_n 3, 1) := by decide +kernel
theorem dX5_earliest_9 : decode cX5_earliest 9 = .ok (.iload_n 1, 1) := by decide +kernel
theorem dX5_earliest_10 : decode cX5_earliest 10 = .ok (.if_icmp .gt 34, 3) := by decide +kernel
theorem dX5_earliest_13 : decode cX5_earliest 13 = .ok (.iload_n 2, 1) := by decide +kernel
theorem dX5_earliest_14 : decode cX5_earliest 14 = .ok (.aload_n 0, 1) := by decide +kernel
theorem dX5_earliest_15 : decode cX5_earliest 15 = .ok (.getfield 50, 3) := by decide +kernel
theorem dX5_earliest_18 : decode cX5_earliest 18 = .ok (.iload_n 3, 1) := by decide +kernel
theorem dX5_earliest_19 : decode cX5_earliest 19 = .ok (.iaload, 1) := by decide +kernel
theorem dX5_earliest_20 : decode cX5_earliest 20 = .ok (.iload_n 3, 1) := by decide +kernel
theorem dX5_earliest_21 : decode cX5_earliest 21 = .ok (.iload_n 1, 1) := by decide +kernel
theorem dX5_earliest_22 : decode cX5_earliest 22 = .ok (.if_icmp .ge 12, 3) := by decide +kernel
theorem dX5_earliest_25 : decode cX5_earliest 25 = .ok (.aload_n 0, 1) := by decide +kernel
theorem dX5_earliest_26 : decode cX5_earliest 26 = .ok (.getfield 44, 3) := by decide +kernel
theorem dX5_earliest_29 : decode cX5_earliest 29 = .ok (.iload_n 3, 1) := by decide +kernel
theorem dX5_earliest_30 : decode cX5_earliest 30 = .ok (.iaload, 1) := by decide +kernel
theorem dX5_earliest_31 : decode cX5_earliest 31 = .ok (.goto 4, 3) := by decide +kernel
theorem dX5_earliest_34 : decode cX5_earliest 34 = .ok (.iconst 0, 1) := by decide +kernel
theorem dX5_earliest_35 : decode cX5_earliest 35 = .ok (.iadd, 1) := by decide +kernel
theorem dX5_earliest_36 : decode cX5_earliest 36 = .ok (.iadd, 1) := by decide +kernel
theorem dX5_earliest_37 : decode cX5_earliest 37 = .ok (.istore_n 2, 1) := by decide +kernel
theorem dX5_earliest_38 : decode cX5_earliest 38 = .ok (.iinc 3 1, 3) := by decide +kernel
theorem dX5_earliest_41 : decode cX5_earliest 41 = .ok (.goto (-33), 3) := by decide +kernel
theorem dX5_earliest_44 : decode cX5_earliest 44 = .ok (.iload_n 2, 1) := by decide +kernel
theorem dX5_earliest_45 : decode cX5_earliest 45 = .ok (.ireturn, 1) := by decide +kernel
theorem dX5_isRival_0 : decode cX5_isRival 0 = .ok (.aload_n 0, 1) := by decide +kernel
theorem dX5_isRival_1 : decode cX5_isRival 1 = .ok (.iload_n 2, 1) := by decide +kernel
theorem dX5_isRival_2 : decode cX5_isRival 2 = .ok (.invokevirtual 160, 3) := by decide +kernel
theorem dX5_isRival_5 : decode cX5_isRival 5 = .ok (.ifCond .eq 42, 3) := by decide +kernel
theorem dX5_isRival_8 : decode cX5_isRival 8 = .ok (.iload_n 2, 1) := by decide +kernel
theorem dX5_isRival_9 : decode cX5_isRival 9 = .ok (.iload_n 1, 1) := by decide +kernel
theorem dX5_isRival_10 : decode cX5_isRival 10 = .ok (.if_icmp .eq 37, 3) := by decide +kernel
theorem dX5_isRival_13 : decode cX5_isRival 13 = .ok (.aload_n 0, 1) := by decide +kernel
theorem dX5_isRival_14 : decode cX5_isRival 14 = .ok (.getfield 41, 3) := by decide +kernel
theorem dX5_isRival_17 : decode cX5_isRival 17 = .ok (.iload_n 2, 1) := by decide +kernel
theorem dX5_isRival_18 : decode cX5_isRival 18 = .ok (.iaload, 1) := by decide +kernel
theorem dX5_isRival_19 : decode cX5_isRival 19 = .ok (.aload_n 0, 1) := by decide +kernel
theorem dX5_isRival_20 : decode cX5_isRival 20 = .ok (.getfield 41, 3) := by decide +kernel
theorem dX5_isRival_23 : decode cX5_isRival 23 = .ok (.iload_n 1, 1) := by decide +kernel
theorem dX5_isRival_24 : decode cX5_isRival 24 = .ok (.iaload, 1) := by decide +kernel
theorem dX5_isRival_25 : decode cX5_isRival 25 = .ok (.if_icmp .ne 22, 3) := by decide +kernel
theorem dX5_isRival_28 : decode cX5_isRival 28 = .ok (.aload_n 0, 1) := by decide +kernel
theorem dX5_isRival_29 : decode cX5_isRival 29 = .ok (.getfield 47, 3) := by decide +kernel
theorem dX5_isRival_32 : decode cX5_isRival 32 = .ok (.iload_n 2, 1) := by decide +kernel
theorem dX5_isRival_33 : decode cX5_isRival 33 = .ok (.iaload, 1) := by decide +kernel
theorem dX5_isRival_34 : decode cX5_isRival 34 = .ok (.aload_n 0, 1) := by decide +kernel
theorem dX5_isRival_35 : decode cX5_isRival 35 = .ok (.getfield 47, 3) := by decide +kernel
theorem dX5_isRival_38 : decode cX5_isRival 38 = .ok (.iload_n 1, 1) := by decide +kernel
theorem dX5_isRival_39 : decode cX5_isRival 39 = .ok (.iaload, 1) := by decide +kernel
theorem dX5_isRival_40 : decode cX5_isRival 40 = .ok (.if_icmp .lt 7, 3) := by decide +kernel
theorem dX5_isRival_43 : decode cX5_isRival 43 = .ok (.iconst 1, 1) := by decide +kernel
theorem dX5_isRival_44 : decode cX5_isRival 44 = .ok (.goto 4, 3) := by decide +kernel
theorem dX5_isRival_47 : decode cX5_isRival 47 = .ok (.iconst 0, 1) := by decide +kernel
theorem dX5_isRival_48 : decode cX5_isRival 48 = .ok (.ireturn, 1) := by decide +kernel
theorem dX5_rivals_0 : decode cX5_rivals 0 = .ok (.iconst 0, 1) := by decide +kernel
theorem dX5_rivals_1 : decode cX5_rivals 1 = .ok (.istore_n 2, 1) := by decide +kernel
theorem dX5_rivals_2 : decode cX5_rivals 2 = .ok (.iconst 0, 1) := by decide +kernel
theorem dX5_rivals_3 : decode cX5_rivals 3 = .ok (.istore_n 3, 1) := by decide +kernel
theorem dX5_rivals_4 : decode cX5_rivals 4 = .ok (.iload_n 3, 1) := by decide +kernel
theorem dX5_rivals_5 : decode cX5_rivals 5 = .ok (.bipush 9, 2) := by decide +kernel
theorem dX5_rivals_7 : decode cX5_rivals 7 = .ok (.if_icmp .ge 26, 3) := by decide +kernel
theorem dX5_rivals_10 : decode cX5_rivals 10 = .ok (.iload_n 2, 1) := by decide +kernel
theorem dX5_rivals_11 : decode cX5_rivals 11 = .ok (.aload_n 0, 1) := by decide +kernel
theorem dX5_rivals_12 : decode cX5_rivals 12 = .ok (.iload_n 1, 1) := by decide +kernel
theorem dX5_rivals_13 : decode cX5_rivals 13 = .ok (.iload_n 3, 1) := by decide +kernel
theorem dX5_rivals_14 : decode cX5_rivals 14 = .ok (.invokevirtual 163, 3) := by decide +kernel
theorem dX5_rivals_17 : decode cX5_rivals 17 = .ok (.ifCond .eq 7, 3) := by decide +kernel
theorem dX5_rivals_20 : decode cX5_rivals 20 = .ok (.iconst 1, 1) := by decide +kernel
theorem dX5_rivals_21 : decode cX5_rivals 21 = .ok (.goto 4, 3) := by decide +kernel
theorem dX5_rivals_24 : decode cX5_rivals 24 = .ok (.iconst 0, 1) := by decide +kernel
theorem dX5_rivals_25 : decode cX5_rivals 25 = .ok (.iadd, 1) := by decide +kernel
theorem dX5_rivals_26 : decode cX5_rivals 26 = .ok (.istore_n 2, 1) := by decide +kernel
theorem dX5_rivals_27 : decode cX5_rivals 27 = .ok (.iinc 3 1, 3) := by decide +kernel
theorem dX5_rivals_30 : decode cX5_rivals 30 = .ok (.goto (-26), 3) := by decide +kernel
theorem dX5_rivals_33 : decode cX5_rivals 33 = .ok (.iload_n 2, 1) := by decide +kernel
theorem dX5_rivals_34 : decode cX5_rivals 34 = .ok (.ireturn, 1) := by decide +kernel
theorem dX5_loads_0 : decode cX5_loads 0 = .ok (.aload_n 0, 1) := by decide +kernel
theorem dX5_loads_1 : decode cX5_loads 1 = .ok (.aload_n 0, 1) := by decide +kernel
theorem dX5_loads_2 : decode cX5_loads 2 = .ok (.getfield 23, 3) := by decide +kernel
theorem dX5_loads_5 : decode cX5_loads 5 = .ok (.iconst 0, 1) := by decide +kernel
theorem dX5_loads_6 : decode cX5_loads 6 = .ok (.iaload, 1) := by decide +kernel
theorem dX5_loads_7 : decode cX5_loads 7 = .ok (.i2l, 1) := by decide +kernel
theorem dX5_loads_8 : decode cX5_loads 8 = .ok (.aload_n 0, 1) := by decide +kernel
theorem dX5_loads_9 : decode cX5_loads 9 = .ok (.getfield 23, 3) := by decide +kernel
theorem dX5_loads_12 : decode cX5_loads 12 = .ok (.iconst 1, 1) := by decide +kernel
theorem dX5_loads_13 : decode cX5_loads 13 = .ok (.iaload, 1) := by decide +kernel
theorem dX5_loads_14 : decode cX5_loads 14 = .ok (.i2l, 1) := by decide +kernel
theorem dX5_loads_15 : decode cX5_loads 15 = .ok (.lmul, 1) := by decide +kernel
theorem dX5_loads_16 : decode cX5_loads 16 = .ok (.aload_n 0, 1) := by decide +kernel
theorem dX5_loads_17 : decode cX5_loads 17 = .ok (.getfield 23, 3) := by decide +kernel
theorem dX5_loads_20 : decode cX5_loads 20 = .ok (.iconst 2, 1) := by decide +kernel
theorem dX5_loads_21 : decode cX5_loads 21 = .ok (.iaload, 1) := by decide +kernel
theorem dX5_loads_22 : decode cX5_loads 22 = .ok (.i2l, 1) := by decide +kernel
theorem dX5_loads_23 : decode cX5_loads 23 = .ok (.lmul, 1) := by decide +kernel
theorem dX5_loads_24 : decode cX5_loads 24 = .ok (.putfield 166, 3) := by decide +kernel
theorem dX5_loads_27 : decode cX5_loads 27 = .ok (.aload_n 0, 1) := by decide +kernel
theorem dX5_loads_28 : decode cX5_loads 28 = .ok (.lconst 0, 1) := by decide +kernel
theorem dX5_loads_29 : decode cX5_loads 29 = .ok (.putfield 170, 3) := by decide +kernel
theorem dX5_loads_32 : decode cX5_loads 32 = .ok (.iconst 0, 1) := by decide +kernel
theorem dX5_loads_33 : decode cX5_loads 33 = .ok (.istore_n 2, 1) := by decide +kernel
theorem dX5_loads_34 : decode cX5_loads 34 = .ok (.iload_n 2, 1) := by decide +kernel
theorem dX5_loads_35 : decode cX5_loads 35 = .ok (.bipush 9, 2) := by decide +kernel
theorem dX5_loads_37 : decode cX5_loads 37 = .ok (.if_icmp .ge 58, 3) := by decide +kernel
theorem dX5_loads_40 : decode cX5_loads 40 = .ok (.aload_n 0, 1) := by decide +kernel
theorem dX5_loads_41 : decode cX5_loads 41 = .ok (.dup, 1) := by decide +kernel
theorem dX5_loads_42 : decode cX5_loads 42 = .ok (.getfield 170, 3) := by decide +kernel
theorem dX5_loads_45 : decode cX5_loads 45 = .ok (.iload_n 2, 1) := by decide +kernel
theorem dX5_loads_46 : decode cX5_loads 46 = .ok (.iload_n 1, 1) := by decide +kernel
theorem dX5_loads_47 : decode cX5_loads 47 = .ok (.if_icmp .eq 12, 3) := by decide +kernel
theorem dX5_loads_50 : decode cX5_loads 50 = .ok (.aload_n 0, 1) := by decide +kernel
theorem dX5_loads_51 : decode cX5_loads 51 = .ok (.iload_n 1, 1) := by decide +kernel
theorem dX5_loads_52 : decode cX5_loads 52 = .ok (.iload_n 2, 1) := by decide +kernel
theorem dX5_loads_53 : decode cX5_loads 53 = .ok (.invokevirtual 163, 3) := by decide +kernel
theorem dX5_loads_56 : decode cX5_loads 56 = .ok (.ifCond .eq 28, 3) := by decide +kernel
theorem dX5_loads_59 : decode cX5_loads 59 = .ok (.aload_n 0, 1) := by decide +kernel
theorem dX5_loads_60 : decode cX5_loads 60 = .ok (.getfield 44, 3) := by decide +kernel
theorem dX5_loads_63 : decode cX5_loads 63 = .ok (.iload_n 2, 1) := by decide +kernel
theorem dX5_loads_64 : decode cX5_loads 64 = .ok (.iaload, 1) := by decide +kernel
theorem dX5_loads_65 : decode cX5_loads 65 = .ok (.i2l, 1) := by decide +kernel
theorem dX5_loads_66 : decode cX5_loads 66 = .ok (.aload_n 0, 1) := by decide +kernel
theorem dX5_loads_67 : decode cX5_loads 67 = .ok (.getfield 166, 3) := by decide +kernel
theorem dX5_loads_70 : decode cX5_loads 70 = .ok (.aload_n 0, 1) := by decide +kernel
theorem dX5_loads_71 : decode cX5_loads 71 = .ok (.getfield 23, 3) := by decide +kernel
theorem dX5_loads_74 : decode cX5_loads 74 = .ok (.iload_n 2, 1) := by decide +kernel
theorem dX5_loads_75 : decode cX5_loads 75 = .ok (.iconst 3, 1) := by decide +kernel
theorem dX5_loads_76 : decode cX5_loads 76 = .ok (.idiv, 1) := by decide +kernel
theorem dX5_loads_77 : decode cX5_loads 77 = .ok (.iaload, 1) := by decide +kernel
theorem dX5_loads_78 : decode cX5_loads 78 = .ok (.i2l, 1) := by decide +kernel
theorem dX5_loads_79 : decode cX5_loads 79 = .ok (.ldiv, 1) := by decide +kernel
theorem dX5_loads_80 : decode cX5_loads 80 = .ok (.lmul, 1) := by decide +kernel
theorem dX5_loads_81 : decode cX5_loads 81 = .ok (.goto 4, 3) := by decide +kernel
theorem dX5_loads_84 : decode cX5_loads 84 = .ok (.lconst 0, 1) := by decide +kernel
theorem dX5_loads_85 : decode cX5_loads 85 = .ok (.ladd, 1) := by decide +kernel
theorem dX5_loads_86 : decode cX5_loads 86 = .ok (.putfield 170, 3) := by decide +kernel
theorem dX5_loads_89 : decode cX5_loads 89 = .ok (.iinc 2 1, 3) := by decide +kernel
theorem dX5_loads_92 : decode cX5_loads 92 = .ok (.goto (-58), 3) := by decide +kernel
theorem dX5_loads_95 : decode cX5_loads 95 = .ok (.aload_n 0, 1) := by decide +kernel
theorem dX5_loads_96 : decode cX5_loads 96 = .ok (.getfield 170, 3) := by decide +kernel
theorem dX5_loads_99 : decode cX5_loads 99 = .ok (.lstore_n 2, 1) := by decide +kernel
theorem dX5_loads_100 : decode cX5_loads 100 = .ok (.aload_n 0, 1) := by decide +kernel
theorem dX5_loads_101 : decode cX5_loads 101 = .ok (.getfield 166, 3) := by decide +kernel
theorem dX5_loads_104 : decode cX5_loads 104 = .ok (.lstore 4, 2) := by decide +kernel
theorem dX5_loads_106 : decode cX5_loads 106 = .ok (.iconst 0, 1) := by decide +kernel
theorem dX5_loads_107 : decode cX5_loads 107 = .ok (.istore 6, 2) := by decide +kernel
theorem dX5_loads_109 : decode cX5_loads 109 = .ok (.iload 6, 2) := by decide +kernel
theorem dX5_loads_111 : decode cX5_loads 111 = .ok (.bipush 100, 2) := by decide +kernel
theorem dX5_loads_113 : decode cX5_loads 113 = .ok (.if_icmp .ge 29, 3) := by decide +kernel
theorem dX5_loads_116 : decode cX5_loads 116 = .ok (.lload 4, 2) := by decide +kernel
theorem dX5_loads_118 : decode cX5_loads 118 = .ok (.lconst 0, 1) := by decide +kernel
theorem dX5_loads_119 : decode cX5_loads 119 = .ok (.lcmp, 1) := by decide +kernel
theorem dX5_loads_120 : decode cX5_loads 120 = .ok (.ifCond .eq 22, 3) := by decide +kernel
theorem dX5_loads_123 : decode cX5_loads 123 = .ok (.lload_n 2, 1) := by decide +kernel
theorem dX5_loads_124 : decode cX5_loads 124 = .ok (.lload 4, 2) := by decide +kernel
theorem dX5_loads_126 : decode cX5_loads 126 = .ok (.lrem, 1) := by decide +kernel
theorem dX5_loads_127 : decode cX5_loads 127 = .ok (.lstore 7, 2) := by decide +kernel
theorem dX5_loads_129 : decode cX5_loads 129 = .ok (.lload 4, 2) := by decide +kernel
theorem dX5_loads_131 : decode cX5_loads 131 = .ok (.lstore_n 2, 1) := by decide +kernel
theorem dX5_loads_132 : decode cX5_loads 132 = .ok (.lload 7, 2) := by decide +kernel
theorem dX5_loads_134 : decode cX5_loads 134 = .ok (.lstore 4, 2) := by decide +kernel
theorem dX5_loads_136 : decode cX5_loads 136 = .ok (.iinc 6 1, 3) := by decide +kernel
theorem dX5_loads_139 : decode cX5_loads 139 = .ok (.goto (-30), 3) := by decide +kernel
theorem dX5_loads_142 : decode cX5_loads 142 = .ok (.aload_n 0, 1) := by decide +kernel
theorem dX5_loads_143 : decode cX5_loads 143 = .ok (.dup, 1) := by decide +kernel
theorem dX5_loads_144 : decode cX5_loads 144 = .ok (.getfield 170, 3) := by decide +kernel
theorem dX5_loads_147 : decode cX5_loads 147 = .ok (.lload_n 2, 1) := by decide +kernel
theorem dX5_loads_148 : decode cX5_loads 148 = .ok (.ldiv, 1) := by decide +kernel
theorem dX5_loads_149 : decode cX5_loads 149 = .ok (.putfield 170, 3) := by decide +kernel
theorem dX5_loads_152 : decode cX5_loads 152 = .ok (.aload_n 0, 1) := by decide +kernel
theorem dX5_loads_153 : decode cX5_loads 153 = .ok (.dup, 1) := by decide +kernel
theorem dX5_loads_154 : decode cX5_loads 154 = .ok (.getfield 166, 3) := by decide +kernel
theorem dX5_loads_157 : decode cX5_loads 157 = .ok (.lload_n 2, 1) := by decide +kernel
theorem dX5_loads_158 : decode cX5_loads 158 = .ok (.ldiv, 1) := by decide +kernel
theorem dX5_loads_159 : decode cX5_loads 159 = .ok (.putfield 166, 3) := by decide +kernel
theorem dX5_loads_162 : decode cX5_loads 162 = .ok (.return_, 1) := by decide +kernel
theorem dX5_isOver_0 : decode cX5_isOver 0 = .ok (.aload_n 0, 1) := by decide +kernel
theorem dX5_isOver_1 : decode cX5_isOver 1 = .ok (.iload_n 1, 1) := by decide +kernel
theorem dX5_isOver_2 : decode cX5_isOver 2 = .ok (.invokevirtual 173, 3) := by decide +kernel
theorem dX5_isOver_5 : decode cX5_isOver 5 = .ok (.aload_n 0, 1) := by decide +kernel
theorem dX5_isOver_6 : decode cX5_isOver 6 = .ok (.getfield 170, 3) := by decide +kernel
theorem dX5_isOver_9 : decode cX5_isOver 9 = .ok (.aload_n 0, 1) := by decide +kernel
theorem dX5_isOver_10 : decode cX5_isOver 10 = .ok (.getfield 166, 3) := by decide +kernel
theorem dX5_isOver_13 : decode cX5_isOver 13 = .ok (.lcmp, 1) := by decide +kernel
theorem dX5_isOver_14 : decode cX5_isOver 14 = .ok (.ifCond .le 7, 3) := by decide +kernel
theorem dX5_isOver_17 : decode cX5_isOver 17 = .ok (.iconst 1, 1) := by decide +kernel
theorem dX5_isOver_18 : decode cX5_isOver 18 = .ok (.goto 4, 3) := by decide +kernel
theorem dX5_isOver_21 : decode cX5_isOver 21 = .ok (.iconst 0, 1) := by decide +kernel
theorem dX5_isOver_22 : decode cX5_isOver 22 = .ok (.ireturn, 1) := by decide +kernel
theorem dX5_loadBy_0 : decode cX5_loadBy 0 = .ok (.aload_n 0, 1) := by decide +kernel
theorem dX5_loadBy_1 : decode cX5_loadBy 1 = .ok (.iload_n 1, 1) := by decide +kernel
theorem dX5_loadBy_2 : decode cX5_loadBy 2 = .ok (.invokevirtual 173, 3) := by decide +kernel
theorem dX5_loadBy_5 : decode cX5_loadBy 5 = .ok (.iload_n 2, 1) := by decide +kernel
theorem dX5_loadBy_6 : decode cX5_loadBy 6 = .ok (.ifCond .ne 10, 3) := by decide +kernel
theorem dX5_loadBy_9 : decode cX5_loadBy 9 = .ok (.aload_n 0, 1) := by decide +kernel
theorem dX5_loadBy_10 : decode cX5_loadBy 10 = .ok (.getfield 170, 3) := by decide +kernel
theorem dX5_loadBy_13 : decode cX5_loadBy 13 = .ok (.goto 7, 3) := by decide +kernel
theorem dX5_loadBy_16 : decode cX5_loadBy 16 = .ok (.aload_n 0, 1) := by decide +kernel
theorem dX5_loadBy_17 : decode cX5_loadBy 17 = .ok (.getfield 166, 3) := by decide +kernel
theorem dX5_loadBy_20 : decode cX5_loadBy 20 = .ok (.l2i, 1) := by decide +kernel
theorem dX5_loadBy_21 : decode cX5_loadBy 21 = .ok (.ireturn, 1) := by decide +kernel
theorem dX5_load_0 : decode cX5_load 0 = .ok (.aload_n 0, 1) := by decide +kernel
theorem dX5_load_1 : decode cX5_load 1 = .ok (.iload_n 1, 1) := by decide +kernel
theorem dX5_load_2 : decode cX5_load 2 = .ok (.iload_n 2, 1) := by decide +kernel
theorem dX5_load_3 : decode cX5_load 3 = .ok (.invokevirtual 154, 3) := by decide +kernel
theorem dX5_load_6 : decode cX5_load 6 = .ok (.ifCond .eq 23, 3) := by decide +kernel
theorem dX5_load_9 : decode cX5_load 9 = .ok (.iload_n 3, 1) := by decide +kernel
theorem dX5_load_10 : decode cX5_load 10 = .ok (.invokestatic 177, 3) := by decide +kernel
theorem dX5_load_13 : decode cX5_load 13 = .ok (.ifCond .eq 16, 3) := by decide +kernel
theorem dX5_load_16 : decode cX5_load 16 = .ok (.aload_n 0, 1) := by decide +kernel
theorem dX5_load_17 : decode cX5_load 17 = .ok (.iconst 3, 1) := by decide +kernel
theorem dX5_load_18 : decode cX5_load 18 = .ok (.iload_n 1, 1) := by decide +kernel
theorem dX5_load_19 : decode cX5_load 19 = .ok (.imul, 1) := by decide +kernel
theorem dX5_load_20 : decode cX5_load 20 = .ok (.iload_n 2, 1) := by decide +kernel
theorem dX5_load_21 : decode cX5_load 21 = .ok (.iadd, 1) := by decide +kernel
theorem dX5_load_22 : decode cX5_load 22 = .ok (.iload_n 3, 1) := by decide +kernel
theorem dX5_load_23 : decode cX5_load 23 = .ok (.invokevirtual 180, 3) := by decide +kernel
theorem dX5_load_26 : decode cX5_load 26 = .ok (.goto 5, 3) := by decide +kernel
theorem dX5_load_29 : decode cX5_load 29 = .ok (.bipush (-2), 2) := by decide +kernel
theorem dX5_load_31 : decode cX5_load 31 = .ok (.ireturn, 1) := by decide +kernel
theorem dX5_phi_0 : decode cX5_phi 0 = .ok (.aload_n 0, 1) := by decide +kernel
theorem dX5_phi_1 : decode cX5_phi 1 = .ok (.getfield 23, 3) := by decide +kernel
theorem dX5_phi_4 : decode cX5_phi 4 = .ok (.iload_n 1, 1) := by decide +kernel
theorem dX5_phi_5 : decode cX5_phi 5 = .ok (.iconst 3, 1) := by decide +kernel
theorem dX5_phi_6 : decode cX5_phi 6 = .ok (.idiv, 1) := by decide +kernel
theorem dX5_phi_7 : decode cX5_phi 7 = .ok (.iaload, 1) := by decide +kernel
theorem dX5_phi_8 : decode cX5_phi 8 = .ok (.istore_n 3, 1) := by decide +kernel
theorem dX5_phi_9 : decode cX5_phi 9 = .ok (.aload_n 0, 1) := by decide +kernel
theorem dX5_phi_10 : decode cX5_phi 10 = .ok (.iload_n 2, 1) := by decide +kernel
theorem dX5_phi_11 : decode cX5_phi 11 = .ok (.invokevirtual 183, 3) := by decide +kernel
theorem dX5_phi_14 : decode cX5_phi 14 = .ok (.aload_n 0, 1) := by decide +kernel
theorem dX5_phi_15 : decode cX5_phi 15 = .ok (.getfield 53, 3) := by decide +kernel
theorem dX5_phi_18 : decode cX5_phi 18 = .ok (.iload_n 2, 1) := by decide +kernel
theorem dX5_phi_19 : decode cX5_phi 19 = .ok (.iaload, 1) := by decide +kernel
theorem dX5_phi_20 : decode cX5_phi 20 = .ok (.iadd, 1) := by decide +kernel
theorem dX5_phi_21 : decode cX5_phi 21 = .ok (.aload_n 0, 1) := by decide +kernel
theorem dX5_phi_22 : decode cX5_phi 22 = .ok (.iload_n 1, 1) := by decide +kernel
theorem dX5_phi_23 : decode cX5_phi 23 = .ok (.invokevirtual 183, 3) := by decide +kernel
theorem dX5_phi_26 : decode cX5_phi 26 = .ok (.isub, 1) := by decide +kernel
theorem dX5_phi_27 : decode cX5_phi 27 = .ok (.iload_n 3, 1) := by decide +kernel
theorem dX5_phi_28 : decode cX5_phi 28 = .ok (.irem, 1) := by decide +kernel
theorem dX5_phi_29 : decode cX5_phi 29 = .ok (.istore 4, 2) := by decide +kernel
theorem dX5_phi_31 : decode cX5_phi 31 = .ok (.iload_n 3, 1) := by decide +kernel
theorem dX5_phi_32 : decode cX5_phi 32 = .ok (.iload 4, 2) := by decide +kernel
theorem dX5_phi_34 : decode cX5_phi 34 = .ok (.ifCond .ge 10, 3) := by decide +kernel
theorem dX5_phi_37 : decode cX5_phi 37 = .ok (.iload 4, 2) := by decide +kernel
theorem dX5_phi_39 : decode cX5_phi 39 = .ok (.iload_n 3, 1) := by decide +kernel
theorem dX5_phi_40 : decode cX5_phi 40 = .ok (.iadd, 1) := by decide +kernel
theorem dX5_phi_41 : decode cX5_phi 41 = .ok (.goto 5, 3) := by decide +kernel
theorem dX5_phi_44 : decode cX5_phi 44 = .ok (.iload 4, 2) := by decide +kernel
theorem dX5_phi_46 : decode cX5_phi 46 = .ok (.isub, 1) := by decide +kernel
theorem dX5_phi_47 : decode cX5_phi 47 = .ok (.ireturn, 1) := by decide +kernel
theorem dX5_up_0 : decode cX5_up 0 = .ok (.iload_n 0, 1) := by decide +kernel
theorem dX5_up_1 : decode cX5_up 1 = .ok (.ifCond .gt 7, 3) := by decide +kernel
theorem dX5_up_4 : decode cX5_up 4 = .ok (.iconst 0, 1) := by decide +kernel
theorem dX5_up_5 : decode cX5_up 5 = .ok (.goto 10, 3) := by decide +kernel
theorem dX5_up_8 : decode cX5_up 8 = .ok (.iload_n 0, 1) := by decide +kernel
theorem dX5_up_9 : decode cX5_up 9 = .ok (.iload_n 1, 1) := by decide +kernel
theorem dX5_up_10 : decode cX5_up 10 = .ok (.iadd, 1) := by decide +kernel
theorem dX5_up_11 : decode cX5_up 11 = .ok (.iconst 1, 1) := by decide +kernel
theorem dX5_up_12 : decode cX5_up 12 = .ok (.isub, 1) := by decide +kernel
theorem dX5_up_13 : decode cX5_up 13 = .ok (.iload_n 1, 1) := by decide +kernel
theorem dX5_up_14 : decode cX5_up 14 = .ok (.idiv, 1) := by decide +kernel
theorem dX5_up_15 : decode cX5_up 15 = .ok (.ireturn, 1) := by decide +kernel
theorem dX5_comes_0 : decode cX5_comes 0 = .ok (.aload_n 0, 1) := by decide +kernel
theorem dX5_comes_1 : decode cX5_comes 1 = .ok (.iload_n 1, 1) := by decide +kernel
theorem dX5_comes_2 : decode cX5_comes 2 = .ok (.iload_n 2, 1) := by decide +kernel
theorem dX5_comes_3 : decode cX5_comes 3 = .ok (.invokevirtual 186, 3) := by decide +kernel
theorem dX5_comes_6 : decode cX5_comes 6 = .ok (.istore 4, 2) := by decide +kernel
theorem dX5_comes_8 : decode cX5_comes 8 = .ok (.aload_n 0, 1) := by decide +kernel
theorem dX5_comes_9 : decode cX5_comes 9 = .ok (.getfield 23, 3) := by decide +kernel
theorem dX5_comes_12 : decode cX5_comes 12 = .ok (.iload_n 1, 1) := by decide +kernel
theorem dX5_comes_13 : decode cX5_comes 13 = .ok (.iconst 3, 1) := by decide +kernel
theorem dX5_comes_14 : decode cX5_comes 14 = .ok (.idiv, 1) := by decide +kernel
theorem dX5_comes_15 : decode cX5_comes 15 = .ok (.iaload, 1) := by decide +kernel
theorem dX5_comes_16 : decode cX5_comes 16 = .ok (.istore 5, 2) := by decide +kernel
theorem dX5_comes_18 : decode cX5_comes 18 = .ok (.aload_n 0, 1) := by decide +kernel
theorem dX5_comes_19 : decode cX5_comes 19 = .ok (.getfield 53, 3) := by decide +kernel
theorem dX5_comes_22 : decode cX5_comes 22 = .ok (.iload_n 1, 1) := by decide +kernel
theorem dX5_comes_23 : decode cX5_comes 23 = .ok (.iaload, 1) := by decide +kernel
theorem dX5_comes_24 : decode cX5_comes 24 = .ok (.iload 4, 2) := by decide +kernel
theorem dX5_comes_26 : decode cX5_comes 26 = .ok (.iadd, 1) := by decide +kernel
theorem dX5_comes_27 : decode cX5_comes 27 = .ok (.iload 5, 2) := by decide +kernel
theorem dX5_comes_29 : decode cX5_comes 29 = .ok (.idiv, 1) := by decide +kernel
theorem dX5_comes_30 : decode cX5_comes 30 = .ok (.iload_n 3, 1) := by decide +kernel
theorem dX5_comes_31 : decode cX5_comes 31 = .ok (.iload 4, 2) := by decide +kernel
theorem dX5_comes_33 : decode cX5_comes 33 = .ok (.isub, 1) := by decide +kernel
theorem dX5_comes_34 : decode cX5_comes 34 = .ok (.iload 5, 2) := by decide +kernel
theorem dX5_comes_36 : decode cX5_comes 36 = .ok (.invokestatic 189, 3) := by decide +kernel
theorem dX5_comes_39 : decode cX5_comes 39 = .ok (.iadd, 1) := by decide +kernel
theorem dX5_comes_40 : decode cX5_comes 40 = .ok (.ireturn, 1) := by decide +kernel
theorem dX5_work_0 : decode cX5_work 0 = .ok (.iconst 0, 1) := by decide +kernel
theorem dX5_work_1 : decode cX5_work 1 = .ok (.istore 4, 2) := by decide +kernel
theorem dX5_work_3 : decode cX5_work 3 = .ok (.iload_n 2, 1) := by decide +kernel
theorem dX5_work_4 : decode cX5_work 4 = .ok (.iconst 3, 1) := by decide +kernel
theorem dX5_work_5 : decode cX5_work 5 = .ok (.idiv, 1) := by decide +kernel
theorem dX5_work_6 : decode cX5_work 6 = .ok (.iconst 3, 1) := by decide +kernel
theorem dX5_work_7 : decode cX5_work 7 = .ok (.imul, 1) := by decide +kernel
theorem dX5_work_8 : decode cX5_work 8 = .ok (.istore 5, 2) := by decide +kernel
theorem dX5_work_10 : decode cX5_work 10 = .ok (.iload 5, 2) := by decide +kernel
theorem dX5_work_12 : decode cX5_work 12 = .ok (.iload_n 2, 1) := by decide +kernel
theorem dX5_work_13 : decode cX5_work 13 = .ok (.iconst 3, 1) := by decide +kernel
theorem dX5_work_14 : decode cX5_work 14 = .ok (.idiv, 1) := by decide +kernel
theorem dX5_work_15 : decode cX5_work 15 = .ok (.iconst 3, 1) := by decide +kernel
theorem dX5_work_16 : decode cX5_work 16 = .ok (.imul, 1) := by decide +kernel
theorem dX5_work_17 : decode cX5_work 17 = .ok (.iconst 3, 1) := by decide +kernel
theorem dX5_work_18 : decode cX5_work 18 = .ok (.iadd, 1) := by decide +kernel
theorem dX5_work_19 : decode cX5_work 19 = .ok (.if_icmp .ge 44, 3) := by decide +kernel
theorem dX5_work_22 : decode cX5_work 22 = .ok (.iload 4, 2) := by decide +kernel
theorem dX5_work_24 : decode cX5_work 24 = .ok (.aload_n 0, 1) := by decide +kernel
theorem dX5_work_25 : decode cX5_work 25 = .ok (.iload_n 1, 1) := by decide +kernel
theorem dX5_work_26 : decode cX5_work 26 = .ok (.iload 5, 2) := by decide +kernel
theorem dX5_work_28 : decode cX5_work 28 = .ok (.invokevirtual 163, 3) := by decide +kernel
theorem dX5_work_31 : decode cX5_work 31 = .ok (.ifCond .eq 22, 3) := by decide +kernel
theorem dX5_work_34 : decode cX5_work 34 = .ok (.aload_n 0, 1) := by decide +kernel
theorem dX5_work_35 : decode cX5_work 35 = .ok (.iload 5, 2) := by decide +kernel
theorem dX5_work_37 : decode cX5_work 37 = .ok (.iload_n 2, 1) := by decide +kernel
theorem dX5_work_38 : decode cX5_work 38 = .ok (.iload_n 3, 1) := by decide +kernel
theorem dX5_work_39 : decode cX5_work 39 = .ok (.invokevirtual 192, 3) := by decide +kernel
theorem dX5_work_42 : decode cX5_work 42 = .ok (.aload_n 0, 1) := by decide +kernel
theorem dX5_work_43 : decode cX5_work 43 = .ok (.getfield 44, 3) := by decide +kernel
theorem dX5_work_46 : decode cX5_work 46 = .ok (.iload 5, 2) := by decide +kernel
theorem dX5_work_48 : decode cX5_work 48 = .ok (.iaload, 1) := by decide +kernel
theorem dX5_work_49 : decode cX5_work 49 = .ok (.imul, 1) := by decide +kernel
theorem dX5_work_50 : decode cX5_work 50 = .ok (.goto 4, 3) := by decide +kernel
theorem dX5_work_53 : decode cX5_work 53 = .ok (.iconst 0, 1) := by decide +kernel
theorem dX5_work_54 : decode cX5_work 54 = .ok (.iadd, 1) := by decide +kernel
theorem dX5_work_55 : decode cX5_work 55 = .ok (.istore 4, 2) := by decide +kernel
theorem dX5_work_57 : decode cX5_work 57 = .ok (.iinc 5 1, 3) := by decide +kernel
theorem dX5_work_60 : decode cX5_work 60 = .ok (.goto (-50), 3) := by decide +kernel
theorem dX5_work_63 : decode cX5_work 63 = .ok (.iload 4, 2) := by decide +kernel
theorem dX5_work_65 : decode cX5_work 65 = .ok (.ireturn, 1) := by decide +kernel
theorem dX5_others_0 : decode cX5_others 0 = .ok (.iconst 0, 1) := by decide +kernel
theorem dX5_others_1 : decode cX5_others 1 = .ok (.istore_n 3, 1) := by decide +kernel
theorem dX5_others_2 : decode cX5_others 2 = .ok (.iconst 0, 1) := by decide +kernel
theorem dX5_others_3 : decode cX5_others 3 = .ok (.istore 4, 2) := by decide +kernel
theorem dX5_others_5 : decode cX5_others 5 = .ok (.iload 4, 2) := by decide +kernel
theorem dX5_others_7 : decode cX5_others 7 = .ok (.iconst 3, 1) := by decide +kernel
theorem dX5_others_8 : decode cX5_others 8 = .ok (.if_icmp .ge 102, 3) := by decide +kernel
theorem dX5_others_11 : decode cX5_others 11 = .ok (.iload 4, 2) := by decide +kernel
theorem dX5_others_13 : decode cX5_others 13 = .ok (.iload_n 1, 1) := by decide +kernel
theorem dX5_others_14 : decode cX5_others 14 = .ok (.iconst 3, 1) := by decide +kernel
theorem dX5_others_15 : decode cX5_others 15 = .ok (.idiv, 1) := by decide +kernel
theorem dX5_others_16 : decode cX5_others 16 = .ok (.if_icmp .eq 88, 3) := by decide +kernel
theorem dX5_others_19 : decode cX5_others 19 = .ok (.iconst 0, 1) := by decide +kernel
theorem dX5_others_20 : decode cX5_others 20 = .ok (.istore 5, 2) := by decide +kernel
theorem dX5_others_22 : decode cX5_others 22 = .ok (.iconst 3, 1) := by decide +kernel
theorem dX5_others_23 : decode cX5_others 23 = .ok (.iload 4, 2) := by decide +kernel
theorem dX5_others_25 : decode cX5_others 25 = .ok (.imul, 1) := by decide +kernel
theorem dX5_others_26 : decode cX5_others 26 = .ok (.istore 6, 2) := by decide +kernel
theorem dX5_others_28 : decode cX5_others 28 = .ok (.iload 6, 2) := by decide +kernel
theorem dX5_others_30 : decode cX5_others 30 = .ok (.iconst 3, 1) := by decide +kernel
theorem dX5_others_31 : decode cX5_others 31 = .ok (.iload 4, 2) := by decide +kernel
theorem dX5_others_33 : decode cX5_others 33 = .ok (.imul, 1) := by decide +kernel
theorem dX5_others_34 : decode cX5_others 34 = .ok (.iconst 3, 1) := by decide +kernel
theorem dX5_others_35 : decode cX5_others 35 = .ok (.iadd, 1) := by decide +kernel
theorem dX5_others_36 : decode cX5_others 36 = .ok (.if_icmp .ge 63, 3) := by decide +kernel
theorem dX5_others_39 : decode cX5_others 39 = .ok (.aload_n 0, 1) := by decide +kernel
theorem dX5_others_40 : decode cX5_others 40 = .ok (.iload_n 1, 1) := by decide +kernel
theorem dX5_others_41 : decode cX5_others 41 = .ok (.iload 6, 2) := by decide +kernel
theorem dX5_others_43 : decode cX5_others 43 = .ok (.invokevirtual 163, 3) := by decide +kernel
theorem dX5_others_46 : decode cX5_others 46 = .ok (.ifCond .eq 43, 3) := by decide +kernel
theorem dX5_others_49 : decode cX5_others 49 = .ok (.aload_n 0, 1) := by decide +kernel
theorem dX5_others_50 : decode cX5_others 50 = .ok (.getfield 56, 3) := by decide +kernel
theorem dX5_others_53 : decode cX5_others 53 = .ok (.iload 4, 2) := by decide +kernel
theorem dX5_others_55 : decode cX5_others 55 = .ok (.iaload, 1) := by decide +kernel
theorem dX5_others_56 : decode cX5_others 56 = .ok (.bipush (-2), 2) := by decide +kernel
theorem dX5_others_58 : decode cX5_others 58 = .ok (.if_icmp .eq 15, 3) := by decide +kernel
theorem dX5_others_61 : decode cX5_others 61 = .ok (.aload_n 0, 1) := by decide +kernel
theorem dX5_others_62 : decode cX5_others 62 = .ok (.getfield 56, 3) := by decide +kernel
theorem dX5_others_65 : decode cX5_others 65 = .ok (.iload 4, 2) := by decide +kernel
theorem dX5_others_67 : decode cX5_others 67 = .ok (.iaload, 1) := by decide +kernel
theorem dX5_others_68 : decode cX5_others 68 = .ok (.iload 6, 2) := by decide +kernel
theorem dX5_others_70 : decode cX5_others 70 = .ok (.if_icmp .ne 19, 3) := by decide +kernel
theorem dX5_others_73 : decode cX5_others 73 = .ok (.iload 5, 2) := by decide +kernel
theorem dX5_others_75 : decode cX5_others 75 = .ok (.aload_n 0, 1) := by decide +kernel
theorem dX5_others_76 : decode cX5_others 76 = .ok (.iload_n 1, 1) := by decide +kernel
theorem dX5_others_77 : decode cX5_others 77 = .ok (.iload 6, 2) := by decide +kernel
theorem dX5_others_79 : decode cX5_others 79 = .ok (.iload_n 2, 1) := by decide +kernel
theorem dX5_others_80 : decode cX5_others 80 = .ok (.invokevirtual 195, 3) := by decide +kernel
theorem dX5_others_83 : decode cX5_others 83 = .ok (.invokestatic 198, 3) := by decide +kernel
theorem dX5_others_86 : decode cX5_others 86 = .ok (.goto 5, 3) := by decide +kernel
theorem dX5_others_89 : decode cX5_others 89 = .ok (.iload 5, 2) := by decide +kernel
theorem dX5_others_91 : decode cX5_others 91 = .ok (.istore 5, 2) := by decide +kernel
theorem dX5_others_93 : decode cX5_others 93 = .ok (.iinc 6 1, 3) := by decide +kernel
theorem dX5_others_96 : decode cX5_others 96 = .ok (.goto (-68), 3) := by decide +kernel
theorem dX5_others_99 : decode cX5_others 99 = .ok (.iload_n 3, 1) := by decide +kernel
theorem dX5_others_100 : decode cX5_others 100 = .ok (.iload 5, 2) := by decide +kernel
theorem dX5_others_102 : decode cX5_others 102 = .ok (.iadd, 1) := by decide +kernel
theorem dX5_others_103 : decode cX5_others 103 = .ok (.istore_n 3, 1) := by decide +kernel
theorem dX5_others_104 : decode cX5_others 104 = .ok (.iinc 4 1, 3) := by decide +kernel
theorem dX5_others_107 : decode cX5_others 107 = .ok (.goto (-102), 3) := by decide +kernel
theorem dX5_others_110 : decode cX5_others 110 = .ok (.iload_n 3, 1) := by decide +kernel
theorem dX5_others_111 : decode cX5_others 111 = .ok (.ireturn, 1) := by decide +kernel
theorem dX5_holds_0 : decode cX5_holds 0 = .ok (.iconst 1, 1) := by decide +kernel
theorem dX5_holds_1 : decode cX5_holds 1 = .ok (.istore 4, 2) := by decide +kernel
theorem dX5_holds_3 : decode cX5_holds 3 = .ok (.iconst 0, 1) := by decide +kernel
theorem dX5_holds_4 : decode cX5_holds 4 = .ok (.istore 5, 2) := by decide +kernel
theorem dX5_holds_6 : decode cX5_holds 6 = .ok (.iload 5, 2) := by decide +kernel
theorem dX5_holds_8 : decode cX5_holds 8 = .ok (.sipush 202, 3) := by decide +kernel
theorem dX5_holds_11 : decode cX5_holds 11 = .ok (.if_icmp .ge 76, 3) := by decide +kernel
theorem dX5_holds_14 : decode cX5_holds 14 = .ok (.iload 4, 2) := by decide +kernel
theorem dX5_holds_16 : decode cX5_holds 16 = .ok (.sipush 200, 3) := by decide +kernel
theorem dX5_holds_19 : decode cX5_holds 19 = .ok (.if_icmp .gt 68, 3) := by decide +kernel
theorem dX5_holds_22 : decode cX5_holds 22 = .ok (.iload_n 3, 1) := by decide +kernel
theorem dX5_holds_23 : decode cX5_holds 23 = .ok (.iconst (-1), 1) := by decide +kernel
theorem dX5_holds_24 : decode cX5_holds 24 = .ok (.if_icmp .ne 14, 3) := by decide +kernel
theorem dX5_holds_27 : decode cX5_holds 27 = .ok (.aload_n 0, 1) := by decide +kernel
theorem dX5_holds_28 : decode cX5_holds 28 = .ok (.iload_n 1, 1) := by decide +kernel
theorem dX5_holds_29 : decode cX5_holds 29 = .ok (.iload_n 2, 1) := by decide +kernel
theorem dX5_holds_30 : decode cX5_holds 30 = .ok (.iload 4, 2) := by decide +kernel
theorem dX5_holds_32 : decode cX5_holds 32 = .ok (.invokevirtual 192, 3) := by decide +kernel
theorem dX5_holds_35 : decode cX5_holds 35 = .ok (.goto 6, 3) := by decide +kernel
theorem dX5_holds_38 : decode cX5_holds 38 = .ok (.iload_n 3, 1) := by decide +kernel
theorem dX5_holds_39 : decode cX5_holds 39 = .ok (.iconst 1, 1) := by decide +kernel
theorem dX5_holds_40 : decode cX5_holds 40 = .ok (.iadd, 1) := by decide +kernel
theorem dX5_holds_41 : decode cX5_holds 41 = .ok (.aload_n 0, 1) := by decide +kernel
theorem dX5_holds_42 : decode cX5_holds 42 = .ok (.getfield 44, 3) := by decide +kernel
theorem dX5_holds_45 : decode cX5_holds 45 = .ok (.iload_n 1, 1) := by decide +kernel
theorem dX5_holds_46 : decode cX5_holds 46 = .ok (.iaload, 1) := by decide +kernel
theorem dX5_holds_47 : decode cX5_holds 47 = .ok (.imul, 1) := by decide +kernel
theorem dX5_holds_48 : decode cX5_holds 48 = .ok (.aload_n 0, 1) := by decide +kernel
theorem dX5_holds_49 : decode cX5_holds 49 = .ok (.iload_n 1, 1) := by decide +kernel
theorem dX5_holds_50 : decode cX5_holds 50 = .ok (.iload_n 2, 1) := by decide +kernel
theorem dX5_holds_51 : decode cX5_holds 51 = .ok (.iload 4, 2) := by decide +kernel
theorem dX5_holds_53 : decode cX5_holds 53 = .ok (.invokevirtual 195, 3) := by decide +kernel
theorem dX5_holds_56 : decode cX5_holds 56 = .ok (.iadd, 1) := by decide +kernel
theorem dX5_holds_57 : decode cX5_holds 57 = .ok (.aload_n 0, 1) := by decide +kernel
theorem dX5_holds_58 : decode cX5_holds 58 = .ok (.iload_n 1, 1) := by decide +kernel
theorem dX5_holds_59 : decode cX5_holds 59 = .ok (.iload 4, 2) := by decide +kernel
theorem dX5_holds_61 : decode cX5_holds 61 = .ok (.invokevirtual 201, 3) := by decide +kernel
theorem dX5_holds_64 : decode cX5_holds 64 = .ok (.iadd, 1) := by decide +kernel
theorem dX5_holds_65 : decode cX5_holds 65 = .ok (.istore 6, 2) := by decide +kernel
theorem dX5_holds_67 : decode cX5_holds 67 = .ok (.iload 6, 2) := by decide +kernel
theorem dX5_holds_69 : decode cX5_holds 69 = .ok (.iload 4, 2) := by decide +kernel
theorem dX5_holds_71 : decode cX5_holds 71 = .ok (.if_icmp .ne 6, 3) := by decide +kernel
theorem dX5_holds_74 : decode cX5_holds 74 = .ok (.iload 4, 2) := by decide +kernel
theorem dX5_holds_76 : decode cX5_holds 76 = .ok (.ireturn, 1) := by decide +kernel
theorem dX5_holds_77 : decode cX5_holds 77 = .ok (.iload 6, 2) := by decide +kernel
theorem dX5_holds_79 : decode cX5_holds 79 = .ok (.istore 4, 2) := by decide +kernel
theorem dX5_holds_81 : decode cX5_holds 81 = .ok (.iinc 5 1, 3) := by decide +kernel
theorem dX5_holds_84 : decode cX5_holds 84 = .ok (.goto (-78), 3) := by decide +kernel
theorem dX5_holds_87 : decode cX5_holds 87 = .ok (.iconst (-1), 1) := by decide +kernel
theorem dX5_holds_88 : decode cX5_holds 88 = .ok (.ireturn, 1) := by decide +kernel
theorem dX5_answers_0 : decode cX5_answers 0 = .ok (.iload_n 1, 1) := by decide +kernel
theorem dX5_answers_1 : decode cX5_answers 1 = .ok (.iconst 3, 1) := by decide +kernel
theorem dX5_answers_2 : decode cX5_answers 2 = .ok (.idiv, 1) := by decide +kernel
theorem dX5_answers_3 : decode cX5_answers 3 = .ok (.iconst 3, 1) := by decide +kernel
theorem dX5_answers_4 : decode cX5_answers 4 = .ok (.imul, 1) := by decide +kernel
theorem dX5_answers_5 : decode cX5_answers 5 = .ok (.istore_n 2, 1) := by decide +kernel
theorem dX5_answers_6 : decode cX5_answers 6 = .ok (.aload_n 0, 1) := by decide +kernel
theorem dX5_answers_7 : decode cX5_answers 7 = .ok (.iconst (-1), 1) := by decide +kernel
theorem dX5_answers_8 : decode cX5_answers 8 = .ok (.putfield 204, 3) := by decide +kernel
theorem dX5_answers_11 : decode cX5_answers 11 = .ok (.iload_n 2, 1) := by decide +kernel
theorem dX5_answers_12 : decode cX5_answers 12 = .ok (.istore_n 3, 1) := by decide +kernel
theorem dX5_answers_13 : decode cX5_answers 13 = .ok (.iload_n 3, 1) := by decide +kernel
theorem dX5_answers_14 : decode cX5_answers 14 = .ok (.iload_n 2, 1) := by decide +kernel
theorem dX5_answers_15 : decode cX5_answers 15 = .ok (.iconst 3, 1) := by decide +kernel
theorem dX5_answers_16 : decode cX5_answers 16 = .ok (.iadd, 1) := by decide +kernel
theorem dX5_answers_17 : decode cX5_answers 17 = .ok (.if_icmp .ge 51, 3) := by decide +kernel
theorem dX5_answers_20 : decode cX5_answers 20 = .ok (.iload_n 3, 1) := by decide +kernel
theorem dX5_answers_21 : decode cX5_answers 21 = .ok (.iload_n 1, 1) := by decide +kernel
theorem dX5_answers_22 : decode cX5_answers 22 = .ok (.if_icmp .eq 12, 3) := by decide +kernel
theorem dX5_answers_25 : decode cX5_answers 25 = .ok (.aload_n 0, 1) := by decide +kernel
theorem dX5_answers_26 : decode cX5_answers 26 = .ok (.iload_n 1, 1) := by decide +kernel
theorem dX5_answers_27 : decode cX5_answers 27 = .ok (.iload_n 3, 1) := by decide +kernel
theorem dX5_answers_28 : decode cX5_answers 28 = .ok (.invokevirtual 163, 3) := by decide +kernel
theorem dX5_answers_31 : decode cX5_answers 31 = .ok (.ifCond .eq 31, 3) := by decide +kernel
theorem dX5_answers_34 : decode cX5_answers 34 = .ok (.aload_n 0, 1) := by decide +kernel
theorem dX5_answers_35 : decode cX5_answers 35 = .ok (.iload_n 1, 1) := by decide +kernel
theorem dX5_answers_36 : decode cX5_answers 36 = .ok (.iload_n 3, 1) := by decide +kernel
theorem dX5_answers_37 : decode cX5_answers 37 = .ok (.iconst (-1), 1) := by decide +kernel
theorem dX5_answers_38 : decode cX5_answers 38 = .ok (.invokevirtual 207, 3) := by decide +kernel
theorem dX5_answers_41 : decode cX5_answers 41 = .ok (.istore 4, 2) := by decide +kernel
theorem dX5_answers_43 : decode cX5_answers 43 = .ok (.iload 4, 2) := by decide +kernel
theorem dX5_answers_45 : decode cX5_answers 45 = .ok (.iconst (-1), 1) := by decide +kernel
theorem dX5_answers_46 : decode cX5_answers 46 = .ok (.if_icmp .eq 14, 3) := by decide +kernel
theorem dX5_answers_49 : decode cX5_answers 49 = .ok (.aload_n 0, 1) := by decide +kernel
theorem dX5_answers_50 : decode cX5_answers 50 = .ok (.iload_n 1, 1) := by decide +kernel
theorem dX5_answers_51 : decode cX5_answers 51 = .ok (.iload_n 3, 1) := by decide +kernel
theorem dX5_answers_52 : decode cX5_answers 52 = .ok (.iload 4, 2) := by decide +kernel
theorem dX5_answers_54 : decode cX5_answers 54 = .ok (.invokevirtual 210, 3) := by decide +kernel
theorem dX5_answers_57 : decode cX5_answers 57 = .ok (.ifCond .ne 5, 3) := by decide +kernel
theorem dX5_answers_60 : decode cX5_answers 60 = .ok (.iconst 0, 1) := by decide +kernel
theorem dX5_answers_61 : decode cX5_answers 61 = .ok (.ireturn, 1) := by decide +kernel
theorem dX5_answers_62 : decode cX5_answers 62 = .ok (.iinc 3 1, 3) := by decide +kernel
theorem dX5_answers_65 : decode cX5_answers 65 = .ok (.goto (-52), 3) := by decide +kernel
theorem dX5_answers_68 : decode cX5_answers 68 = .ok (.iconst 1, 1) := by decide +kernel
theorem dX5_answers_69 : decode cX5_answers 69 = .ok (.ireturn, 1) := by decide +kernel
theorem dX5_answersBy_0 : decode cX5_answersBy 0 = .ok (.aload_n 0, 1) := by decide +kernel
theorem dX5_answersBy_1 : decode cX5_answersBy 1 = .ok (.iload_n 1, 1) := by decide +kernel
theorem dX5_answersBy_2 : decode cX5_answersBy 2 = .ok (.iload_n 2, 1) := by decide +kernel
theorem dX5_answersBy_3 : decode cX5_answersBy 3 = .ok (.invokevirtual 186, 3) := by decide +kernel
theorem dX5_answersBy_6 : decode cX5_answersBy 6 = .ok (.istore 4, 2) := by decide +kernel
theorem dX5_answersBy_8 : decode cX5_answersBy 8 = .ok (.aload_n 0, 1) := by decide +kernel
theorem dX5_answersBy_9 : decode cX5_answersBy 9 = .ok (.getfield 23, 3) := by decide +kernel
theorem dX5_answersBy_12 : decode cX5_answersBy 12 = .ok (.iload_n 1, 1) := by decide +kernel
theorem dX5_answersBy_13 : decode cX5_answersBy 13 = .ok (.iconst 3, 1) := by decide +kernel
theorem dX5_answersBy_14 : decode cX5_answersBy 14 = .ok (.idiv, 1) := by decide +kernel
theorem dX5_answersBy_15 : decode cX5_answersBy 15 = .ok (.iaload, 1) := by decide +kernel
theorem dX5_answersBy_16 : decode cX5_answersBy 16 = .ok (.istore 5, 2) := by decide +kernel
theorem dX5_answersBy_18 : decode cX5_answersBy 18 = .ok (.aload_n 0, 1) := by decide +kernel
theorem dX5_answersBy_19 : decode cX5_answersBy 19 = .ok (.getfield 53, 3) := by decide +kernel
theorem dX5_answersBy_22 : decode cX5_answersBy 22 = .ok (.iload_n 1, 1) := by decide +kernel
theorem dX5_answersBy_23 : decode cX5_answersBy 23 = .ok (.iaload, 1) := by decide +kernel
theorem dX5_answersBy_24 : decode cX5_answersBy 24 = .ok (.iload 4, 2) := by decide +kernel
theorem dX5_answersBy_26 : decode cX5_answersBy 26 = .ok (.iadd, 1) := by decide +kernel
theorem dX5_answersBy_27 : decode cX5_answersBy 27 = .ok (.iload 5, 2) := by decide +kernel
theorem dX5_answersBy_29 : decode cX5_answersBy 29 = .ok (.idiv, 1) := by decide +kernel
theorem dX5_answersBy_30 : decode cX5_answersBy 30 = .ok (.istore 6, 2) := by decide +kernel
theorem dX5_answersBy_32 : decode cX5_answersBy 32 = .ok (.aload_n 0, 1) := by decide +kernel
theorem dX5_answersBy_33 : decode cX5_answersBy 33 = .ok (.iload_n 1, 1) := by decide +kernel
theorem dX5_answersBy_34 : decode cX5_answersBy 34 = .ok (.iload_n 2, 1) := by decide +kernel
theorem dX5_answersBy_35 : decode cX5_answersBy 35 = .ok (.iload_n 3, 1) := by decide +kernel
theorem dX5_answersBy_36 : decode cX5_answersBy 36 = .ok (.invokevirtual 192, 3) := by decide +kernel
theorem dX5_answersBy_39 : decode cX5_answersBy 39 = .ok (.istore 7, 2) := by decide +kernel
theorem dX5_answersBy_41 : decode cX5_answersBy 41 = .ok (.iconst 0, 1) := by decide +kernel
theorem dX5_answersBy_42 : decode cX5_answersBy 42 = .ok (.istore 8, 2) := by decide +kernel
theorem dX5_answersBy_44 : decode cX5_answersBy 44 = .ok (.iload 8, 2) := by decide +kernel
theorem dX5_answersBy_46 : decode cX5_answersBy 46 = .ok (.iload 7, 2) := by decide +kernel
theorem dX5_answersBy_48 : decode cX5_answersBy 48 = .ok (.if_icmp .ge 88, 3) := by decide +kernel
theorem dX5_answersBy_51 : decode cX5_answersBy 51 = .ok (.aload_n 0, 1) := by decide +kernel
theorem dX5_answersBy_52 : decode cX5_answersBy 52 = .ok (.iload_n 1, 1) := by decide +kernel
theorem dX5_answersBy_53 : decode cX5_answersBy 53 = .ok (.iload_n 2, 1) := by decide +kernel
theorem dX5_answersBy_54 : decode cX5_answersBy 54 = .ok (.iload 8, 2) := by decide +kernel
theorem dX5_answersBy_56 : decode cX5_answersBy 56 = .ok (.invokevirtual 207, 3) := by decide +kernel
theorem dX5_answersBy_59 : decode cX5_answersBy 59 = .ok (.istore 9, 2) := by decide +kernel
theorem dX5_answersBy_61 : decode cX5_answersBy 61 = .ok (.iload 9, 2) := by decide +kernel
theorem dX5_answersBy_63 : decode cX5_answersBy 63 = .ok (.iconst (-1), 1) := by decide +kernel
theorem dX5_answersBy_64 : decode cX5_answersBy 64 = .ok (.if_icmp .ne 5, 3) := by decide +kernel
theorem dX5_answersBy_67 : decode cX5_answersBy 67 = .ok (.iconst 0, 1) := by decide +kernel
theorem dX5_answersBy_68 : decode cX5_answersBy 68 = .ok (.ireturn, 1) := by decide +kernel
theorem dX5_answersBy_69 : decode cX5_answersBy 69 = .ok (.iload 9, 2) := by decide +kernel
theorem dX5_answersBy_71 : decode cX5_answersBy 71 = .ok (.iload 4, 2) := by decide +kernel
theorem dX5_answersBy_73 : decode cX5_answersBy 73 = .ok (.isub, 1) := by decide +kernel
theorem dX5_answersBy_74 : decode cX5_answersBy 74 = .ok (.iload 5, 2) := by decide +kernel
theorem dX5_answersBy_76 : decode cX5_answersBy 76 = .ok (.iload 8, 2) := by decide +kernel
theorem dX5_answersBy_78 : decode cX5_answersBy 78 = .ok (.iload 6, 2) := by decide +kernel
theorem dX5_answersBy_80 : decode cX5_answersBy 80 = .ok (.isub, 1) := by decide +kernel
theorem dX5_answersBy_81 : decode cX5_answersBy 81 = .ok (.imul, 1) := by decide +kernel
theorem dX5_answersBy_82 : decode cX5_answersBy 82 = .ok (.isub, 1) := by decide +kernel
theorem dX5_answersBy_83 : decode cX5_answersBy 83 = .ok (.aload_n 0, 1) := by decide +kernel
theorem dX5_answersBy_84 : decode cX5_answersBy 84 = .ok (.iload_n 1, 1) := by decide +kernel
theorem dX5_answersBy_85 : decode cX5_answersBy 85 = .ok (.invokevirtual 183, 3) := by decide +kernel
theorem dX5_answersBy_88 : decode cX5_answersBy 88 = .ok (.iadd, 1) := by decide +kernel
theorem dX5_answersBy_89 : decode cX5_answersBy 89 = .ok (.istore 10, 2) := by decide +kernel
theorem dX5_answersBy_91 : decode cX5_answersBy 91 = .ok (.aload_n 0, 1) := by decide +kernel
theorem dX5_answersBy_92 : decode cX5_answersBy 92 = .ok (.getfield 204, 3) := by decide +kernel
theorem dX5_answersBy_95 : decode cX5_answersBy 95 = .ok (.iconst (-1), 1) := by decide +kernel
theorem dX5_answersBy_96 : decode cX5_answersBy 96 = .ok (.if_icmp .eq 12, 3) := by decide +kernel
theorem dX5_answersBy_99 : decode cX5_answersBy 99 = .ok (.iload 10, 2) := by decide +kernel
theorem dX5_answersBy_101 : decode cX5_answersBy 101 = .ok (.aload_n 0, 1) := by decide +kernel
theorem dX5_answersBy_102 : decode cX5_answersBy 102 = .ok (.getfield 204, 3) := by decide +kernel
theorem dX5_answersBy_105 : decode cX5_answersBy 105 = .ok (.if_icmp .le 25, 3) := by decide +kernel
theorem dX5_answersBy_108 : decode cX5_answersBy 108 = .ok (.aload_n 0, 1) := by decide +kernel
theorem dX5_answersBy_109 : decode cX5_answersBy 109 = .ok (.iload 10, 2) := by decide +kernel
theorem dX5_answersBy_111 : decode cX5_answersBy 111 = .ok (.putfield 204, 3) := by decide +kernel
theorem dX5_answersBy_114 : decode cX5_answersBy 114 = .ok (.aload_n 0, 1) := by decide +kernel
theorem dX5_answersBy_115 : decode cX5_answersBy 115 = .ok (.iload_n 2, 1) := by decide +kernel
theorem dX5_answersBy_116 : decode cX5_answersBy 116 = .ok (.putfield 214, 3) := by decide +kernel
theorem dX5_answersBy_119 : decode cX5_answersBy 119 = .ok (.aload_n 0, 1) := by decide +kernel
theorem dX5_answersBy_120 : decode cX5_answersBy 120 = .ok (.iload 8, 2) := by decide +kernel
theorem dX5_answersBy_122 : decode cX5_answersBy 122 = .ok (.putfield 217, 3) := by decide +kernel
theorem dX5_answersBy_125 : decode cX5_answersBy 125 = .ok (.aload_n 0, 1) := by decide +kernel
theorem dX5_answersBy_126 : decode cX5_answersBy 126 = .ok (.iload_n 3, 1) := by decide +kernel
theorem dX5_answersBy_127 : decode cX5_answersBy 127 = .ok (.putfield 220, 3) := by decide +kernel
theorem dX5_answersBy_130 : decode cX5_answersBy 130 = .ok (.iinc 8 1, 3) := by decide +kernel
theorem dX5_answersBy_133 : decode cX5_answersBy 133 = .ok (.goto (-89), 3) := by decide +kernel
theorem dX5_answersBy_136 : decode cX5_answersBy 136 = .ok (.iconst 1, 1) := by decide +kernel
theorem dX5_answersBy_137 : decode cX5_answersBy 137 = .ok (.ireturn, 1) := by decide +kernel
theorem dX5_picksAll_0 : decode cX5_picksAll 0 = .ok (.iconst 0, 1) := by decide +kernel
theorem dX5_picksAll_1 : decode cX5_picksAll 1 = .ok (.istore_n 1, 1) := by decide +kernel
theorem dX5_picksAll_2 : decode cX5_picksAll 2 = .ok (.iload_n 1, 1) := by decide +kernel
theorem dX5_picksAll_3 : decode cX5_picksAll 3 = .ok (.iconst 3, 1) := by decide +kernel
theorem dX5_picksAll_4 : decode cX5_picksAll 4 = .ok (.if_icmp .ge 17, 3) := by decide +kernel
theorem dX5_picksAll_7 : decode cX5_picksAll 7 = .ok (.aload_n 0, 1) := by decide +kernel
theorem dX5_picksAll_8 : decode cX5_picksAll 8 = .ok (.getfield 56, 3) := by decide +kernel
theorem dX5_picksAll_11 : decode cX5_picksAll 11 = .ok (.iload_n 1, 1) := by decide +kernel
theorem dX5_picksAll_12 : decode cX5_picksAll 12 = .ok (.bipush (-2), 2) := by decide +kernel
theorem dX5_picksAll_14 : decode cX5_picksAll 14 = .ok (.iastore, 1) := by decide +kernel
theorem dX5_picksAll_15 : decode cX5_picksAll 15 = .ok (.iinc 1 1, 3) := by decide +kernel
theorem dX5_picksAll_18 : decode cX5_picksAll 18 = .ok (.goto (-16), 3) := by decide +kernel
theorem dX5_picksAll_21 : decode cX5_picksAll 21 = .ok (.return_, 1) := by decide +kernel
theorem dX5_boundsAll_0 : decode cX5_boundsAll 0 = .ok (.iconst 0, 1) := by decide +kernel
theorem dX5_boundsAll_1 : decode cX5_boundsAll 1 = .ok (.istore_n 1, 1) := by decide +kernel
theorem dX5_boundsAll_2 : decode cX5_boundsAll 2 = .ok (.iload_n 1, 1) := by decide +kernel
theorem dX5_boundsAll_3 : decode cX5_boundsAll 3 = .ok (.bipush 9, 2) := by decide +kernel
theorem dX5_boundsAll_5 : decode cX5_boundsAll 5 = .ok (.if_icmp .ge 77, 3) := by decide +kernel
theorem dX5_boundsAll_8 : decode cX5_boundsAll 8 = .ok (.aload_n 0, 1) := by decide +kernel
theorem dX5_boundsAll_9 : decode cX5_boundsAll 9 = .ok (.iload_n 1, 1) := by decide +kernel
theorem dX5_boundsAll_10 : decode cX5_boundsAll 10 = .ok (.invokevirtual 160, 3) := by decide +kernel
theorem dX5_boundsAll_13 : decode cX5_boundsAll 13 = .ok (.ifCond .eq 63, 3) := by decide +kernel
theorem dX5_boundsAll_16 : decode cX5_boundsAll 16 = .ok (.aload_n 0, 1) := by decide +kernel
theorem dX5_boundsAll_17 : decode cX5_boundsAll 17 = .ok (.iload_n 1, 1) := by decide +kernel
theorem dX5_boundsAll_18 : decode cX5_boundsAll 18 = .ok (.invokevirtual 223, 3) := by decide +kernel
theorem dX5_boundsAll_21 : decode cX5_boundsAll 21 = .ok (.ifCond .ne 11, 3) := by decide +kernel
theorem dX5_boundsAll_24 : decode cX5_boundsAll 24 = .ok (.aload_n 0, 1) := by decide +kernel
theorem dX5_boundsAll_25 : decode cX5_boundsAll 25 = .ok (.iload_n 1, 1) := by decide +kernel
theorem dX5_boundsAll_26 : decode cX5_boundsAll 26 = .ok (.invokevirtual 226, 3) := by decide +kernel
theorem dX5_boundsAll_29 : decode cX5_boundsAll 29 = .ok (.ifCond .ne 5, 3) := by decide +kernel
theorem dX5_boundsAll_32 : decode cX5_boundsAll 32 = .ok (.iconst 0, 1) := by decide +kernel
theorem dX5_boundsAll_33 : decode cX5_boundsAll 33 = .ok (.ireturn, 1) := by decide +kernel
theorem dX5_boundsAll_34 : decode cX5_boundsAll 34 = .ok (.aload_n 0, 1) := by decide +kernel
theorem dX5_boundsAll_35 : decode cX5_boundsAll 35 = .ok (.getfield 59, 3) := by decide +kernel
theorem dX5_boundsAll_38 : decode cX5_boundsAll 38 = .ok (.iload_n 1, 1) := by decide +kernel
theorem dX5_boundsAll_39 : decode cX5_boundsAll 39 = .ok (.aload_n 0, 1) := by decide +kernel
theorem dX5_boundsAll_40 : decode cX5_boundsAll 40 = .ok (.getfield 204, 3) := by decide +kernel
theorem dX5_boundsAll_43 : decode cX5_boundsAll 43 = .ok (.iastore, 1) := by decide +kernel
theorem dX5_boundsAll_44 : decode cX5_boundsAll 44 = .ok (.aload_n 0, 1) := by decide +kernel
theorem dX5_boundsAll_45 : decode cX5_boundsAll 45 = .ok (.getfield 62, 3) := by decide +kernel
theorem dX5_boundsAll_48 : decode cX5_boundsAll 48 = .ok (.iload_n 1, 1) := by decide +kernel
theorem dX5_boundsAll_49 : decode cX5_boundsAll 49 = .ok (.aload_n 0, 1) := by decide +kernel
theorem dX5_boundsAll_50 : decode cX5_boundsAll 50 = .ok (.getfield 214, 3) := by decide +kernel
theorem dX5_boundsAll_53 : decode cX5_boundsAll 53 = .ok (.iconst 3, 1) := by decide +kernel
theorem dX5_boundsAll_54 : decode cX5_boundsAll 54 = .ok (.irem, 1) := by decide +kernel
theorem dX5_boundsAll_55 : decode cX5_boundsAll 55 = .ok (.iastore, 1) := by decide +kernel
theorem dX5_boundsAll_56 : decode cX5_boundsAll 56 = .ok (.aload_n 0, 1) := by decide +kernel
theorem dX5_boundsAll_57 : decode cX5_boundsAll 57 = .ok (.getfield 65, 3) := by decide +kernel
theorem dX5_boundsAll_60 : decode cX5_boundsAll 60 = .ok (.iload_n 1, 1) := by decide +kernel
theorem dX5_boundsAll_61 : decode cX5_boundsAll 61 = .ok (.aload_n 0, 1) := by decide +kernel
theorem dX5_boundsAll_62 : decode cX5_boundsAll 62 = .ok (.getfield 217, 3) := by decide +kernel
theorem dX5_boundsAll_65 : decode cX5_boundsAll 65 = .ok (.iastore, 1) := by decide +kernel
theorem dX5_boundsAll_66 : decode cX5_boundsAll 66 = .ok (.aload_n 0, 1) := by decide +kernel
theorem dX5_boundsAll_67 : decode cX5_boundsAll 67 = .ok (.getfield 68, 3) := by decide +kernel
theorem dX5_boundsAll_70 : decode cX5_boundsAll 70 = .ok (.iload_n 1, 1) := by decide +kernel
theorem dX5_boundsAll_71 : decode cX5_boundsAll 71 = .ok (.aload_n 0, 1) := by decide +kernel
theorem dX5_boundsAll_72 : decode cX5_boundsAll 72 = .ok (.getfield 220, 3) := by decide +kernel
theorem dX5_boundsAll_75 : decode cX5_boundsAll 75 = .ok (.iastore, 1) := by decide +kernel
theorem dX5_boundsAll_76 : decode cX5_boundsAll 76 = .ok (.iinc 1 1, 3) := by decide +kernel
theorem dX5_boundsAll_79 : decode cX5_boundsAll 79 = .ok (.goto (-77), 3) := by decide +kernel
theorem dX5_boundsAll_82 : decode cX5_boundsAll 82 = .ok (.iconst 1, 1) := by decide +kernel
theorem dX5_boundsAll_83 : decode cX5_boundsAll 83 = .ok (.ireturn, 1) := by decide +kernel
theorem dX5_settles_0 : decode cX5_settles 0 = .ok (.aload_n 0, 1) := by decide +kernel
theorem dX5_settles_1 : decode cX5_settles 1 = .ok (.invokevirtual 229, 3) := by decide +kernel
theorem dX5_settles_4 : decode cX5_settles 4 = .ok (.aload_n 0, 1) := by decide +kernel
theorem dX5_settles_5 : decode cX5_settles 5 = .ok (.iconst 0, 1) := by decide +kernel
theorem dX5_settles_6 : decode cX5_settles 6 = .ok (.putfield 232, 3) := by decide +kernel
theorem dX5_settles_9 : decode cX5_settles 9 = .ok (.iconst 0, 1) := by decide +kernel
theorem dX5_settles_10 : decode cX5_settles 10 = .ok (.istore_n 1, 1) := by decide +kernel
theorem dX5_settles_11 : decode cX5_settles 11 = .ok (.iload_n 1, 1) := by decide +kernel
theorem dX5_settles_12 : decode cX5_settles 12 = .ok (.bipush 9, 2) := by decide +kernel
theorem dX5_settles_14 : decode cX5_settles 14 = .ok (.if_icmp .ge 33, 3) := by decide +kernel
theorem dX5_settles_17 : decode cX5_settles 17 = .ok (.aload_n 0, 1) := by decide +kernel
theorem dX5_settles_18 : decode cX5_settles 18 = .ok (.getfield 53, 3) := by decide +kernel
theorem dX5_settles_21 : decode cX5_settles 21 = .ok (.iload_n 1, 1) := by decide +kernel
theorem dX5_settles_22 : decode cX5_settles 22 = .ok (.iload_n 1, 1) := by decide +kernel
theorem dX5_settles_23 : decode cX5_settles 23 = .ok (.iconst 3, 1) := by decide +kernel
theorem dX5_settles_24 : decode cX5_settles 24 = .ok (.irem, 1) := by decide +kernel
theorem dX5_settles_25 : decode cX5_settles 25 = .ok (.ifCond .ne 14, 3) := by decide +kernel
theorem dX5_settles_28 : decode cX5_settles 28 = .ok (.aload_n 0, 1) := by decide +kernel
theorem dX5_settles_29 : decode cX5_settles 29 = .ok (.getfield 26, 3) := by decide +kernel
theorem dX5_settles_32 : decode cX5_settles 32 = .ok (.iload_n 1, 1) := by decide +kernel
theorem dX5_settles_33 : decode cX5_settles 33 = .ok (.iconst 3, 1) := by decide +kernel
theorem dX5_settles_34 : decode cX5_settles 34 = .ok (.idiv, 1) := by decide +kernel
theorem dX5_settles_35 : decode cX5_settles 35 = .ok (.iaload, 1) := by decide +kernel
theorem dX5_settles_36 : decode cX5_settles 36 = .ok (.goto 4, 3) := by decide +kernel
theorem dX5_settles_39 : decode cX5_settles 39 = .ok (.iconst 0, 1) := by decide +kernel
theorem dX5_settles_40 : decode cX5_settles 40 = .ok (.iastore, 1) := by decide +kernel
theorem dX5_settles_41 : decode cX5_settles 41 = .ok (.iinc 1 1, 3) := by decide +kernel
theorem dX5_settles_44 : decode cX5_settles 44 = .ok (.goto (-33), 3) := by decide +kernel
theorem dX5_settles_47 : decode cX5_settles 47 = .ok (.iconst 1, 1) := by decide +kernel
theorem dX5_settles_48 : decode cX5_settles 48 = .ok (.istore_n 1, 1) := by decide +kernel
theorem dX5_settles_49 : decode cX5_settles 49 = .ok (.iconst 1, 1) := by decide +kernel
theorem dX5_settles_50 : decode cX5_settles 50 = .ok (.istore_n 2, 1) := by decide +kernel
theorem dX5_settles_51 : decode cX5_settles 51 = .ok (.iload_n 2, 1) := by decide +kernel
theorem dX5_settles_52 : decode cX5_settles 52 = .ok (.bipush 20, 2) := by decide +kernel
theorem dX5_settles_54 : decode cX5_settles 54 = .ok (.if_icmp .gt 159, 3) := by decide +kernel
theorem dX5_settles_57 : decode cX5_settles 57 = .ok (.iload_n 1, 1) := by decide +kernel
theorem dX5_settles_58 : decode cX5_settles 58 = .ok (.ifCond .eq 155, 3) := by decide +kernel
theorem dX5_settles_61 : decode cX5_settles 61 = .ok (.aload_n 0, 1) := by decide +kernel
theorem dX5_settles_62 : decode cX5_settles 62 = .ok (.invokevirtual 236, 3) := by decide +kernel
theorem dX5_settles_65 : decode cX5_settles 65 = .ok (.istore_n 1, 1) := by decide +kernel
theorem dX5_settles_66 : decode cX5_settles 66 = .ok (.iconst 0, 1) := by decide +kernel
theorem dX5_settles_67 : decode cX5_settles 67 = .ok (.istore_n 3, 1) := by decide +kernel
theorem dX5_settles_68 : decode cX5_settles 68 = .ok (.iconst 0, 1) := by decide +kernel
theorem dX5_settles_69 : decode cX5_settles 69 = .ok (.istore 4, 2) := by decide +kernel
theorem dX5_settles_71 : decode cX5_settles 71 = .ok (.iload 4, 2) := by decide +kernel
theorem dX5_settles_73 : decode cX5_settles 73 = .ok (.bipush 9, 2) := by decide +kernel
theorem dX5_settles_75 : decode cX5_settles 75 = .ok (.if_icmp .ge 96, 3) := by decide +kernel
theorem dX5_settles_78 : decode cX5_settles 78 = .ok (.iload_n 1, 1) := by decide +kernel
theorem dX5_settles_79 : decode cX5_settles 79 = .ok (.ifCond .eq 92, 3) := by decide +kernel
theorem dX5_settles_82 : decode cX5_settles 82 = .ok (.iload 4, 2) := by decide +kernel
theorem dX5_settles_84 : decode cX5_settles 84 = .ok (.iconst 3, 1) := by decide +kernel
theorem dX5_settles_85 : decode cX5_settles 85 = .ok (.irem, 1) := by decide +kernel
theorem dX5_settles_86 : decode cX5_settles 86 = .ok (.ifCond .le 79, 3) := by decide +kernel
theorem dX5_settles_89 : decode cX5_settles 89 = .ok (.aload_n 0, 1) := by decide +kernel
theorem dX5_settles_90 : decode cX5_settles 90 = .ok (.iload 4, 2) := by decide +kernel
theorem dX5_settles_92 : decode cX5_settles 92 = .ok (.invokevirtual 160, 3) := by decide +kernel
theorem dX5_settles_95 : decode cX5_settles 95 = .ok (.ifCond .eq 70, 3) := by decide +kernel
theorem dX5_settles_98 : decode cX5_settles 98 = .ok (.aload_n 0, 1) := by decide +kernel
theorem dX5_settles_99 : decode cX5_settles 99 = .ok (.getfield 59, 3) := by decide +kernel
theorem dX5_settles_102 : decode cX5_settles 102 = .ok (.iload 4, 2) := by decide +kernel
theorem dX5_settles_104 : decode cX5_settles 104 = .ok (.iconst 1, 1) := by decide +kernel
theorem dX5_settles_105 : decode cX5_settles 105 = .ok (.isub, 1) := by decide +kernel
theorem dX5_settles_106 : decode cX5_settles 106 = .ok (.iaload, 1) := by decide +kernel
theorem dX5_settles_107 : decode cX5_settles 107 = .ok (.aload_n 0, 1) := by decide +kernel
theorem dX5_settles_108 : decode cX5_settles 108 = .ok (.getfield 50, 3) := by decide +kernel
theorem dX5_settles_111 : decode cX5_settles 111 = .ok (.iload 4, 2) := by decide +kernel
theorem dX5_settles_113 : decode cX5_settles 113 = .ok (.iaload, 1) := by decide +kernel
theorem dX5_settles_114 : decode cX5_settles 114 = .ok (.iadd, 1) := by decide +kernel
theorem dX5_settles_115 : decode cX5_settles 115 = .ok (.aload_n 0, 1) := by decide +kernel
theorem dX5_settles_116 : decode cX5_settles 116 = .ok (.iload 4, 2) := by decide +kernel
theorem dX5_settles_118 : decode cX5_settles 118 = .ok (.invokevirtual 183, 3) := by decide +kernel
theorem dX5_settles_121 : decode cX5_settles 121 = .ok (.isub, 1) := by decide +kernel
theorem dX5_settles_122 : decode cX5_settles 122 = .ok (.istore 5, 2) := by decide +kernel
theorem dX5_settles_124 : decode cX5_settles 124 = .ok (.iload_n 3, 1) := by decide +kernel
theorem dX5_settles_125 : decode cX5_settles 125 = .ok (.ifCond .ne 15, 3) := by decide +kernel
theorem dX5_settles_128 : decode cX5_settles 128 = .ok (.iload 5, 2) := by decide +kernel
theorem dX5_settles_130 : decode cX5_settles 130 = .ok (.aload_n 0, 1) := by decide +kernel
theorem dX5_settles_131 : decode cX5_settles 131 = .ok (.getfield 53, 3) := by decide +kernel
theorem dX5_settles_134 : decode cX5_settles 134 = .ok (.iload 4, 2) := by decide +kernel
theorem dX5_settles_136 : decode cX5_settles 136 = .ok (.iaload, 1) := by decide +kernel
theorem dX5_settles_137 : decode cX5_settles 137 = .ok (.if_icmp .le 7, 3) := by decide +kernel
theorem dX5_settles_140 : decode cX5_settles 140 = .ok (.iconst 1, 1) := by decide +kernel
theorem dX5_settles_141 : decode cX5_settles 141 = .ok (.goto 4, 3) := by decide +kernel
theorem dX5_settles_144 : decode cX5_settles 144 = .ok (.iconst 0, 1) := by decide +kernel
theorem dX5_settles_145 : decode cX5_settles 145 = .ok (.istore_n 3, 1) := by decide +kernel
theorem dX5_settles_146 : decode cX5_settles 146 = .ok (.aload_n 0, 1) := by decide +kernel
theorem dX5_settles_147 : decode cX5_settles 147 = .ok (.getfield 53, 3) := by decide +kernel
theorem dX5_settles_150 : decode cX5_settles 150 = .ok (.iload 4, 2) := by decide +kernel
theorem dX5_settles_152 : decode cX5_settles 152 = .ok (.iload 5, 2) := by decide +kernel
theorem dX5_settles_154 : decode cX5_settles 154 = .ok (.aload_n 0, 1) := by decide +kernel
theorem dX5_settles_155 : decode cX5_settles 155 = .ok (.getfield 53, 3) := by decide +kernel
theorem dX5_settles_158 : decode cX5_settles 158 = .ok (.iload 4, 2) := by decide +kernel
theorem dX5_settles_160 : decode cX5_settles 160 = .ok (.iaload, 1) := by decide +kernel
theorem dX5_settles_161 : decode cX5_settles 161 = .ok (.invokestatic 198, 3) := by decide +kernel
theorem dX5_settles_164 : decode cX5_settles 164 = .ok (.iastore, 1) := by decide +kernel
theorem dX5_settles_165 : decode cX5_settles 165 = .ok (.iinc 4 1, 3) := by decide +kernel
theorem dX5_settles_168 : decode cX5_settles 168 = .ok (.goto (-97), 3) := by decide +kernel
theorem dX5_settles_171 : decode cX5_settles 171 = .ok (.aload_n 0, 1) := by decide +kernel
theorem dX5_settles_172 : decode cX5_settles 172 = .ok (.iload_n 1, 1) := by decide +kernel
theorem dX5_settles_173 : decode cX5_settles 173 = .ok (.ifCond .eq 11, 3) := by decide +kernel
theorem dX5_settles_176 : decode cX5_settles 176 = .ok (.iload_n 3, 1) := by decide +kernel
theorem dX5_settles_177 : decode cX5_settles 177 = .ok (.ifCond .ne 7, 3) := by decide +kernel
theorem dX5_settles_180 : decode cX5_settles 180 = .ok (.iconst 1, 1) := by decide +kernel
theorem dX5_settles_181 : decode cX5_settles 181 = .ok (.goto 4, 3) := by decide +kernel
theorem dX5_settles_184 : decode cX5_settles 184 = .ok (.iconst 0, 1) := by decide +kernel
theorem dX5_settles_185 : decode cX5_settles 185 = .ok (.putfield 232, 3) := by decide +kernel
theorem dX5_settles_188 : decode cX5_settles 188 = .ok (.aload_n 0, 1) := by decide +kernel
theorem dX5_settles_189 : decode cX5_settles 189 = .ok (.iload_n 2, 1) := by decide +kernel
theorem dX5_settles_190 : decode cX5_settles 190 = .ok (.putfield 240, 3) := by decide +kernel
theorem dX5_settles_193 : decode cX5_settles 193 = .ok (.iload_n 1, 1) := by decide +kernel
theorem dX5_settles_194 : decode cX5_settles 194 = .ok (.ifCond .eq 11, 3) := by decide +kernel
theorem dX5_settles_197 : decode cX5_settles 197 = .ok (.iload_n 3, 1) := by decide +kernel
theorem dX5_settles_198 : decode cX5_settles 198 = .ok (.ifCond .eq 7, 3) := by decide +kernel
theorem dX5_settles_201 : decode cX5_settles 201 = .ok (.iconst 1, 1) := by decide +kernel
theorem dX5_settles_202 : decode cX5_settles 202 = .ok (.goto 4, 3) := by decide +kernel
theorem dX5_settles_205 : decode cX5_settles 205 = .ok (.iconst 0, 1) := by decide +kernel
theorem dX5_settles_206 : decode cX5_settles 206 = .ok (.istore_n 1, 1) := by decide +kernel
theorem dX5_settles_207 : decode cX5_settles 207 = .ok (.iinc 2 1, 3) := by decide +kernel
theorem dX5_settles_210 : decode cX5_settles 210 = .ok (.goto (-159), 3) := by decide +kernel
theorem dX5_settles_213 : decode cX5_settles 213 = .ok (.return_, 1) := by decide +kernel
theorem dX5_infoBy_0 : decode cX5_infoBy 0 = .ok (.iload_n 2, 1) := by decide +kernel
theorem dX5_infoBy_1 : decode cX5_infoBy 1 = .ok (.tableswitch 57 4 6 #[27, 33, 51], 27) := by decide +kernel
theorem dX5_infoBy_28 : decode cX5_infoBy 28 = .ok (.aload_n 0, 1) := by decide +kernel
theorem dX5_infoBy_29 : decode cX5_infoBy 29 = .ok (.iload_n 1, 1) := by decide +kernel
theorem dX5_infoBy_30 : decode cX5_infoBy 30 = .ok (.invokevirtual 183, 3) := by decide +kernel
theorem dX5_infoBy_33 : decode cX5_infoBy 33 = .ok (.ireturn, 1) := by decide +kernel
theorem dX5_infoBy_34 : decode cX5_infoBy 34 = .ok (.aload_n 0, 1) := by decide +kernel
theorem dX5_infoBy_35 : decode cX5_infoBy 35 = .ok (.getfield 232, 3) := by decide +kernel
theorem dX5_infoBy_38 : decode cX5_infoBy 38 = .ok (.ifCond .eq 12, 3) := by decide +kernel
theorem dX5_infoBy_41 : decode cX5_infoBy 41 = .ok (.aload_n 0, 1) := by decide +kernel
theorem dX5_infoBy_42 : decode cX5_infoBy 42 = .ok (.getfield 53, 3) := by decide +kernel
theorem dX5_infoBy_45 : decode cX5_infoBy 45 = .ok (.iload_n 1, 1) := by decide +kernel
theorem dX5_infoBy_46 : decode cX5_infoBy 46 = .ok (.iaload, 1) := by decide +kernel
theorem dX5_infoBy_47 : decode cX5_infoBy 47 = .ok (.goto 4, 3) := by decide +kernel
theorem dX5_infoBy_50 : decode cX5_infoBy 50 = .ok (.iconst (-1), 1) := by decide +kernel
theorem dX5_infoBy_51 : decode cX5_infoBy 51 = .ok (.ireturn, 1) := by decide +kernel
theorem dX5_infoBy_52 : decode cX5_infoBy 52 = .ok (.aload_n 0, 1) := by decide +kernel
theorem dX5_infoBy_53 : decode cX5_infoBy 53 = .ok (.iload_n 1, 1) := by decide +kernel
theorem dX5_infoBy_54 : decode cX5_infoBy 54 = .ok (.invokevirtual 243, 3) := by decide +kernel
theorem dX5_infoBy_57 : decode cX5_infoBy 57 = .ok (.ireturn, 1) := by decide +kernel
theorem dX5_infoBy_58 : decode cX5_infoBy 58 = .ok (.aload_n 0, 1) := by decide +kernel
theorem dX5_infoBy_59 : decode cX5_infoBy 59 = .ok (.iload_n 1, 1) := by decide +kernel
theorem dX5_infoBy_60 : decode cX5_infoBy 60 = .ok (.iload_n 2, 1) := by decide +kernel
theorem dX5_infoBy_61 : decode cX5_infoBy 61 = .ok (.invokevirtual 157, 3) := by decide +kernel
theorem dX5_infoBy_64 : decode cX5_infoBy 64 = .ok (.ireturn, 1) := by decide +kernel
theorem dX5_info_0 : decode cX5_info 0 = .ok (.aload_n 0, 1) := by decide +kernel
theorem dX5_info_1 : decode cX5_info 1 = .ok (.iload_n 1, 1) := by decide +kernel
theorem dX5_info_2 : decode cX5_info 2 = .ok (.iload_n 2, 1) := by decide +kernel
theorem dX5_info_3 : decode cX5_info 3 = .ok (.invokevirtual 154, 3) := by decide +kernel
theorem dX5_info_6 : decode cX5_info 6 = .ok (.ifCond .eq 15, 3) := by decide +kernel
theorem dX5_info_9 : decode cX5_info 9 = .ok (.iload_n 3, 1) := by decide +kernel
theorem dX5_info_10 : decode cX5_info 10 = .ok (.i2l, 1) := by decide +kernel
theorem dX5_info_11 : decode cX5_info 11 = .ok (.lconst 0, 1) := by decide +kernel
theorem dX5_info_12 : decode cX5_info 12 = .ok (.ldc2_w 246, 3) := by decide +kernel
theorem dX5_info_15 : decode cX5_info 15 = .ok (.invokestatic 89, 3) := by decide +kernel
theorem dX5_info_18 : decode cX5_info 18 = .ok (.ifCond .ne 6, 3) := by decide +kernel
theorem dX5_info_21 : decode cX5_info 21 = .ok (.bipush (-2), 2) := by decide +kernel
theorem dX5_info_23 : decode cX5_info 23 = .ok (.ireturn, 1) := by decide +kernel
theorem dX5_info_24 : decode cX5_info 24 = .ok (.aload_n 0, 1) := by decide +kernel
theorem dX5_info_25 : decode cX5_info 25 = .ok (.invokevirtual 248, 3) := by decide +kernel
theorem dX5_info_28 : decode cX5_info 28 = .ok (.aload_n 0, 1) := by decide +kernel
theorem dX5_info_29 : decode cX5_info 29 = .ok (.iconst 3, 1) := by decide +kernel
theorem dX5_info_30 : decode cX5_info 30 = .ok (.iload_n 1, 1) := by decide +kernel
theorem dX5_info_31 : decode cX5_info 31 = .ok (.imul, 1) := by decide +kernel
theorem dX5_info_32 : decode cX5_info 32 = .ok (.iload_n 2, 1) := by decide +kernel
theorem dX5_info_33 : decode cX5_info 33 = .ok (.iadd, 1) := by decide +kernel
theorem dX5_info_34 : decode cX5_info 34 = .ok (.iload_n 3, 1) := by decide +kernel
theorem dX5_info_35 : decode cX5_info 35 = .ok (.invokevirtual 251, 3) := by decide +kernel
theorem dX5_info_38 : decode cX5_info 38 = .ok (.ireturn, 1) := by decide +kernel
theorem dX5_boundBy_0 : decode cX5_boundBy 0 = .ok (.aload_n 0, 1) := by decide +kernel
theorem dX5_boundBy_1 : decode cX5_boundBy 1 = .ok (.getfield 232, 3) := by decide +kernel
theorem dX5_boundBy_4 : decode cX5_boundBy 4 = .ok (.ifCond .eq 12, 3) := by decide +kernel
theorem dX5_boundBy_7 : decode cX5_boundBy 7 = .ok (.aload_n 0, 1) := by decide +kernel
theorem dX5_boundBy_8 : decode cX5_boundBy 8 = .ok (.getfield 59, 3) := by decide +kernel
theorem dX5_boundBy_11 : decode cX5_boundBy 11 = .ok (.iload_n 1, 1) := by decide +kernel
theorem dX5_boundBy_12 : decode cX5_boundBy 12 = .ok (.iaload, 1) := by decide +kernel
theorem dX5_boundBy_13 : decode cX5_boundBy 13 = .ok (.goto 4, 3) := by decide +kernel
theorem dX5_boundBy_16 : decode cX5_boundBy 16 = .ok (.iconst (-1), 1) := by decide +kernel
theorem dX5_boundBy_17 : decode cX5_boundBy 17 = .ok (.ireturn, 1) := by decide +kernel
theorem dX5_bound_0 : decode cX5_bound 0 = .ok (.aload_n 0, 1) := by decide +kernel
theorem dX5_bound_1 : decode cX5_bound 1 = .ok (.invokevirtual 248, 3) := by decide +kernel
theorem dX5_bound_4 : decode cX5_bound 4 = .ok (.aload_n 0, 1) := by decide +kernel
theorem dX5_bound_5 : decode cX5_bound 5 = .ok (.iload_n 1, 1) := by decide +kernel
theorem dX5_bound_6 : decode cX5_bound 6 = .ok (.iload_n 2, 1) := by decide +kernel
theorem dX5_bound_7 : decode cX5_bound 7 = .ok (.invokevirtual 154, 3) := by decide +kernel
theorem dX5_bound_10 : decode cX5_bound 10 = .ok (.ifCond .eq 15, 3) := by decide +kernel
theorem dX5_bound_13 : decode cX5_bound 13 = .ok (.aload_n 0, 1) := by decide +kernel
theorem dX5_bound_14 : decode cX5_bound 14 = .ok (.iconst 3, 1) := by decide +kernel
theorem dX5_bound_15 : decode cX5_bound 15 = .ok (.iload_n 1, 1) := by decide +kernel
theorem dX5_bound_16 : decode cX5_bound 16 = .ok (.imul, 1) := by decide +kernel
theorem dX5_bound_17 : decode cX5_bound 17 = .ok (.iload_n 2, 1) := by decide +kernel
theorem dX5_bound_18 : decode cX5_bound 18 = .ok (.iadd, 1) := by decide +kernel
theorem dX5_bound_19 : decode cX5_bound 19 = .ok (.invokevirtual 254, 3) := by decide +kernel
theorem dX5_bound_22 : decode cX5_bound 22 = .ok (.goto 5, 3) := by decide +kernel
theorem dX5_bound_25 : decode cX5_bound 25 = .ok (.bipush (-2), 2) := by decide +kernel
theorem dX5_bound_27 : decode cX5_bound 27 = .ok (.ireturn, 1) := by decide +kernel
theorem dX5_momentOf_0 : decode cX5_momentOf 0 = .ok (.iconst 0, 1) := by decide +kernel
theorem dX5_momentOf_1 : decode cX5_momentOf 1 = .ok (.istore 4, 2) := by decide +kernel
theorem dX5_momentOf_3 : decode cX5_momentOf 3 = .ok (.iconst 3, 1) := by decide +kernel
theorem dX5_momentOf_4 : decode cX5_momentOf 4 = .ok (.iload_n 2, 1) := by decide +kernel
theorem dX5_momentOf_5 : decode cX5_momentOf 5 = .ok (.imul, 1) := by decide +kernel
theorem dX5_momentOf_6 : decode cX5_momentOf 6 = .ok (.istore 5, 2) := by decide +kernel
theorem dX5_momentOf_8 : decode cX5_momentOf 8 = .ok (.iload 5, 2) := by decide +kernel
theorem dX5_momentOf_10 : decode cX5_momentOf 10 = .ok (.iconst 3, 1) := by decide +kernel
theorem dX5_momentOf_11 : decode cX5_momentOf 11 = .ok (.iload_n 2, 1) := by decide +kernel
theorem dX5_momentOf_12 : decode cX5_momentOf 12 = .ok (.imul, 1) := by decide +kernel
theorem dX5_momentOf_13 : decode cX5_momentOf 13 = .ok (.iconst 3, 1) := by decide +kernel
theorem dX5_momentOf_14 : decode cX5_momentOf 14 = .ok (.iadd, 1) := by decide +kernel
theorem dX5_momentOf_15 : decode cX5_momentOf 15 = .ok (.if_icmp .ge 31, 3) := by decide +kernel
theorem dX5_momentOf_18 : decode cX5_momentOf 18 = .ok (.aload_n 0, 1) := by decide +kernel
theorem dX5_momentOf_19 : decode cX5_momentOf 19 = .ok (.iload_n 1, 1) := by decide +kernel
theorem dX5_momentOf_20 : decode cX5_momentOf 20 = .ok (.iload 5, 2) := by decide +kernel
theorem dX5_momentOf_22 : decode cX5_momentOf 22 = .ok (.invokevirtual 163, 3) := by decide +kernel
theorem dX5_momentOf_25 : decode cX5_momentOf 25 = .ok (.ifCond .eq 15, 3) := by decide +kernel
theorem dX5_momentOf_28 : decode cX5_momentOf 28 = .ok (.iload 4, 2) := by decide +kernel
theorem dX5_momentOf_30 : decode cX5_momentOf 30 = .ok (.iload_n 3, 1) := by decide +kernel
theorem dX5_momentOf_31 : decode cX5_momentOf 31 = .ok (.if_icmp .ne 6, 3) := by decide +kernel
theorem dX5_momentOf_34 : decode cX5_momentOf 34 = .ok (.iload 5, 2) := by decide +kernel
theorem dX5_momentOf_36 : decode cX5_momentOf 36 = .ok (.ireturn, 1) := by decide +kernel
theorem dX5_momentOf_37 : decode cX5_momentOf 37 = .ok (.iinc 4 1, 3) := by decide +kernel
theorem dX5_momentOf_40 : decode cX5_momentOf 40 = .ok (.iinc 5 1, 3) := by decide +kernel
theorem dX5_momentOf_43 : decode cX5_momentOf 43 = .ok (.goto (-35), 3) := by decide +kernel
theorem dX5_momentOf_46 : decode cX5_momentOf 46 = .ok (.iconst (-1), 1) := by decide +kernel
theorem dX5_momentOf_47 : decode cX5_momentOf 47 = .ok (.ireturn, 1) := by decide +kernel
theorem dX5_searchedBy_0 : decode cX5_searchedBy 0 = .ok (.aload_n 0, 1) := by decide +kernel
theorem dX5_searchedBy_1 : decode cX5_searchedBy 1 = .ok (.getfield 232, 3) := by decide +kernel
theorem dX5_searchedBy_4 : decode cX5_searchedBy 4 = .ok (.ifCond .ne 5, 3) := by decide +kernel
theorem dX5_searchedBy_7 : decode cX5_searchedBy 7 = .ok (.iconst (-1), 1) := by decide +kernel
theorem dX5_searchedBy_8 : decode cX5_searchedBy 8 = .ok (.ireturn, 1) := by decide +kernel
theorem dX5_searchedBy_9 : decode cX5_searchedBy 9 = .ok (.iload_n 1, 1) := by decide +kernel
theorem dX5_searchedBy_10 : decode cX5_searchedBy 10 = .ok (.iconst 3, 1) := by decide +kernel
theorem dX5_searchedBy_11 : decode cX5_searchedBy 11 = .ok (.idiv, 1) := by decide +kernel
theorem dX5_searchedBy_12 : decode cX5_searchedBy 12 = .ok (.ifCond .ne 7, 3) := by decide +kernel
theorem dX5_searchedBy_15 : decode cX5_searchedBy 15 = .ok (.iconst 1, 1) := by decide +kernel
theorem dX5_searchedBy_16 : decode cX5_searchedBy 16 = .ok (.goto 4, 3) := by decide +kernel
theorem dX5_searchedBy_19 : decode cX5_searchedBy 19 = .ok (.iconst 0, 1) := by decide +kernel
theorem dX5_searchedBy_20 : decode cX5_searchedBy 20 = .ok (.istore_n 2, 1) := by decide +kernel
theorem dX5_searchedBy_21 : decode cX5_searchedBy 21 = .ok (.iload_n 1, 1) := by decide +kernel
theorem dX5_searchedBy_22 : decode cX5_searchedBy 22 = .ok (.iconst 3, 1) := by decide +kernel
theorem dX5_searchedBy_23 : decode cX5_searchedBy 23 = .ok (.idiv, 1) := by decide +kernel
theorem dX5_searchedBy_24 : decode cX5_searchedBy 24 = .ok (.iconst 2, 1) := by decide +kernel
theorem dX5_searchedBy_25 : decode cX5_searchedBy 25 = .ok (.if_icmp .ne 7, 3) := by decide +kernel
theorem dX5_searchedBy_28 : decode cX5_searchedBy 28 = .ok (.iconst 1, 1) := by decide +kernel
theorem dX5_searchedBy_29 : decode cX5_searchedBy 29 = .ok (.goto 4, 3) := by decide +kernel
theorem dX5_searchedBy_32 : decode cX5_searchedBy 32 = .ok (.iconst 2, 1) := by decide +kernel
theorem dX5_searchedBy_33 : decode cX5_searchedBy 33 = .ok (.istore_n 3, 1) := by decide +kernel
theorem dX5_searchedBy_34 : decode cX5_searchedBy 34 = .ok (.iconst (-1), 1) := by decide +kernel
theorem dX5_searchedBy_35 : decode cX5_searchedBy 35 = .ok (.istore 4, 2) := by decide +kernel
theorem dX5_searchedBy_37 : decode cX5_searchedBy 37 = .ok (.iconst 1, 1) := by decide +kernel
theorem dX5_searchedBy_38 : decode cX5_searchedBy 38 = .ok (.istore 5, 2) := by decide +kernel
theorem dX5_searchedBy_40 : decode cX5_searchedBy 40 = .ok (.iconst 0, 1) := by decide +kernel
theorem dX5_searchedBy_41 : decode cX5_searchedBy 41 = .ok (.istore 6, 2) := by decide +kernel
theorem dX5_searchedBy_43 : decode cX5_searchedBy 43 = .ok (.iload 6, 2) := by decide +kernel
theorem dX5_searchedBy_45 : decode cX5_searchedBy 45 = .ok (.iconst 3, 1) := by decide +kernel
theorem dX5_searchedBy_46 : decode cX5_searchedBy 46 = .ok (.if_icmp .ge 122, 3) := by decide +kernel
theorem dX5_searchedBy_49 : decode cX5_searchedBy 49 = .ok (.iload 5, 2) := by decide +kernel
