theorem dX0_init_0 : decode cX0_init 0 = .ok (.aload_n 0, 1) := by decide +kernel
theorem dX0_init_1 : decode cX0_init 1 = .ok (.invokespecial 3, 3) := by decide +kernel
theorem dX0_init_4 : decode cX0_init 4 = .ok (.aload_n 0, 1) := by decide +kernel
theorem dX0_init_5 : decode cX0_init 5 = .ok (.iconst 3, 1) := by decide +kernel
theorem dX0_init_6 : decode cX0_init 6 = .ok (.newarray .int, 2) := by decide +kernel
theorem dX0_init_8 : decode cX0_init 8 = .ok (.putfield 9, 3) := by decide +kernel
theorem dX0_init_11 : decode cX0_init 11 = .ok (.aload_n 0, 1) := by decide +kernel
theorem dX0_init_12 : decode cX0_init 12 = .ok (.bipush 9, 2) := by decide +kernel
theorem dX0_init_14 : decode cX0_init 14 = .ok (.newarray .int, 2) := by decide +kernel
theorem dX0_init_16 : decode cX0_init 16 = .ok (.putfield 15, 3) := by decide +kernel
theorem dX0_init_19 : decode cX0_init 19 = .ok (.aload_n 0, 1) := by decide +kernel
theorem dX0_init_20 : decode cX0_init 20 = .ok (.bipush 9, 2) := by decide +kernel
theorem dX0_init_22 : decode cX0_init 22 = .ok (.newarray .int, 2) := by decide +kernel
theorem dX0_init_24 : decode cX0_init 24 = .ok (.putfield 18, 3) := by decide +kernel
theorem dX0_init_27 : decode cX0_init 27 = .ok (.aload_n 0, 1) := by decide +kernel
theorem dX0_init_28 : decode cX0_init 28 = .ok (.bipush 9, 2) := by decide +kernel
theorem dX0_init_30 : decode cX0_init 30 = .ok (.newarray .int, 2) := by decide +kernel
theorem dX0_init_32 : decode cX0_init 32 = .ok (.putfield 21, 3) := by decide +kernel
theorem dX0_init_35 : decode cX0_init 35 = .ok (.aload_n 0, 1) := by decide +kernel
theorem dX0_init_36 : decode cX0_init 36 = .ok (.bipush 9, 2) := by decide +kernel
theorem dX0_init_38 : decode cX0_init 38 = .ok (.newarray .int, 2) := by decide +kernel
theorem dX0_init_40 : decode cX0_init 40 = .ok (.putfield 24, 3) := by decide +kernel
theorem dX0_init_43 : decode cX0_init 43 = .ok (.aload_n 0, 1) := by decide +kernel
theorem dX0_init_44 : decode cX0_init 44 = .ok (.bipush 9, 2) := by decide +kernel
theorem dX0_init_46 : decode cX0_init 46 = .ok (.newarray .int, 2) := by decide +kernel
theorem dX0_init_48 : decode cX0_init 48 = .ok (.putfield 27, 3) := by decide +kernel
theorem dX0_init_51 : decode cX0_init 51 = .ok (.aload_n 0, 1) := by decide +kernel
theorem dX0_init_52 : decode cX0_init 52 = .ok (.bipush 27, 2) := by decide +kernel
theorem dX0_init_54 : decode cX0_init 54 = .ok (.newarray .int, 2) := by decide +kernel
theorem dX0_init_56 : decode cX0_init 56 = .ok (.putfield 30, 3) := by decide +kernel
theorem dX0_init_59 : decode cX0_init 59 = .ok (.aload_n 0, 1) := by decide +kernel
theorem dX0_init_60 : decode cX0_init 60 = .ok (.bipush 27, 2) := by decide +kernel
theorem dX0_init_62 : decode cX0_init 62 = .ok (.newarray .int, 2) := by decide +kernel
theorem dX0_init_64 : decode cX0_init 64 = .ok (.putfield 33, 3) := by decide +kernel
theorem dX0_init_67 : decode cX0_init 67 = .ok (.aload_n 0, 1) := by decide +kernel
theorem dX0_init_68 : decode cX0_init 68 = .ok (.bipush 9, 2) := by decide +kernel
theorem dX0_init_70 : decode cX0_init 70 = .ok (.newarray .int, 2) := by decide +kernel
theorem dX0_init_72 : decode cX0_init 72 = .ok (.putfield 36, 3) := by decide +kernel
theorem dX0_init_75 : decode cX0_init 75 = .ok (.aload_n 0, 1) := by decide +kernel
theorem dX0_init_76 : decode cX0_init 76 = .ok (.iconst 3, 1) := by decide +kernel
theorem dX0_init_77 : decode cX0_init 77 = .ok (.newarray .int, 2) := by decide +kernel
theorem dX0_init_79 : decode cX0_init 79 = .ok (.putfield 39, 3) := by decide +kernel
theorem dX0_init_82 : decode cX0_init 82 = .ok (.aload_n 0, 1) := by decide +kernel
theorem dX0_init_83 : decode cX0_init 83 = .ok (.iconst 3, 1) := by decide +kernel
theorem dX0_init_84 : decode cX0_init 84 = .ok (.newarray .int, 2) := by decide +kernel
theorem dX0_init_86 : decode cX0_init 86 = .ok (.putfield 42, 3) := by decide +kernel
theorem dX0_init_89 : decode cX0_init 89 = .ok (.aload_n 0, 1) := by decide +kernel
theorem dX0_init_90 : decode cX0_init 90 = .ok (.aload_n 1, 1) := by decide +kernel
theorem dX0_init_91 : decode cX0_init 91 = .ok (.putfield 45, 3) := by decide +kernel
theorem dX0_init_94 : decode cX0_init 94 = .ok (.aload_n 0, 1) := by decide +kernel
theorem dX0_init_95 : decode cX0_init 95 = .ok (.iconst (-1), 1) := by decide +kernel
theorem dX0_init_96 : decode cX0_init 96 = .ok (.putfield 49, 3) := by decide +kernel
theorem dX0_init_99 : decode cX0_init 99 = .ok (.aload_n 0, 1) := by decide +kernel
theorem dX0_init_100 : decode cX0_init 100 = .ok (.iconst 1, 1) := by decide +kernel
theorem dX0_init_101 : decode cX0_init 101 = .ok (.putfield 53, 3) := by decide +kernel
theorem dX0_init_104 : decode cX0_init 104 = .ok (.return_, 1) := by decide +kernel
theorem dX0_settle_0 : decode cX0_settle 0 = .ok (.aload_n 0, 1) := by decide +kernel
theorem dX0_settle_1 : decode cX0_settle 1 = .ok (.getfield 53, 3) := by decide +kernel
theorem dX0_settle_4 : decode cX0_settle 4 = .ok (.ifCond .ne 4, 3) := by decide +kernel
theorem dX0_settle_7 : decode cX0_settle 7 = .ok (.return_, 1) := by decide +kernel
theorem dX0_settle_8 : decode cX0_settle 8 = .ok (.aload_n 0, 1) := by decide +kernel
theorem dX0_settle_9 : decode cX0_settle 9 = .ok (.iconst 0, 1) := by decide +kernel
theorem dX0_settle_10 : decode cX0_settle 10 = .ok (.putfield 53, 3) := by decide +kernel
theorem dX0_settle_13 : decode cX0_settle 13 = .ok (.aload_n 0, 1) := by decide +kernel
theorem dX0_settle_14 : decode cX0_settle 14 = .ok (.iconst (-1), 1) := by decide +kernel
theorem dX0_settle_15 : decode cX0_settle 15 = .ok (.putfield 49, 3) := by decide +kernel
theorem dX0_settle_18 : decode cX0_settle 18 = .ok (.iconst 0, 1) := by decide +kernel
theorem dX0_settle_19 : decode cX0_settle 19 = .ok (.istore_n 1, 1) := by decide +kernel
theorem dX0_settle_20 : decode cX0_settle 20 = .ok (.iload_n 1, 1) := by decide +kernel
theorem dX0_settle_21 : decode cX0_settle 21 = .ok (.iconst 3, 1) := by decide +kernel
theorem dX0_settle_22 : decode cX0_settle 22 = .ok (.if_icmp .ge 23, 3) := by decide +kernel
theorem dX0_settle_25 : decode cX0_settle 25 = .ok (.aload_n 0, 1) := by decide +kernel
theorem dX0_settle_26 : decode cX0_settle 26 = .ok (.getfield 9, 3) := by decide +kernel
theorem dX0_settle_29 : decode cX0_settle 29 = .ok (.iload_n 1, 1) := by decide +kernel
theorem dX0_settle_30 : decode cX0_settle 30 = .ok (.aload_n 0, 1) := by decide +kernel
theorem dX0_settle_31 : decode cX0_settle 31 = .ok (.getfield 45, 3) := by decide +kernel
theorem dX0_settle_34 : decode cX0_settle 34 = .ok (.iload_n 1, 1) := by decide +kernel
theorem dX0_settle_35 : decode cX0_settle 35 = .ok (.invokevirtual 57, 3) := by decide +kernel
theorem dX0_settle_38 : decode cX0_settle 38 = .ok (.iastore, 1) := by decide +kernel
theorem dX0_settle_39 : decode cX0_settle 39 = .ok (.iinc 1 1, 3) := by decide +kernel
theorem dX0_settle_42 : decode cX0_settle 42 = .ok (.goto (-22), 3) := by decide +kernel
theorem dX0_settle_45 : decode cX0_settle 45 = .ok (.iconst 0, 1) := by decide +kernel
theorem dX0_settle_46 : decode cX0_settle 46 = .ok (.istore_n 1, 1) := by decide +kernel
theorem dX0_settle_47 : decode cX0_settle 47 = .ok (.iload_n 1, 1) := by decide +kernel
theorem dX0_settle_48 : decode cX0_settle 48 = .ok (.bipush 9, 2) := by decide +kernel
theorem dX0_settle_50 : decode cX0_settle 50 = .ok (.if_icmp .ge 38, 3) := by decide +kernel
theorem dX0_settle_53 : decode cX0_settle 53 = .ok (.aload_n 0, 1) := by decide +kernel
theorem dX0_settle_54 : decode cX0_settle 54 = .ok (.getfield 15, 3) := by decide +kernel
theorem dX0_settle_57 : decode cX0_settle 57 = .ok (.iload_n 1, 1) := by decide +kernel
theorem dX0_settle_58 : decode cX0_settle 58 = .ok (.iload_n 1, 1) := by decide +kernel
theorem dX0_settle_59 : decode cX0_settle 59 = .ok (.iconst 3, 1) := by decide +kernel
theorem dX0_settle_60 : decode cX0_settle 60 = .ok (.irem, 1) := by decide +kernel
theorem dX0_settle_61 : decode cX0_settle 61 = .ok (.ifCond .ne 19, 3) := by decide +kernel
theorem dX0_settle_64 : decode cX0_settle 64 = .ok (.aload_n 0, 1) := by decide +kernel
theorem dX0_settle_65 : decode cX0_settle 65 = .ok (.getfield 45, 3) := by decide +kernel
theorem dX0_settle_68 : decode cX0_settle 68 = .ok (.getfield 63, 3) := by decide +kernel
theorem dX0_settle_71 : decode cX0_settle 71 = .ok (.iconst 1, 1) := by decide +kernel
theorem dX0_settle_72 : decode cX0_settle 72 = .ok (.aaload, 1) := by decide +kernel
theorem dX0_settle_73 : decode cX0_settle 73 = .ok (.iload_n 1, 1) := by decide +kernel
theorem dX0_settle_74 : decode cX0_settle 74 = .ok (.iconst 3, 1) := by decide +kernel
theorem dX0_settle_75 : decode cX0_settle 75 = .ok (.idiv, 1) := by decide +kernel
theorem dX0_settle_76 : decode cX0_settle 76 = .ok (.iaload, 1) := by decide +kernel
theorem dX0_settle_77 : decode cX0_settle 77 = .ok (.goto 4, 3) := by decide +kernel
theorem dX0_settle_80 : decode cX0_settle 80 = .ok (.iconst 0, 1) := by decide +kernel
theorem dX0_settle_81 : decode cX0_settle 81 = .ok (.iastore, 1) := by decide +kernel
theorem dX0_settle_82 : decode cX0_settle 82 = .ok (.iinc 1 1, 3) := by decide +kernel
theorem dX0_settle_85 : decode cX0_settle 85 = .ok (.goto (-38), 3) := by decide +kernel
theorem dX0_settle_88 : decode cX0_settle 88 = .ok (.iconst 1, 1) := by decide +kernel
theorem dX0_settle_89 : decode cX0_settle 89 = .ok (.istore_n 1, 1) := by decide +kernel
theorem dX0_settle_90 : decode cX0_settle 90 = .ok (.iload_n 1, 1) := by decide +kernel
theorem dX0_settle_91 : decode cX0_settle 91 = .ok (.bipush 20, 2) := by decide +kernel
theorem dX0_settle_93 : decode cX0_settle 93 = .ok (.if_icmp .gt 30, 3) := by decide +kernel
theorem dX0_settle_96 : decode cX0_settle 96 = .ok (.aload_n 0, 1) := by decide +kernel
theorem dX0_settle_97 : decode cX0_settle 97 = .ok (.invokevirtual 67, 3) := by decide +kernel
theorem dX0_settle_100 : decode cX0_settle 100 = .ok (.ifCond .ne 4, 3) := by decide +kernel
theorem dX0_settle_103 : decode cX0_settle 103 = .ok (.return_, 1) := by decide +kernel
theorem dX0_settle_104 : decode cX0_settle 104 = .ok (.aload_n 0, 1) := by decide +kernel
theorem dX0_settle_105 : decode cX0_settle 105 = .ok (.invokevirtual 71, 3) := by decide +kernel
theorem dX0_settle_108 : decode cX0_settle 108 = .ok (.ifCond .ne 9, 3) := by decide +kernel
theorem dX0_settle_111 : decode cX0_settle 111 = .ok (.aload_n 0, 1) := by decide +kernel
theorem dX0_settle_112 : decode cX0_settle 112 = .ok (.iload_n 1, 1) := by decide +kernel
theorem dX0_settle_113 : decode cX0_settle 113 = .ok (.putfield 49, 3) := by decide +kernel
theorem dX0_settle_116 : decode cX0_settle 116 = .ok (.return_, 1) := by decide +kernel
theorem dX0_settle_117 : decode cX0_settle 117 = .ok (.iinc 1 1, 3) := by decide +kernel
theorem dX0_settle_120 : decode cX0_settle 120 = .ok (.goto (-30), 3) := by decide +kernel
theorem dX0_settle_123 : decode cX0_settle 123 = .ok (.return_, 1) := by decide +kernel
theorem dX0_lateOf_0 : decode cX0_lateOf 0 = .ok (.aload_n 0, 1) := by decide +kernel
theorem dX0_lateOf_1 : decode cX0_lateOf 1 = .ok (.getfield 49, 3) := by decide +kernel
theorem dX0_lateOf_4 : decode cX0_lateOf 4 = .ok (.iconst (-1), 1) := by decide +kernel
theorem dX0_lateOf_5 : decode cX0_lateOf 5 = .ok (.if_icmp .ne 7, 3) := by decide +kernel
theorem dX0_lateOf_8 : decode cX0_lateOf 8 = .ok (.iconst (-1), 1) := by decide +kernel
theorem dX0_lateOf_9 : decode cX0_lateOf 9 = .ok (.goto 9, 3) := by decide +kernel
theorem dX0_lateOf_12 : decode cX0_lateOf 12 = .ok (.aload_n 0, 1) := by decide +kernel
theorem dX0_lateOf_13 : decode cX0_lateOf 13 = .ok (.getfield 15, 3) := by decide +kernel
theorem dX0_lateOf_16 : decode cX0_lateOf 16 = .ok (.iload_n 1, 1) := by decide +kernel
theorem dX0_lateOf_17 : decode cX0_lateOf 17 = .ok (.iaload, 1) := by decide +kernel
theorem dX0_lateOf_18 : decode cX0_lateOf 18 = .ok (.ireturn, 1) := by decide +kernel
theorem dX0_boundOf_0 : decode cX0_boundOf 0 = .ok (.aload_n 0, 1) := by decide +kernel
theorem dX0_boundOf_1 : decode cX0_boundOf 1 = .ok (.getfield 49, 3) := by decide +kernel
theorem dX0_boundOf_4 : decode cX0_boundOf 4 = .ok (.iconst (-1), 1) := by decide +kernel
theorem dX0_boundOf_5 : decode cX0_boundOf 5 = .ok (.if_icmp .ne 7, 3) := by decide +kernel
theorem dX0_boundOf_8 : decode cX0_boundOf 8 = .ok (.iconst (-1), 1) := by decide +kernel
theorem dX0_boundOf_9 : decode cX0_boundOf 9 = .ok (.goto 9, 3) := by decide +kernel
theorem dX0_boundOf_12 : decode cX0_boundOf 12 = .ok (.aload_n 0, 1) := by decide +kernel
theorem dX0_boundOf_13 : decode cX0_boundOf 13 = .ok (.getfield 18, 3) := by decide +kernel
theorem dX0_boundOf_16 : decode cX0_boundOf 16 = .ok (.iload_n 1, 1) := by decide +kernel
theorem dX0_boundOf_17 : decode cX0_boundOf 17 = .ok (.iaload, 1) := by decide +kernel
theorem dX0_boundOf_18 : decode cX0_boundOf 18 = .ok (.ireturn, 1) := by decide +kernel
theorem dX0_meetingBits_0 : decode cX0_meetingBits 0 = .ok (.aload_n 0, 1) := by decide +kernel
theorem dX0_meetingBits_1 : decode cX0_meetingBits 1 = .ok (.getfield 45, 3) := by decide +kernel
theorem dX0_meetingBits_4 : decode cX0_meetingBits 4 = .ok (.invokevirtual 74, 3) := by decide +kernel
theorem dX0_meetingBits_7 : decode cX0_meetingBits 7 = .ok (.istore_n 1, 1) := by decide +kernel
theorem dX0_meetingBits_8 : decode cX0_meetingBits 8 = .ok (.iconst 0, 1) := by decide +kernel
theorem dX0_meetingBits_9 : decode cX0_meetingBits 9 = .ok (.istore_n 2, 1) := by decide +kernel
theorem dX0_meetingBits_10 : decode cX0_meetingBits 10 = .ok (.iconst 0, 1) := by decide +kernel
theorem dX0_meetingBits_11 : decode cX0_meetingBits 11 = .ok (.istore_n 3, 1) := by decide +kernel
theorem dX0_meetingBits_12 : decode cX0_meetingBits 12 = .ok (.iload_n 3, 1) := by decide +kernel
theorem dX0_meetingBits_13 : decode cX0_meetingBits 13 = .ok (.iconst 3, 1) := by decide +kernel
theorem dX0_meetingBits_14 : decode cX0_meetingBits 14 = .ok (.if_icmp .ge 58, 3) := by decide +kernel
theorem dX0_meetingBits_17 : decode cX0_meetingBits 17 = .ok (.aload_n 0, 1) := by decide +kernel
theorem dX0_meetingBits_18 : decode cX0_meetingBits 18 = .ok (.getfield 49, 3) := by decide +kernel
theorem dX0_meetingBits_21 : decode cX0_meetingBits 21 = .ok (.iconst (-1), 1) := by decide +kernel
theorem dX0_meetingBits_22 : decode cX0_meetingBits 22 = .ok (.if_icmp .eq 50, 3) := by decide +kernel
theorem dX0_meetingBits_25 : decode cX0_meetingBits 25 = .ok (.iload_n 1, 1) := by decide +kernel
theorem dX0_meetingBits_26 : decode cX0_meetingBits 26 = .ok (.iload_n 3, 1) := by decide +kernel
theorem dX0_meetingBits_27 : decode cX0_meetingBits 27 = .ok (.ishr, 1) := by decide +kernel
theorem dX0_meetingBits_28 : decode cX0_meetingBits 28 = .ok (.iconst 1, 1) := by decide +kernel
theorem dX0_meetingBits_29 : decode cX0_meetingBits 29 = .ok (.iand, 1) := by decide +kernel
theorem dX0_meetingBits_30 : decode cX0_meetingBits 30 = .ok (.ifCond .eq 36, 3) := by decide +kernel
theorem dX0_meetingBits_33 : decode cX0_meetingBits 33 = .ok (.aload_n 0, 1) := by decide +kernel
theorem dX0_meetingBits_34 : decode cX0_meetingBits 34 = .ok (.getfield 18, 3) := by decide +kernel
theorem dX0_meetingBits_37 : decode cX0_meetingBits 37 = .ok (.aload_n 0, 1) := by decide +kernel
theorem dX0_meetingBits_38 : decode cX0_meetingBits 38 = .ok (.getfield 45, 3) := by decide +kernel
theorem dX0_meetingBits_41 : decode cX0_meetingBits 41 = .ok (.iload_n 3, 1) := by decide +kernel
theorem dX0_meetingBits_42 : decode cX0_meetingBits 42 = .ok (.invokevirtual 78, 3) := by decide +kernel
theorem dX0_meetingBits_45 : decode cX0_meetingBits 45 = .ok (.iaload, 1) := by decide +kernel
theorem dX0_meetingBits_46 : decode cX0_meetingBits 46 = .ok (.aload_n 0, 1) := by decide +kernel
theorem dX0_meetingBits_47 : decode cX0_meetingBits 47 = .ok (.getfield 45, 3) := by decide +kernel
theorem dX0_meetingBits_50 : decode cX0_meetingBits 50 = .ok (.getfield 63, 3) := by decide +kernel
theorem dX0_meetingBits_53 : decode cX0_meetingBits 53 = .ok (.iconst 2, 1) := by decide +kernel
theorem dX0_meetingBits_54 : decode cX0_meetingBits 54 = .ok (.aaload, 1) := by decide +kernel
theorem dX0_meetingBits_55 : decode cX0_meetingBits 55 = .ok (.iload_n 3, 1) := by decide +kernel
theorem dX0_meetingBits_56 : decode cX0_meetingBits 56 = .ok (.iaload, 1) := by decide +kernel
theorem dX0_meetingBits_57 : decode cX0_meetingBits 57 = .ok (.if_icmp .gt 9, 3) := by decide +kernel
theorem dX0_meetingBits_60 : decode cX0_meetingBits 60 = .ok (.iload_n 2, 1) := by decide +kernel
theorem dX0_meetingBits_61 : decode cX0_meetingBits 61 = .ok (.iconst 1, 1) := by decide +kernel
theorem dX0_meetingBits_62 : decode cX0_meetingBits 62 = .ok (.iload_n 3, 1) := by decide +kernel
theorem dX0_meetingBits_63 : decode cX0_meetingBits 63 = .ok (.ishl, 1) := by decide +kernel
theorem dX0_meetingBits_64 : decode cX0_meetingBits 64 = .ok (.ior, 1) := by decide +kernel
theorem dX0_meetingBits_65 : decode cX0_meetingBits 65 = .ok (.istore_n 2, 1) := by decide +kernel
theorem dX0_meetingBits_66 : decode cX0_meetingBits 66 = .ok (.iinc 3 1, 3) := by decide +kernel
theorem dX0_meetingBits_69 : decode cX0_meetingBits 69 = .ok (.goto (-57), 3) := by decide +kernel
theorem dX0_meetingBits_72 : decode cX0_meetingBits 72 = .ok (.iload_n 2, 1) := by decide +kernel
theorem dX0_meetingBits_73 : decode cX0_meetingBits 73 = .ok (.ireturn, 1) := by decide +kernel
theorem dX0_searchedOf_0 : decode cX0_searchedOf 0 = .ok (.aload_n 0, 1) := by decide +kernel
theorem dX0_searchedOf_1 : decode cX0_searchedOf 1 = .ok (.getfield 49, 3) := by decide +kernel
theorem dX0_searchedOf_4 : decode cX0_searchedOf 4 = .ok (.iconst (-1), 1) := by decide +kernel
theorem dX0_searchedOf_5 : decode cX0_searchedOf 5 = .ok (.if_icmp .ne 5, 3) := by decide +kernel
theorem dX0_searchedOf_8 : decode cX0_searchedOf 8 = .ok (.iconst (-1), 1) := by decide +kernel
theorem dX0_searchedOf_9 : decode cX0_searchedOf 9 = .ok (.ireturn, 1) := by decide +kernel
theorem dX0_searchedOf_10 : decode cX0_searchedOf 10 = .ok (.aload_n 0, 1) := by decide +kernel
theorem dX0_searchedOf_11 : decode cX0_searchedOf 11 = .ok (.iload_n 1, 1) := by decide +kernel
theorem dX0_searchedOf_12 : decode cX0_searchedOf 12 = .ok (.invokevirtual 81, 3) := by decide +kernel
theorem dX0_searchedOf_15 : decode cX0_searchedOf 15 = .ok (.iload_n 1, 1) := by decide +kernel
theorem dX0_searchedOf_16 : decode cX0_searchedOf 16 = .ok (.iconst 3, 1) := by decide +kernel
theorem dX0_searchedOf_17 : decode cX0_searchedOf 17 = .ok (.idiv, 1) := by decide +kernel
theorem dX0_searchedOf_18 : decode cX0_searchedOf 18 = .ok (.iconst 1, 1) := by decide +kernel
theorem dX0_searchedOf_19 : decode cX0_searchedOf 19 = .ok (.iadd, 1) := by decide +kernel
theorem dX0_searchedOf_20 : decode cX0_searchedOf 20 = .ok (.iconst 3, 1) := by decide +kernel
theorem dX0_searchedOf_21 : decode cX0_searchedOf 21 = .ok (.irem, 1) := by decide +kernel
theorem dX0_searchedOf_22 : decode cX0_searchedOf 22 = .ok (.istore_n 2, 1) := by decide +kernel
theorem dX0_searchedOf_23 : decode cX0_searchedOf 23 = .ok (.iload_n 1, 1) := by decide +kernel
theorem dX0_searchedOf_24 : decode cX0_searchedOf 24 = .ok (.iconst 3, 1) := by decide +kernel
theorem dX0_searchedOf_25 : decode cX0_searchedOf 25 = .ok (.idiv, 1) := by decide +kernel
theorem dX0_searchedOf_26 : decode cX0_searchedOf 26 = .ok (.iconst 2, 1) := by decide +kernel
theorem dX0_searchedOf_27 : decode cX0_searchedOf 27 = .ok (.iadd, 1) := by decide +kernel
theorem dX0_searchedOf_28 : decode cX0_searchedOf 28 = .ok (.iconst 3, 1) := by decide +kernel
theorem dX0_searchedOf_29 : decode cX0_searchedOf 29 = .ok (.irem, 1) := by decide +kernel
theorem dX0_searchedOf_30 : decode cX0_searchedOf 30 = .ok (.istore_n 3, 1) := by decide +kernel
theorem dX0_searchedOf_31 : decode cX0_searchedOf 31 = .ok (.iconst (-1), 1) := by decide +kernel
theorem dX0_searchedOf_32 : decode cX0_searchedOf 32 = .ok (.istore 4, 2) := by decide +kernel
theorem dX0_searchedOf_34 : decode cX0_searchedOf 34 = .ok (.iconst 0, 1) := by decide +kernel
theorem dX0_searchedOf_35 : decode cX0_searchedOf 35 = .ok (.istore 5, 2) := by decide +kernel
theorem dX0_searchedOf_37 : decode cX0_searchedOf 37 = .ok (.iload 5, 2) := by decide +kernel
theorem dX0_searchedOf_39 : decode cX0_searchedOf 39 = .ok (.ifCond .eq 14, 3) := by decide +kernel
theorem dX0_searchedOf_42 : decode cX0_searchedOf 42 = .ok (.iload 5, 2) := by decide +kernel
theorem dX0_searchedOf_44 : decode cX0_searchedOf 44 = .ok (.aload_n 0, 1) := by decide +kernel
theorem dX0_searchedOf_45 : decode cX0_searchedOf 45 = .ok (.getfield 39, 3) := by decide +kernel
theorem dX0_searchedOf_48 : decode cX0_searchedOf 48 = .ok (.iload_n 2, 1) := by decide +kernel
theorem dX0_searchedOf_49 : decode cX0_searchedOf 49 = .ok (.iaload, 1) := by decide +kernel
theorem dX0_searchedOf_50 : decode cX0_searchedOf 50 = .ok (.if_icmp .ge 115, 3) := by decide +kernel
theorem dX0_searchedOf_53 : decode cX0_searchedOf 53 = .ok (.aload_n 0, 1) := by decide +kernel
theorem dX0_searchedOf_54 : decode cX0_searchedOf 54 = .ok (.getfield 42, 3) := by decide +kernel
theorem dX0_searchedOf_57 : decode cX0_searchedOf 57 = .ok (.iload_n 2, 1) := by decide +kernel
theorem dX0_searchedOf_58 : decode cX0_searchedOf 58 = .ok (.aload_n 0, 1) := by decide +kernel
theorem dX0_searchedOf_59 : decode cX0_searchedOf 59 = .ok (.getfield 39, 3) := by decide +kernel
theorem dX0_searchedOf_62 : decode cX0_searchedOf 62 = .ok (.iload_n 2, 1) := by decide +kernel
theorem dX0_searchedOf_63 : decode cX0_searchedOf 63 = .ok (.iaload, 1) := by decide +kernel
theorem dX0_searchedOf_64 : decode cX0_searchedOf 64 = .ok (.ifCond .ne 7, 3) := by decide +kernel
theorem dX0_searchedOf_67 : decode cX0_searchedOf 67 = .ok (.iconst (-1), 1) := by decide +kernel
theorem dX0_searchedOf_68 : decode cX0_searchedOf 68 = .ok (.goto 14, 3) := by decide +kernel
theorem dX0_searchedOf_71 : decode cX0_searchedOf 71 = .ok (.aload_n 0, 1) := by decide +kernel
theorem dX0_searchedOf_72 : decode cX0_searchedOf 72 = .ok (.getfield 36, 3) := by decide +kernel
theorem dX0_searchedOf_75 : decode cX0_searchedOf 75 = .ok (.iload_n 2, 1) := by decide +kernel
theorem dX0_searchedOf_76 : decode cX0_searchedOf 76 = .ok (.iconst 3, 1) := by decide +kernel
theorem dX0_searchedOf_77 : decode cX0_searchedOf 77 = .ok (.imul, 1) := by decide +kernel
theorem dX0_searchedOf_78 : decode cX0_searchedOf 78 = .ok (.iload 5, 2) := by decide +kernel
theorem dX0_searchedOf_80 : decode cX0_searchedOf 80 = .ok (.iadd, 1) := by decide +kernel
theorem dX0_searchedOf_81 : decode cX0_searchedOf 81 = .ok (.iaload, 1) := by decide +kernel
theorem dX0_searchedOf_82 : decode cX0_searchedOf 82 = .ok (.iastore, 1) := by decide +kernel
theorem dX0_searchedOf_83 : decode cX0_searchedOf 83 = .ok (.iconst 0, 1) := by decide +kernel
theorem dX0_searchedOf_84 : decode cX0_searchedOf 84 = .ok (.istore 6, 2) := by decide +kernel
theorem dX0_searchedOf_86 : decode cX0_searchedOf 86 = .ok (.iload 6, 2) := by decide +kernel
theorem dX0_searchedOf_88 : decode cX0_searchedOf 88 = .ok (.ifCond .eq 14, 3) := by decide +kernel
theorem dX0_searchedOf_91 : decode cX0_searchedOf 91 = .ok (.iload 6, 2) := by decide +kernel
theorem dX0_searchedOf_93 : decode cX0_searchedOf 93 = .ok (.aload_n 0, 1) := by decide +kernel
theorem dX0_searchedOf_94 : decode cX0_searchedOf 94 = .ok (.getfield 39, 3) := by decide +kernel
theorem dX0_searchedOf_97 : decode cX0_searchedOf 97 = .ok (.iload_n 3, 1) := by decide +kernel
theorem dX0_searchedOf_98 : decode cX0_searchedOf 98 = .ok (.iaload, 1) := by decide +kernel
theorem dX0_searchedOf_99 : decode cX0_searchedOf 99 = .ok (.if_icmp .ge 60, 3) := by decide +kernel
theorem dX0_searchedOf_102 : decode cX0_searchedOf 102 = .ok (.aload_n 0, 1) := by decide +kernel
theorem dX0_searchedOf_103 : decode cX0_searchedOf 103 = .ok (.getfield 42, 3) := by decide +kernel
theorem dX0_searchedOf_106 : decode cX0_searchedOf 106 = .ok (.iload_n 3, 1) := by decide +kernel
theorem dX0_searchedOf_107 : decode cX0_searchedOf 107 = .ok (.aload_n 0, 1) := by decide +kernel
theorem dX0_searchedOf_108 : decode cX0_searchedOf 108 = .ok (.getfield 39, 3) := by decide +kernel
theorem dX0_searchedOf_111 : decode cX0_searchedOf 111 = .ok (.iload_n 3, 1) := by decide +kernel
theorem dX0_searchedOf_112 : decode cX0_searchedOf 112 = .ok (.iaload, 1) := by decide +kernel
theorem dX0_searchedOf_113 : decode cX0_searchedOf 113 = .ok (.ifCond .ne 7, 3) := by decide +kernel
theorem dX0_searchedOf_116 : decode cX0_searchedOf 116 = .ok (.iconst (-1), 1) := by decide +kernel
theorem dX0_searchedOf_117 : decode cX0_searchedOf 117 = .ok (.goto 14, 3) := by decide +kernel
theorem dX0_searchedOf_120 : decode cX0_searchedOf 120 = .ok (.aload_n 0, 1) := by decide +kernel
theorem dX0_searchedOf_121 : decode cX0_searchedOf 121 = .ok (.getfield 36, 3) := by decide +kernel
theorem dX0_searchedOf_124 : decode cX0_searchedOf 124 = .ok (.iload_n 3, 1) := by decide +kernel
theorem dX0_searchedOf_125 : decode cX0_searchedOf 125 = .ok (.iconst 3, 1) := by decide +kernel
theorem dX0_searchedOf_126 : decode cX0_searchedOf 126 = .ok (.imul, 1) := by decide +kernel
theorem dX0_searchedOf_127 : decode cX0_searchedOf 127 = .ok (.iload 6, 2) := by decide +kernel
theorem dX0_searchedOf_129 : decode cX0_searchedOf 129 = .ok (.iadd, 1) := by decide +kernel
theorem dX0_searchedOf_130 : decode cX0_searchedOf 130 = .ok (.iaload, 1) := by decide +kernel
theorem dX0_searchedOf_131 : decode cX0_searchedOf 131 = .ok (.iastore, 1) := by decide +kernel
theorem dX0_searchedOf_132 : decode cX0_searchedOf 132 = .ok (.aload_n 0, 1) := by decide +kernel
theorem dX0_searchedOf_133 : decode cX0_searchedOf 133 = .ok (.iload_n 1, 1) := by decide +kernel
theorem dX0_searchedOf_134 : decode cX0_searchedOf 134 = .ok (.invokevirtual 85, 3) := by decide +kernel
theorem dX0_searchedOf_137 : decode cX0_searchedOf 137 = .ok (.ifCond .ne 5, 3) := by decide +kernel
theorem dX0_searchedOf_140 : decode cX0_searchedOf 140 = .ok (.iconst (-1), 1) := by decide +kernel
theorem dX0_searchedOf_141 : decode cX0_searchedOf 141 = .ok (.ireturn, 1) := by decide +kernel
theorem dX0_searchedOf_142 : decode cX0_searchedOf 142 = .ok (.iload 4, 2) := by decide +kernel
theorem dX0_searchedOf_144 : decode cX0_searchedOf 144 = .ok (.aload_n 0, 1) := by decide +kernel
theorem dX0_searchedOf_145 : decode cX0_searchedOf 145 = .ok (.getfield 89, 3) := by decide +kernel
theorem dX0_searchedOf_148 : decode cX0_searchedOf 148 = .ok (.invokestatic 92, 3) := by decide +kernel
theorem dX0_searchedOf_151 : decode cX0_searchedOf 151 = .ok (.istore 4, 2) := by decide +kernel
theorem dX0_searchedOf_153 : decode cX0_searchedOf 153 = .ok (.iinc 6 1, 3) := by decide +kernel
theorem dX0_searchedOf_156 : decode cX0_searchedOf 156 = .ok (.goto (-70), 3) := by decide +kernel
theorem dX0_searchedOf_159 : decode cX0_searchedOf 159 = .ok (.iinc 5 1, 3) := by decide +kernel
theorem dX0_searchedOf_162 : decode cX0_searchedOf 162 = .ok (.goto (-125), 3) := by decide +kernel
theorem dX0_searchedOf_165 : decode cX0_searchedOf 165 = .ok (.iload 4, 2) := by decide +kernel
theorem dX0_searchedOf_167 : decode cX0_searchedOf 167 = .ok (.ireturn, 1) := by decide +kernel
theorem dX0_quickOf_0 : decode cX0_quickOf 0 = .ok (.aload_n 0, 1) := by decide +kernel
theorem dX0_quickOf_1 : decode cX0_quickOf 1 = .ok (.getfield 49, 3) := by decide +kernel
theorem dX0_quickOf_4 : decode cX0_quickOf 4 = .ok (.iconst (-1), 1) := by decide +kernel
theorem dX0_quickOf_5 : decode cX0_quickOf 5 = .ok (.if_icmp .ne 5, 3) := by decide +kernel
theorem dX0_quickOf_8 : decode cX0_quickOf 8 = .ok (.iconst (-1), 1) := by decide +kernel
theorem dX0_quickOf_9 : decode cX0_quickOf 9 = .ok (.ireturn, 1) := by decide +kernel
theorem dX0_quickOf_10 : decode cX0_quickOf 10 = .ok (.aload_n 0, 1) := by decide +kernel
theorem dX0_quickOf_11 : decode cX0_quickOf 11 = .ok (.iload_n 1, 1) := by decide +kernel
theorem dX0_quickOf_12 : decode cX0_quickOf 12 = .ok (.invokevirtual 81, 3) := by decide +kernel
theorem dX0_quickOf_15 : decode cX0_quickOf 15 = .ok (.aload_n 0, 1) := by decide +kernel
theorem dX0_quickOf_16 : decode cX0_quickOf 16 = .ok (.getfield 45, 3) := by decide +kernel
theorem dX0_quickOf_19 : decode cX0_quickOf 19 = .ok (.getfield 98, 3) := by decide +kernel
theorem dX0_quickOf_22 : decode cX0_quickOf 22 = .ok (.iconst 1, 1) := by decide +kernel
theorem dX0_quickOf_23 : decode cX0_quickOf 23 = .ok (.aaload, 1) := by decide +kernel
theorem dX0_quickOf_24 : decode cX0_quickOf 24 = .ok (.iload_n 1, 1) := by decide +kernel
theorem dX0_quickOf_25 : decode cX0_quickOf 25 = .ok (.iaload, 1) := by decide +kernel
theorem dX0_quickOf_26 : decode cX0_quickOf 26 = .ok (.istore_n 2, 1) := by decide +kernel
theorem dX0_quickOf_27 : decode cX0_quickOf 27 = .ok (.aload_n 0, 1) := by decide +kernel
theorem dX0_quickOf_28 : decode cX0_quickOf 28 = .ok (.getfield 9, 3) := by decide +kernel
theorem dX0_quickOf_31 : decode cX0_quickOf 31 = .ok (.iload_n 1, 1) := by decide +kernel
theorem dX0_quickOf_32 : decode cX0_quickOf 32 = .ok (.iconst 3, 1) := by decide +kernel
theorem dX0_quickOf_33 : decode cX0_quickOf 33 = .ok (.idiv, 1) := by decide +kernel
theorem dX0_quickOf_34 : decode cX0_quickOf 34 = .ok (.iaload, 1) := by decide +kernel
theorem dX0_quickOf_35 : decode cX0_quickOf 35 = .ok (.istore_n 3, 1) := by decide +kernel
theorem dX0_quickOf_36 : decode cX0_quickOf 36 = .ok (.aload_n 0, 1) := by decide +kernel
theorem dX0_quickOf_37 : decode cX0_quickOf 37 = .ok (.iload_n 1, 1) := by decide +kernel
theorem dX0_quickOf_38 : decode cX0_quickOf 38 = .ok (.iconst (-1), 1) := by decide +kernel
theorem dX0_quickOf_39 : decode cX0_quickOf 39 = .ok (.iconst (-1), 1) := by decide +kernel
theorem dX0_quickOf_40 : decode cX0_quickOf 40 = .ok (.iconst 1, 1) := by decide +kernel
theorem dX0_quickOf_41 : decode cX0_quickOf 41 = .ok (.invokevirtual 101, 3) := by decide +kernel
theorem dX0_quickOf_44 : decode cX0_quickOf 44 = .ok (.istore 4, 2) := by decide +kernel
theorem dX0_quickOf_46 : decode cX0_quickOf 46 = .ok (.iload 4, 2) := by decide +kernel
theorem dX0_quickOf_48 : decode cX0_quickOf 48 = .ok (.iconst (-1), 1) := by decide +kernel
theorem dX0_quickOf_49 : decode cX0_quickOf 49 = .ok (.if_icmp .ne 5, 3) := by decide +kernel
theorem dX0_quickOf_52 : decode cX0_quickOf 52 = .ok (.iconst (-1), 1) := by decide +kernel
theorem dX0_quickOf_53 : decode cX0_quickOf 53 = .ok (.ireturn, 1) := by decide +kernel
theorem dX0_quickOf_54 : decode cX0_quickOf 54 = .ok (.aload_n 0, 1) := by decide +kernel
theorem dX0_quickOf_55 : decode cX0_quickOf 55 = .ok (.iload_n 1, 1) := by decide +kernel
theorem dX0_quickOf_56 : decode cX0_quickOf 56 = .ok (.iload 4, 2) := by decide +kernel
theorem dX0_quickOf_58 : decode cX0_quickOf 58 = .ok (.invokevirtual 105, 3) := by decide +kernel
theorem dX0_quickOf_61 : decode cX0_quickOf 61 = .ok (.istore 5, 2) := by decide +kernel
theorem dX0_quickOf_63 : decode cX0_quickOf 63 = .ok (.iconst (-1), 1) := by decide +kernel
theorem dX0_quickOf_64 : decode cX0_quickOf 64 = .ok (.istore 6, 2) := by decide +kernel
theorem dX0_quickOf_66 : decode cX0_quickOf 66 = .ok (.iconst 0, 1) := by decide +kernel
theorem dX0_quickOf_67 : decode cX0_quickOf 67 = .ok (.istore 7, 2) := by decide +kernel
theorem dX0_quickOf_69 : decode cX0_quickOf 69 = .ok (.iconst 0, 1) := by decide +kernel
theorem dX0_quickOf_70 : decode cX0_quickOf 70 = .ok (.istore 8, 2) := by decide +kernel
theorem dX0_quickOf_72 : decode cX0_quickOf 72 = .ok (.iload 8, 2) := by decide +kernel
theorem dX0_quickOf_74 : decode cX0_quickOf 74 = .ok (.iload 5, 2) := by decide +kernel
theorem dX0_quickOf_76 : decode cX0_quickOf 76 = .ok (.if_icmp .ge 63, 3) := by decide +kernel
theorem dX0_quickOf_79 : decode cX0_quickOf 79 = .ok (.aload_n 0, 1) := by decide +kernel
theorem dX0_quickOf_80 : decode cX0_quickOf 80 = .ok (.iload_n 1, 1) := by decide +kernel
theorem dX0_quickOf_81 : decode cX0_quickOf 81 = .ok (.iconst (-1), 1) := by decide +kernel
theorem dX0_quickOf_82 : decode cX0_quickOf 82 = .ok (.iload 8, 2) := by decide +kernel
theorem dX0_quickOf_84 : decode cX0_quickOf 84 = .ok (.iconst 1, 1) := by decide +kernel
theorem dX0_quickOf_85 : decode cX0_quickOf 85 = .ok (.iadd, 1) := by decide +kernel
theorem dX0_quickOf_86 : decode cX0_quickOf 86 = .ok (.iload 7, 2) := by decide +kernel
theorem dX0_quickOf_88 : decode cX0_quickOf 88 = .ok (.iload_n 2, 1) := by decide +kernel
theorem dX0_quickOf_89 : decode cX0_quickOf 89 = .ok (.iadd, 1) := by decide +kernel
theorem dX0_quickOf_90 : decode cX0_quickOf 90 = .ok (.invokevirtual 101, 3) := by decide +kernel
theorem dX0_quickOf_93 : decode cX0_quickOf 93 = .ok (.istore 7, 2) := by decide +kernel
theorem dX0_quickOf_95 : decode cX0_quickOf 95 = .ok (.iload 7, 2) := by decide +kernel
theorem dX0_quickOf_97 : decode cX0_quickOf 97 = .ok (.iconst (-1), 1) := by decide +kernel
theorem dX0_quickOf_98 : decode cX0_quickOf 98 = .ok (.if_icmp .ne 5, 3) := by decide +kernel
theorem dX0_quickOf_101 : decode cX0_quickOf 101 = .ok (.iconst (-1), 1) := by decide +kernel
theorem dX0_quickOf_102 : decode cX0_quickOf 102 = .ok (.ireturn, 1) := by decide +kernel
theorem dX0_quickOf_103 : decode cX0_quickOf 103 = .ok (.iload 6, 2) := by decide +kernel
theorem dX0_quickOf_105 : decode cX0_quickOf 105 = .ok (.iload 7, 2) := by decide +kernel
theorem dX0_quickOf_107 : decode cX0_quickOf 107 = .ok (.iload_n 3, 1) := by decide +kernel
theorem dX0_quickOf_108 : decode cX0_quickOf 108 = .ok (.iload 8, 2) := by decide +kernel
theorem dX0_quickOf_110 : decode cX0_quickOf 110 = .ok (.imul, 1) := by decide +kernel
theorem dX0_quickOf_111 : decode cX0_quickOf 111 = .ok (.isub, 1) := by decide +kernel
theorem dX0_quickOf_112 : decode cX0_quickOf 112 = .ok (.aload_n 0, 1) := by decide +kernel
theorem dX0_quickOf_113 : decode cX0_quickOf 113 = .ok (.getfield 15, 3) := by decide +kernel
theorem dX0_quickOf_116 : decode cX0_quickOf 116 = .ok (.iload_n 1, 1) := by decide +kernel
theorem dX0_quickOf_117 : decode cX0_quickOf 117 = .ok (.iaload, 1) := by decide +kernel
theorem dX0_quickOf_118 : decode cX0_quickOf 118 = .ok (.iadd, 1) := by decide +kernel
theorem dX0_quickOf_119 : decode cX0_quickOf 119 = .ok (.aload_n 0, 1) := by decide +kernel
theorem dX0_quickOf_120 : decode cX0_quickOf 120 = .ok (.getfield 45, 3) := by decide +kernel
theorem dX0_quickOf_123 : decode cX0_quickOf 123 = .ok (.iload_n 1, 1) := by decide +kernel
theorem dX0_quickOf_124 : decode cX0_quickOf 124 = .ok (.invokevirtual 108, 3) := by decide +kernel
theorem dX0_quickOf_127 : decode cX0_quickOf 127 = .ok (.iadd, 1) := by decide +kernel
theorem dX0_quickOf_128 : decode cX0_quickOf 128 = .ok (.invokestatic 92, 3) := by decide +kernel
theorem dX0_quickOf_131 : decode cX0_quickOf 131 = .ok (.istore 6, 2) := by decide +kernel
theorem dX0_quickOf_133 : decode cX0_quickOf 133 = .ok (.iinc 8 1, 3) := by decide +kernel
theorem dX0_quickOf_136 : decode cX0_quickOf 136 = .ok (.goto (-64), 3) := by decide +kernel
theorem dX0_quickOf_139 : decode cX0_quickOf 139 = .ok (.iload 6, 2) := by decide +kernel
theorem dX0_quickOf_141 : decode cX0_quickOf 141 = .ok (.ireturn, 1) := by decide +kernel
theorem dX0_boundAll_0 : decode cX0_boundAll 0 = .ok (.aload_n 0, 1) := by decide +kernel
theorem dX0_boundAll_1 : decode cX0_boundAll 1 = .ok (.invokevirtual 111, 3) := by decide +kernel
theorem dX0_boundAll_4 : decode cX0_boundAll 4 = .ok (.iconst 0, 1) := by decide +kernel
theorem dX0_boundAll_5 : decode cX0_boundAll 5 = .ok (.istore_n 1, 1) := by decide +kernel
theorem dX0_boundAll_6 : decode cX0_boundAll 6 = .ok (.iload_n 1, 1) := by decide +kernel
theorem dX0_boundAll_7 : decode cX0_boundAll 7 = .ok (.bipush 9, 2) := by decide +kernel
theorem dX0_boundAll_9 : decode cX0_boundAll 9 = .ok (.if_icmp .ge 89, 3) := by decide +kernel
theorem dX0_boundAll_12 : decode cX0_boundAll 12 = .ok (.aload_n 0, 1) := by decide +kernel
theorem dX0_boundAll_13 : decode cX0_boundAll 13 = .ok (.getfield 45, 3) := by decide +kernel
theorem dX0_boundAll_16 : decode cX0_boundAll 16 = .ok (.iload_n 1, 1) := by decide +kernel
theorem dX0_boundAll_17 : decode cX0_boundAll 17 = .ok (.invokevirtual 114, 3) := by decide +kernel
theorem dX0_boundAll_20 : decode cX0_boundAll 20 = .ok (.ifCond .ne 6, 3) := by decide +kernel
theorem dX0_boundAll_23 : decode cX0_boundAll 23 = .ok (.goto 69, 3) := by decide +kernel
theorem dX0_boundAll_26 : decode cX0_boundAll 26 = .ok (.aload_n 0, 1) := by decide +kernel
theorem dX0_boundAll_27 : decode cX0_boundAll 27 = .ok (.iload_n 1, 1) := by decide +kernel
theorem dX0_boundAll_28 : decode cX0_boundAll 28 = .ok (.invokevirtual 81, 3) := by decide +kernel
theorem dX0_boundAll_31 : decode cX0_boundAll 31 = .ok (.aload_n 0, 1) := by decide +kernel
theorem dX0_boundAll_32 : decode cX0_boundAll 32 = .ok (.getfield 45, 3) := by decide +kernel
theorem dX0_boundAll_35 : decode cX0_boundAll 35 = .ok (.iload_n 1, 1) := by decide +kernel
theorem dX0_boundAll_36 : decode cX0_boundAll 36 = .ok (.invokevirtual 117, 3) := by decide +kernel
theorem dX0_boundAll_39 : decode cX0_boundAll 39 = .ok (.ifCond .ne 11, 3) := by decide +kernel
theorem dX0_boundAll_42 : decode cX0_boundAll 42 = .ok (.aload_n 0, 1) := by decide +kernel
theorem dX0_boundAll_43 : decode cX0_boundAll 43 = .ok (.iload_n 1, 1) := by decide +kernel
theorem dX0_boundAll_44 : decode cX0_boundAll 44 = .ok (.invokevirtual 85, 3) := by decide +kernel
theorem dX0_boundAll_47 : decode cX0_boundAll 47 = .ok (.ifCond .ne 5, 3) := by decide +kernel
theorem dX0_boundAll_50 : decode cX0_boundAll 50 = .ok (.iconst 0, 1) := by decide +kernel
theorem dX0_boundAll_51 : decode cX0_boundAll 51 = .ok (.ireturn, 1) := by decide +kernel
theorem dX0_boundAll_52 : decode cX0_boundAll 52 = .ok (.aload_n 0, 1) := by decide +kernel
theorem dX0_boundAll_53 : decode cX0_boundAll 53 = .ok (.getfield 18, 3) := by decide +kernel
theorem dX0_boundAll_56 : decode cX0_boundAll 56 = .ok (.iload_n 1, 1) := by decide +kernel
theorem dX0_boundAll_57 : decode cX0_boundAll 57 = .ok (.aload_n 0, 1) := by decide +kernel
theorem dX0_boundAll_58 : decode cX0_boundAll 58 = .ok (.getfield 89, 3) := by decide +kernel
theorem dX0_boundAll_61 : decode cX0_boundAll 61 = .ok (.iastore, 1) := by decide +kernel
theorem dX0_boundAll_62 : decode cX0_boundAll 62 = .ok (.aload_n 0, 1) := by decide +kernel
theorem dX0_boundAll_63 : decode cX0_boundAll 63 = .ok (.getfield 21, 3) := by decide +kernel
theorem dX0_boundAll_66 : decode cX0_boundAll 66 = .ok (.iload_n 1, 1) := by decide +kernel
theorem dX0_boundAll_67 : decode cX0_boundAll 67 = .ok (.aload_n 0, 1) := by decide +kernel
theorem dX0_boundAll_68 : decode cX0_boundAll 68 = .ok (.getfield 120, 3) := by decide +kernel
theorem dX0_boundAll_71 : decode cX0_boundAll 71 = .ok (.iastore, 1) := by decide +kernel
theorem dX0_boundAll_72 : decode cX0_boundAll 72 = .ok (.aload_n 0, 1) := by decide +kernel
theorem dX0_boundAll_73 : decode cX0_boundAll 73 = .ok (.getfield 24, 3) := by decide +kernel
theorem dX0_boundAll_76 : decode cX0_boundAll 76 = .ok (.iload_n 1, 1) := by decide +kernel
theorem dX0_boundAll_77 : decode cX0_boundAll 77 = .ok (.aload_n 0, 1) := by decide +kernel
theorem dX0_boundAll_78 : decode cX0_boundAll 78 = .ok (.getfield 123, 3) := by decide +kernel
theorem dX0_boundAll_81 : decode cX0_boundAll 81 = .ok (.iastore, 1) := by decide +kernel
theorem dX0_boundAll_82 : decode cX0_boundAll 82 = .ok (.aload_n 0, 1) := by decide +kernel
theorem dX0_boundAll_83 : decode cX0_boundAll 83 = .ok (.getfield 27, 3) := by decide +kernel
theorem dX0_boundAll_86 : decode cX0_boundAll 86 = .ok (.iload_n 1, 1) := by decide +kernel
theorem dX0_boundAll_87 : decode cX0_boundAll 87 = .ok (.aload_n 0, 1) := by decide +kernel
theorem dX0_boundAll_88 : decode cX0_boundAll 88 = .ok (.getfield 126, 3) := by decide +kernel
theorem dX0_boundAll_91 : decode cX0_boundAll 91 = .ok (.iastore, 1) := by decide +kernel
theorem dX0_boundAll_92 : decode cX0_boundAll 92 = .ok (.iinc 1 1, 3) := by decide +kernel
theorem dX0_boundAll_95 : decode cX0_boundAll 95 = .ok (.goto (-89), 3) := by decide +kernel
theorem dX0_boundAll_98 : decode cX0_boundAll 98 = .ok (.iconst 1, 1) := by decide +kernel
theorem dX0_boundAll_99 : decode cX0_boundAll 99 = .ok (.ireturn, 1) := by decide +kernel
theorem dX0_passLateness_0 : decode cX0_passLateness 0 = .ok (.iconst 0, 1) := by decide +kernel
theorem dX0_passLateness_1 : decode cX0_passLateness 1 = .ok (.istore_n 1, 1) := by decide +kernel
theorem dX0_passLateness_2 : decode cX0_passLateness 2 = .ok (.iconst 0, 1) := by decide +kernel
theorem dX0_passLateness_3 : decode cX0_passLateness 3 = .ok (.istore_n 2, 1) := by decide +kernel
theorem dX0_passLateness_4 : decode cX0_passLateness 4 = .ok (.iload_n 2, 1) := by decide +kernel
theorem dX0_passLateness_5 : decode cX0_passLateness 5 = .ok (.bipush 9, 2) := by decide +kernel
theorem dX0_passLateness_7 : decode cX0_passLateness 7 = .ok (.if_icmp .ge 78, 3) := by decide +kernel
theorem dX0_passLateness_10 : decode cX0_passLateness 10 = .ok (.iload_n 2, 1) := by decide +kernel
theorem dX0_passLateness_11 : decode cX0_passLateness 11 = .ok (.iconst 3, 1) := by decide +kernel
theorem dX0_passLateness_12 : decode cX0_passLateness 12 = .ok (.irem, 1) := by decide +kernel
theorem dX0_passLateness_13 : decode cX0_passLateness 13 = .ok (.ifCond .eq 66, 3) := by decide +kernel
theorem dX0_passLateness_16 : decode cX0_passLateness 16 = .ok (.aload_n 0, 1) := by decide +kernel
theorem dX0_passLateness_17 : decode cX0_passLateness 17 = .ok (.getfield 45, 3) := by decide +kernel
theorem dX0_passLateness_20 : decode cX0_passLateness 20 = .ok (.iload_n 2, 1) := by decide +kernel
theorem dX0_passLateness_21 : decode cX0_passLateness 21 = .ok (.invokevirtual 114, 3) := by decide +kernel
theorem dX0_passLateness_24 : decode cX0_passLateness 24 = .ok (.ifCond .ne 6, 3) := by decide +kernel
theorem dX0_passLateness_27 : decode cX0_passLateness 27 = .ok (.goto 52, 3) := by decide +kernel
theorem dX0_passLateness_30 : decode cX0_passLateness 30 = .ok (.aload_n 0, 1) := by decide +kernel
theorem dX0_passLateness_31 : decode cX0_passLateness 31 = .ok (.getfield 18, 3) := by decide +kernel
theorem dX0_passLateness_34 : decode cX0_passLateness 34 = .ok (.iload_n 2, 1) := by decide +kernel
theorem dX0_passLateness_35 : decode cX0_passLateness 35 = .ok (.iconst 1, 1) := by decide +kernel
theorem dX0_passLateness_36 : decode cX0_passLateness 36 = .ok (.isub, 1) := by decide +kernel
theorem dX0_passLateness_37 : decode cX0_passLateness 37 = .ok (.iaload, 1) := by decide +kernel
theorem dX0_passLateness_38 : decode cX0_passLateness 38 = .ok (.aload_n 0, 1) := by decide +kernel
theorem dX0_passLateness_39 : decode cX0_passLateness 39 = .ok (.getfield 45, 3) := by decide +kernel
theorem dX0_passLateness_42 : decode cX0_passLateness 42 = .ok (.getfield 98, 3) := by decide +kernel
theorem dX0_passLateness_45 : decode cX0_passLateness 45 = .ok (.iconst 3, 1) := by decide +kernel
theorem dX0_passLateness_46 : decode cX0_passLateness 46 = .ok (.aaload, 1) := by decide +kernel
theorem dX0_passLateness_47 : decode cX0_passLateness 47 = .ok (.iload_n 2, 1) := by decide +kernel
theorem dX0_passLateness_48 : decode cX0_passLateness 48 = .ok (.iaload, 1) := by decide +kernel
theorem dX0_passLateness_49 : decode cX0_passLateness 49 = .ok (.iadd, 1) := by decide +kernel
theorem dX0_passLateness_50 : decode cX0_passLateness 50 = .ok (.aload_n 0, 1) := by decide +kernel
theorem dX0_passLateness_51 : decode cX0_passLateness 51 = .ok (.getfield 45, 3) := by decide +kernel
theorem dX0_passLateness_54 : decode cX0_passLateness 54 = .ok (.iload_n 2, 1) := by decide +kernel
theorem dX0_passLateness_55 : decode cX0_passLateness 55 = .ok (.invokevirtual 108, 3) := by decide +kernel
theorem dX0_passLateness_58 : decode cX0_passLateness 58 = .ok (.isub, 1) := by decide +kernel
theorem dX0_passLateness_59 : decode cX0_passLateness 59 = .ok (.istore_n 3, 1) := by decide +kernel
theorem dX0_passLateness_60 : decode cX0_passLateness 60 = .ok (.iload_n 3, 1) := by decide +kernel
theorem dX0_passLateness_61 : decode cX0_passLateness 61 = .ok (.aload_n 0, 1) := by decide +kernel
theorem dX0_passLateness_62 : decode cX0_passLateness 62 = .ok (.getfield 15, 3) := by decide +kernel
theorem dX0_passLateness_65 : decode cX0_passLateness 65 = .ok (.iload_n 2, 1) := by decide +kernel
theorem dX0_passLateness_66 : decode cX0_passLateness 66 = .ok (.iaload, 1) := by decide +kernel
theorem dX0_passLateness_67 : decode cX0_passLateness 67 = .ok (.if_icmp .le 12, 3) := by decide +kernel
theorem dX0_passLateness_70 : decode cX0_passLateness 70 = .ok (.aload_n 0, 1) := by decide +kernel
theorem dX0_passLateness_71 : decode cX0_passLateness 71 = .ok (.getfield 15, 3) := by decide +kernel
theorem dX0_passLateness_74 : decode cX0_passLateness 74 = .ok (.iload_n 2, 1) := by decide +kernel
theorem dX0_passLateness_75 : decode cX0_passLateness 75 = .ok (.iload_n 3, 1) := by decide +kernel
theorem dX0_passLateness_76 : decode cX0_passLateness 76 = .ok (.iastore, 1) := by decide +kernel
theorem dX0_passLateness_77 : decode cX0_passLateness 77 = .ok (.iconst 1, 1) := by decide +kernel
theorem dX0_passLateness_78 : decode cX0_passLateness 78 = .ok (.istore_n 1, 1) := by decide +kernel
theorem dX0_passLateness_79 : decode cX0_passLateness 79 = .ok (.iinc 2 1, 3) := by decide +kernel
theorem dX0_passLateness_82 : decode cX0_passLateness 82 = .ok (.goto (-78), 3) := by decide +kernel
theorem dX0_passLateness_85 : decode cX0_passLateness 85 = .ok (.iload_n 1, 1) := by decide +kernel
theorem dX0_passLateness_86 : decode cX0_passLateness 86 = .ok (.ireturn, 1) := by decide +kernel
theorem dX0_placeComings_0 : decode cX0_placeComings 0 = .ok (.iconst 0, 1) := by decide +kernel
theorem dX0_placeComings_1 : decode cX0_placeComings 1 = .ok (.istore_n 1, 1) := by decide +kernel
theorem dX0_placeComings_2 : decode cX0_placeComings 2 = .ok (.iload_n 1, 1) := by decide +kernel
theorem dX0_placeComings_3 : decode cX0_placeComings 3 = .ok (.bipush 9, 2) := by decide +kernel
theorem dX0_placeComings_5 : decode cX0_placeComings 5 = .ok (.if_icmp .ge 136, 3) := by decide +kernel
theorem dX0_placeComings_8 : decode cX0_placeComings 8 = .ok (.iload_n 1, 1) := by decide +kernel
theorem dX0_placeComings_9 : decode cX0_placeComings 9 = .ok (.iconst 3, 1) := by decide +kernel
theorem dX0_placeComings_10 : decode cX0_placeComings 10 = .ok (.idiv, 1) := by decide +kernel
theorem dX0_placeComings_11 : decode cX0_placeComings 11 = .ok (.istore_n 2, 1) := by decide +kernel
theorem dX0_placeComings_12 : decode cX0_placeComings 12 = .ok (.aload_n 0, 1) := by decide +kernel
theorem dX0_placeComings_13 : decode cX0_placeComings 13 = .ok (.getfield 9, 3) := by decide +kernel
theorem dX0_placeComings_16 : decode cX0_placeComings 16 = .ok (.iload_n 2, 1) := by decide +kernel
theorem dX0_placeComings_17 : decode cX0_placeComings 17 = .ok (.iaload, 1) := by decide +kernel
theorem dX0_placeComings_18 : decode cX0_placeComings 18 = .ok (.istore_n 3, 1) := by decide +kernel
theorem dX0_placeComings_19 : decode cX0_placeComings 19 = .ok (.iconst 0, 1) := by decide +kernel
theorem dX0_placeComings_20 : decode cX0_placeComings 20 = .ok (.istore 4, 2) := by decide +kernel
theorem dX0_placeComings_22 : decode cX0_placeComings 22 = .ok (.iload 4, 2) := by decide +kernel
theorem dX0_placeComings_24 : decode cX0_placeComings 24 = .ok (.aload_n 0, 1) := by decide +kernel
theorem dX0_placeComings_25 : decode cX0_placeComings 25 = .ok (.getfield 45, 3) := by decide +kernel
theorem dX0_placeComings_28 : decode cX0_placeComings 28 = .ok (.getfield 129, 3) := by decide +kernel
theorem dX0_placeComings_31 : decode cX0_placeComings 31 = .ok (.iload_n 2, 1) := by decide +kernel
theorem dX0_placeComings_32 : decode cX0_placeComings 32 = .ok (.iaload, 1) := by decide +kernel
theorem dX0_placeComings_33 : decode cX0_placeComings 33 = .ok (.if_icmp .ge 102, 3) := by decide +kernel
theorem dX0_placeComings_36 : decode cX0_placeComings 36 = .ok (.aload_n 0, 1) := by decide +kernel
theorem dX0_placeComings_37 : decode cX0_placeComings 37 = .ok (.getfield 45, 3) := by decide +kernel
theorem dX0_placeComings_40 : decode cX0_placeComings 40 = .ok (.iload_n 1, 1) := by decide +kernel
theorem dX0_placeComings_41 : decode cX0_placeComings 41 = .ok (.invokevirtual 114, 3) := by decide +kernel
theorem dX0_placeComings_44 : decode cX0_placeComings 44 = .ok (.ifCond .eq 91, 3) := by decide +kernel
theorem dX0_placeComings_47 : decode cX0_placeComings 47 = .ok (.iload_n 2, 1) := by decide +kernel
theorem dX0_placeComings_48 : decode cX0_placeComings 48 = .ok (.iconst 3, 1) := by decide +kernel
theorem dX0_placeComings_49 : decode cX0_placeComings 49 = .ok (.imul, 1) := by decide +kernel
theorem dX0_placeComings_50 : decode cX0_placeComings 50 = .ok (.iload 4, 2) := by decide +kernel
theorem dX0_placeComings_52 : decode cX0_placeComings 52 = .ok (.iadd, 1) := by decide +kernel
theorem dX0_placeComings_53 : decode cX0_placeComings 53 = .ok (.istore 5, 2) := by decide +kernel
theorem dX0_placeComings_55 : decode cX0_placeComings 55 = .ok (.aload_n 0, 1) := by decide +kernel
theorem dX0_placeComings_56 : decode cX0_placeComings 56 = .ok (.getfield 45, 3) := by decide +kernel
theorem dX0_placeComings_59 : decode cX0_placeComings 59 = .ok (.iload 5, 2) := by decide +kernel
theorem dX0_placeComings_61 : decode cX0_placeComings 61 = .ok (.invokevirtual 108, 3) := by decide +kernel
theorem dX0_placeComings_64 : decode cX0_placeComings 64 = .ok (.aload_n 0, 1) := by decide +kernel
theorem dX0_placeComings_65 : decode cX0_placeComings 65 = .ok (.getfield 15, 3) := by decide +kernel
theorem dX0_placeComings_68 : decode cX0_placeComings 68 = .ok (.iload 5, 2) := by decide +kernel
theorem dX0_placeComings_70 : decode cX0_placeComings 70 = .ok (.iaload, 1) := by decide +kernel
theorem dX0_placeComings_71 : decode cX0_placeComings 71 = .ok (.iadd, 1) := by decide +kernel
theorem dX0_placeComings_72 : decode cX0_placeComings 72 = .ok (.aload_n 0, 1) := by decide +kernel
theorem dX0_placeComings_73 : decode cX0_placeComings 73 = .ok (.getfield 45, 3) := by decide +kernel
theorem dX0_placeComings_76 : decode cX0_placeComings 76 = .ok (.iload_n 1, 1) := by decide +kernel
theorem dX0_placeComings_77 : decode cX0_placeComings 77 = .ok (.invokevirtual 108, 3) := by decide +kernel
theorem dX0_placeComings_80 : decode cX0_placeComings 80 = .ok (.isub, 1) := by decide +kernel
theorem dX0_placeComings_81 : decode cX0_placeComings 81 = .ok (.istore 6, 2) := by decide +kernel
theorem dX0_placeComings_83 : decode cX0_placeComings 83 = .ok (.iload_n 1, 1) := by decide +kernel
theorem dX0_placeComings_84 : decode cX0_placeComings 84 = .ok (.iconst 3, 1) := by decide +kernel
theorem dX0_placeComings_85 : decode cX0_placeComings 85 = .ok (.imul, 1) := by decide +kernel
theorem dX0_placeComings_86 : decode cX0_placeComings 86 = .ok (.iload 4, 2) := by decide +kernel
theorem dX0_placeComings_88 : decode cX0_placeComings 88 = .ok (.iadd, 1) := by decide +kernel
theorem dX0_placeComings_89 : decode cX0_placeComings 89 = .ok (.istore 7, 2) := by decide +kernel
theorem dX0_placeComings_91 : decode cX0_placeComings 91 = .ok (.aload_n 0, 1) := by decide +kernel
theorem dX0_placeComings_92 : decode cX0_placeComings 92 = .ok (.getfield 30, 3) := by decide +kernel
theorem dX0_placeComings_95 : decode cX0_placeComings 95 = .ok (.iload 7, 2) := by decide +kernel
theorem dX0_placeComings_97 : decode cX0_placeComings 97 = .ok (.iload_n 3, 1) := by decide +kernel
theorem dX0_placeComings_98 : decode cX0_placeComings 98 = .ok (.iload 6, 2) := by decide +kernel
theorem dX0_placeComings_100 : decode cX0_placeComings 100 = .ok (.iload_n 3, 1) := by decide +kernel
theorem dX0_placeComings_101 : decode cX0_placeComings 101 = .ok (.invokestatic 132, 3) := by decide +kernel
theorem dX0_placeComings_104 : decode cX0_placeComings 104 = .ok (.isub, 1) := by decide +kernel
theorem dX0_placeComings_105 : decode cX0_placeComings 105 = .ok (.iastore, 1) := by decide +kernel
theorem dX0_placeComings_106 : decode cX0_placeComings 106 = .ok (.aload_n 0, 1) := by decide +kernel
theorem dX0_placeComings_107 : decode cX0_placeComings 107 = .ok (.getfield 33, 3) := by decide +kernel
theorem dX0_placeComings_110 : decode cX0_placeComings 110 = .ok (.iload 7, 2) := by decide +kernel
theorem dX0_placeComings_112 : decode cX0_placeComings 112 = .ok (.aload_n 0, 1) := by decide +kernel
theorem dX0_placeComings_113 : decode cX0_placeComings 113 = .ok (.getfield 15, 3) := by decide +kernel
theorem dX0_placeComings_116 : decode cX0_placeComings 116 = .ok (.iload_n 1, 1) := by decide +kernel
theorem dX0_placeComings_117 : decode cX0_placeComings 117 = .ok (.iaload, 1) := by decide +kernel
theorem dX0_placeComings_118 : decode cX0_placeComings 118 = .ok (.aload_n 0, 1) := by decide +kernel
theorem dX0_placeComings_119 : decode cX0_placeComings 119 = .ok (.getfield 30, 3) := by decide +kernel
theorem dX0_placeComings_122 : decode cX0_placeComings 122 = .ok (.iload 7, 2) := by decide +kernel
theorem dX0_placeComings_124 : decode cX0_placeComings 124 = .ok (.iaload, 1) := by decide +kernel
theorem dX0_placeComings_125 : decode cX0_placeComings 125 = .ok (.iadd, 1) := by decide +kernel
theorem dX0_placeComings_126 : decode cX0_placeComings 126 = .ok (.iload_n 3, 1) := by decide +kernel
theorem dX0_placeComings_127 : decode cX0_placeComings 127 = .ok (.idiv, 1) := by decide +kernel
theorem dX0_placeComings_128 : decode cX0_placeComings 128 = .ok (.iastore, 1) := by decide +kernel
theorem dX0_placeComings_129 : decode cX0_placeComings 129 = .ok (.iinc 4 1, 3) := by decide +kernel
theorem dX0_placeComings_132 : decode cX0_placeComings 132 = .ok (.goto (-110), 3) := by decide +kernel
theorem dX0_placeComings_135 : decode cX0_placeComings 135 = .ok (.iinc 1 1, 3) := by decide +kernel
theorem dX0_placeComings_138 : decode cX0_placeComings 138 = .ok (.goto (-136), 3) := by decide +kernel
theorem dX0_placeComings_141 : decode cX0_placeComings 141 = .ok (.return_, 1) := by decide +kernel
theorem dX0_gatherRivals_0 : decode cX0_gatherRivals 0 = .ok (.iconst 0, 1) := by decide +kernel
theorem dX0_gatherRivals_1 : decode cX0_gatherRivals 1 = .ok (.istore_n 2, 1) := by decide +kernel
theorem dX0_gatherRivals_2 : decode cX0_gatherRivals 2 = .ok (.iload_n 2, 1) := by decide +kernel
theorem dX0_gatherRivals_3 : decode cX0_gatherRivals 3 = .ok (.iconst 3, 1) := by decide +kernel
theorem dX0_gatherRivals_4 : decode cX0_gatherRivals 4 = .ok (.if_icmp .ge 86, 3) := by decide +kernel
theorem dX0_gatherRivals_7 : decode cX0_gatherRivals 7 = .ok (.aload_n 0, 1) := by decide +kernel
theorem dX0_gatherRivals_8 : decode cX0_gatherRivals 8 = .ok (.getfield 42, 3) := by decide +kernel
theorem dX0_gatherRivals_11 : decode cX0_gatherRivals 11 = .ok (.iload_n 2, 1) := by decide +kernel
theorem dX0_gatherRivals_12 : decode cX0_gatherRivals 12 = .ok (.iconst (-1), 1) := by decide +kernel
theorem dX0_gatherRivals_13 : decode cX0_gatherRivals 13 = .ok (.iastore, 1) := by decide +kernel
theorem dX0_gatherRivals_14 : decode cX0_gatherRivals 14 = .ok (.aload_n 0, 1) := by decide +kernel
theorem dX0_gatherRivals_15 : decode cX0_gatherRivals 15 = .ok (.getfield 39, 3) := by decide +kernel
theorem dX0_gatherRivals_18 : decode cX0_gatherRivals 18 = .ok (.iload_n 2, 1) := by decide +kernel
theorem dX0_gatherRivals_19 : decode cX0_gatherRivals 19 = .ok (.iconst 0, 1) := by decide +kernel
theorem dX0_gatherRivals_20 : decode cX0_gatherRivals 20 = .ok (.iastore, 1) := by decide +kernel
theorem dX0_gatherRivals_21 : decode cX0_gatherRivals 21 = .ok (.iconst 0, 1) := by decide +kernel
theorem dX0_gatherRivals_22 : decode cX0_gatherRivals 22 = .ok (.istore_n 3, 1) := by decide +kernel
theorem dX0_gatherRivals_23 : decode cX0_gatherRivals 23 = .ok (.iload_n 3, 1) := by decide +kernel
theorem dX0_gatherRivals_24 : decode cX0_gatherRivals 24 = .ok (.aload_n 0, 1) := by decide +kernel
theorem dX0_gatherRivals_25 : decode cX0_gatherRivals 25 = .ok (.getfield 45, 3) := by decide +kernel
theorem dX0_gatherRivals_28 : decode cX0_gatherRivals 28 = .ok (.getfield 129, 3) := by decide +kernel
theorem dX0_gatherRivals_31 : decode cX0_gatherRivals 31 = .ok (.iload_n 2, 1) := by decide +kernel
theorem dX0_gatherRivals_32 : decode cX0_gatherRivals 32 = .ok (.iaload, 1) := by decide +kernel
theorem dX0_gatherRivals_33 : decode cX0_gatherRivals 33 = .ok (.if_icmp .ge 51, 3) := by decide +kernel
theorem dX0_gatherRivals_36 : decode cX0_gatherRivals 36 = .ok (.aload_n 0, 1) := by decide +kernel
theorem dX0_gatherRivals_37 : decode cX0_gatherRivals 37 = .ok (.getfield 45, 3) := by decide +kernel
theorem dX0_gatherRivals_40 : decode cX0_gatherRivals 40 = .ok (.iload_n 1, 1) := by decide +kernel
theorem dX0_gatherRivals_41 : decode cX0_gatherRivals 41 = .ok (.iload_n 2, 1) := by decide +kernel
theorem dX0_gatherRivals_42 : decode cX0_gatherRivals 42 = .ok (.iconst 3, 1) := by decide +kernel
theorem dX0_gatherRivals_43 : decode cX0_gatherRivals 43 = .ok (.imul, 1) := by decide +kernel
theorem dX0_gatherRivals_44 : decode cX0_gatherRivals 44 = .ok (.iload_n 3, 1) := by decide +kernel
theorem dX0_gatherRivals_45 : decode cX0_gatherRivals 45 = .ok (.iadd, 1) := by decide +kernel
theorem dX0_gatherRivals_46 : decode cX0_gatherRivals 46 = .ok (.invokevirtual 135, 3) := by decide +kernel
theorem dX0_gatherRivals_49 : decode cX0_gatherRivals 49 = .ok (.ifCond .eq 29, 3) := by decide +kernel
theorem dX0_gatherRivals_52 : decode cX0_gatherRivals 52 = .ok (.aload_n 0, 1) := by decide +kernel
theorem dX0_gatherRivals_53 : decode cX0_gatherRivals 53 = .ok (.getfield 36, 3) := by decide +kernel
theorem dX0_gatherRivals_56 : decode cX0_gatherRivals 56 = .ok (.iload_n 2, 1) := by decide +kernel
theorem dX0_gatherRivals_57 : decode cX0_gatherRivals 57 = .ok (.iconst 3, 1) := by decide +kernel
theorem dX0_gatherRivals_58 : decode cX0_gatherRivals 58 = .ok (.imul, 1) := by decide +kernel
theorem dX0_gatherRivals_59 : decode cX0_gatherRivals 59 = .ok (.aload_n 0, 1) := by decide +kernel
theorem dX0_gatherRivals_60 : decode cX0_gatherRivals 60 = .ok (.getfield 39, 3) := by decide +kernel
theorem dX0_gatherRivals_63 : decode cX0_gatherRivals 63 = .ok (.iload_n 2, 1) := by decide +kernel
theorem dX0_gatherRivals_64 : decode cX0_gatherRivals 64 = .ok (.iaload, 1) := by decide +kernel
theorem dX0_gatherRivals_65 : decode cX0_gatherRivals 65 = .ok (.iadd, 1) := by decide +kernel
theorem dX0_gatherRivals_66 : decode cX0_gatherRivals 66 = .ok (.iload_n 3, 1) := by decide +kernel
theorem dX0_gatherRivals_67 : decode cX0_gatherRivals 67 = .ok (.iastore, 1) := by decide +kernel
theorem dX0_gatherRivals_68 : decode cX0_gatherRivals 68 = .ok (.aload_n 0, 1) := by decide +kernel
theorem dX0_gatherRivals_69 : decode cX0_gatherRivals 69 = .ok (.getfield 39, 3) := by decide +kernel
theorem dX0_gatherRivals_72 : decode cX0_gatherRivals 72 = .ok (.iload_n 2, 1) := by decide +kernel
theorem dX0_gatherRivals_73 : decode cX0_gatherRivals 73 = .ok (.dup2, 1) := by decide +kernel
theorem dX0_gatherRivals_74 : decode cX0_gatherRivals 74 = .ok (.iaload, 1) := by decide +kernel
theorem dX0_gatherRivals_75 : decode cX0_gatherRivals 75 = .ok (.iconst 1, 1) := by decide +kernel
theorem dX0_gatherRivals_76 : decode cX0_gatherRivals 76 = .ok (.iadd, 1) := by decide +kernel
theorem dX0_gatherRivals_77 : decode cX0_gatherRivals 77 = .ok (.iastore, 1) := by decide +kernel
theorem dX0_gatherRivals_78 : decode cX0_gatherRivals 78 = .ok (.iinc 3 1, 3) := by decide +kernel
theorem dX0_gatherRivals_81 : decode cX0_gatherRivals 81 = .ok (.goto (-58), 3) := by decide +kernel
theorem dX0_gatherRivals_84 : decode cX0_gatherRivals 84 = .ok (.iinc 2 1, 3) := by decide +kernel
theorem dX0_gatherRivals_87 : decode cX0_gatherRivals 87 = .ok (.goto (-85), 3) := by decide +kernel
theorem dX0_gatherRivals_90 : decode cX0_gatherRivals 90 = .ok (.return_, 1) := by decide +kernel
theorem dX0_findLongest_0 : decode cX0_findLongest 0 = .ok (.iload_n 1, 1) := by decide +kernel
theorem dX0_findLongest_1 : decode cX0_findLongest 1 = .ok (.iconst 3, 1) := by decide +kernel
theorem dX0_findLongest_2 : decode cX0_findLongest 2 = .ok (.idiv, 1) := by decide +kernel
theorem dX0_findLongest_3 : decode cX0_findLongest 3 = .ok (.istore_n 2, 1) := by decide +kernel
theorem dX0_findLongest_4 : decode cX0_findLongest 4 = .ok (.aload_n 0, 1) := by decide +kernel
theorem dX0_findLongest_5 : decode cX0_findLongest 5 = .ok (.getfield 45, 3) := by decide +kernel
theorem dX0_findLongest_8 : decode cX0_findLongest 8 = .ok (.getfield 98, 3) := by decide +kernel
theorem dX0_findLongest_11 : decode cX0_findLongest 11 = .ok (.iconst 1, 1) := by decide +kernel
theorem dX0_findLongest_12 : decode cX0_findLongest 12 = .ok (.aaload, 1) := by decide +kernel
theorem dX0_findLongest_13 : decode cX0_findLongest 13 = .ok (.iload_n 1, 1) := by decide +kernel
theorem dX0_findLongest_14 : decode cX0_findLongest 14 = .ok (.iaload, 1) := by decide +kernel
theorem dX0_findLongest_15 : decode cX0_findLongest 15 = .ok (.istore_n 3, 1) := by decide +kernel
theorem dX0_findLongest_16 : decode cX0_findLongest 16 = .ok (.aload_n 0, 1) := by decide +kernel
theorem dX0_findLongest_17 : decode cX0_findLongest 17 = .ok (.getfield 9, 3) := by decide +kernel
theorem dX0_findLongest_20 : decode cX0_findLongest 20 = .ok (.iload_n 2, 1) := by decide +kernel
theorem dX0_findLongest_21 : decode cX0_findLongest 21 = .ok (.iaload, 1) := by decide +kernel
theorem dX0_findLongest_22 : decode cX0_findLongest 22 = .ok (.istore 4, 2) := by decide +kernel
theorem dX0_findLongest_24 : decode cX0_findLongest 24 = .ok (.aload_n 0, 1) := by decide +kernel
theorem dX0_findLongest_25 : decode cX0_findLongest 25 = .ok (.getfield 45, 3) := by decide +kernel
theorem dX0_findLongest_28 : decode cX0_findLongest 28 = .ok (.iload_n 1, 1) := by decide +kernel
theorem dX0_findLongest_29 : decode cX0_findLongest 29 = .ok (.invokevirtual 108, 3) := by decide +kernel
theorem dX0_findLongest_32 : decode cX0_findLongest 32 = .ok (.istore 5, 2) := by decide +kernel
theorem dX0_findLongest_34 : decode cX0_findLongest 34 = .ok (.aload_n 0, 1) := by decide +kernel
theorem dX0_findLongest_35 : decode cX0_findLongest 35 = .ok (.iconst 0, 1) := by decide +kernel
theorem dX0_findLongest_36 : decode cX0_findLongest 36 = .ok (.putfield 89, 3) := by decide +kernel
theorem dX0_findLongest_39 : decode cX0_findLongest 39 = .ok (.iconst 0, 1) := by decide +kernel
theorem dX0_findLongest_40 : decode cX0_findLongest 40 = .ok (.istore 6, 2) := by decide +kernel
theorem dX0_findLongest_42 : decode cX0_findLongest 42 = .ok (.iload 6, 2) := by decide +kernel
theorem dX0_findLongest_44 : decode cX0_findLongest 44 = .ok (.aload_n 0, 1) := by decide +kernel
theorem dX0_findLongest_45 : decode cX0_findLongest 45 = .ok (.getfield 45, 3) := by decide +kernel
theorem dX0_findLongest_48 : decode cX0_findLongest 48 = .ok (.getfield 129, 3) := by decide +kernel
theorem dX0_findLongest_51 : decode cX0_findLongest 51 = .ok (.iload_n 2, 1) := by decide +kernel
theorem dX0_findLongest_52 : decode cX0_findLongest 52 = .ok (.iaload, 1) := by decide +kernel
theorem dX0_findLongest_53 : decode cX0_findLongest 53 = .ok (.if_icmp .ge 183, 3) := by decide +kernel
theorem dX0_findLongest_56 : decode cX0_findLongest 56 = .ok (.iload_n 2, 1) := by decide +kernel
theorem dX0_findLongest_57 : decode cX0_findLongest 57 = .ok (.iconst 3, 1) := by decide +kernel
theorem dX0_findLongest_58 : decode cX0_findLongest 58 = .ok (.imul, 1) := by decide +kernel
theorem dX0_findLongest_59 : decode cX0_findLongest 59 = .ok (.iload 6, 2) := by decide +kernel
theorem dX0_findLongest_61 : decode cX0_findLongest 61 = .ok (.iadd, 1) := by decide +kernel
theorem dX0_findLongest_62 : decode cX0_findLongest 62 = .ok (.istore 7, 2) := by decide +kernel
theorem dX0_findLongest_64 : decode cX0_findLongest 64 = .ok (.iload 7, 2) := by decide +kernel
theorem dX0_findLongest_66 : decode cX0_findLongest 66 = .ok (.iload_n 1, 1) := by decide +kernel
theorem dX0_findLongest_67 : decode cX0_findLongest 67 = .ok (.if_icmp .eq 19, 3) := by decide +kernel
theorem dX0_findLongest_70 : decode cX0_findLongest 70 = .ok (.aload_n 0, 1) := by decide +kernel
theorem dX0_findLongest_71 : decode cX0_findLongest 71 = .ok (.getfield 45, 3) := by decide +kernel
theorem dX0_findLongest_74 : decode cX0_findLongest 74 = .ok (.iload_n 1, 1) := by decide +kernel
theorem dX0_findLongest_75 : decode cX0_findLongest 75 = .ok (.iload 7, 2) := by decide +kernel
theorem dX0_findLongest_77 : decode cX0_findLongest 77 = .ok (.invokevirtual 135, 3) := by decide +kernel
theorem dX0_findLongest_80 : decode cX0_findLongest 80 = .ok (.ifCond .ne 6, 3) := by decide +kernel
theorem dX0_findLongest_83 : decode cX0_findLongest 83 = .ok (.goto 147, 3) := by decide +kernel
theorem dX0_findLongest_86 : decode cX0_findLongest 86 = .ok (.aload_n 0, 1) := by decide +kernel
theorem dX0_findLongest_87 : decode cX0_findLongest 87 = .ok (.iload_n 1, 1) := by decide +kernel
theorem dX0_findLongest_88 : decode cX0_findLongest 88 = .ok (.iload 6, 2) := by decide +kernel
theorem dX0_findLongest_90 : decode cX0_findLongest 90 = .ok (.iconst (-1), 1) := by decide +kernel
theorem dX0_findLongest_91 : decode cX0_findLongest 91 = .ok (.iconst 1, 1) := by decide +kernel
theorem dX0_findLongest_92 : decode cX0_findLongest 92 = .ok (.invokevirtual 101, 3) := by decide +kernel
theorem dX0_findLongest_95 : decode cX0_findLongest 95 = .ok (.istore 8, 2) := by decide +kernel
theorem dX0_findLongest_97 : decode cX0_findLongest 97 = .ok (.iload 8, 2) := by decide +kernel
theorem dX0_findLongest_99 : decode cX0_findLongest 99 = .ok (.iconst (-1), 1) := by decide +kernel
theorem dX0_findLongest_100 : decode cX0_findLongest 100 = .ok (.if_icmp .ne 5, 3) := by decide +kernel
theorem dX0_findLongest_103 : decode cX0_findLongest 103 = .ok (.iconst 0, 1) := by decide +kernel
theorem dX0_findLongest_104 : decode cX0_findLongest 104 = .ok (.ireturn, 1) := by decide +kernel
theorem dX0_findLongest_105 : decode cX0_findLongest 105 = .ok (.iload_n 1, 1) := by decide +kernel
theorem dX0_findLongest_106 : decode cX0_findLongest 106 = .ok (.iconst 3, 1) := by decide +kernel
theorem dX0_findLongest_107 : decode cX0_findLongest 107 = .ok (.imul, 1) := by decide +kernel
theorem dX0_findLongest_108 : decode cX0_findLongest 108 = .ok (.iload 6, 2) := by decide +kernel
theorem dX0_findLongest_110 : decode cX0_findLongest 110 = .ok (.iadd, 1) := by decide +kernel
theorem dX0_findLongest_111 : decode cX0_findLongest 111 = .ok (.istore 9, 2) := by decide +kernel
theorem dX0_findLongest_113 : decode cX0_findLongest 113 = .ok (.aload_n 0, 1) := by decide +kernel
theorem dX0_findLongest_114 : decode cX0_findLongest 114 = .ok (.iload_n 1, 1) := by decide +kernel
theorem dX0_findLongest_115 : decode cX0_findLongest 115 = .ok (.iload 6, 2) := by decide +kernel
theorem dX0_findLongest_117 : decode cX0_findLongest 117 = .ok (.iload 8, 2) := by decide +kernel
theorem dX0_findLongest_119 : decode cX0_findLongest 119 = .ok (.invokevirtual 139, 3) := by decide +kernel
theorem dX0_findLongest_122 : decode cX0_findLongest 122 = .ok (.istore 10, 2) := by decide +kernel
theorem dX0_findLongest_124 : decode cX0_findLongest 124 = .ok (.iconst 0, 1) := by decide +kernel
theorem dX0_findLongest_125 : decode cX0_findLongest 125 = .ok (.istore 11, 2) := by decide +kernel
theorem dX0_findLongest_127 : decode cX0_findLongest 127 = .ok (.iconst 0, 1) := by decide +kernel
theorem dX0_findLongest_128 : decode cX0_findLongest 128 = .ok (.istore 12, 2) := by decide +kernel
theorem dX0_findLongest_130 : decode cX0_findLongest 130 = .ok (.iload 12, 2) := by decide +kernel
theorem dX0_findLongest_132 : decode cX0_findLongest 132 = .ok (.iload 10, 2) := by decide +kernel
theorem dX0_findLongest_134 : decode cX0_findLongest 134 = .ok (.if_icmp .ge 96, 3) := by decide +kernel
theorem dX0_findLongest_137 : decode cX0_findLongest 137 = .ok (.aload_n 0, 1) := by decide +kernel
theorem dX0_findLongest_138 : decode cX0_findLongest 138 = .ok (.iload_n 1, 1) := by decide +kernel
theorem dX0_findLongest_139 : decode cX0_findLongest 139 = .ok (.iload 6, 2) := by decide +kernel
theorem dX0_findLongest_141 : decode cX0_findLongest 141 = .ok (.iload 12, 2) := by decide +kernel
theorem dX0_findLongest_143 : decode cX0_findLongest 143 = .ok (.iconst 1, 1) := by decide +kernel
theorem dX0_findLongest_144 : decode cX0_findLongest 144 = .ok (.iadd, 1) := by decide +kernel
theorem dX0_findLongest_145 : decode cX0_findLongest 145 = .ok (.iload 11, 2) := by decide +kernel
theorem dX0_findLongest_147 : decode cX0_findLongest 147 = .ok (.iload_n 3, 1) := by decide +kernel
theorem dX0_findLongest_148 : decode cX0_findLongest 148 = .ok (.iadd, 1) := by decide +kernel
theorem dX0_findLongest_149 : decode cX0_findLongest 149 = .ok (.invokevirtual 101, 3) := by decide +kernel
theorem dX0_findLongest_152 : decode cX0_findLongest 152 = .ok (.istore 11, 2) := by decide +kernel
theorem dX0_findLongest_154 : decode cX0_findLongest 154 = .ok (.iload 11, 2) := by decide +kernel
theorem dX0_findLongest_156 : decode cX0_findLongest 156 = .ok (.iconst (-1), 1) := by decide +kernel
theorem dX0_findLongest_157 : decode cX0_findLongest 157 = .ok (.if_icmp .ne 5, 3) := by decide +kernel
theorem dX0_findLongest_160 : decode cX0_findLongest 160 = .ok (.iconst 0, 1) := by decide +kernel
theorem dX0_findLongest_161 : decode cX0_findLongest 161 = .ok (.ireturn, 1) := by decide +kernel
theorem dX0_findLongest_162 : decode cX0_findLongest 162 = .ok (.iload 11, 2) := by decide +kernel
theorem dX0_findLongest_164 : decode cX0_findLongest 164 = .ok (.aload_n 0, 1) := by decide +kernel
theorem dX0_findLongest_165 : decode cX0_findLongest 165 = .ok (.getfield 30, 3) := by decide +kernel
theorem dX0_findLongest_168 : decode cX0_findLongest 168 = .ok (.iload 9, 2) := by decide +kernel
theorem dX0_findLongest_170 : decode cX0_findLongest 170 = .ok (.iaload, 1) := by decide +kernel
theorem dX0_findLongest_171 : decode cX0_findLongest 171 = .ok (.isub, 1) := by decide +kernel
theorem dX0_findLongest_172 : decode cX0_findLongest 172 = .ok (.iload 4, 2) := by decide +kernel
theorem dX0_findLongest_174 : decode cX0_findLongest 174 = .ok (.iload 12, 2) := by decide +kernel
theorem dX0_findLongest_176 : decode cX0_findLongest 176 = .ok (.aload_n 0, 1) := by decide +kernel
theorem dX0_findLongest_177 : decode cX0_findLongest 177 = .ok (.getfield 33, 3) := by decide +kernel
theorem dX0_findLongest_180 : decode cX0_findLongest 180 = .ok (.iload 9, 2) := by decide +kernel
theorem dX0_findLongest_182 : decode cX0_findLongest 182 = .ok (.iaload, 1) := by decide +kernel
theorem dX0_findLongest_183 : decode cX0_findLongest 183 = .ok (.isub, 1) := by decide +kernel
theorem dX0_findLongest_184 : decode cX0_findLongest 184 = .ok (.imul, 1) := by decide +kernel
theorem dX0_findLongest_185 : decode cX0_findLongest 185 = .ok (.isub, 1) := by decide +kernel
theorem dX0_findLongest_186 : decode cX0_findLongest 186 = .ok (.iload 5, 2) := by decide +kernel
theorem dX0_findLongest_188 : decode cX0_findLongest 188 = .ok (.iadd, 1) := by decide +kernel
theorem dX0_findLongest_189 : decode cX0_findLongest 189 = .ok (.istore 13, 2) := by decide +kernel
theorem dX0_findLongest_191 : decode cX0_findLongest 191 = .ok (.iload 13, 2) := by decide +kernel
theorem dX0_findLongest_193 : decode cX0_findLongest 193 = .ok (.aload_n 0, 1) := by decide +kernel
theorem dX0_findLongest_194 : decode cX0_findLongest 194 = .ok (.getfield 89, 3) := by decide +kernel
theorem dX0_findLongest_197 : decode cX0_findLongest 197 = .ok (.if_icmp .le 27, 3) := by decide +kernel
theorem dX0_findLongest_200 : decode cX0_findLongest 200 = .ok (.aload_n 0, 1) := by decide +kernel
theorem dX0_findLongest_201 : decode cX0_findLongest 201 = .ok (.iload 13, 2) := by decide +kernel
theorem dX0_findLongest_203 : decode cX0_findLongest 203 = .ok (.putfield 89, 3) := by decide +kernel
theorem dX0_findLongest_206 : decode cX0_findLongest 206 = .ok (.aload_n 0, 1) := by decide +kernel
theorem dX0_findLongest_207 : decode cX0_findLongest 207 = .ok (.iload 6, 2) := by decide +kernel
theorem dX0_findLongest_209 : decode cX0_findLongest 209 = .ok (.putfield 120, 3) := by decide +kernel
theorem dX0_findLongest_212 : decode cX0_findLongest 212 = .ok (.aload_n 0, 1) := by decide +kernel
theorem dX0_findLongest_213 : decode cX0_findLongest 213 = .ok (.iload 12, 2) := by decide +kernel
theorem dX0_findLongest_215 : decode cX0_findLongest 215 = .ok (.putfield 123, 3) := by decide +kernel
theorem dX0_findLongest_218 : decode cX0_findLongest 218 = .ok (.aload_n 0, 1) := by decide +kernel
theorem dX0_findLongest_219 : decode cX0_findLongest 219 = .ok (.iload 8, 2) := by decide +kernel
theorem dX0_findLongest_221 : decode cX0_findLongest 221 = .ok (.putfield 126, 3) := by decide +kernel
theorem dX0_findLongest_224 : decode cX0_findLongest 224 = .ok (.iinc 12 1, 3) := by decide +kernel
theorem dX0_findLongest_227 : decode cX0_findLongest 227 = .ok (.goto (-97), 3) := by decide +kernel
theorem dX0_findLongest_230 : decode cX0_findLongest 230 = .ok (.iinc 6 1, 3) := by decide +kernel
theorem dX0_findLongest_233 : decode cX0_findLongest 233 = .ok (.goto (-191), 3) := by decide +kernel
theorem dX0_findLongest_236 : decode cX0_findLongest 236 = .ok (.iconst 1, 1) := by decide +kernel
theorem dX0_findLongest_237 : decode cX0_findLongest 237 = .ok (.ireturn, 1) := by decide +kernel
theorem dX0_leastTime_0 : decode cX0_leastTime 0 = .ok (.iload 4, 2) := by decide +kernel
theorem dX0_leastTime_2 : decode cX0_leastTime 2 = .ok (.istore 5, 2) := by decide +kernel
theorem dX0_leastTime_4 : decode cX0_leastTime 4 = .ok (.iconst 0, 1) := by decide +kernel
theorem dX0_leastTime_5 : decode cX0_leastTime 5 = .ok (.istore 6, 2) := by decide +kernel
theorem dX0_leastTime_7 : decode cX0_leastTime 7 = .ok (.iload 6, 2) := by decide +kernel
theorem dX0_leastTime_9 : decode cX0_leastTime 9 = .ok (.sipush 200, 3) := by decide +kernel
theorem dX0_leastTime_12 : decode cX0_leastTime 12 = .ok (.if_icmp .gt 58, 3) := by decide +kernel
theorem dX0_leastTime_15 : decode cX0_leastTime 15 = .ok (.iload 5, 2) := by decide +kernel
theorem dX0_leastTime_17 : decode cX0_leastTime 17 = .ok (.sipush 200, 3) := by decide +kernel
theorem dX0_leastTime_20 : decode cX0_leastTime 20 = .ok (.if_icmp .gt 50, 3) := by decide +kernel
theorem dX0_leastTime_23 : decode cX0_leastTime 23 = .ok (.iload_n 2, 1) := by decide +kernel
theorem dX0_leastTime_24 : decode cX0_leastTime 24 = .ok (.iconst (-1), 1) := by decide +kernel
theorem dX0_leastTime_25 : decode cX0_leastTime 25 = .ok (.if_icmp .ne 14, 3) := by decide +kernel
theorem dX0_leastTime_28 : decode cX0_leastTime 28 = .ok (.aload_n 0, 1) := by decide +kernel
theorem dX0_leastTime_29 : decode cX0_leastTime 29 = .ok (.iload_n 1, 1) := by decide +kernel
theorem dX0_leastTime_30 : decode cX0_leastTime 30 = .ok (.iload_n 3, 1) := by decide +kernel
theorem dX0_leastTime_31 : decode cX0_leastTime 31 = .ok (.iload 5, 2) := by decide +kernel
theorem dX0_leastTime_33 : decode cX0_leastTime 33 = .ok (.invokevirtual 143, 3) := by decide +kernel
theorem dX0_leastTime_36 : decode cX0_leastTime 36 = .ok (.goto 12, 3) := by decide +kernel
theorem dX0_leastTime_39 : decode cX0_leastTime 39 = .ok (.aload_n 0, 1) := by decide +kernel
theorem dX0_leastTime_40 : decode cX0_leastTime 40 = .ok (.iload_n 1, 1) := by decide +kernel
theorem dX0_leastTime_41 : decode cX0_leastTime 41 = .ok (.iload_n 2, 1) := by decide +kernel
theorem dX0_leastTime_42 : decode cX0_leastTime 42 = .ok (.iload_n 3, 1) := by decide +kernel
theorem dX0_leastTime_43 : decode cX0_leastTime 43 = .ok (.iload 5, 2) := by decide +kernel
theorem dX0_leastTime_45 : decode cX0_leastTime 45 = .ok (.invokevirtual 146, 3) := by decide +kernel
theorem dX0_leastTime_48 : decode cX0_leastTime 48 = .ok (.istore 7, 2) := by decide +kernel
theorem dX0_leastTime_50 : decode cX0_leastTime 50 = .ok (.iload 7, 2) := by decide +kernel
theorem dX0_leastTime_52 : decode cX0_leastTime 52 = .ok (.iload 5, 2) := by decide +kernel
theorem dX0_leastTime_54 : decode cX0_leastTime 54 = .ok (.if_icmp .ne 6, 3) := by decide +kernel
theorem dX0_leastTime_57 : decode cX0_leastTime 57 = .ok (.iload 5, 2) := by decide +kernel
theorem dX0_leastTime_59 : decode cX0_leastTime 59 = .ok (.ireturn, 1) := by decide +kernel
theorem dX0_leastTime_60 : decode cX0_leastTime 60 = .ok (.iload 7, 2) := by decide +kernel
theorem dX0_leastTime_62 : decode cX0_leastTime 62 = .ok (.istore 5, 2) := by decide +kernel
theorem dX0_leastTime_64 : decode cX0_leastTime 64 = .ok (.iinc 6 1, 3) := by decide +kernel
theorem dX0_leastTime_67 : decode cX0_leastTime 67 = .ok (.goto (-60), 3) := by decide +kernel
theorem dX0_leastTime_70 : decode cX0_leastTime 70 = .ok (.iconst (-1), 1) := by decide +kernel
theorem dX0_leastTime_71 : decode cX0_leastTime 71 = .ok (.ireturn, 1) := by decide +kernel
theorem dX0_needed_0 : decode cX0_needed 0 = .ok (.iload_n 1, 1) := by decide +kernel
theorem dX0_needed_1 : decode cX0_needed 1 = .ok (.iconst 3, 1) := by decide +kernel
theorem dX0_needed_2 : decode cX0_needed 2 = .ok (.idiv, 1) := by decide +kernel
theorem dX0_needed_3 : decode cX0_needed 3 = .ok (.istore 5, 2) := by decide +kernel
theorem dX0_needed_5 : decode cX0_needed 5 = .ok (.iload_n 3, 1) := by decide +kernel
theorem dX0_needed_6 : decode cX0_needed 6 = .ok (.iconst (-1), 1) := by decide +kernel
theorem dX0_needed_7 : decode cX0_needed 7 = .ok (.if_icmp .ne 14, 3) := by decide +kernel
theorem dX0_needed_10 : decode cX0_needed 10 = .ok (.aload_n 0, 1) := by decide +kernel
theorem dX0_needed_11 : decode cX0_needed 11 = .ok (.iload_n 1, 1) := by decide +kernel
theorem dX0_needed_12 : decode cX0_needed 12 = .ok (.iload_n 2, 1) := by decide +kernel
theorem dX0_needed_13 : decode cX0_needed 13 = .ok (.iload 4, 2) := by decide +kernel
theorem dX0_needed_15 : decode cX0_needed 15 = .ok (.invokevirtual 139, 3) := by decide +kernel
theorem dX0_needed_18 : decode cX0_needed 18 = .ok (.goto 4, 3) := by decide +kernel
theorem dX0_needed_21 : decode cX0_needed 21 = .ok (.iload_n 3, 1) := by decide +kernel
theorem dX0_needed_22 : decode cX0_needed 22 = .ok (.istore 6, 2) := by decide +kernel
theorem dX0_needed_24 : decode cX0_needed 24 = .ok (.iload 6, 2) := by decide +kernel
theorem dX0_needed_26 : decode cX0_needed 26 = .ok (.aload_n 0, 1) := by decide +kernel
theorem dX0_needed_27 : decode cX0_needed 27 = .ok (.getfield 45, 3) := by decide +kernel
theorem dX0_needed_30 : decode cX0_needed 30 = .ok (.getfield 98, 3) := by decide +kernel
theorem dX0_needed_33 : decode cX0_needed 33 = .ok (.iconst 1, 1) := by decide +kernel
theorem dX0_needed_34 : decode cX0_needed 34 = .ok (.aaload, 1) := by decide +kernel
theorem dX0_needed_35 : decode cX0_needed 35 = .ok (.iload_n 1, 1) := by decide +kernel
theorem dX0_needed_36 : decode cX0_needed 36 = .ok (.iaload, 1) := by decide +kernel
theorem dX0_needed_37 : decode cX0_needed 37 = .ok (.imul, 1) := by decide +kernel
theorem dX0_needed_38 : decode cX0_needed 38 = .ok (.aload_n 0, 1) := by decide +kernel
theorem dX0_needed_39 : decode cX0_needed 39 = .ok (.iload 5, 2) := by decide +kernel
theorem dX0_needed_41 : decode cX0_needed 41 = .ok (.iload_n 2, 1) := by decide +kernel
theorem dX0_needed_42 : decode cX0_needed 42 = .ok (.iload 4, 2) := by decide +kernel
theorem dX0_needed_44 : decode cX0_needed 44 = .ok (.invokevirtual 149, 3) := by decide +kernel
theorem dX0_needed_47 : decode cX0_needed 47 = .ok (.iadd, 1) := by decide +kernel
theorem dX0_needed_48 : decode cX0_needed 48 = .ok (.istore 7, 2) := by decide +kernel
theorem dX0_needed_50 : decode cX0_needed 50 = .ok (.iconst 0, 1) := by decide +kernel
theorem dX0_needed_51 : decode cX0_needed 51 = .ok (.istore 8, 2) := by decide +kernel
theorem dX0_needed_53 : decode cX0_needed 53 = .ok (.iload 8, 2) := by decide +kernel
theorem dX0_needed_55 : decode cX0_needed 55 = .ok (.iconst 3, 1) := by decide +kernel
theorem dX0_needed_56 : decode cX0_needed 56 = .ok (.if_icmp .ge 104, 3) := by decide +kernel
theorem dX0_needed_59 : decode cX0_needed 59 = .ok (.iload 8, 2) := by decide +kernel
theorem dX0_needed_61 : decode cX0_needed 61 = .ok (.iload 5, 2) := by decide +kernel
theorem dX0_needed_63 : decode cX0_needed 63 = .ok (.if_icmp .ne 6, 3) := by decide +kernel
theorem dX0_needed_66 : decode cX0_needed 66 = .ok (.goto 88, 3) := by decide +kernel
theorem dX0_needed_69 : decode cX0_needed 69 = .ok (.iconst 0, 1) := by decide +kernel
theorem dX0_needed_70 : decode cX0_needed 70 = .ok (.istore 9, 2) := by decide +kernel
theorem dX0_needed_72 : decode cX0_needed 72 = .ok (.iconst 0, 1) := by decide +kernel
theorem dX0_needed_73 : decode cX0_needed 73 = .ok (.istore 10, 2) := by decide +kernel
theorem dX0_needed_75 : decode cX0_needed 75 = .ok (.iload 10, 2) := by decide +kernel
theorem dX0_needed_77 : decode cX0_needed 77 = .ok (.aload_n 0, 1) := by decide +kernel
theorem dX0_needed_78 : decode cX0_needed 78 = .ok (.getfield 39, 3) := by decide +kernel
theorem dX0_needed_81 : decode cX0_needed 81 = .ok (.iload 8, 2) := by decide +kernel
theorem dX0_needed_83 : decode cX0_needed 83 = .ok (.iaload, 1) := by decide +kernel
theorem dX0_needed_84 : decode cX0_needed 84 = .ok (.if_icmp .ge 63, 3) := by decide +kernel
theorem dX0_needed_87 : decode cX0_needed 87 = .ok (.aload_n 0, 1) := by decide +kernel
theorem dX0_needed_88 : decode cX0_needed 88 = .ok (.getfield 36, 3) := by decide +kernel
theorem dX0_needed_91 : decode cX0_needed 91 = .ok (.iload 8, 2) := by decide +kernel
theorem dX0_needed_93 : decode cX0_needed 93 = .ok (.iconst 3, 1) := by decide +kernel
theorem dX0_needed_94 : decode cX0_needed 94 = .ok (.imul, 1) := by decide +kernel
theorem dX0_needed_95 : decode cX0_needed 95 = .ok (.iload 10, 2) := by decide +kernel
theorem dX0_needed_97 : decode cX0_needed 97 = .ok (.iadd, 1) := by decide +kernel
theorem dX0_needed_98 : decode cX0_needed 98 = .ok (.iaload, 1) := by decide +kernel
theorem dX0_needed_99 : decode cX0_needed 99 = .ok (.istore 11, 2) := by decide +kernel
theorem dX0_needed_101 : decode cX0_needed 101 = .ok (.aload_n 0, 1) := by decide +kernel
theorem dX0_needed_102 : decode cX0_needed 102 = .ok (.getfield 42, 3) := by decide +kernel
theorem dX0_needed_105 : decode cX0_needed 105 = .ok (.iload 8, 2) := by decide +kernel
theorem dX0_needed_107 : decode cX0_needed 107 = .ok (.iaload, 1) := by decide +kernel
theorem dX0_needed_108 : decode cX0_needed 108 = .ok (.iconst (-1), 1) := by decide +kernel
theorem dX0_needed_109 : decode cX0_needed 109 = .ok (.if_icmp .eq 15, 3) := by decide +kernel
theorem dX0_needed_112 : decode cX0_needed 112 = .ok (.aload_n 0, 1) := by decide +kernel
theorem dX0_needed_113 : decode cX0_needed 113 = .ok (.getfield 42, 3) := by decide +kernel
theorem dX0_needed_116 : decode cX0_needed 116 = .ok (.iload 8, 2) := by decide +kernel
theorem dX0_needed_118 : decode cX0_needed 118 = .ok (.iaload, 1) := by decide +kernel
theorem dX0_needed_119 : decode cX0_needed 119 = .ok (.iload 11, 2) := by decide +kernel
theorem dX0_needed_121 : decode cX0_needed 121 = .ok (.if_icmp .ne 20, 3) := by decide +kernel
theorem dX0_needed_124 : decode cX0_needed 124 = .ok (.iload 9, 2) := by decide +kernel
theorem dX0_needed_126 : decode cX0_needed 126 = .ok (.aload_n 0, 1) := by decide +kernel
theorem dX0_needed_127 : decode cX0_needed 127 = .ok (.iload 8, 2) := by decide +kernel
theorem dX0_needed_129 : decode cX0_needed 129 = .ok (.iload 11, 2) := by decide +kernel
theorem dX0_needed_131 : decode cX0_needed 131 = .ok (.iload 4, 2) := by decide +kernel
theorem dX0_needed_133 : decode cX0_needed 133 = .ok (.invokevirtual 149, 3) := by decide +kernel
theorem dX0_needed_136 : decode cX0_needed 136 = .ok (.invokestatic 92, 3) := by decide +kernel
theorem dX0_needed_139 : decode cX0_needed 139 = .ok (.istore 9, 2) := by decide +kernel
theorem dX0_needed_141 : decode cX0_needed 141 = .ok (.iinc 10 1, 3) := by decide +kernel
theorem dX0_needed_144 : decode cX0_needed 144 = .ok (.goto (-69), 3) := by decide +kernel
theorem dX0_needed_147 : decode cX0_needed 147 = .ok (.iload 7, 2) := by decide +kernel
theorem dX0_needed_149 : decode cX0_needed 149 = .ok (.iload 9, 2) := by decide +kernel
theorem dX0_needed_151 : decode cX0_needed 151 = .ok (.iadd, 1) := by decide +kernel
theorem dX0_needed_152 : decode cX0_needed 152 = .ok (.istore 7, 2) := by decide +kernel
theorem dX0_needed_154 : decode cX0_needed 154 = .ok (.iinc 8 1, 3) := by decide +kernel
theorem dX0_needed_157 : decode cX0_needed 157 = .ok (.goto (-104), 3) := by decide +kernel
theorem dX0_needed_160 : decode cX0_needed 160 = .ok (.iload 7, 2) := by decide +kernel
theorem dX0_needed_162 : decode cX0_needed 162 = .ok (.ireturn, 1) := by decide +kernel
theorem dX0_work_0 : decode cX0_work 0 = .ok (.iconst 0, 1) := by decide +kernel
theorem dX0_work_1 : decode cX0_work 1 = .ok (.istore 4, 2) := by decide +kernel
theorem dX0_work_3 : decode cX0_work 3 = .ok (.iconst 0, 1) := by decide +kernel
theorem dX0_work_4 : decode cX0_work 4 = .ok (.istore 5, 2) := by decide +kernel
theorem dX0_work_6 : decode cX0_work 6 = .ok (.iload 5, 2) := by decide +kernel
theorem dX0_work_8 : decode cX0_work 8 = .ok (.aload_n 0, 1) := by decide +kernel
theorem dX0_work_9 : decode cX0_work 9 = .ok (.getfield 39, 3) := by decide +kernel
theorem dX0_work_12 : decode cX0_work 12 = .ok (.iload_n 1, 1) := by decide +kernel
theorem dX0_work_13 : decode cX0_work 13 = .ok (.iaload, 1) := by decide +kernel
theorem dX0_work_14 : decode cX0_work 14 = .ok (.if_icmp .ge 52, 3) := by decide +kernel
theorem dX0_work_17 : decode cX0_work 17 = .ok (.iload_n 1, 1) := by decide +kernel
theorem dX0_work_18 : decode cX0_work 18 = .ok (.iconst 3, 1) := by decide +kernel
theorem dX0_work_19 : decode cX0_work 19 = .ok (.imul, 1) := by decide +kernel
theorem dX0_work_20 : decode cX0_work 20 = .ok (.aload_n 0, 1) := by decide +kernel
theorem dX0_work_21 : decode cX0_work 21 = .ok (.getfield 36, 3) := by decide +kernel
theorem dX0_work_24 : decode cX0_work 24 = .ok (.iload_n 1, 1) := by decide +kernel
theorem dX0_work_25 : decode cX0_work 25 = .ok (.iconst 3, 1) := by decide +kernel
theorem dX0_work_26 : decode cX0_work 26 = .ok (.imul, 1) := by decide +kernel
theorem dX0_work_27 : decode cX0_work 27 = .ok (.iload 5, 2) := by decide +kernel
theorem dX0_work_29 : decode cX0_work 29 = .ok (.iadd, 1) := by decide +kernel
theorem dX0_work_30 : decode cX0_work 30 = .ok (.iaload, 1) := by decide +kernel
theorem dX0_work_31 : decode cX0_work 31 = .ok (.iadd, 1) := by decide +kernel
theorem dX0_work_32 : decode cX0_work 32 = .ok (.istore 6, 2) := by decide +kernel
theorem dX0_work_34 : decode cX0_work 34 = .ok (.iload 4, 2) := by decide +kernel
theorem dX0_work_36 : decode cX0_work 36 = .ok (.aload_n 0, 1) := by decide +kernel
theorem dX0_work_37 : decode cX0_work 37 = .ok (.iload 6, 2) := by decide +kernel
theorem dX0_work_39 : decode cX0_work 39 = .ok (.iload_n 2, 1) := by decide +kernel
theorem dX0_work_40 : decode cX0_work 40 = .ok (.iload_n 3, 1) := by decide +kernel
theorem dX0_work_41 : decode cX0_work 41 = .ok (.invokevirtual 139, 3) := by decide +kernel
theorem dX0_work_44 : decode cX0_work 44 = .ok (.aload_n 0, 1) := by decide +kernel
theorem dX0_work_45 : decode cX0_work 45 = .ok (.getfield 45, 3) := by decide +kernel
theorem dX0_work_48 : decode cX0_work 48 = .ok (.getfield 98, 3) := by decide +kernel
theorem dX0_work_51 : decode cX0_work 51 = .ok (.iconst 1, 1) := by decide +kernel
theorem dX0_work_52 : decode cX0_work 52 = .ok (.aaload, 1) := by decide +kernel
theorem dX0_work_53 : decode cX0_work 53 = .ok (.iload 6, 2) := by decide +kernel
theorem dX0_work_55 : decode cX0_work 55 = .ok (.iaload, 1) := by decide +kernel
theorem dX0_work_56 : decode cX0_work 56 = .ok (.imul, 1) := by decide +kernel
theorem dX0_work_57 : decode cX0_work 57 = .ok (.iadd, 1) := by decide +kernel
theorem dX0_work_58 : decode cX0_work 58 = .ok (.istore 4, 2) := by decide +kernel
theorem dX0_work_60 : decode cX0_work 60 = .ok (.iinc 5 1, 3) := by decide +kernel
theorem dX0_work_63 : decode cX0_work 63 = .ok (.goto (-57), 3) := by decide +kernel
theorem dX0_work_66 : decode cX0_work 66 = .ok (.iload 4, 2) := by decide +kernel
theorem dX0_work_68 : decode cX0_work 68 = .ok (.ireturn, 1) := by decide +kernel
theorem dX0_comes_0 : decode cX0_comes 0 = .ok (.aload_n 0, 1) := by decide +kernel
theorem dX0_comes_1 : decode cX0_comes 1 = .ok (.getfield 9, 3) := by decide +kernel
theorem dX0_comes_4 : decode cX0_comes 4 = .ok (.iload_n 1, 1) := by decide +kernel
theorem dX0_comes_5 : decode cX0_comes 5 = .ok (.iconst 3, 1) := by decide +kernel
theorem dX0_comes_6 : decode cX0_comes 6 = .ok (.idiv, 1) := by decide +kernel
theorem dX0_comes_7 : decode cX0_comes 7 = .ok (.iaload, 1) := by decide +kernel
theorem dX0_comes_8 : decode cX0_comes 8 = .ok (.istore 4, 2) := by decide +kernel
theorem dX0_comes_10 : decode cX0_comes 10 = .ok (.iload_n 1, 1) := by decide +kernel
theorem dX0_comes_11 : decode cX0_comes 11 = .ok (.iconst 3, 1) := by decide +kernel
theorem dX0_comes_12 : decode cX0_comes 12 = .ok (.imul, 1) := by decide +kernel
theorem dX0_comes_13 : decode cX0_comes 13 = .ok (.iload_n 2, 1) := by decide +kernel
theorem dX0_comes_14 : decode cX0_comes 14 = .ok (.iadd, 1) := by decide +kernel
theorem dX0_comes_15 : decode cX0_comes 15 = .ok (.istore 5, 2) := by decide +kernel
theorem dX0_comes_17 : decode cX0_comes 17 = .ok (.aload_n 0, 1) := by decide +kernel
theorem dX0_comes_18 : decode cX0_comes 18 = .ok (.getfield 33, 3) := by decide +kernel
theorem dX0_comes_21 : decode cX0_comes 21 = .ok (.iload 5, 2) := by decide +kernel
theorem dX0_comes_23 : decode cX0_comes 23 = .ok (.iaload, 1) := by decide +kernel
theorem dX0_comes_24 : decode cX0_comes 24 = .ok (.iload_n 3, 1) := by decide +kernel
theorem dX0_comes_25 : decode cX0_comes 25 = .ok (.aload_n 0, 1) := by decide +kernel
theorem dX0_comes_26 : decode cX0_comes 26 = .ok (.getfield 30, 3) := by decide +kernel
theorem dX0_comes_29 : decode cX0_comes 29 = .ok (.iload 5, 2) := by decide +kernel
theorem dX0_comes_31 : decode cX0_comes 31 = .ok (.iaload, 1) := by decide +kernel
theorem dX0_comes_32 : decode cX0_comes 32 = .ok (.isub, 1) := by decide +kernel
theorem dX0_comes_33 : decode cX0_comes 33 = .ok (.iload 4, 2) := by decide +kernel
theorem dX0_comes_35 : decode cX0_comes 35 = .ok (.iadd, 1) := by decide +kernel
theorem dX0_comes_36 : decode cX0_comes 36 = .ok (.iconst 1, 1) := by decide +kernel
theorem dX0_comes_37 : decode cX0_comes 37 = .ok (.isub, 1) := by decide +kernel
theorem dX0_comes_38 : decode cX0_comes 38 = .ok (.iload 4, 2) := by decide +kernel
theorem dX0_comes_40 : decode cX0_comes 40 = .ok (.idiv, 1) := by decide +kernel
theorem dX0_comes_41 : decode cX0_comes 41 = .ok (.iadd, 1) := by decide +kernel
theorem dX0_comes_42 : decode cX0_comes 42 = .ok (.ireturn, 1) := by decide +kernel
theorem dX0_quickNeeded_0 : decode cX0_quickNeeded 0 = .ok (.iload_n 2, 1) := by decide +kernel
theorem dX0_quickNeeded_1 : decode cX0_quickNeeded 1 = .ok (.iconst (-1), 1) := by decide +kernel
theorem dX0_quickNeeded_2 : decode cX0_quickNeeded 2 = .ok (.if_icmp .ne 12, 3) := by decide +kernel
theorem dX0_quickNeeded_5 : decode cX0_quickNeeded 5 = .ok (.aload_n 0, 1) := by decide +kernel
theorem dX0_quickNeeded_6 : decode cX0_quickNeeded 6 = .ok (.iload_n 1, 1) := by decide +kernel
theorem dX0_quickNeeded_7 : decode cX0_quickNeeded 7 = .ok (.iload_n 3, 1) := by decide +kernel
theorem dX0_quickNeeded_8 : decode cX0_quickNeeded 8 = .ok (.invokevirtual 105, 3) := by decide +kernel
theorem dX0_quickNeeded_11 : decode cX0_quickNeeded 11 = .ok (.goto 4, 3) := by decide +kernel
theorem dX0_quickNeeded_14 : decode cX0_quickNeeded 14 = .ok (.iload_n 2, 1) := by decide +kernel
theorem dX0_quickNeeded_15 : decode cX0_quickNeeded 15 = .ok (.istore 4, 2) := by decide +kernel
theorem dX0_quickNeeded_17 : decode cX0_quickNeeded 17 = .ok (.iload 4, 2) := by decide +kernel
theorem dX0_quickNeeded_19 : decode cX0_quickNeeded 19 = .ok (.aload_n 0, 1) := by decide +kernel
theorem dX0_quickNeeded_20 : decode cX0_quickNeeded 20 = .ok (.getfield 45, 3) := by decide +kernel
theorem dX0_quickNeeded_23 : decode cX0_quickNeeded 23 = .ok (.getfield 98, 3) := by decide +kernel
theorem dX0_quickNeeded_26 : decode cX0_quickNeeded 26 = .ok (.iconst 1, 1) := by decide +kernel
theorem dX0_quickNeeded_27 : decode cX0_quickNeeded 27 = .ok (.aaload, 1) := by decide +kernel
theorem dX0_quickNeeded_28 : decode cX0_quickNeeded 28 = .ok (.iload_n 1, 1) := by decide +kernel
theorem dX0_quickNeeded_29 : decode cX0_quickNeeded 29 = .ok (.iaload, 1) := by decide +kernel
theorem dX0_quickNeeded_30 : decode cX0_quickNeeded 30 = .ok (.imul, 1) := by decide +kernel
theorem dX0_quickNeeded_31 : decode cX0_quickNeeded 31 = .ok (.istore 5, 2) := by decide +kernel
theorem dX0_quickNeeded_33 : decode cX0_quickNeeded 33 = .ok (.iconst 0, 1) := by decide +kernel
theorem dX0_quickNeeded_34 : decode cX0_quickNeeded 34 = .ok (.istore 6, 2) := by decide +kernel
theorem dX0_quickNeeded_36 : decode cX0_quickNeeded 36 = .ok (.iload 6, 2) := by decide +kernel
theorem dX0_quickNeeded_38 : decode cX0_quickNeeded 38 = .ok (.iconst 3, 1) := by decide +kernel
theorem dX0_quickNeeded_39 : decode cX0_quickNeeded 39 = .ok (.if_icmp .ge 74, 3) := by decide +kernel
theorem dX0_quickNeeded_42 : decode cX0_quickNeeded 42 = .ok (.iconst 0, 1) := by decide +kernel
theorem dX0_quickNeeded_43 : decode cX0_quickNeeded 43 = .ok (.istore 7, 2) := by decide +kernel
theorem dX0_quickNeeded_45 : decode cX0_quickNeeded 45 = .ok (.iload 7, 2) := by decide +kernel
theorem dX0_quickNeeded_47 : decode cX0_quickNeeded 47 = .ok (.aload_n 0, 1) := by decide +kernel
theorem dX0_quickNeeded_48 : decode cX0_quickNeeded 48 = .ok (.getfield 39, 3) := by decide +kernel
theorem dX0_quickNeeded_51 : decode cX0_quickNeeded 51 = .ok (.iload 6, 2) := by decide +kernel
theorem dX0_quickNeeded_53 : decode cX0_quickNeeded 53 = .ok (.iaload, 1) := by decide +kernel
theorem dX0_quickNeeded_54 : decode cX0_quickNeeded 54 = .ok (.if_icmp .ge 53, 3) := by decide +kernel
theorem dX0_quickNeeded_57 : decode cX0_quickNeeded 57 = .ok (.iload 6, 2) := by decide +kernel
theorem dX0_quickNeeded_59 : decode cX0_quickNeeded 59 = .ok (.iconst 3, 1) := by decide +kernel
theorem dX0_quickNeeded_60 : decode cX0_quickNeeded 60 = .ok (.imul, 1) := by decide +kernel
theorem dX0_quickNeeded_61 : decode cX0_quickNeeded 61 = .ok (.aload_n 0, 1) := by decide +kernel
theorem dX0_quickNeeded_62 : decode cX0_quickNeeded 62 = .ok (.getfield 36, 3) := by decide +kernel
theorem dX0_quickNeeded_65 : decode cX0_quickNeeded 65 = .ok (.iload 6, 2) := by decide +kernel
theorem dX0_quickNeeded_67 : decode cX0_quickNeeded 67 = .ok (.iconst 3, 1) := by decide +kernel
theorem dX0_quickNeeded_68 : decode cX0_quickNeeded 68 = .ok (.imul, 1) := by decide +kernel
theorem dX0_quickNeeded_69 : decode cX0_quickNeeded 69 = .ok (.iload 7, 2) := by decide +kernel
theorem dX0_quickNeeded_71 : decode cX0_quickNeeded 71 = .ok (.iadd, 1) := by decide +kernel
theorem dX0_quickNeeded_72 : decode cX0_quickNeeded 72 = .ok (.iaload, 1) := by decide +kernel
theorem dX0_quickNeeded_73 : decode cX0_quickNeeded 73 = .ok (.iadd, 1) := by decide +kernel
theorem dX0_quickNeeded_74 : decode cX0_quickNeeded 74 = .ok (.istore 8, 2) := by decide +kernel
theorem dX0_quickNeeded_76 : decode cX0_quickNeeded 76 = .ok (.iload 5, 2) := by decide +kernel
theorem dX0_quickNeeded_78 : decode cX0_quickNeeded 78 = .ok (.aload_n 0, 1) := by decide +kernel
theorem dX0_quickNeeded_79 : decode cX0_quickNeeded 79 = .ok (.iload 8, 2) := by decide +kernel
theorem dX0_quickNeeded_81 : decode cX0_quickNeeded 81 = .ok (.iload_n 3, 1) := by decide +kernel
theorem dX0_quickNeeded_82 : decode cX0_quickNeeded 82 = .ok (.invokevirtual 105, 3) := by decide +kernel
theorem dX0_quickNeeded_85 : decode cX0_quickNeeded 85 = .ok (.aload_n 0, 1) := by decide +kernel
theorem dX0_quickNeeded_86 : decode cX0_quickNeeded 86 = .ok (.getfield 45, 3) := by decide +kernel
theorem dX0_quickNeeded_89 : decode cX0_quickNeeded 89 = .ok (.getfield 98, 3) := by decide +kernel
theorem dX0_quickNeeded_92 : decode cX0_quickNeeded 92 = .ok (.iconst 1, 1) := by decide +kernel
theorem dX0_quickNeeded_93 : decode cX0_quickNeeded 93 = .ok (.aaload, 1) := by decide +kernel
theorem dX0_quickNeeded_94 : decode cX0_quickNeeded 94 = .ok (.iload 8, 2) := by decide +kernel
theorem dX0_quickNeeded_96 : decode cX0_quickNeeded 96 = .ok (.iaload, 1) := by decide +kernel
theorem dX0_quickNeeded_97 : decode cX0_quickNeeded 97 = .ok (.imul, 1) := by decide +kernel
theorem dX0_quickNeeded_98 : decode cX0_quickNeeded 98 = .ok (.iadd, 1) := by decide +kernel
theorem dX0_quickNeeded_99 : decode cX0_quickNeeded 99 = .ok (.istore 5, 2) := by decide +kernel
theorem dX0_quickNeeded_101 : decode cX0_quickNeeded 101 = .ok (.iinc 7 1, 3) := by decide +kernel
theorem dX0_quickNeeded_104 : decode cX0_quickNeeded 104 = .ok (.goto (-59), 3) := by decide +kernel
theorem dX0_quickNeeded_107 : decode cX0_quickNeeded 107 = .ok (.iinc 6 1, 3) := by decide +kernel
theorem dX0_quickNeeded_110 : decode cX0_quickNeeded 110 = .ok (.goto (-74), 3) := by decide +kernel
theorem dX0_quickNeeded_113 : decode cX0_quickNeeded 113 = .ok (.iload 5, 2) := by decide +kernel
theorem dX0_quickNeeded_115 : decode cX0_quickNeeded 115 = .ok (.ireturn, 1) := by decide +kernel
theorem dX0_quickComes_0 : decode cX0_quickComes 0 = .ok (.aload_n 0, 1) := by decide +kernel
theorem dX0_quickComes_1 : decode cX0_quickComes 1 = .ok (.getfield 9, 3) := by decide +kernel
theorem dX0_quickComes_4 : decode cX0_quickComes 4 = .ok (.iload_n 1, 1) := by decide +kernel
theorem dX0_quickComes_5 : decode cX0_quickComes 5 = .ok (.iconst 3, 1) := by decide +kernel
theorem dX0_quickComes_6 : decode cX0_quickComes 6 = .ok (.idiv, 1) := by decide +kernel
theorem dX0_quickComes_7 : decode cX0_quickComes 7 = .ok (.iaload, 1) := by decide +kernel
theorem dX0_quickComes_8 : decode cX0_quickComes 8 = .ok (.istore_n 3, 1) := by decide +kernel
theorem dX0_quickComes_9 : decode cX0_quickComes 9 = .ok (.aload_n 0, 1) := by decide +kernel
theorem dX0_quickComes_10 : decode cX0_quickComes 10 = .ok (.getfield 15, 3) := by decide +kernel
theorem dX0_quickComes_13 : decode cX0_quickComes 13 = .ok (.iload_n 1, 1) := by decide +kernel
theorem dX0_quickComes_14 : decode cX0_quickComes 14 = .ok (.iaload, 1) := by decide +kernel
theorem dX0_quickComes_15 : decode cX0_quickComes 15 = .ok (.iload_n 2, 1) := by decide +kernel
theorem dX0_quickComes_16 : decode cX0_quickComes 16 = .ok (.iadd, 1) := by decide +kernel
theorem dX0_quickComes_17 : decode cX0_quickComes 17 = .ok (.iload_n 3, 1) := by decide +kernel
theorem dX0_quickComes_18 : decode cX0_quickComes 18 = .ok (.iadd, 1) := by decide +kernel
theorem dX0_quickComes_19 : decode cX0_quickComes 19 = .ok (.iconst 1, 1) := by decide +kernel
theorem dX0_quickComes_20 : decode cX0_quickComes 20 = .ok (.isub, 1) := by decide +kernel
theorem dX0_quickComes_21 : decode cX0_quickComes 21 = .ok (.iload_n 3, 1) := by decide +kernel
theorem dX0_quickComes_22 : decode cX0_quickComes 22 = .ok (.idiv, 1) := by decide +kernel
theorem dX0_quickComes_23 : decode cX0_quickComes 23 = .ok (.ireturn, 1) := by decide +kernel
theorem dX1_init_0 : decode cX1_init 0 = .ok (.aload_n 0, 1) := by decide +kernel
theorem dX1_init_1 : decode cX1_init 1 = .ok (.invokespecial 3, 3) := by decide +kernel
theorem dX1_init_4 : decode cX1_init 4 = .ok (.aload_n 0, 1) := by decide +kernel
theorem dX1_init_5 : decode cX1_init 5 = .ok (.iconst 2, 1) := by decide +kernel
theorem dX1_init_6 : decode cX1_init 6 = .ok (.newarray .int, 2) := by decide +kernel
theorem dX1_init_8 : decode cX1_init 8 = .ok (.putfield 9, 3) := by decide +kernel
theorem dX1_init_11 : decode cX1_init 11 = .ok (.aload_n 0, 1) := by decide +kernel
theorem dX1_init_12 : decode cX1_init 12 = .ok (.iconst 2, 1) := by decide +kernel
theorem dX1_init_13 : decode cX1_init 13 = .ok (.sipush 300, 3) := by decide +kernel
theorem dX1_init_16 : decode cX1_init 16 = .ok (.multianewarray 15 2, 4) := by decide +kernel
theorem dX1_init_20 : decode cX1_init 20 = .ok (.putfield 17, 3) := by decide +kernel
theorem dX1_init_23 : decode cX1_init 23 = .ok (.aload_n 0, 1) := by decide +kernel
theorem dX1_init_24 : decode cX1_init 24 = .ok (.bipush 9, 2) := by decide +kernel
theorem dX1_init_26 : decode cX1_init 26 = .ok (.newarray .int, 2) := by decide +kernel
theorem dX1_init_28 : decode cX1_init 28 = .ok (.putfield 20, 3) := by decide +kernel
theorem dX1_init_31 : decode cX1_init 31 = .ok (.aload_n 0, 1) := by decide +kernel
theorem dX1_init_32 : decode cX1_init 32 = .ok (.bipush 9, 2) := by decide +kernel
theorem dX1_init_34 : decode cX1_init 34 = .ok (.newarray .int, 2) := by decide +kernel
theorem dX1_init_36 : decode cX1_init 36 = .ok (.putfield 23, 3) := by decide +kernel
theorem dX1_init_39 : decode cX1_init 39 = .ok (.aload_n 0, 1) := by decide +kernel
theorem dX1_init_40 : decode cX1_init 40 = .ok (.bipush 9, 2) := by decide +kernel
theorem dX1_init_42 : decode cX1_init 42 = .ok (.newarray .int, 2) := by decide +kernel
theorem dX1_init_44 : decode cX1_init 44 = .ok (.putfield 26, 3) := by decide +kernel
theorem dX1_init_47 : decode cX1_init 47 = .ok (.aload_n 0, 1) := by decide +kernel
theorem dX1_init_48 : decode cX1_init 48 = .ok (.bipush 9, 2) := by decide +kernel
theorem dX1_init_50 : decode cX1_init 50 = .ok (.newarray .int, 2) := by decide +kernel
theorem dX1_init_52 : decode cX1_init 52 = .ok (.putfield 29, 3) := by decide +kernel
theorem dX1_init_55 : decode cX1_init 55 = .ok (.aload_n 0, 1) := by decide +kernel
theorem dX1_init_56 : decode cX1_init 56 = .ok (.bipush 9, 2) := by decide +kernel
theorem dX1_init_58 : decode cX1_init 58 = .ok (.bipush 60, 2) := by decide +kernel
theorem dX1_init_60 : decode cX1_init 60 = .ok (.multianewarray 15 2, 4) := by decide +kernel
theorem dX1_init_64 : decode cX1_init 64 = .ok (.putfield 32, 3) := by decide +kernel
theorem dX1_init_67 : decode cX1_init 67 = .ok (.aload_n 0, 1) := by decide +kernel
theorem dX1_init_68 : decode cX1_init 68 = .ok (.iconst 3, 1) := by decide +kernel
theorem dX1_init_69 : decode cX1_init 69 = .ok (.newarray .int, 2) := by decide +kernel
theorem dX1_init_71 : decode cX1_init 71 = .ok (.putfield 35, 3) := by decide +kernel
theorem dX1_init_74 : decode cX1_init 74 = .ok (.aload_n 0, 1) := by decide +kernel
theorem dX1_init_75 : decode cX1_init 75 = .ok (.invokevirtual 38, 3) := by decide +kernel
theorem dX1_init_78 : decode cX1_init 78 = .ok (.return_, 1) := by decide +kernel
theorem dX1_clear_0 : decode cX1_clear 0 = .ok (.aload_n 0, 1) := by decide +kernel
theorem dX1_clear_1 : decode cX1_clear 1 = .ok (.iconst 0, 1) := by decide +kernel
theorem dX1_clear_2 : decode cX1_clear 2 = .ok (.putfield 41, 3) := by decide +kernel
theorem dX1_clear_5 : decode cX1_clear 5 = .ok (.aload_n 0, 1) := by decide +kernel
theorem dX1_clear_6 : decode cX1_clear 6 = .ok (.iconst 0, 1) := by decide +kernel
theorem dX1_clear_7 : decode cX1_clear 7 = .ok (.putfield 45, 3) := by decide +kernel
theorem dX1_clear_10 : decode cX1_clear 10 = .ok (.aload_n 0, 1) := by decide +kernel
theorem dX1_clear_11 : decode cX1_clear 11 = .ok (.getfield 9, 3) := by decide +kernel
theorem dX1_clear_14 : decode cX1_clear 14 = .ok (.iconst 0, 1) := by decide +kernel
theorem dX1_clear_15 : decode cX1_clear 15 = .ok (.invokestatic 48, 3) := by decide +kernel
theorem dX1_clear_18 : decode cX1_clear 18 = .ok (.iconst 0, 1) := by decide +kernel
theorem dX1_clear_19 : decode cX1_clear 19 = .ok (.istore_n 1, 1) := by decide +kernel
theorem dX1_clear_20 : decode cX1_clear 20 = .ok (.iload_n 1, 1) := by decide +kernel
theorem dX1_clear_21 : decode cX1_clear 21 = .ok (.iconst 2, 1) := by decide +kernel
theorem dX1_clear_22 : decode cX1_clear 22 = .ok (.if_icmp .ge 19, 3) := by decide +kernel
theorem dX1_clear_25 : decode cX1_clear 25 = .ok (.aload_n 0, 1) := by decide +kernel
theorem dX1_clear_26 : decode cX1_clear 26 = .ok (.getfield 17, 3) := by decide +kernel
theorem dX1_clear_29 : decode cX1_clear 29 = .ok (.iload_n 1, 1) := by decide +kernel
theorem dX1_clear_30 : decode cX1_clear 30 = .ok (.aaload, 1) := by decide +kernel
theorem dX1_clear_31 : decode cX1_clear 31 = .ok (.iconst (-1), 1) := by decide +kernel
theorem dX1_clear_32 : decode cX1_clear 32 = .ok (.invokestatic 48, 3) := by decide +kernel
theorem dX1_clear_35 : decode cX1_clear 35 = .ok (.iinc 1 1, 3) := by decide +kernel
theorem dX1_clear_38 : decode cX1_clear 38 = .ok (.goto (-18), 3) := by decide +kernel
theorem dX1_clear_41 : decode cX1_clear 41 = .ok (.aload_n 0, 1) := by decide +kernel
theorem dX1_clear_42 : decode cX1_clear 42 = .ok (.getfield 20, 3) := by decide +kernel
theorem dX1_clear_45 : decode cX1_clear 45 = .ok (.iconst (-1), 1) := by decide +kernel
theorem dX1_clear_46 : decode cX1_clear 46 = .ok (.invokestatic 48, 3) := by decide +kernel
theorem dX1_clear_49 : decode cX1_clear 49 = .ok (.aload_n 0, 1) := by decide +kernel
theorem dX1_clear_50 : decode cX1_clear 50 = .ok (.getfield 23, 3) := by decide +kernel
theorem dX1_clear_53 : decode cX1_clear 53 = .ok (.iconst (-1), 1) := by decide +kernel
theorem dX1_clear_54 : decode cX1_clear 54 = .ok (.invokestatic 48, 3) := by decide +kernel
theorem dX1_clear_57 : decode cX1_clear 57 = .ok (.aload_n 0, 1) := by decide +kernel
theorem dX1_clear_58 : decode cX1_clear 58 = .ok (.getfield 26, 3) := by decide +kernel
theorem dX1_clear_61 : decode cX1_clear 61 = .ok (.iconst 0, 1) := by decide +kernel
theorem dX1_clear_62 : decode cX1_clear 62 = .ok (.invokestatic 48, 3) := by decide +kernel
theorem dX1_clear_65 : decode cX1_clear 65 = .ok (.aload_n 0, 1) := by decide +kernel
theorem dX1_clear_66 : decode cX1_clear 66 = .ok (.getfield 29, 3) := by decide +kernel
theorem dX1_clear_69 : decode cX1_clear 69 = .ok (.iconst 0, 1) := by decide +kernel
theorem dX1_clear_70 : decode cX1_clear 70 = .ok (.invokestatic 48, 3) := by decide +kernel
theorem dX1_clear_73 : decode cX1_clear 73 = .ok (.return_, 1) := by decide +kernel
theorem dX1_seenOf_0 : decode cX1_seenOf 0 = .ok (.iload_n 2, 1) := by decide +kernel
theorem dX1_seenOf_1 : decode cX1_seenOf 1 = .ok (.ifCond .ne 12, 3) := by decide +kernel
theorem dX1_seenOf_4 : decode cX1_seenOf 4 = .ok (.aload_n 0, 1) := by decide +kernel
theorem dX1_seenOf_5 : decode cX1_seenOf 5 = .ok (.getfield 20, 3) := by decide +kernel
theorem dX1_seenOf_8 : decode cX1_seenOf 8 = .ok (.iload_n 1, 1) := by decide +kernel
theorem dX1_seenOf_9 : decode cX1_seenOf 9 = .ok (.iaload, 1) := by decide +kernel
theorem dX1_seenOf_10 : decode cX1_seenOf 10 = .ok (.goto 23, 3) := by decide +kernel
theorem dX1_seenOf_13 : decode cX1_seenOf 13 = .ok (.iload_n 2, 1) := by decide +kernel
theorem dX1_seenOf_14 : decode cX1_seenOf 14 = .ok (.iconst 1, 1) := by decide +kernel
theorem dX1_seenOf_15 : decode cX1_seenOf 15 = .ok (.if_icmp .ne 12, 3) := by decide +kernel
theorem dX1_seenOf_18 : decode cX1_seenOf 18 = .ok (.aload_n 0, 1) := by decide +kernel
theorem dX1_seenOf_19 : decode cX1_seenOf 19 = .ok (.getfield 23, 3) := by decide +kernel
theorem dX1_seenOf_22 : decode cX1_seenOf 22 = .ok (.iload_n 1, 1) := by decide +kernel
theorem dX1_seenOf_23 : decode cX1_seenOf 23 = .ok (.iaload, 1) := by decide +kernel
theorem dX1_seenOf_24 : decode cX1_seenOf 24 = .ok (.goto 9, 3) := by decide +kernel
theorem dX1_seenOf_27 : decode cX1_seenOf 27 = .ok (.aload_n 0, 1) := by decide +kernel
theorem dX1_seenOf_28 : decode cX1_seenOf 28 = .ok (.getfield 26, 3) := by decide +kernel
theorem dX1_seenOf_31 : decode cX1_seenOf 31 = .ok (.iload_n 1, 1) := by decide +kernel
theorem dX1_seenOf_32 : decode cX1_seenOf 32 = .ok (.iaload, 1) := by decide +kernel
theorem dX1_seenOf_33 : decode cX1_seenOf 33 = .ok (.ireturn, 1) := by decide +kernel
theorem dX1_go_0 : decode cX1_go 0 = .ok (.aload_n 0, 1) := by decide +kernel
theorem dX1_go_1 : decode cX1_go 1 = .ok (.invokevirtual 38, 3) := by decide +kernel
theorem dX1_go_4 : decode cX1_go 4 = .ok (.aload_n 0, 1) := by decide +kernel
theorem dX1_go_5 : decode cX1_go 5 = .ok (.iload_n 2, 1) := by decide +kernel
theorem dX1_go_6 : decode cX1_go 6 = .ok (.putfield 41, 3) := by decide +kernel
theorem dX1_go_9 : decode cX1_go 9 = .ok (.iconst 0, 1) := by decide +kernel
theorem dX1_go_10 : decode cX1_go 10 = .ok (.istore_n 3, 1) := by decide +kernel
theorem dX1_go_11 : decode cX1_go 11 = .ok (.iload_n 3, 1) := by decide +kernel
theorem dX1_go_12 : decode cX1_go 12 = .ok (.iconst 3, 1) := by decide +kernel
theorem dX1_go_13 : decode cX1_go 13 = .ok (.if_icmp .ge 21, 3) := by decide +kernel
theorem dX1_go_16 : decode cX1_go 16 = .ok (.aload_n 0, 1) := by decide +kernel
theorem dX1_go_17 : decode cX1_go 17 = .ok (.getfield 35, 3) := by decide +kernel
theorem dX1_go_20 : decode cX1_go 20 = .ok (.iload_n 3, 1) := by decide +kernel
theorem dX1_go_21 : decode cX1_go 21 = .ok (.aload_n 1, 1) := by decide +kernel
theorem dX1_go_22 : decode cX1_go 22 = .ok (.iload_n 3, 1) := by decide +kernel
theorem dX1_go_23 : decode cX1_go 23 = .ok (.iconst 0, 1) := by decide +kernel
theorem dX1_go_24 : decode cX1_go 24 = .ok (.invokestatic 54, 3) := by decide +kernel
theorem dX1_go_27 : decode cX1_go 27 = .ok (.iastore, 1) := by decide +kernel
theorem dX1_go_28 : decode cX1_go 28 = .ok (.iinc 3 1, 3) := by decide +kernel
theorem dX1_go_31 : decode cX1_go 31 = .ok (.goto (-20), 3) := by decide +kernel
theorem dX1_go_34 : decode cX1_go 34 = .ok (.iconst 0, 1) := by decide +kernel
theorem dX1_go_35 : decode cX1_go 35 = .ok (.istore_n 3, 1) := by decide +kernel
theorem dX1_go_36 : decode cX1_go 36 = .ok (.iload_n 3, 1) := by decide +kernel
theorem dX1_go_37 : decode cX1_go 37 = .ok (.iload_n 2, 1) := by decide +kernel
theorem dX1_go_38 : decode cX1_go 38 = .ok (.if_icmp .ge 73, 3) := by decide +kernel
theorem dX1_go_41 : decode cX1_go 41 = .ok (.iconst 0, 1) := by decide +kernel
theorem dX1_go_42 : decode cX1_go 42 = .ok (.istore 4, 2) := by decide +kernel
theorem dX1_go_44 : decode cX1_go 44 = .ok (.iload 4, 2) := by decide +kernel
theorem dX1_go_46 : decode cX1_go 46 = .ok (.iconst 2, 1) := by decide +kernel
theorem dX1_go_47 : decode cX1_go 47 = .ok (.if_icmp .ge 58, 3) := by decide +kernel
theorem dX1_go_50 : decode cX1_go 50 = .ok (.aload_n 0, 1) := by decide +kernel
theorem dX1_go_51 : decode cX1_go 51 = .ok (.aload_n 1, 1) := by decide +kernel
theorem dX1_go_52 : decode cX1_go 52 = .ok (.iload 4, 2) := by decide +kernel
theorem dX1_go_54 : decode cX1_go 54 = .ok (.iload_n 3, 1) := by decide +kernel
theorem dX1_go_55 : decode cX1_go 55 = .ok (.invokevirtual 58, 3) := by decide +kernel
theorem dX1_go_58 : decode cX1_go 58 = .ok (.istore 5, 2) := by decide +kernel
theorem dX1_go_60 : decode cX1_go 60 = .ok (.aload_n 0, 1) := by decide +kernel
theorem dX1_go_61 : decode cX1_go 61 = .ok (.getfield 17, 3) := by decide +kernel
theorem dX1_go_64 : decode cX1_go 64 = .ok (.iload 4, 2) := by decide +kernel
theorem dX1_go_66 : decode cX1_go 66 = .ok (.aaload, 1) := by decide +kernel
theorem dX1_go_67 : decode cX1_go 67 = .ok (.iload_n 3, 1) := by decide +kernel
theorem dX1_go_68 : decode cX1_go 68 = .ok (.iload 5, 2) := by decide +kernel
theorem dX1_go_70 : decode cX1_go 70 = .ok (.iastore, 1) := by decide +kernel
theorem dX1_go_71 : decode cX1_go 71 = .ok (.iload 5, 2) := by decide +kernel
theorem dX1_go_73 : decode cX1_go 73 = .ok (.iconst (-1), 1) := by decide +kernel
theorem dX1_go_74 : decode cX1_go 74 = .ok (.if_icmp .ne 17, 3) := by decide +kernel
theorem dX1_go_77 : decode cX1_go 77 = .ok (.aload_n 0, 1) := by decide +kernel
theorem dX1_go_78 : decode cX1_go 78 = .ok (.getfield 9, 3) := by decide +kernel
theorem dX1_go_81 : decode cX1_go 81 = .ok (.iload 4, 2) := by decide +kernel
theorem dX1_go_83 : decode cX1_go 83 = .ok (.dup2, 1) := by decide +kernel
theorem dX1_go_84 : decode cX1_go 84 = .ok (.iaload, 1) := by decide +kernel
theorem dX1_go_85 : decode cX1_go 85 = .ok (.iconst 1, 1) := by decide +kernel
theorem dX1_go_86 : decode cX1_go 86 = .ok (.iadd, 1) := by decide +kernel
theorem dX1_go_87 : decode cX1_go 87 = .ok (.iastore, 1) := by decide +kernel
theorem dX1_go_88 : decode cX1_go 88 = .ok (.goto 11, 3) := by decide +kernel
theorem dX1_go_91 : decode cX1_go 91 = .ok (.aload_n 0, 1) := by decide +kernel
theorem dX1_go_92 : decode cX1_go 92 = .ok (.aload_n 1, 1) := by decide +kernel
theorem dX1_go_93 : decode cX1_go 93 = .ok (.iload 5, 2) := by decide +kernel
theorem dX1_go_95 : decode cX1_go 95 = .ok (.iload_n 3, 1) := by decide +kernel
theorem dX1_go_96 : decode cX1_go 96 = .ok (.invokevirtual 61, 3) := by decide +kernel
theorem dX1_go_99 : decode cX1_go 99 = .ok (.iinc 4 1, 3) := by decide +kernel
theorem dX1_go_102 : decode cX1_go 102 = .ok (.goto (-58), 3) := by decide +kernel
theorem dX1_go_105 : decode cX1_go 105 = .ok (.iinc 3 1, 3) := by decide +kernel
theorem dX1_go_108 : decode cX1_go 108 = .ok (.goto (-72), 3) := by decide +kernel
theorem dX1_go_111 : decode cX1_go 111 = .ok (.return_, 1) := by decide +kernel
theorem dX1_firstReady_0 : decode cX1_firstReady 0 = .ok (.iconst 1, 1) := by decide +kernel
theorem dX1_firstReady_1 : decode cX1_firstReady 1 = .ok (.aload_n 0, 1) := by decide +kernel
theorem dX1_firstReady_2 : decode cX1_firstReady 2 = .ok (.getfield 65, 3) := by decide +kernel
theorem dX1_firstReady_5 : decode cX1_firstReady 5 = .ok (.iconst 1, 1) := by decide +kernel
theorem dX1_firstReady_6 : decode cX1_firstReady 6 = .ok (.aaload, 1) := by decide +kernel
theorem dX1_firstReady_7 : decode cX1_firstReady 7 = .ok (.iload_n 1, 1) := by decide +kernel
theorem dX1_firstReady_8 : decode cX1_firstReady 8 = .ok (.iaload, 1) := by decide +kernel
theorem dX1_firstReady_9 : decode cX1_firstReady 9 = .ok (.iconst 1, 1) := by decide +kernel
theorem dX1_firstReady_10 : decode cX1_firstReady 10 = .ok (.iadd, 1) := by decide +kernel
theorem dX1_firstReady_11 : decode cX1_firstReady 11 = .ok (.invokestatic 70, 3) := by decide +kernel
theorem dX1_firstReady_14 : decode cX1_firstReady 14 = .ok (.istore_n 3, 1) := by decide +kernel
theorem dX1_firstReady_15 : decode cX1_firstReady 15 = .ok (.aload_n 0, 1) := by decide +kernel
theorem dX1_firstReady_16 : decode cX1_firstReady 16 = .ok (.iload_n 1, 1) := by decide +kernel
theorem dX1_firstReady_17 : decode cX1_firstReady 17 = .ok (.iload_n 2, 1) := by decide +kernel
theorem dX1_firstReady_18 : decode cX1_firstReady 18 = .ok (.invokestatic 76, 3) := by decide +kernel
theorem dX1_firstReady_21 : decode cX1_firstReady 21 = .ok (.aload_n 0, 1) := by decide +kernel
theorem dX1_firstReady_22 : decode cX1_firstReady 22 = .ok (.getfield 79, 3) := by decide +kernel
theorem dX1_firstReady_25 : decode cX1_firstReady 25 = .ok (.iconst 3, 1) := by decide +kernel
theorem dX1_firstReady_26 : decode cX1_firstReady 26 = .ok (.aaload, 1) := by decide +kernel
theorem dX1_firstReady_27 : decode cX1_firstReady 27 = .ok (.iload_n 1, 1) := by decide +kernel
theorem dX1_firstReady_28 : decode cX1_firstReady 28 = .ok (.iconst 3, 1) := by decide +kernel
theorem dX1_firstReady_29 : decode cX1_firstReady 29 = .ok (.imul, 1) := by decide +kernel
theorem dX1_firstReady_30 : decode cX1_firstReady 30 = .ok (.iaload, 1) := by decide +kernel
theorem dX1_firstReady_31 : decode cX1_firstReady 31 = .ok (.iadd, 1) := by decide +kernel
theorem dX1_firstReady_32 : decode cX1_firstReady 32 = .ok (.iload_n 2, 1) := by decide +kernel
theorem dX1_firstReady_33 : decode cX1_firstReady 33 = .ok (.aload_n 0, 1) := by decide +kernel
theorem dX1_firstReady_34 : decode cX1_firstReady 34 = .ok (.getfield 65, 3) := by decide +kernel
theorem dX1_firstReady_37 : decode cX1_firstReady 37 = .ok (.iconst 4, 1) := by decide +kernel
theorem dX1_firstReady_38 : decode cX1_firstReady 38 = .ok (.aaload, 1) := by decide +kernel
theorem dX1_firstReady_39 : decode cX1_firstReady 39 = .ok (.iload_n 1, 1) := by decide +kernel
theorem dX1_firstReady_40 : decode cX1_firstReady 40 = .ok (.iaload, 1) := by decide +kernel
theorem dX1_firstReady_41 : decode cX1_firstReady 41 = .ok (.imul, 1) := by decide +kernel
theorem dX1_firstReady_42 : decode cX1_firstReady 42 = .ok (.iload_n 3, 1) := by decide +kernel
theorem dX1_firstReady_43 : decode cX1_firstReady 43 = .ok (.irem, 1) := by decide +kernel
theorem dX1_firstReady_44 : decode cX1_firstReady 44 = .ok (.iadd, 1) := by decide +kernel
theorem dX1_firstReady_45 : decode cX1_firstReady 45 = .ok (.ireturn, 1) := by decide +kernel
theorem dX1_released_0 : decode cX1_released 0 = .ok (.aload_n 0, 1) := by decide +kernel
theorem dX1_released_1 : decode cX1_released 1 = .ok (.getfield 65, 3) := by decide +kernel
theorem dX1_released_4 : decode cX1_released 4 = .ok (.iconst 3, 1) := by decide +kernel
theorem dX1_released_5 : decode cX1_released 5 = .ok (.aaload, 1) := by decide +kernel
theorem dX1_released_6 : decode cX1_released 6 = .ok (.iload_n 1, 1) := by decide +kernel
theorem dX1_released_7 : decode cX1_released 7 = .ok (.iaload, 1) := by decide +kernel
theorem dX1_released_8 : decode cX1_released 8 = .ok (.iload_n 2, 1) := by decide +kernel
theorem dX1_released_9 : decode cX1_released 9 = .ok (.aload_n 0, 1) := by decide +kernel
theorem dX1_released_10 : decode cX1_released 10 = .ok (.getfield 65, 3) := by decide +kernel
theorem dX1_released_13 : decode cX1_released 13 = .ok (.iconst 0, 1) := by decide +kernel
theorem dX1_released_14 : decode cX1_released 14 = .ok (.aaload, 1) := by decide +kernel
theorem dX1_released_15 : decode cX1_released 15 = .ok (.iload_n 1, 1) := by decide +kernel
theorem dX1_released_16 : decode cX1_released 16 = .ok (.iaload, 1) := by decide +kernel
theorem dX1_released_17 : decode cX1_released 17 = .ok (.imul, 1) := by decide +kernel
theorem dX1_released_18 : decode cX1_released 18 = .ok (.iadd, 1) := by decide +kernel
theorem dX1_released_19 : decode cX1_released 19 = .ok (.ireturn, 1) := by decide +kernel
theorem dX1_mostUrgent_0 : decode cX1_mostUrgent 0 = .ok (.iconst (-1), 1) := by decide +kernel
theorem dX1_mostUrgent_1 : decode cX1_mostUrgent 1 = .ok (.istore 4, 2) := by decide +kernel
theorem dX1_mostUrgent_3 : decode cX1_mostUrgent 3 = .ok (.iconst 0, 1) := by decide +kernel
theorem dX1_mostUrgent_4 : decode cX1_mostUrgent 4 = .ok (.istore 5, 2) := by decide +kernel
theorem dX1_mostUrgent_6 : decode cX1_mostUrgent 6 = .ok (.iload 5, 2) := by decide +kernel
theorem dX1_mostUrgent_8 : decode cX1_mostUrgent 8 = .ok (.bipush 9, 2) := by decide +kernel
theorem dX1_mostUrgent_10 : decode cX1_mostUrgent 10 = .ok (.if_icmp .ge 73, 3) := by decide +kernel
theorem dX1_mostUrgent_13 : decode cX1_mostUrgent 13 = .ok (.aload_n 1, 1) := by decide +kernel
theorem dX1_mostUrgent_14 : decode cX1_mostUrgent 14 = .ok (.iload 5, 2) := by decide +kernel
theorem dX1_mostUrgent_16 : decode cX1_mostUrgent 16 = .ok (.invokevirtual 82, 3) := by decide +kernel
theorem dX1_mostUrgent_19 : decode cX1_mostUrgent 19 = .ok (.ifCond .eq 58, 3) := by decide +kernel
theorem dX1_mostUrgent_22 : decode cX1_mostUrgent 22 = .ok (.aload_n 1, 1) := by decide +kernel
theorem dX1_mostUrgent_23 : decode cX1_mostUrgent 23 = .ok (.getfield 79, 3) := by decide +kernel
theorem dX1_mostUrgent_26 : decode cX1_mostUrgent 26 = .ok (.iconst 0, 1) := by decide +kernel
theorem dX1_mostUrgent_27 : decode cX1_mostUrgent 27 = .ok (.aaload, 1) := by decide +kernel
theorem dX1_mostUrgent_28 : decode cX1_mostUrgent 28 = .ok (.iload 5, 2) := by decide +kernel
theorem dX1_mostUrgent_30 : decode cX1_mostUrgent 30 = .ok (.iaload, 1) := by decide +kernel
theorem dX1_mostUrgent_31 : decode cX1_mostUrgent 31 = .ok (.iload_n 2, 1) := by decide +kernel
theorem dX1_mostUrgent_32 : decode cX1_mostUrgent 32 = .ok (.if_icmp .ne 45, 3) := by decide +kernel
theorem dX1_mostUrgent_35 : decode cX1_mostUrgent 35 = .ok (.aload_n 0, 1) := by decide +kernel
theorem dX1_mostUrgent_36 : decode cX1_mostUrgent 36 = .ok (.aload_n 1, 1) := by decide +kernel
theorem dX1_mostUrgent_37 : decode cX1_mostUrgent 37 = .ok (.iload 5, 2) := by decide +kernel
theorem dX1_mostUrgent_39 : decode cX1_mostUrgent 39 = .ok (.iload_n 3, 1) := by decide +kernel
theorem dX1_mostUrgent_40 : decode cX1_mostUrgent 40 = .ok (.invokevirtual 86, 3) := by decide +kernel
