theorem dX0_init_0 : decode cX0_init 0 = .ok (.aload_n 0, 1) := by decide +kernel
theorem dX0_init_1 : decode cX0_init 1 = .ok (.invokespecial 3, 3) := by decide +kernel
theorem dX0_init_4 : decode cX0_init 4 = .ok (.aload_n 0, 1) := by decide +kernel
theorem dX0_init_5 : decode cX0_init 5 = .ok (.bipush 40, 2) := by decide +kernel
theorem dX0_init_7 : decode cX0_init 7 = .ok (.bipush 6, 2) := by decide +kernel
theorem dX0_init_9 : decode cX0_init 9 = .ok (.multianewarray 9 2, 4) := by decide +kernel
theorem dX0_init_13 : decode cX0_init 13 = .ok (.putfield 11, 3) := by decide +kernel
theorem dX0_init_16 : decode cX0_init 16 = .ok (.aload_n 0, 1) := by decide +kernel
theorem dX0_init_17 : decode cX0_init 17 = .ok (.bipush 40, 2) := by decide +kernel
theorem dX0_init_19 : decode cX0_init 19 = .ok (.bipush 8, 2) := by decide +kernel
theorem dX0_init_21 : decode cX0_init 21 = .ok (.multianewarray 9 2, 4) := by decide +kernel
theorem dX0_init_25 : decode cX0_init 25 = .ok (.putfield 16, 3) := by decide +kernel
theorem dX0_init_28 : decode cX0_init 28 = .ok (.aload_n 0, 1) := by decide +kernel
theorem dX0_init_29 : decode cX0_init 29 = .ok (.bipush 40, 2) := by decide +kernel
theorem dX0_init_31 : decode cX0_init 31 = .ok (.newarray .int, 2) := by decide +kernel
theorem dX0_init_33 : decode cX0_init 33 = .ok (.putfield 19, 3) := by decide +kernel
theorem dX0_init_36 : decode cX0_init 36 = .ok (.aload_n 0, 1) := by decide +kernel
theorem dX0_init_37 : decode cX0_init 37 = .ok (.bipush 40, 2) := by decide +kernel
theorem dX0_init_39 : decode cX0_init 39 = .ok (.newarray .int, 2) := by decide +kernel
theorem dX0_init_41 : decode cX0_init 41 = .ok (.putfield 23, 3) := by decide +kernel
theorem dX0_init_44 : decode cX0_init 44 = .ok (.aload_n 0, 1) := by decide +kernel
theorem dX0_init_45 : decode cX0_init 45 = .ok (.bipush 40, 2) := by decide +kernel
theorem dX0_init_47 : decode cX0_init 47 = .ok (.newarray .int, 2) := by decide +kernel
theorem dX0_init_49 : decode cX0_init 49 = .ok (.putfield 26, 3) := by decide +kernel
theorem dX0_init_52 : decode cX0_init 52 = .ok (.aload_n 0, 1) := by decide +kernel
theorem dX0_init_53 : decode cX0_init 53 = .ok (.bipush 40, 2) := by decide +kernel
theorem dX0_init_55 : decode cX0_init 55 = .ok (.newarray .int, 2) := by decide +kernel
theorem dX0_init_57 : decode cX0_init 57 = .ok (.putfield 29, 3) := by decide +kernel
theorem dX0_init_60 : decode cX0_init 60 = .ok (.aload_n 0, 1) := by decide +kernel
theorem dX0_init_61 : decode cX0_init 61 = .ok (.bipush 6, 2) := by decide +kernel
theorem dX0_init_63 : decode cX0_init 63 = .ok (.newarray .int, 2) := by decide +kernel
theorem dX0_init_65 : decode cX0_init 65 = .ok (.putfield 32, 3) := by decide +kernel
theorem dX0_init_68 : decode cX0_init 68 = .ok (.aload_n 0, 1) := by decide +kernel
theorem dX0_init_69 : decode cX0_init 69 = .ok (.aload_n 1, 1) := by decide +kernel
theorem dX0_init_70 : decode cX0_init 70 = .ok (.putfield 35, 3) := by decide +kernel
theorem dX0_init_73 : decode cX0_init 73 = .ok (.return_, 1) := by decide +kernel
theorem dX0_build_0 : decode cX0_build 0 = .ok (.aload_n 0, 1) := by decide +kernel
theorem dX0_build_1 : decode cX0_build 1 = .ok (.getfield 32, 3) := by decide +kernel
theorem dX0_build_4 : decode cX0_build 4 = .ok (.aload_n 0, 1) := by decide +kernel
theorem dX0_build_5 : decode cX0_build 5 = .ok (.getfield 35, 3) := by decide +kernel
theorem dX0_build_8 : decode cX0_build 8 = .ok (.getfield 39, 3) := by decide +kernel
theorem dX0_build_11 : decode cX0_build 11 = .ok (.invokestatic 44, 3) := by decide +kernel
theorem dX0_build_14 : decode cX0_build 14 = .ok (.aload_n 0, 1) := by decide +kernel
theorem dX0_build_15 : decode cX0_build 15 = .ok (.iconst 0, 1) := by decide +kernel
theorem dX0_build_16 : decode cX0_build 16 = .ok (.putfield 48, 3) := by decide +kernel
theorem dX0_build_19 : decode cX0_build 19 = .ok (.aload_n 0, 1) := by decide +kernel
theorem dX0_build_20 : decode cX0_build 20 = .ok (.bipush (-2), 2) := by decide +kernel
theorem dX0_build_22 : decode cX0_build 22 = .ok (.bipush (-2), 2) := by decide +kernel
theorem dX0_build_24 : decode cX0_build 24 = .ok (.iconst 0, 1) := by decide +kernel
theorem dX0_build_25 : decode cX0_build 25 = .ok (.invokevirtual 52, 3) := by decide +kernel
theorem dX0_build_28 : decode cX0_build 28 = .ok (.pop, 1) := by decide +kernel
theorem dX0_build_29 : decode cX0_build 29 = .ok (.iconst 0, 1) := by decide +kernel
theorem dX0_build_30 : decode cX0_build 30 = .ok (.istore_n 1, 1) := by decide +kernel
theorem dX0_build_31 : decode cX0_build 31 = .ok (.iload_n 1, 1) := by decide +kernel
theorem dX0_build_32 : decode cX0_build 32 = .ok (.bipush 40, 2) := by decide +kernel
theorem dX0_build_34 : decode cX0_build 34 = .ok (.if_icmp .ge 32, 3) := by decide +kernel
theorem dX0_build_37 : decode cX0_build 37 = .ok (.iload_n 1, 1) := by decide +kernel
theorem dX0_build_38 : decode cX0_build 38 = .ok (.aload_n 0, 1) := by decide +kernel
theorem dX0_build_39 : decode cX0_build 39 = .ok (.getfield 48, 3) := by decide +kernel
theorem dX0_build_42 : decode cX0_build 42 = .ok (.if_icmp .ge 24, 3) := by decide +kernel
theorem dX0_build_45 : decode cX0_build 45 = .ok (.aload_n 0, 1) := by decide +kernel
theorem dX0_build_46 : decode cX0_build 46 = .ok (.iload_n 1, 1) := by decide +kernel
theorem dX0_build_47 : decode cX0_build 47 = .ok (.invokevirtual 56, 3) := by decide +kernel
theorem dX0_build_50 : decode cX0_build 50 = .ok (.ifCond .ne 10, 3) := by decide +kernel
theorem dX0_build_53 : decode cX0_build 53 = .ok (.aload_n 0, 1) := by decide +kernel
theorem dX0_build_54 : decode cX0_build 54 = .ok (.iconst 0, 1) := by decide +kernel
theorem dX0_build_55 : decode cX0_build 55 = .ok (.putfield 48, 3) := by decide +kernel
theorem dX0_build_58 : decode cX0_build 58 = .ok (.iconst 0, 1) := by decide +kernel
theorem dX0_build_59 : decode cX0_build 59 = .ok (.ireturn, 1) := by decide +kernel
theorem dX0_build_60 : decode cX0_build 60 = .ok (.iinc 1 1, 3) := by decide +kernel
theorem dX0_build_63 : decode cX0_build 63 = .ok (.goto (-32), 3) := by decide +kernel
theorem dX0_build_66 : decode cX0_build 66 = .ok (.aload_n 0, 1) := by decide +kernel
theorem dX0_build_67 : decode cX0_build 67 = .ok (.invokevirtual 60, 3) := by decide +kernel
theorem dX0_build_70 : decode cX0_build 70 = .ok (.iconst 1, 1) := by decide +kernel
theorem dX0_build_71 : decode cX0_build 71 = .ok (.ireturn, 1) := by decide +kernel
theorem dX0_follow_0 : decode cX0_follow 0 = .ok (.iconst 0, 1) := by decide +kernel
theorem dX0_follow_1 : decode cX0_follow 1 = .ok (.istore_n 2, 1) := by decide +kernel
theorem dX0_follow_2 : decode cX0_follow 2 = .ok (.iload_n 2, 1) := by decide +kernel
theorem dX0_follow_3 : decode cX0_follow 3 = .ok (.aload_n 0, 1) := by decide +kernel
theorem dX0_follow_4 : decode cX0_follow 4 = .ok (.getfield 35, 3) := by decide +kernel
theorem dX0_follow_7 : decode cX0_follow 7 = .ok (.getfield 63, 3) := by decide +kernel
theorem dX0_follow_10 : decode cX0_follow 10 = .ok (.if_icmp .ge 104, 3) := by decide +kernel
theorem dX0_follow_13 : decode cX0_follow 13 = .ok (.aload_n 0, 1) := by decide +kernel
theorem dX0_follow_14 : decode cX0_follow 14 = .ok (.getfield 16, 3) := by decide +kernel
theorem dX0_follow_17 : decode cX0_follow 17 = .ok (.iload_n 1, 1) := by decide +kernel
theorem dX0_follow_18 : decode cX0_follow 18 = .ok (.aaload, 1) := by decide +kernel
theorem dX0_follow_19 : decode cX0_follow 19 = .ok (.iload_n 2, 1) := by decide +kernel
theorem dX0_follow_20 : decode cX0_follow 20 = .ok (.bipush (-2), 2) := by decide +kernel
theorem dX0_follow_22 : decode cX0_follow 22 = .ok (.iastore, 1) := by decide +kernel
theorem dX0_follow_23 : decode cX0_follow 23 = .ok (.aload_n 0, 1) := by decide +kernel
theorem dX0_follow_24 : decode cX0_follow 24 = .ok (.getfield 35, 3) := by decide +kernel
theorem dX0_follow_27 : decode cX0_follow 27 = .ok (.aload_n 0, 1) := by decide +kernel
theorem dX0_follow_28 : decode cX0_follow 28 = .ok (.getfield 11, 3) := by decide +kernel
theorem dX0_follow_31 : decode cX0_follow 31 = .ok (.iload_n 1, 1) := by decide +kernel
theorem dX0_follow_32 : decode cX0_follow 32 = .ok (.aaload, 1) := by decide +kernel
theorem dX0_follow_33 : decode cX0_follow 33 = .ok (.iload_n 2, 1) := by decide +kernel
theorem dX0_follow_34 : decode cX0_follow 34 = .ok (.invokevirtual 66, 3) := by decide +kernel
theorem dX0_follow_37 : decode cX0_follow 37 = .ok (.ifCond .eq 71, 3) := by decide +kernel
theorem dX0_follow_40 : decode cX0_follow 40 = .ok (.aload_n 0, 1) := by decide +kernel
theorem dX0_follow_41 : decode cX0_follow 41 = .ok (.getfield 35, 3) := by decide +kernel
theorem dX0_follow_44 : decode cX0_follow 44 = .ok (.aload_n 0, 1) := by decide +kernel
theorem dX0_follow_45 : decode cX0_follow 45 = .ok (.getfield 11, 3) := by decide +kernel
theorem dX0_follow_48 : decode cX0_follow 48 = .ok (.iload_n 1, 1) := by decide +kernel
theorem dX0_follow_49 : decode cX0_follow 49 = .ok (.aaload, 1) := by decide +kernel
theorem dX0_follow_50 : decode cX0_follow 50 = .ok (.iload_n 2, 1) := by decide +kernel
theorem dX0_follow_51 : decode cX0_follow 51 = .ok (.aload_n 0, 1) := by decide +kernel
theorem dX0_follow_52 : decode cX0_follow 52 = .ok (.getfield 32, 3) := by decide +kernel
theorem dX0_follow_55 : decode cX0_follow 55 = .ok (.invokevirtual 70, 3) := by decide +kernel
theorem dX0_follow_58 : decode cX0_follow 58 = .ok (.aload_n 0, 1) := by decide +kernel
theorem dX0_follow_59 : decode cX0_follow 59 = .ok (.aload_n 0, 1) := by decide +kernel
theorem dX0_follow_60 : decode cX0_follow 60 = .ok (.getfield 32, 3) := by decide +kernel
theorem dX0_follow_63 : decode cX0_follow 63 = .ok (.invokevirtual 74, 3) := by decide +kernel
theorem dX0_follow_66 : decode cX0_follow 66 = .ok (.istore_n 3, 1) := by decide +kernel
theorem dX0_follow_67 : decode cX0_follow 67 = .ok (.iload_n 3, 1) := by decide +kernel
theorem dX0_follow_68 : decode cX0_follow 68 = .ok (.bipush (-2), 2) := by decide +kernel
theorem dX0_follow_70 : decode cX0_follow 70 = .ok (.if_icmp .ne 29, 3) := by decide +kernel
theorem dX0_follow_73 : decode cX0_follow 73 = .ok (.aload_n 0, 1) := by decide +kernel
theorem dX0_follow_74 : decode cX0_follow 74 = .ok (.getfield 48, 3) := by decide +kernel
theorem dX0_follow_77 : decode cX0_follow 77 = .ok (.bipush 40, 2) := by decide +kernel
theorem dX0_follow_79 : decode cX0_follow 79 = .ok (.if_icmp .ne 5, 3) := by decide +kernel
theorem dX0_follow_82 : decode cX0_follow 82 = .ok (.iconst 0, 1) := by decide +kernel
theorem dX0_follow_83 : decode cX0_follow 83 = .ok (.ireturn, 1) := by decide +kernel
theorem dX0_follow_84 : decode cX0_follow 84 = .ok (.aload_n 0, 1) := by decide +kernel
theorem dX0_follow_85 : decode cX0_follow 85 = .ok (.iload_n 1, 1) := by decide +kernel
theorem dX0_follow_86 : decode cX0_follow 86 = .ok (.iload_n 2, 1) := by decide +kernel
theorem dX0_follow_87 : decode cX0_follow 87 = .ok (.aload_n 0, 1) := by decide +kernel
theorem dX0_follow_88 : decode cX0_follow 88 = .ok (.getfield 26, 3) := by decide +kernel
theorem dX0_follow_91 : decode cX0_follow 91 = .ok (.iload_n 1, 1) := by decide +kernel
theorem dX0_follow_92 : decode cX0_follow 92 = .ok (.iaload, 1) := by decide +kernel
theorem dX0_follow_93 : decode cX0_follow 93 = .ok (.iconst 1, 1) := by decide +kernel
theorem dX0_follow_94 : decode cX0_follow 94 = .ok (.iadd, 1) := by decide +kernel
theorem dX0_follow_95 : decode cX0_follow 95 = .ok (.invokevirtual 52, 3) := by decide +kernel
theorem dX0_follow_98 : decode cX0_follow 98 = .ok (.istore_n 3, 1) := by decide +kernel
theorem dX0_follow_99 : decode cX0_follow 99 = .ok (.aload_n 0, 1) := by decide +kernel
theorem dX0_follow_100 : decode cX0_follow 100 = .ok (.getfield 16, 3) := by decide +kernel
theorem dX0_follow_103 : decode cX0_follow 103 = .ok (.iload_n 1, 1) := by decide +kernel
theorem dX0_follow_104 : decode cX0_follow 104 = .ok (.aaload, 1) := by decide +kernel
theorem dX0_follow_105 : decode cX0_follow 105 = .ok (.iload_n 2, 1) := by decide +kernel
theorem dX0_follow_106 : decode cX0_follow 106 = .ok (.iload_n 3, 1) := by decide +kernel
theorem dX0_follow_107 : decode cX0_follow 107 = .ok (.iastore, 1) := by decide +kernel
theorem dX0_follow_108 : decode cX0_follow 108 = .ok (.iinc 2 1, 3) := by decide +kernel
theorem dX0_follow_111 : decode cX0_follow 111 = .ok (.goto (-109), 3) := by decide +kernel
theorem dX0_follow_114 : decode cX0_follow 114 = .ok (.iconst 1, 1) := by decide +kernel
theorem dX0_follow_115 : decode cX0_follow 115 = .ok (.ireturn, 1) := by decide +kernel
theorem dX0_addState_0 : decode cX0_addState 0 = .ok (.aload_n 0, 1) := by decide +kernel
theorem dX0_addState_1 : decode cX0_addState 1 = .ok (.getfield 48, 3) := by decide +kernel
theorem dX0_addState_4 : decode cX0_addState 4 = .ok (.istore 4, 2) := by decide +kernel
theorem dX0_addState_6 : decode cX0_addState 6 = .ok (.aload_n 0, 1) := by decide +kernel
theorem dX0_addState_7 : decode cX0_addState 7 = .ok (.getfield 11, 3) := by decide +kernel
theorem dX0_addState_10 : decode cX0_addState 10 = .ok (.iload 4, 2) := by decide +kernel
theorem dX0_addState_12 : decode cX0_addState 12 = .ok (.aaload, 1) := by decide +kernel
theorem dX0_addState_13 : decode cX0_addState 13 = .ok (.aload_n 0, 1) := by decide +kernel
theorem dX0_addState_14 : decode cX0_addState 14 = .ok (.getfield 32, 3) := by decide +kernel
theorem dX0_addState_17 : decode cX0_addState 17 = .ok (.invokestatic 44, 3) := by decide +kernel
theorem dX0_addState_20 : decode cX0_addState 20 = .ok (.aload_n 0, 1) := by decide +kernel
theorem dX0_addState_21 : decode cX0_addState 21 = .ok (.getfield 19, 3) := by decide +kernel
theorem dX0_addState_24 : decode cX0_addState 24 = .ok (.iload 4, 2) := by decide +kernel
theorem dX0_addState_26 : decode cX0_addState 26 = .ok (.iload_n 1, 1) := by decide +kernel
theorem dX0_addState_27 : decode cX0_addState 27 = .ok (.iastore, 1) := by decide +kernel
theorem dX0_addState_28 : decode cX0_addState 28 = .ok (.aload_n 0, 1) := by decide +kernel
theorem dX0_addState_29 : decode cX0_addState 29 = .ok (.getfield 23, 3) := by decide +kernel
theorem dX0_addState_32 : decode cX0_addState 32 = .ok (.iload 4, 2) := by decide +kernel
theorem dX0_addState_34 : decode cX0_addState 34 = .ok (.iload_n 2, 1) := by decide +kernel
theorem dX0_addState_35 : decode cX0_addState 35 = .ok (.iastore, 1) := by decide +kernel
theorem dX0_addState_36 : decode cX0_addState 36 = .ok (.aload_n 0, 1) := by decide +kernel
theorem dX0_addState_37 : decode cX0_addState 37 = .ok (.getfield 26, 3) := by decide +kernel
theorem dX0_addState_40 : decode cX0_addState 40 = .ok (.iload 4, 2) := by decide +kernel
theorem dX0_addState_42 : decode cX0_addState 42 = .ok (.iload_n 3, 1) := by decide +kernel
theorem dX0_addState_43 : decode cX0_addState 43 = .ok (.iastore, 1) := by decide +kernel
theorem dX0_addState_44 : decode cX0_addState 44 = .ok (.aload_n 0, 1) := by decide +kernel
theorem dX0_addState_45 : decode cX0_addState 45 = .ok (.dup, 1) := by decide +kernel
theorem dX0_addState_46 : decode cX0_addState 46 = .ok (.getfield 48, 3) := by decide +kernel
theorem dX0_addState_49 : decode cX0_addState 49 = .ok (.iconst 1, 1) := by decide +kernel
theorem dX0_addState_50 : decode cX0_addState 50 = .ok (.iadd, 1) := by decide +kernel
theorem dX0_addState_51 : decode cX0_addState 51 = .ok (.putfield 48, 3) := by decide +kernel
theorem dX0_addState_54 : decode cX0_addState 54 = .ok (.iload 4, 2) := by decide +kernel
theorem dX0_addState_56 : decode cX0_addState 56 = .ok (.ireturn, 1) := by decide +kernel
theorem dX0_lookAhead_0 : decode cX0_lookAhead 0 = .ok (.iconst 0, 1) := by decide +kernel
theorem dX0_lookAhead_1 : decode cX0_lookAhead 1 = .ok (.istore_n 1, 1) := by decide +kernel
theorem dX0_lookAhead_2 : decode cX0_lookAhead 2 = .ok (.iload_n 1, 1) := by decide +kernel
theorem dX0_lookAhead_3 : decode cX0_lookAhead 3 = .ok (.aload_n 0, 1) := by decide +kernel
theorem dX0_lookAhead_4 : decode cX0_lookAhead 4 = .ok (.getfield 48, 3) := by decide +kernel
theorem dX0_lookAhead_7 : decode cX0_lookAhead 7 = .ok (.if_icmp .ge 20, 3) := by decide +kernel
theorem dX0_lookAhead_10 : decode cX0_lookAhead 10 = .ok (.aload_n 0, 1) := by decide +kernel
theorem dX0_lookAhead_11 : decode cX0_lookAhead 11 = .ok (.getfield 29, 3) := by decide +kernel
theorem dX0_lookAhead_14 : decode cX0_lookAhead 14 = .ok (.iload_n 1, 1) := by decide +kernel
theorem dX0_lookAhead_15 : decode cX0_lookAhead 15 = .ok (.aload_n 0, 1) := by decide +kernel
theorem dX0_lookAhead_16 : decode cX0_lookAhead 16 = .ok (.iload_n 1, 1) := by decide +kernel
theorem dX0_lookAhead_17 : decode cX0_lookAhead 17 = .ok (.invokevirtual 78, 3) := by decide +kernel
theorem dX0_lookAhead_20 : decode cX0_lookAhead 20 = .ok (.iastore, 1) := by decide +kernel
theorem dX0_lookAhead_21 : decode cX0_lookAhead 21 = .ok (.iinc 1 1, 3) := by decide +kernel
theorem dX0_lookAhead_24 : decode cX0_lookAhead 24 = .ok (.goto (-22), 3) := by decide +kernel
theorem dX0_lookAhead_27 : decode cX0_lookAhead 27 = .ok (.iconst 1, 1) := by decide +kernel
theorem dX0_lookAhead_28 : decode cX0_lookAhead 28 = .ok (.istore_n 1, 1) := by decide +kernel
theorem dX0_lookAhead_29 : decode cX0_lookAhead 29 = .ok (.iconst 0, 1) := by decide +kernel
theorem dX0_lookAhead_30 : decode cX0_lookAhead 30 = .ok (.istore_n 2, 1) := by decide +kernel
theorem dX0_lookAhead_31 : decode cX0_lookAhead 31 = .ok (.iload_n 2, 1) := by decide +kernel
theorem dX0_lookAhead_32 : decode cX0_lookAhead 32 = .ok (.aload_n 0, 1) := by decide +kernel
theorem dX0_lookAhead_33 : decode cX0_lookAhead 33 = .ok (.getfield 48, 3) := by decide +kernel
theorem dX0_lookAhead_36 : decode cX0_lookAhead 36 = .ok (.if_icmp .ge 74, 3) := by decide +kernel
theorem dX0_lookAhead_39 : decode cX0_lookAhead 39 = .ok (.iload_n 1, 1) := by decide +kernel
theorem dX0_lookAhead_40 : decode cX0_lookAhead 40 = .ok (.ifCond .eq 70, 3) := by decide +kernel
theorem dX0_lookAhead_43 : decode cX0_lookAhead 43 = .ok (.iconst 0, 1) := by decide +kernel
theorem dX0_lookAhead_44 : decode cX0_lookAhead 44 = .ok (.istore_n 1, 1) := by decide +kernel
theorem dX0_lookAhead_45 : decode cX0_lookAhead 45 = .ok (.iconst 0, 1) := by decide +kernel
theorem dX0_lookAhead_46 : decode cX0_lookAhead 46 = .ok (.istore_n 3, 1) := by decide +kernel
theorem dX0_lookAhead_47 : decode cX0_lookAhead 47 = .ok (.iload_n 3, 1) := by decide +kernel
theorem dX0_lookAhead_48 : decode cX0_lookAhead 48 = .ok (.aload_n 0, 1) := by decide +kernel
theorem dX0_lookAhead_49 : decode cX0_lookAhead 49 = .ok (.getfield 48, 3) := by decide +kernel
theorem dX0_lookAhead_52 : decode cX0_lookAhead 52 = .ok (.if_icmp .ge 52, 3) := by decide +kernel
theorem dX0_lookAhead_55 : decode cX0_lookAhead 55 = .ok (.aload_n 0, 1) := by decide +kernel
theorem dX0_lookAhead_56 : decode cX0_lookAhead 56 = .ok (.getfield 29, 3) := by decide +kernel
theorem dX0_lookAhead_59 : decode cX0_lookAhead 59 = .ok (.iload_n 3, 1) := by decide +kernel
theorem dX0_lookAhead_60 : decode cX0_lookAhead 60 = .ok (.iaload, 1) := by decide +kernel
theorem dX0_lookAhead_61 : decode cX0_lookAhead 61 = .ok (.aload_n 0, 1) := by decide +kernel
theorem dX0_lookAhead_62 : decode cX0_lookAhead 62 = .ok (.iload_n 3, 1) := by decide +kernel
theorem dX0_lookAhead_63 : decode cX0_lookAhead 63 = .ok (.invokevirtual 82, 3) := by decide +kernel
theorem dX0_lookAhead_66 : decode cX0_lookAhead 66 = .ok (.ior, 1) := by decide +kernel
theorem dX0_lookAhead_67 : decode cX0_lookAhead 67 = .ok (.istore 4, 2) := by decide +kernel
theorem dX0_lookAhead_69 : decode cX0_lookAhead 69 = .ok (.iload_n 1, 1) := by decide +kernel
theorem dX0_lookAhead_70 : decode cX0_lookAhead 70 = .ok (.ifCond .ne 14, 3) := by decide +kernel
theorem dX0_lookAhead_73 : decode cX0_lookAhead 73 = .ok (.iload 4, 2) := by decide +kernel
theorem dX0_lookAhead_75 : decode cX0_lookAhead 75 = .ok (.aload_n 0, 1) := by decide +kernel
theorem dX0_lookAhead_76 : decode cX0_lookAhead 76 = .ok (.getfield 29, 3) := by decide +kernel
theorem dX0_lookAhead_79 : decode cX0_lookAhead 79 = .ok (.iload_n 3, 1) := by decide +kernel
theorem dX0_lookAhead_80 : decode cX0_lookAhead 80 = .ok (.iaload, 1) := by decide +kernel
theorem dX0_lookAhead_81 : decode cX0_lookAhead 81 = .ok (.if_icmp .eq 7, 3) := by decide +kernel
theorem dX0_lookAhead_84 : decode cX0_lookAhead 84 = .ok (.iconst 1, 1) := by decide +kernel
theorem dX0_lookAhead_85 : decode cX0_lookAhead 85 = .ok (.goto 4, 3) := by decide +kernel
theorem dX0_lookAhead_88 : decode cX0_lookAhead 88 = .ok (.iconst 0, 1) := by decide +kernel
theorem dX0_lookAhead_89 : decode cX0_lookAhead 89 = .ok (.istore_n 1, 1) := by decide +kernel
theorem dX0_lookAhead_90 : decode cX0_lookAhead 90 = .ok (.aload_n 0, 1) := by decide +kernel
theorem dX0_lookAhead_91 : decode cX0_lookAhead 91 = .ok (.getfield 29, 3) := by decide +kernel
theorem dX0_lookAhead_94 : decode cX0_lookAhead 94 = .ok (.iload_n 3, 1) := by decide +kernel
theorem dX0_lookAhead_95 : decode cX0_lookAhead 95 = .ok (.iload 4, 2) := by decide +kernel
theorem dX0_lookAhead_97 : decode cX0_lookAhead 97 = .ok (.iastore, 1) := by decide +kernel
theorem dX0_lookAhead_98 : decode cX0_lookAhead 98 = .ok (.iinc 3 1, 3) := by decide +kernel
theorem dX0_lookAhead_101 : decode cX0_lookAhead 101 = .ok (.goto (-54), 3) := by decide +kernel
theorem dX0_lookAhead_104 : decode cX0_lookAhead 104 = .ok (.iinc 2 1, 3) := by decide +kernel
theorem dX0_lookAhead_107 : decode cX0_lookAhead 107 = .ok (.goto (-76), 3) := by decide +kernel
theorem dX0_lookAhead_110 : decode cX0_lookAhead 110 = .ok (.return_, 1) := by decide +kernel
theorem dX0_enabledIn_0 : decode cX0_enabledIn 0 = .ok (.iconst 0, 1) := by decide +kernel
theorem dX0_enabledIn_1 : decode cX0_enabledIn 1 = .ok (.istore_n 2, 1) := by decide +kernel
theorem dX0_enabledIn_2 : decode cX0_enabledIn 2 = .ok (.iconst 0, 1) := by decide +kernel
theorem dX0_enabledIn_3 : decode cX0_enabledIn 3 = .ok (.istore_n 3, 1) := by decide +kernel
theorem dX0_enabledIn_4 : decode cX0_enabledIn 4 = .ok (.iload_n 3, 1) := by decide +kernel
theorem dX0_enabledIn_5 : decode cX0_enabledIn 5 = .ok (.aload_n 0, 1) := by decide +kernel
theorem dX0_enabledIn_6 : decode cX0_enabledIn 6 = .ok (.getfield 35, 3) := by decide +kernel
theorem dX0_enabledIn_9 : decode cX0_enabledIn 9 = .ok (.getfield 63, 3) := by decide +kernel
theorem dX0_enabledIn_12 : decode cX0_enabledIn 12 = .ok (.if_icmp .ge 28, 3) := by decide +kernel
theorem dX0_enabledIn_15 : decode cX0_enabledIn 15 = .ok (.aload_n 0, 1) := by decide +kernel
theorem dX0_enabledIn_16 : decode cX0_enabledIn 16 = .ok (.getfield 16, 3) := by decide +kernel
theorem dX0_enabledIn_19 : decode cX0_enabledIn 19 = .ok (.iload_n 1, 1) := by decide +kernel
theorem dX0_enabledIn_20 : decode cX0_enabledIn 20 = .ok (.aaload, 1) := by decide +kernel
theorem dX0_enabledIn_21 : decode cX0_enabledIn 21 = .ok (.iload_n 3, 1) := by decide +kernel
theorem dX0_enabledIn_22 : decode cX0_enabledIn 22 = .ok (.iaload, 1) := by decide +kernel
theorem dX0_enabledIn_23 : decode cX0_enabledIn 23 = .ok (.bipush (-2), 2) := by decide +kernel
theorem dX0_enabledIn_25 : decode cX0_enabledIn 25 = .ok (.if_icmp .eq 9, 3) := by decide +kernel
theorem dX0_enabledIn_28 : decode cX0_enabledIn 28 = .ok (.iload_n 2, 1) := by decide +kernel
theorem dX0_enabledIn_29 : decode cX0_enabledIn 29 = .ok (.iconst 1, 1) := by decide +kernel
theorem dX0_enabledIn_30 : decode cX0_enabledIn 30 = .ok (.iload_n 3, 1) := by decide +kernel
theorem dX0_enabledIn_31 : decode cX0_enabledIn 31 = .ok (.ishl, 1) := by decide +kernel
theorem dX0_enabledIn_32 : decode cX0_enabledIn 32 = .ok (.ior, 1) := by decide +kernel
theorem dX0_enabledIn_33 : decode cX0_enabledIn 33 = .ok (.istore_n 2, 1) := by decide +kernel
theorem dX0_enabledIn_34 : decode cX0_enabledIn 34 = .ok (.iinc 3 1, 3) := by decide +kernel
theorem dX0_enabledIn_37 : decode cX0_enabledIn 37 = .ok (.goto (-33), 3) := by decide +kernel
theorem dX0_enabledIn_40 : decode cX0_enabledIn 40 = .ok (.iload_n 2, 1) := by decide +kernel
theorem dX0_enabledIn_41 : decode cX0_enabledIn 41 = .ok (.ireturn, 1) := by decide +kernel
theorem dX0_aheadOfNext_0 : decode cX0_aheadOfNext 0 = .ok (.iconst 0, 1) := by decide +kernel
theorem dX0_aheadOfNext_1 : decode cX0_aheadOfNext 1 = .ok (.istore_n 2, 1) := by decide +kernel
theorem dX0_aheadOfNext_2 : decode cX0_aheadOfNext 2 = .ok (.iconst 0, 1) := by decide +kernel
theorem dX0_aheadOfNext_3 : decode cX0_aheadOfNext 3 = .ok (.istore_n 3, 1) := by decide +kernel
theorem dX0_aheadOfNext_4 : decode cX0_aheadOfNext 4 = .ok (.iload_n 3, 1) := by decide +kernel
theorem dX0_aheadOfNext_5 : decode cX0_aheadOfNext 5 = .ok (.aload_n 0, 1) := by decide +kernel
theorem dX0_aheadOfNext_6 : decode cX0_aheadOfNext 6 = .ok (.getfield 35, 3) := by decide +kernel
theorem dX0_aheadOfNext_9 : decode cX0_aheadOfNext 9 = .ok (.getfield 63, 3) := by decide +kernel
theorem dX0_aheadOfNext_12 : decode cX0_aheadOfNext 12 = .ok (.if_icmp .ge 36, 3) := by decide +kernel
theorem dX0_aheadOfNext_15 : decode cX0_aheadOfNext 15 = .ok (.aload_n 0, 1) := by decide +kernel
theorem dX0_aheadOfNext_16 : decode cX0_aheadOfNext 16 = .ok (.getfield 16, 3) := by decide +kernel
theorem dX0_aheadOfNext_19 : decode cX0_aheadOfNext 19 = .ok (.iload_n 1, 1) := by decide +kernel
theorem dX0_aheadOfNext_20 : decode cX0_aheadOfNext 20 = .ok (.aaload, 1) := by decide +kernel
theorem dX0_aheadOfNext_21 : decode cX0_aheadOfNext 21 = .ok (.iload_n 3, 1) := by decide +kernel
theorem dX0_aheadOfNext_22 : decode cX0_aheadOfNext 22 = .ok (.iaload, 1) := by decide +kernel
theorem dX0_aheadOfNext_23 : decode cX0_aheadOfNext 23 = .ok (.istore 4, 2) := by decide +kernel
theorem dX0_aheadOfNext_25 : decode cX0_aheadOfNext 25 = .ok (.iload 4, 2) := by decide +kernel
theorem dX0_aheadOfNext_27 : decode cX0_aheadOfNext 27 = .ok (.bipush (-2), 2) := by decide +kernel
theorem dX0_aheadOfNext_29 : decode cX0_aheadOfNext 29 = .ok (.if_icmp .eq 13, 3) := by decide +kernel
theorem dX0_aheadOfNext_32 : decode cX0_aheadOfNext 32 = .ok (.iload_n 2, 1) := by decide +kernel
theorem dX0_aheadOfNext_33 : decode cX0_aheadOfNext 33 = .ok (.aload_n 0, 1) := by decide +kernel
theorem dX0_aheadOfNext_34 : decode cX0_aheadOfNext 34 = .ok (.getfield 29, 3) := by decide +kernel
theorem dX0_aheadOfNext_37 : decode cX0_aheadOfNext 37 = .ok (.iload 4, 2) := by decide +kernel
theorem dX0_aheadOfNext_39 : decode cX0_aheadOfNext 39 = .ok (.iaload, 1) := by decide +kernel
theorem dX0_aheadOfNext_40 : decode cX0_aheadOfNext 40 = .ok (.ior, 1) := by decide +kernel
theorem dX0_aheadOfNext_41 : decode cX0_aheadOfNext 41 = .ok (.istore_n 2, 1) := by decide +kernel
theorem dX0_aheadOfNext_42 : decode cX0_aheadOfNext 42 = .ok (.iinc 3 1, 3) := by decide +kernel
theorem dX0_aheadOfNext_45 : decode cX0_aheadOfNext 45 = .ok (.goto (-41), 3) := by decide +kernel
theorem dX0_aheadOfNext_48 : decode cX0_aheadOfNext 48 = .ok (.iload_n 2, 1) := by decide +kernel
theorem dX0_aheadOfNext_49 : decode cX0_aheadOfNext 49 = .ok (.ireturn, 1) := by decide +kernel
theorem dX0_stateOf_0 : decode cX0_stateOf 0 = .ok (.iconst 0, 1) := by decide +kernel
theorem dX0_stateOf_1 : decode cX0_stateOf 1 = .ok (.istore_n 2, 1) := by decide +kernel
theorem dX0_stateOf_2 : decode cX0_stateOf 2 = .ok (.iload_n 2, 1) := by decide +kernel
theorem dX0_stateOf_3 : decode cX0_stateOf 3 = .ok (.aload_n 0, 1) := by decide +kernel
theorem dX0_stateOf_4 : decode cX0_stateOf 4 = .ok (.getfield 48, 3) := by decide +kernel
theorem dX0_stateOf_7 : decode cX0_stateOf 7 = .ok (.if_icmp .ge 24, 3) := by decide +kernel
theorem dX0_stateOf_10 : decode cX0_stateOf 10 = .ok (.aload_n 0, 1) := by decide +kernel
theorem dX0_stateOf_11 : decode cX0_stateOf 11 = .ok (.getfield 11, 3) := by decide +kernel
theorem dX0_stateOf_14 : decode cX0_stateOf 14 = .ok (.iload_n 2, 1) := by decide +kernel
theorem dX0_stateOf_15 : decode cX0_stateOf 15 = .ok (.aaload, 1) := by decide +kernel
theorem dX0_stateOf_16 : decode cX0_stateOf 16 = .ok (.aload_n 1, 1) := by decide +kernel
theorem dX0_stateOf_17 : decode cX0_stateOf 17 = .ok (.invokestatic 85, 3) := by decide +kernel
theorem dX0_stateOf_20 : decode cX0_stateOf 20 = .ok (.ifCond .eq 5, 3) := by decide +kernel
theorem dX0_stateOf_23 : decode cX0_stateOf 23 = .ok (.iload_n 2, 1) := by decide +kernel
theorem dX0_stateOf_24 : decode cX0_stateOf 24 = .ok (.ireturn, 1) := by decide +kernel
theorem dX0_stateOf_25 : decode cX0_stateOf 25 = .ok (.iinc 2 1, 3) := by decide +kernel
theorem dX0_stateOf_28 : decode cX0_stateOf 28 = .ok (.goto (-26), 3) := by decide +kernel
theorem dX0_stateOf_31 : decode cX0_stateOf 31 = .ok (.bipush (-2), 2) := by decide +kernel
theorem dX0_stateOf_33 : decode cX0_stateOf 33 = .ok (.ireturn, 1) := by decide +kernel
theorem dX0_countStops_0 : decode cX0_countStops 0 = .ok (.iconst 0, 1) := by decide +kernel
theorem dX0_countStops_1 : decode cX0_countStops 1 = .ok (.istore_n 1, 1) := by decide +kernel
theorem dX0_countStops_2 : decode cX0_countStops 2 = .ok (.iconst 0, 1) := by decide +kernel
theorem dX0_countStops_3 : decode cX0_countStops 3 = .ok (.istore_n 2, 1) := by decide +kernel
theorem dX0_countStops_4 : decode cX0_countStops 4 = .ok (.iload_n 2, 1) := by decide +kernel
theorem dX0_countStops_5 : decode cX0_countStops 5 = .ok (.aload_n 0, 1) := by decide +kernel
theorem dX0_countStops_6 : decode cX0_countStops 6 = .ok (.getfield 48, 3) := by decide +kernel
theorem dX0_countStops_9 : decode cX0_countStops 9 = .ok (.if_icmp .ge 20, 3) := by decide +kernel
theorem dX0_countStops_12 : decode cX0_countStops 12 = .ok (.aload_n 0, 1) := by decide +kernel
theorem dX0_countStops_13 : decode cX0_countStops 13 = .ok (.iload_n 2, 1) := by decide +kernel
theorem dX0_countStops_14 : decode cX0_countStops 14 = .ok (.invokevirtual 78, 3) := by decide +kernel
theorem dX0_countStops_17 : decode cX0_countStops 17 = .ok (.ifCond .ne 6, 3) := by decide +kernel
theorem dX0_countStops_20 : decode cX0_countStops 20 = .ok (.iinc 1 1, 3) := by decide +kernel
theorem dX0_countStops_23 : decode cX0_countStops 23 = .ok (.iinc 2 1, 3) := by decide +kernel
theorem dX0_countStops_26 : decode cX0_countStops 26 = .ok (.goto (-22), 3) := by decide +kernel
theorem dX0_countStops_29 : decode cX0_countStops 29 = .ok (.iload_n 1, 1) := by decide +kernel
theorem dX0_countStops_30 : decode cX0_countStops 30 = .ok (.ireturn, 1) := by decide +kernel
theorem dX0_staysPossible_0 : decode cX0_staysPossible 0 = .ok (.iconst 0, 1) := by decide +kernel
theorem dX0_staysPossible_1 : decode cX0_staysPossible 1 = .ok (.istore_n 2, 1) := by decide +kernel
theorem dX0_staysPossible_2 : decode cX0_staysPossible 2 = .ok (.iload_n 2, 1) := by decide +kernel
theorem dX0_staysPossible_3 : decode cX0_staysPossible 3 = .ok (.aload_n 0, 1) := by decide +kernel
theorem dX0_staysPossible_4 : decode cX0_staysPossible 4 = .ok (.getfield 48, 3) := by decide +kernel
theorem dX0_staysPossible_7 : decode cX0_staysPossible 7 = .ok (.if_icmp .ge 24, 3) := by decide +kernel
theorem dX0_staysPossible_10 : decode cX0_staysPossible 10 = .ok (.aload_n 0, 1) := by decide +kernel
theorem dX0_staysPossible_11 : decode cX0_staysPossible 11 = .ok (.getfield 29, 3) := by decide +kernel
theorem dX0_staysPossible_14 : decode cX0_staysPossible 14 = .ok (.iload_n 2, 1) := by decide +kernel
theorem dX0_staysPossible_15 : decode cX0_staysPossible 15 = .ok (.iaload, 1) := by decide +kernel
theorem dX0_staysPossible_16 : decode cX0_staysPossible 16 = .ok (.iconst 1, 1) := by decide +kernel
theorem dX0_staysPossible_17 : decode cX0_staysPossible 17 = .ok (.iload_n 1, 1) := by decide +kernel
theorem dX0_staysPossible_18 : decode cX0_staysPossible 18 = .ok (.ishl, 1) := by decide +kernel
theorem dX0_staysPossible_19 : decode cX0_staysPossible 19 = .ok (.iand, 1) := by decide +kernel
theorem dX0_staysPossible_20 : decode cX0_staysPossible 20 = .ok (.ifCond .ne 5, 3) := by decide +kernel
theorem dX0_staysPossible_23 : decode cX0_staysPossible 23 = .ok (.iconst 0, 1) := by decide +kernel
theorem dX0_staysPossible_24 : decode cX0_staysPossible 24 = .ok (.ireturn, 1) := by decide +kernel
theorem dX0_staysPossible_25 : decode cX0_staysPossible 25 = .ok (.iinc 2 1, 3) := by decide +kernel
theorem dX0_staysPossible_28 : decode cX0_staysPossible 28 = .ok (.goto (-26), 3) := by decide +kernel
theorem dX0_staysPossible_31 : decode cX0_staysPossible 31 = .ok (.iconst 1, 1) := by decide +kernel
theorem dX0_staysPossible_32 : decode cX0_staysPossible 32 = .ok (.ireturn, 1) := by decide +kernel
theorem dX1_init_0 : decode cX1_init 0 = .ok (.aload_n 0, 1) := by decide +kernel
theorem dX1_init_1 : decode cX1_init 1 = .ok (.invokespecial 3, 3) := by decide +kernel
theorem dX1_init_4 : decode cX1_init 4 = .ok (.aload_n 0, 1) := by decide +kernel
theorem dX1_init_5 : decode cX1_init 5 = .ok (.bipush 6, 2) := by decide +kernel
theorem dX1_init_7 : decode cX1_init 7 = .ok (.newarray .int, 2) := by decide +kernel
theorem dX1_init_9 : decode cX1_init 9 = .ok (.putfield 9, 3) := by decide +kernel
theorem dX1_init_12 : decode cX1_init 12 = .ok (.aload_n 0, 1) := by decide +kernel
theorem dX1_init_13 : decode cX1_init 13 = .ok (.bipush 8, 2) := by decide +kernel
theorem dX1_init_15 : decode cX1_init 15 = .ok (.bipush 6, 2) := by decide +kernel
theorem dX1_init_17 : decode cX1_init 17 = .ok (.multianewarray 15 2, 4) := by decide +kernel
theorem dX1_init_21 : decode cX1_init 21 = .ok (.putfield 17, 3) := by decide +kernel
theorem dX1_init_24 : decode cX1_init 24 = .ok (.aload_n 0, 1) := by decide +kernel
theorem dX1_init_25 : decode cX1_init 25 = .ok (.bipush 8, 2) := by decide +kernel
theorem dX1_init_27 : decode cX1_init 27 = .ok (.bipush 6, 2) := by decide +kernel
theorem dX1_init_29 : decode cX1_init 29 = .ok (.multianewarray 15 2, 4) := by decide +kernel
theorem dX1_init_33 : decode cX1_init 33 = .ok (.putfield 20, 3) := by decide +kernel
theorem dX1_init_36 : decode cX1_init 36 = .ok (.return_, 1) := by decide +kernel
theorem dX1_addPlace_0 : decode cX1_addPlace 0 = .ok (.aload_n 0, 1) := by decide +kernel
theorem dX1_addPlace_1 : decode cX1_addPlace 1 = .ok (.getfield 9, 3) := by decide +kernel
theorem dX1_addPlace_4 : decode cX1_addPlace 4 = .ok (.aload_n 0, 1) := by decide +kernel
theorem dX1_addPlace_5 : decode cX1_addPlace 5 = .ok (.getfield 23, 3) := by decide +kernel
theorem dX1_addPlace_8 : decode cX1_addPlace 8 = .ok (.iload_n 1, 1) := by decide +kernel
theorem dX1_addPlace_9 : decode cX1_addPlace 9 = .ok (.iastore, 1) := by decide +kernel
theorem dX1_addPlace_10 : decode cX1_addPlace 10 = .ok (.aload_n 0, 1) := by decide +kernel
theorem dX1_addPlace_11 : decode cX1_addPlace 11 = .ok (.dup, 1) := by decide +kernel
theorem dX1_addPlace_12 : decode cX1_addPlace 12 = .ok (.getfield 23, 3) := by decide +kernel
theorem dX1_addPlace_15 : decode cX1_addPlace 15 = .ok (.iconst 1, 1) := by decide +kernel
theorem dX1_addPlace_16 : decode cX1_addPlace 16 = .ok (.iadd, 1) := by decide +kernel
theorem dX1_addPlace_17 : decode cX1_addPlace 17 = .ok (.putfield 23, 3) := by decide +kernel
theorem dX1_addPlace_20 : decode cX1_addPlace 20 = .ok (.aload_n 0, 1) := by decide +kernel
theorem dX1_addPlace_21 : decode cX1_addPlace 21 = .ok (.getfield 23, 3) := by decide +kernel
theorem dX1_addPlace_24 : decode cX1_addPlace 24 = .ok (.iconst 1, 1) := by decide +kernel
theorem dX1_addPlace_25 : decode cX1_addPlace 25 = .ok (.isub, 1) := by decide +kernel
theorem dX1_addPlace_26 : decode cX1_addPlace 26 = .ok (.ireturn, 1) := by decide +kernel
theorem dX1_addTransition_0 : decode cX1_addTransition 0 = .ok (.aload_n 0, 1) := by decide +kernel
theorem dX1_addTransition_1 : decode cX1_addTransition 1 = .ok (.dup, 1) := by decide +kernel
theorem dX1_addTransition_2 : decode cX1_addTransition 2 = .ok (.getfield 27, 3) := by decide +kernel
theorem dX1_addTransition_5 : decode cX1_addTransition 5 = .ok (.iconst 1, 1) := by decide +kernel
theorem dX1_addTransition_6 : decode cX1_addTransition 6 = .ok (.iadd, 1) := by decide +kernel
theorem dX1_addTransition_7 : decode cX1_addTransition 7 = .ok (.putfield 27, 3) := by decide +kernel
theorem dX1_addTransition_10 : decode cX1_addTransition 10 = .ok (.aload_n 0, 1) := by decide +kernel
theorem dX1_addTransition_11 : decode cX1_addTransition 11 = .ok (.getfield 27, 3) := by decide +kernel
theorem dX1_addTransition_14 : decode cX1_addTransition 14 = .ok (.iconst 1, 1) := by decide +kernel
theorem dX1_addTransition_15 : decode cX1_addTransition 15 = .ok (.isub, 1) := by decide +kernel
theorem dX1_addTransition_16 : decode cX1_addTransition 16 = .ok (.ireturn, 1) := by decide +kernel
theorem dX1_setArc_0 : decode cX1_setArc 0 = .ok (.iload 4, 2) := by decide +kernel
theorem dX1_setArc_2 : decode cX1_setArc 2 = .ok (.ifCond .eq 12, 3) := by decide +kernel
theorem dX1_setArc_5 : decode cX1_setArc 5 = .ok (.aload_n 0, 1) := by decide +kernel
theorem dX1_setArc_6 : decode cX1_setArc 6 = .ok (.getfield 20, 3) := by decide +kernel
theorem dX1_setArc_9 : decode cX1_setArc 9 = .ok (.iload_n 2, 1) := by decide +kernel
theorem dX1_setArc_10 : decode cX1_setArc 10 = .ok (.aaload, 1) := by decide +kernel
theorem dX1_setArc_11 : decode cX1_setArc 11 = .ok (.goto 9, 3) := by decide +kernel
theorem dX1_setArc_14 : decode cX1_setArc 14 = .ok (.aload_n 0, 1) := by decide +kernel
theorem dX1_setArc_15 : decode cX1_setArc 15 = .ok (.getfield 17, 3) := by decide +kernel
theorem dX1_setArc_18 : decode cX1_setArc 18 = .ok (.iload_n 2, 1) := by decide +kernel
theorem dX1_setArc_19 : decode cX1_setArc 19 = .ok (.aaload, 1) := by decide +kernel
theorem dX1_setArc_20 : decode cX1_setArc 20 = .ok (.astore 5, 2) := by decide +kernel
theorem dX1_setArc_22 : decode cX1_setArc 22 = .ok (.aload 5, 2) := by decide +kernel
theorem dX1_setArc_24 : decode cX1_setArc 24 = .ok (.iload_n 1, 1) := by decide +kernel
theorem dX1_setArc_25 : decode cX1_setArc 25 = .ok (.iaload, 1) := by decide +kernel
theorem dX1_setArc_26 : decode cX1_setArc 26 = .ok (.istore 6, 2) := by decide +kernel
theorem dX1_setArc_28 : decode cX1_setArc 28 = .ok (.aload 5, 2) := by decide +kernel
theorem dX1_setArc_30 : decode cX1_setArc 30 = .ok (.iload_n 1, 1) := by decide +kernel
theorem dX1_setArc_31 : decode cX1_setArc 31 = .ok (.iload_n 3, 1) := by decide +kernel
theorem dX1_setArc_32 : decode cX1_setArc 32 = .ok (.iastore, 1) := by decide +kernel
theorem dX1_setArc_33 : decode cX1_setArc 33 = .ok (.iload 6, 2) := by decide +kernel
theorem dX1_setArc_35 : decode cX1_setArc 35 = .ok (.ireturn, 1) := by decide +kernel
theorem dX1_enables_0 : decode cX1_enables 0 = .ok (.aload_n 1, 1) := by decide +kernel
theorem dX1_enables_1 : decode cX1_enables 1 = .ok (.aload_n 0, 1) := by decide +kernel
theorem dX1_enables_2 : decode cX1_enables 2 = .ok (.getfield 17, 3) := by decide +kernel
theorem dX1_enables_5 : decode cX1_enables 5 = .ok (.iload_n 2, 1) := by decide +kernel
theorem dX1_enables_6 : decode cX1_enables 6 = .ok (.aaload, 1) := by decide +kernel
theorem dX1_enables_7 : decode cX1_enables 7 = .ok (.invokestatic 30, 3) := by decide +kernel
theorem dX1_enables_10 : decode cX1_enables 10 = .ok (.ireturn, 1) := by decide +kernel
theorem dX1_fire_0 : decode cX1_fire 0 = .ok (.iconst 0, 1) := by decide +kernel
theorem dX1_fire_1 : decode cX1_fire 1 = .ok (.istore 4, 2) := by decide +kernel
theorem dX1_fire_3 : decode cX1_fire 3 = .ok (.iload 4, 2) := by decide +kernel
theorem dX1_fire_5 : decode cX1_fire 5 = .ok (.bipush 6, 2) := by decide +kernel
theorem dX1_fire_7 : decode cX1_fire 7 = .ok (.if_icmp .ge 53, 3) := by decide +kernel
theorem dX1_fire_10 : decode cX1_fire 10 = .ok (.aload_n 1, 1) := by decide +kernel
theorem dX1_fire_11 : decode cX1_fire 11 = .ok (.iload 4, 2) := by decide +kernel
theorem dX1_fire_13 : decode cX1_fire 13 = .ok (.iaload, 1) := by decide +kernel
theorem dX1_fire_14 : decode cX1_fire 14 = .ok (.istore 5, 2) := by decide +kernel
theorem dX1_fire_16 : decode cX1_fire 16 = .ok (.aload_n 3, 1) := by decide +kernel
theorem dX1_fire_17 : decode cX1_fire 17 = .ok (.iload 4, 2) := by decide +kernel
theorem dX1_fire_19 : decode cX1_fire 19 = .ok (.iload 5, 2) := by decide +kernel
theorem dX1_fire_21 : decode cX1_fire 21 = .ok (.ldc 34, 2) := by decide +kernel
theorem dX1_fire_23 : decode cX1_fire 23 = .ok (.if_icmp .ne 8, 3) := by decide +kernel
theorem dX1_fire_26 : decode cX1_fire 26 = .ok (.iload 5, 2) := by decide +kernel
theorem dX1_fire_28 : decode cX1_fire 28 = .ok (.goto 25, 3) := by decide +kernel
theorem dX1_fire_31 : decode cX1_fire 31 = .ok (.iload 5, 2) := by decide +kernel
theorem dX1_fire_33 : decode cX1_fire 33 = .ok (.aload_n 0, 1) := by decide +kernel
theorem dX1_fire_34 : decode cX1_fire 34 = .ok (.getfield 17, 3) := by decide +kernel
theorem dX1_fire_37 : decode cX1_fire 37 = .ok (.iload_n 2, 1) := by decide +kernel
theorem dX1_fire_38 : decode cX1_fire 38 = .ok (.aaload, 1) := by decide +kernel
theorem dX1_fire_39 : decode cX1_fire 39 = .ok (.iload 4, 2) := by decide +kernel
theorem dX1_fire_41 : decode cX1_fire 41 = .ok (.iaload, 1) := by decide +kernel
theorem dX1_fire_42 : decode cX1_fire 42 = .ok (.isub, 1) := by decide +kernel
theorem dX1_fire_43 : decode cX1_fire 43 = .ok (.aload_n 0, 1) := by decide +kernel
theorem dX1_fire_44 : decode cX1_fire 44 = .ok (.getfield 20, 3) := by decide +kernel
theorem dX1_fire_47 : decode cX1_fire 47 = .ok (.iload_n 2, 1) := by decide +kernel
theorem dX1_fire_48 : decode cX1_fire 48 = .ok (.aaload, 1) := by decide +kernel
theorem dX1_fire_49 : decode cX1_fire 49 = .ok (.iload 4, 2) := by decide +kernel
theorem dX1_fire_51 : decode cX1_fire 51 = .ok (.iaload, 1) := by decide +kernel
theorem dX1_fire_52 : decode cX1_fire 52 = .ok (.iadd, 1) := by decide +kernel
theorem dX1_fire_53 : decode cX1_fire 53 = .ok (.iastore, 1) := by decide +kernel
theorem dX1_fire_54 : decode cX1_fire 54 = .ok (.iinc 4 1, 3) := by decide +kernel
theorem dX1_fire_57 : decode cX1_fire 57 = .ok (.goto (-54), 3) := by decide +kernel
theorem dX1_fire_60 : decode cX1_fire 60 = .ok (.return_, 1) := by decide +kernel
theorem dX2_init_0 : decode cX2_init 0 = .ok (.aload_n 0, 1) := by decide +kernel
theorem dX2_init_1 : decode cX2_init 1 = .ok (.invokespecial 3, 3) := by decide +kernel
theorem dX2_init_4 : decode cX2_init 4 = .ok (.aload_n 0, 1) := by decide +kernel
theorem dX2_init_5 : decode cX2_init 5 = .ok (.bipush 100, 2) := by decide +kernel
theorem dX2_init_7 : decode cX2_init 7 = .ok (.bipush 6, 2) := by decide +kernel
theorem dX2_init_9 : decode cX2_init 9 = .ok (.multianewarray 9 2, 4) := by decide +kernel
theorem dX2_init_13 : decode cX2_init 13 = .ok (.putfield 11, 3) := by decide +kernel
theorem dX2_init_16 : decode cX2_init 16 = .ok (.aload_n 0, 1) := by decide +kernel
theorem dX2_init_17 : decode cX2_init 17 = .ok (.bipush 100, 2) := by decide +kernel
theorem dX2_init_19 : decode cX2_init 19 = .ok (.newarray .int, 2) := by decide +kernel
theorem dX2_init_21 : decode cX2_init 21 = .ok (.putfield 16, 3) := by decide +kernel
theorem dX2_init_24 : decode cX2_init 24 = .ok (.aload_n 0, 1) := by decide +kernel
theorem dX2_init_25 : decode cX2_init 25 = .ok (.bipush 100, 2) := by decide +kernel
theorem dX2_init_27 : decode cX2_init 27 = .ok (.newarray .int, 2) := by decide +kernel
theorem dX2_init_29 : decode cX2_init 29 = .ok (.putfield 20, 3) := by decide +kernel
theorem dX2_init_32 : decode cX2_init 32 = .ok (.aload_n 0, 1) := by decide +kernel
theorem dX2_init_33 : decode cX2_init 33 = .ok (.bipush 100, 2) := by decide +kernel
theorem dX2_init_35 : decode cX2_init 35 = .ok (.newarray .int, 2) := by decide +kernel
theorem dX2_init_37 : decode cX2_init 37 = .ok (.putfield 23, 3) := by decide +kernel
theorem dX2_init_40 : decode cX2_init 40 = .ok (.aload_n 0, 1) := by decide +kernel
theorem dX2_init_41 : decode cX2_init 41 = .ok (.bipush 100, 2) := by decide +kernel
theorem dX2_init_43 : decode cX2_init 43 = .ok (.newarray .boolean, 2) := by decide +kernel
theorem dX2_init_45 : decode cX2_init 45 = .ok (.putfield 26, 3) := by decide +kernel
theorem dX2_init_48 : decode cX2_init 48 = .ok (.aload_n 0, 1) := by decide +kernel
theorem dX2_init_49 : decode cX2_init 49 = .ok (.aload_n 1, 1) := by decide +kernel
theorem dX2_init_50 : decode cX2_init 50 = .ok (.putfield 30, 3) := by decide +kernel
theorem dX2_init_53 : decode cX2_init 53 = .ok (.return_, 1) := by decide +kernel
theorem dX2_grow_0 : decode cX2_grow 0 = .ok (.aload_n 0, 1) := by decide +kernel
theorem dX2_grow_1 : decode cX2_grow 1 = .ok (.invokevirtual 34, 3) := by decide +kernel
theorem dX2_grow_4 : decode cX2_grow 4 = .ok (.iconst 0, 1) := by decide +kernel
theorem dX2_grow_5 : decode cX2_grow 5 = .ok (.istore_n 1, 1) := by decide +kernel
theorem dX2_grow_6 : decode cX2_grow 6 = .ok (.iconst 0, 1) := by decide +kernel
theorem dX2_grow_7 : decode cX2_grow 7 = .ok (.istore_n 2, 1) := by decide +kernel
theorem dX2_grow_8 : decode cX2_grow 8 = .ok (.iconst 0, 1) := by decide +kernel
theorem dX2_grow_9 : decode cX2_grow 9 = .ok (.istore_n 3, 1) := by decide +kernel
theorem dX2_grow_10 : decode cX2_grow 10 = .ok (.iload_n 3, 1) := by decide +kernel
theorem dX2_grow_11 : decode cX2_grow 11 = .ok (.sipush 900, 3) := by decide +kernel
theorem dX2_grow_14 : decode cX2_grow 14 = .ok (.if_icmp .ge 102, 3) := by decide +kernel
theorem dX2_grow_17 : decode cX2_grow 17 = .ok (.iload_n 1, 1) := by decide +kernel
theorem dX2_grow_18 : decode cX2_grow 18 = .ok (.bipush (-2), 2) := by decide +kernel
theorem dX2_grow_20 : decode cX2_grow 20 = .ok (.if_icmp .eq 96, 3) := by decide +kernel
theorem dX2_grow_23 : decode cX2_grow 23 = .ok (.aload_n 0, 1) := by decide +kernel
theorem dX2_grow_24 : decode cX2_grow 24 = .ok (.getfield 26, 3) := by decide +kernel
theorem dX2_grow_27 : decode cX2_grow 27 = .ok (.iload_n 1, 1) := by decide +kernel
theorem dX2_grow_28 : decode cX2_grow 28 = .ok (.baload, 1) := by decide +kernel
theorem dX2_grow_29 : decode cX2_grow 29 = .ok (.ifCond .ne 14, 3) := by decide +kernel
theorem dX2_grow_32 : decode cX2_grow 32 = .ok (.iload_n 2, 1) := by decide +kernel
theorem dX2_grow_33 : decode cX2_grow 33 = .ok (.aload_n 0, 1) := by decide +kernel
theorem dX2_grow_34 : decode cX2_grow 34 = .ok (.getfield 30, 3) := by decide +kernel
theorem dX2_grow_37 : decode cX2_grow 37 = .ok (.getfield 37, 3) := by decide +kernel
theorem dX2_grow_40 : decode cX2_grow 40 = .ok (.if_icmp .ne 22, 3) := by decide +kernel
theorem dX2_grow_43 : decode cX2_grow 43 = .ok (.aload_n 0, 1) := by decide +kernel
theorem dX2_grow_44 : decode cX2_grow 44 = .ok (.getfield 20, 3) := by decide +kernel
theorem dX2_grow_47 : decode cX2_grow 47 = .ok (.iload_n 1, 1) := by decide +kernel
theorem dX2_grow_48 : decode cX2_grow 48 = .ok (.iaload, 1) := by decide +kernel
theorem dX2_grow_49 : decode cX2_grow 49 = .ok (.iconst 1, 1) := by decide +kernel
theorem dX2_grow_50 : decode cX2_grow 50 = .ok (.iadd, 1) := by decide +kernel
theorem dX2_grow_51 : decode cX2_grow 51 = .ok (.istore_n 2, 1) := by decide +kernel
theorem dX2_grow_52 : decode cX2_grow 52 = .ok (.aload_n 0, 1) := by decide +kernel
theorem dX2_grow_53 : decode cX2_grow 53 = .ok (.getfield 16, 3) := by decide +kernel
theorem dX2_grow_56 : decode cX2_grow 56 = .ok (.iload_n 1, 1) := by decide +kernel
theorem dX2_grow_57 : decode cX2_grow 57 = .ok (.iaload, 1) := by decide +kernel
theorem dX2_grow_58 : decode cX2_grow 58 = .ok (.istore_n 1, 1) := by decide +kernel
theorem dX2_grow_59 : decode cX2_grow 59 = .ok (.goto 51, 3) := by decide +kernel
theorem dX2_grow_62 : decode cX2_grow 62 = .ok (.aload_n 0, 1) := by decide +kernel
theorem dX2_grow_63 : decode cX2_grow 63 = .ok (.getfield 30, 3) := by decide +kernel
theorem dX2_grow_66 : decode cX2_grow 66 = .ok (.aload_n 0, 1) := by decide +kernel
theorem dX2_grow_67 : decode cX2_grow 67 = .ok (.getfield 11, 3) := by decide +kernel
theorem dX2_grow_70 : decode cX2_grow 70 = .ok (.iload_n 1, 1) := by decide +kernel
theorem dX2_grow_71 : decode cX2_grow 71 = .ok (.aaload, 1) := by decide +kernel
theorem dX2_grow_72 : decode cX2_grow 72 = .ok (.iload_n 2, 1) := by decide +kernel
theorem dX2_grow_73 : decode cX2_grow 73 = .ok (.invokevirtual 43, 3) := by decide +kernel
theorem dX2_grow_76 : decode cX2_grow 76 = .ok (.ifCond .ne 9, 3) := by decide +kernel
theorem dX2_grow_79 : decode cX2_grow 79 = .ok (.iinc 2 1, 3) := by decide +kernel
theorem dX2_grow_82 : decode cX2_grow 82 = .ok (.goto 28, 3) := by decide +kernel
theorem dX2_grow_85 : decode cX2_grow 85 = .ok (.aload_n 0, 1) := by decide +kernel
theorem dX2_grow_86 : decode cX2_grow 86 = .ok (.getfield 47, 3) := by decide +kernel
theorem dX2_grow_89 : decode cX2_grow 89 = .ok (.bipush 100, 2) := by decide +kernel
theorem dX2_grow_91 : decode cX2_grow 91 = .ok (.if_icmp .ne 10, 3) := by decide +kernel
theorem dX2_grow_94 : decode cX2_grow 94 = .ok (.aload_n 0, 1) := by decide +kernel
theorem dX2_grow_95 : decode cX2_grow 95 = .ok (.iconst 0, 1) := by decide +kernel
theorem dX2_grow_96 : decode cX2_grow 96 = .ok (.putfield 47, 3) := by decide +kernel
theorem dX2_grow_99 : decode cX2_grow 99 = .ok (.iconst 0, 1) := by decide +kernel
theorem dX2_grow_100 : decode cX2_grow 100 = .ok (.ireturn, 1) := by decide +kernel
theorem dX2_grow_101 : decode cX2_grow 101 = .ok (.aload_n 0, 1) := by decide +kernel
theorem dX2_grow_102 : decode cX2_grow 102 = .ok (.iload_n 1, 1) := by decide +kernel
theorem dX2_grow_103 : decode cX2_grow 103 = .ok (.iload_n 2, 1) := by decide +kernel
theorem dX2_grow_104 : decode cX2_grow 104 = .ok (.invokevirtual 50, 3) := by decide +kernel
theorem dX2_grow_107 : decode cX2_grow 107 = .ok (.istore_n 1, 1) := by decide +kernel
theorem dX2_grow_108 : decode cX2_grow 108 = .ok (.iconst 0, 1) := by decide +kernel
theorem dX2_grow_109 : decode cX2_grow 109 = .ok (.istore_n 2, 1) := by decide +kernel
theorem dX2_grow_110 : decode cX2_grow 110 = .ok (.iinc 3 1, 3) := by decide +kernel
theorem dX2_grow_113 : decode cX2_grow 113 = .ok (.goto (-103), 3) := by decide +kernel
theorem dX2_grow_116 : decode cX2_grow 116 = .ok (.iconst 1, 1) := by decide +kernel
theorem dX2_grow_117 : decode cX2_grow 117 = .ok (.ireturn, 1) := by decide +kernel
theorem dX2_addRoot_0 : decode cX2_addRoot 0 = .ok (.aload_n 0, 1) := by decide +kernel
theorem dX2_addRoot_1 : decode cX2_addRoot 1 = .ok (.getfield 11, 3) := by decide +kernel
theorem dX2_addRoot_4 : decode cX2_addRoot 4 = .ok (.iconst 0, 1) := by decide +kernel
theorem dX2_addRoot_5 : decode cX2_addRoot 5 = .ok (.aaload, 1) := by decide +kernel
theorem dX2_addRoot_6 : decode cX2_addRoot 6 = .ok (.aload_n 0, 1) := by decide +kernel
theorem dX2_addRoot_7 : decode cX2_addRoot 7 = .ok (.getfield 30, 3) := by decide +kernel
theorem dX2_addRoot_10 : decode cX2_addRoot 10 = .ok (.getfield 54, 3) := by decide +kernel
theorem dX2_addRoot_13 : decode cX2_addRoot 13 = .ok (.invokestatic 57, 3) := by decide +kernel
theorem dX2_addRoot_16 : decode cX2_addRoot 16 = .ok (.aload_n 0, 1) := by decide +kernel
theorem dX2_addRoot_17 : decode cX2_addRoot 17 = .ok (.getfield 16, 3) := by decide +kernel
theorem dX2_addRoot_20 : decode cX2_addRoot 20 = .ok (.iconst 0, 1) := by decide +kernel
theorem dX2_addRoot_21 : decode cX2_addRoot 21 = .ok (.bipush (-2), 2) := by decide +kernel
theorem dX2_addRoot_23 : decode cX2_addRoot 23 = .ok (.iastore, 1) := by decide +kernel
theorem dX2_addRoot_24 : decode cX2_addRoot 24 = .ok (.aload_n 0, 1) := by decide +kernel
theorem dX2_addRoot_25 : decode cX2_addRoot 25 = .ok (.getfield 20, 3) := by decide +kernel
theorem dX2_addRoot_28 : decode cX2_addRoot 28 = .ok (.iconst 0, 1) := by decide +kernel
theorem dX2_addRoot_29 : decode cX2_addRoot 29 = .ok (.bipush (-2), 2) := by decide +kernel
theorem dX2_addRoot_31 : decode cX2_addRoot 31 = .ok (.iastore, 1) := by decide +kernel
theorem dX2_addRoot_32 : decode cX2_addRoot 32 = .ok (.aload_n 0, 1) := by decide +kernel
theorem dX2_addRoot_33 : decode cX2_addRoot 33 = .ok (.getfield 23, 3) := by decide +kernel
theorem dX2_addRoot_36 : decode cX2_addRoot 36 = .ok (.iconst 0, 1) := by decide +kernel
theorem dX2_addRoot_37 : decode cX2_addRoot 37 = .ok (.iconst 0, 1) := by decide +kernel
theorem dX2_addRoot_38 : decode cX2_addRoot 38 = .ok (.iastore, 1) := by decide +kernel
theorem dX2_addRoot_39 : decode cX2_addRoot 39 = .ok (.aload_n 0, 1) := by decide +kernel
theorem dX2_addRoot_40 : decode cX2_addRoot 40 = .ok (.getfield 26, 3) := by decide +kernel
theorem dX2_addRoot_43 : decode cX2_addRoot 43 = .ok (.iconst 0, 1) := by decide +kernel
theorem dX2_addRoot_44 : decode cX2_addRoot 44 = .ok (.iconst 0, 1) := by decide +kernel
theorem dX2_addRoot_45 : decode cX2_addRoot 45 = .ok (.bastore, 1) := by decide +kernel
theorem dX2_addRoot_46 : decode cX2_addRoot 46 = .ok (.aload_n 0, 1) := by decide +kernel
theorem dX2_addRoot_47 : decode cX2_addRoot 47 = .ok (.bipush (-2), 2) := by decide +kernel
theorem dX2_addRoot_49 : decode cX2_addRoot 49 = .ok (.putfield 61, 3) := by decide +kernel
theorem dX2_addRoot_52 : decode cX2_addRoot 52 = .ok (.aload_n 0, 1) := by decide +kernel
theorem dX2_addRoot_53 : decode cX2_addRoot 53 = .ok (.iconst 1, 1) := by decide +kernel
theorem dX2_addRoot_54 : decode cX2_addRoot 54 = .ok (.putfield 47, 3) := by decide +kernel
theorem dX2_addRoot_57 : decode cX2_addRoot 57 = .ok (.return_, 1) := by decide +kernel
theorem dX2_addChild_0 : decode cX2_addChild 0 = .ok (.aload_n 0, 1) := by decide +kernel
theorem dX2_addChild_1 : decode cX2_addChild 1 = .ok (.getfield 47, 3) := by decide +kernel
theorem dX2_addChild_4 : decode cX2_addChild 4 = .ok (.istore_n 3, 1) := by decide +kernel
theorem dX2_addChild_5 : decode cX2_addChild 5 = .ok (.aload_n 0, 1) := by decide +kernel
theorem dX2_addChild_6 : decode cX2_addChild 6 = .ok (.getfield 30, 3) := by decide +kernel
theorem dX2_addChild_9 : decode cX2_addChild 9 = .ok (.aload_n 0, 1) := by decide +kernel
theorem dX2_addChild_10 : decode cX2_addChild 10 = .ok (.getfield 11, 3) := by decide +kernel
theorem dX2_addChild_13 : decode cX2_addChild 13 = .ok (.iload_n 1, 1) := by decide +kernel
theorem dX2_addChild_14 : decode cX2_addChild 14 = .ok (.aaload, 1) := by decide +kernel
theorem dX2_addChild_15 : decode cX2_addChild 15 = .ok (.iload_n 2, 1) := by decide +kernel
theorem dX2_addChild_16 : decode cX2_addChild 16 = .ok (.aload_n 0, 1) := by decide +kernel
theorem dX2_addChild_17 : decode cX2_addChild 17 = .ok (.getfield 11, 3) := by decide +kernel
theorem dX2_addChild_20 : decode cX2_addChild 20 = .ok (.iload_n 3, 1) := by decide +kernel
theorem dX2_addChild_21 : decode cX2_addChild 21 = .ok (.aaload, 1) := by decide +kernel
theorem dX2_addChild_22 : decode cX2_addChild 22 = .ok (.invokevirtual 64, 3) := by decide +kernel
theorem dX2_addChild_25 : decode cX2_addChild 25 = .ok (.aload_n 0, 1) := by decide +kernel
theorem dX2_addChild_26 : decode cX2_addChild 26 = .ok (.getfield 16, 3) := by decide +kernel
theorem dX2_addChild_29 : decode cX2_addChild 29 = .ok (.iload_n 3, 1) := by decide +kernel
theorem dX2_addChild_30 : decode cX2_addChild 30 = .ok (.iload_n 1, 1) := by decide +kernel
theorem dX2_addChild_31 : decode cX2_addChild 31 = .ok (.iastore, 1) := by decide +kernel
theorem dX2_addChild_32 : decode cX2_addChild 32 = .ok (.aload_n 0, 1) := by decide +kernel
theorem dX2_addChild_33 : decode cX2_addChild 33 = .ok (.getfield 20, 3) := by decide +kernel
theorem dX2_addChild_36 : decode cX2_addChild 36 = .ok (.iload_n 3, 1) := by decide +kernel
theorem dX2_addChild_37 : decode cX2_addChild 37 = .ok (.iload_n 2, 1) := by decide +kernel
theorem dX2_addChild_38 : decode cX2_addChild 38 = .ok (.iastore, 1) := by decide +kernel
theorem dX2_addChild_39 : decode cX2_addChild 39 = .ok (.aload_n 0, 1) := by decide +kernel
theorem dX2_addChild_40 : decode cX2_addChild 40 = .ok (.getfield 23, 3) := by decide +kernel
theorem dX2_addChild_43 : decode cX2_addChild 43 = .ok (.iload_n 3, 1) := by decide +kernel
theorem dX2_addChild_44 : decode cX2_addChild 44 = .ok (.aload_n 0, 1) := by decide +kernel
theorem dX2_addChild_45 : decode cX2_addChild 45 = .ok (.getfield 23, 3) := by decide +kernel
theorem dX2_addChild_48 : decode cX2_addChild 48 = .ok (.iload_n 1, 1) := by decide +kernel
theorem dX2_addChild_49 : decode cX2_addChild 49 = .ok (.iaload, 1) := by decide +kernel
theorem dX2_addChild_50 : decode cX2_addChild 50 = .ok (.iconst 1, 1) := by decide +kernel
theorem dX2_addChild_51 : decode cX2_addChild 51 = .ok (.iadd, 1) := by decide +kernel
theorem dX2_addChild_52 : decode cX2_addChild 52 = .ok (.iastore, 1) := by decide +kernel
theorem dX2_addChild_53 : decode cX2_addChild 53 = .ok (.aload_n 0, 1) := by decide +kernel
theorem dX2_addChild_54 : decode cX2_addChild 54 = .ok (.iload_n 3, 1) := by decide +kernel
theorem dX2_addChild_55 : decode cX2_addChild 55 = .ok (.invokevirtual 68, 3) := by decide +kernel
theorem dX2_addChild_58 : decode cX2_addChild 58 = .ok (.aload_n 0, 1) := by decide +kernel
theorem dX2_addChild_59 : decode cX2_addChild 59 = .ok (.getfield 26, 3) := by decide +kernel
theorem dX2_addChild_62 : decode cX2_addChild 62 = .ok (.iload_n 3, 1) := by decide +kernel
theorem dX2_addChild_63 : decode cX2_addChild 63 = .ok (.aload_n 0, 1) := by decide +kernel
theorem dX2_addChild_64 : decode cX2_addChild 64 = .ok (.iload_n 3, 1) := by decide +kernel
theorem dX2_addChild_65 : decode cX2_addChild 65 = .ok (.invokevirtual 72, 3) := by decide +kernel
theorem dX2_addChild_68 : decode cX2_addChild 68 = .ok (.bastore, 1) := by decide +kernel
theorem dX2_addChild_69 : decode cX2_addChild 69 = .ok (.aload_n 0, 1) := by decide +kernel
theorem dX2_addChild_70 : decode cX2_addChild 70 = .ok (.dup, 1) := by decide +kernel
theorem dX2_addChild_71 : decode cX2_addChild 71 = .ok (.getfield 47, 3) := by decide +kernel
theorem dX2_addChild_74 : decode cX2_addChild 74 = .ok (.iconst 1, 1) := by decide +kernel
theorem dX2_addChild_75 : decode cX2_addChild 75 = .ok (.iadd, 1) := by decide +kernel
theorem dX2_addChild_76 : decode cX2_addChild 76 = .ok (.putfield 47, 3) := by decide +kernel
theorem dX2_addChild_79 : decode cX2_addChild 79 = .ok (.iload_n 3, 1) := by decide +kernel
theorem dX2_addChild_80 : decode cX2_addChild 80 = .ok (.ireturn, 1) := by decide +kernel
theorem dX2_makeEndlessWhatRepeats_0 : decode cX2_makeEndlessWhatRepeats 0 = .ok (.aload_n 0, 1) := by decide +kernel
theorem dX2_makeEndlessWhatRepeats_1 : decode cX2_makeEndlessWhatRepeats 1 = .ok (.getfield 11, 3) := by decide +kernel
theorem dX2_makeEndlessWhatRepeats_4 : decode cX2_makeEndlessWhatRepeats 4 = .ok (.iload_n 1, 1) := by decide +kernel
theorem dX2_makeEndlessWhatRepeats_5 : decode cX2_makeEndlessWhatRepeats 5 = .ok (.aaload, 1) := by decide +kernel
theorem dX2_makeEndlessWhatRepeats_6 : decode cX2_makeEndlessWhatRepeats 6 = .ok (.astore_n 2, 1) := by decide +kernel
theorem dX2_makeEndlessWhatRepeats_7 : decode cX2_makeEndlessWhatRepeats 7 = .ok (.aload_n 0, 1) := by decide +kernel
theorem dX2_makeEndlessWhatRepeats_8 : decode cX2_makeEndlessWhatRepeats 8 = .ok (.getfield 16, 3) := by decide +kernel
theorem dX2_makeEndlessWhatRepeats_11 : decode cX2_makeEndlessWhatRepeats 11 = .ok (.iload_n 1, 1) := by decide +kernel
theorem dX2_makeEndlessWhatRepeats_12 : decode cX2_makeEndlessWhatRepeats 12 = .ok (.iaload, 1) := by decide +kernel
theorem dX2_makeEndlessWhatRepeats_13 : decode cX2_makeEndlessWhatRepeats 13 = .ok (.istore_n 3, 1) := by decide +kernel
theorem dX2_makeEndlessWhatRepeats_14 : decode cX2_makeEndlessWhatRepeats 14 = .ok (.aload_n 0, 1) := by decide +kernel
theorem dX2_makeEndlessWhatRepeats_15 : decode cX2_makeEndlessWhatRepeats 15 = .ok (.getfield 23, 3) := by decide +kernel
theorem dX2_makeEndlessWhatRepeats_18 : decode cX2_makeEndlessWhatRepeats 18 = .ok (.iload_n 1, 1) := by decide +kernel
theorem dX2_makeEndlessWhatRepeats_19 : decode cX2_makeEndlessWhatRepeats 19 = .ok (.iaload, 1) := by decide +kernel
theorem dX2_makeEndlessWhatRepeats_20 : decode cX2_makeEndlessWhatRepeats 20 = .ok (.iconst 1, 1) := by decide +kernel
theorem dX2_makeEndlessWhatRepeats_21 : decode cX2_makeEndlessWhatRepeats 21 = .ok (.isub, 1) := by decide +kernel
theorem dX2_makeEndlessWhatRepeats_22 : decode cX2_makeEndlessWhatRepeats 22 = .ok (.istore 4, 2) := by decide +kernel
theorem dX2_makeEndlessWhatRepeats_24 : decode cX2_makeEndlessWhatRepeats 24 = .ok (.iload 4, 2) := by decide +kernel
theorem dX2_makeEndlessWhatRepeats_26 : decode cX2_makeEndlessWhatRepeats 26 = .ok (.ifCond .lt 56, 3) := by decide +kernel
theorem dX2_makeEndlessWhatRepeats_29 : decode cX2_makeEndlessWhatRepeats 29 = .ok (.aload_n 0, 1) := by decide +kernel
theorem dX2_makeEndlessWhatRepeats_30 : decode cX2_makeEndlessWhatRepeats 30 = .ok (.getfield 11, 3) := by decide +kernel
theorem dX2_makeEndlessWhatRepeats_33 : decode cX2_makeEndlessWhatRepeats 33 = .ok (.iload_n 3, 1) := by decide +kernel
theorem dX2_makeEndlessWhatRepeats_34 : decode cX2_makeEndlessWhatRepeats 34 = .ok (.aaload, 1) := by decide +kernel
theorem dX2_makeEndlessWhatRepeats_35 : decode cX2_makeEndlessWhatRepeats 35 = .ok (.astore 5, 2) := by decide +kernel
theorem dX2_makeEndlessWhatRepeats_37 : decode cX2_makeEndlessWhatRepeats 37 = .ok (.aload_n 2, 1) := by decide +kernel
theorem dX2_makeEndlessWhatRepeats_38 : decode cX2_makeEndlessWhatRepeats 38 = .ok (.aload 5, 2) := by decide +kernel
theorem dX2_makeEndlessWhatRepeats_40 : decode cX2_makeEndlessWhatRepeats 40 = .ok (.invokestatic 76, 3) := by decide +kernel
theorem dX2_makeEndlessWhatRepeats_43 : decode cX2_makeEndlessWhatRepeats 43 = .ok (.ifCond .eq 26, 3) := by decide +kernel
theorem dX2_makeEndlessWhatRepeats_46 : decode cX2_makeEndlessWhatRepeats 46 = .ok (.aload_n 2, 1) := by decide +kernel
theorem dX2_makeEndlessWhatRepeats_47 : decode cX2_makeEndlessWhatRepeats 47 = .ok (.aload 5, 2) := by decide +kernel
theorem dX2_makeEndlessWhatRepeats_49 : decode cX2_makeEndlessWhatRepeats 49 = .ok (.invokestatic 80, 3) := by decide +kernel
theorem dX2_makeEndlessWhatRepeats_52 : decode cX2_makeEndlessWhatRepeats 52 = .ok (.ifCond .ne 17, 3) := by decide +kernel
theorem dX2_makeEndlessWhatRepeats_55 : decode cX2_makeEndlessWhatRepeats 55 = .ok (.aload_n 0, 1) := by decide +kernel
theorem dX2_makeEndlessWhatRepeats_56 : decode cX2_makeEndlessWhatRepeats 56 = .ok (.aload_n 2, 1) := by decide +kernel
theorem dX2_makeEndlessWhatRepeats_57 : decode cX2_makeEndlessWhatRepeats 57 = .ok (.aload 5, 2) := by decide +kernel
theorem dX2_makeEndlessWhatRepeats_59 : decode cX2_makeEndlessWhatRepeats 59 = .ok (.invokevirtual 83, 3) := by decide +kernel
theorem dX2_makeEndlessWhatRepeats_62 : decode cX2_makeEndlessWhatRepeats 62 = .ok (.aload_n 0, 1) := by decide +kernel
theorem dX2_makeEndlessWhatRepeats_63 : decode cX2_makeEndlessWhatRepeats 63 = .ok (.iload_n 1, 1) := by decide +kernel
theorem dX2_makeEndlessWhatRepeats_64 : decode cX2_makeEndlessWhatRepeats 64 = .ok (.iload 4, 2) := by decide +kernel
theorem dX2_makeEndlessWhatRepeats_66 : decode cX2_makeEndlessWhatRepeats 66 = .ok (.invokevirtual 86, 3) := by decide +kernel
theorem dX2_makeEndlessWhatRepeats_69 : decode cX2_makeEndlessWhatRepeats 69 = .ok (.aload_n 0, 1) := by decide +kernel
theorem dX2_makeEndlessWhatRepeats_70 : decode cX2_makeEndlessWhatRepeats 70 = .ok (.getfield 16, 3) := by decide +kernel
theorem dX2_makeEndlessWhatRepeats_73 : decode cX2_makeEndlessWhatRepeats 73 = .ok (.iload_n 3, 1) := by decide +kernel
theorem dX2_makeEndlessWhatRepeats_74 : decode cX2_makeEndlessWhatRepeats 74 = .ok (.iaload, 1) := by decide +kernel
theorem dX2_makeEndlessWhatRepeats_75 : decode cX2_makeEndlessWhatRepeats 75 = .ok (.istore_n 3, 1) := by decide +kernel
theorem dX2_makeEndlessWhatRepeats_76 : decode cX2_makeEndlessWhatRepeats 76 = .ok (.iinc 4 (-1), 3) := by decide +kernel
theorem dX2_makeEndlessWhatRepeats_79 : decode cX2_makeEndlessWhatRepeats 79 = .ok (.goto (-55), 3) := by decide +kernel
theorem dX2_makeEndlessWhatRepeats_82 : decode cX2_makeEndlessWhatRepeats 82 = .ok (.return_, 1) := by decide +kernel
theorem dX2_makeEndlessWhereMore_0 : decode cX2_makeEndlessWhereMore 0 = .ok (.iconst 0, 1) := by decide +kernel
theorem dX2_makeEndlessWhereMore_1 : decode cX2_makeEndlessWhereMore 1 = .ok (.istore_n 3, 1) := by decide +kernel
theorem dX2_makeEndlessWhereMore_2 : decode cX2_makeEndlessWhereMore 2 = .ok (.iload_n 3, 1) := by decide +kernel
theorem dX2_makeEndlessWhereMore_3 : decode cX2_makeEndlessWhereMore 3 = .ok (.bipush 6, 2) := by decide +kernel
theorem dX2_makeEndlessWhereMore_5 : decode cX2_makeEndlessWhereMore 5 = .ok (.if_icmp .ge 23, 3) := by decide +kernel
theorem dX2_makeEndlessWhereMore_8 : decode cX2_makeEndlessWhereMore 8 = .ok (.aload_n 1, 1) := by decide +kernel
theorem dX2_makeEndlessWhereMore_9 : decode cX2_makeEndlessWhereMore 9 = .ok (.iload_n 3, 1) := by decide +kernel
theorem dX2_makeEndlessWhereMore_10 : decode cX2_makeEndlessWhereMore 10 = .ok (.iaload, 1) := by decide +kernel
theorem dX2_makeEndlessWhereMore_11 : decode cX2_makeEndlessWhereMore 11 = .ok (.aload_n 2, 1) := by decide +kernel
theorem dX2_makeEndlessWhereMore_12 : decode cX2_makeEndlessWhereMore 12 = .ok (.iload_n 3, 1) := by decide +kernel
theorem dX2_makeEndlessWhereMore_13 : decode cX2_makeEndlessWhereMore 13 = .ok (.iaload, 1) := by decide +kernel
theorem dX2_makeEndlessWhereMore_14 : decode cX2_makeEndlessWhereMore 14 = .ok (.if_icmp .le 8, 3) := by decide +kernel
theorem dX2_makeEndlessWhereMore_17 : decode cX2_makeEndlessWhereMore 17 = .ok (.aload_n 1, 1) := by decide +kernel
theorem dX2_makeEndlessWhereMore_18 : decode cX2_makeEndlessWhereMore 18 = .ok (.iload_n 3, 1) := by decide +kernel
theorem dX2_makeEndlessWhereMore_19 : decode cX2_makeEndlessWhereMore 19 = .ok (.ldc 90, 2) := by decide +kernel
theorem dX2_makeEndlessWhereMore_21 : decode cX2_makeEndlessWhereMore 21 = .ok (.iastore, 1) := by decide +kernel
theorem dX2_makeEndlessWhereMore_22 : decode cX2_makeEndlessWhereMore 22 = .ok (.iinc 3 1, 3) := by decide +kernel
theorem dX2_makeEndlessWhereMore_25 : decode cX2_makeEndlessWhereMore 25 = .ok (.goto (-23), 3) := by decide +kernel
theorem dX2_makeEndlessWhereMore_28 : decode cX2_makeEndlessWhereMore 28 = .ok (.return_, 1) := by decide +kernel
theorem dX2_noteFirstEndless_0 : decode cX2_noteFirstEndless 0 = .ok (.aload_n 0, 1) := by decide +kernel
theorem dX2_noteFirstEndless_1 : decode cX2_noteFirstEndless 1 = .ok (.getfield 61, 3) := by decide +kernel
theorem dX2_noteFirstEndless_4 : decode cX2_noteFirstEndless 4 = .ok (.bipush (-2), 2) := by decide +kernel
theorem dX2_noteFirstEndless_6 : decode cX2_noteFirstEndless 6 = .ok (.if_icmp .ne 13, 3) := by decide +kernel
theorem dX2_noteFirstEndless_9 : decode cX2_noteFirstEndless 9 = .ok (.aload_n 0, 1) := by decide +kernel
theorem dX2_noteFirstEndless_10 : decode cX2_noteFirstEndless 10 = .ok (.iload_n 1, 1) := by decide +kernel
theorem dX2_noteFirstEndless_11 : decode cX2_noteFirstEndless 11 = .ok (.putfield 61, 3) := by decide +kernel
theorem dX2_noteFirstEndless_14 : decode cX2_noteFirstEndless 14 = .ok (.aload_n 0, 1) := by decide +kernel
theorem dX2_noteFirstEndless_15 : decode cX2_noteFirstEndless 15 = .ok (.iload_n 2, 1) := by decide +kernel
theorem dX2_noteFirstEndless_16 : decode cX2_noteFirstEndless 16 = .ok (.putfield 91, 3) := by decide +kernel
theorem dX2_noteFirstEndless_19 : decode cX2_noteFirstEndless 19 = .ok (.return_, 1) := by decide +kernel
theorem dX2_isAmongEarlier_0 : decode cX2_isAmongEarlier 0 = .ok (.iconst 0, 1) := by decide +kernel
theorem dX2_isAmongEarlier_1 : decode cX2_isAmongEarlier 1 = .ok (.istore_n 2, 1) := by decide +kernel
theorem dX2_isAmongEarlier_2 : decode cX2_isAmongEarlier 2 = .ok (.iload_n 2, 1) := by decide +kernel
theorem dX2_isAmongEarlier_3 : decode cX2_isAmongEarlier 3 = .ok (.iload_n 1, 1) := by decide +kernel
theorem dX2_isAmongEarlier_4 : decode cX2_isAmongEarlier 4 = .ok (.if_icmp .ge 29, 3) := by decide +kernel
theorem dX2_isAmongEarlier_7 : decode cX2_isAmongEarlier 7 = .ok (.aload_n 0, 1) := by decide +kernel
theorem dX2_isAmongEarlier_8 : decode cX2_isAmongEarlier 8 = .ok (.getfield 11, 3) := by decide +kernel
theorem dX2_isAmongEarlier_11 : decode cX2_isAmongEarlier 11 = .ok (.iload_n 2, 1) := by decide +kernel
theorem dX2_isAmongEarlier_12 : decode cX2_isAmongEarlier 12 = .ok (.aaload, 1) := by decide +kernel
theorem dX2_isAmongEarlier_13 : decode cX2_isAmongEarlier 13 = .ok (.aload_n 0, 1) := by decide +kernel
theorem dX2_isAmongEarlier_14 : decode cX2_isAmongEarlier 14 = .ok (.getfield 11, 3) := by decide +kernel
theorem dX2_isAmongEarlier_17 : decode cX2_isAmongEarlier 17 = .ok (.iload_n 1, 1) := by decide +kernel
theorem dX2_isAmongEarlier_18 : decode cX2_isAmongEarlier 18 = .ok (.aaload, 1) := by decide +kernel
theorem dX2_isAmongEarlier_19 : decode cX2_isAmongEarlier 19 = .ok (.invokestatic 80, 3) := by decide +kernel
theorem dX2_isAmongEarlier_22 : decode cX2_isAmongEarlier 22 = .ok (.ifCond .eq 5, 3) := by decide +kernel
theorem dX2_isAmongEarlier_25 : decode cX2_isAmongEarlier 25 = .ok (.iconst 1, 1) := by decide +kernel
theorem dX2_isAmongEarlier_26 : decode cX2_isAmongEarlier 26 = .ok (.ireturn, 1) := by decide +kernel
theorem dX2_isAmongEarlier_27 : decode cX2_isAmongEarlier 27 = .ok (.iinc 2 1, 3) := by decide +kernel
theorem dX2_isAmongEarlier_30 : decode cX2_isAmongEarlier 30 = .ok (.goto (-28), 3) := by decide +kernel
theorem dX2_isAmongEarlier_33 : decode cX2_isAmongEarlier 33 = .ok (.iconst 0, 1) := by decide +kernel
theorem dX2_isAmongEarlier_34 : decode cX2_isAmongEarlier 34 = .ok (.ireturn, 1) := by decide +kernel
theorem dX2_hasEndless_0 : decode cX2_hasEndless 0 = .ok (.aload_n 0, 1) := by decide +kernel
theorem dX2_hasEndless_1 : decode cX2_hasEndless 1 = .ok (.getfield 61, 3) := by decide +kernel
theorem dX2_hasEndless_4 : decode cX2_hasEndless 4 = .ok (.bipush (-2), 2) := by decide +kernel
theorem dX2_hasEndless_6 : decode cX2_hasEndless 6 = .ok (.if_icmp .eq 7, 3) := by decide +kernel
theorem dX2_hasEndless_9 : decode cX2_hasEndless 9 = .ok (.iconst 1, 1) := by decide +kernel
theorem dX2_hasEndless_10 : decode cX2_hasEndless 10 = .ok (.goto 4, 3) := by decide +kernel
theorem dX2_hasEndless_13 : decode cX2_hasEndless 13 = .ok (.iconst 0, 1) := by decide +kernel
theorem dX2_hasEndless_14 : decode cX2_hasEndless 14 = .ok (.ireturn, 1) := by decide +kernel
theorem dX2_stepToFirstEndless_0 : decode cX2_stepToFirstEndless 0 = .ok (.aload_n 0, 1) := by decide +kernel
theorem dX2_stepToFirstEndless_1 : decode cX2_stepToFirstEndless 1 = .ok (.getfield 61, 3) := by decide +kernel
theorem dX2_stepToFirstEndless_4 : decode cX2_stepToFirstEndless 4 = .ok (.istore_n 2, 1) := by decide +kernel
theorem dX2_stepToFirstEndless_5 : decode cX2_stepToFirstEndless 5 = .ok (.iload_n 1, 1) := by decide +kernel
theorem dX2_stepToFirstEndless_6 : decode cX2_stepToFirstEndless 6 = .ok (.aload_n 0, 1) := by decide +kernel
theorem dX2_stepToFirstEndless_7 : decode cX2_stepToFirstEndless 7 = .ok (.getfield 23, 3) := by decide +kernel
theorem dX2_stepToFirstEndless_10 : decode cX2_stepToFirstEndless 10 = .ok (.iload_n 2, 1) := by decide +kernel
theorem dX2_stepToFirstEndless_11 : decode cX2_stepToFirstEndless 11 = .ok (.iaload, 1) := by decide +kernel
theorem dX2_stepToFirstEndless_12 : decode cX2_stepToFirstEndless 12 = .ok (.if_icmp .lt 5, 3) := by decide +kernel
theorem dX2_stepToFirstEndless_15 : decode cX2_stepToFirstEndless 15 = .ok (.iconst (-1), 1) := by decide +kernel
theorem dX2_stepToFirstEndless_16 : decode cX2_stepToFirstEndless 16 = .ok (.ireturn, 1) := by decide +kernel
theorem dX2_stepToFirstEndless_17 : decode cX2_stepToFirstEndless 17 = .ok (.aload_n 0, 1) := by decide +kernel
theorem dX2_stepToFirstEndless_18 : decode cX2_stepToFirstEndless 18 = .ok (.getfield 23, 3) := by decide +kernel
theorem dX2_stepToFirstEndless_21 : decode cX2_stepToFirstEndless 21 = .ok (.iload_n 2, 1) := by decide +kernel
theorem dX2_stepToFirstEndless_22 : decode cX2_stepToFirstEndless 22 = .ok (.iaload, 1) := by decide +kernel
theorem dX2_stepToFirstEndless_23 : decode cX2_stepToFirstEndless 23 = .ok (.istore_n 3, 1) := by decide +kernel
theorem dX2_stepToFirstEndless_24 : decode cX2_stepToFirstEndless 24 = .ok (.iload_n 3, 1) := by decide +kernel
theorem dX2_stepToFirstEndless_25 : decode cX2_stepToFirstEndless 25 = .ok (.iload_n 1, 1) := by decide +kernel
theorem dX2_stepToFirstEndless_26 : decode cX2_stepToFirstEndless 26 = .ok (.iconst 1, 1) := by decide +kernel
theorem dX2_stepToFirstEndless_27 : decode cX2_stepToFirstEndless 27 = .ok (.iadd, 1) := by decide +kernel
theorem dX2_stepToFirstEndless_28 : decode cX2_stepToFirstEndless 28 = .ok (.if_icmp .le 16, 3) := by decide +kernel
theorem dX2_stepToFirstEndless_31 : decode cX2_stepToFirstEndless 31 = .ok (.aload_n 0, 1) := by decide +kernel
theorem dX2_stepToFirstEndless_32 : decode cX2_stepToFirstEndless 32 = .ok (.getfield 16, 3) := by decide +kernel
theorem dX2_stepToFirstEndless_35 : decode cX2_stepToFirstEndless 35 = .ok (.iload_n 2, 1) := by decide +kernel
theorem dX2_stepToFirstEndless_36 : decode cX2_stepToFirstEndless 36 = .ok (.iaload, 1) := by decide +kernel
theorem dX2_stepToFirstEndless_37 : decode cX2_stepToFirstEndless 37 = .ok (.istore_n 2, 1) := by decide +kernel
theorem dX2_stepToFirstEndless_38 : decode cX2_stepToFirstEndless 38 = .ok (.iinc 3 (-1), 3) := by decide +kernel
theorem dX2_stepToFirstEndless_41 : decode cX2_stepToFirstEndless 41 = .ok (.goto (-17), 3) := by decide +kernel
theorem dX2_stepToFirstEndless_44 : decode cX2_stepToFirstEndless 44 = .ok (.aload_n 0, 1) := by decide +kernel
theorem dX2_stepToFirstEndless_45 : decode cX2_stepToFirstEndless 45 = .ok (.getfield 20, 3) := by decide +kernel
theorem dX2_stepToFirstEndless_48 : decode cX2_stepToFirstEndless 48 = .ok (.iload_n 2, 1) := by decide +kernel
theorem dX2_stepToFirstEndless_49 : decode cX2_stepToFirstEndless 49 = .ok (.iaload, 1) := by decide +kernel
theorem dX2_stepToFirstEndless_50 : decode cX2_stepToFirstEndless 50 = .ok (.ireturn, 1) := by decide +kernel
theorem dX2_greatestCount_0 : decode cX2_greatestCount 0 = .ok (.iconst 0, 1) := by decide +kernel
theorem dX2_greatestCount_1 : decode cX2_greatestCount 1 = .ok (.istore_n 2, 1) := by decide +kernel
theorem dX2_greatestCount_2 : decode cX2_greatestCount 2 = .ok (.iconst 0, 1) := by decide +kernel
theorem dX2_greatestCount_3 : decode cX2_greatestCount 3 = .ok (.istore_n 3, 1) := by decide +kernel
theorem dX2_greatestCount_4 : decode cX2_greatestCount 4 = .ok (.iload_n 3, 1) := by decide +kernel
theorem dX2_greatestCount_5 : decode cX2_greatestCount 5 = .ok (.aload_n 0, 1) := by decide +kernel
theorem dX2_greatestCount_6 : decode cX2_greatestCount 6 = .ok (.getfield 47, 3) := by decide +kernel
theorem dX2_greatestCount_9 : decode cX2_greatestCount 9 = .ok (.if_icmp .ge 22, 3) := by decide +kernel
theorem dX2_greatestCount_12 : decode cX2_greatestCount 12 = .ok (.iload_n 2, 1) := by decide +kernel
theorem dX2_greatestCount_13 : decode cX2_greatestCount 13 = .ok (.aload_n 0, 1) := by decide +kernel
theorem dX2_greatestCount_14 : decode cX2_greatestCount 14 = .ok (.getfield 11, 3) := by decide +kernel
theorem dX2_greatestCount_17 : decode cX2_greatestCount 17 = .ok (.iload_n 3, 1) := by decide +kernel
theorem dX2_greatestCount_18 : decode cX2_greatestCount 18 = .ok (.aaload, 1) := by decide +kernel
theorem dX2_greatestCount_19 : decode cX2_greatestCount 19 = .ok (.iload_n 1, 1) := by decide +kernel
theorem dX2_greatestCount_20 : decode cX2_greatestCount 20 = .ok (.iaload, 1) := by decide +kernel
theorem dX2_greatestCount_21 : decode cX2_greatestCount 21 = .ok (.invokestatic 94, 3) := by decide +kernel
theorem dX2_greatestCount_24 : decode cX2_greatestCount 24 = .ok (.istore_n 2, 1) := by decide +kernel
theorem dX2_greatestCount_25 : decode cX2_greatestCount 25 = .ok (.iinc 3 1, 3) := by decide +kernel
theorem dX2_greatestCount_28 : decode cX2_greatestCount 28 = .ok (.goto (-24), 3) := by decide +kernel
theorem dX2_greatestCount_31 : decode cX2_greatestCount 31 = .ok (.iload_n 2, 1) := by decide +kernel
theorem dX2_greatestCount_32 : decode cX2_greatestCount 32 = .ok (.ireturn, 1) := by decide +kernel
theorem dX2_hasNodeCovering_0 : decode cX2_hasNodeCovering 0 = .ok (.iconst 0, 1) := by decide +kernel
theorem dX2_hasNodeCovering_1 : decode cX2_hasNodeCovering 1 = .ok (.istore_n 2, 1) := by decide +kernel
theorem dX2_hasNodeCovering_2 : decode cX2_hasNodeCovering 2 = .ok (.iload_n 2, 1) := by decide +kernel
theorem dX2_hasNodeCovering_3 : decode cX2_hasNodeCovering 3 = .ok (.aload_n 0, 1) := by decide +kernel
theorem dX2_hasNodeCovering_4 : decode cX2_hasNodeCovering 4 = .ok (.getfield 47, 3) := by decide +kernel
theorem dX2_hasNodeCovering_7 : decode cX2_hasNodeCovering 7 = .ok (.if_icmp .ge 24, 3) := by decide +kernel
theorem dX2_hasNodeCovering_10 : decode cX2_hasNodeCovering 10 = .ok (.aload_n 0, 1) := by decide +kernel
theorem dX2_hasNodeCovering_11 : decode cX2_hasNodeCovering 11 = .ok (.getfield 11, 3) := by decide +kernel
theorem dX2_hasNodeCovering_14 : decode cX2_hasNodeCovering 14 = .ok (.iload_n 2, 1) := by decide +kernel
theorem dX2_hasNodeCovering_15 : decode cX2_hasNodeCovering 15 = .ok (.aaload, 1) := by decide +kernel
theorem dX2_hasNodeCovering_16 : decode cX2_hasNodeCovering 16 = .ok (.aload_n 1, 1) := by decide +kernel
theorem dX2_hasNodeCovering_17 : decode cX2_hasNodeCovering 17 = .ok (.invokestatic 76, 3) := by decide +kernel
theorem dX2_hasNodeCovering_20 : decode cX2_hasNodeCovering 20 = .ok (.ifCond .eq 5, 3) := by decide +kernel
theorem dX2_hasNodeCovering_23 : decode cX2_hasNodeCovering 23 = .ok (.iconst 1, 1) := by decide +kernel
theorem dX2_hasNodeCovering_24 : decode cX2_hasNodeCovering 24 = .ok (.ireturn, 1) := by decide +kernel
theorem dX2_hasNodeCovering_25 : decode cX2_hasNodeCovering 25 = .ok (.iinc 2 1, 3) := by decide +kernel
theorem dX2_hasNodeCovering_28 : decode cX2_hasNodeCovering 28 = .ok (.goto (-26), 3) := by decide +kernel
theorem dX2_hasNodeCovering_31 : decode cX2_hasNodeCovering 31 = .ok (.iconst 0, 1) := by decide +kernel
theorem dX2_hasNodeCovering_32 : decode cX2_hasNodeCovering 32 = .ok (.ireturn, 1) := by decide +kernel
theorem dX2_hasNodeEnabling_0 : decode cX2_hasNodeEnabling 0 = .ok (.aload_n 0, 1) := by decide +kernel
theorem dX2_hasNodeEnabling_1 : decode cX2_hasNodeEnabling 1 = .ok (.aload_n 0, 1) := by decide +kernel
theorem dX2_hasNodeEnabling_2 : decode cX2_hasNodeEnabling 2 = .ok (.getfield 30, 3) := by decide +kernel
theorem dX2_hasNodeEnabling_5 : decode cX2_hasNodeEnabling 5 = .ok (.getfield 99, 3) := by decide +kernel
theorem dX2_hasNodeEnabling_8 : decode cX2_hasNodeEnabling 8 = .ok (.iload_n 1, 1) := by decide +kernel
theorem dX2_hasNodeEnabling_9 : decode cX2_hasNodeEnabling 9 = .ok (.aaload, 1) := by decide +kernel
theorem dX2_hasNodeEnabling_10 : decode cX2_hasNodeEnabling 10 = .ok (.invokevirtual 102, 3) := by decide +kernel
theorem dX2_hasNodeEnabling_13 : decode cX2_hasNodeEnabling 13 = .ok (.ireturn, 1) := by decide +kernel
theorem dX3_init_0 : decode cX3_init 0 = .ok (.aload_n 0, 1) := by decide +kernel
theorem dX3_init_1 : decode cX3_init 1 = .ok (.invokespecial 1, 3) := by decide +kernel
theorem dX3_init_4 : decode cX3_init 4 = .ok (.aload_n 0, 1) := by decide +kernel
theorem dX3_init_5 : decode cX3_init 5 = .ok (.new 7, 3) := by decide +kernel
theorem dX3_init_8 : decode cX3_init 8 = .ok (.dup, 1) := by decide +kernel
theorem dX3_init_9 : decode cX3_init 9 = .ok (.invokespecial 9, 3) := by decide +kernel
theorem dX3_init_12 : decode cX3_init 12 = .ok (.putfield 10, 3) := by decide +kernel
theorem dX3_init_15 : decode cX3_init 15 = .ok (.aload_n 0, 1) := by decide +kernel
theorem dX3_init_16 : decode cX3_init 16 = .ok (.bipush 6, 2) := by decide +kernel
theorem dX3_init_18 : decode cX3_init 18 = .ok (.newarray .int, 2) := by decide +kernel
theorem dX3_init_20 : decode cX3_init 20 = .ok (.putfield 16, 3) := by decide +kernel
theorem dX3_init_23 : decode cX3_init 23 = .ok (.aload_n 0, 1) := by decide +kernel
theorem dX3_init_24 : decode cX3_init 24 = .ok (.new 20, 3) := by decide +kernel
theorem dX3_init_27 : decode cX3_init 27 = .ok (.dup, 1) := by decide +kernel
theorem dX3_init_28 : decode cX3_init 28 = .ok (.aload_n 0, 1) := by decide +kernel
theorem dX3_init_29 : decode cX3_init 29 = .ok (.getfield 10, 3) := by decide +kernel
theorem dX3_init_32 : decode cX3_init 32 = .ok (.invokespecial 22, 3) := by decide +kernel
theorem dX3_init_35 : decode cX3_init 35 = .ok (.putfield 25, 3) := by decide +kernel
theorem dX3_init_38 : decode cX3_init 38 = .ok (.aload_n 0, 1) := by decide +kernel
theorem dX3_init_39 : decode cX3_init 39 = .ok (.new 29, 3) := by decide +kernel
theorem dX3_init_42 : decode cX3_init 42 = .ok (.dup, 1) := by decide +kernel
theorem dX3_init_43 : decode cX3_init 43 = .ok (.aload_n 0, 1) := by decide +kernel
theorem dX3_init_44 : decode cX3_init 44 = .ok (.getfield 10, 3) := by decide +kernel
theorem dX3_init_47 : decode cX3_init 47 = .ok (.invokespecial 31, 3) := by decide +kernel
theorem dX3_init_50 : decode cX3_init 50 = .ok (.putfield 32, 3) := by decide +kernel
theorem dX3_init_53 : decode cX3_init 53 = .ok (.return_, 1) := by decide +kernel
theorem dX3_place_0 : decode cX3_place 0 = .ok (.iload_n 1, 1) := by decide +kernel
theorem dX3_place_1 : decode cX3_place 1 = .ok (.bipush 9, 2) := by decide +kernel
theorem dX3_place_3 : decode cX3_place 3 = .ok (.invokestatic 36, 3) := by decide +kernel
theorem dX3_place_6 : decode cX3_place 6 = .ok (.aload_n 0, 1) := by decide +kernel
theorem dX3_place_7 : decode cX3_place 7 = .ok (.getfield 10, 3) := by decide +kernel
theorem dX3_place_10 : decode cX3_place 10 = .ok (.getfield 40, 3) := by decide +kernel
theorem dX3_place_13 : decode cX3_place 13 = .ok (.bipush 6, 2) := by decide +kernel
theorem dX3_place_15 : decode cX3_place 15 = .ok (.if_icmp .ne 13, 3) := by decide +kernel
theorem dX3_place_18 : decode cX3_place 18 = .ok (.new 44, 3) := by decide +kernel
theorem dX3_place_21 : decode cX3_place 21 = .ok (.dup, 1) := by decide +kernel
theorem dX3_place_22 : decode cX3_place 22 = .ok (.ldc 46, 2) := by decide +kernel
theorem dX3_place_24 : decode cX3_place 24 = .ok (.invokespecial 48, 3) := by decide +kernel
theorem dX3_place_27 : decode cX3_place 27 = .ok (.athrow, 1) := by decide +kernel
theorem dX3_place_28 : decode cX3_place 28 = .ok (.aload_n 0, 1) := by decide +kernel
theorem dX3_place_29 : decode cX3_place 29 = .ok (.invokevirtual 51, 3) := by decide +kernel
theorem dX3_place_32 : decode cX3_place 32 = .ok (.aload_n 0, 1) := by decide +kernel
theorem dX3_place_33 : decode cX3_place 33 = .ok (.getfield 10, 3) := by decide +kernel
theorem dX3_place_36 : decode cX3_place 36 = .ok (.iload_n 1, 1) := by decide +kernel
theorem dX3_place_37 : decode cX3_place 37 = .ok (.invokevirtual 54, 3) := by decide +kernel
theorem dX3_place_40 : decode cX3_place 40 = .ok (.ireturn, 1) := by decide +kernel
theorem dX3_transition_0 : decode cX3_transition 0 = .ok (.aload_n 0, 1) := by decide +kernel
theorem dX3_transition_1 : decode cX3_transition 1 = .ok (.getfield 10, 3) := by decide +kernel
theorem dX3_transition_4 : decode cX3_transition 4 = .ok (.getfield 58, 3) := by decide +kernel
theorem dX3_transition_7 : decode cX3_transition 7 = .ok (.bipush 8, 2) := by decide +kernel
theorem dX3_transition_9 : decode cX3_transition 9 = .ok (.if_icmp .ne 13, 3) := by decide +kernel
theorem dX3_transition_12 : decode cX3_transition 12 = .ok (.new 44, 3) := by decide +kernel
theorem dX3_transition_15 : decode cX3_transition 15 = .ok (.dup, 1) := by decide +kernel
theorem dX3_transition_16 : decode cX3_transition 16 = .ok (.ldc 61, 2) := by decide +kernel
theorem dX3_transition_18 : decode cX3_transition 18 = .ok (.invokespecial 48, 3) := by decide +kernel
theorem dX3_transition_21 : decode cX3_transition 21 = .ok (.athrow, 1) := by decide +kernel
theorem dX3_transition_22 : decode cX3_transition 22 = .ok (.aload_n 0, 1) := by decide +kernel
theorem dX3_transition_23 : decode cX3_transition 23 = .ok (.invokevirtual 51, 3) := by decide +kernel
theorem dX3_transition_26 : decode cX3_transition 26 = .ok (.aload_n 0, 1) := by decide +kernel
theorem dX3_transition_27 : decode cX3_transition 27 = .ok (.getfield 10, 3) := by decide +kernel
theorem dX3_transition_30 : decode cX3_transition 30 = .ok (.invokevirtual 63, 3) := by decide +kernel
theorem dX3_transition_33 : decode cX3_transition 33 = .ok (.ireturn, 1) := by decide +kernel
theorem dX3_arc_0 : decode cX3_arc 0 = .ok (.aload_n 0, 1) := by decide +kernel
theorem dX3_arc_1 : decode cX3_arc 1 = .ok (.iload_n 1, 1) := by decide +kernel
theorem dX3_arc_2 : decode cX3_arc 2 = .ok (.invokevirtual 67, 3) := by decide +kernel
theorem dX3_arc_5 : decode cX3_arc 5 = .ok (.aload_n 0, 1) := by decide +kernel
theorem dX3_arc_6 : decode cX3_arc 6 = .ok (.iload_n 2, 1) := by decide +kernel
theorem dX3_arc_7 : decode cX3_arc 7 = .ok (.invokevirtual 71, 3) := by decide +kernel
theorem dX3_arc_10 : decode cX3_arc 10 = .ok (.iload_n 3, 1) := by decide +kernel
theorem dX3_arc_11 : decode cX3_arc 11 = .ok (.iconst 4, 1) := by decide +kernel
theorem dX3_arc_12 : decode cX3_arc 12 = .ok (.invokestatic 36, 3) := by decide +kernel
theorem dX3_arc_15 : decode cX3_arc 15 = .ok (.aload_n 0, 1) := by decide +kernel
theorem dX3_arc_16 : decode cX3_arc 16 = .ok (.invokevirtual 51, 3) := by decide +kernel
theorem dX3_arc_19 : decode cX3_arc 19 = .ok (.aload_n 0, 1) := by decide +kernel
theorem dX3_arc_20 : decode cX3_arc 20 = .ok (.getfield 10, 3) := by decide +kernel
theorem dX3_arc_23 : decode cX3_arc 23 = .ok (.iload_n 1, 1) := by decide +kernel
theorem dX3_arc_24 : decode cX3_arc 24 = .ok (.iload_n 2, 1) := by decide +kernel
theorem dX3_arc_25 : decode cX3_arc 25 = .ok (.iload_n 3, 1) := by decide +kernel
theorem dX3_arc_26 : decode cX3_arc 26 = .ok (.iload 4, 2) := by decide +kernel
theorem dX3_arc_28 : decode cX3_arc 28 = .ok (.invokevirtual 74, 3) := by decide +kernel
theorem dX3_arc_31 : decode cX3_arc 31 = .ok (.ireturn, 1) := by decide +kernel
theorem dX3_tokens_0 : decode cX3_tokens 0 = .ok (.aload_n 0, 1) := by decide +kernel
theorem dX3_tokens_1 : decode cX3_tokens 1 = .ok (.iload_n 1, 1) := by decide +kernel
theorem dX3_tokens_2 : decode cX3_tokens 2 = .ok (.invokevirtual 67, 3) := by decide +kernel
theorem dX3_tokens_5 : decode cX3_tokens 5 = .ok (.iload_n 2, 1) := by decide +kernel
theorem dX3_tokens_6 : decode cX3_tokens 6 = .ok (.bipush 9, 2) := by decide +kernel
theorem dX3_tokens_8 : decode cX3_tokens 8 = .ok (.invokestatic 36, 3) := by decide +kernel
theorem dX3_tokens_11 : decode cX3_tokens 11 = .ok (.aload_n 0, 1) := by decide +kernel
theorem dX3_tokens_12 : decode cX3_tokens 12 = .ok (.invokevirtual 51, 3) := by decide +kernel
theorem dX3_tokens_15 : decode cX3_tokens 15 = .ok (.aload_n 0, 1) := by decide +kernel
theorem dX3_tokens_16 : decode cX3_tokens 16 = .ok (.getfield 10, 3) := by decide +kernel
theorem dX3_tokens_19 : decode cX3_tokens 19 = .ok (.getfield 78, 3) := by decide +kernel
theorem dX3_tokens_22 : decode cX3_tokens 22 = .ok (.iload_n 1, 1) := by decide +kernel
theorem dX3_tokens_23 : decode cX3_tokens 23 = .ok (.iload_n 2, 1) := by decide +kernel
theorem dX3_tokens_24 : decode cX3_tokens 24 = .ok (.iastore, 1) := by decide +kernel
theorem dX3_tokens_25 : decode cX3_tokens 25 = .ok (.return_, 1) := by decide +kernel
theorem dX3_explore_0 : decode cX3_explore 0 = .ok (.aload_n 0, 1) := by decide +kernel
theorem dX3_explore_1 : decode cX3_explore 1 = .ok (.invokevirtual 51, 3) := by decide +kernel
theorem dX3_explore_4 : decode cX3_explore 4 = .ok (.aload_n 0, 1) := by decide +kernel
theorem dX3_explore_5 : decode cX3_explore 5 = .ok (.getfield 25, 3) := by decide +kernel
theorem dX3_explore_8 : decode cX3_explore 8 = .ok (.invokevirtual 81, 3) := by decide +kernel
theorem dX3_explore_11 : decode cX3_explore 11 = .ok (.ifCond .ne 13, 3) := by decide +kernel
theorem dX3_explore_14 : decode cX3_explore 14 = .ok (.new 85, 3) := by decide +kernel
theorem dX3_explore_17 : decode cX3_explore 17 = .ok (.dup, 1) := by decide +kernel
theorem dX3_explore_18 : decode cX3_explore 18 = .ok (.ldc 87, 2) := by decide +kernel
theorem dX3_explore_20 : decode cX3_explore 20 = .ok (.invokespecial 89, 3) := by decide +kernel
theorem dX3_explore_23 : decode cX3_explore 23 = .ok (.athrow, 1) := by decide +kernel
theorem dX3_explore_24 : decode cX3_explore 24 = .ok (.aload_n 0, 1) := by decide +kernel
theorem dX3_explore_25 : decode cX3_explore 25 = .ok (.getfield 25, 3) := by decide +kernel
theorem dX3_explore_28 : decode cX3_explore 28 = .ok (.getfield 90, 3) := by decide +kernel
theorem dX3_explore_31 : decode cX3_explore 31 = .ok (.ireturn, 1) := by decide +kernel
theorem dX3_count_0 : decode cX3_count 0 = .ok (.aload_n 0, 1) := by decide +kernel
theorem dX3_count_1 : decode cX3_count 1 = .ok (.invokevirtual 93, 3) := by decide +kernel
theorem dX3_count_4 : decode cX3_count 4 = .ok (.aload_n 0, 1) := by decide +kernel
theorem dX3_count_5 : decode cX3_count 5 = .ok (.iload_n 1, 1) := by decide +kernel
theorem dX3_count_6 : decode cX3_count 6 = .ok (.invokevirtual 96, 3) := by decide +kernel
theorem dX3_count_9 : decode cX3_count 9 = .ok (.aload_n 0, 1) := by decide +kernel
theorem dX3_count_10 : decode cX3_count 10 = .ok (.iload_n 2, 1) := by decide +kernel
theorem dX3_count_11 : decode cX3_count 11 = .ok (.invokevirtual 67, 3) := by decide +kernel
theorem dX3_count_14 : decode cX3_count 14 = .ok (.aload_n 0, 1) := by decide +kernel
theorem dX3_count_15 : decode cX3_count 15 = .ok (.getfield 25, 3) := by decide +kernel
theorem dX3_count_18 : decode cX3_count 18 = .ok (.getfield 99, 3) := by decide +kernel
theorem dX3_count_21 : decode cX3_count 21 = .ok (.iload_n 1, 1) := by decide +kernel
theorem dX3_count_22 : decode cX3_count 22 = .ok (.aaload, 1) := by decide +kernel
theorem dX3_count_23 : decode cX3_count 23 = .ok (.iload_n 2, 1) := by decide +kernel
theorem dX3_count_24 : decode cX3_count 24 = .ok (.iaload, 1) := by decide +kernel
theorem dX3_count_25 : decode cX3_count 25 = .ok (.invokestatic 103, 3) := by decide +kernel
theorem dX3_count_28 : decode cX3_count 28 = .ok (.ireturn, 1) := by decide +kernel
theorem dX3_node_0 : decode cX3_node 0 = .ok (.aload_n 0, 1) := by decide +kernel
theorem dX3_node_1 : decode cX3_node 1 = .ok (.invokevirtual 93, 3) := by decide +kernel
theorem dX3_node_4 : decode cX3_node 4 = .ok (.aload_n 0, 1) := by decide +kernel
theorem dX3_node_5 : decode cX3_node 5 = .ok (.iload_n 1, 1) := by decide +kernel
theorem dX3_node_6 : decode cX3_node 6 = .ok (.invokevirtual 96, 3) := by decide +kernel
theorem dX3_node_9 : decode cX3_node 9 = .ok (.iload_n 2, 1) := by decide +kernel
theorem dX3_node_10 : decode cX3_node 10 = .ok (.tableswitch 64 0 2 #[26, 36, 46], 26) := by decide +kernel
theorem dX3_node_36 : decode cX3_node 36 = .ok (.aload_n 0, 1) := by decide +kernel
theorem dX3_node_37 : decode cX3_node 37 = .ok (.getfield 25, 3) := by decide +kernel
theorem dX3_node_40 : decode cX3_node 40 = .ok (.getfield 106, 3) := by decide +kernel
theorem dX3_node_43 : decode cX3_node 43 = .ok (.iload_n 1, 1) := by decide +kernel
theorem dX3_node_44 : decode cX3_node 44 = .ok (.iaload, 1) := by decide +kernel
theorem dX3_node_45 : decode cX3_node 45 = .ok (.ireturn, 1) := by decide +kernel
theorem dX3_node_46 : decode cX3_node 46 = .ok (.aload_n 0, 1) := by decide +kernel
theorem dX3_node_47 : decode cX3_node 47 = .ok (.getfield 25, 3) := by decide +kernel
theorem dX3_node_50 : decode cX3_node 50 = .ok (.getfield 109, 3) := by decide +kernel
theorem dX3_node_53 : decode cX3_node 53 = .ok (.iload_n 1, 1) := by decide +kernel
theorem dX3_node_54 : decode cX3_node 54 = .ok (.iaload, 1) := by decide +kernel
theorem dX3_node_55 : decode cX3_node 55 = .ok (.ireturn, 1) := by decide +kernel
theorem dX3_node_56 : decode cX3_node 56 = .ok (.aload_n 0, 1) := by decide +kernel
theorem dX3_node_57 : decode cX3_node 57 = .ok (.getfield 25, 3) := by decide +kernel
theorem dX3_node_60 : decode cX3_node 60 = .ok (.getfield 112, 3) := by decide +kernel
theorem dX3_node_63 : decode cX3_node 63 = .ok (.iload_n 1, 1) := by decide +kernel
theorem dX3_node_64 : decode cX3_node 64 = .ok (.baload, 1) := by decide +kernel
theorem dX3_node_65 : decode cX3_node 65 = .ok (.ifCond .eq 7, 3) := by decide +kernel
theorem dX3_node_68 : decode cX3_node 68 = .ok (.iconst 1, 1) := by decide +kernel
theorem dX3_node_69 : decode cX3_node 69 = .ok (.goto 4, 3) := by decide +kernel
theorem dX3_node_72 : decode cX3_node 72 = .ok (.iconst 0, 1) := by decide +kernel
theorem dX3_node_73 : decode cX3_node 73 = .ok (.ireturn, 1) := by decide +kernel
theorem dX3_node_74 : decode cX3_node 74 = .ok (.bipush (-2), 2) := by decide +kernel
theorem dX3_node_76 : decode cX3_node 76 = .ok (.ireturn, 1) := by decide +kernel
theorem dX3_bound_0 : decode cX3_bound 0 = .ok (.aload_n 0, 1) := by decide +kernel
theorem dX3_bound_1 : decode cX3_bound 1 = .ok (.invokevirtual 93, 3) := by decide +kernel
theorem dX3_bound_4 : decode cX3_bound 4 = .ok (.aload_n 0, 1) := by decide +kernel
theorem dX3_bound_5 : decode cX3_bound 5 = .ok (.iload_n 1, 1) := by decide +kernel
theorem dX3_bound_6 : decode cX3_bound 6 = .ok (.invokevirtual 67, 3) := by decide +kernel
theorem dX3_bound_9 : decode cX3_bound 9 = .ok (.aload_n 0, 1) := by decide +kernel
theorem dX3_bound_10 : decode cX3_bound 10 = .ok (.getfield 25, 3) := by decide +kernel
theorem dX3_bound_13 : decode cX3_bound 13 = .ok (.iload_n 1, 1) := by decide +kernel
theorem dX3_bound_14 : decode cX3_bound 14 = .ok (.invokevirtual 116, 3) := by decide +kernel
theorem dX3_bound_17 : decode cX3_bound 17 = .ok (.invokestatic 103, 3) := by decide +kernel
theorem dX3_bound_20 : decode cX3_bound 20 = .ok (.ireturn, 1) := by decide +kernel
theorem dX3_want_0 : decode cX3_want 0 = .ok (.aload_n 0, 1) := by decide +kernel
theorem dX3_want_1 : decode cX3_want 1 = .ok (.iload_n 1, 1) := by decide +kernel
theorem dX3_want_2 : decode cX3_want 2 = .ok (.invokevirtual 67, 3) := by decide +kernel
theorem dX3_want_5 : decode cX3_want 5 = .ok (.iload_n 2, 1) := by decide +kernel
theorem dX3_want_6 : decode cX3_want 6 = .ok (.bipush 99, 2) := by decide +kernel
theorem dX3_want_8 : decode cX3_want 8 = .ok (.invokestatic 36, 3) := by decide +kernel
theorem dX3_want_11 : decode cX3_want 11 = .ok (.aload_n 0, 1) := by decide +kernel
theorem dX3_want_12 : decode cX3_want 12 = .ok (.getfield 16, 3) := by decide +kernel
theorem dX3_want_15 : decode cX3_want 15 = .ok (.iload_n 1, 1) := by decide +kernel
theorem dX3_want_16 : decode cX3_want 16 = .ok (.iload_n 2, 1) := by decide +kernel
theorem dX3_want_17 : decode cX3_want 17 = .ok (.iastore, 1) := by decide +kernel
theorem dX3_want_18 : decode cX3_want 18 = .ok (.return_, 1) := by decide +kernel
theorem dX3_covered_0 : decode cX3_covered 0 = .ok (.aload_n 0, 1) := by decide +kernel
theorem dX3_covered_1 : decode cX3_covered 1 = .ok (.invokevirtual 93, 3) := by decide +kernel
theorem dX3_covered_4 : decode cX3_covered 4 = .ok (.aload_n 0, 1) := by decide +kernel
theorem dX3_covered_5 : decode cX3_covered 5 = .ok (.getfield 25, 3) := by decide +kernel
theorem dX3_covered_8 : decode cX3_covered 8 = .ok (.aload_n 0, 1) := by decide +kernel
theorem dX3_covered_9 : decode cX3_covered 9 = .ok (.getfield 16, 3) := by decide +kernel
theorem dX3_covered_12 : decode cX3_covered 12 = .ok (.invokevirtual 119, 3) := by decide +kernel
theorem dX3_covered_15 : decode cX3_covered 15 = .ok (.ireturn, 1) := by decide +kernel
theorem dX3_possible_0 : decode cX3_possible 0 = .ok (.aload_n 0, 1) := by decide +kernel
theorem dX3_possible_1 : decode cX3_possible 1 = .ok (.invokevirtual 93, 3) := by decide +kernel
theorem dX3_possible_4 : decode cX3_possible 4 = .ok (.aload_n 0, 1) := by decide +kernel
theorem dX3_possible_5 : decode cX3_possible 5 = .ok (.iload_n 1, 1) := by decide +kernel
theorem dX3_possible_6 : decode cX3_possible 6 = .ok (.invokevirtual 71, 3) := by decide +kernel
theorem dX3_possible_9 : decode cX3_possible 9 = .ok (.aload_n 0, 1) := by decide +kernel
theorem dX3_possible_10 : decode cX3_possible 10 = .ok (.getfield 25, 3) := by decide +kernel
theorem dX3_possible_13 : decode cX3_possible 13 = .ok (.iload_n 1, 1) := by decide +kernel
theorem dX3_possible_14 : decode cX3_possible 14 = .ok (.invokevirtual 123, 3) := by decide +kernel
theorem dX3_possible_17 : decode cX3_possible 17 = .ok (.ireturn, 1) := by decide +kernel
theorem dX3_growth_0 : decode cX3_growth 0 = .ok (.aload_n 0, 1) := by decide +kernel
theorem dX3_growth_1 : decode cX3_growth 1 = .ok (.invokevirtual 93, 3) := by decide +kernel
theorem dX3_growth_4 : decode cX3_growth 4 = .ok (.iload_n 1, 1) := by decide +kernel
theorem dX3_growth_5 : decode cX3_growth 5 = .ok (.iconst (-1), 1) := by decide +kernel
theorem dX3_growth_6 : decode cX3_growth 6 = .ok (.if_icmp .ge 13, 3) := by decide +kernel
theorem dX3_growth_9 : decode cX3_growth 9 = .ok (.new 127, 3) := by decide +kernel
theorem dX3_growth_12 : decode cX3_growth 12 = .ok (.dup, 1) := by decide +kernel
theorem dX3_growth_13 : decode cX3_growth 13 = .ok (.ldc 129, 2) := by decide +kernel
theorem dX3_growth_15 : decode cX3_growth 15 = .ok (.invokespecial 131, 3) := by decide +kernel
theorem dX3_growth_18 : decode cX3_growth 18 = .ok (.athrow, 1) := by decide +kernel
theorem dX3_growth_19 : decode cX3_growth 19 = .ok (.aload_n 0, 1) := by decide +kernel
theorem dX3_growth_20 : decode cX3_growth 20 = .ok (.getfield 25, 3) := by decide +kernel
theorem dX3_growth_23 : decode cX3_growth 23 = .ok (.invokevirtual 132, 3) := by decide +kernel
theorem dX3_growth_26 : decode cX3_growth 26 = .ok (.ifCond .ne 6, 3) := by decide +kernel
theorem dX3_growth_29 : decode cX3_growth 29 = .ok (.bipush (-2), 2) := by decide +kernel
theorem dX3_growth_31 : decode cX3_growth 31 = .ok (.ireturn, 1) := by decide +kernel
theorem dX3_growth_32 : decode cX3_growth 32 = .ok (.iload_n 1, 1) := by decide +kernel
theorem dX3_growth_33 : decode cX3_growth 33 = .ok (.iconst (-1), 1) := by decide +kernel
theorem dX3_growth_34 : decode cX3_growth 34 = .ok (.if_icmp .ne 13, 3) := by decide +kernel
theorem dX3_growth_37 : decode cX3_growth 37 = .ok (.aload_n 0, 1) := by decide +kernel
theorem dX3_growth_38 : decode cX3_growth 38 = .ok (.getfield 25, 3) := by decide +kernel
theorem dX3_growth_41 : decode cX3_growth 41 = .ok (.getfield 135, 3) := by decide +kernel
theorem dX3_growth_44 : decode cX3_growth 44 = .ok (.goto 11, 3) := by decide +kernel
theorem dX3_growth_47 : decode cX3_growth 47 = .ok (.aload_n 0, 1) := by decide +kernel
theorem dX3_growth_48 : decode cX3_growth 48 = .ok (.getfield 25, 3) := by decide +kernel
theorem dX3_growth_51 : decode cX3_growth 51 = .ok (.iload_n 1, 1) := by decide +kernel
theorem dX3_growth_52 : decode cX3_growth 52 = .ok (.invokevirtual 138, 3) := by decide +kernel
theorem dX3_growth_55 : decode cX3_growth 55 = .ok (.ireturn, 1) := by decide +kernel
theorem dX3_graph_0 : decode cX3_graph 0 = .ok (.aload_n 0, 1) := by decide +kernel
theorem dX3_graph_1 : decode cX3_graph 1 = .ok (.invokevirtual 93, 3) := by decide +kernel
theorem dX3_graph_4 : decode cX3_graph 4 = .ok (.aload_n 0, 1) := by decide +kernel
theorem dX3_graph_5 : decode cX3_graph 5 = .ok (.getfield 25, 3) := by decide +kernel
theorem dX3_graph_8 : decode cX3_graph 8 = .ok (.invokevirtual 132, 3) := by decide +kernel
theorem dX3_graph_11 : decode cX3_graph 11 = .ok (.ifCond .eq 13, 3) := by decide +kernel
theorem dX3_graph_14 : decode cX3_graph 14 = .ok (.new 44, 3) := by decide +kernel
theorem dX3_graph_17 : decode cX3_graph 17 = .ok (.dup, 1) := by decide +kernel
theorem dX3_graph_18 : decode cX3_graph 18 = .ok (.ldc 141, 2) := by decide +kernel
theorem dX3_graph_20 : decode cX3_graph 20 = .ok (.invokespecial 48, 3) := by decide +kernel
theorem dX3_graph_23 : decode cX3_graph 23 = .ok (.athrow, 1) := by decide +kernel
theorem dX3_graph_24 : decode cX3_graph 24 = .ok (.aload_n 0, 1) := by decide +kernel
theorem dX3_graph_25 : decode cX3_graph 25 = .ok (.getfield 32, 3) := by decide +kernel
theorem dX3_graph_28 : decode cX3_graph 28 = .ok (.invokevirtual 143, 3) := by decide +kernel
theorem dX3_graph_31 : decode cX3_graph 31 = .ok (.ifCond .ne 13, 3) := by decide +kernel
theorem dX3_graph_34 : decode cX3_graph 34 = .ok (.new 85, 3) := by decide +kernel
theorem dX3_graph_37 : decode cX3_graph 37 = .ok (.dup, 1) := by decide +kernel
theorem dX3_graph_38 : decode cX3_graph 38 = .ok (.ldc 146, 2) := by decide +kernel
theorem dX3_graph_40 : decode cX3_graph 40 = .ok (.invokespecial 89, 3) := by decide +kernel
theorem dX3_graph_43 : decode cX3_graph 43 = .ok (.athrow, 1) := by decide +kernel
theorem dX3_graph_44 : decode cX3_graph 44 = .ok (.aload_n 0, 1) := by decide +kernel
theorem dX3_graph_45 : decode cX3_graph 45 = .ok (.getfield 32, 3) := by decide +kernel
theorem dX3_graph_48 : decode cX3_graph 48 = .ok (.getfield 148, 3) := by decide +kernel
theorem dX3_graph_51 : decode cX3_graph 51 = .ok (.ireturn, 1) := by decide +kernel
theorem dX3_reached_0 : decode cX3_reached 0 = .ok (.aload_n 0, 1) := by decide +kernel
theorem dX3_reached_1 : decode cX3_reached 1 = .ok (.invokevirtual 149, 3) := by decide +kernel
theorem dX3_reached_4 : decode cX3_reached 4 = .ok (.aload_n 0, 1) := by decide +kernel
theorem dX3_reached_5 : decode cX3_reached 5 = .ok (.getfield 32, 3) := by decide +kernel
theorem dX3_reached_8 : decode cX3_reached 8 = .ok (.aload_n 0, 1) := by decide +kernel
theorem dX3_reached_9 : decode cX3_reached 9 = .ok (.getfield 16, 3) := by decide +kernel
theorem dX3_reached_12 : decode cX3_reached 12 = .ok (.invokevirtual 152, 3) := by decide +kernel
theorem dX3_reached_15 : decode cX3_reached 15 = .ok (.ireturn, 1) := by decide +kernel
theorem dX3_distance_0 : decode cX3_distance 0 = .ok (.aload_n 0, 1) := by decide +kernel
theorem dX3_distance_1 : decode cX3_distance 1 = .ok (.invokevirtual 149, 3) := by decide +kernel
theorem dX3_distance_4 : decode cX3_distance 4 = .ok (.aload_n 0, 1) := by decide +kernel
theorem dX3_distance_5 : decode cX3_distance 5 = .ok (.iload_n 1, 1) := by decide +kernel
theorem dX3_distance_6 : decode cX3_distance 6 = .ok (.invokevirtual 156, 3) := by decide +kernel
theorem dX3_distance_9 : decode cX3_distance 9 = .ok (.aload_n 0, 1) := by decide +kernel
theorem dX3_distance_10 : decode cX3_distance 10 = .ok (.getfield 32, 3) := by decide +kernel
theorem dX3_distance_13 : decode cX3_distance 13 = .ok (.getfield 159, 3) := by decide +kernel
theorem dX3_distance_16 : decode cX3_distance 16 = .ok (.iload_n 1, 1) := by decide +kernel
theorem dX3_distance_17 : decode cX3_distance 17 = .ok (.iaload, 1) := by decide +kernel
theorem dX3_distance_18 : decode cX3_distance 18 = .ok (.ireturn, 1) := by decide +kernel
theorem dX3_found_0 : decode cX3_found 0 = .ok (.aload_n 0, 1) := by decide +kernel
theorem dX3_found_1 : decode cX3_found 1 = .ok (.invokevirtual 149, 3) := by decide +kernel
theorem dX3_found_4 : decode cX3_found 4 = .ok (.aload_n 0, 1) := by decide +kernel
theorem dX3_found_5 : decode cX3_found 5 = .ok (.iload_n 1, 1) := by decide +kernel
theorem dX3_found_6 : decode cX3_found 6 = .ok (.invokevirtual 156, 3) := by decide +kernel
theorem dX3_found_9 : decode cX3_found 9 = .ok (.iload_n 2, 1) := by decide +kernel
theorem dX3_found_10 : decode cX3_found 10 = .ok (.ifCond .eq 15, 3) := by decide +kernel
theorem dX3_found_13 : decode cX3_found 13 = .ok (.aload_n 0, 1) := by decide +kernel
theorem dX3_found_14 : decode cX3_found 14 = .ok (.getfield 32, 3) := by decide +kernel
theorem dX3_found_17 : decode cX3_found 17 = .ok (.getfield 162, 3) := by decide +kernel
theorem dX3_found_20 : decode cX3_found 20 = .ok (.iload_n 1, 1) := by decide +kernel
theorem dX3_found_21 : decode cX3_found 21 = .ok (.iaload, 1) := by decide +kernel
theorem dX3_found_22 : decode cX3_found 22 = .ok (.goto 12, 3) := by decide +kernel
theorem dX3_found_25 : decode cX3_found 25 = .ok (.aload_n 0, 1) := by decide +kernel
theorem dX3_found_26 : decode cX3_found 26 = .ok (.getfield 32, 3) := by decide +kernel
theorem dX3_found_29 : decode cX3_found 29 = .ok (.getfield 165, 3) := by decide +kernel
theorem dX3_found_32 : decode cX3_found 32 = .ok (.iload_n 1, 1) := by decide +kernel
theorem dX3_found_33 : decode cX3_found 33 = .ok (.iaload, 1) := by decide +kernel
theorem dX3_found_34 : decode cX3_found 34 = .ok (.ireturn, 1) := by decide +kernel
theorem dX3_stops_0 : decode cX3_stops 0 = .ok (.aload_n 0, 1) := by decide +kernel
theorem dX3_stops_1 : decode cX3_stops 1 = .ok (.invokevirtual 149, 3) := by decide +kernel
theorem dX3_stops_4 : decode cX3_stops 4 = .ok (.aload_n 0, 1) := by decide +kernel
theorem dX3_stops_5 : decode cX3_stops 5 = .ok (.getfield 32, 3) := by decide +kernel
theorem dX3_stops_8 : decode cX3_stops 8 = .ok (.invokevirtual 166, 3) := by decide +kernel
theorem dX3_stops_11 : decode cX3_stops 11 = .ok (.ireturn, 1) := by decide +kernel
theorem dX3_live_0 : decode cX3_live 0 = .ok (.aload_n 0, 1) := by decide +kernel
theorem dX3_live_1 : decode cX3_live 1 = .ok (.invokevirtual 149, 3) := by decide +kernel
theorem dX3_live_4 : decode cX3_live 4 = .ok (.aload_n 0, 1) := by decide +kernel
theorem dX3_live_5 : decode cX3_live 5 = .ok (.iload_n 1, 1) := by decide +kernel
theorem dX3_live_6 : decode cX3_live 6 = .ok (.invokevirtual 71, 3) := by decide +kernel
theorem dX3_live_9 : decode cX3_live 9 = .ok (.aload_n 0, 1) := by decide +kernel
theorem dX3_live_10 : decode cX3_live 10 = .ok (.getfield 32, 3) := by decide +kernel
theorem dX3_live_13 : decode cX3_live 13 = .ok (.iload_n 1, 1) := by decide +kernel
theorem dX3_live_14 : decode cX3_live 14 = .ok (.invokevirtual 169, 3) := by decide +kernel
theorem dX3_live_17 : decode cX3_live 17 = .ok (.ireturn, 1) := by decide +kernel
theorem dX3_discard_0 : decode cX3_discard 0 = .ok (.aload_n 0, 1) := by decide +kernel
theorem dX3_discard_1 : decode cX3_discard 1 = .ok (.getfield 25, 3) := by decide +kernel
theorem dX3_discard_4 : decode cX3_discard 4 = .ok (.iconst 0, 1) := by decide +kernel
theorem dX3_discard_5 : decode cX3_discard 5 = .ok (.putfield 90, 3) := by decide +kernel
theorem dX3_discard_8 : decode cX3_discard 8 = .ok (.aload_n 0, 1) := by decide +kernel
theorem dX3_discard_9 : decode cX3_discard 9 = .ok (.getfield 32, 3) := by decide +kernel
theorem dX3_discard_12 : decode cX3_discard 12 = .ok (.iconst 0, 1) := by decide +kernel
theorem dX3_discard_13 : decode cX3_discard 13 = .ok (.putfield 148, 3) := by decide +kernel
theorem dX3_discard_16 : decode cX3_discard 16 = .ok (.return_, 1) := by decide +kernel
theorem dX3_needRange_0 : decode cX3_needRange 0 = .ok (.iload_n 0, 1) := by decide +kernel
theorem dX3_needRange_1 : decode cX3_needRange 1 = .ok (.ifCond .lt 8, 3) := by decide +kernel
theorem dX3_needRange_4 : decode cX3_needRange 4 = .ok (.iload_n 0, 1) := by decide +kernel
theorem dX3_needRange_5 : decode cX3_needRange 5 = .ok (.iload_n 1, 1) := by decide +kernel
theorem dX3_needRange_6 : decode cX3_needRange 6 = .ok (.if_icmp .le 13, 3) := by decide +kernel
theorem dX3_needRange_9 : decode cX3_needRange 9 = .ok (.new 127, 3) := by decide +kernel
theorem dX3_needRange_12 : decode cX3_needRange 12 = .ok (.dup, 1) := by decide +kernel
theorem dX3_needRange_13 : decode cX3_needRange 13 = .ok (.ldc 172, 2) := by decide +kernel
theorem dX3_needRange_15 : decode cX3_needRange 15 = .ok (.invokespecial 131, 3) := by decide +kernel
theorem dX3_needRange_18 : decode cX3_needRange 18 = .ok (.athrow, 1) := by decide +kernel
theorem dX3_needRange_19 : decode cX3_needRange 19 = .ok (.return_, 1) := by decide +kernel
theorem dX3_needPlace_0 : decode cX3_needPlace 0 = .ok (.iload_n 1, 1) := by decide +kernel
theorem dX3_needPlace_1 : decode cX3_needPlace 1 = .ok (.ifCond .lt 14, 3) := by decide +kernel
theorem dX3_needPlace_4 : decode cX3_needPlace 4 = .ok (.iload_n 1, 1) := by decide +kernel
theorem dX3_needPlace_5 : decode cX3_needPlace 5 = .ok (.aload_n 0, 1) := by decide +kernel
theorem dX3_needPlace_6 : decode cX3_needPlace 6 = .ok (.getfield 10, 3) := by decide +kernel
theorem dX3_needPlace_9 : decode cX3_needPlace 9 = .ok (.getfield 40, 3) := by decide +kernel
theorem dX3_needPlace_12 : decode cX3_needPlace 12 = .ok (.if_icmp .lt 13, 3) := by decide +kernel
theorem dX3_needPlace_15 : decode cX3_needPlace 15 = .ok (.new 174, 3) := by decide +kernel
theorem dX3_needPlace_18 : decode cX3_needPlace 18 = .ok (.dup, 1) := by decide +kernel
theorem dX3_needPlace_19 : decode cX3_needPlace 19 = .ok (.ldc 176, 2) := by decide +kernel
theorem dX3_needPlace_21 : decode cX3_needPlace 21 = .ok (.invokespecial 178, 3) := by decide +kernel
theorem dX3_needPlace_24 : decode cX3_needPlace 24 = .ok (.athrow, 1) := by decide +kernel
theorem dX3_needPlace_25 : decode cX3_needPlace 25 = .ok (.return_, 1) := by decide +kernel
theorem dX3_needTransition_0 : decode cX3_needTransition 0 = .ok (.iload_n 1, 1) := by decide +kernel
theorem dX3_needTransition_1 : decode cX3_needTransition 1 = .ok (.ifCond .lt 14, 3) := by decide +kernel
theorem dX3_needTransition_4 : decode cX3_needTransition 4 = .ok (.iload_n 1, 1) := by decide +kernel
theorem dX3_needTransition_5 : decode cX3_needTransition 5 = .ok (.aload_n 0, 1) := by decide +kernel
theorem dX3_needTransition_6 : decode cX3_needTransition 6 = .ok (.getfield 10, 3) := by decide +kernel
theorem dX3_needTransition_9 : decode cX3_needTransition 9 = .ok (.getfield 58, 3) := by decide +kernel
theorem dX3_needTransition_12 : decode cX3_needTransition 12 = .ok (.if_icmp .lt 13, 3) := by decide +kernel
theorem dX3_needTransition_15 : decode cX3_needTransition 15 = .ok (.new 174, 3) := by decide +kernel
theorem dX3_needTransition_18 : decode cX3_needTransition 18 = .ok (.dup, 1) := by decide +kernel
theorem dX3_needTransition_19 : decode cX3_needTransition 19 = .ok (.ldc 179, 2) := by decide +kernel
theorem dX3_needTransition_21 : decode cX3_needTransition 21 = .ok (.invokespecial 178, 3) := by decide +kernel
theorem dX3_needTransition_24 : decode cX3_needTransition 24 = .ok (.athrow, 1) := by decide +kernel
theorem dX3_needTransition_25 : decode cX3_needTransition 25 = .ok (.return_, 1) := by decide +kernel
theorem dX3_needTree_0 : decode cX3_needTree 0 = .ok (.aload_n 0, 1) := by decide +kernel
theorem dX3_needTree_1 : decode cX3_needTree 1 = .ok (.getfield 25, 3) := by decide +kernel
theorem dX3_needTree_4 : decode cX3_needTree 4 = .ok (.getfield 90, 3) := by decide +kernel
theorem dX3_needTree_7 : decode cX3_needTree 7 = .ok (.ifCond .ne 13, 3) := by decide +kernel
theorem dX3_needTree_10 : decode cX3_needTree 10 = .ok (.new 44, 3) := by decide +kernel
theorem dX3_needTree_13 : decode cX3_needTree 13 = .ok (.dup, 1) := by decide +kernel
theorem dX3_needTree_14 : decode cX3_needTree 14 = .ok (.ldc 181, 2) := by decide +kernel
theorem dX3_needTree_16 : decode cX3_needTree 16 = .ok (.invokespecial 48, 3) := by decide +kernel
theorem dX3_needTree_19 : decode cX3_needTree 19 = .ok (.athrow, 1) := by decide +kernel
theorem dX3_needTree_20 : decode cX3_needTree 20 = .ok (.return_, 1) := by decide +kernel
theorem dX3_needNode_0 : decode cX3_needNode 0 = .ok (.iload_n 1, 1) := by decide +kernel
theorem dX3_needNode_1 : decode cX3_needNode 1 = .ok (.ifCond .lt 14, 3) := by decide +kernel
theorem dX3_needNode_4 : decode cX3_needNode 4 = .ok (.iload_n 1, 1) := by decide +kernel
theorem dX3_needNode_5 : decode cX3_needNode 5 = .ok (.aload_n 0, 1) := by decide +kernel
theorem dX3_needNode_6 : decode cX3_needNode 6 = .ok (.getfield 25, 3) := by decide +kernel
theorem dX3_needNode_9 : decode cX3_needNode 9 = .ok (.getfield 90, 3) := by decide +kernel
theorem dX3_needNode_12 : decode cX3_needNode 12 = .ok (.if_icmp .lt 13, 3) := by decide +kernel
theorem dX3_needNode_15 : decode cX3_needNode 15 = .ok (.new 174, 3) := by decide +kernel
theorem dX3_needNode_18 : decode cX3_needNode 18 = .ok (.dup, 1) := by decide +kernel
theorem dX3_needNode_19 : decode cX3_needNode 19 = .ok (.ldc 183, 2) := by decide +kernel
theorem dX3_needNode_21 : decode cX3_needNode 21 = .ok (.invokespecial 178, 3) := by decide +kernel
theorem dX3_needNode_24 : decode cX3_needNode 24 = .ok (.athrow, 1) := by decide +kernel
theorem dX3_needNode_25 : decode cX3_needNode 25 = .ok (.return_, 1) := by decide +kernel
theorem dX3_needGraph_0 : decode cX3_needGraph 0 = .ok (.aload_n 0, 1) := by decide +kernel
theorem dX3_needGraph_1 : decode cX3_needGraph 1 = .ok (.getfield 32, 3) := by decide +kernel
theorem dX3_needGraph_4 : decode cX3_needGraph 4 = .ok (.getfield 148, 3) := by decide +kernel
theorem dX3_needGraph_7 : decode cX3_needGraph 7 = .ok (.ifCond .ne 13, 3) := by decide +kernel
theorem dX3_needGraph_10 : decode cX3_needGraph 10 = .ok (.new 44, 3) := by decide +kernel
theorem dX3_needGraph_13 : decode cX3_needGraph 13 = .ok (.dup, 1) := by decide +kernel
theorem dX3_needGraph_14 : decode cX3_needGraph 14 = .ok (.ldc 185, 2) := by decide +kernel
theorem dX3_needGraph_16 : decode cX3_needGraph 16 = .ok (.invokespecial 48, 3) := by decide +kernel
theorem dX3_needGraph_19 : decode cX3_needGraph 19 = .ok (.athrow, 1) := by decide +kernel
theorem dX3_needGraph_20 : decode cX3_needGraph 20 = .ok (.return_, 1) := by decide +kernel
theorem dX3_needState_0 : decode cX3_needState 0 = .ok (.iload_n 1, 1) := by decide +kernel
theorem dX3_needState_1 : decode cX3_needState 1 = .ok (.ifCond .lt 14, 3) := by decide +kernel
theorem dX3_needState_4 : decode cX3_needState 4 = .ok (.iload_n 1, 1) := by decide +kernel
theorem dX3_needState_5 : decode cX3_needState 5 = .ok (.aload_n 0, 1) := by decide +kernel
theorem dX3_needState_6 : decode cX3_needState 6 = .ok (.getfield 32, 3) := by decide +kernel
theorem dX3_needState_9 : decode cX3_needState 9 = .ok (.getfield 148, 3) := by decide +kernel
theorem dX3_needState_12 : decode cX3_needState 12 = .ok (.if_icmp .lt 13, 3) := by decide +kernel
theorem dX3_needState_15 : decode cX3_needState 15 = .ok (.new 174, 3) := by decide +kernel
theorem dX3_needState_18 : decode cX3_needState 18 = .ok (.dup, 1) := by decide +kernel
theorem dX3_needState_19 : decode cX3_needState 19 = .ok (.ldc 187, 2) := by decide +kernel
theorem dX3_needState_21 : decode cX3_needState 21 = .ok (.invokespecial 178, 3) := by decide +kernel
theorem dX3_needState_24 : decode cX3_needState 24 = .ok (.athrow, 1) := by decide +kernel
theorem dX3_needState_25 : decode cX3_needState 25 = .ok (.return_, 1) := by decide +kernel
theorem dX3_asTold_0 : decode cX3_asTold 0 = .ok (.iload_n 0, 1) := by decide +kernel
theorem dX3_asTold_1 : decode cX3_asTold 1 = .ok (.ldc 189, 2) := by decide +kernel
theorem dX3_asTold_3 : decode cX3_asTold 3 = .ok (.if_icmp .ne 7, 3) := by decide +kernel
theorem dX3_asTold_6 : decode cX3_asTold 6 = .ok (.iconst (-1), 1) := by decide +kernel
theorem dX3_asTold_7 : decode cX3_asTold 7 = .ok (.goto 4, 3) := by decide +kernel
theorem dX3_asTold_10 : decode cX3_asTold 10 = .ok (.iload_n 0, 1) := by decide +kernel
theorem dX3_asTold_11 : decode cX3_asTold 11 = .ok (.ireturn, 1) := by decide +kernel
theorem dX3_covers_0 : decode cX3_covers 0 = .ok (.iconst 0, 1) := by decide +kernel
theorem dX3_covers_1 : decode cX3_covers 1 = .ok (.istore_n 2, 1) := by decide +kernel
theorem dX3_covers_2 : decode cX3_covers 2 = .ok (.iload_n 2, 1) := by decide +kernel
theorem dX3_covers_3 : decode cX3_covers 3 = .ok (.bipush 6, 2) := by decide +kernel
theorem dX3_covers_5 : decode cX3_covers 5 = .ok (.if_icmp .ge 20, 3) := by decide +kernel
theorem dX3_covers_8 : decode cX3_covers 8 = .ok (.aload_n 0, 1) := by decide +kernel
theorem dX3_covers_9 : decode cX3_covers 9 = .ok (.iload_n 2, 1) := by decide +kernel
theorem dX3_covers_10 : decode cX3_covers 10 = .ok (.iaload, 1) := by decide +kernel
theorem dX3_covers_11 : decode cX3_covers 11 = .ok (.aload_n 1, 1) := by decide +kernel
theorem dX3_covers_12 : decode cX3_covers 12 = .ok (.iload_n 2, 1) := by decide +kernel
theorem dX3_covers_13 : decode cX3_covers 13 = .ok (.iaload, 1) := by decide +kernel
theorem dX3_covers_14 : decode cX3_covers 14 = .ok (.if_icmp .ge 5, 3) := by decide +kernel
theorem dX3_covers_17 : decode cX3_covers 17 = .ok (.iconst 0, 1) := by decide +kernel
theorem dX3_covers_18 : decode cX3_covers 18 = .ok (.ireturn, 1) := by decide +kernel
theorem dX3_covers_19 : decode cX3_covers 19 = .ok (.iinc 2 1, 3) := by decide +kernel
theorem dX3_covers_22 : decode cX3_covers 22 = .ok (.goto (-20), 3) := by decide +kernel
theorem dX3_covers_25 : decode cX3_covers 25 = .ok (.iconst 1, 1) := by decide +kernel
theorem dX3_covers_26 : decode cX3_covers 26 = .ok (.ireturn, 1) := by decide +kernel
theorem dX3_same_0 : decode cX3_same 0 = .ok (.iconst 0, 1) := by decide +kernel
theorem dX3_same_1 : decode cX3_same 1 = .ok (.istore_n 2, 1) := by decide +kernel
theorem dX3_same_2 : decode cX3_same 2 = .ok (.iload_n 2, 1) := by decide +kernel
theorem dX3_same_3 : decode cX3_same 3 = .ok (.bipush 6, 2) := by decide +kernel
theorem dX3_same_5 : decode cX3_same 5 = .ok (.if_icmp .ge 20, 3) := by decide +kernel
theorem dX3_same_8 : decode cX3_same 8 = .ok (.aload_n 0, 1) := by decide +kernel
theorem dX3_same_9 : decode cX3_same 9 = .ok (.iload_n 2, 1) := by decide +kernel
