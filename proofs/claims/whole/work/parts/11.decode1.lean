theorem dX3_same_10 : decode cX3_same 10 = .ok (.iaload, 1) := by decide +kernel
theorem dX3_same_11 : decode cX3_same 11 = .ok (.aload_n 1, 1) := by decide +kernel
theorem dX3_same_12 : decode cX3_same 12 = .ok (.iload_n 2, 1) := by decide +kernel
theorem dX3_same_13 : decode cX3_same 13 = .ok (.iaload, 1) := by decide +kernel
theorem dX3_same_14 : decode cX3_same 14 = .ok (.if_icmp .eq 5, 3) := by decide +kernel
theorem dX3_same_17 : decode cX3_same 17 = .ok (.iconst 0, 1) := by decide +kernel
theorem dX3_same_18 : decode cX3_same 18 = .ok (.ireturn, 1) := by decide +kernel
theorem dX3_same_19 : decode cX3_same 19 = .ok (.iinc 2 1, 3) := by decide +kernel
theorem dX3_same_22 : decode cX3_same 22 = .ok (.goto (-20), 3) := by decide +kernel
theorem dX3_same_25 : decode cX3_same 25 = .ok (.iconst 1, 1) := by decide +kernel
theorem dX3_same_26 : decode cX3_same 26 = .ok (.ireturn, 1) := by decide +kernel
theorem dX3_copyInto_0 : decode cX3_copyInto 0 = .ok (.aload_n 1, 1) := by decide +kernel
theorem dX3_copyInto_1 : decode cX3_copyInto 1 = .ok (.iconst 0, 1) := by decide +kernel
theorem dX3_copyInto_2 : decode cX3_copyInto 2 = .ok (.aload_n 0, 1) := by decide +kernel
theorem dX3_copyInto_3 : decode cX3_copyInto 3 = .ok (.iconst 0, 1) := by decide +kernel
theorem dX3_copyInto_4 : decode cX3_copyInto 4 = .ok (.bipush 6, 2) := by decide +kernel
theorem dX3_copyInto_6 : decode cX3_copyInto 6 = .ok (.invokestatic 190, 3) := by decide +kernel
theorem dX3_copyInto_9 : decode cX3_copyInto 9 = .ok (.return_, 1) := by decide +kernel
theorem dX4_init_0 : decode cX4_init 0 = .ok (.aload_n 0, 1) := by decide +kernel
theorem dX4_init_1 : decode cX4_init 1 = .ok (.invokespecial 1, 3) := by decide +kernel
theorem dX4_init_4 : decode cX4_init 4 = .ok (.aload_n 0, 1) := by decide +kernel
theorem dX4_init_5 : decode cX4_init 5 = .ok (.bipush 6, 2) := by decide +kernel
theorem dX4_init_7 : decode cX4_init 7 = .ok (.newarray .int, 2) := by decide +kernel
theorem dX4_init_9 : decode cX4_init 9 = .ok (.putfield 7, 3) := by decide +kernel
theorem dX4_init_12 : decode cX4_init 12 = .ok (.aload_n 0, 1) := by decide +kernel
theorem dX4_init_13 : decode cX4_init 13 = .ok (.bipush 6, 2) := by decide +kernel
theorem dX4_init_15 : decode cX4_init 15 = .ok (.newarray .int, 2) := by decide +kernel
theorem dX4_init_17 : decode cX4_init 17 = .ok (.putfield 13, 3) := by decide +kernel
theorem dX4_init_20 : decode cX4_init 20 = .ok (.aload_n 0, 1) := by decide +kernel
theorem dX4_init_21 : decode cX4_init 21 = .ok (.bipush 48, 2) := by decide +kernel
theorem dX4_init_23 : decode cX4_init 23 = .ok (.newarray .int, 2) := by decide +kernel
theorem dX4_init_25 : decode cX4_init 25 = .ok (.putfield 16, 3) := by decide +kernel
theorem dX4_init_28 : decode cX4_init 28 = .ok (.aload_n 0, 1) := by decide +kernel
theorem dX4_init_29 : decode cX4_init 29 = .ok (.bipush 48, 2) := by decide +kernel
theorem dX4_init_31 : decode cX4_init 31 = .ok (.newarray .int, 2) := by decide +kernel
theorem dX4_init_33 : decode cX4_init 33 = .ok (.putfield 19, 3) := by decide +kernel
theorem dX4_init_36 : decode cX4_init 36 = .ok (.aload_n 0, 1) := by decide +kernel
theorem dX4_init_37 : decode cX4_init 37 = .ok (.iconst (-1), 1) := by decide +kernel
theorem dX4_init_38 : decode cX4_init 38 = .ok (.putfield 22, 3) := by decide +kernel
theorem dX4_init_41 : decode cX4_init 41 = .ok (.aload_n 0, 1) := by decide +kernel
theorem dX4_init_42 : decode cX4_init 42 = .ok (.sipush 600, 3) := by decide +kernel
theorem dX4_init_45 : decode cX4_init 45 = .ok (.newarray .int, 2) := by decide +kernel
theorem dX4_init_47 : decode cX4_init 47 = .ok (.putfield 26, 3) := by decide +kernel
theorem dX4_init_50 : decode cX4_init 50 = .ok (.aload_n 0, 1) := by decide +kernel
theorem dX4_init_51 : decode cX4_init 51 = .ok (.bipush 100, 2) := by decide +kernel
theorem dX4_init_53 : decode cX4_init 53 = .ok (.newarray .int, 2) := by decide +kernel
theorem dX4_init_55 : decode cX4_init 55 = .ok (.putfield 29, 3) := by decide +kernel
theorem dX4_init_58 : decode cX4_init 58 = .ok (.aload_n 0, 1) := by decide +kernel
theorem dX4_init_59 : decode cX4_init 59 = .ok (.bipush 100, 2) := by decide +kernel
theorem dX4_init_61 : decode cX4_init 61 = .ok (.newarray .int, 2) := by decide +kernel
theorem dX4_init_63 : decode cX4_init 63 = .ok (.putfield 32, 3) := by decide +kernel
theorem dX4_init_66 : decode cX4_init 66 = .ok (.aload_n 0, 1) := by decide +kernel
theorem dX4_init_67 : decode cX4_init 67 = .ok (.bipush 100, 2) := by decide +kernel
theorem dX4_init_69 : decode cX4_init 69 = .ok (.newarray .int, 2) := by decide +kernel
theorem dX4_init_71 : decode cX4_init 71 = .ok (.putfield 35, 3) := by decide +kernel
theorem dX4_init_74 : decode cX4_init 74 = .ok (.aload_n 0, 1) := by decide +kernel
theorem dX4_init_75 : decode cX4_init 75 = .ok (.bipush 100, 2) := by decide +kernel
theorem dX4_init_77 : decode cX4_init 77 = .ok (.newarray .boolean, 2) := by decide +kernel
theorem dX4_init_79 : decode cX4_init 79 = .ok (.putfield 38, 3) := by decide +kernel
theorem dX4_init_82 : decode cX4_init 82 = .ok (.aload_n 0, 1) := by decide +kernel
theorem dX4_init_83 : decode cX4_init 83 = .ok (.iconst (-1), 1) := by decide +kernel
theorem dX4_init_84 : decode cX4_init 84 = .ok (.putfield 42, 3) := by decide +kernel
theorem dX4_init_87 : decode cX4_init 87 = .ok (.aload_n 0, 1) := by decide +kernel
theorem dX4_init_88 : decode cX4_init 88 = .ok (.sipush 240, 3) := by decide +kernel
theorem dX4_init_91 : decode cX4_init 91 = .ok (.newarray .int, 2) := by decide +kernel
theorem dX4_init_93 : decode cX4_init 93 = .ok (.putfield 45, 3) := by decide +kernel
theorem dX4_init_96 : decode cX4_init 96 = .ok (.aload_n 0, 1) := by decide +kernel
theorem dX4_init_97 : decode cX4_init 97 = .ok (.sipush 320, 3) := by decide +kernel
theorem dX4_init_100 : decode cX4_init 100 = .ok (.newarray .int, 2) := by decide +kernel
theorem dX4_init_102 : decode cX4_init 102 = .ok (.putfield 48, 3) := by decide +kernel
theorem dX4_init_105 : decode cX4_init 105 = .ok (.aload_n 0, 1) := by decide +kernel
theorem dX4_init_106 : decode cX4_init 106 = .ok (.bipush 40, 2) := by decide +kernel
theorem dX4_init_108 : decode cX4_init 108 = .ok (.newarray .int, 2) := by decide +kernel
theorem dX4_init_110 : decode cX4_init 110 = .ok (.putfield 51, 3) := by decide +kernel
theorem dX4_init_113 : decode cX4_init 113 = .ok (.aload_n 0, 1) := by decide +kernel
theorem dX4_init_114 : decode cX4_init 114 = .ok (.bipush 40, 2) := by decide +kernel
theorem dX4_init_116 : decode cX4_init 116 = .ok (.newarray .int, 2) := by decide +kernel
theorem dX4_init_118 : decode cX4_init 118 = .ok (.putfield 54, 3) := by decide +kernel
theorem dX4_init_121 : decode cX4_init 121 = .ok (.aload_n 0, 1) := by decide +kernel
theorem dX4_init_122 : decode cX4_init 122 = .ok (.bipush 40, 2) := by decide +kernel
theorem dX4_init_124 : decode cX4_init 124 = .ok (.newarray .boolean, 2) := by decide +kernel
theorem dX4_init_126 : decode cX4_init 126 = .ok (.putfield 57, 3) := by decide +kernel
theorem dX4_init_129 : decode cX4_init 129 = .ok (.aload_n 0, 1) := by decide +kernel
theorem dX4_init_130 : decode cX4_init 130 = .ok (.bipush 6, 2) := by decide +kernel
theorem dX4_init_132 : decode cX4_init 132 = .ok (.newarray .int, 2) := by decide +kernel
theorem dX4_init_134 : decode cX4_init 134 = .ok (.putfield 60, 3) := by decide +kernel
theorem dX4_init_137 : decode cX4_init 137 = .ok (.return_, 1) := by decide +kernel
theorem dX4_thrown_0 : decode cX4_thrown 0 = .ok (.aload_n 0, 1) := by decide +kernel
theorem dX4_thrown_1 : decode cX4_thrown 1 = .ok (.getfield 63, 3) := by decide +kernel
theorem dX4_thrown_4 : decode cX4_thrown 4 = .ok (.ireturn, 1) := by decide +kernel
theorem dX4_discard_0 : decode cX4_discard 0 = .ok (.aload_n 0, 1) := by decide +kernel
theorem dX4_discard_1 : decode cX4_discard 1 = .ok (.iconst (-1), 1) := by decide +kernel
theorem dX4_discard_2 : decode cX4_discard 2 = .ok (.putfield 22, 3) := by decide +kernel
theorem dX4_discard_5 : decode cX4_discard 5 = .ok (.aload_n 0, 1) := by decide +kernel
theorem dX4_discard_6 : decode cX4_discard 6 = .ok (.iconst (-1), 1) := by decide +kernel
theorem dX4_discard_7 : decode cX4_discard 7 = .ok (.putfield 42, 3) := by decide +kernel
theorem dX4_discard_10 : decode cX4_discard 10 = .ok (.return_, 1) := by decide +kernel
theorem dX4_noPlace_0 : decode cX4_noPlace 0 = .ok (.iload_n 1, 1) := by decide +kernel
theorem dX4_noPlace_1 : decode cX4_noPlace 1 = .ok (.ifCond .lt 11, 3) := by decide +kernel
theorem dX4_noPlace_4 : decode cX4_noPlace 4 = .ok (.iload_n 1, 1) := by decide +kernel
theorem dX4_noPlace_5 : decode cX4_noPlace 5 = .ok (.aload_n 0, 1) := by decide +kernel
theorem dX4_noPlace_6 : decode cX4_noPlace 6 = .ok (.getfield 66, 3) := by decide +kernel
theorem dX4_noPlace_9 : decode cX4_noPlace 9 = .ok (.if_icmp .lt 7, 3) := by decide +kernel
theorem dX4_noPlace_12 : decode cX4_noPlace 12 = .ok (.iconst 1, 1) := by decide +kernel
theorem dX4_noPlace_13 : decode cX4_noPlace 13 = .ok (.goto 4, 3) := by decide +kernel
theorem dX4_noPlace_16 : decode cX4_noPlace 16 = .ok (.iconst 0, 1) := by decide +kernel
theorem dX4_noPlace_17 : decode cX4_noPlace 17 = .ok (.ireturn, 1) := by decide +kernel
theorem dX4_noTransition_0 : decode cX4_noTransition 0 = .ok (.iload_n 1, 1) := by decide +kernel
theorem dX4_noTransition_1 : decode cX4_noTransition 1 = .ok (.ifCond .lt 11, 3) := by decide +kernel
theorem dX4_noTransition_4 : decode cX4_noTransition 4 = .ok (.iload_n 1, 1) := by decide +kernel
theorem dX4_noTransition_5 : decode cX4_noTransition 5 = .ok (.aload_n 0, 1) := by decide +kernel
theorem dX4_noTransition_6 : decode cX4_noTransition 6 = .ok (.getfield 69, 3) := by decide +kernel
theorem dX4_noTransition_9 : decode cX4_noTransition 9 = .ok (.if_icmp .lt 7, 3) := by decide +kernel
theorem dX4_noTransition_12 : decode cX4_noTransition 12 = .ok (.iconst 1, 1) := by decide +kernel
theorem dX4_noTransition_13 : decode cX4_noTransition 13 = .ok (.goto 4, 3) := by decide +kernel
theorem dX4_noTransition_16 : decode cX4_noTransition 16 = .ok (.iconst 0, 1) := by decide +kernel
theorem dX4_noTransition_17 : decode cX4_noTransition 17 = .ok (.ireturn, 1) := by decide +kernel
theorem dX4_place_0 : decode cX4_place 0 = .ok (.aload_n 0, 1) := by decide +kernel
theorem dX4_place_1 : decode cX4_place 1 = .ok (.iload_n 1, 1) := by decide +kernel
theorem dX4_place_2 : decode cX4_place 2 = .ok (.ifCond .lt 9, 3) := by decide +kernel
theorem dX4_place_5 : decode cX4_place 5 = .ok (.iload_n 1, 1) := by decide +kernel
theorem dX4_place_6 : decode cX4_place 6 = .ok (.bipush 9, 2) := by decide +kernel
theorem dX4_place_8 : decode cX4_place 8 = .ok (.if_icmp .le 7, 3) := by decide +kernel
theorem dX4_place_11 : decode cX4_place 11 = .ok (.iconst 1, 1) := by decide +kernel
theorem dX4_place_12 : decode cX4_place 12 = .ok (.goto 17, 3) := by decide +kernel
theorem dX4_place_15 : decode cX4_place 15 = .ok (.aload_n 0, 1) := by decide +kernel
theorem dX4_place_16 : decode cX4_place 16 = .ok (.getfield 66, 3) := by decide +kernel
theorem dX4_place_19 : decode cX4_place 19 = .ok (.bipush 6, 2) := by decide +kernel
theorem dX4_place_21 : decode cX4_place 21 = .ok (.if_icmp .ne 7, 3) := by decide +kernel
theorem dX4_place_24 : decode cX4_place 24 = .ok (.iconst 2, 1) := by decide +kernel
theorem dX4_place_25 : decode cX4_place 25 = .ok (.goto 4, 3) := by decide +kernel
theorem dX4_place_28 : decode cX4_place 28 = .ok (.iconst 0, 1) := by decide +kernel
theorem dX4_place_29 : decode cX4_place 29 = .ok (.putfield 63, 3) := by decide +kernel
theorem dX4_place_32 : decode cX4_place 32 = .ok (.aload_n 0, 1) := by decide +kernel
theorem dX4_place_33 : decode cX4_place 33 = .ok (.getfield 63, 3) := by decide +kernel
theorem dX4_place_36 : decode cX4_place 36 = .ok (.ifCond .le 5, 3) := by decide +kernel
theorem dX4_place_39 : decode cX4_place 39 = .ok (.iconst 0, 1) := by decide +kernel
theorem dX4_place_40 : decode cX4_place 40 = .ok (.ireturn, 1) := by decide +kernel
theorem dX4_place_41 : decode cX4_place 41 = .ok (.aload_n 0, 1) := by decide +kernel
theorem dX4_place_42 : decode cX4_place 42 = .ok (.invokevirtual 72, 3) := by decide +kernel
theorem dX4_place_45 : decode cX4_place 45 = .ok (.aload_n 0, 1) := by decide +kernel
theorem dX4_place_46 : decode cX4_place 46 = .ok (.getfield 7, 3) := by decide +kernel
theorem dX4_place_49 : decode cX4_place 49 = .ok (.aload_n 0, 1) := by decide +kernel
theorem dX4_place_50 : decode cX4_place 50 = .ok (.getfield 66, 3) := by decide +kernel
theorem dX4_place_53 : decode cX4_place 53 = .ok (.iload_n 1, 1) := by decide +kernel
theorem dX4_place_54 : decode cX4_place 54 = .ok (.iastore, 1) := by decide +kernel
theorem dX4_place_55 : decode cX4_place 55 = .ok (.aload_n 0, 1) := by decide +kernel
theorem dX4_place_56 : decode cX4_place 56 = .ok (.getfield 13, 3) := by decide +kernel
theorem dX4_place_59 : decode cX4_place 59 = .ok (.aload_n 0, 1) := by decide +kernel
theorem dX4_place_60 : decode cX4_place 60 = .ok (.getfield 66, 3) := by decide +kernel
theorem dX4_place_63 : decode cX4_place 63 = .ok (.iconst 0, 1) := by decide +kernel
theorem dX4_place_64 : decode cX4_place 64 = .ok (.iastore, 1) := by decide +kernel
theorem dX4_place_65 : decode cX4_place 65 = .ok (.iconst 0, 1) := by decide +kernel
theorem dX4_place_66 : decode cX4_place 66 = .ok (.istore_n 2, 1) := by decide +kernel
theorem dX4_place_67 : decode cX4_place 67 = .ok (.iload_n 2, 1) := by decide +kernel
theorem dX4_place_68 : decode cX4_place 68 = .ok (.bipush 8, 2) := by decide +kernel
theorem dX4_place_70 : decode cX4_place 70 = .ok (.if_icmp .ge 39, 3) := by decide +kernel
theorem dX4_place_73 : decode cX4_place 73 = .ok (.aload_n 0, 1) := by decide +kernel
theorem dX4_place_74 : decode cX4_place 74 = .ok (.getfield 16, 3) := by decide +kernel
theorem dX4_place_77 : decode cX4_place 77 = .ok (.bipush 6, 2) := by decide +kernel
theorem dX4_place_79 : decode cX4_place 79 = .ok (.iload_n 2, 1) := by decide +kernel
theorem dX4_place_80 : decode cX4_place 80 = .ok (.imul, 1) := by decide +kernel
theorem dX4_place_81 : decode cX4_place 81 = .ok (.aload_n 0, 1) := by decide +kernel
theorem dX4_place_82 : decode cX4_place 82 = .ok (.getfield 66, 3) := by decide +kernel
theorem dX4_place_85 : decode cX4_place 85 = .ok (.iadd, 1) := by decide +kernel
theorem dX4_place_86 : decode cX4_place 86 = .ok (.iconst 0, 1) := by decide +kernel
theorem dX4_place_87 : decode cX4_place 87 = .ok (.iastore, 1) := by decide +kernel
theorem dX4_place_88 : decode cX4_place 88 = .ok (.aload_n 0, 1) := by decide +kernel
theorem dX4_place_89 : decode cX4_place 89 = .ok (.getfield 19, 3) := by decide +kernel
theorem dX4_place_92 : decode cX4_place 92 = .ok (.bipush 6, 2) := by decide +kernel
theorem dX4_place_94 : decode cX4_place 94 = .ok (.iload_n 2, 1) := by decide +kernel
theorem dX4_place_95 : decode cX4_place 95 = .ok (.imul, 1) := by decide +kernel
theorem dX4_place_96 : decode cX4_place 96 = .ok (.aload_n 0, 1) := by decide +kernel
theorem dX4_place_97 : decode cX4_place 97 = .ok (.getfield 66, 3) := by decide +kernel
theorem dX4_place_100 : decode cX4_place 100 = .ok (.iadd, 1) := by decide +kernel
theorem dX4_place_101 : decode cX4_place 101 = .ok (.iconst 0, 1) := by decide +kernel
theorem dX4_place_102 : decode cX4_place 102 = .ok (.iastore, 1) := by decide +kernel
theorem dX4_place_103 : decode cX4_place 103 = .ok (.iinc 2 1, 3) := by decide +kernel
theorem dX4_place_106 : decode cX4_place 106 = .ok (.goto (-39), 3) := by decide +kernel
theorem dX4_place_109 : decode cX4_place 109 = .ok (.aload_n 0, 1) := by decide +kernel
theorem dX4_place_110 : decode cX4_place 110 = .ok (.dup, 1) := by decide +kernel
theorem dX4_place_111 : decode cX4_place 111 = .ok (.getfield 66, 3) := by decide +kernel
theorem dX4_place_114 : decode cX4_place 114 = .ok (.iconst 1, 1) := by decide +kernel
theorem dX4_place_115 : decode cX4_place 115 = .ok (.iadd, 1) := by decide +kernel
theorem dX4_place_116 : decode cX4_place 116 = .ok (.putfield 66, 3) := by decide +kernel
theorem dX4_place_119 : decode cX4_place 119 = .ok (.aload_n 0, 1) := by decide +kernel
theorem dX4_place_120 : decode cX4_place 120 = .ok (.getfield 66, 3) := by decide +kernel
theorem dX4_place_123 : decode cX4_place 123 = .ok (.iconst 1, 1) := by decide +kernel
theorem dX4_place_124 : decode cX4_place 124 = .ok (.isub, 1) := by decide +kernel
theorem dX4_place_125 : decode cX4_place 125 = .ok (.ireturn, 1) := by decide +kernel
theorem dX4_transition_0 : decode cX4_transition 0 = .ok (.aload_n 0, 1) := by decide +kernel
theorem dX4_transition_1 : decode cX4_transition 1 = .ok (.aload_n 0, 1) := by decide +kernel
theorem dX4_transition_2 : decode cX4_transition 2 = .ok (.getfield 69, 3) := by decide +kernel
theorem dX4_transition_5 : decode cX4_transition 5 = .ok (.bipush 8, 2) := by decide +kernel
theorem dX4_transition_7 : decode cX4_transition 7 = .ok (.if_icmp .ne 7, 3) := by decide +kernel
theorem dX4_transition_10 : decode cX4_transition 10 = .ok (.iconst 1, 1) := by decide +kernel
theorem dX4_transition_11 : decode cX4_transition 11 = .ok (.goto 4, 3) := by decide +kernel
theorem dX4_transition_14 : decode cX4_transition 14 = .ok (.iconst 0, 1) := by decide +kernel
theorem dX4_transition_15 : decode cX4_transition 15 = .ok (.putfield 63, 3) := by decide +kernel
theorem dX4_transition_18 : decode cX4_transition 18 = .ok (.aload_n 0, 1) := by decide +kernel
theorem dX4_transition_19 : decode cX4_transition 19 = .ok (.getfield 63, 3) := by decide +kernel
theorem dX4_transition_22 : decode cX4_transition 22 = .ok (.ifCond .le 5, 3) := by decide +kernel
theorem dX4_transition_25 : decode cX4_transition 25 = .ok (.iconst 0, 1) := by decide +kernel
theorem dX4_transition_26 : decode cX4_transition 26 = .ok (.ireturn, 1) := by decide +kernel
theorem dX4_transition_27 : decode cX4_transition 27 = .ok (.aload_n 0, 1) := by decide +kernel
theorem dX4_transition_28 : decode cX4_transition 28 = .ok (.invokevirtual 72, 3) := by decide +kernel
theorem dX4_transition_31 : decode cX4_transition 31 = .ok (.aload_n 0, 1) := by decide +kernel
theorem dX4_transition_32 : decode cX4_transition 32 = .ok (.dup, 1) := by decide +kernel
theorem dX4_transition_33 : decode cX4_transition 33 = .ok (.getfield 69, 3) := by decide +kernel
theorem dX4_transition_36 : decode cX4_transition 36 = .ok (.iconst 1, 1) := by decide +kernel
theorem dX4_transition_37 : decode cX4_transition 37 = .ok (.iadd, 1) := by decide +kernel
theorem dX4_transition_38 : decode cX4_transition 38 = .ok (.putfield 69, 3) := by decide +kernel
theorem dX4_transition_41 : decode cX4_transition 41 = .ok (.aload_n 0, 1) := by decide +kernel
theorem dX4_transition_42 : decode cX4_transition 42 = .ok (.getfield 69, 3) := by decide +kernel
theorem dX4_transition_45 : decode cX4_transition 45 = .ok (.iconst 1, 1) := by decide +kernel
theorem dX4_transition_46 : decode cX4_transition 46 = .ok (.isub, 1) := by decide +kernel
theorem dX4_transition_47 : decode cX4_transition 47 = .ok (.ireturn, 1) := by decide +kernel
theorem dX4_arc_0 : decode cX4_arc 0 = .ok (.aload_n 0, 1) := by decide +kernel
theorem dX4_arc_1 : decode cX4_arc 1 = .ok (.aload_n 0, 1) := by decide +kernel
theorem dX4_arc_2 : decode cX4_arc 2 = .ok (.iload_n 1, 1) := by decide +kernel
theorem dX4_arc_3 : decode cX4_arc 3 = .ok (.invokevirtual 75, 3) := by decide +kernel
theorem dX4_arc_6 : decode cX4_arc 6 = .ok (.ifCond .ne 11, 3) := by decide +kernel
theorem dX4_arc_9 : decode cX4_arc 9 = .ok (.aload_n 0, 1) := by decide +kernel
theorem dX4_arc_10 : decode cX4_arc 10 = .ok (.iload_n 2, 1) := by decide +kernel
theorem dX4_arc_11 : decode cX4_arc 11 = .ok (.invokevirtual 79, 3) := by decide +kernel
theorem dX4_arc_14 : decode cX4_arc 14 = .ok (.ifCond .eq 7, 3) := by decide +kernel
theorem dX4_arc_17 : decode cX4_arc 17 = .ok (.iconst 1, 1) := by decide +kernel
theorem dX4_arc_18 : decode cX4_arc 18 = .ok (.goto 17, 3) := by decide +kernel
theorem dX4_arc_21 : decode cX4_arc 21 = .ok (.iload_n 3, 1) := by decide +kernel
theorem dX4_arc_22 : decode cX4_arc 22 = .ok (.ifCond .lt 8, 3) := by decide +kernel
theorem dX4_arc_25 : decode cX4_arc 25 = .ok (.iload_n 3, 1) := by decide +kernel
theorem dX4_arc_26 : decode cX4_arc 26 = .ok (.iconst 4, 1) := by decide +kernel
theorem dX4_arc_27 : decode cX4_arc 27 = .ok (.if_icmp .le 7, 3) := by decide +kernel
theorem dX4_arc_30 : decode cX4_arc 30 = .ok (.iconst 2, 1) := by decide +kernel
theorem dX4_arc_31 : decode cX4_arc 31 = .ok (.goto 4, 3) := by decide +kernel
theorem dX4_arc_34 : decode cX4_arc 34 = .ok (.iconst 0, 1) := by decide +kernel
theorem dX4_arc_35 : decode cX4_arc 35 = .ok (.putfield 63, 3) := by decide +kernel
theorem dX4_arc_38 : decode cX4_arc 38 = .ok (.aload_n 0, 1) := by decide +kernel
theorem dX4_arc_39 : decode cX4_arc 39 = .ok (.getfield 63, 3) := by decide +kernel
theorem dX4_arc_42 : decode cX4_arc 42 = .ok (.ifCond .le 5, 3) := by decide +kernel
theorem dX4_arc_45 : decode cX4_arc 45 = .ok (.iconst 0, 1) := by decide +kernel
theorem dX4_arc_46 : decode cX4_arc 46 = .ok (.ireturn, 1) := by decide +kernel
theorem dX4_arc_47 : decode cX4_arc 47 = .ok (.aload_n 0, 1) := by decide +kernel
theorem dX4_arc_48 : decode cX4_arc 48 = .ok (.invokevirtual 72, 3) := by decide +kernel
theorem dX4_arc_51 : decode cX4_arc 51 = .ok (.bipush 6, 2) := by decide +kernel
theorem dX4_arc_53 : decode cX4_arc 53 = .ok (.iload_n 2, 1) := by decide +kernel
theorem dX4_arc_54 : decode cX4_arc 54 = .ok (.imul, 1) := by decide +kernel
theorem dX4_arc_55 : decode cX4_arc 55 = .ok (.iload_n 1, 1) := by decide +kernel
theorem dX4_arc_56 : decode cX4_arc 56 = .ok (.iadd, 1) := by decide +kernel
theorem dX4_arc_57 : decode cX4_arc 57 = .ok (.istore 5, 2) := by decide +kernel
theorem dX4_arc_59 : decode cX4_arc 59 = .ok (.iload 4, 2) := by decide +kernel
theorem dX4_arc_61 : decode cX4_arc 61 = .ok (.ifCond .eq 13, 3) := by decide +kernel
theorem dX4_arc_64 : decode cX4_arc 64 = .ok (.aload_n 0, 1) := by decide +kernel
theorem dX4_arc_65 : decode cX4_arc 65 = .ok (.getfield 19, 3) := by decide +kernel
theorem dX4_arc_68 : decode cX4_arc 68 = .ok (.iload 5, 2) := by decide +kernel
theorem dX4_arc_70 : decode cX4_arc 70 = .ok (.iaload, 1) := by decide +kernel
theorem dX4_arc_71 : decode cX4_arc 71 = .ok (.goto 10, 3) := by decide +kernel
theorem dX4_arc_74 : decode cX4_arc 74 = .ok (.aload_n 0, 1) := by decide +kernel
theorem dX4_arc_75 : decode cX4_arc 75 = .ok (.getfield 16, 3) := by decide +kernel
theorem dX4_arc_78 : decode cX4_arc 78 = .ok (.iload 5, 2) := by decide +kernel
theorem dX4_arc_80 : decode cX4_arc 80 = .ok (.iaload, 1) := by decide +kernel
theorem dX4_arc_81 : decode cX4_arc 81 = .ok (.istore 6, 2) := by decide +kernel
theorem dX4_arc_83 : decode cX4_arc 83 = .ok (.iload 4, 2) := by decide +kernel
theorem dX4_arc_85 : decode cX4_arc 85 = .ok (.ifCond .eq 14, 3) := by decide +kernel
theorem dX4_arc_88 : decode cX4_arc 88 = .ok (.aload_n 0, 1) := by decide +kernel
theorem dX4_arc_89 : decode cX4_arc 89 = .ok (.getfield 19, 3) := by decide +kernel
theorem dX4_arc_92 : decode cX4_arc 92 = .ok (.iload 5, 2) := by decide +kernel
theorem dX4_arc_94 : decode cX4_arc 94 = .ok (.iload_n 3, 1) := by decide +kernel
theorem dX4_arc_95 : decode cX4_arc 95 = .ok (.iastore, 1) := by decide +kernel
theorem dX4_arc_96 : decode cX4_arc 96 = .ok (.goto 11, 3) := by decide +kernel
theorem dX4_arc_99 : decode cX4_arc 99 = .ok (.aload_n 0, 1) := by decide +kernel
theorem dX4_arc_100 : decode cX4_arc 100 = .ok (.getfield 16, 3) := by decide +kernel
theorem dX4_arc_103 : decode cX4_arc 103 = .ok (.iload 5, 2) := by decide +kernel
theorem dX4_arc_105 : decode cX4_arc 105 = .ok (.iload_n 3, 1) := by decide +kernel
theorem dX4_arc_106 : decode cX4_arc 106 = .ok (.iastore, 1) := by decide +kernel
theorem dX4_arc_107 : decode cX4_arc 107 = .ok (.iload 6, 2) := by decide +kernel
theorem dX4_arc_109 : decode cX4_arc 109 = .ok (.ireturn, 1) := by decide +kernel
theorem dX4_tokens_0 : decode cX4_tokens 0 = .ok (.aload_n 0, 1) := by decide +kernel
theorem dX4_tokens_1 : decode cX4_tokens 1 = .ok (.aload_n 0, 1) := by decide +kernel
theorem dX4_tokens_2 : decode cX4_tokens 2 = .ok (.iload_n 1, 1) := by decide +kernel
theorem dX4_tokens_3 : decode cX4_tokens 3 = .ok (.invokevirtual 75, 3) := by decide +kernel
theorem dX4_tokens_6 : decode cX4_tokens 6 = .ok (.ifCond .eq 7, 3) := by decide +kernel
theorem dX4_tokens_9 : decode cX4_tokens 9 = .ok (.iconst 1, 1) := by decide +kernel
theorem dX4_tokens_10 : decode cX4_tokens 10 = .ok (.goto 18, 3) := by decide +kernel
theorem dX4_tokens_13 : decode cX4_tokens 13 = .ok (.iload_n 2, 1) := by decide +kernel
theorem dX4_tokens_14 : decode cX4_tokens 14 = .ok (.ifCond .lt 9, 3) := by decide +kernel
theorem dX4_tokens_17 : decode cX4_tokens 17 = .ok (.iload_n 2, 1) := by decide +kernel
theorem dX4_tokens_18 : decode cX4_tokens 18 = .ok (.bipush 9, 2) := by decide +kernel
theorem dX4_tokens_20 : decode cX4_tokens 20 = .ok (.if_icmp .le 7, 3) := by decide +kernel
theorem dX4_tokens_23 : decode cX4_tokens 23 = .ok (.iconst 2, 1) := by decide +kernel
theorem dX4_tokens_24 : decode cX4_tokens 24 = .ok (.goto 4, 3) := by decide +kernel
theorem dX4_tokens_27 : decode cX4_tokens 27 = .ok (.iconst 0, 1) := by decide +kernel
theorem dX4_tokens_28 : decode cX4_tokens 28 = .ok (.putfield 63, 3) := by decide +kernel
theorem dX4_tokens_31 : decode cX4_tokens 31 = .ok (.aload_n 0, 1) := by decide +kernel
theorem dX4_tokens_32 : decode cX4_tokens 32 = .ok (.getfield 63, 3) := by decide +kernel
theorem dX4_tokens_35 : decode cX4_tokens 35 = .ok (.ifCond .le 4, 3) := by decide +kernel
theorem dX4_tokens_38 : decode cX4_tokens 38 = .ok (.return_, 1) := by decide +kernel
theorem dX4_tokens_39 : decode cX4_tokens 39 = .ok (.aload_n 0, 1) := by decide +kernel
theorem dX4_tokens_40 : decode cX4_tokens 40 = .ok (.invokevirtual 72, 3) := by decide +kernel
theorem dX4_tokens_43 : decode cX4_tokens 43 = .ok (.aload_n 0, 1) := by decide +kernel
theorem dX4_tokens_44 : decode cX4_tokens 44 = .ok (.getfield 7, 3) := by decide +kernel
theorem dX4_tokens_47 : decode cX4_tokens 47 = .ok (.iload_n 1, 1) := by decide +kernel
theorem dX4_tokens_48 : decode cX4_tokens 48 = .ok (.iload_n 2, 1) := by decide +kernel
theorem dX4_tokens_49 : decode cX4_tokens 49 = .ok (.iastore, 1) := by decide +kernel
theorem dX4_tokens_50 : decode cX4_tokens 50 = .ok (.return_, 1) := by decide +kernel
theorem dX4_enabledAt_0 : decode cX4_enabledAt 0 = .ok (.iconst 0, 1) := by decide +kernel
theorem dX4_enabledAt_1 : decode cX4_enabledAt 1 = .ok (.istore_n 3, 1) := by decide +kernel
theorem dX4_enabledAt_2 : decode cX4_enabledAt 2 = .ok (.iload_n 3, 1) := by decide +kernel
theorem dX4_enabledAt_3 : decode cX4_enabledAt 3 = .ok (.aload_n 0, 1) := by decide +kernel
theorem dX4_enabledAt_4 : decode cX4_enabledAt 4 = .ok (.getfield 66, 3) := by decide +kernel
theorem dX4_enabledAt_7 : decode cX4_enabledAt 7 = .ok (.if_icmp .ge 36, 3) := by decide +kernel
theorem dX4_enabledAt_10 : decode cX4_enabledAt 10 = .ok (.aload_n 0, 1) := by decide +kernel
theorem dX4_enabledAt_11 : decode cX4_enabledAt 11 = .ok (.getfield 26, 3) := by decide +kernel
theorem dX4_enabledAt_14 : decode cX4_enabledAt 14 = .ok (.bipush 6, 2) := by decide +kernel
theorem dX4_enabledAt_16 : decode cX4_enabledAt 16 = .ok (.iload_n 1, 1) := by decide +kernel
theorem dX4_enabledAt_17 : decode cX4_enabledAt 17 = .ok (.imul, 1) := by decide +kernel
theorem dX4_enabledAt_18 : decode cX4_enabledAt 18 = .ok (.iload_n 3, 1) := by decide +kernel
theorem dX4_enabledAt_19 : decode cX4_enabledAt 19 = .ok (.iadd, 1) := by decide +kernel
theorem dX4_enabledAt_20 : decode cX4_enabledAt 20 = .ok (.iaload, 1) := by decide +kernel
theorem dX4_enabledAt_21 : decode cX4_enabledAt 21 = .ok (.aload_n 0, 1) := by decide +kernel
theorem dX4_enabledAt_22 : decode cX4_enabledAt 22 = .ok (.getfield 16, 3) := by decide +kernel
theorem dX4_enabledAt_25 : decode cX4_enabledAt 25 = .ok (.bipush 6, 2) := by decide +kernel
theorem dX4_enabledAt_27 : decode cX4_enabledAt 27 = .ok (.iload_n 2, 1) := by decide +kernel
theorem dX4_enabledAt_28 : decode cX4_enabledAt 28 = .ok (.imul, 1) := by decide +kernel
theorem dX4_enabledAt_29 : decode cX4_enabledAt 29 = .ok (.iload_n 3, 1) := by decide +kernel
theorem dX4_enabledAt_30 : decode cX4_enabledAt 30 = .ok (.iadd, 1) := by decide +kernel
theorem dX4_enabledAt_31 : decode cX4_enabledAt 31 = .ok (.iaload, 1) := by decide +kernel
theorem dX4_enabledAt_32 : decode cX4_enabledAt 32 = .ok (.if_icmp .ge 5, 3) := by decide +kernel
theorem dX4_enabledAt_35 : decode cX4_enabledAt 35 = .ok (.iconst 0, 1) := by decide +kernel
theorem dX4_enabledAt_36 : decode cX4_enabledAt 36 = .ok (.ireturn, 1) := by decide +kernel
theorem dX4_enabledAt_37 : decode cX4_enabledAt 37 = .ok (.iinc 3 1, 3) := by decide +kernel
theorem dX4_enabledAt_40 : decode cX4_enabledAt 40 = .ok (.goto (-38), 3) := by decide +kernel
theorem dX4_enabledAt_43 : decode cX4_enabledAt 43 = .ok (.iconst 1, 1) := by decide +kernel
theorem dX4_enabledAt_44 : decode cX4_enabledAt 44 = .ok (.ireturn, 1) := by decide +kernel
theorem dX4_below_0 : decode cX4_below 0 = .ok (.iconst 0, 1) := by decide +kernel
theorem dX4_below_1 : decode cX4_below 1 = .ok (.istore_n 2, 1) := by decide +kernel
theorem dX4_below_2 : decode cX4_below 2 = .ok (.iconst 0, 1) := by decide +kernel
theorem dX4_below_3 : decode cX4_below 3 = .ok (.istore_n 3, 1) := by decide +kernel
theorem dX4_below_4 : decode cX4_below 4 = .ok (.iload_n 3, 1) := by decide +kernel
theorem dX4_below_5 : decode cX4_below 5 = .ok (.aload_n 0, 1) := by decide +kernel
theorem dX4_below_6 : decode cX4_below 6 = .ok (.getfield 66, 3) := by decide +kernel
theorem dX4_below_9 : decode cX4_below 9 = .ok (.if_icmp .ge 56, 3) := by decide +kernel
theorem dX4_below_12 : decode cX4_below 12 = .ok (.aload_n 0, 1) := by decide +kernel
theorem dX4_below_13 : decode cX4_below 13 = .ok (.getfield 26, 3) := by decide +kernel
theorem dX4_below_16 : decode cX4_below 16 = .ok (.bipush 6, 2) := by decide +kernel
theorem dX4_below_18 : decode cX4_below 18 = .ok (.iload_n 1, 1) := by decide +kernel
theorem dX4_below_19 : decode cX4_below 19 = .ok (.imul, 1) := by decide +kernel
theorem dX4_below_20 : decode cX4_below 20 = .ok (.iload_n 3, 1) := by decide +kernel
theorem dX4_below_21 : decode cX4_below 21 = .ok (.iadd, 1) := by decide +kernel
theorem dX4_below_22 : decode cX4_below 22 = .ok (.iaload, 1) := by decide +kernel
theorem dX4_below_23 : decode cX4_below 23 = .ok (.istore 4, 2) := by decide +kernel
theorem dX4_below_25 : decode cX4_below 25 = .ok (.iload 4, 2) := by decide +kernel
theorem dX4_below_27 : decode cX4_below 27 = .ok (.aload_n 0, 1) := by decide +kernel
theorem dX4_below_28 : decode cX4_below 28 = .ok (.getfield 60, 3) := by decide +kernel
theorem dX4_below_31 : decode cX4_below 31 = .ok (.iload_n 3, 1) := by decide +kernel
theorem dX4_below_32 : decode cX4_below 32 = .ok (.iaload, 1) := by decide +kernel
theorem dX4_below_33 : decode cX4_below 33 = .ok (.if_icmp .le 5, 3) := by decide +kernel
theorem dX4_below_36 : decode cX4_below 36 = .ok (.iconst 0, 1) := by decide +kernel
theorem dX4_below_37 : decode cX4_below 37 = .ok (.ireturn, 1) := by decide +kernel
theorem dX4_below_38 : decode cX4_below 38 = .ok (.iload_n 2, 1) := by decide +kernel
theorem dX4_below_39 : decode cX4_below 39 = .ok (.ifCond .ne 14, 3) := by decide +kernel
theorem dX4_below_42 : decode cX4_below 42 = .ok (.iload 4, 2) := by decide +kernel
theorem dX4_below_44 : decode cX4_below 44 = .ok (.aload_n 0, 1) := by decide +kernel
theorem dX4_below_45 : decode cX4_below 45 = .ok (.getfield 60, 3) := by decide +kernel
theorem dX4_below_48 : decode cX4_below 48 = .ok (.iload_n 3, 1) := by decide +kernel
theorem dX4_below_49 : decode cX4_below 49 = .ok (.iaload, 1) := by decide +kernel
theorem dX4_below_50 : decode cX4_below 50 = .ok (.if_icmp .ge 7, 3) := by decide +kernel
theorem dX4_below_53 : decode cX4_below 53 = .ok (.iconst 1, 1) := by decide +kernel
theorem dX4_below_54 : decode cX4_below 54 = .ok (.goto 4, 3) := by decide +kernel
theorem dX4_below_57 : decode cX4_below 57 = .ok (.iconst 0, 1) := by decide +kernel
theorem dX4_below_58 : decode cX4_below 58 = .ok (.istore_n 2, 1) := by decide +kernel
theorem dX4_below_59 : decode cX4_below 59 = .ok (.iinc 3 1, 3) := by decide +kernel
theorem dX4_below_62 : decode cX4_below 62 = .ok (.goto (-58), 3) := by decide +kernel
theorem dX4_below_65 : decode cX4_below 65 = .ok (.iload_n 2, 1) := by decide +kernel
theorem dX4_below_66 : decode cX4_below 66 = .ok (.ireturn, 1) := by decide +kernel
theorem dX4_sameAs_0 : decode cX4_sameAs 0 = .ok (.iconst 0, 1) := by decide +kernel
theorem dX4_sameAs_1 : decode cX4_sameAs 1 = .ok (.istore_n 2, 1) := by decide +kernel
theorem dX4_sameAs_2 : decode cX4_sameAs 2 = .ok (.iload_n 2, 1) := by decide +kernel
theorem dX4_sameAs_3 : decode cX4_sameAs 3 = .ok (.aload_n 0, 1) := by decide +kernel
theorem dX4_sameAs_4 : decode cX4_sameAs 4 = .ok (.getfield 66, 3) := by decide +kernel
theorem dX4_sameAs_7 : decode cX4_sameAs 7 = .ok (.if_icmp .ge 31, 3) := by decide +kernel
theorem dX4_sameAs_10 : decode cX4_sameAs 10 = .ok (.aload_n 0, 1) := by decide +kernel
theorem dX4_sameAs_11 : decode cX4_sameAs 11 = .ok (.getfield 26, 3) := by decide +kernel
theorem dX4_sameAs_14 : decode cX4_sameAs 14 = .ok (.bipush 6, 2) := by decide +kernel
theorem dX4_sameAs_16 : decode cX4_sameAs 16 = .ok (.iload_n 1, 1) := by decide +kernel
theorem dX4_sameAs_17 : decode cX4_sameAs 17 = .ok (.imul, 1) := by decide +kernel
theorem dX4_sameAs_18 : decode cX4_sameAs 18 = .ok (.iload_n 2, 1) := by decide +kernel
theorem dX4_sameAs_19 : decode cX4_sameAs 19 = .ok (.iadd, 1) := by decide +kernel
theorem dX4_sameAs_20 : decode cX4_sameAs 20 = .ok (.iaload, 1) := by decide +kernel
theorem dX4_sameAs_21 : decode cX4_sameAs 21 = .ok (.aload_n 0, 1) := by decide +kernel
theorem dX4_sameAs_22 : decode cX4_sameAs 22 = .ok (.getfield 60, 3) := by decide +kernel
theorem dX4_sameAs_25 : decode cX4_sameAs 25 = .ok (.iload_n 2, 1) := by decide +kernel
theorem dX4_sameAs_26 : decode cX4_sameAs 26 = .ok (.iaload, 1) := by decide +kernel
theorem dX4_sameAs_27 : decode cX4_sameAs 27 = .ok (.if_icmp .eq 5, 3) := by decide +kernel
theorem dX4_sameAs_30 : decode cX4_sameAs 30 = .ok (.iconst 0, 1) := by decide +kernel
theorem dX4_sameAs_31 : decode cX4_sameAs 31 = .ok (.ireturn, 1) := by decide +kernel
theorem dX4_sameAs_32 : decode cX4_sameAs 32 = .ok (.iinc 2 1, 3) := by decide +kernel
theorem dX4_sameAs_35 : decode cX4_sameAs 35 = .ok (.goto (-33), 3) := by decide +kernel
theorem dX4_sameAs_38 : decode cX4_sameAs 38 = .ok (.iconst 1, 1) := by decide +kernel
theorem dX4_sameAs_39 : decode cX4_sameAs 39 = .ok (.ireturn, 1) := by decide +kernel
theorem dX4_addNode_0 : decode cX4_addNode 0 = .ok (.aload_n 0, 1) := by decide +kernel
theorem dX4_addNode_1 : decode cX4_addNode 1 = .ok (.getfield 22, 3) := by decide +kernel
theorem dX4_addNode_4 : decode cX4_addNode 4 = .ok (.istore_n 3, 1) := by decide +kernel
theorem dX4_addNode_5 : decode cX4_addNode 5 = .ok (.aload_n 0, 1) := by decide +kernel
theorem dX4_addNode_6 : decode cX4_addNode 6 = .ok (.getfield 38, 3) := by decide +kernel
theorem dX4_addNode_9 : decode cX4_addNode 9 = .ok (.iload_n 3, 1) := by decide +kernel
theorem dX4_addNode_10 : decode cX4_addNode 10 = .ok (.iconst 0, 1) := by decide +kernel
theorem dX4_addNode_11 : decode cX4_addNode 11 = .ok (.bastore, 1) := by decide +kernel
theorem dX4_addNode_12 : decode cX4_addNode 12 = .ok (.iconst 0, 1) := by decide +kernel
theorem dX4_addNode_13 : decode cX4_addNode 13 = .ok (.istore 4, 2) := by decide +kernel
theorem dX4_addNode_15 : decode cX4_addNode 15 = .ok (.iload 4, 2) := by decide +kernel
theorem dX4_addNode_17 : decode cX4_addNode 17 = .ok (.iload_n 3, 1) := by decide +kernel
theorem dX4_addNode_18 : decode cX4_addNode 18 = .ok (.if_icmp .ge 38, 3) := by decide +kernel
theorem dX4_addNode_21 : decode cX4_addNode 21 = .ok (.aload_n 0, 1) := by decide +kernel
theorem dX4_addNode_22 : decode cX4_addNode 22 = .ok (.getfield 38, 3) := by decide +kernel
theorem dX4_addNode_25 : decode cX4_addNode 25 = .ok (.iload_n 3, 1) := by decide +kernel
theorem dX4_addNode_26 : decode cX4_addNode 26 = .ok (.aload_n 0, 1) := by decide +kernel
theorem dX4_addNode_27 : decode cX4_addNode 27 = .ok (.getfield 38, 3) := by decide +kernel
theorem dX4_addNode_30 : decode cX4_addNode 30 = .ok (.iload_n 3, 1) := by decide +kernel
theorem dX4_addNode_31 : decode cX4_addNode 31 = .ok (.baload, 1) := by decide +kernel
theorem dX4_addNode_32 : decode cX4_addNode 32 = .ok (.ifCond .ne 12, 3) := by decide +kernel
theorem dX4_addNode_35 : decode cX4_addNode 35 = .ok (.aload_n 0, 1) := by decide +kernel
theorem dX4_addNode_36 : decode cX4_addNode 36 = .ok (.iload 4, 2) := by decide +kernel
theorem dX4_addNode_38 : decode cX4_addNode 38 = .ok (.invokevirtual 82, 3) := by decide +kernel
theorem dX4_addNode_41 : decode cX4_addNode 41 = .ok (.ifCond .eq 7, 3) := by decide +kernel
theorem dX4_addNode_44 : decode cX4_addNode 44 = .ok (.iconst 1, 1) := by decide +kernel
theorem dX4_addNode_45 : decode cX4_addNode 45 = .ok (.goto 4, 3) := by decide +kernel
theorem dX4_addNode_48 : decode cX4_addNode 48 = .ok (.iconst 0, 1) := by decide +kernel
theorem dX4_addNode_49 : decode cX4_addNode 49 = .ok (.bastore, 1) := by decide +kernel
theorem dX4_addNode_50 : decode cX4_addNode 50 = .ok (.iinc 4 1, 3) := by decide +kernel
theorem dX4_addNode_53 : decode cX4_addNode 53 = .ok (.goto (-38), 3) := by decide +kernel
theorem dX4_addNode_56 : decode cX4_addNode 56 = .ok (.iconst 0, 1) := by decide +kernel
theorem dX4_addNode_57 : decode cX4_addNode 57 = .ok (.istore 4, 2) := by decide +kernel
theorem dX4_addNode_59 : decode cX4_addNode 59 = .ok (.iload 4, 2) := by decide +kernel
theorem dX4_addNode_61 : decode cX4_addNode 61 = .ok (.aload_n 0, 1) := by decide +kernel
theorem dX4_addNode_62 : decode cX4_addNode 62 = .ok (.getfield 66, 3) := by decide +kernel
theorem dX4_addNode_65 : decode cX4_addNode 65 = .ok (.if_icmp .ge 28, 3) := by decide +kernel
theorem dX4_addNode_68 : decode cX4_addNode 68 = .ok (.aload_n 0, 1) := by decide +kernel
theorem dX4_addNode_69 : decode cX4_addNode 69 = .ok (.getfield 26, 3) := by decide +kernel
theorem dX4_addNode_72 : decode cX4_addNode 72 = .ok (.bipush 6, 2) := by decide +kernel
theorem dX4_addNode_74 : decode cX4_addNode 74 = .ok (.iload_n 3, 1) := by decide +kernel
theorem dX4_addNode_75 : decode cX4_addNode 75 = .ok (.imul, 1) := by decide +kernel
theorem dX4_addNode_76 : decode cX4_addNode 76 = .ok (.iload 4, 2) := by decide +kernel
theorem dX4_addNode_78 : decode cX4_addNode 78 = .ok (.iadd, 1) := by decide +kernel
theorem dX4_addNode_79 : decode cX4_addNode 79 = .ok (.aload_n 0, 1) := by decide +kernel
theorem dX4_addNode_80 : decode cX4_addNode 80 = .ok (.getfield 60, 3) := by decide +kernel
theorem dX4_addNode_83 : decode cX4_addNode 83 = .ok (.iload 4, 2) := by decide +kernel
theorem dX4_addNode_85 : decode cX4_addNode 85 = .ok (.iaload, 1) := by decide +kernel
theorem dX4_addNode_86 : decode cX4_addNode 86 = .ok (.iastore, 1) := by decide +kernel
theorem dX4_addNode_87 : decode cX4_addNode 87 = .ok (.iinc 4 1, 3) := by decide +kernel
theorem dX4_addNode_90 : decode cX4_addNode 90 = .ok (.goto (-31), 3) := by decide +kernel
theorem dX4_addNode_93 : decode cX4_addNode 93 = .ok (.aload_n 0, 1) := by decide +kernel
theorem dX4_addNode_94 : decode cX4_addNode 94 = .ok (.getfield 29, 3) := by decide +kernel
theorem dX4_addNode_97 : decode cX4_addNode 97 = .ok (.iload_n 3, 1) := by decide +kernel
theorem dX4_addNode_98 : decode cX4_addNode 98 = .ok (.iload_n 1, 1) := by decide +kernel
theorem dX4_addNode_99 : decode cX4_addNode 99 = .ok (.iastore, 1) := by decide +kernel
theorem dX4_addNode_100 : decode cX4_addNode 100 = .ok (.aload_n 0, 1) := by decide +kernel
theorem dX4_addNode_101 : decode cX4_addNode 101 = .ok (.getfield 32, 3) := by decide +kernel
theorem dX4_addNode_104 : decode cX4_addNode 104 = .ok (.iload_n 3, 1) := by decide +kernel
theorem dX4_addNode_105 : decode cX4_addNode 105 = .ok (.iload_n 2, 1) := by decide +kernel
theorem dX4_addNode_106 : decode cX4_addNode 106 = .ok (.iastore, 1) := by decide +kernel
theorem dX4_addNode_107 : decode cX4_addNode 107 = .ok (.aload_n 0, 1) := by decide +kernel
theorem dX4_addNode_108 : decode cX4_addNode 108 = .ok (.getfield 35, 3) := by decide +kernel
theorem dX4_addNode_111 : decode cX4_addNode 111 = .ok (.iload_n 3, 1) := by decide +kernel
theorem dX4_addNode_112 : decode cX4_addNode 112 = .ok (.iconst 0, 1) := by decide +kernel
theorem dX4_addNode_113 : decode cX4_addNode 113 = .ok (.iastore, 1) := by decide +kernel
theorem dX4_addNode_114 : decode cX4_addNode 114 = .ok (.aload_n 0, 1) := by decide +kernel
theorem dX4_addNode_115 : decode cX4_addNode 115 = .ok (.dup, 1) := by decide +kernel
theorem dX4_addNode_116 : decode cX4_addNode 116 = .ok (.getfield 22, 3) := by decide +kernel
theorem dX4_addNode_119 : decode cX4_addNode 119 = .ok (.iconst 1, 1) := by decide +kernel
theorem dX4_addNode_120 : decode cX4_addNode 120 = .ok (.iadd, 1) := by decide +kernel
theorem dX4_addNode_121 : decode cX4_addNode 121 = .ok (.putfield 22, 3) := by decide +kernel
theorem dX4_addNode_124 : decode cX4_addNode 124 = .ok (.return_, 1) := by decide +kernel
theorem dX4_fire_0 : decode cX4_fire 0 = .ok (.iconst 0, 1) := by decide +kernel
theorem dX4_fire_1 : decode cX4_fire 1 = .ok (.istore_n 3, 1) := by decide +kernel
theorem dX4_fire_2 : decode cX4_fire 2 = .ok (.iload_n 3, 1) := by decide +kernel
theorem dX4_fire_3 : decode cX4_fire 3 = .ok (.aload_n 0, 1) := by decide +kernel
theorem dX4_fire_4 : decode cX4_fire 4 = .ok (.getfield 66, 3) := by decide +kernel
theorem dX4_fire_7 : decode cX4_fire 7 = .ok (.if_icmp .ge 66, 3) := by decide +kernel
theorem dX4_fire_10 : decode cX4_fire 10 = .ok (.aload_n 0, 1) := by decide +kernel
theorem dX4_fire_11 : decode cX4_fire 11 = .ok (.getfield 26, 3) := by decide +kernel
theorem dX4_fire_14 : decode cX4_fire 14 = .ok (.bipush 6, 2) := by decide +kernel
theorem dX4_fire_16 : decode cX4_fire 16 = .ok (.iload_n 1, 1) := by decide +kernel
theorem dX4_fire_17 : decode cX4_fire 17 = .ok (.imul, 1) := by decide +kernel
theorem dX4_fire_18 : decode cX4_fire 18 = .ok (.iload_n 3, 1) := by decide +kernel
theorem dX4_fire_19 : decode cX4_fire 19 = .ok (.iadd, 1) := by decide +kernel
theorem dX4_fire_20 : decode cX4_fire 20 = .ok (.iaload, 1) := by decide +kernel
theorem dX4_fire_21 : decode cX4_fire 21 = .ok (.istore 4, 2) := by decide +kernel
theorem dX4_fire_23 : decode cX4_fire 23 = .ok (.aload_n 0, 1) := by decide +kernel
theorem dX4_fire_24 : decode cX4_fire 24 = .ok (.getfield 60, 3) := by decide +kernel
theorem dX4_fire_27 : decode cX4_fire 27 = .ok (.iload_n 3, 1) := by decide +kernel
theorem dX4_fire_28 : decode cX4_fire 28 = .ok (.iload 4, 2) := by decide +kernel
theorem dX4_fire_30 : decode cX4_fire 30 = .ok (.ldc 85, 2) := by decide +kernel
theorem dX4_fire_32 : decode cX4_fire 32 = .ok (.if_icmp .ne 8, 3) := by decide +kernel
theorem dX4_fire_35 : decode cX4_fire 35 = .ok (.ldc 85, 2) := by decide +kernel
theorem dX4_fire_37 : decode cX4_fire 37 = .ok (.goto 29, 3) := by decide +kernel
theorem dX4_fire_40 : decode cX4_fire 40 = .ok (.iload 4, 2) := by decide +kernel
theorem dX4_fire_42 : decode cX4_fire 42 = .ok (.aload_n 0, 1) := by decide +kernel
theorem dX4_fire_43 : decode cX4_fire 43 = .ok (.getfield 16, 3) := by decide +kernel
theorem dX4_fire_46 : decode cX4_fire 46 = .ok (.bipush 6, 2) := by decide +kernel
theorem dX4_fire_48 : decode cX4_fire 48 = .ok (.iload_n 2, 1) := by decide +kernel
theorem dX4_fire_49 : decode cX4_fire 49 = .ok (.imul, 1) := by decide +kernel
theorem dX4_fire_50 : decode cX4_fire 50 = .ok (.iload_n 3, 1) := by decide +kernel
theorem dX4_fire_51 : decode cX4_fire 51 = .ok (.iadd, 1) := by decide +kernel
theorem dX4_fire_52 : decode cX4_fire 52 = .ok (.iaload, 1) := by decide +kernel
theorem dX4_fire_53 : decode cX4_fire 53 = .ok (.isub, 1) := by decide +kernel
theorem dX4_fire_54 : decode cX4_fire 54 = .ok (.aload_n 0, 1) := by decide +kernel
theorem dX4_fire_55 : decode cX4_fire 55 = .ok (.getfield 19, 3) := by decide +kernel
theorem dX4_fire_58 : decode cX4_fire 58 = .ok (.bipush 6, 2) := by decide +kernel
theorem dX4_fire_60 : decode cX4_fire 60 = .ok (.iload_n 2, 1) := by decide +kernel
theorem dX4_fire_61 : decode cX4_fire 61 = .ok (.imul, 1) := by decide +kernel
theorem dX4_fire_62 : decode cX4_fire 62 = .ok (.iload_n 3, 1) := by decide +kernel
theorem dX4_fire_63 : decode cX4_fire 63 = .ok (.iadd, 1) := by decide +kernel
theorem dX4_fire_64 : decode cX4_fire 64 = .ok (.iaload, 1) := by decide +kernel
theorem dX4_fire_65 : decode cX4_fire 65 = .ok (.iadd, 1) := by decide +kernel
theorem dX4_fire_66 : decode cX4_fire 66 = .ok (.iastore, 1) := by decide +kernel
theorem dX4_fire_67 : decode cX4_fire 67 = .ok (.iinc 3 1, 3) := by decide +kernel
theorem dX4_fire_70 : decode cX4_fire 70 = .ok (.goto (-68), 3) := by decide +kernel
theorem dX4_fire_73 : decode cX4_fire 73 = .ok (.iload_n 1, 1) := by decide +kernel
theorem dX4_fire_74 : decode cX4_fire 74 = .ok (.istore_n 3, 1) := by decide +kernel
theorem dX4_fire_75 : decode cX4_fire 75 = .ok (.iload_n 3, 1) := by decide +kernel
theorem dX4_fire_76 : decode cX4_fire 76 = .ok (.ifCond .lt 100, 3) := by decide +kernel
theorem dX4_fire_79 : decode cX4_fire 79 = .ok (.aload_n 0, 1) := by decide +kernel
theorem dX4_fire_80 : decode cX4_fire 80 = .ok (.iload_n 3, 1) := by decide +kernel
theorem dX4_fire_81 : decode cX4_fire 81 = .ok (.invokevirtual 86, 3) := by decide +kernel
theorem dX4_fire_84 : decode cX4_fire 84 = .ok (.ifCond .eq 82, 3) := by decide +kernel
theorem dX4_fire_87 : decode cX4_fire 87 = .ok (.aload_n 0, 1) := by decide +kernel
theorem dX4_fire_88 : decode cX4_fire 88 = .ok (.getfield 89, 3) := by decide +kernel
theorem dX4_fire_91 : decode cX4_fire 91 = .ok (.ifCond .ge 16, 3) := by decide +kernel
theorem dX4_fire_94 : decode cX4_fire 94 = .ok (.aload_n 0, 1) := by decide +kernel
theorem dX4_fire_95 : decode cX4_fire 95 = .ok (.aload_n 0, 1) := by decide +kernel
theorem dX4_fire_96 : decode cX4_fire 96 = .ok (.getfield 22, 3) := by decide +kernel
theorem dX4_fire_99 : decode cX4_fire 99 = .ok (.putfield 89, 3) := by decide +kernel
theorem dX4_fire_102 : decode cX4_fire 102 = .ok (.aload_n 0, 1) := by decide +kernel
theorem dX4_fire_103 : decode cX4_fire 103 = .ok (.iload_n 3, 1) := by decide +kernel
theorem dX4_fire_104 : decode cX4_fire 104 = .ok (.putfield 92, 3) := by decide +kernel
theorem dX4_fire_107 : decode cX4_fire 107 = .ok (.iconst 0, 1) := by decide +kernel
theorem dX4_fire_108 : decode cX4_fire 108 = .ok (.istore 4, 2) := by decide +kernel
theorem dX4_fire_110 : decode cX4_fire 110 = .ok (.iload 4, 2) := by decide +kernel
theorem dX4_fire_112 : decode cX4_fire 112 = .ok (.aload_n 0, 1) := by decide +kernel
theorem dX4_fire_113 : decode cX4_fire 113 = .ok (.getfield 66, 3) := by decide +kernel
theorem dX4_fire_116 : decode cX4_fire 116 = .ok (.if_icmp .ge 50, 3) := by decide +kernel
theorem dX4_fire_119 : decode cX4_fire 119 = .ok (.aload_n 0, 1) := by decide +kernel
theorem dX4_fire_120 : decode cX4_fire 120 = .ok (.getfield 60, 3) := by decide +kernel
theorem dX4_fire_123 : decode cX4_fire 123 = .ok (.iload 4, 2) := by decide +kernel
theorem dX4_fire_125 : decode cX4_fire 125 = .ok (.aload_n 0, 1) := by decide +kernel
theorem dX4_fire_126 : decode cX4_fire 126 = .ok (.getfield 26, 3) := by decide +kernel
theorem dX4_fire_129 : decode cX4_fire 129 = .ok (.bipush 6, 2) := by decide +kernel
theorem dX4_fire_131 : decode cX4_fire 131 = .ok (.iload_n 3, 1) := by decide +kernel
theorem dX4_fire_132 : decode cX4_fire 132 = .ok (.imul, 1) := by decide +kernel
theorem dX4_fire_133 : decode cX4_fire 133 = .ok (.iload 4, 2) := by decide +kernel
theorem dX4_fire_135 : decode cX4_fire 135 = .ok (.iadd, 1) := by decide +kernel
theorem dX4_fire_136 : decode cX4_fire 136 = .ok (.iaload, 1) := by decide +kernel
theorem dX4_fire_137 : decode cX4_fire 137 = .ok (.aload_n 0, 1) := by decide +kernel
theorem dX4_fire_138 : decode cX4_fire 138 = .ok (.getfield 60, 3) := by decide +kernel
theorem dX4_fire_141 : decode cX4_fire 141 = .ok (.iload 4, 2) := by decide +kernel
theorem dX4_fire_143 : decode cX4_fire 143 = .ok (.iaload, 1) := by decide +kernel
theorem dX4_fire_144 : decode cX4_fire 144 = .ok (.if_icmp .ge 8, 3) := by decide +kernel
theorem dX4_fire_147 : decode cX4_fire 147 = .ok (.ldc 85, 2) := by decide +kernel
theorem dX4_fire_149 : decode cX4_fire 149 = .ok (.goto 10, 3) := by decide +kernel
theorem dX4_fire_152 : decode cX4_fire 152 = .ok (.aload_n 0, 1) := by decide +kernel
theorem dX4_fire_153 : decode cX4_fire 153 = .ok (.getfield 60, 3) := by decide +kernel
theorem dX4_fire_156 : decode cX4_fire 156 = .ok (.iload 4, 2) := by decide +kernel
theorem dX4_fire_158 : decode cX4_fire 158 = .ok (.iaload, 1) := by decide +kernel
theorem dX4_fire_159 : decode cX4_fire 159 = .ok (.iastore, 1) := by decide +kernel
theorem dX4_fire_160 : decode cX4_fire 160 = .ok (.iinc 4 1, 3) := by decide +kernel
theorem dX4_fire_163 : decode cX4_fire 163 = .ok (.goto (-53), 3) := by decide +kernel
theorem dX4_fire_166 : decode cX4_fire 166 = .ok (.aload_n 0, 1) := by decide +kernel
theorem dX4_fire_167 : decode cX4_fire 167 = .ok (.getfield 29, 3) := by decide +kernel
theorem dX4_fire_170 : decode cX4_fire 170 = .ok (.iload_n 3, 1) := by decide +kernel
theorem dX4_fire_171 : decode cX4_fire 171 = .ok (.iaload, 1) := by decide +kernel
theorem dX4_fire_172 : decode cX4_fire 172 = .ok (.istore_n 3, 1) := by decide +kernel
theorem dX4_fire_173 : decode cX4_fire 173 = .ok (.goto (-98), 3) := by decide +kernel
theorem dX4_fire_176 : decode cX4_fire 176 = .ok (.return_, 1) := by decide +kernel
theorem dX4_explore_0 : decode cX4_explore 0 = .ok (.aload_n 0, 1) := by decide +kernel
theorem dX4_explore_1 : decode cX4_explore 1 = .ok (.iconst 0, 1) := by decide +kernel
theorem dX4_explore_2 : decode cX4_explore 2 = .ok (.putfield 63, 3) := by decide +kernel
theorem dX4_explore_5 : decode cX4_explore 5 = .ok (.aload_n 0, 1) := by decide +kernel
theorem dX4_explore_6 : decode cX4_explore 6 = .ok (.invokevirtual 72, 3) := by decide +kernel
theorem dX4_explore_9 : decode cX4_explore 9 = .ok (.aload_n 0, 1) := by decide +kernel
theorem dX4_explore_10 : decode cX4_explore 10 = .ok (.iconst 0, 1) := by decide +kernel
theorem dX4_explore_11 : decode cX4_explore 11 = .ok (.putfield 22, 3) := by decide +kernel
theorem dX4_explore_14 : decode cX4_explore 14 = .ok (.aload_n 0, 1) := by decide +kernel
theorem dX4_explore_15 : decode cX4_explore 15 = .ok (.iconst (-1), 1) := by decide +kernel
theorem dX4_explore_16 : decode cX4_explore 16 = .ok (.putfield 89, 3) := by decide +kernel
theorem dX4_explore_19 : decode cX4_explore 19 = .ok (.aload_n 0, 1) := by decide +kernel
theorem dX4_explore_20 : decode cX4_explore 20 = .ok (.iconst (-1), 1) := by decide +kernel
theorem dX4_explore_21 : decode cX4_explore 21 = .ok (.putfield 92, 3) := by decide +kernel
theorem dX4_explore_24 : decode cX4_explore 24 = .ok (.iconst 0, 1) := by decide +kernel
theorem dX4_explore_25 : decode cX4_explore 25 = .ok (.istore_n 1, 1) := by decide +kernel
theorem dX4_explore_26 : decode cX4_explore 26 = .ok (.iload_n 1, 1) := by decide +kernel
theorem dX4_explore_27 : decode cX4_explore 27 = .ok (.aload_n 0, 1) := by decide +kernel
theorem dX4_explore_28 : decode cX4_explore 28 = .ok (.getfield 66, 3) := by decide +kernel
theorem dX4_explore_31 : decode cX4_explore 31 = .ok (.if_icmp .ge 21, 3) := by decide +kernel
theorem dX4_explore_34 : decode cX4_explore 34 = .ok (.aload_n 0, 1) := by decide +kernel
theorem dX4_explore_35 : decode cX4_explore 35 = .ok (.getfield 60, 3) := by decide +kernel
theorem dX4_explore_38 : decode cX4_explore 38 = .ok (.iload_n 1, 1) := by decide +kernel
theorem dX4_explore_39 : decode cX4_explore 39 = .ok (.aload_n 0, 1) := by decide +kernel
theorem dX4_explore_40 : decode cX4_explore 40 = .ok (.getfield 7, 3) := by decide +kernel
theorem dX4_explore_43 : decode cX4_explore 43 = .ok (.iload_n 1, 1) := by decide +kernel
theorem dX4_explore_44 : decode cX4_explore 44 = .ok (.iaload, 1) := by decide +kernel
theorem dX4_explore_45 : decode cX4_explore 45 = .ok (.iastore, 1) := by decide +kernel
theorem dX4_explore_46 : decode cX4_explore 46 = .ok (.iinc 1 1, 3) := by decide +kernel
theorem dX4_explore_49 : decode cX4_explore 49 = .ok (.goto (-23), 3) := by decide +kernel
theorem dX4_explore_52 : decode cX4_explore 52 = .ok (.aload_n 0, 1) := by decide +kernel
theorem dX4_explore_53 : decode cX4_explore 53 = .ok (.iconst (-1), 1) := by decide +kernel
theorem dX4_explore_54 : decode cX4_explore 54 = .ok (.bipush (-2), 2) := by decide +kernel
theorem dX4_explore_56 : decode cX4_explore 56 = .ok (.invokevirtual 95, 3) := by decide +kernel
theorem dX4_explore_59 : decode cX4_explore 59 = .ok (.iconst 0, 1) := by decide +kernel
theorem dX4_explore_60 : decode cX4_explore 60 = .ok (.istore_n 1, 1) := by decide +kernel
theorem dX4_explore_61 : decode cX4_explore 61 = .ok (.iload_n 1, 1) := by decide +kernel
theorem dX4_explore_62 : decode cX4_explore 62 = .ok (.ifCond .lt 103, 3) := by decide +kernel
theorem dX4_explore_65 : decode cX4_explore 65 = .ok (.aload_n 0, 1) := by decide +kernel
theorem dX4_explore_66 : decode cX4_explore 66 = .ok (.getfield 38, 3) := by decide +kernel
theorem dX4_explore_69 : decode cX4_explore 69 = .ok (.iload_n 1, 1) := by decide +kernel
theorem dX4_explore_70 : decode cX4_explore 70 = .ok (.baload, 1) := by decide +kernel
theorem dX4_explore_71 : decode cX4_explore 71 = .ok (.ifCond .ne 16, 3) := by decide +kernel
theorem dX4_explore_74 : decode cX4_explore 74 = .ok (.aload_n 0, 1) := by decide +kernel
theorem dX4_explore_75 : decode cX4_explore 75 = .ok (.getfield 35, 3) := by decide +kernel
theorem dX4_explore_78 : decode cX4_explore 78 = .ok (.iload_n 1, 1) := by decide +kernel
theorem dX4_explore_79 : decode cX4_explore 79 = .ok (.iaload, 1) := by decide +kernel
theorem dX4_explore_80 : decode cX4_explore 80 = .ok (.aload_n 0, 1) := by decide +kernel
theorem dX4_explore_81 : decode cX4_explore 81 = .ok (.getfield 69, 3) := by decide +kernel
theorem dX4_explore_84 : decode cX4_explore 84 = .ok (.if_icmp .ne 13, 3) := by decide +kernel
theorem dX4_explore_87 : decode cX4_explore 87 = .ok (.aload_n 0, 1) := by decide +kernel
theorem dX4_explore_88 : decode cX4_explore 88 = .ok (.getfield 29, 3) := by decide +kernel
theorem dX4_explore_91 : decode cX4_explore 91 = .ok (.iload_n 1, 1) := by decide +kernel
theorem dX4_explore_92 : decode cX4_explore 92 = .ok (.iaload, 1) := by decide +kernel
theorem dX4_explore_93 : decode cX4_explore 93 = .ok (.istore_n 1, 1) := by decide +kernel
theorem dX4_explore_94 : decode cX4_explore 94 = .ok (.goto (-33), 3) := by decide +kernel
theorem dX4_explore_97 : decode cX4_explore 97 = .ok (.aload_n 0, 1) := by decide +kernel
theorem dX4_explore_98 : decode cX4_explore 98 = .ok (.getfield 35, 3) := by decide +kernel
theorem dX4_explore_101 : decode cX4_explore 101 = .ok (.iload_n 1, 1) := by decide +kernel
theorem dX4_explore_102 : decode cX4_explore 102 = .ok (.iaload, 1) := by decide +kernel
theorem dX4_explore_103 : decode cX4_explore 103 = .ok (.istore_n 2, 1) := by decide +kernel
theorem dX4_explore_104 : decode cX4_explore 104 = .ok (.aload_n 0, 1) := by decide +kernel
theorem dX4_explore_105 : decode cX4_explore 105 = .ok (.getfield 35, 3) := by decide +kernel
theorem dX4_explore_108 : decode cX4_explore 108 = .ok (.iload_n 1, 1) := by decide +kernel
theorem dX4_explore_109 : decode cX4_explore 109 = .ok (.iload_n 2, 1) := by decide +kernel
theorem dX4_explore_110 : decode cX4_explore 110 = .ok (.iconst 1, 1) := by decide +kernel
theorem dX4_explore_111 : decode cX4_explore 111 = .ok (.iadd, 1) := by decide +kernel
theorem dX4_explore_112 : decode cX4_explore 112 = .ok (.iastore, 1) := by decide +kernel
theorem dX4_explore_113 : decode cX4_explore 113 = .ok (.aload_n 0, 1) := by decide +kernel
theorem dX4_explore_114 : decode cX4_explore 114 = .ok (.iload_n 1, 1) := by decide +kernel
theorem dX4_explore_115 : decode cX4_explore 115 = .ok (.iload_n 2, 1) := by decide +kernel
theorem dX4_explore_116 : decode cX4_explore 116 = .ok (.invokevirtual 99, 3) := by decide +kernel
theorem dX4_explore_119 : decode cX4_explore 119 = .ok (.ifCond .eq 43, 3) := by decide +kernel
theorem dX4_explore_122 : decode cX4_explore 122 = .ok (.aload_n 0, 1) := by decide +kernel
theorem dX4_explore_123 : decode cX4_explore 123 = .ok (.getfield 22, 3) := by decide +kernel
theorem dX4_explore_126 : decode cX4_explore 126 = .ok (.bipush 100, 2) := by decide +kernel
theorem dX4_explore_128 : decode cX4_explore 128 = .ok (.if_icmp .ne 15, 3) := by decide +kernel
theorem dX4_explore_131 : decode cX4_explore 131 = .ok (.aload_n 0, 1) := by decide +kernel
theorem dX4_explore_132 : decode cX4_explore 132 = .ok (.iconst (-1), 1) := by decide +kernel
theorem dX4_explore_133 : decode cX4_explore 133 = .ok (.putfield 22, 3) := by decide +kernel
theorem dX4_explore_136 : decode cX4_explore 136 = .ok (.aload_n 0, 1) := by decide +kernel
theorem dX4_explore_137 : decode cX4_explore 137 = .ok (.iconst 1, 1) := by decide +kernel
theorem dX4_explore_138 : decode cX4_explore 138 = .ok (.putfield 63, 3) := by decide +kernel
theorem dX4_explore_141 : decode cX4_explore 141 = .ok (.iconst 0, 1) := by decide +kernel
theorem dX4_explore_142 : decode cX4_explore 142 = .ok (.ireturn, 1) := by decide +kernel
theorem dX4_explore_143 : decode cX4_explore 143 = .ok (.aload_n 0, 1) := by decide +kernel
theorem dX4_explore_144 : decode cX4_explore 144 = .ok (.iload_n 1, 1) := by decide +kernel
theorem dX4_explore_145 : decode cX4_explore 145 = .ok (.iload_n 2, 1) := by decide +kernel
theorem dX4_explore_146 : decode cX4_explore 146 = .ok (.invokevirtual 103, 3) := by decide +kernel
theorem dX4_explore_149 : decode cX4_explore 149 = .ok (.aload_n 0, 1) := by decide +kernel
theorem dX4_explore_150 : decode cX4_explore 150 = .ok (.iload_n 1, 1) := by decide +kernel
theorem dX4_explore_151 : decode cX4_explore 151 = .ok (.iload_n 2, 1) := by decide +kernel
theorem dX4_explore_152 : decode cX4_explore 152 = .ok (.invokevirtual 95, 3) := by decide +kernel
theorem dX4_explore_155 : decode cX4_explore 155 = .ok (.aload_n 0, 1) := by decide +kernel
theorem dX4_explore_156 : decode cX4_explore 156 = .ok (.getfield 22, 3) := by decide +kernel
theorem dX4_explore_159 : decode cX4_explore 159 = .ok (.iconst 1, 1) := by decide +kernel
theorem dX4_explore_160 : decode cX4_explore 160 = .ok (.isub, 1) := by decide +kernel
theorem dX4_explore_161 : decode cX4_explore 161 = .ok (.istore_n 1, 1) := by decide +kernel
theorem dX4_explore_162 : decode cX4_explore 162 = .ok (.goto (-101), 3) := by decide +kernel
theorem dX4_explore_165 : decode cX4_explore 165 = .ok (.aload_n 0, 1) := by decide +kernel
theorem dX4_explore_166 : decode cX4_explore 166 = .ok (.getfield 22, 3) := by decide +kernel
theorem dX4_explore_169 : decode cX4_explore 169 = .ok (.ireturn, 1) := by decide +kernel
theorem dX4_told_0 : decode cX4_told 0 = .ok (.iload_n 0, 1) := by decide +kernel
theorem dX4_told_1 : decode cX4_told 1 = .ok (.ldc 85, 2) := by decide +kernel
theorem dX4_told_3 : decode cX4_told 3 = .ok (.if_icmp .ne 7, 3) := by decide +kernel
theorem dX4_told_6 : decode cX4_told 6 = .ok (.iconst (-1), 1) := by decide +kernel
theorem dX4_told_7 : decode cX4_told 7 = .ok (.goto 4, 3) := by decide +kernel
theorem dX4_told_10 : decode cX4_told 10 = .ok (.iload_n 0, 1) := by decide +kernel
theorem dX4_told_11 : decode cX4_told 11 = .ok (.ireturn, 1) := by decide +kernel
theorem dX4_count_0 : decode cX4_count 0 = .ok (.aload_n 0, 1) := by decide +kernel
theorem dX4_count_1 : decode cX4_count 1 = .ok (.aload_n 0, 1) := by decide +kernel
theorem dX4_count_2 : decode cX4_count 2 = .ok (.getfield 22, 3) := by decide +kernel
theorem dX4_count_5 : decode cX4_count 5 = .ok (.ifCond .ge 7, 3) := by decide +kernel
theorem dX4_count_8 : decode cX4_count 8 = .ok (.iconst 1, 1) := by decide +kernel
theorem dX4_count_9 : decode cX4_count 9 = .ok (.goto 28, 3) := by decide +kernel
theorem dX4_count_12 : decode cX4_count 12 = .ok (.iload_n 1, 1) := by decide +kernel
theorem dX4_count_13 : decode cX4_count 13 = .ok (.ifCond .lt 19, 3) := by decide +kernel
theorem dX4_count_16 : decode cX4_count 16 = .ok (.iload_n 1, 1) := by decide +kernel
theorem dX4_count_17 : decode cX4_count 17 = .ok (.aload_n 0, 1) := by decide +kernel
theorem dX4_count_18 : decode cX4_count 18 = .ok (.getfield 22, 3) := by decide +kernel
theorem dX4_count_21 : decode cX4_count 21 = .ok (.if_icmp .ge 11, 3) := by decide +kernel
theorem dX4_count_24 : decode cX4_count 24 = .ok (.aload_n 0, 1) := by decide +kernel
theorem dX4_count_25 : decode cX4_count 25 = .ok (.iload_n 2, 1) := by decide +kernel
theorem dX4_count_26 : decode cX4_count 26 = .ok (.invokevirtual 75, 3) := by decide +kernel
theorem dX4_count_29 : decode cX4_count 29 = .ok (.ifCond .eq 7, 3) := by decide +kernel
theorem dX4_count_32 : decode cX4_count 32 = .ok (.iconst 2, 1) := by decide +kernel
theorem dX4_count_33 : decode cX4_count 33 = .ok (.goto 4, 3) := by decide +kernel
theorem dX4_count_36 : decode cX4_count 36 = .ok (.iconst 0, 1) := by decide +kernel
theorem dX4_count_37 : decode cX4_count 37 = .ok (.putfield 63, 3) := by decide +kernel
theorem dX4_count_40 : decode cX4_count 40 = .ok (.aload_n 0, 1) := by decide +kernel
theorem dX4_count_41 : decode cX4_count 41 = .ok (.getfield 63, 3) := by decide +kernel
theorem dX4_count_44 : decode cX4_count 44 = .ok (.ifCond .le 7, 3) := by decide +kernel
theorem dX4_count_47 : decode cX4_count 47 = .ok (.iconst 0, 1) := by decide +kernel
theorem dX4_count_48 : decode cX4_count 48 = .ok (.goto 17, 3) := by decide +kernel
theorem dX4_count_51 : decode cX4_count 51 = .ok (.aload_n 0, 1) := by decide +kernel
theorem dX4_count_52 : decode cX4_count 52 = .ok (.getfield 26, 3) := by decide +kernel
theorem dX4_count_55 : decode cX4_count 55 = .ok (.bipush 6, 2) := by decide +kernel
theorem dX4_count_57 : decode cX4_count 57 = .ok (.iload_n 1, 1) := by decide +kernel
theorem dX4_count_58 : decode cX4_count 58 = .ok (.imul, 1) := by decide +kernel
theorem dX4_count_59 : decode cX4_count 59 = .ok (.iload_n 2, 1) := by decide +kernel
theorem dX4_count_60 : decode cX4_count 60 = .ok (.iadd, 1) := by decide +kernel
theorem dX4_count_61 : decode cX4_count 61 = .ok (.iaload, 1) := by decide +kernel
theorem dX4_count_62 : decode cX4_count 62 = .ok (.invokestatic 106, 3) := by decide +kernel
theorem dX4_count_65 : decode cX4_count 65 = .ok (.ireturn, 1) := by decide +kernel
theorem dX4_node_0 : decode cX4_node 0 = .ok (.aload_n 0, 1) := by decide +kernel
theorem dX4_node_1 : decode cX4_node 1 = .ok (.aload_n 0, 1) := by decide +kernel
theorem dX4_node_2 : decode cX4_node 2 = .ok (.getfield 22, 3) := by decide +kernel
theorem dX4_node_5 : decode cX4_node 5 = .ok (.ifCond .ge 7, 3) := by decide +kernel
theorem dX4_node_8 : decode cX4_node 8 = .ok (.iconst 1, 1) := by decide +kernel
theorem dX4_node_9 : decode cX4_node 9 = .ok (.goto 20, 3) := by decide +kernel
theorem dX4_node_12 : decode cX4_node 12 = .ok (.iload_n 1, 1) := by decide +kernel
theorem dX4_node_13 : decode cX4_node 13 = .ok (.ifCond .lt 11, 3) := by decide +kernel
theorem dX4_node_16 : decode cX4_node 16 = .ok (.iload_n 1, 1) := by decide +kernel
theorem dX4_node_17 : decode cX4_node 17 = .ok (.aload_n 0, 1) := by decide +kernel
theorem dX4_node_18 : decode cX4_node 18 = .ok (.getfield 22, 3) := by decide +kernel
theorem dX4_node_21 : decode cX4_node 21 = .ok (.if_icmp .lt 7, 3) := by decide +kernel
theorem dX4_node_24 : decode cX4_node 24 = .ok (.iconst 2, 1) := by decide +kernel
theorem dX4_node_25 : decode cX4_node 25 = .ok (.goto 4, 3) := by decide +kernel
theorem dX4_node_28 : decode cX4_node 28 = .ok (.iconst 0, 1) := by decide +kernel
theorem dX4_node_29 : decode cX4_node 29 = .ok (.putfield 63, 3) := by decide +kernel
theorem dX4_node_32 : decode cX4_node 32 = .ok (.aload_n 0, 1) := by decide +kernel
theorem dX4_node_33 : decode cX4_node 33 = .ok (.getfield 63, 3) := by decide +kernel
theorem dX4_node_36 : decode cX4_node 36 = .ok (.ifCond .le 5, 3) := by decide +kernel
theorem dX4_node_39 : decode cX4_node 39 = .ok (.iconst 0, 1) := by decide +kernel
theorem dX4_node_40 : decode cX4_node 40 = .ok (.ireturn, 1) := by decide +kernel
theorem dX4_node_41 : decode cX4_node 41 = .ok (.iload_n 2, 1) := by decide +kernel
theorem dX4_node_42 : decode cX4_node 42 = .ok (.iconst 2, 1) := by decide +kernel
theorem dX4_node_43 : decode cX4_node 43 = .ok (.if_icmp .ne 18, 3) := by decide +kernel
theorem dX4_node_46 : decode cX4_node 46 = .ok (.aload_n 0, 1) := by decide +kernel
theorem dX4_node_47 : decode cX4_node 47 = .ok (.getfield 38, 3) := by decide +kernel
theorem dX4_node_50 : decode cX4_node 50 = .ok (.iload_n 1, 1) := by decide +kernel
theorem dX4_node_51 : decode cX4_node 51 = .ok (.baload, 1) := by decide +kernel
theorem dX4_node_52 : decode cX4_node 52 = .ok (.ifCond .eq 7, 3) := by decide +kernel
theorem dX4_node_55 : decode cX4_node 55 = .ok (.iconst 1, 1) := by decide +kernel
theorem dX4_node_56 : decode cX4_node 56 = .ok (.goto 4, 3) := by decide +kernel
theorem dX4_node_59 : decode cX4_node 59 = .ok (.iconst 0, 1) := by decide +kernel
theorem dX4_node_60 : decode cX4_node 60 = .ok (.ireturn, 1) := by decide +kernel
theorem dX4_node_61 : decode cX4_node 61 = .ok (.iload_n 1, 1) := by decide +kernel
theorem dX4_node_62 : decode cX4_node 62 = .ok (.ifCond .eq 12, 3) := by decide +kernel
theorem dX4_node_65 : decode cX4_node 65 = .ok (.iload_n 2, 1) := by decide +kernel
theorem dX4_node_66 : decode cX4_node 66 = .ok (.ifCond .eq 11, 3) := by decide +kernel
theorem dX4_node_69 : decode cX4_node 69 = .ok (.iload_n 2, 1) := by decide +kernel
theorem dX4_node_70 : decode cX4_node 70 = .ok (.iconst 1, 1) := by decide +kernel
theorem dX4_node_71 : decode cX4_node 71 = .ok (.if_icmp .eq 6, 3) := by decide +kernel
theorem dX4_node_74 : decode cX4_node 74 = .ok (.bipush (-2), 2) := by decide +kernel
theorem dX4_node_76 : decode cX4_node 76 = .ok (.ireturn, 1) := by decide +kernel
theorem dX4_node_77 : decode cX4_node 77 = .ok (.iload_n 2, 1) := by decide +kernel
theorem dX4_node_78 : decode cX4_node 78 = .ok (.ifCond .ne 12, 3) := by decide +kernel
theorem dX4_node_81 : decode cX4_node 81 = .ok (.aload_n 0, 1) := by decide +kernel
theorem dX4_node_82 : decode cX4_node 82 = .ok (.getfield 29, 3) := by decide +kernel
theorem dX4_node_85 : decode cX4_node 85 = .ok (.iload_n 1, 1) := by decide +kernel
theorem dX4_node_86 : decode cX4_node 86 = .ok (.iaload, 1) := by decide +kernel
theorem dX4_node_87 : decode cX4_node 87 = .ok (.goto 9, 3) := by decide +kernel
theorem dX4_node_90 : decode cX4_node 90 = .ok (.aload_n 0, 1) := by decide +kernel
theorem dX4_node_91 : decode cX4_node 91 = .ok (.getfield 32, 3) := by decide +kernel
theorem dX4_node_94 : decode cX4_node 94 = .ok (.iload_n 1, 1) := by decide +kernel
theorem dX4_node_95 : decode cX4_node 95 = .ok (.iaload, 1) := by decide +kernel
theorem dX4_node_96 : decode cX4_node 96 = .ok (.ireturn, 1) := by decide +kernel
theorem dX4_greatest_0 : decode cX4_greatest 0 = .ok (.iconst 0, 1) := by decide +kernel
theorem dX4_greatest_1 : decode cX4_greatest 1 = .ok (.istore_n 2, 1) := by decide +kernel
theorem dX4_greatest_2 : decode cX4_greatest 2 = .ok (.iconst 0, 1) := by decide +kernel
theorem dX4_greatest_3 : decode cX4_greatest 3 = .ok (.istore_n 3, 1) := by decide +kernel
theorem dX4_greatest_4 : decode cX4_greatest 4 = .ok (.iload_n 3, 1) := by decide +kernel
theorem dX4_greatest_5 : decode cX4_greatest 5 = .ok (.aload_n 0, 1) := by decide +kernel
theorem dX4_greatest_6 : decode cX4_greatest 6 = .ok (.getfield 22, 3) := by decide +kernel
theorem dX4_greatest_9 : decode cX4_greatest 9 = .ok (.if_icmp .ge 40, 3) := by decide +kernel
theorem dX4_greatest_12 : decode cX4_greatest 12 = .ok (.aload_n 0, 1) := by decide +kernel
theorem dX4_greatest_13 : decode cX4_greatest 13 = .ok (.getfield 26, 3) := by decide +kernel
theorem dX4_greatest_16 : decode cX4_greatest 16 = .ok (.bipush 6, 2) := by decide +kernel
theorem dX4_greatest_18 : decode cX4_greatest 18 = .ok (.iload_n 3, 1) := by decide +kernel
theorem dX4_greatest_19 : decode cX4_greatest 19 = .ok (.imul, 1) := by decide +kernel
theorem dX4_greatest_20 : decode cX4_greatest 20 = .ok (.iload_n 1, 1) := by decide +kernel
theorem dX4_greatest_21 : decode cX4_greatest 21 = .ok (.iadd, 1) := by decide +kernel
theorem dX4_greatest_22 : decode cX4_greatest 22 = .ok (.iaload, 1) := by decide +kernel
theorem dX4_greatest_23 : decode cX4_greatest 23 = .ok (.iload_n 2, 1) := by decide +kernel
theorem dX4_greatest_24 : decode cX4_greatest 24 = .ok (.if_icmp .le 17, 3) := by decide +kernel
theorem dX4_greatest_27 : decode cX4_greatest 27 = .ok (.aload_n 0, 1) := by decide +kernel
theorem dX4_greatest_28 : decode cX4_greatest 28 = .ok (.getfield 26, 3) := by decide +kernel
theorem dX4_greatest_31 : decode cX4_greatest 31 = .ok (.bipush 6, 2) := by decide +kernel
theorem dX4_greatest_33 : decode cX4_greatest 33 = .ok (.iload_n 3, 1) := by decide +kernel
theorem dX4_greatest_34 : decode cX4_greatest 34 = .ok (.imul, 1) := by decide +kernel
theorem dX4_greatest_35 : decode cX4_greatest 35 = .ok (.iload_n 1, 1) := by decide +kernel
theorem dX4_greatest_36 : decode cX4_greatest 36 = .ok (.iadd, 1) := by decide +kernel
theorem dX4_greatest_37 : decode cX4_greatest 37 = .ok (.iaload, 1) := by decide +kernel
theorem dX4_greatest_38 : decode cX4_greatest 38 = .ok (.goto 4, 3) := by decide +kernel
theorem dX4_greatest_41 : decode cX4_greatest 41 = .ok (.iload_n 2, 1) := by decide +kernel
theorem dX4_greatest_42 : decode cX4_greatest 42 = .ok (.istore_n 2, 1) := by decide +kernel
theorem dX4_greatest_43 : decode cX4_greatest 43 = .ok (.iinc 3 1, 3) := by decide +kernel
theorem dX4_greatest_46 : decode cX4_greatest 46 = .ok (.goto (-42), 3) := by decide +kernel
theorem dX4_greatest_49 : decode cX4_greatest 49 = .ok (.iload_n 2, 1) := by decide +kernel
theorem dX4_greatest_50 : decode cX4_greatest 50 = .ok (.ireturn, 1) := by decide +kernel
theorem dX4_bound_0 : decode cX4_bound 0 = .ok (.aload_n 0, 1) := by decide +kernel
theorem dX4_bound_1 : decode cX4_bound 1 = .ok (.aload_n 0, 1) := by decide +kernel
theorem dX4_bound_2 : decode cX4_bound 2 = .ok (.getfield 22, 3) := by decide +kernel
theorem dX4_bound_5 : decode cX4_bound 5 = .ok (.ifCond .ge 7, 3) := by decide +kernel
theorem dX4_bound_8 : decode cX4_bound 8 = .ok (.iconst 1, 1) := by decide +kernel
theorem dX4_bound_9 : decode cX4_bound 9 = .ok (.goto 16, 3) := by decide +kernel
theorem dX4_bound_12 : decode cX4_bound 12 = .ok (.aload_n 0, 1) := by decide +kernel
theorem dX4_bound_13 : decode cX4_bound 13 = .ok (.iload_n 1, 1) := by decide +kernel
theorem dX4_bound_14 : decode cX4_bound 14 = .ok (.invokevirtual 75, 3) := by decide +kernel
theorem dX4_bound_17 : decode cX4_bound 17 = .ok (.ifCond .eq 7, 3) := by decide +kernel
theorem dX4_bound_20 : decode cX4_bound 20 = .ok (.iconst 2, 1) := by decide +kernel
theorem dX4_bound_21 : decode cX4_bound 21 = .ok (.goto 4, 3) := by decide +kernel
theorem dX4_bound_24 : decode cX4_bound 24 = .ok (.iconst 0, 1) := by decide +kernel
theorem dX4_bound_25 : decode cX4_bound 25 = .ok (.putfield 63, 3) := by decide +kernel
theorem dX4_bound_28 : decode cX4_bound 28 = .ok (.aload_n 0, 1) := by decide +kernel
theorem dX4_bound_29 : decode cX4_bound 29 = .ok (.getfield 63, 3) := by decide +kernel
theorem dX4_bound_32 : decode cX4_bound 32 = .ok (.ifCond .le 7, 3) := by decide +kernel
theorem dX4_bound_35 : decode cX4_bound 35 = .ok (.iconst 0, 1) := by decide +kernel
theorem dX4_bound_36 : decode cX4_bound 36 = .ok (.goto 11, 3) := by decide +kernel
theorem dX4_bound_39 : decode cX4_bound 39 = .ok (.aload_n 0, 1) := by decide +kernel
theorem dX4_bound_40 : decode cX4_bound 40 = .ok (.iload_n 1, 1) := by decide +kernel
theorem dX4_bound_41 : decode cX4_bound 41 = .ok (.invokevirtual 110, 3) := by decide +kernel
theorem dX4_bound_44 : decode cX4_bound 44 = .ok (.invokestatic 106, 3) := by decide +kernel
theorem dX4_bound_47 : decode cX4_bound 47 = .ok (.ireturn, 1) := by decide +kernel
theorem dX4_want_0 : decode cX4_want 0 = .ok (.aload_n 0, 1) := by decide +kernel
theorem dX4_want_1 : decode cX4_want 1 = .ok (.aload_n 0, 1) := by decide +kernel
theorem dX4_want_2 : decode cX4_want 2 = .ok (.iload_n 1, 1) := by decide +kernel
theorem dX4_want_3 : decode cX4_want 3 = .ok (.invokevirtual 75, 3) := by decide +kernel
theorem dX4_want_6 : decode cX4_want 6 = .ok (.ifCond .eq 7, 3) := by decide +kernel
theorem dX4_want_9 : decode cX4_want 9 = .ok (.iconst 1, 1) := by decide +kernel
theorem dX4_want_10 : decode cX4_want 10 = .ok (.goto 18, 3) := by decide +kernel
theorem dX4_want_13 : decode cX4_want 13 = .ok (.iload_n 2, 1) := by decide +kernel
theorem dX4_want_14 : decode cX4_want 14 = .ok (.ifCond .lt 9, 3) := by decide +kernel
theorem dX4_want_17 : decode cX4_want 17 = .ok (.iload_n 2, 1) := by decide +kernel
theorem dX4_want_18 : decode cX4_want 18 = .ok (.bipush 99, 2) := by decide +kernel
theorem dX4_want_20 : decode cX4_want 20 = .ok (.if_icmp .le 7, 3) := by decide +kernel
theorem dX4_want_23 : decode cX4_want 23 = .ok (.iconst 2, 1) := by decide +kernel
theorem dX4_want_24 : decode cX4_want 24 = .ok (.goto 4, 3) := by decide +kernel
theorem dX4_want_27 : decode cX4_want 27 = .ok (.iconst 0, 1) := by decide +kernel
theorem dX4_want_28 : decode cX4_want 28 = .ok (.putfield 63, 3) := by decide +kernel
theorem dX4_want_31 : decode cX4_want 31 = .ok (.aload_n 0, 1) := by decide +kernel
theorem dX4_want_32 : decode cX4_want 32 = .ok (.getfield 63, 3) := by decide +kernel
theorem dX4_want_35 : decode cX4_want 35 = .ok (.ifCond .ne 10, 3) := by decide +kernel
theorem dX4_want_38 : decode cX4_want 38 = .ok (.aload_n 0, 1) := by decide +kernel
theorem dX4_want_39 : decode cX4_want 39 = .ok (.getfield 13, 3) := by decide +kernel
theorem dX4_want_42 : decode cX4_want 42 = .ok (.iload_n 1, 1) := by decide +kernel
theorem dX4_want_43 : decode cX4_want 43 = .ok (.iload_n 2, 1) := by decide +kernel
theorem dX4_want_44 : decode cX4_want 44 = .ok (.iastore, 1) := by decide +kernel
theorem dX4_want_45 : decode cX4_want 45 = .ok (.return_, 1) := by decide +kernel
theorem dX4_covered_0 : decode cX4_covered 0 = .ok (.aload_n 0, 1) := by decide +kernel
theorem dX4_covered_1 : decode cX4_covered 1 = .ok (.aload_n 0, 1) := by decide +kernel
theorem dX4_covered_2 : decode cX4_covered 2 = .ok (.getfield 22, 3) := by decide +kernel
theorem dX4_covered_5 : decode cX4_covered 5 = .ok (.ifCond .ge 7, 3) := by decide +kernel
theorem dX4_covered_8 : decode cX4_covered 8 = .ok (.iconst 1, 1) := by decide +kernel
theorem dX4_covered_9 : decode cX4_covered 9 = .ok (.goto 4, 3) := by decide +kernel
theorem dX4_covered_12 : decode cX4_covered 12 = .ok (.iconst 0, 1) := by decide +kernel
theorem dX4_covered_13 : decode cX4_covered 13 = .ok (.putfield 63, 3) := by decide +kernel
theorem dX4_covered_16 : decode cX4_covered 16 = .ok (.iconst 0, 1) := by decide +kernel
theorem dX4_covered_17 : decode cX4_covered 17 = .ok (.istore_n 1, 1) := by decide +kernel
theorem dX4_covered_18 : decode cX4_covered 18 = .ok (.iconst 0, 1) := by decide +kernel
theorem dX4_covered_19 : decode cX4_covered 19 = .ok (.istore_n 2, 1) := by decide +kernel
theorem dX4_covered_20 : decode cX4_covered 20 = .ok (.iload_n 2, 1) := by decide +kernel
theorem dX4_covered_21 : decode cX4_covered 21 = .ok (.aload_n 0, 1) := by decide +kernel
theorem dX4_covered_22 : decode cX4_covered 22 = .ok (.getfield 22, 3) := by decide +kernel
theorem dX4_covered_25 : decode cX4_covered 25 = .ok (.if_icmp .ge 75, 3) := by decide +kernel
theorem dX4_covered_28 : decode cX4_covered 28 = .ok (.iconst 1, 1) := by decide +kernel
theorem dX4_covered_29 : decode cX4_covered 29 = .ok (.istore_n 3, 1) := by decide +kernel
theorem dX4_covered_30 : decode cX4_covered 30 = .ok (.iconst 0, 1) := by decide +kernel
theorem dX4_covered_31 : decode cX4_covered 31 = .ok (.istore 4, 2) := by decide +kernel
theorem dX4_covered_33 : decode cX4_covered 33 = .ok (.iload 4, 2) := by decide +kernel
theorem dX4_covered_35 : decode cX4_covered 35 = .ok (.aload_n 0, 1) := by decide +kernel
theorem dX4_covered_36 : decode cX4_covered 36 = .ok (.getfield 66, 3) := by decide +kernel
theorem dX4_covered_39 : decode cX4_covered 39 = .ok (.if_icmp .ge 41, 3) := by decide +kernel
theorem dX4_covered_42 : decode cX4_covered 42 = .ok (.iload_n 3, 1) := by decide +kernel
theorem dX4_covered_43 : decode cX4_covered 43 = .ok (.ifCond .eq 29, 3) := by decide +kernel
theorem dX4_covered_46 : decode cX4_covered 46 = .ok (.aload_n 0, 1) := by decide +kernel
theorem dX4_covered_47 : decode cX4_covered 47 = .ok (.getfield 26, 3) := by decide +kernel
theorem dX4_covered_50 : decode cX4_covered 50 = .ok (.bipush 6, 2) := by decide +kernel
theorem dX4_covered_52 : decode cX4_covered 52 = .ok (.iload_n 2, 1) := by decide +kernel
theorem dX4_covered_53 : decode cX4_covered 53 = .ok (.imul, 1) := by decide +kernel
theorem dX4_covered_54 : decode cX4_covered 54 = .ok (.iload 4, 2) := by decide +kernel
theorem dX4_covered_56 : decode cX4_covered 56 = .ok (.iadd, 1) := by decide +kernel
theorem dX4_covered_57 : decode cX4_covered 57 = .ok (.iaload, 1) := by decide +kernel
theorem dX4_covered_58 : decode cX4_covered 58 = .ok (.aload_n 0, 1) := by decide +kernel
theorem dX4_covered_59 : decode cX4_covered 59 = .ok (.getfield 13, 3) := by decide +kernel
theorem dX4_covered_62 : decode cX4_covered 62 = .ok (.iload 4, 2) := by decide +kernel
theorem dX4_covered_64 : decode cX4_covered 64 = .ok (.iaload, 1) := by decide +kernel
theorem dX4_covered_65 : decode cX4_covered 65 = .ok (.if_icmp .lt 7, 3) := by decide +kernel
theorem dX4_covered_68 : decode cX4_covered 68 = .ok (.iconst 1, 1) := by decide +kernel
theorem dX4_covered_69 : decode cX4_covered 69 = .ok (.goto 4, 3) := by decide +kernel
theorem dX4_covered_72 : decode cX4_covered 72 = .ok (.iconst 0, 1) := by decide +kernel
theorem dX4_covered_73 : decode cX4_covered 73 = .ok (.istore_n 3, 1) := by decide +kernel
theorem dX4_covered_74 : decode cX4_covered 74 = .ok (.iinc 4 1, 3) := by decide +kernel
theorem dX4_covered_77 : decode cX4_covered 77 = .ok (.goto (-44), 3) := by decide +kernel
theorem dX4_covered_80 : decode cX4_covered 80 = .ok (.iload_n 1, 1) := by decide +kernel
theorem dX4_covered_81 : decode cX4_covered 81 = .ok (.ifCond .ne 7, 3) := by decide +kernel
theorem dX4_covered_84 : decode cX4_covered 84 = .ok (.iload_n 3, 1) := by decide +kernel
theorem dX4_covered_85 : decode cX4_covered 85 = .ok (.ifCond .eq 7, 3) := by decide +kernel
theorem dX4_covered_88 : decode cX4_covered 88 = .ok (.iconst 1, 1) := by decide +kernel
theorem dX4_covered_89 : decode cX4_covered 89 = .ok (.goto 4, 3) := by decide +kernel
theorem dX4_covered_92 : decode cX4_covered 92 = .ok (.iconst 0, 1) := by decide +kernel
theorem dX4_covered_93 : decode cX4_covered 93 = .ok (.istore_n 1, 1) := by decide +kernel
theorem dX4_covered_94 : decode cX4_covered 94 = .ok (.iinc 2 1, 3) := by decide +kernel
theorem dX4_covered_97 : decode cX4_covered 97 = .ok (.goto (-77), 3) := by decide +kernel
theorem dX4_covered_100 : decode cX4_covered 100 = .ok (.iload_n 1, 1) := by decide +kernel
theorem dX4_covered_101 : decode cX4_covered 101 = .ok (.ireturn, 1) := by decide +kernel
theorem dX4_possible_0 : decode cX4_possible 0 = .ok (.aload_n 0, 1) := by decide +kernel
theorem dX4_possible_1 : decode cX4_possible 1 = .ok (.aload_n 0, 1) := by decide +kernel
theorem dX4_possible_2 : decode cX4_possible 2 = .ok (.getfield 22, 3) := by decide +kernel
theorem dX4_possible_5 : decode cX4_possible 5 = .ok (.ifCond .ge 7, 3) := by decide +kernel
theorem dX4_possible_8 : decode cX4_possible 8 = .ok (.iconst 1, 1) := by decide +kernel
theorem dX4_possible_9 : decode cX4_possible 9 = .ok (.goto 16, 3) := by decide +kernel
theorem dX4_possible_12 : decode cX4_possible 12 = .ok (.aload_n 0, 1) := by decide +kernel
theorem dX4_possible_13 : decode cX4_possible 13 = .ok (.iload_n 1, 1) := by decide +kernel
theorem dX4_possible_14 : decode cX4_possible 14 = .ok (.invokevirtual 79, 3) := by decide +kernel
theorem dX4_possible_17 : decode cX4_possible 17 = .ok (.ifCond .eq 7, 3) := by decide +kernel
theorem dX4_possible_20 : decode cX4_possible 20 = .ok (.iconst 2, 1) := by decide +kernel
theorem dX4_possible_21 : decode cX4_possible 21 = .ok (.goto 4, 3) := by decide +kernel
theorem dX4_possible_24 : decode cX4_possible 24 = .ok (.iconst 0, 1) := by decide +kernel
theorem dX4_possible_25 : decode cX4_possible 25 = .ok (.putfield 63, 3) := by decide +kernel
theorem dX4_possible_28 : decode cX4_possible 28 = .ok (.iconst 0, 1) := by decide +kernel
theorem dX4_possible_29 : decode cX4_possible 29 = .ok (.istore_n 2, 1) := by decide +kernel
theorem dX4_possible_30 : decode cX4_possible 30 = .ok (.iconst 0, 1) := by decide +kernel
theorem dX4_possible_31 : decode cX4_possible 31 = .ok (.istore_n 3, 1) := by decide +kernel
theorem dX4_possible_32 : decode cX4_possible 32 = .ok (.iload_n 3, 1) := by decide +kernel
theorem dX4_possible_33 : decode cX4_possible 33 = .ok (.aload_n 0, 1) := by decide +kernel
theorem dX4_possible_34 : decode cX4_possible 34 = .ok (.getfield 22, 3) := by decide +kernel
theorem dX4_possible_37 : decode cX4_possible 37 = .ok (.if_icmp .ge 35, 3) := by decide +kernel
theorem dX4_possible_40 : decode cX4_possible 40 = .ok (.aload_n 0, 1) := by decide +kernel
theorem dX4_possible_41 : decode cX4_possible 41 = .ok (.getfield 63, 3) := by decide +kernel
theorem dX4_possible_44 : decode cX4_possible 44 = .ok (.ifCond .ne 28, 3) := by decide +kernel
theorem dX4_possible_47 : decode cX4_possible 47 = .ok (.iload_n 2, 1) := by decide +kernel
theorem dX4_possible_48 : decode cX4_possible 48 = .ok (.ifCond .ne 12, 3) := by decide +kernel
theorem dX4_possible_51 : decode cX4_possible 51 = .ok (.aload_n 0, 1) := by decide +kernel
theorem dX4_possible_52 : decode cX4_possible 52 = .ok (.iload_n 3, 1) := by decide +kernel
theorem dX4_possible_53 : decode cX4_possible 53 = .ok (.iload_n 1, 1) := by decide +kernel
theorem dX4_possible_54 : decode cX4_possible 54 = .ok (.invokevirtual 99, 3) := by decide +kernel
theorem dX4_possible_57 : decode cX4_possible 57 = .ok (.ifCond .eq 7, 3) := by decide +kernel
theorem dX4_possible_60 : decode cX4_possible 60 = .ok (.iconst 1, 1) := by decide +kernel
theorem dX4_possible_61 : decode cX4_possible 61 = .ok (.goto 4, 3) := by decide +kernel
theorem dX4_possible_64 : decode cX4_possible 64 = .ok (.iconst 0, 1) := by decide +kernel
theorem dX4_possible_65 : decode cX4_possible 65 = .ok (.istore_n 2, 1) := by decide +kernel
theorem dX4_possible_66 : decode cX4_possible 66 = .ok (.iinc 3 1, 3) := by decide +kernel
theorem dX4_possible_69 : decode cX4_possible 69 = .ok (.goto (-37), 3) := by decide +kernel
theorem dX4_possible_72 : decode cX4_possible 72 = .ok (.iload_n 2, 1) := by decide +kernel
theorem dX4_possible_73 : decode cX4_possible 73 = .ok (.ireturn, 1) := by decide +kernel
theorem dX4_depth_0 : decode cX4_depth 0 = .ok (.iconst 0, 1) := by decide +kernel
theorem dX4_depth_1 : decode cX4_depth 1 = .ok (.istore_n 2, 1) := by decide +kernel
theorem dX4_depth_2 : decode cX4_depth 2 = .ok (.iload_n 1, 1) := by decide +kernel
theorem dX4_depth_3 : decode cX4_depth 3 = .ok (.istore_n 3, 1) := by decide +kernel
theorem dX4_depth_4 : decode cX4_depth 4 = .ok (.iload_n 3, 1) := by decide +kernel
theorem dX4_depth_5 : decode cX4_depth 5 = .ok (.ifCond .le 16, 3) := by decide +kernel
theorem dX4_depth_8 : decode cX4_depth 8 = .ok (.iinc 2 1, 3) := by decide +kernel
theorem dX4_depth_11 : decode cX4_depth 11 = .ok (.aload_n 0, 1) := by decide +kernel
theorem dX4_depth_12 : decode cX4_depth 12 = .ok (.getfield 29, 3) := by decide +kernel
theorem dX4_depth_15 : decode cX4_depth 15 = .ok (.iload_n 3, 1) := by decide +kernel
theorem dX4_depth_16 : decode cX4_depth 16 = .ok (.iaload, 1) := by decide +kernel
theorem dX4_depth_17 : decode cX4_depth 17 = .ok (.istore_n 3, 1) := by decide +kernel
theorem dX4_depth_18 : decode cX4_depth 18 = .ok (.goto (-14), 3) := by decide +kernel
theorem dX4_depth_21 : decode cX4_depth 21 = .ok (.iload_n 2, 1) := by decide +kernel
theorem dX4_depth_22 : decode cX4_depth 22 = .ok (.ireturn, 1) := by decide +kernel
theorem dX4_growth_0 : decode cX4_growth 0 = .ok (.aload_n 0, 1) := by decide +kernel
theorem dX4_growth_1 : decode cX4_growth 1 = .ok (.aload_n 0, 1) := by decide +kernel
theorem dX4_growth_2 : decode cX4_growth 2 = .ok (.getfield 22, 3) := by decide +kernel
theorem dX4_growth_5 : decode cX4_growth 5 = .ok (.ifCond .ge 7, 3) := by decide +kernel
theorem dX4_growth_8 : decode cX4_growth 8 = .ok (.iconst 1, 1) := by decide +kernel
theorem dX4_growth_9 : decode cX4_growth 9 = .ok (.goto 13, 3) := by decide +kernel
theorem dX4_growth_12 : decode cX4_growth 12 = .ok (.iload_n 1, 1) := by decide +kernel
theorem dX4_growth_13 : decode cX4_growth 13 = .ok (.iconst (-1), 1) := by decide +kernel
theorem dX4_growth_14 : decode cX4_growth 14 = .ok (.if_icmp .ge 7, 3) := by decide +kernel
theorem dX4_growth_17 : decode cX4_growth 17 = .ok (.iconst 2, 1) := by decide +kernel
theorem dX4_growth_18 : decode cX4_growth 18 = .ok (.goto 4, 3) := by decide +kernel
theorem dX4_growth_21 : decode cX4_growth 21 = .ok (.iconst 0, 1) := by decide +kernel
theorem dX4_growth_22 : decode cX4_growth 22 = .ok (.putfield 63, 3) := by decide +kernel
theorem dX4_growth_25 : decode cX4_growth 25 = .ok (.aload_n 0, 1) := by decide +kernel
theorem dX4_growth_26 : decode cX4_growth 26 = .ok (.getfield 63, 3) := by decide +kernel
theorem dX4_growth_29 : decode cX4_growth 29 = .ok (.ifCond .le 5, 3) := by decide +kernel
theorem dX4_growth_32 : decode cX4_growth 32 = .ok (.iconst 0, 1) := by decide +kernel
theorem dX4_growth_33 : decode cX4_growth 33 = .ok (.ireturn, 1) := by decide +kernel
theorem dX4_growth_34 : decode cX4_growth 34 = .ok (.aload_n 0, 1) := by decide +kernel
theorem dX4_growth_35 : decode cX4_growth 35 = .ok (.getfield 89, 3) := by decide +kernel
theorem dX4_growth_38 : decode cX4_growth 38 = .ok (.ifCond .ge 6, 3) := by decide +kernel
theorem dX4_growth_41 : decode cX4_growth 41 = .ok (.bipush (-2), 2) := by decide +kernel
theorem dX4_growth_43 : decode cX4_growth 43 = .ok (.ireturn, 1) := by decide +kernel
theorem dX4_growth_44 : decode cX4_growth 44 = .ok (.iload_n 1, 1) := by decide +kernel
theorem dX4_growth_45 : decode cX4_growth 45 = .ok (.ifCond .ge 12, 3) := by decide +kernel
theorem dX4_growth_48 : decode cX4_growth 48 = .ok (.aload_n 0, 1) := by decide +kernel
theorem dX4_growth_49 : decode cX4_growth 49 = .ok (.aload_n 0, 1) := by decide +kernel
theorem dX4_growth_50 : decode cX4_growth 50 = .ok (.getfield 92, 3) := by decide +kernel
theorem dX4_growth_53 : decode cX4_growth 53 = .ok (.invokevirtual 113, 3) := by decide +kernel
theorem dX4_growth_56 : decode cX4_growth 56 = .ok (.ireturn, 1) := by decide +kernel
theorem dX4_growth_57 : decode cX4_growth 57 = .ok (.aload_n 0, 1) := by decide +kernel
theorem dX4_growth_58 : decode cX4_growth 58 = .ok (.aload_n 0, 1) := by decide +kernel
theorem dX4_growth_59 : decode cX4_growth 59 = .ok (.getfield 89, 3) := by decide +kernel
theorem dX4_growth_62 : decode cX4_growth 62 = .ok (.invokevirtual 113, 3) := by decide +kernel
theorem dX4_growth_65 : decode cX4_growth 65 = .ok (.iconst 1, 1) := by decide +kernel
theorem dX4_growth_66 : decode cX4_growth 66 = .ok (.isub, 1) := by decide +kernel
theorem dX4_growth_67 : decode cX4_growth 67 = .ok (.iload_n 1, 1) := by decide +kernel
theorem dX4_growth_68 : decode cX4_growth 68 = .ok (.isub, 1) := by decide +kernel
theorem dX4_growth_69 : decode cX4_growth 69 = .ok (.istore_n 2, 1) := by decide +kernel
theorem dX4_growth_70 : decode cX4_growth 70 = .ok (.aload_n 0, 1) := by decide +kernel
theorem dX4_growth_71 : decode cX4_growth 71 = .ok (.getfield 89, 3) := by decide +kernel
theorem dX4_growth_74 : decode cX4_growth 74 = .ok (.istore_n 3, 1) := by decide +kernel
theorem dX4_growth_75 : decode cX4_growth 75 = .ok (.iload_n 2, 1) := by decide +kernel
theorem dX4_growth_76 : decode cX4_growth 76 = .ok (.ifCond .le 16, 3) := by decide +kernel
theorem dX4_growth_79 : decode cX4_growth 79 = .ok (.aload_n 0, 1) := by decide +kernel
theorem dX4_growth_80 : decode cX4_growth 80 = .ok (.getfield 29, 3) := by decide +kernel
theorem dX4_growth_83 : decode cX4_growth 83 = .ok (.iload_n 3, 1) := by decide +kernel
theorem dX4_growth_84 : decode cX4_growth 84 = .ok (.iaload, 1) := by decide +kernel
theorem dX4_growth_85 : decode cX4_growth 85 = .ok (.istore_n 3, 1) := by decide +kernel
theorem dX4_growth_86 : decode cX4_growth 86 = .ok (.iinc 2 (-1), 3) := by decide +kernel
theorem dX4_growth_89 : decode cX4_growth 89 = .ok (.goto (-14), 3) := by decide +kernel
theorem dX4_growth_92 : decode cX4_growth 92 = .ok (.iload_n 2, 1) := by decide +kernel
theorem dX4_growth_93 : decode cX4_growth 93 = .ok (.ifCond .ge 7, 3) := by decide +kernel
theorem dX4_growth_96 : decode cX4_growth 96 = .ok (.iconst (-1), 1) := by decide +kernel
theorem dX4_growth_97 : decode cX4_growth 97 = .ok (.goto 9, 3) := by decide +kernel
theorem dX4_growth_100 : decode cX4_growth 100 = .ok (.aload_n 0, 1) := by decide +kernel
theorem dX4_growth_101 : decode cX4_growth 101 = .ok (.getfield 32, 3) := by decide +kernel
theorem dX4_growth_104 : decode cX4_growth 104 = .ok (.iload_n 3, 1) := by decide +kernel
theorem dX4_growth_105 : decode cX4_growth 105 = .ok (.iaload, 1) := by decide +kernel
theorem dX4_growth_106 : decode cX4_growth 106 = .ok (.ireturn, 1) := by decide +kernel
theorem dX4_anyEndless_0 : decode cX4_anyEndless 0 = .ok (.iconst 0, 1) := by decide +kernel
theorem dX4_anyEndless_1 : decode cX4_anyEndless 1 = .ok (.istore_n 1, 1) := by decide +kernel
theorem dX4_anyEndless_2 : decode cX4_anyEndless 2 = .ok (.iconst 0, 1) := by decide +kernel
theorem dX4_anyEndless_3 : decode cX4_anyEndless 3 = .ok (.istore_n 2, 1) := by decide +kernel
theorem dX4_anyEndless_4 : decode cX4_anyEndless 4 = .ok (.iload_n 2, 1) := by decide +kernel
theorem dX4_anyEndless_5 : decode cX4_anyEndless 5 = .ok (.aload_n 0, 1) := by decide +kernel
theorem dX4_anyEndless_6 : decode cX4_anyEndless 6 = .ok (.getfield 66, 3) := by decide +kernel
theorem dX4_anyEndless_9 : decode cX4_anyEndless 9 = .ok (.if_icmp .ge 29, 3) := by decide +kernel
theorem dX4_anyEndless_12 : decode cX4_anyEndless 12 = .ok (.iload_n 1, 1) := by decide +kernel
theorem dX4_anyEndless_13 : decode cX4_anyEndless 13 = .ok (.ifCond .ne 13, 3) := by decide +kernel
theorem dX4_anyEndless_16 : decode cX4_anyEndless 16 = .ok (.aload_n 0, 1) := by decide +kernel
theorem dX4_anyEndless_17 : decode cX4_anyEndless 17 = .ok (.iload_n 2, 1) := by decide +kernel
theorem dX4_anyEndless_18 : decode cX4_anyEndless 18 = .ok (.invokevirtual 110, 3) := by decide +kernel
theorem dX4_anyEndless_21 : decode cX4_anyEndless 21 = .ok (.ldc 85, 2) := by decide +kernel
theorem dX4_anyEndless_23 : decode cX4_anyEndless 23 = .ok (.if_icmp .ne 7, 3) := by decide +kernel
theorem dX4_anyEndless_26 : decode cX4_anyEndless 26 = .ok (.iconst 1, 1) := by decide +kernel
theorem dX4_anyEndless_27 : decode cX4_anyEndless 27 = .ok (.goto 4, 3) := by decide +kernel
theorem dX4_anyEndless_30 : decode cX4_anyEndless 30 = .ok (.iconst 0, 1) := by decide +kernel
theorem dX4_anyEndless_31 : decode cX4_anyEndless 31 = .ok (.istore_n 1, 1) := by decide +kernel
theorem dX4_anyEndless_32 : decode cX4_anyEndless 32 = .ok (.iinc 2 1, 3) := by decide +kernel
theorem dX4_anyEndless_35 : decode cX4_anyEndless 35 = .ok (.goto (-31), 3) := by decide +kernel
theorem dX4_anyEndless_38 : decode cX4_anyEndless 38 = .ok (.iload_n 1, 1) := by decide +kernel
theorem dX4_anyEndless_39 : decode cX4_anyEndless 39 = .ok (.ireturn, 1) := by decide +kernel
theorem dX4_enabledIn_0 : decode cX4_enabledIn 0 = .ok (.iconst 0, 1) := by decide +kernel
theorem dX4_enabledIn_1 : decode cX4_enabledIn 1 = .ok (.istore_n 3, 1) := by decide +kernel
theorem dX4_enabledIn_2 : decode cX4_enabledIn 2 = .ok (.iload_n 3, 1) := by decide +kernel
theorem dX4_enabledIn_3 : decode cX4_enabledIn 3 = .ok (.aload_n 0, 1) := by decide +kernel
theorem dX4_enabledIn_4 : decode cX4_enabledIn 4 = .ok (.getfield 66, 3) := by decide +kernel
theorem dX4_enabledIn_7 : decode cX4_enabledIn 7 = .ok (.if_icmp .ge 36, 3) := by decide +kernel
theorem dX4_enabledIn_10 : decode cX4_enabledIn 10 = .ok (.aload_n 0, 1) := by decide +kernel
theorem dX4_enabledIn_11 : decode cX4_enabledIn 11 = .ok (.getfield 45, 3) := by decide +kernel
theorem dX4_enabledIn_14 : decode cX4_enabledIn 14 = .ok (.bipush 6, 2) := by decide +kernel
theorem dX4_enabledIn_16 : decode cX4_enabledIn 16 = .ok (.iload_n 1, 1) := by decide +kernel
theorem dX4_enabledIn_17 : decode cX4_enabledIn 17 = .ok (.imul, 1) := by decide +kernel
theorem dX4_enabledIn_18 : decode cX4_enabledIn 18 = .ok (.iload_n 3, 1) := by decide +kernel
theorem dX4_enabledIn_19 : decode cX4_enabledIn 19 = .ok (.iadd, 1) := by decide +kernel
theorem dX4_enabledIn_20 : decode cX4_enabledIn 20 = .ok (.iaload, 1) := by decide +kernel
theorem dX4_enabledIn_21 : decode cX4_enabledIn 21 = .ok (.aload_n 0, 1) := by decide +kernel
theorem dX4_enabledIn_22 : decode cX4_enabledIn 22 = .ok (.getfield 16, 3) := by decide +kernel
theorem dX4_enabledIn_25 : decode cX4_enabledIn 25 = .ok (.bipush 6, 2) := by decide +kernel
theorem dX4_enabledIn_27 : decode cX4_enabledIn 27 = .ok (.iload_n 2, 1) := by decide +kernel
theorem dX4_enabledIn_28 : decode cX4_enabledIn 28 = .ok (.imul, 1) := by decide +kernel
theorem dX4_enabledIn_29 : decode cX4_enabledIn 29 = .ok (.iload_n 3, 1) := by decide +kernel
theorem dX4_enabledIn_30 : decode cX4_enabledIn 30 = .ok (.iadd, 1) := by decide +kernel
theorem dX4_enabledIn_31 : decode cX4_enabledIn 31 = .ok (.iaload, 1) := by decide +kernel
theorem dX4_enabledIn_32 : decode cX4_enabledIn 32 = .ok (.if_icmp .ge 5, 3) := by decide +kernel
theorem dX4_enabledIn_35 : decode cX4_enabledIn 35 = .ok (.iconst 0, 1) := by decide +kernel
theorem dX4_enabledIn_36 : decode cX4_enabledIn 36 = .ok (.ireturn, 1) := by decide +kernel
theorem dX4_enabledIn_37 : decode cX4_enabledIn 37 = .ok (.iinc 3 1, 3) := by decide +kernel
theorem dX4_enabledIn_40 : decode cX4_enabledIn 40 = .ok (.goto (-38), 3) := by decide +kernel
theorem dX4_enabledIn_43 : decode cX4_enabledIn 43 = .ok (.iconst 1, 1) := by decide +kernel
theorem dX4_enabledIn_44 : decode cX4_enabledIn 44 = .ok (.ireturn, 1) := by decide +kernel
theorem dX4_find_0 : decode cX4_find 0 = .ok (.iconst 0, 1) := by decide +kernel
theorem dX4_find_1 : decode cX4_find 1 = .ok (.istore_n 1, 1) := by decide +kernel
theorem dX4_find_2 : decode cX4_find 2 = .ok (.iload_n 1, 1) := by decide +kernel
theorem dX4_find_3 : decode cX4_find 3 = .ok (.aload_n 0, 1) := by decide +kernel
theorem dX4_find_4 : decode cX4_find 4 = .ok (.getfield 42, 3) := by decide +kernel
theorem dX4_find_7 : decode cX4_find 7 = .ok (.if_icmp .ge 63, 3) := by decide +kernel
theorem dX4_find_10 : decode cX4_find 10 = .ok (.iconst 1, 1) := by decide +kernel
theorem dX4_find_11 : decode cX4_find 11 = .ok (.istore_n 2, 1) := by decide +kernel
theorem dX4_find_12 : decode cX4_find 12 = .ok (.iconst 0, 1) := by decide +kernel
theorem dX4_find_13 : decode cX4_find 13 = .ok (.istore_n 3, 1) := by decide +kernel
theorem dX4_find_14 : decode cX4_find 14 = .ok (.iload_n 3, 1) := by decide +kernel
theorem dX4_find_15 : decode cX4_find 15 = .ok (.aload_n 0, 1) := by decide +kernel
theorem dX4_find_16 : decode cX4_find 16 = .ok (.getfield 66, 3) := by decide +kernel
theorem dX4_find_19 : decode cX4_find 19 = .ok (.if_icmp .ge 39, 3) := by decide +kernel
theorem dX4_find_22 : decode cX4_find 22 = .ok (.iload_n 2, 1) := by decide +kernel
theorem dX4_find_23 : decode cX4_find 23 = .ok (.ifCond .eq 27, 3) := by decide +kernel
theorem dX4_find_26 : decode cX4_find 26 = .ok (.aload_n 0, 1) := by decide +kernel
theorem dX4_find_27 : decode cX4_find 27 = .ok (.getfield 45, 3) := by decide +kernel
theorem dX4_find_30 : decode cX4_find 30 = .ok (.bipush 6, 2) := by decide +kernel
theorem dX4_find_32 : decode cX4_find 32 = .ok (.iload_n 1, 1) := by decide +kernel
theorem dX4_find_33 : decode cX4_find 33 = .ok (.imul, 1) := by decide +kernel
theorem dX4_find_34 : decode cX4_find 34 = .ok (.iload_n 3, 1) := by decide +kernel
theorem dX4_find_35 : decode cX4_find 35 = .ok (.iadd, 1) := by decide +kernel
theorem dX4_find_36 : decode cX4_find 36 = .ok (.iaload, 1) := by decide +kernel
theorem dX4_find_37 : decode cX4_find 37 = .ok (.aload_n 0, 1) := by decide +kernel
theorem dX4_find_38 : decode cX4_find 38 = .ok (.getfield 60, 3) := by decide +kernel
theorem dX4_find_41 : decode cX4_find 41 = .ok (.iload_n 3, 1) := by decide +kernel
theorem dX4_find_42 : decode cX4_find 42 = .ok (.iaload, 1) := by decide +kernel
theorem dX4_find_43 : decode cX4_find 43 = .ok (.if_icmp .ne 7, 3) := by decide +kernel
theorem dX4_find_46 : decode cX4_find 46 = .ok (.iconst 1, 1) := by decide +kernel
theorem dX4_find_47 : decode cX4_find 47 = .ok (.goto 4, 3) := by decide +kernel
theorem dX4_find_50 : decode cX4_find 50 = .ok (.iconst 0, 1) := by decide +kernel
theorem dX4_find_51 : decode cX4_find 51 = .ok (.istore_n 2, 1) := by decide +kernel
theorem dX4_find_52 : decode cX4_find 52 = .ok (.iinc 3 1, 3) := by decide +kernel
theorem dX4_find_55 : decode cX4_find 55 = .ok (.goto (-41), 3) := by decide +kernel
theorem dX4_find_58 : decode cX4_find 58 = .ok (.iload_n 2, 1) := by decide +kernel
theorem dX4_find_59 : decode cX4_find 59 = .ok (.ifCond .eq 5, 3) := by decide +kernel
theorem dX4_find_62 : decode cX4_find 62 = .ok (.iload_n 1, 1) := by decide +kernel
theorem dX4_find_63 : decode cX4_find 63 = .ok (.ireturn, 1) := by decide +kernel
theorem dX4_find_64 : decode cX4_find 64 = .ok (.iinc 1 1, 3) := by decide +kernel
theorem dX4_find_67 : decode cX4_find 67 = .ok (.goto (-65), 3) := by decide +kernel
theorem dX4_find_70 : decode cX4_find 70 = .ok (.iconst (-1), 1) := by decide +kernel
theorem dX4_find_71 : decode cX4_find 71 = .ok (.ireturn, 1) := by decide +kernel
theorem dX4_addState_0 : decode cX4_addState 0 = .ok (.iconst 0, 1) := by decide +kernel
theorem dX4_addState_1 : decode cX4_addState 1 = .ok (.istore_n 3, 1) := by decide +kernel
theorem dX4_addState_2 : decode cX4_addState 2 = .ok (.iload_n 3, 1) := by decide +kernel
theorem dX4_addState_3 : decode cX4_addState 3 = .ok (.aload_n 0, 1) := by decide +kernel
theorem dX4_addState_4 : decode cX4_addState 4 = .ok (.getfield 66, 3) := by decide +kernel
theorem dX4_addState_7 : decode cX4_addState 7 = .ok (.if_icmp .ge 29, 3) := by decide +kernel
theorem dX4_addState_10 : decode cX4_addState 10 = .ok (.aload_n 0, 1) := by decide +kernel
theorem dX4_addState_11 : decode cX4_addState 11 = .ok (.getfield 45, 3) := by decide +kernel
theorem dX4_addState_14 : decode cX4_addState 14 = .ok (.bipush 6, 2) := by decide +kernel
theorem dX4_addState_16 : decode cX4_addState 16 = .ok (.aload_n 0, 1) := by decide +kernel
theorem dX4_addState_17 : decode cX4_addState 17 = .ok (.getfield 42, 3) := by decide +kernel
theorem dX4_addState_20 : decode cX4_addState 20 = .ok (.imul, 1) := by decide +kernel
theorem dX4_addState_21 : decode cX4_addState 21 = .ok (.iload_n 3, 1) := by decide +kernel
theorem dX4_addState_22 : decode cX4_addState 22 = .ok (.iadd, 1) := by decide +kernel
theorem dX4_addState_23 : decode cX4_addState 23 = .ok (.aload_n 0, 1) := by decide +kernel
theorem dX4_addState_24 : decode cX4_addState 24 = .ok (.getfield 60, 3) := by decide +kernel
theorem dX4_addState_27 : decode cX4_addState 27 = .ok (.iload_n 3, 1) := by decide +kernel
theorem dX4_addState_28 : decode cX4_addState 28 = .ok (.iaload, 1) := by decide +kernel
theorem dX4_addState_29 : decode cX4_addState 29 = .ok (.iastore, 1) := by decide +kernel
theorem dX4_addState_30 : decode cX4_addState 30 = .ok (.iinc 3 1, 3) := by decide +kernel
theorem dX4_addState_33 : decode cX4_addState 33 = .ok (.goto (-31), 3) := by decide +kernel
theorem dX4_addState_36 : decode cX4_addState 36 = .ok (.aload_n 0, 1) := by decide +kernel
theorem dX4_addState_37 : decode cX4_addState 37 = .ok (.getfield 51, 3) := by decide +kernel
theorem dX4_addState_40 : decode cX4_addState 40 = .ok (.aload_n 0, 1) := by decide +kernel
theorem dX4_addState_41 : decode cX4_addState 41 = .ok (.getfield 42, 3) := by decide +kernel
theorem dX4_addState_44 : decode cX4_addState 44 = .ok (.iload_n 1, 1) := by decide +kernel
theorem dX4_addState_45 : decode cX4_addState 45 = .ok (.iastore, 1) := by decide +kernel
theorem dX4_addState_46 : decode cX4_addState 46 = .ok (.aload_n 0, 1) := by decide +kernel
theorem dX4_addState_47 : decode cX4_addState 47 = .ok (.getfield 54, 3) := by decide +kernel
theorem dX4_addState_50 : decode cX4_addState 50 = .ok (.aload_n 0, 1) := by decide +kernel
theorem dX4_addState_51 : decode cX4_addState 51 = .ok (.getfield 42, 3) := by decide +kernel
theorem dX4_addState_54 : decode cX4_addState 54 = .ok (.iload_n 2, 1) := by decide +kernel
theorem dX4_addState_55 : decode cX4_addState 55 = .ok (.iastore, 1) := by decide +kernel
theorem dX4_addState_56 : decode cX4_addState 56 = .ok (.aload_n 0, 1) := by decide +kernel
theorem dX4_addState_57 : decode cX4_addState 57 = .ok (.dup, 1) := by decide +kernel
theorem dX4_addState_58 : decode cX4_addState 58 = .ok (.getfield 42, 3) := by decide +kernel
theorem dX4_addState_61 : decode cX4_addState 61 = .ok (.iconst 1, 1) := by decide +kernel
theorem dX4_addState_62 : decode cX4_addState 62 = .ok (.iadd, 1) := by decide +kernel
theorem dX4_addState_63 : decode cX4_addState 63 = .ok (.putfield 42, 3) := by decide +kernel
theorem dX4_addState_66 : decode cX4_addState 66 = .ok (.return_, 1) := by decide +kernel
theorem dX4_graph_0 : decode cX4_graph 0 = .ok (.aload_n 0, 1) := by decide +kernel
theorem dX4_graph_1 : decode cX4_graph 1 = .ok (.aload_n 0, 1) := by decide +kernel
theorem dX4_graph_2 : decode cX4_graph 2 = .ok (.getfield 22, 3) := by decide +kernel
theorem dX4_graph_5 : decode cX4_graph 5 = .ok (.ifCond .lt 10, 3) := by decide +kernel
theorem dX4_graph_8 : decode cX4_graph 8 = .ok (.aload_n 0, 1) := by decide +kernel
theorem dX4_graph_9 : decode cX4_graph 9 = .ok (.invokevirtual 116, 3) := by decide +kernel
theorem dX4_graph_12 : decode cX4_graph 12 = .ok (.ifCond .eq 7, 3) := by decide +kernel
theorem dX4_graph_15 : decode cX4_graph 15 = .ok (.iconst 1, 1) := by decide +kernel
theorem dX4_graph_16 : decode cX4_graph 16 = .ok (.goto 4, 3) := by decide +kernel
theorem dX4_graph_19 : decode cX4_graph 19 = .ok (.iconst 0, 1) := by decide +kernel
theorem dX4_graph_20 : decode cX4_graph 20 = .ok (.putfield 63, 3) := by decide +kernel
theorem dX4_graph_23 : decode cX4_graph 23 = .ok (.aload_n 0, 1) := by decide +kernel
theorem dX4_graph_24 : decode cX4_graph 24 = .ok (.getfield 63, 3) := by decide +kernel
theorem dX4_graph_27 : decode cX4_graph 27 = .ok (.ifCond .le 5, 3) := by decide +kernel
theorem dX4_graph_30 : decode cX4_graph 30 = .ok (.iconst 0, 1) := by decide +kernel
theorem dX4_graph_31 : decode cX4_graph 31 = .ok (.ireturn, 1) := by decide +kernel
theorem dX4_graph_32 : decode cX4_graph 32 = .ok (.aload_n 0, 1) := by decide +kernel
theorem dX4_graph_33 : decode cX4_graph 33 = .ok (.iconst 0, 1) := by decide +kernel
theorem dX4_graph_34 : decode cX4_graph 34 = .ok (.putfield 42, 3) := by decide +kernel
theorem dX4_graph_37 : decode cX4_graph 37 = .ok (.iconst 0, 1) := by decide +kernel
theorem dX4_graph_38 : decode cX4_graph 38 = .ok (.istore_n 1, 1) := by decide +kernel
theorem dX4_graph_39 : decode cX4_graph 39 = .ok (.iload_n 1, 1) := by decide +kernel
theorem dX4_graph_40 : decode cX4_graph 40 = .ok (.aload_n 0, 1) := by decide +kernel
theorem dX4_graph_41 : decode cX4_graph 41 = .ok (.getfield 66, 3) := by decide +kernel
theorem dX4_graph_44 : decode cX4_graph 44 = .ok (.if_icmp .ge 21, 3) := by decide +kernel
theorem dX4_graph_47 : decode cX4_graph 47 = .ok (.aload_n 0, 1) := by decide +kernel
theorem dX4_graph_48 : decode cX4_graph 48 = .ok (.getfield 60, 3) := by decide +kernel
theorem dX4_graph_51 : decode cX4_graph 51 = .ok (.iload_n 1, 1) := by decide +kernel
theorem dX4_graph_52 : decode cX4_graph 52 = .ok (.aload_n 0, 1) := by decide +kernel
theorem dX4_graph_53 : decode cX4_graph 53 = .ok (.getfield 7, 3) := by decide +kernel
theorem dX4_graph_56 : decode cX4_graph 56 = .ok (.iload_n 1, 1) := by decide +kernel
theorem dX4_graph_57 : decode cX4_graph 57 = .ok (.iaload, 1) := by decide +kernel
theorem dX4_graph_58 : decode cX4_graph 58 = .ok (.iastore, 1) := by decide +kernel
theorem dX4_graph_59 : decode cX4_graph 59 = .ok (.iinc 1 1, 3) := by decide +kernel
theorem dX4_graph_62 : decode cX4_graph 62 = .ok (.goto (-23), 3) := by decide +kernel
theorem dX4_graph_65 : decode cX4_graph 65 = .ok (.aload_n 0, 1) := by decide +kernel
theorem dX4_graph_66 : decode cX4_graph 66 = .ok (.bipush (-2), 2) := by decide +kernel
theorem dX4_graph_68 : decode cX4_graph 68 = .ok (.bipush (-2), 2) := by decide +kernel
theorem dX4_graph_70 : decode cX4_graph 70 = .ok (.invokevirtual 120, 3) := by decide +kernel
theorem dX4_graph_73 : decode cX4_graph 73 = .ok (.iconst 0, 1) := by decide +kernel
theorem dX4_graph_74 : decode cX4_graph 74 = .ok (.istore_n 1, 1) := by decide +kernel
theorem dX4_graph_75 : decode cX4_graph 75 = .ok (.iload_n 1, 1) := by decide +kernel
theorem dX4_graph_76 : decode cX4_graph 76 = .ok (.aload_n 0, 1) := by decide +kernel
theorem dX4_graph_77 : decode cX4_graph 77 = .ok (.getfield 42, 3) := by decide +kernel
theorem dX4_graph_80 : decode cX4_graph 80 = .ok (.if_icmp .ge 160, 3) := by decide +kernel
theorem dX4_graph_83 : decode cX4_graph 83 = .ok (.iconst 0, 1) := by decide +kernel
theorem dX4_graph_84 : decode cX4_graph 84 = .ok (.istore_n 2, 1) := by decide +kernel
theorem dX4_graph_85 : decode cX4_graph 85 = .ok (.iload_n 2, 1) := by decide +kernel
theorem dX4_graph_86 : decode cX4_graph 86 = .ok (.aload_n 0, 1) := by decide +kernel
theorem dX4_graph_87 : decode cX4_graph 87 = .ok (.getfield 69, 3) := by decide +kernel
theorem dX4_graph_90 : decode cX4_graph 90 = .ok (.if_icmp .ge 144, 3) := by decide +kernel
theorem dX4_graph_93 : decode cX4_graph 93 = .ok (.aload_n 0, 1) := by decide +kernel
theorem dX4_graph_94 : decode cX4_graph 94 = .ok (.getfield 48, 3) := by decide +kernel
theorem dX4_graph_97 : decode cX4_graph 97 = .ok (.bipush 8, 2) := by decide +kernel
theorem dX4_graph_99 : decode cX4_graph 99 = .ok (.iload_n 1, 1) := by decide +kernel
theorem dX4_graph_100 : decode cX4_graph 100 = .ok (.imul, 1) := by decide +kernel
theorem dX4_graph_101 : decode cX4_graph 101 = .ok (.iload_n 2, 1) := by decide +kernel
theorem dX4_graph_102 : decode cX4_graph 102 = .ok (.iadd, 1) := by decide +kernel
theorem dX4_graph_103 : decode cX4_graph 103 = .ok (.iconst (-1), 1) := by decide +kernel
theorem dX4_graph_104 : decode cX4_graph 104 = .ok (.iastore, 1) := by decide +kernel
theorem dX4_graph_105 : decode cX4_graph 105 = .ok (.aload_n 0, 1) := by decide +kernel
theorem dX4_graph_106 : decode cX4_graph 106 = .ok (.iload_n 1, 1) := by decide +kernel
theorem dX4_graph_107 : decode cX4_graph 107 = .ok (.iload_n 2, 1) := by decide +kernel
theorem dX4_graph_108 : decode cX4_graph 108 = .ok (.invokevirtual 123, 3) := by decide +kernel
theorem dX4_graph_111 : decode cX4_graph 111 = .ok (.ifCond .eq 117, 3) := by decide +kernel
theorem dX4_graph_114 : decode cX4_graph 114 = .ok (.iconst 0, 1) := by decide +kernel
theorem dX4_graph_115 : decode cX4_graph 115 = .ok (.istore_n 3, 1) := by decide +kernel
theorem dX4_graph_116 : decode cX4_graph 116 = .ok (.iload_n 3, 1) := by decide +kernel
theorem dX4_graph_117 : decode cX4_graph 117 = .ok (.aload_n 0, 1) := by decide +kernel
theorem dX4_graph_118 : decode cX4_graph 118 = .ok (.getfield 66, 3) := by decide +kernel
theorem dX4_graph_121 : decode cX4_graph 121 = .ok (.if_icmp .ge 50, 3) := by decide +kernel
theorem dX4_graph_124 : decode cX4_graph 124 = .ok (.aload_n 0, 1) := by decide +kernel
theorem dX4_graph_125 : decode cX4_graph 125 = .ok (.getfield 60, 3) := by decide +kernel
theorem dX4_graph_128 : decode cX4_graph 128 = .ok (.iload_n 3, 1) := by decide +kernel
theorem dX4_graph_129 : decode cX4_graph 129 = .ok (.aload_n 0, 1) := by decide +kernel
theorem dX4_graph_130 : decode cX4_graph 130 = .ok (.getfield 45, 3) := by decide +kernel
theorem dX4_graph_133 : decode cX4_graph 133 = .ok (.bipush 6, 2) := by decide +kernel
theorem dX4_graph_135 : decode cX4_graph 135 = .ok (.iload_n 1, 1) := by decide +kernel
theorem dX4_graph_136 : decode cX4_graph 136 = .ok (.imul, 1) := by decide +kernel
theorem dX4_graph_137 : decode cX4_graph 137 = .ok (.iload_n 3, 1) := by decide +kernel
theorem dX4_graph_138 : decode cX4_graph 138 = .ok (.iadd, 1) := by decide +kernel
theorem dX4_graph_139 : decode cX4_graph 139 = .ok (.iaload, 1) := by decide +kernel
theorem dX4_graph_140 : decode cX4_graph 140 = .ok (.aload_n 0, 1) := by decide +kernel
theorem dX4_graph_141 : decode cX4_graph 141 = .ok (.getfield 16, 3) := by decide +kernel
theorem dX4_graph_144 : decode cX4_graph 144 = .ok (.bipush 6, 2) := by decide +kernel
theorem dX4_graph_146 : decode cX4_graph 146 = .ok (.iload_n 2, 1) := by decide +kernel
theorem dX4_graph_147 : decode cX4_graph 147 = .ok (.imul, 1) := by decide +kernel
theorem dX4_graph_148 : decode cX4_graph 148 = .ok (.iload_n 3, 1) := by decide +kernel
theorem dX4_graph_149 : decode cX4_graph 149 = .ok (.iadd, 1) := by decide +kernel
theorem dX4_graph_150 : decode cX4_graph 150 = .ok (.iaload, 1) := by decide +kernel
theorem dX4_graph_151 : decode cX4_graph 151 = .ok (.isub, 1) := by decide +kernel
theorem dX4_graph_152 : decode cX4_graph 152 = .ok (.aload_n 0, 1) := by decide +kernel
theorem dX4_graph_153 : decode cX4_graph 153 = .ok (.getfield 19, 3) := by decide +kernel
theorem dX4_graph_156 : decode cX4_graph 156 = .ok (.bipush 6, 2) := by decide +kernel
theorem dX4_graph_158 : decode cX4_graph 158 = .ok (.iload_n 2, 1) := by decide +kernel
theorem dX4_graph_159 : decode cX4_graph 159 = .ok (.imul, 1) := by decide +kernel
theorem dX4_graph_160 : decode cX4_graph 160 = .ok (.iload_n 3, 1) := by decide +kernel
theorem dX4_graph_161 : decode cX4_graph 161 = .ok (.iadd, 1) := by decide +kernel
theorem dX4_graph_162 : decode cX4_graph 162 = .ok (.iaload, 1) := by decide +kernel
theorem dX4_graph_163 : decode cX4_graph 163 = .ok (.iadd, 1) := by decide +kernel
theorem dX4_graph_164 : decode cX4_graph 164 = .ok (.iastore, 1) := by decide +kernel
theorem dX4_graph_165 : decode cX4_graph 165 = .ok (.iinc 3 1, 3) := by decide +kernel
theorem dX4_graph_168 : decode cX4_graph 168 = .ok (.goto (-52), 3) := by decide +kernel
theorem dX4_graph_171 : decode cX4_graph 171 = .ok (.aload_n 0, 1) := by decide +kernel
