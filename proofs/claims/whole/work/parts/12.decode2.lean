theorem dX4_graph_172 : decode cX4_graph 172 = .ok (.invokevirtual 126, 3) := by decide +kernel
theorem dX4_graph_175 : decode cX4_graph 175 = .ok (.istore_n 3, 1) := by decide +kernel
theorem dX4_graph_176 : decode cX4_graph 176 = .ok (.iload_n 3, 1) := by decide +kernel
theorem dX4_graph_177 : decode cX4_graph 177 = .ok (.ifCond .ge 24, 3) := by decide +kernel
theorem dX4_graph_180 : decode cX4_graph 180 = .ok (.aload_n 0, 1) := by decide +kernel
theorem dX4_graph_181 : decode cX4_graph 181 = .ok (.getfield 42, 3) := by decide +kernel
theorem dX4_graph_184 : decode cX4_graph 184 = .ok (.bipush 40, 2) := by decide +kernel
theorem dX4_graph_186 : decode cX4_graph 186 = .ok (.if_icmp .ne 15, 3) := by decide +kernel
theorem dX4_graph_189 : decode cX4_graph 189 = .ok (.aload_n 0, 1) := by decide +kernel
theorem dX4_graph_190 : decode cX4_graph 190 = .ok (.iconst (-1), 1) := by decide +kernel
theorem dX4_graph_191 : decode cX4_graph 191 = .ok (.putfield 42, 3) := by decide +kernel
theorem dX4_graph_194 : decode cX4_graph 194 = .ok (.aload_n 0, 1) := by decide +kernel
theorem dX4_graph_195 : decode cX4_graph 195 = .ok (.iconst 2, 1) := by decide +kernel
theorem dX4_graph_196 : decode cX4_graph 196 = .ok (.putfield 63, 3) := by decide +kernel
theorem dX4_graph_199 : decode cX4_graph 199 = .ok (.iconst 0, 1) := by decide +kernel
theorem dX4_graph_200 : decode cX4_graph 200 = .ok (.ireturn, 1) := by decide +kernel
theorem dX4_graph_201 : decode cX4_graph 201 = .ok (.iload_n 3, 1) := by decide +kernel
theorem dX4_graph_202 : decode cX4_graph 202 = .ok (.ifCond .ge 14, 3) := by decide +kernel
theorem dX4_graph_205 : decode cX4_graph 205 = .ok (.aload_n 0, 1) := by decide +kernel
theorem dX4_graph_206 : decode cX4_graph 206 = .ok (.getfield 42, 3) := by decide +kernel
theorem dX4_graph_209 : decode cX4_graph 209 = .ok (.istore_n 3, 1) := by decide +kernel
theorem dX4_graph_210 : decode cX4_graph 210 = .ok (.aload_n 0, 1) := by decide +kernel
theorem dX4_graph_211 : decode cX4_graph 211 = .ok (.iload_n 1, 1) := by decide +kernel
theorem dX4_graph_212 : decode cX4_graph 212 = .ok (.iload_n 2, 1) := by decide +kernel
theorem dX4_graph_213 : decode cX4_graph 213 = .ok (.invokevirtual 120, 3) := by decide +kernel
theorem dX4_graph_216 : decode cX4_graph 216 = .ok (.aload_n 0, 1) := by decide +kernel
theorem dX4_graph_217 : decode cX4_graph 217 = .ok (.getfield 48, 3) := by decide +kernel
theorem dX4_graph_220 : decode cX4_graph 220 = .ok (.bipush 8, 2) := by decide +kernel
theorem dX4_graph_222 : decode cX4_graph 222 = .ok (.iload_n 1, 1) := by decide +kernel
theorem dX4_graph_223 : decode cX4_graph 223 = .ok (.imul, 1) := by decide +kernel
theorem dX4_graph_224 : decode cX4_graph 224 = .ok (.iload_n 2, 1) := by decide +kernel
theorem dX4_graph_225 : decode cX4_graph 225 = .ok (.iadd, 1) := by decide +kernel
theorem dX4_graph_226 : decode cX4_graph 226 = .ok (.iload_n 3, 1) := by decide +kernel
theorem dX4_graph_227 : decode cX4_graph 227 = .ok (.iastore, 1) := by decide +kernel
theorem dX4_graph_228 : decode cX4_graph 228 = .ok (.iinc 2 1, 3) := by decide +kernel
theorem dX4_graph_231 : decode cX4_graph 231 = .ok (.goto (-146), 3) := by decide +kernel
theorem dX4_graph_234 : decode cX4_graph 234 = .ok (.iinc 1 1, 3) := by decide +kernel
theorem dX4_graph_237 : decode cX4_graph 237 = .ok (.goto (-162), 3) := by decide +kernel
theorem dX4_graph_240 : decode cX4_graph 240 = .ok (.aload_n 0, 1) := by decide +kernel
theorem dX4_graph_241 : decode cX4_graph 241 = .ok (.getfield 42, 3) := by decide +kernel
theorem dX4_graph_244 : decode cX4_graph 244 = .ok (.ireturn, 1) := by decide +kernel
theorem dX4_noState_0 : decode cX4_noState 0 = .ok (.aload_n 0, 1) := by decide +kernel
theorem dX4_noState_1 : decode cX4_noState 1 = .ok (.aload_n 0, 1) := by decide +kernel
theorem dX4_noState_2 : decode cX4_noState 2 = .ok (.getfield 42, 3) := by decide +kernel
theorem dX4_noState_5 : decode cX4_noState 5 = .ok (.ifCond .ge 7, 3) := by decide +kernel
theorem dX4_noState_8 : decode cX4_noState 8 = .ok (.iconst 1, 1) := by decide +kernel
theorem dX4_noState_9 : decode cX4_noState 9 = .ok (.goto 20, 3) := by decide +kernel
theorem dX4_noState_12 : decode cX4_noState 12 = .ok (.iload_n 1, 1) := by decide +kernel
theorem dX4_noState_13 : decode cX4_noState 13 = .ok (.ifCond .lt 11, 3) := by decide +kernel
theorem dX4_noState_16 : decode cX4_noState 16 = .ok (.iload_n 1, 1) := by decide +kernel
theorem dX4_noState_17 : decode cX4_noState 17 = .ok (.aload_n 0, 1) := by decide +kernel
theorem dX4_noState_18 : decode cX4_noState 18 = .ok (.getfield 42, 3) := by decide +kernel
theorem dX4_noState_21 : decode cX4_noState 21 = .ok (.if_icmp .lt 7, 3) := by decide +kernel
theorem dX4_noState_24 : decode cX4_noState 24 = .ok (.iconst 2, 1) := by decide +kernel
theorem dX4_noState_25 : decode cX4_noState 25 = .ok (.goto 4, 3) := by decide +kernel
theorem dX4_noState_28 : decode cX4_noState 28 = .ok (.iconst 0, 1) := by decide +kernel
theorem dX4_noState_29 : decode cX4_noState 29 = .ok (.putfield 63, 3) := by decide +kernel
theorem dX4_noState_32 : decode cX4_noState 32 = .ok (.aload_n 0, 1) := by decide +kernel
theorem dX4_noState_33 : decode cX4_noState 33 = .ok (.getfield 63, 3) := by decide +kernel
theorem dX4_noState_36 : decode cX4_noState 36 = .ok (.ifCond .le 7, 3) := by decide +kernel
theorem dX4_noState_39 : decode cX4_noState 39 = .ok (.iconst 1, 1) := by decide +kernel
theorem dX4_noState_40 : decode cX4_noState 40 = .ok (.goto 4, 3) := by decide +kernel
theorem dX4_noState_43 : decode cX4_noState 43 = .ok (.iconst 0, 1) := by decide +kernel
theorem dX4_noState_44 : decode cX4_noState 44 = .ok (.ireturn, 1) := by decide +kernel
theorem dX4_reached_0 : decode cX4_reached 0 = .ok (.aload_n 0, 1) := by decide +kernel
theorem dX4_reached_1 : decode cX4_reached 1 = .ok (.aload_n 0, 1) := by decide +kernel
theorem dX4_reached_2 : decode cX4_reached 2 = .ok (.getfield 42, 3) := by decide +kernel
theorem dX4_reached_5 : decode cX4_reached 5 = .ok (.ifCond .ge 7, 3) := by decide +kernel
theorem dX4_reached_8 : decode cX4_reached 8 = .ok (.iconst 1, 1) := by decide +kernel
theorem dX4_reached_9 : decode cX4_reached 9 = .ok (.goto 4, 3) := by decide +kernel
theorem dX4_reached_12 : decode cX4_reached 12 = .ok (.iconst 0, 1) := by decide +kernel
theorem dX4_reached_13 : decode cX4_reached 13 = .ok (.putfield 63, 3) := by decide +kernel
theorem dX4_reached_16 : decode cX4_reached 16 = .ok (.aload_n 0, 1) := by decide +kernel
theorem dX4_reached_17 : decode cX4_reached 17 = .ok (.getfield 63, 3) := by decide +kernel
theorem dX4_reached_20 : decode cX4_reached 20 = .ok (.ifCond .le 5, 3) := by decide +kernel
theorem dX4_reached_23 : decode cX4_reached 23 = .ok (.iconst 0, 1) := by decide +kernel
theorem dX4_reached_24 : decode cX4_reached 24 = .ok (.ireturn, 1) := by decide +kernel
theorem dX4_reached_25 : decode cX4_reached 25 = .ok (.iconst 0, 1) := by decide +kernel
theorem dX4_reached_26 : decode cX4_reached 26 = .ok (.istore_n 1, 1) := by decide +kernel
theorem dX4_reached_27 : decode cX4_reached 27 = .ok (.iload_n 1, 1) := by decide +kernel
theorem dX4_reached_28 : decode cX4_reached 28 = .ok (.aload_n 0, 1) := by decide +kernel
theorem dX4_reached_29 : decode cX4_reached 29 = .ok (.getfield 66, 3) := by decide +kernel
theorem dX4_reached_32 : decode cX4_reached 32 = .ok (.if_icmp .ge 21, 3) := by decide +kernel
theorem dX4_reached_35 : decode cX4_reached 35 = .ok (.aload_n 0, 1) := by decide +kernel
theorem dX4_reached_36 : decode cX4_reached 36 = .ok (.getfield 60, 3) := by decide +kernel
theorem dX4_reached_39 : decode cX4_reached 39 = .ok (.iload_n 1, 1) := by decide +kernel
theorem dX4_reached_40 : decode cX4_reached 40 = .ok (.aload_n 0, 1) := by decide +kernel
theorem dX4_reached_41 : decode cX4_reached 41 = .ok (.getfield 13, 3) := by decide +kernel
theorem dX4_reached_44 : decode cX4_reached 44 = .ok (.iload_n 1, 1) := by decide +kernel
theorem dX4_reached_45 : decode cX4_reached 45 = .ok (.iaload, 1) := by decide +kernel
theorem dX4_reached_46 : decode cX4_reached 46 = .ok (.iastore, 1) := by decide +kernel
theorem dX4_reached_47 : decode cX4_reached 47 = .ok (.iinc 1 1, 3) := by decide +kernel
theorem dX4_reached_50 : decode cX4_reached 50 = .ok (.goto (-23), 3) := by decide +kernel
theorem dX4_reached_53 : decode cX4_reached 53 = .ok (.aload_n 0, 1) := by decide +kernel
theorem dX4_reached_54 : decode cX4_reached 54 = .ok (.invokevirtual 126, 3) := by decide +kernel
theorem dX4_reached_57 : decode cX4_reached 57 = .ok (.istore_n 1, 1) := by decide +kernel
theorem dX4_reached_58 : decode cX4_reached 58 = .ok (.iload_n 1, 1) := by decide +kernel
theorem dX4_reached_59 : decode cX4_reached 59 = .ok (.ifCond .ge 8, 3) := by decide +kernel
theorem dX4_reached_62 : decode cX4_reached 62 = .ok (.bipush (-2), 2) := by decide +kernel
theorem dX4_reached_64 : decode cX4_reached 64 = .ok (.goto 4, 3) := by decide +kernel
theorem dX4_reached_67 : decode cX4_reached 67 = .ok (.iload_n 1, 1) := by decide +kernel
theorem dX4_reached_68 : decode cX4_reached 68 = .ok (.ireturn, 1) := by decide +kernel
theorem dX4_distance_0 : decode cX4_distance 0 = .ok (.aload_n 0, 1) := by decide +kernel
theorem dX4_distance_1 : decode cX4_distance 1 = .ok (.iload_n 1, 1) := by decide +kernel
theorem dX4_distance_2 : decode cX4_distance 2 = .ok (.invokevirtual 130, 3) := by decide +kernel
theorem dX4_distance_5 : decode cX4_distance 5 = .ok (.ifCond .eq 5, 3) := by decide +kernel
theorem dX4_distance_8 : decode cX4_distance 8 = .ok (.iconst 0, 1) := by decide +kernel
theorem dX4_distance_9 : decode cX4_distance 9 = .ok (.ireturn, 1) := by decide +kernel
theorem dX4_distance_10 : decode cX4_distance 10 = .ok (.iconst 0, 1) := by decide +kernel
theorem dX4_distance_11 : decode cX4_distance 11 = .ok (.istore_n 2, 1) := by decide +kernel
theorem dX4_distance_12 : decode cX4_distance 12 = .ok (.iload_n 1, 1) := by decide +kernel
theorem dX4_distance_13 : decode cX4_distance 13 = .ok (.istore_n 3, 1) := by decide +kernel
theorem dX4_distance_14 : decode cX4_distance 14 = .ok (.iload_n 3, 1) := by decide +kernel
theorem dX4_distance_15 : decode cX4_distance 15 = .ok (.ifCond .le 16, 3) := by decide +kernel
theorem dX4_distance_18 : decode cX4_distance 18 = .ok (.iinc 2 1, 3) := by decide +kernel
theorem dX4_distance_21 : decode cX4_distance 21 = .ok (.aload_n 0, 1) := by decide +kernel
theorem dX4_distance_22 : decode cX4_distance 22 = .ok (.getfield 51, 3) := by decide +kernel
theorem dX4_distance_25 : decode cX4_distance 25 = .ok (.iload_n 3, 1) := by decide +kernel
theorem dX4_distance_26 : decode cX4_distance 26 = .ok (.iaload, 1) := by decide +kernel
theorem dX4_distance_27 : decode cX4_distance 27 = .ok (.istore_n 3, 1) := by decide +kernel
theorem dX4_distance_28 : decode cX4_distance 28 = .ok (.goto (-14), 3) := by decide +kernel
theorem dX4_distance_31 : decode cX4_distance 31 = .ok (.iload_n 2, 1) := by decide +kernel
theorem dX4_distance_32 : decode cX4_distance 32 = .ok (.ireturn, 1) := by decide +kernel
theorem dX4_found_0 : decode cX4_found 0 = .ok (.aload_n 0, 1) := by decide +kernel
theorem dX4_found_1 : decode cX4_found 1 = .ok (.iload_n 1, 1) := by decide +kernel
theorem dX4_found_2 : decode cX4_found 2 = .ok (.invokevirtual 130, 3) := by decide +kernel
theorem dX4_found_5 : decode cX4_found 5 = .ok (.ifCond .eq 5, 3) := by decide +kernel
theorem dX4_found_8 : decode cX4_found 8 = .ok (.iconst 0, 1) := by decide +kernel
theorem dX4_found_9 : decode cX4_found 9 = .ok (.ireturn, 1) := by decide +kernel
theorem dX4_found_10 : decode cX4_found 10 = .ok (.iload_n 2, 1) := by decide +kernel
theorem dX4_found_11 : decode cX4_found 11 = .ok (.ifCond .eq 12, 3) := by decide +kernel
theorem dX4_found_14 : decode cX4_found 14 = .ok (.aload_n 0, 1) := by decide +kernel
theorem dX4_found_15 : decode cX4_found 15 = .ok (.getfield 51, 3) := by decide +kernel
theorem dX4_found_18 : decode cX4_found 18 = .ok (.iload_n 1, 1) := by decide +kernel
theorem dX4_found_19 : decode cX4_found 19 = .ok (.iaload, 1) := by decide +kernel
theorem dX4_found_20 : decode cX4_found 20 = .ok (.goto 9, 3) := by decide +kernel
theorem dX4_found_23 : decode cX4_found 23 = .ok (.aload_n 0, 1) := by decide +kernel
theorem dX4_found_24 : decode cX4_found 24 = .ok (.getfield 54, 3) := by decide +kernel
theorem dX4_found_27 : decode cX4_found 27 = .ok (.iload_n 1, 1) := by decide +kernel
theorem dX4_found_28 : decode cX4_found 28 = .ok (.iaload, 1) := by decide +kernel
theorem dX4_found_29 : decode cX4_found 29 = .ok (.ireturn, 1) := by decide +kernel
theorem dX4_stops_0 : decode cX4_stops 0 = .ok (.aload_n 0, 1) := by decide +kernel
theorem dX4_stops_1 : decode cX4_stops 1 = .ok (.aload_n 0, 1) := by decide +kernel
theorem dX4_stops_2 : decode cX4_stops 2 = .ok (.getfield 42, 3) := by decide +kernel
theorem dX4_stops_5 : decode cX4_stops 5 = .ok (.ifCond .ge 7, 3) := by decide +kernel
theorem dX4_stops_8 : decode cX4_stops 8 = .ok (.iconst 1, 1) := by decide +kernel
theorem dX4_stops_9 : decode cX4_stops 9 = .ok (.goto 4, 3) := by decide +kernel
theorem dX4_stops_12 : decode cX4_stops 12 = .ok (.iconst 0, 1) := by decide +kernel
theorem dX4_stops_13 : decode cX4_stops 13 = .ok (.putfield 63, 3) := by decide +kernel
theorem dX4_stops_16 : decode cX4_stops 16 = .ok (.iconst 0, 1) := by decide +kernel
theorem dX4_stops_17 : decode cX4_stops 17 = .ok (.istore_n 1, 1) := by decide +kernel
theorem dX4_stops_18 : decode cX4_stops 18 = .ok (.iconst 0, 1) := by decide +kernel
theorem dX4_stops_19 : decode cX4_stops 19 = .ok (.istore_n 2, 1) := by decide +kernel
theorem dX4_stops_20 : decode cX4_stops 20 = .ok (.iload_n 2, 1) := by decide +kernel
theorem dX4_stops_21 : decode cX4_stops 21 = .ok (.aload_n 0, 1) := by decide +kernel
theorem dX4_stops_22 : decode cX4_stops 22 = .ok (.getfield 42, 3) := by decide +kernel
theorem dX4_stops_25 : decode cX4_stops 25 = .ok (.if_icmp .ge 66, 3) := by decide +kernel
theorem dX4_stops_28 : decode cX4_stops 28 = .ok (.iconst 0, 1) := by decide +kernel
theorem dX4_stops_29 : decode cX4_stops 29 = .ok (.istore_n 3, 1) := by decide +kernel
theorem dX4_stops_30 : decode cX4_stops 30 = .ok (.iconst 0, 1) := by decide +kernel
theorem dX4_stops_31 : decode cX4_stops 31 = .ok (.istore 4, 2) := by decide +kernel
theorem dX4_stops_33 : decode cX4_stops 33 = .ok (.iload 4, 2) := by decide +kernel
theorem dX4_stops_35 : decode cX4_stops 35 = .ok (.aload_n 0, 1) := by decide +kernel
theorem dX4_stops_36 : decode cX4_stops 36 = .ok (.getfield 69, 3) := by decide +kernel
theorem dX4_stops_39 : decode cX4_stops 39 = .ok (.if_icmp .ge 34, 3) := by decide +kernel
theorem dX4_stops_42 : decode cX4_stops 42 = .ok (.iload_n 3, 1) := by decide +kernel
theorem dX4_stops_43 : decode cX4_stops 43 = .ok (.ifCond .ne 18, 3) := by decide +kernel
theorem dX4_stops_46 : decode cX4_stops 46 = .ok (.aload_n 0, 1) := by decide +kernel
theorem dX4_stops_47 : decode cX4_stops 47 = .ok (.getfield 48, 3) := by decide +kernel
theorem dX4_stops_50 : decode cX4_stops 50 = .ok (.bipush 8, 2) := by decide +kernel
theorem dX4_stops_52 : decode cX4_stops 52 = .ok (.iload_n 2, 1) := by decide +kernel
theorem dX4_stops_53 : decode cX4_stops 53 = .ok (.imul, 1) := by decide +kernel
theorem dX4_stops_54 : decode cX4_stops 54 = .ok (.iload 4, 2) := by decide +kernel
theorem dX4_stops_56 : decode cX4_stops 56 = .ok (.iadd, 1) := by decide +kernel
theorem dX4_stops_57 : decode cX4_stops 57 = .ok (.iaload, 1) := by decide +kernel
theorem dX4_stops_58 : decode cX4_stops 58 = .ok (.ifCond .lt 7, 3) := by decide +kernel
theorem dX4_stops_61 : decode cX4_stops 61 = .ok (.iconst 1, 1) := by decide +kernel
theorem dX4_stops_62 : decode cX4_stops 62 = .ok (.goto 4, 3) := by decide +kernel
theorem dX4_stops_65 : decode cX4_stops 65 = .ok (.iconst 0, 1) := by decide +kernel
theorem dX4_stops_66 : decode cX4_stops 66 = .ok (.istore_n 3, 1) := by decide +kernel
theorem dX4_stops_67 : decode cX4_stops 67 = .ok (.iinc 4 1, 3) := by decide +kernel
theorem dX4_stops_70 : decode cX4_stops 70 = .ok (.goto (-37), 3) := by decide +kernel
theorem dX4_stops_73 : decode cX4_stops 73 = .ok (.iload_n 3, 1) := by decide +kernel
theorem dX4_stops_74 : decode cX4_stops 74 = .ok (.ifCond .eq 7, 3) := by decide +kernel
theorem dX4_stops_77 : decode cX4_stops 77 = .ok (.iload_n 1, 1) := by decide +kernel
theorem dX4_stops_78 : decode cX4_stops 78 = .ok (.goto 6, 3) := by decide +kernel
theorem dX4_stops_81 : decode cX4_stops 81 = .ok (.iload_n 1, 1) := by decide +kernel
theorem dX4_stops_82 : decode cX4_stops 82 = .ok (.iconst 1, 1) := by decide +kernel
theorem dX4_stops_83 : decode cX4_stops 83 = .ok (.iadd, 1) := by decide +kernel
theorem dX4_stops_84 : decode cX4_stops 84 = .ok (.istore_n 1, 1) := by decide +kernel
theorem dX4_stops_85 : decode cX4_stops 85 = .ok (.iinc 2 1, 3) := by decide +kernel
theorem dX4_stops_88 : decode cX4_stops 88 = .ok (.goto (-68), 3) := by decide +kernel
theorem dX4_stops_91 : decode cX4_stops 91 = .ok (.iload_n 1, 1) := by decide +kernel
theorem dX4_stops_92 : decode cX4_stops 92 = .ok (.ireturn, 1) := by decide +kernel
theorem dX4_live_0 : decode cX4_live 0 = .ok (.aload_n 0, 1) := by decide +kernel
theorem dX4_live_1 : decode cX4_live 1 = .ok (.aload_n 0, 1) := by decide +kernel
theorem dX4_live_2 : decode cX4_live 2 = .ok (.getfield 42, 3) := by decide +kernel
theorem dX4_live_5 : decode cX4_live 5 = .ok (.ifCond .ge 7, 3) := by decide +kernel
theorem dX4_live_8 : decode cX4_live 8 = .ok (.iconst 1, 1) := by decide +kernel
theorem dX4_live_9 : decode cX4_live 9 = .ok (.goto 16, 3) := by decide +kernel
theorem dX4_live_12 : decode cX4_live 12 = .ok (.aload_n 0, 1) := by decide +kernel
theorem dX4_live_13 : decode cX4_live 13 = .ok (.iload_n 1, 1) := by decide +kernel
theorem dX4_live_14 : decode cX4_live 14 = .ok (.invokevirtual 79, 3) := by decide +kernel
theorem dX4_live_17 : decode cX4_live 17 = .ok (.ifCond .eq 7, 3) := by decide +kernel
theorem dX4_live_20 : decode cX4_live 20 = .ok (.iconst 2, 1) := by decide +kernel
theorem dX4_live_21 : decode cX4_live 21 = .ok (.goto 4, 3) := by decide +kernel
theorem dX4_live_24 : decode cX4_live 24 = .ok (.iconst 0, 1) := by decide +kernel
theorem dX4_live_25 : decode cX4_live 25 = .ok (.putfield 63, 3) := by decide +kernel
theorem dX4_live_28 : decode cX4_live 28 = .ok (.aload_n 0, 1) := by decide +kernel
theorem dX4_live_29 : decode cX4_live 29 = .ok (.getfield 63, 3) := by decide +kernel
theorem dX4_live_32 : decode cX4_live 32 = .ok (.ifCond .le 5, 3) := by decide +kernel
theorem dX4_live_35 : decode cX4_live 35 = .ok (.iconst 0, 1) := by decide +kernel
theorem dX4_live_36 : decode cX4_live 36 = .ok (.ireturn, 1) := by decide +kernel
theorem dX4_live_37 : decode cX4_live 37 = .ok (.iconst 0, 1) := by decide +kernel
theorem dX4_live_38 : decode cX4_live 38 = .ok (.istore_n 2, 1) := by decide +kernel
theorem dX4_live_39 : decode cX4_live 39 = .ok (.iload_n 2, 1) := by decide +kernel
theorem dX4_live_40 : decode cX4_live 40 = .ok (.aload_n 0, 1) := by decide +kernel
theorem dX4_live_41 : decode cX4_live 41 = .ok (.getfield 42, 3) := by decide +kernel
theorem dX4_live_44 : decode cX4_live 44 = .ok (.if_icmp .ge 34, 3) := by decide +kernel
theorem dX4_live_47 : decode cX4_live 47 = .ok (.aload_n 0, 1) := by decide +kernel
theorem dX4_live_48 : decode cX4_live 48 = .ok (.getfield 57, 3) := by decide +kernel
theorem dX4_live_51 : decode cX4_live 51 = .ok (.iload_n 2, 1) := by decide +kernel
theorem dX4_live_52 : decode cX4_live 52 = .ok (.aload_n 0, 1) := by decide +kernel
theorem dX4_live_53 : decode cX4_live 53 = .ok (.getfield 48, 3) := by decide +kernel
theorem dX4_live_56 : decode cX4_live 56 = .ok (.bipush 8, 2) := by decide +kernel
theorem dX4_live_58 : decode cX4_live 58 = .ok (.iload_n 2, 1) := by decide +kernel
theorem dX4_live_59 : decode cX4_live 59 = .ok (.imul, 1) := by decide +kernel
theorem dX4_live_60 : decode cX4_live 60 = .ok (.iload_n 1, 1) := by decide +kernel
theorem dX4_live_61 : decode cX4_live 61 = .ok (.iadd, 1) := by decide +kernel
theorem dX4_live_62 : decode cX4_live 62 = .ok (.iaload, 1) := by decide +kernel
theorem dX4_live_63 : decode cX4_live 63 = .ok (.ifCond .lt 7, 3) := by decide +kernel
theorem dX4_live_66 : decode cX4_live 66 = .ok (.iconst 1, 1) := by decide +kernel
theorem dX4_live_67 : decode cX4_live 67 = .ok (.goto 4, 3) := by decide +kernel
theorem dX4_live_70 : decode cX4_live 70 = .ok (.iconst 0, 1) := by decide +kernel
theorem dX4_live_71 : decode cX4_live 71 = .ok (.bastore, 1) := by decide +kernel
theorem dX4_live_72 : decode cX4_live 72 = .ok (.iinc 2 1, 3) := by decide +kernel
theorem dX4_live_75 : decode cX4_live 75 = .ok (.goto (-36), 3) := by decide +kernel
theorem dX4_live_78 : decode cX4_live 78 = .ok (.iconst 1, 1) := by decide +kernel
theorem dX4_live_79 : decode cX4_live 79 = .ok (.istore_n 2, 1) := by decide +kernel
theorem dX4_live_80 : decode cX4_live 80 = .ok (.iload_n 2, 1) := by decide +kernel
theorem dX4_live_81 : decode cX4_live 81 = .ok (.ifCond .eq 90, 3) := by decide +kernel
theorem dX4_live_84 : decode cX4_live 84 = .ok (.iconst 0, 1) := by decide +kernel
theorem dX4_live_85 : decode cX4_live 85 = .ok (.istore_n 2, 1) := by decide +kernel
theorem dX4_live_86 : decode cX4_live 86 = .ok (.aload_n 0, 1) := by decide +kernel
theorem dX4_live_87 : decode cX4_live 87 = .ok (.getfield 42, 3) := by decide +kernel
theorem dX4_live_90 : decode cX4_live 90 = .ok (.iconst 1, 1) := by decide +kernel
theorem dX4_live_91 : decode cX4_live 91 = .ok (.isub, 1) := by decide +kernel
theorem dX4_live_92 : decode cX4_live 92 = .ok (.istore_n 3, 1) := by decide +kernel
theorem dX4_live_93 : decode cX4_live 93 = .ok (.iload_n 3, 1) := by decide +kernel
theorem dX4_live_94 : decode cX4_live 94 = .ok (.ifCond .lt 74, 3) := by decide +kernel
theorem dX4_live_97 : decode cX4_live 97 = .ok (.iconst 0, 1) := by decide +kernel
theorem dX4_live_98 : decode cX4_live 98 = .ok (.istore 4, 2) := by decide +kernel
theorem dX4_live_100 : decode cX4_live 100 = .ok (.iload 4, 2) := by decide +kernel
theorem dX4_live_102 : decode cX4_live 102 = .ok (.aload_n 0, 1) := by decide +kernel
theorem dX4_live_103 : decode cX4_live 103 = .ok (.getfield 69, 3) := by decide +kernel
theorem dX4_live_106 : decode cX4_live 106 = .ok (.if_icmp .ge 56, 3) := by decide +kernel
theorem dX4_live_109 : decode cX4_live 109 = .ok (.aload_n 0, 1) := by decide +kernel
theorem dX4_live_110 : decode cX4_live 110 = .ok (.getfield 57, 3) := by decide +kernel
theorem dX4_live_113 : decode cX4_live 113 = .ok (.iload_n 3, 1) := by decide +kernel
theorem dX4_live_114 : decode cX4_live 114 = .ok (.baload, 1) := by decide +kernel
theorem dX4_live_115 : decode cX4_live 115 = .ok (.ifCond .ne 47, 3) := by decide +kernel
theorem dX4_live_118 : decode cX4_live 118 = .ok (.aload_n 0, 1) := by decide +kernel
theorem dX4_live_119 : decode cX4_live 119 = .ok (.getfield 48, 3) := by decide +kernel
theorem dX4_live_122 : decode cX4_live 122 = .ok (.bipush 8, 2) := by decide +kernel
theorem dX4_live_124 : decode cX4_live 124 = .ok (.iload_n 3, 1) := by decide +kernel
theorem dX4_live_125 : decode cX4_live 125 = .ok (.imul, 1) := by decide +kernel
theorem dX4_live_126 : decode cX4_live 126 = .ok (.iload 4, 2) := by decide +kernel
theorem dX4_live_128 : decode cX4_live 128 = .ok (.iadd, 1) := by decide +kernel
theorem dX4_live_129 : decode cX4_live 129 = .ok (.iaload, 1) := by decide +kernel
theorem dX4_live_130 : decode cX4_live 130 = .ok (.istore 5, 2) := by decide +kernel
theorem dX4_live_132 : decode cX4_live 132 = .ok (.iload 5, 2) := by decide +kernel
theorem dX4_live_134 : decode cX4_live 134 = .ok (.ifCond .lt 22, 3) := by decide +kernel
theorem dX4_live_137 : decode cX4_live 137 = .ok (.aload_n 0, 1) := by decide +kernel
theorem dX4_live_138 : decode cX4_live 138 = .ok (.getfield 57, 3) := by decide +kernel
theorem dX4_live_141 : decode cX4_live 141 = .ok (.iload 5, 2) := by decide +kernel
theorem dX4_live_143 : decode cX4_live 143 = .ok (.baload, 1) := by decide +kernel
theorem dX4_live_144 : decode cX4_live 144 = .ok (.ifCond .eq 12, 3) := by decide +kernel
theorem dX4_live_147 : decode cX4_live 147 = .ok (.aload_n 0, 1) := by decide +kernel
theorem dX4_live_148 : decode cX4_live 148 = .ok (.getfield 57, 3) := by decide +kernel
theorem dX4_live_151 : decode cX4_live 151 = .ok (.iload_n 3, 1) := by decide +kernel
theorem dX4_live_152 : decode cX4_live 152 = .ok (.iconst 1, 1) := by decide +kernel
theorem dX4_live_153 : decode cX4_live 153 = .ok (.bastore, 1) := by decide +kernel
theorem dX4_live_154 : decode cX4_live 154 = .ok (.iconst 1, 1) := by decide +kernel
theorem dX4_live_155 : decode cX4_live 155 = .ok (.istore_n 2, 1) := by decide +kernel
theorem dX4_live_156 : decode cX4_live 156 = .ok (.iinc 4 1, 3) := by decide +kernel
theorem dX4_live_159 : decode cX4_live 159 = .ok (.goto (-59), 3) := by decide +kernel
theorem dX4_live_162 : decode cX4_live 162 = .ok (.iinc 3 (-1), 3) := by decide +kernel
theorem dX4_live_165 : decode cX4_live 165 = .ok (.goto (-72), 3) := by decide +kernel
theorem dX4_live_168 : decode cX4_live 168 = .ok (.goto (-88), 3) := by decide +kernel
theorem dX4_live_171 : decode cX4_live 171 = .ok (.iconst 1, 1) := by decide +kernel
theorem dX4_live_172 : decode cX4_live 172 = .ok (.istore_n 3, 1) := by decide +kernel
theorem dX4_live_173 : decode cX4_live 173 = .ok (.iconst 0, 1) := by decide +kernel
theorem dX4_live_174 : decode cX4_live 174 = .ok (.istore 4, 2) := by decide +kernel
theorem dX4_live_176 : decode cX4_live 176 = .ok (.iload 4, 2) := by decide +kernel
theorem dX4_live_178 : decode cX4_live 178 = .ok (.aload_n 0, 1) := by decide +kernel
theorem dX4_live_179 : decode cX4_live 179 = .ok (.getfield 42, 3) := by decide +kernel
theorem dX4_live_182 : decode cX4_live 182 = .ok (.if_icmp .ge 29, 3) := by decide +kernel
theorem dX4_live_185 : decode cX4_live 185 = .ok (.iload_n 3, 1) := by decide +kernel
theorem dX4_live_186 : decode cX4_live 186 = .ok (.ifCond .eq 17, 3) := by decide +kernel
theorem dX4_live_189 : decode cX4_live 189 = .ok (.aload_n 0, 1) := by decide +kernel
theorem dX4_live_190 : decode cX4_live 190 = .ok (.getfield 57, 3) := by decide +kernel
theorem dX4_live_193 : decode cX4_live 193 = .ok (.iload 4, 2) := by decide +kernel
theorem dX4_live_195 : decode cX4_live 195 = .ok (.baload, 1) := by decide +kernel
theorem dX4_live_196 : decode cX4_live 196 = .ok (.ifCond .eq 7, 3) := by decide +kernel
theorem dX4_live_199 : decode cX4_live 199 = .ok (.iconst 1, 1) := by decide +kernel
theorem dX4_live_200 : decode cX4_live 200 = .ok (.goto 4, 3) := by decide +kernel
theorem dX4_live_203 : decode cX4_live 203 = .ok (.iconst 0, 1) := by decide +kernel
theorem dX4_live_204 : decode cX4_live 204 = .ok (.istore_n 3, 1) := by decide +kernel
theorem dX4_live_205 : decode cX4_live 205 = .ok (.iinc 4 1, 3) := by decide +kernel
theorem dX4_live_208 : decode cX4_live 208 = .ok (.goto (-32), 3) := by decide +kernel
theorem dX4_live_211 : decode cX4_live 211 = .ok (.iload_n 3, 1) := by decide +kernel
theorem dX4_live_212 : decode cX4_live 212 = .ok (.ireturn, 1) := by decide +kernel
theorem dL_place_0 : decode cL_place 0 = .ok (.aload_n 2, 1) := by decide +kernel
theorem dL_place_1 : decode cL_place 1 = .ok (.iconst 0, 1) := by decide +kernel
theorem dL_place_2 : decode cL_place 2 = .ok (.aload_n 0, 1) := by decide +kernel
theorem dL_place_3 : decode cL_place 3 = .ok (.iload_n 1, 1) := by decide +kernel
theorem dL_place_4 : decode cL_place 4 = .ok (.invokevirtual 7, 3) := by decide +kernel
theorem dL_place_7 : decode cL_place 7 = .ok (.i2l, 1) := by decide +kernel
theorem dL_place_8 : decode cL_place 8 = .ok (.lastore, 1) := by decide +kernel
theorem dL_place_9 : decode cL_place 9 = .ok (.goto 9, 3) := by decide +kernel
theorem dL_place_12 : decode cL_place 12 = .ok (.astore_n 3, 1) := by decide +kernel
theorem dL_place_13 : decode cL_place 13 = .ok (.iconst 1, 1) := by decide +kernel
theorem dL_place_14 : decode cL_place 14 = .ok (.ireturn, 1) := by decide +kernel
theorem dL_place_15 : decode cL_place 15 = .ok (.astore_n 3, 1) := by decide +kernel
theorem dL_place_16 : decode cL_place 16 = .ok (.iconst 2, 1) := by decide +kernel
theorem dL_place_17 : decode cL_place 17 = .ok (.ireturn, 1) := by decide +kernel
theorem dL_place_18 : decode cL_place 18 = .ok (.iconst 0, 1) := by decide +kernel
theorem dL_place_19 : decode cL_place 19 = .ok (.ireturn, 1) := by decide +kernel
theorem dL_transition_0 : decode cL_transition 0 = .ok (.aload_n 1, 1) := by decide +kernel
theorem dL_transition_1 : decode cL_transition 1 = .ok (.iconst 0, 1) := by decide +kernel
theorem dL_transition_2 : decode cL_transition 2 = .ok (.aload_n 0, 1) := by decide +kernel
theorem dL_transition_3 : decode cL_transition 3 = .ok (.invokevirtual 17, 3) := by decide +kernel
theorem dL_transition_6 : decode cL_transition 6 = .ok (.i2l, 1) := by decide +kernel
theorem dL_transition_7 : decode cL_transition 7 = .ok (.lastore, 1) := by decide +kernel
theorem dL_transition_8 : decode cL_transition 8 = .ok (.goto 6, 3) := by decide +kernel
theorem dL_transition_11 : decode cL_transition 11 = .ok (.astore_n 2, 1) := by decide +kernel
theorem dL_transition_12 : decode cL_transition 12 = .ok (.iconst 1, 1) := by decide +kernel
theorem dL_transition_13 : decode cL_transition 13 = .ok (.ireturn, 1) := by decide +kernel
theorem dL_transition_14 : decode cL_transition 14 = .ok (.iconst 0, 1) := by decide +kernel
theorem dL_transition_15 : decode cL_transition 15 = .ok (.ireturn, 1) := by decide +kernel
theorem dL_arc_0 : decode cL_arc 0 = .ok (.aload 5, 2) := by decide +kernel
theorem dL_arc_2 : decode cL_arc 2 = .ok (.iconst 0, 1) := by decide +kernel
theorem dL_arc_3 : decode cL_arc 3 = .ok (.aload_n 0, 1) := by decide +kernel
theorem dL_arc_4 : decode cL_arc 4 = .ok (.iload_n 1, 1) := by decide +kernel
theorem dL_arc_5 : decode cL_arc 5 = .ok (.iload_n 2, 1) := by decide +kernel
theorem dL_arc_6 : decode cL_arc 6 = .ok (.iload_n 3, 1) := by decide +kernel
theorem dL_arc_7 : decode cL_arc 7 = .ok (.iload 4, 2) := by decide +kernel
theorem dL_arc_9 : decode cL_arc 9 = .ok (.invokevirtual 21, 3) := by decide +kernel
theorem dL_arc_12 : decode cL_arc 12 = .ok (.i2l, 1) := by decide +kernel
theorem dL_arc_13 : decode cL_arc 13 = .ok (.lastore, 1) := by decide +kernel
theorem dL_arc_14 : decode cL_arc 14 = .ok (.goto 11, 3) := by decide +kernel
theorem dL_arc_17 : decode cL_arc 17 = .ok (.astore 6, 2) := by decide +kernel
theorem dL_arc_19 : decode cL_arc 19 = .ok (.iconst 1, 1) := by decide +kernel
theorem dL_arc_20 : decode cL_arc 20 = .ok (.ireturn, 1) := by decide +kernel
theorem dL_arc_21 : decode cL_arc 21 = .ok (.astore 6, 2) := by decide +kernel
theorem dL_arc_23 : decode cL_arc 23 = .ok (.iconst 2, 1) := by decide +kernel
theorem dL_arc_24 : decode cL_arc 24 = .ok (.ireturn, 1) := by decide +kernel
theorem dL_arc_25 : decode cL_arc 25 = .ok (.iconst 0, 1) := by decide +kernel
theorem dL_arc_26 : decode cL_arc 26 = .ok (.ireturn, 1) := by decide +kernel
theorem dL_tokens_0 : decode cL_tokens 0 = .ok (.aload_n 0, 1) := by decide +kernel
theorem dL_tokens_1 : decode cL_tokens 1 = .ok (.iload_n 1, 1) := by decide +kernel
theorem dL_tokens_2 : decode cL_tokens 2 = .ok (.iload_n 2, 1) := by decide +kernel
theorem dL_tokens_3 : decode cL_tokens 3 = .ok (.invokevirtual 27, 3) := by decide +kernel
theorem dL_tokens_6 : decode cL_tokens 6 = .ok (.goto 9, 3) := by decide +kernel
theorem dL_tokens_9 : decode cL_tokens 9 = .ok (.astore_n 3, 1) := by decide +kernel
theorem dL_tokens_10 : decode cL_tokens 10 = .ok (.iconst 1, 1) := by decide +kernel
theorem dL_tokens_11 : decode cL_tokens 11 = .ok (.ireturn, 1) := by decide +kernel
theorem dL_tokens_12 : decode cL_tokens 12 = .ok (.astore_n 3, 1) := by decide +kernel
theorem dL_tokens_13 : decode cL_tokens 13 = .ok (.iconst 2, 1) := by decide +kernel
theorem dL_tokens_14 : decode cL_tokens 14 = .ok (.ireturn, 1) := by decide +kernel
theorem dL_tokens_15 : decode cL_tokens 15 = .ok (.iconst 0, 1) := by decide +kernel
theorem dL_tokens_16 : decode cL_tokens 16 = .ok (.ireturn, 1) := by decide +kernel
theorem dL_explore_0 : decode cL_explore 0 = .ok (.aload_n 1, 1) := by decide +kernel
theorem dL_explore_1 : decode cL_explore 1 = .ok (.iconst 0, 1) := by decide +kernel
theorem dL_explore_2 : decode cL_explore 2 = .ok (.aload_n 0, 1) := by decide +kernel
theorem dL_explore_3 : decode cL_explore 3 = .ok (.invokevirtual 31, 3) := by decide +kernel
theorem dL_explore_6 : decode cL_explore 6 = .ok (.i2l, 1) := by decide +kernel
theorem dL_explore_7 : decode cL_explore 7 = .ok (.lastore, 1) := by decide +kernel
theorem dL_explore_8 : decode cL_explore 8 = .ok (.goto 6, 3) := by decide +kernel
theorem dL_explore_11 : decode cL_explore 11 = .ok (.astore_n 2, 1) := by decide +kernel
theorem dL_explore_12 : decode cL_explore 12 = .ok (.iconst 1, 1) := by decide +kernel
theorem dL_explore_13 : decode cL_explore 13 = .ok (.ireturn, 1) := by decide +kernel
theorem dL_explore_14 : decode cL_explore 14 = .ok (.iconst 0, 1) := by decide +kernel
theorem dL_explore_15 : decode cL_explore 15 = .ok (.ireturn, 1) := by decide +kernel
theorem dL_count_0 : decode cL_count 0 = .ok (.aload_n 3, 1) := by decide +kernel
theorem dL_count_1 : decode cL_count 1 = .ok (.iconst 0, 1) := by decide +kernel
theorem dL_count_2 : decode cL_count 2 = .ok (.aload_n 0, 1) := by decide +kernel
theorem dL_count_3 : decode cL_count 3 = .ok (.iload_n 1, 1) := by decide +kernel
theorem dL_count_4 : decode cL_count 4 = .ok (.iload_n 2, 1) := by decide +kernel
theorem dL_count_5 : decode cL_count 5 = .ok (.invokevirtual 36, 3) := by decide +kernel
theorem dL_count_8 : decode cL_count 8 = .ok (.i2l, 1) := by decide +kernel
theorem dL_count_9 : decode cL_count 9 = .ok (.lastore, 1) := by decide +kernel
theorem dL_count_10 : decode cL_count 10 = .ok (.goto 11, 3) := by decide +kernel
theorem dL_count_13 : decode cL_count 13 = .ok (.astore 4, 2) := by decide +kernel
theorem dL_count_15 : decode cL_count 15 = .ok (.iconst 1, 1) := by decide +kernel
theorem dL_count_16 : decode cL_count 16 = .ok (.ireturn, 1) := by decide +kernel
theorem dL_count_17 : decode cL_count 17 = .ok (.astore 4, 2) := by decide +kernel
theorem dL_count_19 : decode cL_count 19 = .ok (.iconst 2, 1) := by decide +kernel
theorem dL_count_20 : decode cL_count 20 = .ok (.ireturn, 1) := by decide +kernel
theorem dL_count_21 : decode cL_count 21 = .ok (.iconst 0, 1) := by decide +kernel
theorem dL_count_22 : decode cL_count 22 = .ok (.ireturn, 1) := by decide +kernel
theorem dL_node_0 : decode cL_node 0 = .ok (.aload_n 3, 1) := by decide +kernel
theorem dL_node_1 : decode cL_node 1 = .ok (.iconst 0, 1) := by decide +kernel
theorem dL_node_2 : decode cL_node 2 = .ok (.aload_n 0, 1) := by decide +kernel
theorem dL_node_3 : decode cL_node 3 = .ok (.iload_n 1, 1) := by decide +kernel
theorem dL_node_4 : decode cL_node 4 = .ok (.iload_n 2, 1) := by decide +kernel
theorem dL_node_5 : decode cL_node 5 = .ok (.invokevirtual 40, 3) := by decide +kernel
theorem dL_node_8 : decode cL_node 8 = .ok (.i2l, 1) := by decide +kernel
theorem dL_node_9 : decode cL_node 9 = .ok (.lastore, 1) := by decide +kernel
theorem dL_node_10 : decode cL_node 10 = .ok (.goto 11, 3) := by decide +kernel
theorem dL_node_13 : decode cL_node 13 = .ok (.astore 4, 2) := by decide +kernel
theorem dL_node_15 : decode cL_node 15 = .ok (.iconst 1, 1) := by decide +kernel
theorem dL_node_16 : decode cL_node 16 = .ok (.ireturn, 1) := by decide +kernel
theorem dL_node_17 : decode cL_node 17 = .ok (.astore 4, 2) := by decide +kernel
theorem dL_node_19 : decode cL_node 19 = .ok (.iconst 2, 1) := by decide +kernel
theorem dL_node_20 : decode cL_node 20 = .ok (.ireturn, 1) := by decide +kernel
theorem dL_node_21 : decode cL_node 21 = .ok (.iconst 0, 1) := by decide +kernel
theorem dL_node_22 : decode cL_node 22 = .ok (.ireturn, 1) := by decide +kernel
theorem dL_bound_0 : decode cL_bound 0 = .ok (.aload_n 2, 1) := by decide +kernel
theorem dL_bound_1 : decode cL_bound 1 = .ok (.iconst 0, 1) := by decide +kernel
theorem dL_bound_2 : decode cL_bound 2 = .ok (.aload_n 0, 1) := by decide +kernel
theorem dL_bound_3 : decode cL_bound 3 = .ok (.iload_n 1, 1) := by decide +kernel
theorem dL_bound_4 : decode cL_bound 4 = .ok (.invokevirtual 43, 3) := by decide +kernel
theorem dL_bound_7 : decode cL_bound 7 = .ok (.i2l, 1) := by decide +kernel
theorem dL_bound_8 : decode cL_bound 8 = .ok (.lastore, 1) := by decide +kernel
theorem dL_bound_9 : decode cL_bound 9 = .ok (.goto 9, 3) := by decide +kernel
theorem dL_bound_12 : decode cL_bound 12 = .ok (.astore_n 3, 1) := by decide +kernel
theorem dL_bound_13 : decode cL_bound 13 = .ok (.iconst 1, 1) := by decide +kernel
theorem dL_bound_14 : decode cL_bound 14 = .ok (.ireturn, 1) := by decide +kernel
theorem dL_bound_15 : decode cL_bound 15 = .ok (.astore_n 3, 1) := by decide +kernel
theorem dL_bound_16 : decode cL_bound 16 = .ok (.iconst 2, 1) := by decide +kernel
theorem dL_bound_17 : decode cL_bound 17 = .ok (.ireturn, 1) := by decide +kernel
theorem dL_bound_18 : decode cL_bound 18 = .ok (.iconst 0, 1) := by decide +kernel
theorem dL_bound_19 : decode cL_bound 19 = .ok (.ireturn, 1) := by decide +kernel
theorem dL_want_0 : decode cL_want 0 = .ok (.aload_n 0, 1) := by decide +kernel
theorem dL_want_1 : decode cL_want 1 = .ok (.iload_n 1, 1) := by decide +kernel
theorem dL_want_2 : decode cL_want 2 = .ok (.iload_n 2, 1) := by decide +kernel
theorem dL_want_3 : decode cL_want 3 = .ok (.invokevirtual 46, 3) := by decide +kernel
theorem dL_want_6 : decode cL_want 6 = .ok (.goto 9, 3) := by decide +kernel
theorem dL_want_9 : decode cL_want 9 = .ok (.astore_n 3, 1) := by decide +kernel
theorem dL_want_10 : decode cL_want 10 = .ok (.iconst 1, 1) := by decide +kernel
theorem dL_want_11 : decode cL_want 11 = .ok (.ireturn, 1) := by decide +kernel
theorem dL_want_12 : decode cL_want 12 = .ok (.astore_n 3, 1) := by decide +kernel
theorem dL_want_13 : decode cL_want 13 = .ok (.iconst 2, 1) := by decide +kernel
theorem dL_want_14 : decode cL_want 14 = .ok (.ireturn, 1) := by decide +kernel
theorem dL_want_15 : decode cL_want 15 = .ok (.iconst 0, 1) := by decide +kernel
theorem dL_want_16 : decode cL_want 16 = .ok (.ireturn, 1) := by decide +kernel
theorem dL_covered_0 : decode cL_covered 0 = .ok (.aload_n 1, 1) := by decide +kernel
theorem dL_covered_1 : decode cL_covered 1 = .ok (.iconst 0, 1) := by decide +kernel
theorem dL_covered_2 : decode cL_covered 2 = .ok (.aload_n 0, 1) := by decide +kernel
theorem dL_covered_3 : decode cL_covered 3 = .ok (.invokevirtual 49, 3) := by decide +kernel
theorem dL_covered_6 : decode cL_covered 6 = .ok (.ifCond .eq 7, 3) := by decide +kernel
theorem dL_covered_9 : decode cL_covered 9 = .ok (.lconst 1, 1) := by decide +kernel
theorem dL_covered_10 : decode cL_covered 10 = .ok (.goto 4, 3) := by decide +kernel
theorem dL_covered_13 : decode cL_covered 13 = .ok (.lconst 0, 1) := by decide +kernel
theorem dL_covered_14 : decode cL_covered 14 = .ok (.lastore, 1) := by decide +kernel
theorem dL_covered_15 : decode cL_covered 15 = .ok (.goto 6, 3) := by decide +kernel
theorem dL_covered_18 : decode cL_covered 18 = .ok (.astore_n 2, 1) := by decide +kernel
theorem dL_covered_19 : decode cL_covered 19 = .ok (.iconst 1, 1) := by decide +kernel
theorem dL_covered_20 : decode cL_covered 20 = .ok (.ireturn, 1) := by decide +kernel
theorem dL_covered_21 : decode cL_covered 21 = .ok (.iconst 0, 1) := by decide +kernel
theorem dL_covered_22 : decode cL_covered 22 = .ok (.ireturn, 1) := by decide +kernel
theorem dL_possible_0 : decode cL_possible 0 = .ok (.aload_n 2, 1) := by decide +kernel
theorem dL_possible_1 : decode cL_possible 1 = .ok (.iconst 0, 1) := by decide +kernel
theorem dL_possible_2 : decode cL_possible 2 = .ok (.aload_n 0, 1) := by decide +kernel
theorem dL_possible_3 : decode cL_possible 3 = .ok (.iload_n 1, 1) := by decide +kernel
theorem dL_possible_4 : decode cL_possible 4 = .ok (.invokevirtual 53, 3) := by decide +kernel
theorem dL_possible_7 : decode cL_possible 7 = .ok (.ifCond .eq 7, 3) := by decide +kernel
theorem dL_possible_10 : decode cL_possible 10 = .ok (.lconst 1, 1) := by decide +kernel
theorem dL_possible_11 : decode cL_possible 11 = .ok (.goto 4, 3) := by decide +kernel
theorem dL_possible_14 : decode cL_possible 14 = .ok (.lconst 0, 1) := by decide +kernel
theorem dL_possible_15 : decode cL_possible 15 = .ok (.lastore, 1) := by decide +kernel
theorem dL_possible_16 : decode cL_possible 16 = .ok (.goto 9, 3) := by decide +kernel
theorem dL_possible_19 : decode cL_possible 19 = .ok (.astore_n 3, 1) := by decide +kernel
theorem dL_possible_20 : decode cL_possible 20 = .ok (.iconst 1, 1) := by decide +kernel
theorem dL_possible_21 : decode cL_possible 21 = .ok (.ireturn, 1) := by decide +kernel
theorem dL_possible_22 : decode cL_possible 22 = .ok (.astore_n 3, 1) := by decide +kernel
theorem dL_possible_23 : decode cL_possible 23 = .ok (.iconst 2, 1) := by decide +kernel
theorem dL_possible_24 : decode cL_possible 24 = .ok (.ireturn, 1) := by decide +kernel
theorem dL_possible_25 : decode cL_possible 25 = .ok (.iconst 0, 1) := by decide +kernel
theorem dL_possible_26 : decode cL_possible 26 = .ok (.ireturn, 1) := by decide +kernel
theorem dL_growth_0 : decode cL_growth 0 = .ok (.aload_n 2, 1) := by decide +kernel
theorem dL_growth_1 : decode cL_growth 1 = .ok (.iconst 0, 1) := by decide +kernel
theorem dL_growth_2 : decode cL_growth 2 = .ok (.aload_n 0, 1) := by decide +kernel
theorem dL_growth_3 : decode cL_growth 3 = .ok (.iload_n 1, 1) := by decide +kernel
theorem dL_growth_4 : decode cL_growth 4 = .ok (.invokevirtual 57, 3) := by decide +kernel
theorem dL_growth_7 : decode cL_growth 7 = .ok (.i2l, 1) := by decide +kernel
theorem dL_growth_8 : decode cL_growth 8 = .ok (.lastore, 1) := by decide +kernel
theorem dL_growth_9 : decode cL_growth 9 = .ok (.goto 9, 3) := by decide +kernel
theorem dL_growth_12 : decode cL_growth 12 = .ok (.astore_n 3, 1) := by decide +kernel
theorem dL_growth_13 : decode cL_growth 13 = .ok (.iconst 1, 1) := by decide +kernel
theorem dL_growth_14 : decode cL_growth 14 = .ok (.ireturn, 1) := by decide +kernel
theorem dL_growth_15 : decode cL_growth 15 = .ok (.astore_n 3, 1) := by decide +kernel
theorem dL_growth_16 : decode cL_growth 16 = .ok (.iconst 2, 1) := by decide +kernel
theorem dL_growth_17 : decode cL_growth 17 = .ok (.ireturn, 1) := by decide +kernel
theorem dL_growth_18 : decode cL_growth 18 = .ok (.iconst 0, 1) := by decide +kernel
theorem dL_growth_19 : decode cL_growth 19 = .ok (.ireturn, 1) := by decide +kernel
theorem dL_graph_0 : decode cL_graph 0 = .ok (.aload_n 1, 1) := by decide +kernel
theorem dL_graph_1 : decode cL_graph 1 = .ok (.iconst 0, 1) := by decide +kernel
theorem dL_graph_2 : decode cL_graph 2 = .ok (.aload_n 0, 1) := by decide +kernel
theorem dL_graph_3 : decode cL_graph 3 = .ok (.invokevirtual 60, 3) := by decide +kernel
theorem dL_graph_6 : decode cL_graph 6 = .ok (.i2l, 1) := by decide +kernel
theorem dL_graph_7 : decode cL_graph 7 = .ok (.lastore, 1) := by decide +kernel
theorem dL_graph_8 : decode cL_graph 8 = .ok (.goto 9, 3) := by decide +kernel
theorem dL_graph_11 : decode cL_graph 11 = .ok (.astore_n 2, 1) := by decide +kernel
theorem dL_graph_12 : decode cL_graph 12 = .ok (.iconst 1, 1) := by decide +kernel
theorem dL_graph_13 : decode cL_graph 13 = .ok (.ireturn, 1) := by decide +kernel
theorem dL_graph_14 : decode cL_graph 14 = .ok (.astore_n 2, 1) := by decide +kernel
theorem dL_graph_15 : decode cL_graph 15 = .ok (.iconst 2, 1) := by decide +kernel
theorem dL_graph_16 : decode cL_graph 16 = .ok (.ireturn, 1) := by decide +kernel
theorem dL_graph_17 : decode cL_graph 17 = .ok (.iconst 0, 1) := by decide +kernel
theorem dL_graph_18 : decode cL_graph 18 = .ok (.ireturn, 1) := by decide +kernel
theorem dL_reached_0 : decode cL_reached 0 = .ok (.aload_n 1, 1) := by decide +kernel
theorem dL_reached_1 : decode cL_reached 1 = .ok (.iconst 0, 1) := by decide +kernel
theorem dL_reached_2 : decode cL_reached 2 = .ok (.aload_n 0, 1) := by decide +kernel
theorem dL_reached_3 : decode cL_reached 3 = .ok (.invokevirtual 63, 3) := by decide +kernel
theorem dL_reached_6 : decode cL_reached 6 = .ok (.i2l, 1) := by decide +kernel
theorem dL_reached_7 : decode cL_reached 7 = .ok (.lastore, 1) := by decide +kernel
theorem dL_reached_8 : decode cL_reached 8 = .ok (.goto 6, 3) := by decide +kernel
theorem dL_reached_11 : decode cL_reached 11 = .ok (.astore_n 2, 1) := by decide +kernel
theorem dL_reached_12 : decode cL_reached 12 = .ok (.iconst 1, 1) := by decide +kernel
theorem dL_reached_13 : decode cL_reached 13 = .ok (.ireturn, 1) := by decide +kernel
theorem dL_reached_14 : decode cL_reached 14 = .ok (.iconst 0, 1) := by decide +kernel
theorem dL_reached_15 : decode cL_reached 15 = .ok (.ireturn, 1) := by decide +kernel
theorem dL_distance_0 : decode cL_distance 0 = .ok (.aload_n 2, 1) := by decide +kernel
theorem dL_distance_1 : decode cL_distance 1 = .ok (.iconst 0, 1) := by decide +kernel
theorem dL_distance_2 : decode cL_distance 2 = .ok (.aload_n 0, 1) := by decide +kernel
theorem dL_distance_3 : decode cL_distance 3 = .ok (.iload_n 1, 1) := by decide +kernel
theorem dL_distance_4 : decode cL_distance 4 = .ok (.invokevirtual 66, 3) := by decide +kernel
theorem dL_distance_7 : decode cL_distance 7 = .ok (.i2l, 1) := by decide +kernel
theorem dL_distance_8 : decode cL_distance 8 = .ok (.lastore, 1) := by decide +kernel
theorem dL_distance_9 : decode cL_distance 9 = .ok (.goto 9, 3) := by decide +kernel
theorem dL_distance_12 : decode cL_distance 12 = .ok (.astore_n 3, 1) := by decide +kernel
theorem dL_distance_13 : decode cL_distance 13 = .ok (.iconst 1, 1) := by decide +kernel
theorem dL_distance_14 : decode cL_distance 14 = .ok (.ireturn, 1) := by decide +kernel
theorem dL_distance_15 : decode cL_distance 15 = .ok (.astore_n 3, 1) := by decide +kernel
theorem dL_distance_16 : decode cL_distance 16 = .ok (.iconst 2, 1) := by decide +kernel
theorem dL_distance_17 : decode cL_distance 17 = .ok (.ireturn, 1) := by decide +kernel
theorem dL_distance_18 : decode cL_distance 18 = .ok (.iconst 0, 1) := by decide +kernel
theorem dL_distance_19 : decode cL_distance 19 = .ok (.ireturn, 1) := by decide +kernel
theorem dL_found_0 : decode cL_found 0 = .ok (.aload_n 3, 1) := by decide +kernel
theorem dL_found_1 : decode cL_found 1 = .ok (.iconst 0, 1) := by decide +kernel
theorem dL_found_2 : decode cL_found 2 = .ok (.aload_n 0, 1) := by decide +kernel
theorem dL_found_3 : decode cL_found 3 = .ok (.iload_n 1, 1) := by decide +kernel
theorem dL_found_4 : decode cL_found 4 = .ok (.iload_n 2, 1) := by decide +kernel
theorem dL_found_5 : decode cL_found 5 = .ok (.invokevirtual 69, 3) := by decide +kernel
theorem dL_found_8 : decode cL_found 8 = .ok (.i2l, 1) := by decide +kernel
theorem dL_found_9 : decode cL_found 9 = .ok (.lastore, 1) := by decide +kernel
theorem dL_found_10 : decode cL_found 10 = .ok (.goto 11, 3) := by decide +kernel
theorem dL_found_13 : decode cL_found 13 = .ok (.astore 4, 2) := by decide +kernel
theorem dL_found_15 : decode cL_found 15 = .ok (.iconst 1, 1) := by decide +kernel
theorem dL_found_16 : decode cL_found 16 = .ok (.ireturn, 1) := by decide +kernel
theorem dL_found_17 : decode cL_found 17 = .ok (.astore 4, 2) := by decide +kernel
theorem dL_found_19 : decode cL_found 19 = .ok (.iconst 2, 1) := by decide +kernel
theorem dL_found_20 : decode cL_found 20 = .ok (.ireturn, 1) := by decide +kernel
theorem dL_found_21 : decode cL_found 21 = .ok (.iconst 0, 1) := by decide +kernel
theorem dL_found_22 : decode cL_found 22 = .ok (.ireturn, 1) := by decide +kernel
theorem dL_stops_0 : decode cL_stops 0 = .ok (.aload_n 1, 1) := by decide +kernel
theorem dL_stops_1 : decode cL_stops 1 = .ok (.iconst 0, 1) := by decide +kernel
theorem dL_stops_2 : decode cL_stops 2 = .ok (.aload_n 0, 1) := by decide +kernel
theorem dL_stops_3 : decode cL_stops 3 = .ok (.invokevirtual 73, 3) := by decide +kernel
theorem dL_stops_6 : decode cL_stops 6 = .ok (.i2l, 1) := by decide +kernel
theorem dL_stops_7 : decode cL_stops 7 = .ok (.lastore, 1) := by decide +kernel
theorem dL_stops_8 : decode cL_stops 8 = .ok (.goto 6, 3) := by decide +kernel
theorem dL_stops_11 : decode cL_stops 11 = .ok (.astore_n 2, 1) := by decide +kernel
theorem dL_stops_12 : decode cL_stops 12 = .ok (.iconst 1, 1) := by decide +kernel
theorem dL_stops_13 : decode cL_stops 13 = .ok (.ireturn, 1) := by decide +kernel
theorem dL_stops_14 : decode cL_stops 14 = .ok (.iconst 0, 1) := by decide +kernel
theorem dL_stops_15 : decode cL_stops 15 = .ok (.ireturn, 1) := by decide +kernel
theorem dL_live_0 : decode cL_live 0 = .ok (.aload_n 2, 1) := by decide +kernel
theorem dL_live_1 : decode cL_live 1 = .ok (.iconst 0, 1) := by decide +kernel
theorem dL_live_2 : decode cL_live 2 = .ok (.aload_n 0, 1) := by decide +kernel
theorem dL_live_3 : decode cL_live 3 = .ok (.iload_n 1, 1) := by decide +kernel
theorem dL_live_4 : decode cL_live 4 = .ok (.invokevirtual 76, 3) := by decide +kernel
theorem dL_live_7 : decode cL_live 7 = .ok (.ifCond .eq 7, 3) := by decide +kernel
theorem dL_live_10 : decode cL_live 10 = .ok (.lconst 1, 1) := by decide +kernel
theorem dL_live_11 : decode cL_live 11 = .ok (.goto 4, 3) := by decide +kernel
theorem dL_live_14 : decode cL_live 14 = .ok (.lconst 0, 1) := by decide +kernel
theorem dL_live_15 : decode cL_live 15 = .ok (.lastore, 1) := by decide +kernel
theorem dL_live_16 : decode cL_live 16 = .ok (.goto 9, 3) := by decide +kernel
theorem dL_live_19 : decode cL_live 19 = .ok (.astore_n 3, 1) := by decide +kernel
theorem dL_live_20 : decode cL_live 20 = .ok (.iconst 1, 1) := by decide +kernel
theorem dL_live_21 : decode cL_live 21 = .ok (.ireturn, 1) := by decide +kernel
theorem dL_live_22 : decode cL_live 22 = .ok (.astore_n 3, 1) := by decide +kernel
theorem dL_live_23 : decode cL_live 23 = .ok (.iconst 2, 1) := by decide +kernel
theorem dL_live_24 : decode cL_live 24 = .ok (.ireturn, 1) := by decide +kernel
theorem dL_live_25 : decode cL_live 25 = .ok (.iconst 0, 1) := by decide +kernel
theorem dL_live_26 : decode cL_live 26 = .ok (.ireturn, 1) := by decide +kernel
theorem dL_law_0 : decode cL_law 0 = .ok (.new 8, 3) := by decide +kernel
theorem dL_law_3 : decode cL_law 3 = .ok (.dup, 1) := by decide +kernel
theorem dL_law_4 : decode cL_law 4 = .ok (.invokespecial 79, 3) := by decide +kernel
theorem dL_law_7 : decode cL_law 7 = .ok (.astore_n 1, 1) := by decide +kernel
theorem dL_law_8 : decode cL_law 8 = .ok (.new 80, 3) := by decide +kernel
theorem dL_law_11 : decode cL_law 11 = .ok (.dup, 1) := by decide +kernel
theorem dL_law_12 : decode cL_law 12 = .ok (.invokespecial 82, 3) := by decide +kernel
theorem dL_law_15 : decode cL_law 15 = .ok (.astore_n 2, 1) := by decide +kernel
theorem dL_law_16 : decode cL_law 16 = .ok (.iconst 1, 1) := by decide +kernel
theorem dL_law_17 : decode cL_law 17 = .ok (.newarray .long, 2) := by decide +kernel
theorem dL_law_19 : decode cL_law 19 = .ok (.astore_n 3, 1) := by decide +kernel
theorem dL_law_20 : decode cL_law 20 = .ok (.iconst 0, 1) := by decide +kernel
theorem dL_law_21 : decode cL_law 21 = .ok (.istore 4, 2) := by decide +kernel
theorem dL_law_23 : decode cL_law 23 = .ok (.iload 4, 2) := by decide +kernel
theorem dL_law_25 : decode cL_law 25 = .ok (.aload_n 0, 1) := by decide +kernel
theorem dL_law_26 : decode cL_law 26 = .ok (.arraylength, 1) := by decide +kernel
theorem dL_law_27 : decode cL_law 27 = .ok (.iconst 5, 1) := by decide +kernel
theorem dL_law_28 : decode cL_law 28 = .ok (.isub, 1) := by decide +kernel
theorem dL_law_29 : decode cL_law 29 = .ok (.if_icmp .gt 1146, 3) := by decide +kernel
theorem dL_law_32 : decode cL_law 32 = .ok (.aload_n 0, 1) := by decide +kernel
theorem dL_law_33 : decode cL_law 33 = .ok (.iload 4, 2) := by decide +kernel
theorem dL_law_35 : decode cL_law 35 = .ok (.iaload, 1) := by decide +kernel
theorem dL_law_36 : decode cL_law 36 = .ok (.bipush 31, 2) := by decide +kernel
theorem dL_law_38 : decode cL_law 38 = .ok (.iand, 1) := by decide +kernel
theorem dL_law_39 : decode cL_law 39 = .ok (.tableswitch 1130 0 17 #[85, 141, 185, 293, 341, 385, 453, 521, 577, 625, 676, 739, 795, 839, 883, 939, 1023, 1067], 85) := by decide +kernel
theorem dL_law_124 : decode cL_law 124 = .ok (.aload_n 1, 1) := by decide +kernel
theorem dL_law_125 : decode cL_law 125 = .ok (.aload_n 0, 1) := by decide +kernel
theorem dL_law_126 : decode cL_law 126 = .ok (.iload 4, 2) := by decide +kernel
theorem dL_law_128 : decode cL_law 128 = .ok (.iconst 1, 1) := by decide +kernel
theorem dL_law_129 : decode cL_law 129 = .ok (.iadd, 1) := by decide +kernel
theorem dL_law_130 : decode cL_law 130 = .ok (.iaload, 1) := by decide +kernel
theorem dL_law_131 : decode cL_law 131 = .ok (.aload_n 3, 1) := by decide +kernel
theorem dL_law_132 : decode cL_law 132 = .ok (.invokestatic 83, 3) := by decide +kernel
theorem dL_law_135 : decode cL_law 135 = .ok (.istore 5, 2) := by decide +kernel
theorem dL_law_137 : decode cL_law 137 = .ok (.aload_n 2, 1) := by decide +kernel
theorem dL_law_138 : decode cL_law 138 = .ok (.aload_n 0, 1) := by decide +kernel
theorem dL_law_139 : decode cL_law 139 = .ok (.iload 4, 2) := by decide +kernel
theorem dL_law_141 : decode cL_law 141 = .ok (.iconst 1, 1) := by decide +kernel
theorem dL_law_142 : decode cL_law 142 = .ok (.iadd, 1) := by decide +kernel
theorem dL_law_143 : decode cL_law 143 = .ok (.iaload, 1) := by decide +kernel
theorem dL_law_144 : decode cL_law 144 = .ok (.invokevirtual 88, 3) := by decide +kernel
theorem dL_law_147 : decode cL_law 147 = .ok (.istore 6, 2) := by decide +kernel
theorem dL_law_149 : decode cL_law 149 = .ok (.aload_n 2, 1) := by decide +kernel
theorem dL_law_150 : decode cL_law 150 = .ok (.invokevirtual 89, 3) := by decide +kernel
theorem dL_law_153 : decode cL_law 153 = .ok (.iload 5, 2) := by decide +kernel
theorem dL_law_155 : decode cL_law 155 = .ok (.if_icmp .eq 5, 3) := by decide +kernel
theorem dL_law_158 : decode cL_law 158 = .ok (.iconst 0, 1) := by decide +kernel
theorem dL_law_159 : decode cL_law 159 = .ok (.ireturn, 1) := by decide +kernel
theorem dL_law_160 : decode cL_law 160 = .ok (.iload 5, 2) := by decide +kernel
theorem dL_law_162 : decode cL_law 162 = .ok (.ifCond .ne 15, 3) := by decide +kernel
theorem dL_law_165 : decode cL_law 165 = .ok (.aload_n 3, 1) := by decide +kernel
theorem dL_law_166 : decode cL_law 166 = .ok (.iconst 0, 1) := by decide +kernel
theorem dL_law_167 : decode cL_law 167 = .ok (.laload, 1) := by decide +kernel
theorem dL_law_168 : decode cL_law 168 = .ok (.iload 6, 2) := by decide +kernel
theorem dL_law_170 : decode cL_law 170 = .ok (.i2l, 1) := by decide +kernel
theorem dL_law_171 : decode cL_law 171 = .ok (.lcmp, 1) := by decide +kernel
theorem dL_law_172 : decode cL_law 172 = .ok (.ifCond .eq 5, 3) := by decide +kernel
theorem dL_law_175 : decode cL_law 175 = .ok (.iconst 0, 1) := by decide +kernel
theorem dL_law_176 : decode cL_law 176 = .ok (.ireturn, 1) := by decide +kernel
theorem dL_law_177 : decode cL_law 177 = .ok (.goto 992, 3) := by decide +kernel
theorem dL_law_180 : decode cL_law 180 = .ok (.aload_n 1, 1) := by decide +kernel
theorem dL_law_181 : decode cL_law 181 = .ok (.aload_n 3, 1) := by decide +kernel
theorem dL_law_182 : decode cL_law 182 = .ok (.invokestatic 92, 3) := by decide +kernel
theorem dL_law_185 : decode cL_law 185 = .ok (.istore 5, 2) := by decide +kernel
theorem dL_law_187 : decode cL_law 187 = .ok (.aload_n 2, 1) := by decide +kernel
theorem dL_law_188 : decode cL_law 188 = .ok (.invokevirtual 95, 3) := by decide +kernel
theorem dL_law_191 : decode cL_law 191 = .ok (.istore 6, 2) := by decide +kernel
theorem dL_law_193 : decode cL_law 193 = .ok (.aload_n 2, 1) := by decide +kernel
theorem dL_law_194 : decode cL_law 194 = .ok (.invokevirtual 89, 3) := by decide +kernel
theorem dL_law_197 : decode cL_law 197 = .ok (.iload 5, 2) := by decide +kernel
theorem dL_law_199 : decode cL_law 199 = .ok (.if_icmp .eq 5, 3) := by decide +kernel
theorem dL_law_202 : decode cL_law 202 = .ok (.iconst 0, 1) := by decide +kernel
theorem dL_law_203 : decode cL_law 203 = .ok (.ireturn, 1) := by decide +kernel
theorem dL_law_204 : decode cL_law 204 = .ok (.iload 5, 2) := by decide +kernel
theorem dL_law_206 : decode cL_law 206 = .ok (.ifCond .ne 15, 3) := by decide +kernel
theorem dL_law_209 : decode cL_law 209 = .ok (.aload_n 3, 1) := by decide +kernel
theorem dL_law_210 : decode cL_law 210 = .ok (.iconst 0, 1) := by decide +kernel
theorem dL_law_211 : decode cL_law 211 = .ok (.laload, 1) := by decide +kernel
theorem dL_law_212 : decode cL_law 212 = .ok (.iload 6, 2) := by decide +kernel
theorem dL_law_214 : decode cL_law 214 = .ok (.i2l, 1) := by decide +kernel
theorem dL_law_215 : decode cL_law 215 = .ok (.lcmp, 1) := by decide +kernel
theorem dL_law_216 : decode cL_law 216 = .ok (.ifCond .eq 5, 3) := by decide +kernel
theorem dL_law_219 : decode cL_law 219 = .ok (.iconst 0, 1) := by decide +kernel
theorem dL_law_220 : decode cL_law 220 = .ok (.ireturn, 1) := by decide +kernel
theorem dL_law_221 : decode cL_law 221 = .ok (.goto 948, 3) := by decide +kernel
theorem dL_law_224 : decode cL_law 224 = .ok (.aload_n 1, 1) := by decide +kernel
theorem dL_law_225 : decode cL_law 225 = .ok (.aload_n 0, 1) := by decide +kernel
theorem dL_law_226 : decode cL_law 226 = .ok (.iload 4, 2) := by decide +kernel
theorem dL_law_228 : decode cL_law 228 = .ok (.iconst 1, 1) := by decide +kernel
theorem dL_law_229 : decode cL_law 229 = .ok (.iadd, 1) := by decide +kernel
theorem dL_law_230 : decode cL_law 230 = .ok (.iaload, 1) := by decide +kernel
theorem dL_law_231 : decode cL_law 231 = .ok (.aload_n 0, 1) := by decide +kernel
theorem dL_law_232 : decode cL_law 232 = .ok (.iload 4, 2) := by decide +kernel
theorem dL_law_234 : decode cL_law 234 = .ok (.iconst 2, 1) := by decide +kernel
theorem dL_law_235 : decode cL_law 235 = .ok (.iadd, 1) := by decide +kernel
theorem dL_law_236 : decode cL_law 236 = .ok (.iaload, 1) := by decide +kernel
theorem dL_law_237 : decode cL_law 237 = .ok (.aload_n 0, 1) := by decide +kernel
theorem dL_law_238 : decode cL_law 238 = .ok (.iload 4, 2) := by decide +kernel
theorem dL_law_240 : decode cL_law 240 = .ok (.iconst 3, 1) := by decide +kernel
theorem dL_law_241 : decode cL_law 241 = .ok (.iadd, 1) := by decide +kernel
theorem dL_law_242 : decode cL_law 242 = .ok (.iaload, 1) := by decide +kernel
theorem dL_law_243 : decode cL_law 243 = .ok (.aload_n 0, 1) := by decide +kernel
theorem dL_law_244 : decode cL_law 244 = .ok (.iload 4, 2) := by decide +kernel
theorem dL_law_246 : decode cL_law 246 = .ok (.iconst 4, 1) := by decide +kernel
theorem dL_law_247 : decode cL_law 247 = .ok (.iadd, 1) := by decide +kernel
theorem dL_law_248 : decode cL_law 248 = .ok (.iaload, 1) := by decide +kernel
theorem dL_law_249 : decode cL_law 249 = .ok (.ifCond .eq 7, 3) := by decide +kernel
theorem dL_law_252 : decode cL_law 252 = .ok (.iconst 1, 1) := by decide +kernel
theorem dL_law_253 : decode cL_law 253 = .ok (.goto 4, 3) := by decide +kernel
theorem dL_law_256 : decode cL_law 256 = .ok (.iconst 0, 1) := by decide +kernel
theorem dL_law_257 : decode cL_law 257 = .ok (.aload_n 3, 1) := by decide +kernel
theorem dL_law_258 : decode cL_law 258 = .ok (.invokestatic 96, 3) := by decide +kernel
theorem dL_law_261 : decode cL_law 261 = .ok (.istore 5, 2) := by decide +kernel
theorem dL_law_263 : decode cL_law 263 = .ok (.aload_n 2, 1) := by decide +kernel
theorem dL_law_264 : decode cL_law 264 = .ok (.aload_n 0, 1) := by decide +kernel
theorem dL_law_265 : decode cL_law 265 = .ok (.iload 4, 2) := by decide +kernel
theorem dL_law_267 : decode cL_law 267 = .ok (.iconst 1, 1) := by decide +kernel
theorem dL_law_268 : decode cL_law 268 = .ok (.iadd, 1) := by decide +kernel
theorem dL_law_269 : decode cL_law 269 = .ok (.iaload, 1) := by decide +kernel
theorem dL_law_270 : decode cL_law 270 = .ok (.aload_n 0, 1) := by decide +kernel
theorem dL_law_271 : decode cL_law 271 = .ok (.iload 4, 2) := by decide +kernel
theorem dL_law_273 : decode cL_law 273 = .ok (.iconst 2, 1) := by decide +kernel
theorem dL_law_274 : decode cL_law 274 = .ok (.iadd, 1) := by decide +kernel
theorem dL_law_275 : decode cL_law 275 = .ok (.iaload, 1) := by decide +kernel
theorem dL_law_276 : decode cL_law 276 = .ok (.aload_n 0, 1) := by decide +kernel
theorem dL_law_277 : decode cL_law 277 = .ok (.iload 4, 2) := by decide +kernel
theorem dL_law_279 : decode cL_law 279 = .ok (.iconst 3, 1) := by decide +kernel
theorem dL_law_280 : decode cL_law 280 = .ok (.iadd, 1) := by decide +kernel
theorem dL_law_281 : decode cL_law 281 = .ok (.iaload, 1) := by decide +kernel
theorem dL_law_282 : decode cL_law 282 = .ok (.aload_n 0, 1) := by decide +kernel
theorem dL_law_283 : decode cL_law 283 = .ok (.iload 4, 2) := by decide +kernel
theorem dL_law_285 : decode cL_law 285 = .ok (.iconst 4, 1) := by decide +kernel
theorem dL_law_286 : decode cL_law 286 = .ok (.iadd, 1) := by decide +kernel
theorem dL_law_287 : decode cL_law 287 = .ok (.iaload, 1) := by decide +kernel
theorem dL_law_288 : decode cL_law 288 = .ok (.ifCond .eq 7, 3) := by decide +kernel
theorem dL_law_291 : decode cL_law 291 = .ok (.iconst 1, 1) := by decide +kernel
theorem dL_law_292 : decode cL_law 292 = .ok (.goto 4, 3) := by decide +kernel
theorem dL_law_295 : decode cL_law 295 = .ok (.iconst 0, 1) := by decide +kernel
theorem dL_law_296 : decode cL_law 296 = .ok (.invokevirtual 99, 3) := by decide +kernel
theorem dL_law_299 : decode cL_law 299 = .ok (.istore 6, 2) := by decide +kernel
theorem dL_law_301 : decode cL_law 301 = .ok (.aload_n 2, 1) := by decide +kernel
theorem dL_law_302 : decode cL_law 302 = .ok (.invokevirtual 89, 3) := by decide +kernel
theorem dL_law_305 : decode cL_law 305 = .ok (.iload 5, 2) := by decide +kernel
theorem dL_law_307 : decode cL_law 307 = .ok (.if_icmp .eq 5, 3) := by decide +kernel
theorem dL_law_310 : decode cL_law 310 = .ok (.iconst 0, 1) := by decide +kernel
theorem dL_law_311 : decode cL_law 311 = .ok (.ireturn, 1) := by decide +kernel
theorem dL_law_312 : decode cL_law 312 = .ok (.iload 5, 2) := by decide +kernel
theorem dL_law_314 : decode cL_law 314 = .ok (.ifCond .ne 15, 3) := by decide +kernel
theorem dL_law_317 : decode cL_law 317 = .ok (.aload_n 3, 1) := by decide +kernel
theorem dL_law_318 : decode cL_law 318 = .ok (.iconst 0, 1) := by decide +kernel
theorem dL_law_319 : decode cL_law 319 = .ok (.laload, 1) := by decide +kernel
theorem dL_law_320 : decode cL_law 320 = .ok (.iload 6, 2) := by decide +kernel
theorem dL_law_322 : decode cL_law 322 = .ok (.i2l, 1) := by decide +kernel
theorem dL_law_323 : decode cL_law 323 = .ok (.lcmp, 1) := by decide +kernel
theorem dL_law_324 : decode cL_law 324 = .ok (.ifCond .eq 5, 3) := by decide +kernel
theorem dL_law_327 : decode cL_law 327 = .ok (.iconst 0, 1) := by decide +kernel
theorem dL_law_328 : decode cL_law 328 = .ok (.ireturn, 1) := by decide +kernel
theorem dL_law_329 : decode cL_law 329 = .ok (.goto 840, 3) := by decide +kernel
theorem dL_law_332 : decode cL_law 332 = .ok (.aload_n 1, 1) := by decide +kernel
theorem dL_law_333 : decode cL_law 333 = .ok (.aload_n 0, 1) := by decide +kernel
theorem dL_law_334 : decode cL_law 334 = .ok (.iload 4, 2) := by decide +kernel
theorem dL_law_336 : decode cL_law 336 = .ok (.iconst 1, 1) := by decide +kernel
theorem dL_law_337 : decode cL_law 337 = .ok (.iadd, 1) := by decide +kernel
theorem dL_law_338 : decode cL_law 338 = .ok (.iaload, 1) := by decide +kernel
theorem dL_law_339 : decode cL_law 339 = .ok (.aload_n 0, 1) := by decide +kernel
theorem dL_law_340 : decode cL_law 340 = .ok (.iload 4, 2) := by decide +kernel
theorem dL_law_342 : decode cL_law 342 = .ok (.iconst 2, 1) := by decide +kernel
theorem dL_law_343 : decode cL_law 343 = .ok (.iadd, 1) := by decide +kernel
theorem dL_law_344 : decode cL_law 344 = .ok (.iaload, 1) := by decide +kernel
theorem dL_law_345 : decode cL_law 345 = .ok (.invokestatic 100, 3) := by decide +kernel
theorem dL_law_348 : decode cL_law 348 = .ok (.istore 5, 2) := by decide +kernel
theorem dL_law_350 : decode cL_law 350 = .ok (.aload_n 2, 1) := by decide +kernel
theorem dL_law_351 : decode cL_law 351 = .ok (.aload_n 0, 1) := by decide +kernel
theorem dL_law_352 : decode cL_law 352 = .ok (.iload 4, 2) := by decide +kernel
theorem dL_law_354 : decode cL_law 354 = .ok (.iconst 1, 1) := by decide +kernel
theorem dL_law_355 : decode cL_law 355 = .ok (.iadd, 1) := by decide +kernel
theorem dL_law_356 : decode cL_law 356 = .ok (.iaload, 1) := by decide +kernel
theorem dL_law_357 : decode cL_law 357 = .ok (.aload_n 0, 1) := by decide +kernel
theorem dL_law_358 : decode cL_law 358 = .ok (.iload 4, 2) := by decide +kernel
theorem dL_law_360 : decode cL_law 360 = .ok (.iconst 2, 1) := by decide +kernel
theorem dL_law_361 : decode cL_law 361 = .ok (.iadd, 1) := by decide +kernel
theorem dL_law_362 : decode cL_law 362 = .ok (.iaload, 1) := by decide +kernel
theorem dL_law_363 : decode cL_law 363 = .ok (.invokevirtual 103, 3) := by decide +kernel
theorem dL_law_366 : decode cL_law 366 = .ok (.aload_n 2, 1) := by decide +kernel
theorem dL_law_367 : decode cL_law 367 = .ok (.invokevirtual 89, 3) := by decide +kernel
theorem dL_law_370 : decode cL_law 370 = .ok (.iload 5, 2) := by decide +kernel
theorem dL_law_372 : decode cL_law 372 = .ok (.if_icmp .eq 5, 3) := by decide +kernel
theorem dL_law_375 : decode cL_law 375 = .ok (.iconst 0, 1) := by decide +kernel
theorem dL_law_376 : decode cL_law 376 = .ok (.ireturn, 1) := by decide +kernel
theorem dL_law_377 : decode cL_law 377 = .ok (.goto 792, 3) := by decide +kernel
theorem dL_law_380 : decode cL_law 380 = .ok (.aload_n 1, 1) := by decide +kernel
theorem dL_law_381 : decode cL_law 381 = .ok (.aload_n 3, 1) := by decide +kernel
theorem dL_law_382 : decode cL_law 382 = .ok (.invokestatic 104, 3) := by decide +kernel
theorem dL_law_385 : decode cL_law 385 = .ok (.istore 5, 2) := by decide +kernel
theorem dL_law_387 : decode cL_law 387 = .ok (.aload_n 2, 1) := by decide +kernel
theorem dL_law_388 : decode cL_law 388 = .ok (.invokevirtual 106, 3) := by decide +kernel
theorem dL_law_391 : decode cL_law 391 = .ok (.istore 6, 2) := by decide +kernel
theorem dL_law_393 : decode cL_law 393 = .ok (.aload_n 2, 1) := by decide +kernel
theorem dL_law_394 : decode cL_law 394 = .ok (.invokevirtual 89, 3) := by decide +kernel
theorem dL_law_397 : decode cL_law 397 = .ok (.iload 5, 2) := by decide +kernel
theorem dL_law_399 : decode cL_law 399 = .ok (.if_icmp .eq 5, 3) := by decide +kernel
theorem dL_law_402 : decode cL_law 402 = .ok (.iconst 0, 1) := by decide +kernel
theorem dL_law_403 : decode cL_law 403 = .ok (.ireturn, 1) := by decide +kernel
theorem dL_law_404 : decode cL_law 404 = .ok (.iload 5, 2) := by decide +kernel
theorem dL_law_406 : decode cL_law 406 = .ok (.ifCond .ne 15, 3) := by decide +kernel
theorem dL_law_409 : decode cL_law 409 = .ok (.aload_n 3, 1) := by decide +kernel
theorem dL_law_410 : decode cL_law 410 = .ok (.iconst 0, 1) := by decide +kernel
theorem dL_law_411 : decode cL_law 411 = .ok (.laload, 1) := by decide +kernel
theorem dL_law_412 : decode cL_law 412 = .ok (.iload 6, 2) := by decide +kernel
theorem dL_law_414 : decode cL_law 414 = .ok (.i2l, 1) := by decide +kernel
theorem dL_law_415 : decode cL_law 415 = .ok (.lcmp, 1) := by decide +kernel
theorem dL_law_416 : decode cL_law 416 = .ok (.ifCond .eq 5, 3) := by decide +kernel
theorem dL_law_419 : decode cL_law 419 = .ok (.iconst 0, 1) := by decide +kernel
theorem dL_law_420 : decode cL_law 420 = .ok (.ireturn, 1) := by decide +kernel
theorem dL_law_421 : decode cL_law 421 = .ok (.goto 748, 3) := by decide +kernel
theorem dL_law_424 : decode cL_law 424 = .ok (.aload_n 1, 1) := by decide +kernel
theorem dL_law_425 : decode cL_law 425 = .ok (.aload_n 0, 1) := by decide +kernel
theorem dL_law_426 : decode cL_law 426 = .ok (.iload 4, 2) := by decide +kernel
theorem dL_law_428 : decode cL_law 428 = .ok (.iconst 1, 1) := by decide +kernel
theorem dL_law_429 : decode cL_law 429 = .ok (.iadd, 1) := by decide +kernel
theorem dL_law_430 : decode cL_law 430 = .ok (.iaload, 1) := by decide +kernel
theorem dL_law_431 : decode cL_law 431 = .ok (.aload_n 0, 1) := by decide +kernel
theorem dL_law_432 : decode cL_law 432 = .ok (.iload 4, 2) := by decide +kernel
theorem dL_law_434 : decode cL_law 434 = .ok (.iconst 2, 1) := by decide +kernel
theorem dL_law_435 : decode cL_law 435 = .ok (.iadd, 1) := by decide +kernel
theorem dL_law_436 : decode cL_law 436 = .ok (.iaload, 1) := by decide +kernel
theorem dL_law_437 : decode cL_law 437 = .ok (.aload_n 3, 1) := by decide +kernel
theorem dL_law_438 : decode cL_law 438 = .ok (.invokestatic 107, 3) := by decide +kernel
theorem dL_law_441 : decode cL_law 441 = .ok (.istore 5, 2) := by decide +kernel
theorem dL_law_443 : decode cL_law 443 = .ok (.aload_n 2, 1) := by decide +kernel
theorem dL_law_444 : decode cL_law 444 = .ok (.aload_n 0, 1) := by decide +kernel
theorem dL_law_445 : decode cL_law 445 = .ok (.iload 4, 2) := by decide +kernel
theorem dL_law_447 : decode cL_law 447 = .ok (.iconst 1, 1) := by decide +kernel
theorem dL_law_448 : decode cL_law 448 = .ok (.iadd, 1) := by decide +kernel
theorem dL_law_449 : decode cL_law 449 = .ok (.iaload, 1) := by decide +kernel
theorem dL_law_450 : decode cL_law 450 = .ok (.aload_n 0, 1) := by decide +kernel
theorem dL_law_451 : decode cL_law 451 = .ok (.iload 4, 2) := by decide +kernel
theorem dL_law_453 : decode cL_law 453 = .ok (.iconst 2, 1) := by decide +kernel
theorem dL_law_454 : decode cL_law 454 = .ok (.iadd, 1) := by decide +kernel
theorem dL_law_455 : decode cL_law 455 = .ok (.iaload, 1) := by decide +kernel
theorem dL_law_456 : decode cL_law 456 = .ok (.invokevirtual 110, 3) := by decide +kernel
theorem dL_law_459 : decode cL_law 459 = .ok (.istore 6, 2) := by decide +kernel
theorem dL_law_461 : decode cL_law 461 = .ok (.aload_n 2, 1) := by decide +kernel
theorem dL_law_462 : decode cL_law 462 = .ok (.invokevirtual 89, 3) := by decide +kernel
theorem dL_law_465 : decode cL_law 465 = .ok (.iload 5, 2) := by decide +kernel
theorem dL_law_467 : decode cL_law 467 = .ok (.if_icmp .eq 5, 3) := by decide +kernel
theorem dL_law_470 : decode cL_law 470 = .ok (.iconst 0, 1) := by decide +kernel
theorem dL_law_471 : decode cL_law 471 = .ok (.ireturn, 1) := by decide +kernel
theorem dL_law_472 : decode cL_law 472 = .ok (.iload 5, 2) := by decide +kernel
theorem dL_law_474 : decode cL_law 474 = .ok (.ifCond .ne 15, 3) := by decide +kernel
theorem dL_law_477 : decode cL_law 477 = .ok (.aload_n 3, 1) := by decide +kernel
theorem dL_law_478 : decode cL_law 478 = .ok (.iconst 0, 1) := by decide +kernel
theorem dL_law_479 : decode cL_law 479 = .ok (.laload, 1) := by decide +kernel
theorem dL_law_480 : decode cL_law 480 = .ok (.iload 6, 2) := by decide +kernel
theorem dL_law_482 : decode cL_law 482 = .ok (.i2l, 1) := by decide +kernel
theorem dL_law_483 : decode cL_law 483 = .ok (.lcmp, 1) := by decide +kernel
theorem dL_law_484 : decode cL_law 484 = .ok (.ifCond .eq 5, 3) := by decide +kernel
theorem dL_law_487 : decode cL_law 487 = .ok (.iconst 0, 1) := by decide +kernel
theorem dL_law_488 : decode cL_law 488 = .ok (.ireturn, 1) := by decide +kernel
theorem dL_law_489 : decode cL_law 489 = .ok (.goto 680, 3) := by decide +kernel
theorem dL_law_492 : decode cL_law 492 = .ok (.aload_n 1, 1) := by decide +kernel
theorem dL_law_493 : decode cL_law 493 = .ok (.aload_n 0, 1) := by decide +kernel
theorem dL_law_494 : decode cL_law 494 = .ok (.iload 4, 2) := by decide +kernel
theorem dL_law_496 : decode cL_law 496 = .ok (.iconst 1, 1) := by decide +kernel
theorem dL_law_497 : decode cL_law 497 = .ok (.iadd, 1) := by decide +kernel
theorem dL_law_498 : decode cL_law 498 = .ok (.iaload, 1) := by decide +kernel
theorem dL_law_499 : decode cL_law 499 = .ok (.aload_n 0, 1) := by decide +kernel
theorem dL_law_500 : decode cL_law 500 = .ok (.iload 4, 2) := by decide +kernel
theorem dL_law_502 : decode cL_law 502 = .ok (.iconst 2, 1) := by decide +kernel
theorem dL_law_503 : decode cL_law 503 = .ok (.iadd, 1) := by decide +kernel
theorem dL_law_504 : decode cL_law 504 = .ok (.iaload, 1) := by decide +kernel
theorem dL_law_505 : decode cL_law 505 = .ok (.aload_n 3, 1) := by decide +kernel
theorem dL_law_506 : decode cL_law 506 = .ok (.invokestatic 111, 3) := by decide +kernel
theorem dL_law_509 : decode cL_law 509 = .ok (.istore 5, 2) := by decide +kernel
theorem dL_law_511 : decode cL_law 511 = .ok (.aload_n 2, 1) := by decide +kernel
theorem dL_law_512 : decode cL_law 512 = .ok (.aload_n 0, 1) := by decide +kernel
theorem dL_law_513 : decode cL_law 513 = .ok (.iload 4, 2) := by decide +kernel
theorem dL_law_515 : decode cL_law 515 = .ok (.iconst 1, 1) := by decide +kernel
theorem dL_law_516 : decode cL_law 516 = .ok (.iadd, 1) := by decide +kernel
theorem dL_law_517 : decode cL_law 517 = .ok (.iaload, 1) := by decide +kernel
theorem dL_law_518 : decode cL_law 518 = .ok (.aload_n 0, 1) := by decide +kernel
theorem dL_law_519 : decode cL_law 519 = .ok (.iload 4, 2) := by decide +kernel
theorem dL_law_521 : decode cL_law 521 = .ok (.iconst 2, 1) := by decide +kernel
theorem dL_law_522 : decode cL_law 522 = .ok (.iadd, 1) := by decide +kernel
theorem dL_law_523 : decode cL_law 523 = .ok (.iaload, 1) := by decide +kernel
theorem dL_law_524 : decode cL_law 524 = .ok (.invokevirtual 113, 3) := by decide +kernel
theorem dL_law_527 : decode cL_law 527 = .ok (.istore 6, 2) := by decide +kernel
theorem dL_law_529 : decode cL_law 529 = .ok (.aload_n 2, 1) := by decide +kernel
theorem dL_law_530 : decode cL_law 530 = .ok (.invokevirtual 89, 3) := by decide +kernel
theorem dL_law_533 : decode cL_law 533 = .ok (.iload 5, 2) := by decide +kernel
theorem dL_law_535 : decode cL_law 535 = .ok (.if_icmp .eq 5, 3) := by decide +kernel
theorem dL_law_538 : decode cL_law 538 = .ok (.iconst 0, 1) := by decide +kernel
theorem dL_law_539 : decode cL_law 539 = .ok (.ireturn, 1) := by decide +kernel
theorem dL_law_540 : decode cL_law 540 = .ok (.iload 5, 2) := by decide +kernel
theorem dL_law_542 : decode cL_law 542 = .ok (.ifCond .ne 15, 3) := by decide +kernel
theorem dL_law_545 : decode cL_law 545 = .ok (.aload_n 3, 1) := by decide +kernel
theorem dL_law_546 : decode cL_law 546 = .ok (.iconst 0, 1) := by decide +kernel
theorem dL_law_547 : decode cL_law 547 = .ok (.laload, 1) := by decide +kernel
theorem dL_law_548 : decode cL_law 548 = .ok (.iload 6, 2) := by decide +kernel
theorem dL_law_550 : decode cL_law 550 = .ok (.i2l, 1) := by decide +kernel
theorem dL_law_551 : decode cL_law 551 = .ok (.lcmp, 1) := by decide +kernel
theorem dL_law_552 : decode cL_law 552 = .ok (.ifCond .eq 5, 3) := by decide +kernel
theorem dL_law_555 : decode cL_law 555 = .ok (.iconst 0, 1) := by decide +kernel
theorem dL_law_556 : decode cL_law 556 = .ok (.ireturn, 1) := by decide +kernel
theorem dL_law_557 : decode cL_law 557 = .ok (.goto 612, 3) := by decide +kernel
theorem dL_law_560 : decode cL_law 560 = .ok (.aload_n 1, 1) := by decide +kernel
theorem dL_law_561 : decode cL_law 561 = .ok (.aload_n 0, 1) := by decide +kernel
theorem dL_law_562 : decode cL_law 562 = .ok (.iload 4, 2) := by decide +kernel
theorem dL_law_564 : decode cL_law 564 = .ok (.iconst 1, 1) := by decide +kernel
theorem dL_law_565 : decode cL_law 565 = .ok (.iadd, 1) := by decide +kernel
theorem dL_law_566 : decode cL_law 566 = .ok (.iaload, 1) := by decide +kernel
theorem dL_law_567 : decode cL_law 567 = .ok (.aload_n 3, 1) := by decide +kernel
theorem dL_law_568 : decode cL_law 568 = .ok (.invokestatic 114, 3) := by decide +kernel
theorem dL_law_571 : decode cL_law 571 = .ok (.istore 5, 2) := by decide +kernel
theorem dL_law_573 : decode cL_law 573 = .ok (.aload_n 2, 1) := by decide +kernel
theorem dL_law_574 : decode cL_law 574 = .ok (.aload_n 0, 1) := by decide +kernel
theorem dL_law_575 : decode cL_law 575 = .ok (.iload 4, 2) := by decide +kernel
theorem dL_law_577 : decode cL_law 577 = .ok (.iconst 1, 1) := by decide +kernel
theorem dL_law_578 : decode cL_law 578 = .ok (.iadd, 1) := by decide +kernel
theorem dL_law_579 : decode cL_law 579 = .ok (.iaload, 1) := by decide +kernel
theorem dL_law_580 : decode cL_law 580 = .ok (.invokevirtual 116, 3) := by decide +kernel
theorem dL_law_583 : decode cL_law 583 = .ok (.istore 6, 2) := by decide +kernel
theorem dL_law_585 : decode cL_law 585 = .ok (.aload_n 2, 1) := by decide +kernel
theorem dL_law_586 : decode cL_law 586 = .ok (.invokevirtual 89, 3) := by decide +kernel
theorem dL_law_589 : decode cL_law 589 = .ok (.iload 5, 2) := by decide +kernel
theorem dL_law_591 : decode cL_law 591 = .ok (.if_icmp .eq 5, 3) := by decide +kernel
theorem dL_law_594 : decode cL_law 594 = .ok (.iconst 0, 1) := by decide +kernel
theorem dL_law_595 : decode cL_law 595 = .ok (.ireturn, 1) := by decide +kernel
theorem dL_law_596 : decode cL_law 596 = .ok (.iload 5, 2) := by decide +kernel
theorem dL_law_598 : decode cL_law 598 = .ok (.ifCond .ne 15, 3) := by decide +kernel
theorem dL_law_601 : decode cL_law 601 = .ok (.aload_n 3, 1) := by decide +kernel
theorem dL_law_602 : decode cL_law 602 = .ok (.iconst 0, 1) := by decide +kernel
theorem dL_law_603 : decode cL_law 603 = .ok (.laload, 1) := by decide +kernel
theorem dL_law_604 : decode cL_law 604 = .ok (.iload 6, 2) := by decide +kernel
theorem dL_law_606 : decode cL_law 606 = .ok (.i2l, 1) := by decide +kernel
theorem dL_law_607 : decode cL_law 607 = .ok (.lcmp, 1) := by decide +kernel
theorem dL_law_608 : decode cL_law 608 = .ok (.ifCond .eq 5, 3) := by decide +kernel
theorem dL_law_611 : decode cL_law 611 = .ok (.iconst 0, 1) := by decide +kernel
theorem dL_law_612 : decode cL_law 612 = .ok (.ireturn, 1) := by decide +kernel
theorem dL_law_613 : decode cL_law 613 = .ok (.goto 556, 3) := by decide +kernel
theorem dL_law_616 : decode cL_law 616 = .ok (.aload_n 1, 1) := by decide +kernel
theorem dL_law_617 : decode cL_law 617 = .ok (.aload_n 0, 1) := by decide +kernel
theorem dL_law_618 : decode cL_law 618 = .ok (.iload 4, 2) := by decide +kernel
theorem dL_law_620 : decode cL_law 620 = .ok (.iconst 1, 1) := by decide +kernel
theorem dL_law_621 : decode cL_law 621 = .ok (.iadd, 1) := by decide +kernel
theorem dL_law_622 : decode cL_law 622 = .ok (.iaload, 1) := by decide +kernel
theorem dL_law_623 : decode cL_law 623 = .ok (.aload_n 0, 1) := by decide +kernel
theorem dL_law_624 : decode cL_law 624 = .ok (.iload 4, 2) := by decide +kernel
theorem dL_law_626 : decode cL_law 626 = .ok (.iconst 2, 1) := by decide +kernel
theorem dL_law_627 : decode cL_law 627 = .ok (.iadd, 1) := by decide +kernel
theorem dL_law_628 : decode cL_law 628 = .ok (.iaload, 1) := by decide +kernel
theorem dL_law_629 : decode cL_law 629 = .ok (.invokestatic 117, 3) := by decide +kernel
theorem dL_law_632 : decode cL_law 632 = .ok (.istore 5, 2) := by decide +kernel
theorem dL_law_634 : decode cL_law 634 = .ok (.aload_n 2, 1) := by decide +kernel
theorem dL_law_635 : decode cL_law 635 = .ok (.aload_n 0, 1) := by decide +kernel
theorem dL_law_636 : decode cL_law 636 = .ok (.iload 4, 2) := by decide +kernel
theorem dL_law_638 : decode cL_law 638 = .ok (.iconst 1, 1) := by decide +kernel
theorem dL_law_639 : decode cL_law 639 = .ok (.iadd, 1) := by decide +kernel
theorem dL_law_640 : decode cL_law 640 = .ok (.iaload, 1) := by decide +kernel
theorem dL_law_641 : decode cL_law 641 = .ok (.aload_n 0, 1) := by decide +kernel
theorem dL_law_642 : decode cL_law 642 = .ok (.iload 4, 2) := by decide +kernel
theorem dL_law_644 : decode cL_law 644 = .ok (.iconst 2, 1) := by decide +kernel
theorem dL_law_645 : decode cL_law 645 = .ok (.iadd, 1) := by decide +kernel
theorem dL_law_646 : decode cL_law 646 = .ok (.iaload, 1) := by decide +kernel
theorem dL_law_647 : decode cL_law 647 = .ok (.invokevirtual 119, 3) := by decide +kernel
theorem dL_law_650 : decode cL_law 650 = .ok (.aload_n 2, 1) := by decide +kernel
theorem dL_law_651 : decode cL_law 651 = .ok (.invokevirtual 89, 3) := by decide +kernel
theorem dL_law_654 : decode cL_law 654 = .ok (.iload 5, 2) := by decide +kernel
theorem dL_law_656 : decode cL_law 656 = .ok (.if_icmp .eq 5, 3) := by decide +kernel
theorem dL_law_659 : decode cL_law 659 = .ok (.iconst 0, 1) := by decide +kernel
theorem dL_law_660 : decode cL_law 660 = .ok (.ireturn, 1) := by decide +kernel
theorem dL_law_661 : decode cL_law 661 = .ok (.goto 508, 3) := by decide +kernel
theorem dL_law_664 : decode cL_law 664 = .ok (.aload_n 1, 1) := by decide +kernel
theorem dL_law_665 : decode cL_law 665 = .ok (.aload_n 3, 1) := by decide +kernel
theorem dL_law_666 : decode cL_law 666 = .ok (.invokestatic 120, 3) := by decide +kernel
theorem dL_law_669 : decode cL_law 669 = .ok (.istore 5, 2) := by decide +kernel
theorem dL_law_671 : decode cL_law 671 = .ok (.aload_n 2, 1) := by decide +kernel
theorem dL_law_672 : decode cL_law 672 = .ok (.invokevirtual 122, 3) := by decide +kernel
theorem dL_law_675 : decode cL_law 675 = .ok (.istore 6, 2) := by decide +kernel
theorem dL_law_677 : decode cL_law 677 = .ok (.aload_n 2, 1) := by decide +kernel
theorem dL_law_678 : decode cL_law 678 = .ok (.invokevirtual 89, 3) := by decide +kernel
theorem dL_law_681 : decode cL_law 681 = .ok (.iload 5, 2) := by decide +kernel
theorem dL_law_683 : decode cL_law 683 = .ok (.if_icmp .eq 5, 3) := by decide +kernel
theorem dL_law_686 : decode cL_law 686 = .ok (.iconst 0, 1) := by decide +kernel
theorem dL_law_687 : decode cL_law 687 = .ok (.ireturn, 1) := by decide +kernel
theorem dL_law_688 : decode cL_law 688 = .ok (.iload 5, 2) := by decide +kernel
theorem dL_law_690 : decode cL_law 690 = .ok (.ifCond .ne 22, 3) := by decide +kernel
theorem dL_law_693 : decode cL_law 693 = .ok (.aload_n 3, 1) := by decide +kernel
theorem dL_law_694 : decode cL_law 694 = .ok (.iconst 0, 1) := by decide +kernel
theorem dL_law_695 : decode cL_law 695 = .ok (.laload, 1) := by decide +kernel
theorem dL_law_696 : decode cL_law 696 = .ok (.iload 6, 2) := by decide +kernel
theorem dL_law_698 : decode cL_law 698 = .ok (.ifCond .eq 7, 3) := by decide +kernel
theorem dL_law_701 : decode cL_law 701 = .ok (.lconst 1, 1) := by decide +kernel
theorem dL_law_702 : decode cL_law 702 = .ok (.goto 4, 3) := by decide +kernel
theorem dL_law_705 : decode cL_law 705 = .ok (.lconst 0, 1) := by decide +kernel
theorem dL_law_706 : decode cL_law 706 = .ok (.lcmp, 1) := by decide +kernel
theorem dL_law_707 : decode cL_law 707 = .ok (.ifCond .eq 5, 3) := by decide +kernel
theorem dL_law_710 : decode cL_law 710 = .ok (.iconst 0, 1) := by decide +kernel
theorem dL_law_711 : decode cL_law 711 = .ok (.ireturn, 1) := by decide +kernel
theorem dL_law_712 : decode cL_law 712 = .ok (.goto 457, 3) := by decide +kernel
theorem dL_law_715 : decode cL_law 715 = .ok (.aload_n 1, 1) := by decide +kernel
theorem dL_law_716 : decode cL_law 716 = .ok (.aload_n 0, 1) := by decide +kernel
theorem dL_law_717 : decode cL_law 717 = .ok (.iload 4, 2) := by decide +kernel
theorem dL_law_719 : decode cL_law 719 = .ok (.iconst 1, 1) := by decide +kernel
theorem dL_law_720 : decode cL_law 720 = .ok (.iadd, 1) := by decide +kernel
theorem dL_law_721 : decode cL_law 721 = .ok (.iaload, 1) := by decide +kernel
theorem dL_law_722 : decode cL_law 722 = .ok (.aload_n 3, 1) := by decide +kernel
theorem dL_law_723 : decode cL_law 723 = .ok (.invokestatic 123, 3) := by decide +kernel
theorem dL_law_726 : decode cL_law 726 = .ok (.istore 5, 2) := by decide +kernel
theorem dL_law_728 : decode cL_law 728 = .ok (.aload_n 2, 1) := by decide +kernel
theorem dL_law_729 : decode cL_law 729 = .ok (.aload_n 0, 1) := by decide +kernel
theorem dL_law_730 : decode cL_law 730 = .ok (.iload 4, 2) := by decide +kernel
theorem dL_law_732 : decode cL_law 732 = .ok (.iconst 1, 1) := by decide +kernel
theorem dL_law_733 : decode cL_law 733 = .ok (.iadd, 1) := by decide +kernel
theorem dL_law_734 : decode cL_law 734 = .ok (.iaload, 1) := by decide +kernel
theorem dL_law_735 : decode cL_law 735 = .ok (.invokevirtual 125, 3) := by decide +kernel
theorem dL_law_738 : decode cL_law 738 = .ok (.istore 6, 2) := by decide +kernel
theorem dL_law_740 : decode cL_law 740 = .ok (.aload_n 2, 1) := by decide +kernel
theorem dL_law_741 : decode cL_law 741 = .ok (.invokevirtual 89, 3) := by decide +kernel
theorem dL_law_744 : decode cL_law 744 = .ok (.iload 5, 2) := by decide +kernel
theorem dL_law_746 : decode cL_law 746 = .ok (.if_icmp .eq 5, 3) := by decide +kernel
theorem dL_law_749 : decode cL_law 749 = .ok (.iconst 0, 1) := by decide +kernel
theorem dL_law_750 : decode cL_law 750 = .ok (.ireturn, 1) := by decide +kernel
theorem dL_law_751 : decode cL_law 751 = .ok (.iload 5, 2) := by decide +kernel
theorem dL_law_753 : decode cL_law 753 = .ok (.ifCond .ne 22, 3) := by decide +kernel
theorem dL_law_756 : decode cL_law 756 = .ok (.aload_n 3, 1) := by decide +kernel
theorem dL_law_757 : decode cL_law 757 = .ok (.iconst 0, 1) := by decide +kernel
theorem dL_law_758 : decode cL_law 758 = .ok (.laload, 1) := by decide +kernel
theorem dL_law_759 : decode cL_law 759 = .ok (.iload 6, 2) := by decide +kernel
theorem dL_law_761 : decode cL_law 761 = .ok (.ifCond .eq 7, 3) := by decide +kernel
theorem dL_law_764 : decode cL_law 764 = .ok (.lconst 1, 1) := by decide +kernel
theorem dL_law_765 : decode cL_law 765 = .ok (.goto 4, 3) := by decide +kernel
theorem dL_law_768 : decode cL_law 768 = .ok (.lconst 0, 1) := by decide +kernel
theorem dL_law_769 : decode cL_law 769 = .ok (.lcmp, 1) := by decide +kernel
theorem dL_law_770 : decode cL_law 770 = .ok (.ifCond .eq 5, 3) := by decide +kernel
theorem dL_law_773 : decode cL_law 773 = .ok (.iconst 0, 1) := by decide +kernel
theorem dL_law_774 : decode cL_law 774 = .ok (.ireturn, 1) := by decide +kernel
theorem dL_law_775 : decode cL_law 775 = .ok (.goto 394, 3) := by decide +kernel
theorem dL_law_778 : decode cL_law 778 = .ok (.aload_n 1, 1) := by decide +kernel
theorem dL_law_779 : decode cL_law 779 = .ok (.aload_n 0, 1) := by decide +kernel
theorem dL_law_780 : decode cL_law 780 = .ok (.iload 4, 2) := by decide +kernel
theorem dL_law_782 : decode cL_law 782 = .ok (.iconst 1, 1) := by decide +kernel
theorem dL_law_783 : decode cL_law 783 = .ok (.iadd, 1) := by decide +kernel
theorem dL_law_784 : decode cL_law 784 = .ok (.iaload, 1) := by decide +kernel
theorem dL_law_785 : decode cL_law 785 = .ok (.aload_n 3, 1) := by decide +kernel
theorem dL_law_786 : decode cL_law 786 = .ok (.invokestatic 126, 3) := by decide +kernel
theorem dL_law_789 : decode cL_law 789 = .ok (.istore 5, 2) := by decide +kernel
theorem dL_law_791 : decode cL_law 791 = .ok (.aload_n 2, 1) := by decide +kernel
theorem dL_law_792 : decode cL_law 792 = .ok (.aload_n 0, 1) := by decide +kernel
theorem dL_law_793 : decode cL_law 793 = .ok (.iload 4, 2) := by decide +kernel
theorem dL_law_795 : decode cL_law 795 = .ok (.iconst 1, 1) := by decide +kernel
theorem dL_law_796 : decode cL_law 796 = .ok (.iadd, 1) := by decide +kernel
theorem dL_law_797 : decode cL_law 797 = .ok (.iaload, 1) := by decide +kernel
theorem dL_law_798 : decode cL_law 798 = .ok (.invokevirtual 128, 3) := by decide +kernel
theorem dL_law_801 : decode cL_law 801 = .ok (.istore 6, 2) := by decide +kernel
theorem dL_law_803 : decode cL_law 803 = .ok (.aload_n 2, 1) := by decide +kernel
theorem dL_law_804 : decode cL_law 804 = .ok (.invokevirtual 89, 3) := by decide +kernel
theorem dL_law_807 : decode cL_law 807 = .ok (.iload 5, 2) := by decide +kernel
theorem dL_law_809 : decode cL_law 809 = .ok (.if_icmp .eq 5, 3) := by decide +kernel
theorem dL_law_812 : decode cL_law 812 = .ok (.iconst 0, 1) := by decide +kernel
theorem dL_law_813 : decode cL_law 813 = .ok (.ireturn, 1) := by decide +kernel
theorem dL_law_814 : decode cL_law 814 = .ok (.iload 5, 2) := by decide +kernel
theorem dL_law_816 : decode cL_law 816 = .ok (.ifCond .ne 15, 3) := by decide +kernel
theorem dL_law_819 : decode cL_law 819 = .ok (.aload_n 3, 1) := by decide +kernel
theorem dL_law_820 : decode cL_law 820 = .ok (.iconst 0, 1) := by decide +kernel
theorem dL_law_821 : decode cL_law 821 = .ok (.laload, 1) := by decide +kernel
theorem dL_law_822 : decode cL_law 822 = .ok (.iload 6, 2) := by decide +kernel
theorem dL_law_824 : decode cL_law 824 = .ok (.i2l, 1) := by decide +kernel
theorem dL_law_825 : decode cL_law 825 = .ok (.lcmp, 1) := by decide +kernel
theorem dL_law_826 : decode cL_law 826 = .ok (.ifCond .eq 5, 3) := by decide +kernel
theorem dL_law_829 : decode cL_law 829 = .ok (.iconst 0, 1) := by decide +kernel
theorem dL_law_830 : decode cL_law 830 = .ok (.ireturn, 1) := by decide +kernel
theorem dL_law_831 : decode cL_law 831 = .ok (.goto 338, 3) := by decide +kernel
theorem dL_law_834 : decode cL_law 834 = .ok (.aload_n 1, 1) := by decide +kernel
theorem dL_law_835 : decode cL_law 835 = .ok (.aload_n 3, 1) := by decide +kernel
theorem dL_law_836 : decode cL_law 836 = .ok (.invokestatic 129, 3) := by decide +kernel
theorem dL_law_839 : decode cL_law 839 = .ok (.istore 5, 2) := by decide +kernel
theorem dL_law_841 : decode cL_law 841 = .ok (.aload_n 2, 1) := by decide +kernel
theorem dL_law_842 : decode cL_law 842 = .ok (.invokevirtual 131, 3) := by decide +kernel
theorem dL_law_845 : decode cL_law 845 = .ok (.istore 6, 2) := by decide +kernel
theorem dL_law_847 : decode cL_law 847 = .ok (.aload_n 2, 1) := by decide +kernel
theorem dL_law_848 : decode cL_law 848 = .ok (.invokevirtual 89, 3) := by decide +kernel
theorem dL_law_851 : decode cL_law 851 = .ok (.iload 5, 2) := by decide +kernel
theorem dL_law_853 : decode cL_law 853 = .ok (.if_icmp .eq 5, 3) := by decide +kernel
theorem dL_law_856 : decode cL_law 856 = .ok (.iconst 0, 1) := by decide +kernel
theorem dL_law_857 : decode cL_law 857 = .ok (.ireturn, 1) := by decide +kernel
theorem dL_law_858 : decode cL_law 858 = .ok (.iload 5, 2) := by decide +kernel
theorem dL_law_860 : decode cL_law 860 = .ok (.ifCond .ne 15, 3) := by decide +kernel
theorem dL_law_863 : decode cL_law 863 = .ok (.aload_n 3, 1) := by decide +kernel
theorem dL_law_864 : decode cL_law 864 = .ok (.iconst 0, 1) := by decide +kernel
theorem dL_law_865 : decode cL_law 865 = .ok (.laload, 1) := by decide +kernel
theorem dL_law_866 : decode cL_law 866 = .ok (.iload 6, 2) := by decide +kernel
theorem dL_law_868 : decode cL_law 868 = .ok (.i2l, 1) := by decide +kernel
theorem dL_law_869 : decode cL_law 869 = .ok (.lcmp, 1) := by decide +kernel
theorem dL_law_870 : decode cL_law 870 = .ok (.ifCond .eq 5, 3) := by decide +kernel
theorem dL_law_873 : decode cL_law 873 = .ok (.iconst 0, 1) := by decide +kernel
theorem dL_law_874 : decode cL_law 874 = .ok (.ireturn, 1) := by decide +kernel
theorem dL_law_875 : decode cL_law 875 = .ok (.goto 294, 3) := by decide +kernel
theorem dL_law_878 : decode cL_law 878 = .ok (.aload_n 1, 1) := by decide +kernel
theorem dL_law_879 : decode cL_law 879 = .ok (.aload_n 3, 1) := by decide +kernel
theorem dL_law_880 : decode cL_law 880 = .ok (.invokestatic 132, 3) := by decide +kernel
theorem dL_law_883 : decode cL_law 883 = .ok (.istore 5, 2) := by decide +kernel
theorem dL_law_885 : decode cL_law 885 = .ok (.aload_n 2, 1) := by decide +kernel
theorem dL_law_886 : decode cL_law 886 = .ok (.invokevirtual 134, 3) := by decide +kernel
theorem dL_law_889 : decode cL_law 889 = .ok (.istore 6, 2) := by decide +kernel
theorem dL_law_891 : decode cL_law 891 = .ok (.aload_n 2, 1) := by decide +kernel
theorem dL_law_892 : decode cL_law 892 = .ok (.invokevirtual 89, 3) := by decide +kernel
theorem dL_law_895 : decode cL_law 895 = .ok (.iload 5, 2) := by decide +kernel
theorem dL_law_897 : decode cL_law 897 = .ok (.if_icmp .eq 5, 3) := by decide +kernel
theorem dL_law_900 : decode cL_law 900 = .ok (.iconst 0, 1) := by decide +kernel
theorem dL_law_901 : decode cL_law 901 = .ok (.ireturn, 1) := by decide +kernel
theorem dL_law_902 : decode cL_law 902 = .ok (.iload 5, 2) := by decide +kernel
theorem dL_law_904 : decode cL_law 904 = .ok (.ifCond .ne 15, 3) := by decide +kernel
theorem dL_law_907 : decode cL_law 907 = .ok (.aload_n 3, 1) := by decide +kernel
theorem dL_law_908 : decode cL_law 908 = .ok (.iconst 0, 1) := by decide +kernel
theorem dL_law_909 : decode cL_law 909 = .ok (.laload, 1) := by decide +kernel
theorem dL_law_910 : decode cL_law 910 = .ok (.iload 6, 2) := by decide +kernel
theorem dL_law_912 : decode cL_law 912 = .ok (.i2l, 1) := by decide +kernel
theorem dL_law_913 : decode cL_law 913 = .ok (.lcmp, 1) := by decide +kernel
theorem dL_law_914 : decode cL_law 914 = .ok (.ifCond .eq 5, 3) := by decide +kernel
theorem dL_law_917 : decode cL_law 917 = .ok (.iconst 0, 1) := by decide +kernel
theorem dL_law_918 : decode cL_law 918 = .ok (.ireturn, 1) := by decide +kernel
theorem dL_law_919 : decode cL_law 919 = .ok (.goto 250, 3) := by decide +kernel
theorem dL_law_922 : decode cL_law 922 = .ok (.aload_n 1, 1) := by decide +kernel
theorem dL_law_923 : decode cL_law 923 = .ok (.aload_n 0, 1) := by decide +kernel
theorem dL_law_924 : decode cL_law 924 = .ok (.iload 4, 2) := by decide +kernel
theorem dL_law_926 : decode cL_law 926 = .ok (.iconst 1, 1) := by decide +kernel
theorem dL_law_927 : decode cL_law 927 = .ok (.iadd, 1) := by decide +kernel
theorem dL_law_928 : decode cL_law 928 = .ok (.iaload, 1) := by decide +kernel
theorem dL_law_929 : decode cL_law 929 = .ok (.aload_n 3, 1) := by decide +kernel
theorem dL_law_930 : decode cL_law 930 = .ok (.invokestatic 135, 3) := by decide +kernel
theorem dL_law_933 : decode cL_law 933 = .ok (.istore 5, 2) := by decide +kernel
theorem dL_law_935 : decode cL_law 935 = .ok (.aload_n 2, 1) := by decide +kernel
theorem dL_law_936 : decode cL_law 936 = .ok (.aload_n 0, 1) := by decide +kernel
theorem dL_law_937 : decode cL_law 937 = .ok (.iload 4, 2) := by decide +kernel
theorem dL_law_939 : decode cL_law 939 = .ok (.iconst 1, 1) := by decide +kernel
theorem dL_law_940 : decode cL_law 940 = .ok (.iadd, 1) := by decide +kernel
theorem dL_law_941 : decode cL_law 941 = .ok (.iaload, 1) := by decide +kernel
theorem dL_law_942 : decode cL_law 942 = .ok (.invokevirtual 137, 3) := by decide +kernel
theorem dL_law_945 : decode cL_law 945 = .ok (.istore 6, 2) := by decide +kernel
theorem dL_law_947 : decode cL_law 947 = .ok (.aload_n 2, 1) := by decide +kernel
theorem dL_law_948 : decode cL_law 948 = .ok (.invokevirtual 89, 3) := by decide +kernel
theorem dL_law_951 : decode cL_law 951 = .ok (.iload 5, 2) := by decide +kernel
theorem dL_law_953 : decode cL_law 953 = .ok (.if_icmp .eq 5, 3) := by decide +kernel
theorem dL_law_956 : decode cL_law 956 = .ok (.iconst 0, 1) := by decide +kernel
theorem dL_law_957 : decode cL_law 957 = .ok (.ireturn, 1) := by decide +kernel
theorem dL_law_958 : decode cL_law 958 = .ok (.iload 5, 2) := by decide +kernel
theorem dL_law_960 : decode cL_law 960 = .ok (.ifCond .ne 15, 3) := by decide +kernel
theorem dL_law_963 : decode cL_law 963 = .ok (.aload_n 3, 1) := by decide +kernel
theorem dL_law_964 : decode cL_law 964 = .ok (.iconst 0, 1) := by decide +kernel
theorem dL_law_965 : decode cL_law 965 = .ok (.laload, 1) := by decide +kernel
theorem dL_law_966 : decode cL_law 966 = .ok (.iload 6, 2) := by decide +kernel
theorem dL_law_968 : decode cL_law 968 = .ok (.i2l, 1) := by decide +kernel
theorem dL_law_969 : decode cL_law 969 = .ok (.lcmp, 1) := by decide +kernel
theorem dL_law_970 : decode cL_law 970 = .ok (.ifCond .eq 5, 3) := by decide +kernel
theorem dL_law_973 : decode cL_law 973 = .ok (.iconst 0, 1) := by decide +kernel
theorem dL_law_974 : decode cL_law 974 = .ok (.ireturn, 1) := by decide +kernel
theorem dL_law_975 : decode cL_law 975 = .ok (.goto 194, 3) := by decide +kernel
theorem dL_law_978 : decode cL_law 978 = .ok (.aload_n 1, 1) := by decide +kernel
theorem dL_law_979 : decode cL_law 979 = .ok (.aload_n 0, 1) := by decide +kernel
theorem dL_law_980 : decode cL_law 980 = .ok (.iload 4, 2) := by decide +kernel
theorem dL_law_982 : decode cL_law 982 = .ok (.iconst 1, 1) := by decide +kernel
theorem dL_law_983 : decode cL_law 983 = .ok (.iadd, 1) := by decide +kernel
theorem dL_law_984 : decode cL_law 984 = .ok (.iaload, 1) := by decide +kernel
theorem dL_law_985 : decode cL_law 985 = .ok (.aload_n 0, 1) := by decide +kernel
theorem dL_law_986 : decode cL_law 986 = .ok (.iload 4, 2) := by decide +kernel
theorem dL_law_988 : decode cL_law 988 = .ok (.iconst 2, 1) := by decide +kernel
theorem dL_law_989 : decode cL_law 989 = .ok (.iadd, 1) := by decide +kernel
theorem dL_law_990 : decode cL_law 990 = .ok (.iaload, 1) := by decide +kernel
theorem dL_law_991 : decode cL_law 991 = .ok (.ifCond .eq 7, 3) := by decide +kernel
theorem dL_law_994 : decode cL_law 994 = .ok (.iconst 1, 1) := by decide +kernel
theorem dL_law_995 : decode cL_law 995 = .ok (.goto 4, 3) := by decide +kernel
theorem dL_law_998 : decode cL_law 998 = .ok (.iconst 0, 1) := by decide +kernel
theorem dL_law_999 : decode cL_law 999 = .ok (.aload_n 3, 1) := by decide +kernel
theorem dL_law_1000 : decode cL_law 1000 = .ok (.invokestatic 138, 3) := by decide +kernel
theorem dL_law_1003 : decode cL_law 1003 = .ok (.istore 5, 2) := by decide +kernel
theorem dL_law_1005 : decode cL_law 1005 = .ok (.aload_n 2, 1) := by decide +kernel
theorem dL_law_1006 : decode cL_law 1006 = .ok (.aload_n 0, 1) := by decide +kernel
theorem dL_law_1007 : decode cL_law 1007 = .ok (.iload 4, 2) := by decide +kernel
theorem dL_law_1009 : decode cL_law 1009 = .ok (.iconst 1, 1) := by decide +kernel
theorem dL_law_1010 : decode cL_law 1010 = .ok (.iadd, 1) := by decide +kernel
theorem dL_law_1011 : decode cL_law 1011 = .ok (.iaload, 1) := by decide +kernel
theorem dL_law_1012 : decode cL_law 1012 = .ok (.aload_n 0, 1) := by decide +kernel
theorem dL_law_1013 : decode cL_law 1013 = .ok (.iload 4, 2) := by decide +kernel
theorem dL_law_1015 : decode cL_law 1015 = .ok (.iconst 2, 1) := by decide +kernel
theorem dL_law_1016 : decode cL_law 1016 = .ok (.iadd, 1) := by decide +kernel
theorem dL_law_1017 : decode cL_law 1017 = .ok (.iaload, 1) := by decide +kernel
theorem dL_law_1018 : decode cL_law 1018 = .ok (.ifCond .eq 7, 3) := by decide +kernel
theorem dL_law_1021 : decode cL_law 1021 = .ok (.iconst 1, 1) := by decide +kernel
theorem dL_law_1022 : decode cL_law 1022 = .ok (.goto 4, 3) := by decide +kernel
theorem dL_law_1025 : decode cL_law 1025 = .ok (.iconst 0, 1) := by decide +kernel
theorem dL_law_1026 : decode cL_law 1026 = .ok (.invokevirtual 141, 3) := by decide +kernel
theorem dL_law_1029 : decode cL_law 1029 = .ok (.istore 6, 2) := by decide +kernel
theorem dL_law_1031 : decode cL_law 1031 = .ok (.aload_n 2, 1) := by decide +kernel
theorem dL_law_1032 : decode cL_law 1032 = .ok (.invokevirtual 89, 3) := by decide +kernel
theorem dL_law_1035 : decode cL_law 1035 = .ok (.iload 5, 2) := by decide +kernel
theorem dL_law_1037 : decode cL_law 1037 = .ok (.if_icmp .eq 5, 3) := by decide +kernel
theorem dL_law_1040 : decode cL_law 1040 = .ok (.iconst 0, 1) := by decide +kernel
theorem dL_law_1041 : decode cL_law 1041 = .ok (.ireturn, 1) := by decide +kernel
theorem dL_law_1042 : decode cL_law 1042 = .ok (.iload 5, 2) := by decide +kernel
theorem dL_law_1044 : decode cL_law 1044 = .ok (.ifCond .ne 15, 3) := by decide +kernel
theorem dL_law_1047 : decode cL_law 1047 = .ok (.aload_n 3, 1) := by decide +kernel
theorem dL_law_1048 : decode cL_law 1048 = .ok (.iconst 0, 1) := by decide +kernel
theorem dL_law_1049 : decode cL_law 1049 = .ok (.laload, 1) := by decide +kernel
theorem dL_law_1050 : decode cL_law 1050 = .ok (.iload 6, 2) := by decide +kernel
theorem dL_law_1052 : decode cL_law 1052 = .ok (.i2l, 1) := by decide +kernel
theorem dL_law_1053 : decode cL_law 1053 = .ok (.lcmp, 1) := by decide +kernel
theorem dL_law_1054 : decode cL_law 1054 = .ok (.ifCond .eq 5, 3) := by decide +kernel
theorem dL_law_1057 : decode cL_law 1057 = .ok (.iconst 0, 1) := by decide +kernel
theorem dL_law_1058 : decode cL_law 1058 = .ok (.ireturn, 1) := by decide +kernel
theorem dL_law_1059 : decode cL_law 1059 = .ok (.goto 110, 3) := by decide +kernel
theorem dL_law_1062 : decode cL_law 1062 = .ok (.aload_n 1, 1) := by decide +kernel
theorem dL_law_1063 : decode cL_law 1063 = .ok (.aload_n 3, 1) := by decide +kernel
theorem dL_law_1064 : decode cL_law 1064 = .ok (.invokestatic 142, 3) := by decide +kernel
theorem dL_law_1067 : decode cL_law 1067 = .ok (.istore 5, 2) := by decide +kernel
theorem dL_law_1069 : decode cL_law 1069 = .ok (.aload_n 2, 1) := by decide +kernel
theorem dL_law_1070 : decode cL_law 1070 = .ok (.invokevirtual 144, 3) := by decide +kernel
theorem dL_law_1073 : decode cL_law 1073 = .ok (.istore 6, 2) := by decide +kernel
theorem dL_law_1075 : decode cL_law 1075 = .ok (.aload_n 2, 1) := by decide +kernel
theorem dL_law_1076 : decode cL_law 1076 = .ok (.invokevirtual 89, 3) := by decide +kernel
theorem dL_law_1079 : decode cL_law 1079 = .ok (.iload 5, 2) := by decide +kernel
theorem dL_law_1081 : decode cL_law 1081 = .ok (.if_icmp .eq 5, 3) := by decide +kernel
theorem dL_law_1084 : decode cL_law 1084 = .ok (.iconst 0, 1) := by decide +kernel
theorem dL_law_1085 : decode cL_law 1085 = .ok (.ireturn, 1) := by decide +kernel
theorem dL_law_1086 : decode cL_law 1086 = .ok (.iload 5, 2) := by decide +kernel
theorem dL_law_1088 : decode cL_law 1088 = .ok (.ifCond .ne 15, 3) := by decide +kernel
theorem dL_law_1091 : decode cL_law 1091 = .ok (.aload_n 3, 1) := by decide +kernel
theorem dL_law_1092 : decode cL_law 1092 = .ok (.iconst 0, 1) := by decide +kernel
theorem dL_law_1093 : decode cL_law 1093 = .ok (.laload, 1) := by decide +kernel
theorem dL_law_1094 : decode cL_law 1094 = .ok (.iload 6, 2) := by decide +kernel
theorem dL_law_1096 : decode cL_law 1096 = .ok (.i2l, 1) := by decide +kernel
theorem dL_law_1097 : decode cL_law 1097 = .ok (.lcmp, 1) := by decide +kernel
theorem dL_law_1098 : decode cL_law 1098 = .ok (.ifCond .eq 5, 3) := by decide +kernel
theorem dL_law_1101 : decode cL_law 1101 = .ok (.iconst 0, 1) := by decide +kernel
theorem dL_law_1102 : decode cL_law 1102 = .ok (.ireturn, 1) := by decide +kernel
theorem dL_law_1103 : decode cL_law 1103 = .ok (.goto 66, 3) := by decide +kernel
theorem dL_law_1106 : decode cL_law 1106 = .ok (.aload_n 1, 1) := by decide +kernel
theorem dL_law_1107 : decode cL_law 1107 = .ok (.aload_n 0, 1) := by decide +kernel
theorem dL_law_1108 : decode cL_law 1108 = .ok (.iload 4, 2) := by decide +kernel
theorem dL_law_1110 : decode cL_law 1110 = .ok (.iconst 1, 1) := by decide +kernel
theorem dL_law_1111 : decode cL_law 1111 = .ok (.iadd, 1) := by decide +kernel
theorem dL_law_1112 : decode cL_law 1112 = .ok (.iaload, 1) := by decide +kernel
theorem dL_law_1113 : decode cL_law 1113 = .ok (.aload_n 3, 1) := by decide +kernel
theorem dL_law_1114 : decode cL_law 1114 = .ok (.invokestatic 145, 3) := by decide +kernel
theorem dL_law_1117 : decode cL_law 1117 = .ok (.istore 5, 2) := by decide +kernel
theorem dL_law_1119 : decode cL_law 1119 = .ok (.aload_n 2, 1) := by decide +kernel
theorem dL_law_1120 : decode cL_law 1120 = .ok (.aload_n 0, 1) := by decide +kernel
theorem dL_law_1121 : decode cL_law 1121 = .ok (.iload 4, 2) := by decide +kernel
theorem dL_law_1123 : decode cL_law 1123 = .ok (.iconst 1, 1) := by decide +kernel
theorem dL_law_1124 : decode cL_law 1124 = .ok (.iadd, 1) := by decide +kernel
theorem dL_law_1125 : decode cL_law 1125 = .ok (.iaload, 1) := by decide +kernel
theorem dL_law_1126 : decode cL_law 1126 = .ok (.invokevirtual 147, 3) := by decide +kernel
theorem dL_law_1129 : decode cL_law 1129 = .ok (.istore 6, 2) := by decide +kernel
theorem dL_law_1131 : decode cL_law 1131 = .ok (.aload_n 2, 1) := by decide +kernel
theorem dL_law_1132 : decode cL_law 1132 = .ok (.invokevirtual 89, 3) := by decide +kernel
theorem dL_law_1135 : decode cL_law 1135 = .ok (.iload 5, 2) := by decide +kernel
theorem dL_law_1137 : decode cL_law 1137 = .ok (.if_icmp .eq 5, 3) := by decide +kernel
theorem dL_law_1140 : decode cL_law 1140 = .ok (.iconst 0, 1) := by decide +kernel
theorem dL_law_1141 : decode cL_law 1141 = .ok (.ireturn, 1) := by decide +kernel
theorem dL_law_1142 : decode cL_law 1142 = .ok (.iload 5, 2) := by decide +kernel
theorem dL_law_1144 : decode cL_law 1144 = .ok (.ifCond .ne 22, 3) := by decide +kernel
theorem dL_law_1147 : decode cL_law 1147 = .ok (.aload_n 3, 1) := by decide +kernel
theorem dL_law_1148 : decode cL_law 1148 = .ok (.iconst 0, 1) := by decide +kernel
theorem dL_law_1149 : decode cL_law 1149 = .ok (.laload, 1) := by decide +kernel
theorem dL_law_1150 : decode cL_law 1150 = .ok (.iload 6, 2) := by decide +kernel
theorem dL_law_1152 : decode cL_law 1152 = .ok (.ifCond .eq 7, 3) := by decide +kernel
theorem dL_law_1155 : decode cL_law 1155 = .ok (.lconst 1, 1) := by decide +kernel
theorem dL_law_1156 : decode cL_law 1156 = .ok (.goto 4, 3) := by decide +kernel
theorem dL_law_1159 : decode cL_law 1159 = .ok (.lconst 0, 1) := by decide +kernel
theorem dL_law_1160 : decode cL_law 1160 = .ok (.lcmp, 1) := by decide +kernel
theorem dL_law_1161 : decode cL_law 1161 = .ok (.ifCond .eq 5, 3) := by decide +kernel
theorem dL_law_1164 : decode cL_law 1164 = .ok (.iconst 0, 1) := by decide +kernel
theorem dL_law_1165 : decode cL_law 1165 = .ok (.ireturn, 1) := by decide +kernel
theorem dL_law_1166 : decode cL_law 1166 = .ok (.goto 3, 3) := by decide +kernel
theorem dL_law_1169 : decode cL_law 1169 = .ok (.iinc 4 5, 3) := by decide +kernel
theorem dL_law_1172 : decode cL_law 1172 = .ok (.goto (-1149), 3) := by decide +kernel
theorem dL_law_1175 : decode cL_law 1175 = .ok (.iconst 1, 1) := by decide +kernel
theorem dL_law_1176 : decode cL_law 1176 = .ok (.ireturn, 1) := by decide +kernel
