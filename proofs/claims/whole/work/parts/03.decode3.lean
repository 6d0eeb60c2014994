theorem d_Ru_begin_65 : decode b_Ru_begin 65 = .ok (.putfield 60, 3) := by decide +kernel
theorem d_Ru_begin_68 : decode b_Ru_begin 68 = .ok (.aload_n 2, 1) := by decide +kernel
theorem d_Ru_begin_69 : decode b_Ru_begin 69 = .ok (.iconst 0, 1) := by decide +kernel
theorem d_Ru_begin_70 : decode b_Ru_begin 70 = .ok (.putfield 63, 3) := by decide +kernel
theorem d_Ru_begin_73 : decode b_Ru_begin 73 = .ok (.iinc 1 1, 3) := by decide +kernel
theorem d_Ru_begin_76 : decode b_Ru_begin 76 = .ok (.goto (-42), 3) := by decide +kernel
theorem d_Ru_begin_79 : decode b_Ru_begin 79 = .ok (.aload_n 0, 1) := by decide +kernel
theorem d_Ru_begin_80 : decode b_Ru_begin 80 = .ok (.getfield 12, 3) := by decide +kernel
theorem d_Ru_begin_83 : decode b_Ru_begin 83 = .ok (.iconst 0, 1) := by decide +kernel
theorem d_Ru_begin_84 : decode b_Ru_begin 84 = .ok (.aaload, 1) := by decide +kernel
theorem d_Ru_begin_85 : decode b_Ru_begin 85 = .ok (.aload_n 0, 1) := by decide +kernel
theorem d_Ru_begin_86 : decode b_Ru_begin 86 = .ok (.getfield 35, 3) := by decide +kernel
theorem d_Ru_begin_89 : decode b_Ru_begin 89 = .ok (.getfield 66, 3) := by decide +kernel
theorem d_Ru_begin_92 : decode b_Ru_begin 92 = .ok (.sipush 4096, 3) := by decide +kernel
theorem d_Ru_begin_95 : decode b_Ru_begin 95 = .ok (.imul, 1) := by decide +kernel
theorem d_Ru_begin_96 : decode b_Ru_begin 96 = .ok (.putfield 69, 3) := by decide +kernel
theorem d_Ru_begin_99 : decode b_Ru_begin 99 = .ok (.aload_n 0, 1) := by decide +kernel
theorem d_Ru_begin_100 : decode b_Ru_begin 100 = .ok (.getfield 12, 3) := by decide +kernel
theorem d_Ru_begin_103 : decode b_Ru_begin 103 = .ok (.iconst 0, 1) := by decide +kernel
theorem d_Ru_begin_104 : decode b_Ru_begin 104 = .ok (.aaload, 1) := by decide +kernel
theorem d_Ru_begin_105 : decode b_Ru_begin 105 = .ok (.aload_n 0, 1) := by decide +kernel
theorem d_Ru_begin_106 : decode b_Ru_begin 106 = .ok (.getfield 35, 3) := by decide +kernel
theorem d_Ru_begin_109 : decode b_Ru_begin 109 = .ok (.getfield 72, 3) := by decide +kernel
theorem d_Ru_begin_112 : decode b_Ru_begin 112 = .ok (.sipush 4096, 3) := by decide +kernel
theorem d_Ru_begin_115 : decode b_Ru_begin 115 = .ok (.imul, 1) := by decide +kernel
theorem d_Ru_begin_116 : decode b_Ru_begin 116 = .ok (.putfield 75, 3) := by decide +kernel
theorem d_Ru_begin_119 : decode b_Ru_begin 119 = .ok (.aload_n 0, 1) := by decide +kernel
theorem d_Ru_begin_120 : decode b_Ru_begin 120 = .ok (.invokevirtual 78, 3) := by decide +kernel
theorem d_Ru_begin_123 : decode b_Ru_begin 123 = .ok (.aload_n 0, 1) := by decide +kernel
theorem d_Ru_begin_124 : decode b_Ru_begin 124 = .ok (.invokevirtual 81, 3) := by decide +kernel
theorem d_Ru_begin_127 : decode b_Ru_begin 127 = .ok (.return_, 1) := by decide +kernel
theorem d_Ru_follow_0 : decode b_Ru_follow 0 = .ok (.aload_n 0, 1) := by decide +kernel
theorem d_Ru_follow_1 : decode b_Ru_follow 1 = .ok (.invokevirtual 84, 3) := by decide +kernel
theorem d_Ru_follow_4 : decode b_Ru_follow 4 = .ok (.iconst 0, 1) := by decide +kernel
theorem d_Ru_follow_5 : decode b_Ru_follow 5 = .ok (.istore_n 2, 1) := by decide +kernel
theorem d_Ru_follow_6 : decode b_Ru_follow 6 = .ok (.iload_n 2, 1) := by decide +kernel
theorem d_Ru_follow_7 : decode b_Ru_follow 7 = .ok (.aload_n 1, 1) := by decide +kernel
theorem d_Ru_follow_8 : decode b_Ru_follow 8 = .ok (.getfield 87, 3) := by decide +kernel
theorem d_Ru_follow_11 : decode b_Ru_follow 11 = .ok (.if_icmp .ge 31, 3) := by decide +kernel
theorem d_Ru_follow_14 : decode b_Ru_follow 14 = .ok (.aload_n 0, 1) := by decide +kernel
theorem d_Ru_follow_15 : decode b_Ru_follow 15 = .ok (.aload_n 1, 1) := by decide +kernel
theorem d_Ru_follow_16 : decode b_Ru_follow 16 = .ok (.getfield 92, 3) := by decide +kernel
theorem d_Ru_follow_19 : decode b_Ru_follow 19 = .ok (.iload_n 2, 1) := by decide +kernel
theorem d_Ru_follow_20 : decode b_Ru_follow 20 = .ok (.iaload, 1) := by decide +kernel
theorem d_Ru_follow_21 : decode b_Ru_follow 21 = .ok (.aload_n 1, 1) := by decide +kernel
theorem d_Ru_follow_22 : decode b_Ru_follow 22 = .ok (.getfield 96, 3) := by decide +kernel
theorem d_Ru_follow_25 : decode b_Ru_follow 25 = .ok (.iload_n 2, 1) := by decide +kernel
theorem d_Ru_follow_26 : decode b_Ru_follow 26 = .ok (.iaload, 1) := by decide +kernel
theorem d_Ru_follow_27 : decode b_Ru_follow 27 = .ok (.aload_n 1, 1) := by decide +kernel
theorem d_Ru_follow_28 : decode b_Ru_follow 28 = .ok (.getfield 99, 3) := by decide +kernel
theorem d_Ru_follow_31 : decode b_Ru_follow 31 = .ok (.iload_n 2, 1) := by decide +kernel
theorem d_Ru_follow_32 : decode b_Ru_follow 32 = .ok (.baload, 1) := by decide +kernel
theorem d_Ru_follow_33 : decode b_Ru_follow 33 = .ok (.invokevirtual 103, 3) := by decide +kernel
theorem d_Ru_follow_36 : decode b_Ru_follow 36 = .ok (.iinc 2 1, 3) := by decide +kernel
theorem d_Ru_follow_39 : decode b_Ru_follow 39 = .ok (.goto (-33), 3) := by decide +kernel
theorem d_Ru_follow_42 : decode b_Ru_follow 42 = .ok (.return_, 1) := by decide +kernel
theorem d_Ru_walk_0 : decode b_Ru_walk 0 = .ok (.iload_n 3, 1) := by decide +kernel
theorem d_Ru_walk_1 : decode b_Ru_walk 1 = .ok (.ifCond .eq 7, 3) := by decide +kernel
theorem d_Ru_walk_4 : decode b_Ru_walk 4 = .ok (.iconst 1, 1) := by decide +kernel
theorem d_Ru_walk_5 : decode b_Ru_walk 5 = .ok (.goto 4, 3) := by decide +kernel
theorem d_Ru_walk_8 : decode b_Ru_walk 8 = .ok (.iconst (-1), 1) := by decide +kernel
theorem d_Ru_walk_9 : decode b_Ru_walk 9 = .ok (.istore 4, 2) := by decide +kernel
theorem d_Ru_walk_11 : decode b_Ru_walk 11 = .ok (.iconst 0, 1) := by decide +kernel
theorem d_Ru_walk_12 : decode b_Ru_walk 12 = .ok (.istore 5, 2) := by decide +kernel
theorem d_Ru_walk_14 : decode b_Ru_walk 14 = .ok (.iload 5, 2) := by decide +kernel
theorem d_Ru_walk_16 : decode b_Ru_walk 16 = .ok (.iload_n 2, 1) := by decide +kernel
theorem d_Ru_walk_17 : decode b_Ru_walk 17 = .ok (.if_icmp .ge 52, 3) := by decide +kernel
theorem d_Ru_walk_20 : decode b_Ru_walk 20 = .ok (.aload_n 0, 1) := by decide +kernel
theorem d_Ru_walk_21 : decode b_Ru_walk 21 = .ok (.getfield 42, 3) := by decide +kernel
theorem d_Ru_walk_24 : decode b_Ru_walk 24 = .ok (.ifCond .ne 45, 3) := by decide +kernel
theorem d_Ru_walk_27 : decode b_Ru_walk 27 = .ok (.aload_n 0, 1) := by decide +kernel
theorem d_Ru_walk_28 : decode b_Ru_walk 28 = .ok (.getfield 39, 3) := by decide +kernel
theorem d_Ru_walk_31 : decode b_Ru_walk 31 = .ok (.sipush 4000, 3) := by decide +kernel
theorem d_Ru_walk_34 : decode b_Ru_walk 34 = .ok (.if_icmp .ge 35, 3) := by decide +kernel
theorem d_Ru_walk_37 : decode b_Ru_walk 37 = .ok (.aload_n 0, 1) := by decide +kernel
theorem d_Ru_walk_38 : decode b_Ru_walk 38 = .ok (.iload 4, 2) := by decide +kernel
theorem d_Ru_walk_40 : decode b_Ru_walk 40 = .ok (.iload_n 1, 1) := by decide +kernel
theorem d_Ru_walk_41 : decode b_Ru_walk 41 = .ok (.imul, 1) := by decide +kernel
theorem d_Ru_walk_42 : decode b_Ru_walk 42 = .ok (.iload 4, 2) := by decide +kernel
theorem d_Ru_walk_44 : decode b_Ru_walk 44 = .ok (.aload_n 0, 1) := by decide +kernel
theorem d_Ru_walk_45 : decode b_Ru_walk 45 = .ok (.getfield 35, 3) := by decide +kernel
theorem d_Ru_walk_48 : decode b_Ru_walk 48 = .ok (.getfield 107, 3) := by decide +kernel
theorem d_Ru_walk_51 : decode b_Ru_walk 51 = .ok (.imul, 1) := by decide +kernel
theorem d_Ru_walk_52 : decode b_Ru_walk 52 = .ok (.invokevirtual 110, 3) := by decide +kernel
theorem d_Ru_walk_55 : decode b_Ru_walk 55 = .ok (.aload_n 0, 1) := by decide +kernel
theorem d_Ru_walk_56 : decode b_Ru_walk 56 = .ok (.invokevirtual 114, 3) := by decide +kernel
theorem d_Ru_walk_59 : decode b_Ru_walk 59 = .ok (.aload_n 0, 1) := by decide +kernel
theorem d_Ru_walk_60 : decode b_Ru_walk 60 = .ok (.invokevirtual 81, 3) := by decide +kernel
theorem d_Ru_walk_63 : decode b_Ru_walk 63 = .ok (.iinc 5 1, 3) := by decide +kernel
theorem d_Ru_walk_66 : decode b_Ru_walk 66 = .ok (.goto (-52), 3) := by decide +kernel
theorem d_Ru_walk_69 : decode b_Ru_walk 69 = .ok (.return_, 1) := by decide +kernel
theorem d_Ru_isFaultless_0 : decode b_Ru_isFaultless 0 = .ok (.aload_n 0, 1) := by decide +kernel
theorem d_Ru_isFaultless_1 : decode b_Ru_isFaultless 1 = .ok (.getfield 42, 3) := by decide +kernel
theorem d_Ru_isFaultless_4 : decode b_Ru_isFaultless 4 = .ok (.ifCond .ne 15, 3) := by decide +kernel
theorem d_Ru_isFaultless_7 : decode b_Ru_isFaultless 7 = .ok (.aload_n 0, 1) := by decide +kernel
theorem d_Ru_isFaultless_8 : decode b_Ru_isFaultless 8 = .ok (.getfield 25, 3) := by decide +kernel
theorem d_Ru_isFaultless_11 : decode b_Ru_isFaultless 11 = .ok (.iconst (-1), 1) := by decide +kernel
theorem d_Ru_isFaultless_12 : decode b_Ru_isFaultless 12 = .ok (.if_icmp .ne 7, 3) := by decide +kernel
theorem d_Ru_isFaultless_15 : decode b_Ru_isFaultless 15 = .ok (.iconst 1, 1) := by decide +kernel
theorem d_Ru_isFaultless_16 : decode b_Ru_isFaultless 16 = .ok (.goto 4, 3) := by decide +kernel
theorem d_Ru_isFaultless_19 : decode b_Ru_isFaultless 19 = .ok (.iconst 0, 1) := by decide +kernel
theorem d_Ru_isFaultless_20 : decode b_Ru_isFaultless 20 = .ok (.ireturn, 1) := by decide +kernel
theorem d_Ru_askewOf_0 : decode b_Ru_askewOf 0 = .ok (.iload_n 1, 1) := by decide +kernel
theorem d_Ru_askewOf_1 : decode b_Ru_askewOf 1 = .ok (.iconst 1, 1) := by decide +kernel
theorem d_Ru_askewOf_2 : decode b_Ru_askewOf 2 = .ok (.if_icmp .ge 7, 3) := by decide +kernel
theorem d_Ru_askewOf_5 : decode b_Ru_askewOf 5 = .ok (.iconst 0, 1) := by decide +kernel
theorem d_Ru_askewOf_6 : decode b_Ru_askewOf 6 = .ok (.goto 26, 3) := by decide +kernel
theorem d_Ru_askewOf_9 : decode b_Ru_askewOf 9 = .ok (.aload_n 0, 1) := by decide +kernel
theorem d_Ru_askewOf_10 : decode b_Ru_askewOf 10 = .ok (.getfield 12, 3) := by decide +kernel
theorem d_Ru_askewOf_13 : decode b_Ru_askewOf 13 = .ok (.iload_n 1, 1) := by decide +kernel
theorem d_Ru_askewOf_14 : decode b_Ru_askewOf 14 = .ok (.iconst 1, 1) := by decide +kernel
theorem d_Ru_askewOf_15 : decode b_Ru_askewOf 15 = .ok (.isub, 1) := by decide +kernel
theorem d_Ru_askewOf_16 : decode b_Ru_askewOf 16 = .ok (.aaload, 1) := by decide +kernel
theorem d_Ru_askewOf_17 : decode b_Ru_askewOf 17 = .ok (.getfield 57, 3) := by decide +kernel
theorem d_Ru_askewOf_20 : decode b_Ru_askewOf 20 = .ok (.aload_n 0, 1) := by decide +kernel
theorem d_Ru_askewOf_21 : decode b_Ru_askewOf 21 = .ok (.getfield 12, 3) := by decide +kernel
theorem d_Ru_askewOf_24 : decode b_Ru_askewOf 24 = .ok (.iload_n 1, 1) := by decide +kernel
theorem d_Ru_askewOf_25 : decode b_Ru_askewOf 25 = .ok (.aaload, 1) := by decide +kernel
theorem d_Ru_askewOf_26 : decode b_Ru_askewOf 26 = .ok (.getfield 57, 3) := by decide +kernel
theorem d_Ru_askewOf_29 : decode b_Ru_askewOf 29 = .ok (.invokestatic 117, 3) := by decide +kernel
theorem d_Ru_askewOf_32 : decode b_Ru_askewOf 32 = .ok (.ireturn, 1) := by decide +kernel
theorem d_Ru_move_0 : decode b_Ru_move 0 = .ok (.aload_n 0, 1) := by decide +kernel
theorem d_Ru_move_1 : decode b_Ru_move 1 = .ok (.getfield 12, 3) := by decide +kernel
theorem d_Ru_move_4 : decode b_Ru_move 4 = .ok (.iconst 0, 1) := by decide +kernel
theorem d_Ru_move_5 : decode b_Ru_move 5 = .ok (.aaload, 1) := by decide +kernel
theorem d_Ru_move_6 : decode b_Ru_move 6 = .ok (.astore_n 3, 1) := by decide +kernel
theorem d_Ru_move_7 : decode b_Ru_move 7 = .ok (.aload_n 3, 1) := by decide +kernel
theorem d_Ru_move_8 : decode b_Ru_move 8 = .ok (.dup, 1) := by decide +kernel
theorem d_Ru_move_9 : decode b_Ru_move 9 = .ok (.getfield 69, 3) := by decide +kernel
theorem d_Ru_move_12 : decode b_Ru_move 12 = .ok (.iload_n 2, 1) := by decide +kernel
theorem d_Ru_move_13 : decode b_Ru_move 13 = .ok (.aload_n 3, 1) := by decide +kernel
theorem d_Ru_move_14 : decode b_Ru_move 14 = .ok (.getfield 57, 3) := by decide +kernel
theorem d_Ru_move_17 : decode b_Ru_move 17 = .ok (.invokestatic 123, 3) := by decide +kernel
theorem d_Ru_move_20 : decode b_Ru_move 20 = .ok (.imul, 1) := by decide +kernel
theorem d_Ru_move_21 : decode b_Ru_move 21 = .ok (.iadd, 1) := by decide +kernel
theorem d_Ru_move_22 : decode b_Ru_move 22 = .ok (.putfield 69, 3) := by decide +kernel
theorem d_Ru_move_25 : decode b_Ru_move 25 = .ok (.aload_n 3, 1) := by decide +kernel
theorem d_Ru_move_26 : decode b_Ru_move 26 = .ok (.dup, 1) := by decide +kernel
theorem d_Ru_move_27 : decode b_Ru_move 27 = .ok (.getfield 75, 3) := by decide +kernel
theorem d_Ru_move_30 : decode b_Ru_move 30 = .ok (.iload_n 2, 1) := by decide +kernel
theorem d_Ru_move_31 : decode b_Ru_move 31 = .ok (.aload_n 3, 1) := by decide +kernel
theorem d_Ru_move_32 : decode b_Ru_move 32 = .ok (.getfield 57, 3) := by decide +kernel
theorem d_Ru_move_35 : decode b_Ru_move 35 = .ok (.invokestatic 127, 3) := by decide +kernel
theorem d_Ru_move_38 : decode b_Ru_move 38 = .ok (.imul, 1) := by decide +kernel
theorem d_Ru_move_39 : decode b_Ru_move 39 = .ok (.iadd, 1) := by decide +kernel
theorem d_Ru_move_40 : decode b_Ru_move 40 = .ok (.putfield 75, 3) := by decide +kernel
theorem d_Ru_move_43 : decode b_Ru_move 43 = .ok (.aload_n 3, 1) := by decide +kernel
theorem d_Ru_move_44 : decode b_Ru_move 44 = .ok (.aload_n 3, 1) := by decide +kernel
theorem d_Ru_move_45 : decode b_Ru_move 45 = .ok (.getfield 57, 3) := by decide +kernel
theorem d_Ru_move_48 : decode b_Ru_move 48 = .ok (.iload_n 1, 1) := by decide +kernel
theorem d_Ru_move_49 : decode b_Ru_move 49 = .ok (.iadd, 1) := by decide +kernel
theorem d_Ru_move_50 : decode b_Ru_move 50 = .ok (.invokestatic 130, 3) := by decide +kernel
theorem d_Ru_move_53 : decode b_Ru_move 53 = .ok (.putfield 57, 3) := by decide +kernel
theorem d_Ru_move_56 : decode b_Ru_move 56 = .ok (.iconst 1, 1) := by decide +kernel
theorem d_Ru_move_57 : decode b_Ru_move 57 = .ok (.istore 4, 2) := by decide +kernel
theorem d_Ru_move_59 : decode b_Ru_move 59 = .ok (.iload 4, 2) := by decide +kernel
theorem d_Ru_move_61 : decode b_Ru_move 61 = .ok (.aload_n 0, 1) := by decide +kernel
theorem d_Ru_move_62 : decode b_Ru_move 62 = .ok (.getfield 35, 3) := by decide +kernel
theorem d_Ru_move_65 : decode b_Ru_move 65 = .ok (.getfield 49, 3) := by decide +kernel
theorem d_Ru_move_68 : decode b_Ru_move 68 = .ok (.if_icmp .ge 16, 3) := by decide +kernel
theorem d_Ru_move_71 : decode b_Ru_move 71 = .ok (.aload_n 0, 1) := by decide +kernel
theorem d_Ru_move_72 : decode b_Ru_move 72 = .ok (.iload 4, 2) := by decide +kernel
theorem d_Ru_move_74 : decode b_Ru_move 74 = .ok (.iload_n 2, 1) := by decide +kernel
theorem d_Ru_move_75 : decode b_Ru_move 75 = .ok (.invokevirtual 133, 3) := by decide +kernel
theorem d_Ru_move_78 : decode b_Ru_move 78 = .ok (.iinc 4 1, 3) := by decide +kernel
theorem d_Ru_move_81 : decode b_Ru_move 81 = .ok (.goto (-22), 3) := by decide +kernel
theorem d_Ru_move_84 : decode b_Ru_move 84 = .ok (.aload_n 0, 1) := by decide +kernel
theorem d_Ru_move_85 : decode b_Ru_move 85 = .ok (.invokevirtual 78, 3) := by decide +kernel
theorem d_Ru_move_88 : decode b_Ru_move 88 = .ok (.aload_n 0, 1) := by decide +kernel
theorem d_Ru_move_89 : decode b_Ru_move 89 = .ok (.dup, 1) := by decide +kernel
theorem d_Ru_move_90 : decode b_Ru_move 90 = .ok (.getfield 39, 3) := by decide +kernel
theorem d_Ru_move_93 : decode b_Ru_move 93 = .ok (.iconst 1, 1) := by decide +kernel
theorem d_Ru_move_94 : decode b_Ru_move 94 = .ok (.iadd, 1) := by decide +kernel
theorem d_Ru_move_95 : decode b_Ru_move 95 = .ok (.putfield 39, 3) := by decide +kernel
theorem d_Ru_move_98 : decode b_Ru_move 98 = .ok (.return_, 1) := by decide +kernel
theorem d_Ru_swing_0 : decode b_Ru_swing 0 = .ok (.aload_n 0, 1) := by decide +kernel
theorem d_Ru_swing_1 : decode b_Ru_swing 1 = .ok (.getfield 12, 3) := by decide +kernel
theorem d_Ru_swing_4 : decode b_Ru_swing 4 = .ok (.iload_n 1, 1) := by decide +kernel
theorem d_Ru_swing_5 : decode b_Ru_swing 5 = .ok (.aaload, 1) := by decide +kernel
theorem d_Ru_swing_6 : decode b_Ru_swing 6 = .ok (.astore_n 3, 1) := by decide +kernel
theorem d_Ru_swing_7 : decode b_Ru_swing 7 = .ok (.aload_n 0, 1) := by decide +kernel
theorem d_Ru_swing_8 : decode b_Ru_swing 8 = .ok (.getfield 35, 3) := by decide +kernel
theorem d_Ru_swing_11 : decode b_Ru_swing 11 = .ok (.getfield 136, 3) := by decide +kernel
theorem d_Ru_swing_14 : decode b_Ru_swing 14 = .ok (.iload_n 1, 1) := by decide +kernel
theorem d_Ru_swing_15 : decode b_Ru_swing 15 = .ok (.aaload, 1) := by decide +kernel
theorem d_Ru_swing_16 : decode b_Ru_swing 16 = .ok (.astore 4, 2) := by decide +kernel
theorem d_Ru_swing_18 : decode b_Ru_swing 18 = .ok (.aload_n 3, 1) := by decide +kernel
theorem d_Ru_swing_19 : decode b_Ru_swing 19 = .ok (.getfield 60, 3) := by decide +kernel
theorem d_Ru_swing_22 : decode b_Ru_swing 22 = .ok (.aload_n 0, 1) := by decide +kernel
theorem d_Ru_swing_23 : decode b_Ru_swing 23 = .ok (.iload_n 1, 1) := by decide +kernel
theorem d_Ru_swing_24 : decode b_Ru_swing 24 = .ok (.invokevirtual 140, 3) := by decide +kernel
theorem d_Ru_swing_27 : decode b_Ru_swing 27 = .ok (.iload_n 2, 1) := by decide +kernel
theorem d_Ru_swing_28 : decode b_Ru_swing 28 = .ok (.imul, 1) := by decide +kernel
theorem d_Ru_swing_29 : decode b_Ru_swing 29 = .ok (.iadd, 1) := by decide +kernel
theorem d_Ru_swing_30 : decode b_Ru_swing 30 = .ok (.istore 5, 2) := by decide +kernel
theorem d_Ru_swing_32 : decode b_Ru_swing 32 = .ok (.aload 4, 2) := by decide +kernel
theorem d_Ru_swing_34 : decode b_Ru_swing 34 = .ok (.iload 5, 2) := by decide +kernel
theorem d_Ru_swing_36 : decode b_Ru_swing 36 = .ok (.invokevirtual 143, 3) := by decide +kernel
theorem d_Ru_swing_39 : decode b_Ru_swing 39 = .ok (.istore 6, 2) := by decide +kernel
theorem d_Ru_swing_41 : decode b_Ru_swing 41 = .ok (.aload_n 3, 1) := by decide +kernel
theorem d_Ru_swing_42 : decode b_Ru_swing 42 = .ok (.aload_n 3, 1) := by decide +kernel
theorem d_Ru_swing_43 : decode b_Ru_swing 43 = .ok (.getfield 57, 3) := by decide +kernel
theorem d_Ru_swing_46 : decode b_Ru_swing 46 = .ok (.iload 6, 2) := by decide +kernel
theorem d_Ru_swing_48 : decode b_Ru_swing 48 = .ok (.iadd, 1) := by decide +kernel
theorem d_Ru_swing_49 : decode b_Ru_swing 49 = .ok (.invokestatic 130, 3) := by decide +kernel
theorem d_Ru_swing_52 : decode b_Ru_swing 52 = .ok (.putfield 57, 3) := by decide +kernel
theorem d_Ru_swing_55 : decode b_Ru_swing 55 = .ok (.aload_n 3, 1) := by decide +kernel
theorem d_Ru_swing_56 : decode b_Ru_swing 56 = .ok (.iload 5, 2) := by decide +kernel
theorem d_Ru_swing_58 : decode b_Ru_swing 58 = .ok (.iload 6, 2) := by decide +kernel
theorem d_Ru_swing_60 : decode b_Ru_swing 60 = .ok (.aload 4, 2) := by decide +kernel
theorem d_Ru_swing_62 : decode b_Ru_swing 62 = .ok (.getfield 148, 3) := by decide +kernel
theorem d_Ru_swing_65 : decode b_Ru_swing 65 = .ok (.imul, 1) := by decide +kernel
theorem d_Ru_swing_66 : decode b_Ru_swing 66 = .ok (.isub, 1) := by decide +kernel
theorem d_Ru_swing_67 : decode b_Ru_swing 67 = .ok (.putfield 60, 3) := by decide +kernel
theorem d_Ru_swing_70 : decode b_Ru_swing 70 = .ok (.return_, 1) := by decide +kernel
theorem d_Ru_placeTrailers_0 : decode b_Ru_placeTrailers 0 = .ok (.iconst 1, 1) := by decide +kernel
theorem d_Ru_placeTrailers_1 : decode b_Ru_placeTrailers 1 = .ok (.istore_n 1, 1) := by decide +kernel
theorem d_Ru_placeTrailers_2 : decode b_Ru_placeTrailers 2 = .ok (.iload_n 1, 1) := by decide +kernel
theorem d_Ru_placeTrailers_3 : decode b_Ru_placeTrailers 3 = .ok (.aload_n 0, 1) := by decide +kernel
theorem d_Ru_placeTrailers_4 : decode b_Ru_placeTrailers 4 = .ok (.getfield 35, 3) := by decide +kernel
theorem d_Ru_placeTrailers_7 : decode b_Ru_placeTrailers 7 = .ok (.getfield 49, 3) := by decide +kernel
theorem d_Ru_placeTrailers_10 : decode b_Ru_placeTrailers 10 = .ok (.if_icmp .ge 115, 3) := by decide +kernel
theorem d_Ru_placeTrailers_13 : decode b_Ru_placeTrailers 13 = .ok (.aload_n 0, 1) := by decide +kernel
theorem d_Ru_placeTrailers_14 : decode b_Ru_placeTrailers 14 = .ok (.getfield 12, 3) := by decide +kernel
theorem d_Ru_placeTrailers_17 : decode b_Ru_placeTrailers 17 = .ok (.iload_n 1, 1) := by decide +kernel
theorem d_Ru_placeTrailers_18 : decode b_Ru_placeTrailers 18 = .ok (.iconst 1, 1) := by decide +kernel
theorem d_Ru_placeTrailers_19 : decode b_Ru_placeTrailers 19 = .ok (.isub, 1) := by decide +kernel
theorem d_Ru_placeTrailers_20 : decode b_Ru_placeTrailers 20 = .ok (.aaload, 1) := by decide +kernel
theorem d_Ru_placeTrailers_21 : decode b_Ru_placeTrailers 21 = .ok (.astore_n 2, 1) := by decide +kernel
theorem d_Ru_placeTrailers_22 : decode b_Ru_placeTrailers 22 = .ok (.aload_n 0, 1) := by decide +kernel
theorem d_Ru_placeTrailers_23 : decode b_Ru_placeTrailers 23 = .ok (.getfield 12, 3) := by decide +kernel
theorem d_Ru_placeTrailers_26 : decode b_Ru_placeTrailers 26 = .ok (.iload_n 1, 1) := by decide +kernel
theorem d_Ru_placeTrailers_27 : decode b_Ru_placeTrailers 27 = .ok (.aaload, 1) := by decide +kernel
theorem d_Ru_placeTrailers_28 : decode b_Ru_placeTrailers 28 = .ok (.astore_n 3, 1) := by decide +kernel
theorem d_Ru_placeTrailers_29 : decode b_Ru_placeTrailers 29 = .ok (.aload_n 0, 1) := by decide +kernel
theorem d_Ru_placeTrailers_30 : decode b_Ru_placeTrailers 30 = .ok (.getfield 35, 3) := by decide +kernel
theorem d_Ru_placeTrailers_33 : decode b_Ru_placeTrailers 33 = .ok (.getfield 136, 3) := by decide +kernel
theorem d_Ru_placeTrailers_36 : decode b_Ru_placeTrailers 36 = .ok (.iload_n 1, 1) := by decide +kernel
theorem d_Ru_placeTrailers_37 : decode b_Ru_placeTrailers 37 = .ok (.iconst 1, 1) := by decide +kernel
theorem d_Ru_placeTrailers_38 : decode b_Ru_placeTrailers 38 = .ok (.isub, 1) := by decide +kernel
theorem d_Ru_placeTrailers_39 : decode b_Ru_placeTrailers 39 = .ok (.aaload, 1) := by decide +kernel
theorem d_Ru_placeTrailers_40 : decode b_Ru_placeTrailers 40 = .ok (.getfield 151, 3) := by decide +kernel
theorem d_Ru_placeTrailers_43 : decode b_Ru_placeTrailers 43 = .ok (.istore 4, 2) := by decide +kernel
theorem d_Ru_placeTrailers_45 : decode b_Ru_placeTrailers 45 = .ok (.aload_n 0, 1) := by decide +kernel
theorem d_Ru_placeTrailers_46 : decode b_Ru_placeTrailers 46 = .ok (.getfield 35, 3) := by decide +kernel
theorem d_Ru_placeTrailers_49 : decode b_Ru_placeTrailers 49 = .ok (.getfield 136, 3) := by decide +kernel
theorem d_Ru_placeTrailers_52 : decode b_Ru_placeTrailers 52 = .ok (.iload_n 1, 1) := by decide +kernel
theorem d_Ru_placeTrailers_53 : decode b_Ru_placeTrailers 53 = .ok (.aaload, 1) := by decide +kernel
theorem d_Ru_placeTrailers_54 : decode b_Ru_placeTrailers 54 = .ok (.getfield 148, 3) := by decide +kernel
theorem d_Ru_placeTrailers_57 : decode b_Ru_placeTrailers 57 = .ok (.istore 5, 2) := by decide +kernel
theorem d_Ru_placeTrailers_59 : decode b_Ru_placeTrailers 59 = .ok (.aload_n 3, 1) := by decide +kernel
theorem d_Ru_placeTrailers_60 : decode b_Ru_placeTrailers 60 = .ok (.aload_n 2, 1) := by decide +kernel
theorem d_Ru_placeTrailers_61 : decode b_Ru_placeTrailers 61 = .ok (.getfield 69, 3) := by decide +kernel
theorem d_Ru_placeTrailers_64 : decode b_Ru_placeTrailers 64 = .ok (.iload 4, 2) := by decide +kernel
theorem d_Ru_placeTrailers_66 : decode b_Ru_placeTrailers 66 = .ok (.aload_n 2, 1) := by decide +kernel
theorem d_Ru_placeTrailers_67 : decode b_Ru_placeTrailers 67 = .ok (.getfield 57, 3) := by decide +kernel
theorem d_Ru_placeTrailers_70 : decode b_Ru_placeTrailers 70 = .ok (.invokestatic 123, 3) := by decide +kernel
theorem d_Ru_placeTrailers_73 : decode b_Ru_placeTrailers 73 = .ok (.imul, 1) := by decide +kernel
theorem d_Ru_placeTrailers_74 : decode b_Ru_placeTrailers 74 = .ok (.isub, 1) := by decide +kernel
theorem d_Ru_placeTrailers_75 : decode b_Ru_placeTrailers 75 = .ok (.iload 5, 2) := by decide +kernel
theorem d_Ru_placeTrailers_77 : decode b_Ru_placeTrailers 77 = .ok (.aload_n 3, 1) := by decide +kernel
theorem d_Ru_placeTrailers_78 : decode b_Ru_placeTrailers 78 = .ok (.getfield 57, 3) := by decide +kernel
theorem d_Ru_placeTrailers_81 : decode b_Ru_placeTrailers 81 = .ok (.invokestatic 123, 3) := by decide +kernel
theorem d_Ru_placeTrailers_84 : decode b_Ru_placeTrailers 84 = .ok (.imul, 1) := by decide +kernel
theorem d_Ru_placeTrailers_85 : decode b_Ru_placeTrailers 85 = .ok (.isub, 1) := by decide +kernel
theorem d_Ru_placeTrailers_86 : decode b_Ru_placeTrailers 86 = .ok (.putfield 69, 3) := by decide +kernel
theorem d_Ru_placeTrailers_89 : decode b_Ru_placeTrailers 89 = .ok (.aload_n 3, 1) := by decide +kernel
theorem d_Ru_placeTrailers_90 : decode b_Ru_placeTrailers 90 = .ok (.aload_n 2, 1) := by decide +kernel
theorem d_Ru_placeTrailers_91 : decode b_Ru_placeTrailers 91 = .ok (.getfield 75, 3) := by decide +kernel
theorem d_Ru_placeTrailers_94 : decode b_Ru_placeTrailers 94 = .ok (.iload 4, 2) := by decide +kernel
theorem d_Ru_placeTrailers_96 : decode b_Ru_placeTrailers 96 = .ok (.aload_n 2, 1) := by decide +kernel
theorem d_Ru_placeTrailers_97 : decode b_Ru_placeTrailers 97 = .ok (.getfield 57, 3) := by decide +kernel
theorem d_Ru_placeTrailers_100 : decode b_Ru_placeTrailers 100 = .ok (.invokestatic 127, 3) := by decide +kernel
theorem d_Ru_placeTrailers_103 : decode b_Ru_placeTrailers 103 = .ok (.imul, 1) := by decide +kernel
theorem d_Ru_placeTrailers_104 : decode b_Ru_placeTrailers 104 = .ok (.isub, 1) := by decide +kernel
theorem d_Ru_placeTrailers_105 : decode b_Ru_placeTrailers 105 = .ok (.iload 5, 2) := by decide +kernel
theorem d_Ru_placeTrailers_107 : decode b_Ru_placeTrailers 107 = .ok (.aload_n 3, 1) := by decide +kernel
theorem d_Ru_placeTrailers_108 : decode b_Ru_placeTrailers 108 = .ok (.getfield 57, 3) := by decide +kernel
theorem d_Ru_placeTrailers_111 : decode b_Ru_placeTrailers 111 = .ok (.invokestatic 127, 3) := by decide +kernel
theorem d_Ru_placeTrailers_114 : decode b_Ru_placeTrailers 114 = .ok (.imul, 1) := by decide +kernel
theorem d_Ru_placeTrailers_115 : decode b_Ru_placeTrailers 115 = .ok (.isub, 1) := by decide +kernel
theorem d_Ru_placeTrailers_116 : decode b_Ru_placeTrailers 116 = .ok (.putfield 75, 3) := by decide +kernel
theorem d_Ru_placeTrailers_119 : decode b_Ru_placeTrailers 119 = .ok (.iinc 1 1, 3) := by decide +kernel
theorem d_Ru_placeTrailers_122 : decode b_Ru_placeTrailers 122 = .ok (.goto (-120), 3) := by decide +kernel
theorem d_Ru_placeTrailers_125 : decode b_Ru_placeTrailers 125 = .ok (.return_, 1) := by decide +kernel
theorem d_Ru_measureAskew_0 : decode b_Ru_measureAskew 0 = .ok (.iconst 1, 1) := by decide +kernel
theorem d_Ru_measureAskew_1 : decode b_Ru_measureAskew 1 = .ok (.istore_n 1, 1) := by decide +kernel
theorem d_Ru_measureAskew_2 : decode b_Ru_measureAskew 2 = .ok (.iload_n 1, 1) := by decide +kernel
theorem d_Ru_measureAskew_3 : decode b_Ru_measureAskew 3 = .ok (.aload_n 0, 1) := by decide +kernel
theorem d_Ru_measureAskew_4 : decode b_Ru_measureAskew 4 = .ok (.getfield 35, 3) := by decide +kernel
theorem d_Ru_measureAskew_7 : decode b_Ru_measureAskew 7 = .ok (.getfield 49, 3) := by decide +kernel
theorem d_Ru_measureAskew_10 : decode b_Ru_measureAskew 10 = .ok (.if_icmp .ge 51, 3) := by decide +kernel
theorem d_Ru_measureAskew_13 : decode b_Ru_measureAskew 13 = .ok (.aload_n 0, 1) := by decide +kernel
theorem d_Ru_measureAskew_14 : decode b_Ru_measureAskew 14 = .ok (.iload_n 1, 1) := by decide +kernel
theorem d_Ru_measureAskew_15 : decode b_Ru_measureAskew 15 = .ok (.invokevirtual 140, 3) := by decide +kernel
theorem d_Ru_measureAskew_18 : decode b_Ru_measureAskew 18 = .ok (.invokestatic 154, 3) := by decide +kernel
theorem d_Ru_measureAskew_21 : decode b_Ru_measureAskew 21 = .ok (.istore_n 2, 1) := by decide +kernel
theorem d_Ru_measureAskew_22 : decode b_Ru_measureAskew 22 = .ok (.aload_n 0, 1) := by decide +kernel
theorem d_Ru_measureAskew_23 : decode b_Ru_measureAskew 23 = .ok (.getfield 12, 3) := by decide +kernel
theorem d_Ru_measureAskew_26 : decode b_Ru_measureAskew 26 = .ok (.iload_n 1, 1) := by decide +kernel
theorem d_Ru_measureAskew_27 : decode b_Ru_measureAskew 27 = .ok (.aaload, 1) := by decide +kernel
theorem d_Ru_measureAskew_28 : decode b_Ru_measureAskew 28 = .ok (.aload_n 0, 1) := by decide +kernel
theorem d_Ru_measureAskew_29 : decode b_Ru_measureAskew 29 = .ok (.getfield 12, 3) := by decide +kernel
theorem d_Ru_measureAskew_32 : decode b_Ru_measureAskew 32 = .ok (.iload_n 1, 1) := by decide +kernel
theorem d_Ru_measureAskew_33 : decode b_Ru_measureAskew 33 = .ok (.aaload, 1) := by decide +kernel
theorem d_Ru_measureAskew_34 : decode b_Ru_measureAskew 34 = .ok (.getfield 63, 3) := by decide +kernel
theorem d_Ru_measureAskew_37 : decode b_Ru_measureAskew 37 = .ok (.iload_n 2, 1) := by decide +kernel
theorem d_Ru_measureAskew_38 : decode b_Ru_measureAskew 38 = .ok (.invokestatic 159, 3) := by decide +kernel
theorem d_Ru_measureAskew_41 : decode b_Ru_measureAskew 41 = .ok (.putfield 63, 3) := by decide +kernel
theorem d_Ru_measureAskew_44 : decode b_Ru_measureAskew 44 = .ok (.iload_n 2, 1) := by decide +kernel
theorem d_Ru_measureAskew_45 : decode b_Ru_measureAskew 45 = .ok (.bipush 24, 2) := by decide +kernel
theorem d_Ru_measureAskew_47 : decode b_Ru_measureAskew 47 = .ok (.if_icmp .le 8, 3) := by decide +kernel
theorem d_Ru_measureAskew_50 : decode b_Ru_measureAskew 50 = .ok (.aload_n 0, 1) := by decide +kernel
theorem d_Ru_measureAskew_51 : decode b_Ru_measureAskew 51 = .ok (.iconst 1, 1) := by decide +kernel
theorem d_Ru_measureAskew_52 : decode b_Ru_measureAskew 52 = .ok (.putfield 42, 3) := by decide +kernel
theorem d_Ru_measureAskew_55 : decode b_Ru_measureAskew 55 = .ok (.iinc 1 1, 3) := by decide +kernel
theorem d_Ru_measureAskew_58 : decode b_Ru_measureAskew 58 = .ok (.goto (-56), 3) := by decide +kernel
theorem d_Ru_measureAskew_61 : decode b_Ru_measureAskew 61 = .ok (.return_, 1) := by decide +kernel
theorem d_Ru_lookRound_0 : decode b_Ru_lookRound 0 = .ok (.iconst 0, 1) := by decide +kernel
theorem d_Ru_lookRound_1 : decode b_Ru_lookRound 1 = .ok (.istore_n 1, 1) := by decide +kernel
theorem d_Ru_lookRound_2 : decode b_Ru_lookRound 2 = .ok (.iload_n 1, 1) := by decide +kernel
theorem d_Ru_lookRound_3 : decode b_Ru_lookRound 3 = .ok (.aload_n 0, 1) := by decide +kernel
theorem d_Ru_lookRound_4 : decode b_Ru_lookRound 4 = .ok (.getfield 35, 3) := by decide +kernel
theorem d_Ru_lookRound_7 : decode b_Ru_lookRound 7 = .ok (.getfield 49, 3) := by decide +kernel
theorem d_Ru_lookRound_10 : decode b_Ru_lookRound 10 = .ok (.if_icmp .ge 44, 3) := by decide +kernel
theorem d_Ru_lookRound_13 : decode b_Ru_lookRound 13 = .ok (.aload_n 0, 1) := by decide +kernel
theorem d_Ru_lookRound_14 : decode b_Ru_lookRound 14 = .ok (.getfield 21, 3) := by decide +kernel
theorem d_Ru_lookRound_17 : decode b_Ru_lookRound 17 = .ok (.aload_n 0, 1) := by decide +kernel
theorem d_Ru_lookRound_18 : decode b_Ru_lookRound 18 = .ok (.getfield 35, 3) := by decide +kernel
theorem d_Ru_lookRound_21 : decode b_Ru_lookRound 21 = .ok (.getfield 136, 3) := by decide +kernel
theorem d_Ru_lookRound_24 : decode b_Ru_lookRound 24 = .ok (.iload_n 1, 1) := by decide +kernel
theorem d_Ru_lookRound_25 : decode b_Ru_lookRound 25 = .ok (.aaload, 1) := by decide +kernel
theorem d_Ru_lookRound_26 : decode b_Ru_lookRound 26 = .ok (.aload_n 0, 1) := by decide +kernel
theorem d_Ru_lookRound_27 : decode b_Ru_lookRound 27 = .ok (.getfield 12, 3) := by decide +kernel
theorem d_Ru_lookRound_30 : decode b_Ru_lookRound 30 = .ok (.iload_n 1, 1) := by decide +kernel
theorem d_Ru_lookRound_31 : decode b_Ru_lookRound 31 = .ok (.aaload, 1) := by decide +kernel
theorem d_Ru_lookRound_32 : decode b_Ru_lookRound 32 = .ok (.invokevirtual 162, 3) := by decide +kernel
theorem d_Ru_lookRound_35 : decode b_Ru_lookRound 35 = .ok (.aload_n 0, 1) := by decide +kernel
theorem d_Ru_lookRound_36 : decode b_Ru_lookRound 36 = .ok (.getfield 25, 3) := by decide +kernel
theorem d_Ru_lookRound_39 : decode b_Ru_lookRound 39 = .ok (.iconst (-1), 1) := by decide +kernel
theorem d_Ru_lookRound_40 : decode b_Ru_lookRound 40 = .ok (.if_icmp .ne 8, 3) := by decide +kernel
theorem d_Ru_lookRound_43 : decode b_Ru_lookRound 43 = .ok (.aload_n 0, 1) := by decide +kernel
theorem d_Ru_lookRound_44 : decode b_Ru_lookRound 44 = .ok (.iload_n 1, 1) := by decide +kernel
theorem d_Ru_lookRound_45 : decode b_Ru_lookRound 45 = .ok (.invokevirtual 166, 3) := by decide +kernel
theorem d_Ru_lookRound_48 : decode b_Ru_lookRound 48 = .ok (.iinc 1 1, 3) := by decide +kernel
theorem d_Ru_lookRound_51 : decode b_Ru_lookRound 51 = .ok (.goto (-49), 3) := by decide +kernel
theorem d_Ru_lookRound_54 : decode b_Ru_lookRound 54 = .ok (.return_, 1) := by decide +kernel
theorem d_Ru_lookForPoles_0 : decode b_Ru_lookForPoles 0 = .ok (.aload_n 0, 1) := by decide +kernel
theorem d_Ru_lookForPoles_1 : decode b_Ru_lookForPoles 1 = .ok (.getfield 35, 3) := by decide +kernel
theorem d_Ru_lookForPoles_4 : decode b_Ru_lookForPoles 4 = .ok (.getfield 136, 3) := by decide +kernel
theorem d_Ru_lookForPoles_7 : decode b_Ru_lookForPoles 7 = .ok (.iload_n 1, 1) := by decide +kernel
theorem d_Ru_lookForPoles_8 : decode b_Ru_lookForPoles 8 = .ok (.aaload, 1) := by decide +kernel
theorem d_Ru_lookForPoles_9 : decode b_Ru_lookForPoles 9 = .ok (.astore_n 2, 1) := by decide +kernel
theorem d_Ru_lookForPoles_10 : decode b_Ru_lookForPoles 10 = .ok (.aload_n 0, 1) := by decide +kernel
theorem d_Ru_lookForPoles_11 : decode b_Ru_lookForPoles 11 = .ok (.getfield 12, 3) := by decide +kernel
theorem d_Ru_lookForPoles_14 : decode b_Ru_lookForPoles 14 = .ok (.iload_n 1, 1) := by decide +kernel
theorem d_Ru_lookForPoles_15 : decode b_Ru_lookForPoles 15 = .ok (.aaload, 1) := by decide +kernel
theorem d_Ru_lookForPoles_16 : decode b_Ru_lookForPoles 16 = .ok (.astore_n 3, 1) := by decide +kernel
theorem d_Ru_lookForPoles_17 : decode b_Ru_lookForPoles 17 = .ok (.aload_n 3, 1) := by decide +kernel
theorem d_Ru_lookForPoles_18 : decode b_Ru_lookForPoles 18 = .ok (.getfield 57, 3) := by decide +kernel
theorem d_Ru_lookForPoles_21 : decode b_Ru_lookForPoles 21 = .ok (.invokestatic 123, 3) := by decide +kernel
theorem d_Ru_lookForPoles_24 : decode b_Ru_lookForPoles 24 = .ok (.i2l, 1) := by decide +kernel
theorem d_Ru_lookForPoles_25 : decode b_Ru_lookForPoles 25 = .ok (.lstore 4, 2) := by decide +kernel
theorem d_Ru_lookForPoles_27 : decode b_Ru_lookForPoles 27 = .ok (.aload_n 3, 1) := by decide +kernel
theorem d_Ru_lookForPoles_28 : decode b_Ru_lookForPoles 28 = .ok (.getfield 57, 3) := by decide +kernel
theorem d_Ru_lookForPoles_31 : decode b_Ru_lookForPoles 31 = .ok (.invokestatic 127, 3) := by decide +kernel
theorem d_Ru_lookForPoles_34 : decode b_Ru_lookForPoles 34 = .ok (.i2l, 1) := by decide +kernel
theorem d_Ru_lookForPoles_35 : decode b_Ru_lookForPoles 35 = .ok (.lstore 6, 2) := by decide +kernel
theorem d_Ru_lookForPoles_37 : decode b_Ru_lookForPoles 37 = .ok (.iconst 0, 1) := by decide +kernel
theorem d_Ru_lookForPoles_38 : decode b_Ru_lookForPoles 38 = .ok (.istore 8, 2) := by decide +kernel
theorem d_Ru_lookForPoles_40 : decode b_Ru_lookForPoles 40 = .ok (.iload 8, 2) := by decide +kernel
theorem d_Ru_lookForPoles_42 : decode b_Ru_lookForPoles 42 = .ok (.aload_n 0, 1) := by decide +kernel
theorem d_Ru_lookForPoles_43 : decode b_Ru_lookForPoles 43 = .ok (.getfield 35, 3) := by decide +kernel
theorem d_Ru_lookForPoles_46 : decode b_Ru_lookForPoles 46 = .ok (.getfield 170, 3) := by decide +kernel
theorem d_Ru_lookForPoles_49 : decode b_Ru_lookForPoles 49 = .ok (.if_icmp .ge 94, 3) := by decide +kernel
theorem d_Ru_lookForPoles_52 : decode b_Ru_lookForPoles 52 = .ok (.aload_n 0, 1) := by decide +kernel
theorem d_Ru_lookForPoles_53 : decode b_Ru_lookForPoles 53 = .ok (.getfield 35, 3) := by decide +kernel
theorem d_Ru_lookForPoles_56 : decode b_Ru_lookForPoles 56 = .ok (.getfield 173, 3) := by decide +kernel
theorem d_Ru_lookForPoles_59 : decode b_Ru_lookForPoles 59 = .ok (.iload 8, 2) := by decide +kernel
theorem d_Ru_lookForPoles_61 : decode b_Ru_lookForPoles 61 = .ok (.iaload, 1) := by decide +kernel
theorem d_Ru_lookForPoles_62 : decode b_Ru_lookForPoles 62 = .ok (.aload_n 3, 1) := by decide +kernel
theorem d_Ru_lookForPoles_63 : decode b_Ru_lookForPoles 63 = .ok (.getfield 69, 3) := by decide +kernel
theorem d_Ru_lookForPoles_66 : decode b_Ru_lookForPoles 66 = .ok (.isub, 1) := by decide +kernel
theorem d_Ru_lookForPoles_67 : decode b_Ru_lookForPoles 67 = .ok (.i2l, 1) := by decide +kernel
theorem d_Ru_lookForPoles_68 : decode b_Ru_lookForPoles 68 = .ok (.lstore 9, 2) := by decide +kernel
theorem d_Ru_lookForPoles_70 : decode b_Ru_lookForPoles 70 = .ok (.aload_n 0, 1) := by decide +kernel
theorem d_Ru_lookForPoles_71 : decode b_Ru_lookForPoles 71 = .ok (.getfield 35, 3) := by decide +kernel
theorem d_Ru_lookForPoles_74 : decode b_Ru_lookForPoles 74 = .ok (.getfield 176, 3) := by decide +kernel
theorem d_Ru_lookForPoles_77 : decode b_Ru_lookForPoles 77 = .ok (.iload 8, 2) := by decide +kernel
theorem d_Ru_lookForPoles_79 : decode b_Ru_lookForPoles 79 = .ok (.iaload, 1) := by decide +kernel
theorem d_Ru_lookForPoles_80 : decode b_Ru_lookForPoles 80 = .ok (.aload_n 3, 1) := by decide +kernel
theorem d_Ru_lookForPoles_81 : decode b_Ru_lookForPoles 81 = .ok (.getfield 75, 3) := by decide +kernel
theorem d_Ru_lookForPoles_84 : decode b_Ru_lookForPoles 84 = .ok (.isub, 1) := by decide +kernel
theorem d_Ru_lookForPoles_85 : decode b_Ru_lookForPoles 85 = .ok (.i2l, 1) := by decide +kernel
theorem d_Ru_lookForPoles_86 : decode b_Ru_lookForPoles 86 = .ok (.lstore 11, 2) := by decide +kernel
theorem d_Ru_lookForPoles_88 : decode b_Ru_lookForPoles 88 = .ok (.aload_n 2, 1) := by decide +kernel
theorem d_Ru_lookForPoles_89 : decode b_Ru_lookForPoles 89 = .ok (.lload 9, 2) := by decide +kernel
theorem d_Ru_lookForPoles_91 : decode b_Ru_lookForPoles 91 = .ok (.lload 4, 2) := by decide +kernel
theorem d_Ru_lookForPoles_93 : decode b_Ru_lookForPoles 93 = .ok (.lmul, 1) := by decide +kernel
theorem d_Ru_lookForPoles_94 : decode b_Ru_lookForPoles 94 = .ok (.lload 11, 2) := by decide +kernel
theorem d_Ru_lookForPoles_96 : decode b_Ru_lookForPoles 96 = .ok (.lload 6, 2) := by decide +kernel
theorem d_Ru_lookForPoles_98 : decode b_Ru_lookForPoles 98 = .ok (.lmul, 1) := by decide +kernel
theorem d_Ru_lookForPoles_99 : decode b_Ru_lookForPoles 99 = .ok (.ladd, 1) := by decide +kernel
theorem d_Ru_lookForPoles_100 : decode b_Ru_lookForPoles 100 = .ok (.lload 11, 2) := by decide +kernel
theorem d_Ru_lookForPoles_102 : decode b_Ru_lookForPoles 102 = .ok (.lload 4, 2) := by decide +kernel
theorem d_Ru_lookForPoles_104 : decode b_Ru_lookForPoles 104 = .ok (.lmul, 1) := by decide +kernel
theorem d_Ru_lookForPoles_105 : decode b_Ru_lookForPoles 105 = .ok (.lload 9, 2) := by decide +kernel
theorem d_Ru_lookForPoles_107 : decode b_Ru_lookForPoles 107 = .ok (.lload 6, 2) := by decide +kernel
theorem d_Ru_lookForPoles_109 : decode b_Ru_lookForPoles 109 = .ok (.lmul, 1) := by decide +kernel
theorem d_Ru_lookForPoles_110 : decode b_Ru_lookForPoles 110 = .ok (.lsub, 1) := by decide +kernel
theorem d_Ru_lookForPoles_111 : decode b_Ru_lookForPoles 111 = .ok (.invokevirtual 179, 3) := by decide +kernel
theorem d_Ru_lookForPoles_114 : decode b_Ru_lookForPoles 114 = .ok (.ifCond .eq 23, 3) := by decide +kernel
theorem d_Ru_lookForPoles_117 : decode b_Ru_lookForPoles 117 = .ok (.aload_n 0, 1) := by decide +kernel
theorem d_Ru_lookForPoles_118 : decode b_Ru_lookForPoles 118 = .ok (.aload_n 0, 1) := by decide +kernel
theorem d_Ru_lookForPoles_119 : decode b_Ru_lookForPoles 119 = .ok (.getfield 39, 3) := by decide +kernel
theorem d_Ru_lookForPoles_122 : decode b_Ru_lookForPoles 122 = .ok (.putfield 25, 3) := by decide +kernel
theorem d_Ru_lookForPoles_125 : decode b_Ru_lookForPoles 125 = .ok (.aload_n 0, 1) := by decide +kernel
theorem d_Ru_lookForPoles_126 : decode b_Ru_lookForPoles 126 = .ok (.iload_n 1, 1) := by decide +kernel
theorem d_Ru_lookForPoles_127 : decode b_Ru_lookForPoles 127 = .ok (.putfield 29, 3) := by decide +kernel
theorem d_Ru_lookForPoles_130 : decode b_Ru_lookForPoles 130 = .ok (.aload_n 0, 1) := by decide +kernel
theorem d_Ru_lookForPoles_131 : decode b_Ru_lookForPoles 131 = .ok (.iload 8, 2) := by decide +kernel
theorem d_Ru_lookForPoles_133 : decode b_Ru_lookForPoles 133 = .ok (.putfield 32, 3) := by decide +kernel
theorem d_Ru_lookForPoles_136 : decode b_Ru_lookForPoles 136 = .ok (.return_, 1) := by decide +kernel
theorem d_Ru_lookForPoles_137 : decode b_Ru_lookForPoles 137 = .ok (.iinc 8 1, 3) := by decide +kernel
theorem d_Ru_lookForPoles_140 : decode b_Ru_lookForPoles 140 = .ok (.goto (-100), 3) := by decide +kernel
theorem d_Ru_lookForPoles_143 : decode b_Ru_lookForPoles 143 = .ok (.return_, 1) := by decide +kernel
theorem d_Se_init_0 : decode b_Se_init 0 = .ok (.aload_n 0, 1) := by decide +kernel
theorem d_Se_init_1 : decode b_Se_init 1 = .ok (.invokespecial 3, 3) := by decide +kernel
theorem d_Se_init_4 : decode b_Se_init 4 = .ok (.aload_n 0, 1) := by decide +kernel
theorem d_Se_init_5 : decode b_Se_init 5 = .ok (.iconst 3, 1) := by decide +kernel
theorem d_Se_init_6 : decode b_Se_init 6 = .ok (.anewarray 9, 3) := by decide +kernel
theorem d_Se_init_9 : decode b_Se_init 9 = .ok (.dup, 1) := by decide +kernel
theorem d_Se_init_10 : decode b_Se_init 10 = .ok (.iconst 0, 1) := by decide +kernel
theorem d_Se_init_11 : decode b_Se_init 11 = .ok (.new 9, 3) := by decide +kernel
theorem d_Se_init_14 : decode b_Se_init 14 = .ok (.dup, 1) := by decide +kernel
theorem d_Se_init_15 : decode b_Se_init 15 = .ok (.invokespecial 11, 3) := by decide +kernel
theorem d_Se_init_18 : decode b_Se_init 18 = .ok (.aastore, 1) := by decide +kernel
theorem d_Se_init_19 : decode b_Se_init 19 = .ok (.dup, 1) := by decide +kernel
theorem d_Se_init_20 : decode b_Se_init 20 = .ok (.iconst 1, 1) := by decide +kernel
theorem d_Se_init_21 : decode b_Se_init 21 = .ok (.new 9, 3) := by decide +kernel
theorem d_Se_init_24 : decode b_Se_init 24 = .ok (.dup, 1) := by decide +kernel
theorem d_Se_init_25 : decode b_Se_init 25 = .ok (.invokespecial 11, 3) := by decide +kernel
theorem d_Se_init_28 : decode b_Se_init 28 = .ok (.aastore, 1) := by decide +kernel
theorem d_Se_init_29 : decode b_Se_init 29 = .ok (.dup, 1) := by decide +kernel
theorem d_Se_init_30 : decode b_Se_init 30 = .ok (.iconst 2, 1) := by decide +kernel
theorem d_Se_init_31 : decode b_Se_init 31 = .ok (.new 9, 3) := by decide +kernel
theorem d_Se_init_34 : decode b_Se_init 34 = .ok (.dup, 1) := by decide +kernel
theorem d_Se_init_35 : decode b_Se_init 35 = .ok (.invokespecial 11, 3) := by decide +kernel
theorem d_Se_init_38 : decode b_Se_init 38 = .ok (.aastore, 1) := by decide +kernel
theorem d_Se_init_39 : decode b_Se_init 39 = .ok (.putfield 12, 3) := by decide +kernel
theorem d_Se_init_42 : decode b_Se_init 42 = .ok (.aload_n 0, 1) := by decide +kernel
theorem d_Se_init_43 : decode b_Se_init 43 = .ok (.bipush 20, 2) := by decide +kernel
theorem d_Se_init_45 : decode b_Se_init 45 = .ok (.newarray .int, 2) := by decide +kernel
theorem d_Se_init_47 : decode b_Se_init 47 = .ok (.putfield 18, 3) := by decide +kernel
theorem d_Se_init_50 : decode b_Se_init 50 = .ok (.aload_n 0, 1) := by decide +kernel
theorem d_Se_init_51 : decode b_Se_init 51 = .ok (.bipush 20, 2) := by decide +kernel
theorem d_Se_init_53 : decode b_Se_init 53 = .ok (.newarray .int, 2) := by decide +kernel
theorem d_Se_init_55 : decode b_Se_init 55 = .ok (.putfield 22, 3) := by decide +kernel
theorem d_Se_init_58 : decode b_Se_init 58 = .ok (.aload_n 0, 1) := by decide +kernel
theorem d_Se_init_59 : decode b_Se_init 59 = .ok (.iconst 4, 1) := by decide +kernel
theorem d_Se_init_60 : decode b_Se_init 60 = .ok (.putfield 25, 3) := by decide +kernel
theorem d_Se_init_63 : decode b_Se_init 63 = .ok (.return_, 1) := by decide +kernel
theorem d_Sh_init_0 : decode b_Sh_init 0 = .ok (.aload_n 0, 1) := by decide +kernel
theorem d_Sh_init_1 : decode b_Sh_init 1 = .ok (.invokespecial 3, 3) := by decide +kernel
theorem d_Sh_init_4 : decode b_Sh_init 4 = .ok (.aload_n 0, 1) := by decide +kernel
theorem d_Sh_init_5 : decode b_Sh_init 5 = .ok (.iconst 1, 1) := by decide +kernel
theorem d_Sh_init_6 : decode b_Sh_init 6 = .ok (.putfield 9, 3) := by decide +kernel
theorem d_Sh_init_9 : decode b_Sh_init 9 = .ok (.return_, 1) := by decide +kernel
theorem d_Sh_holds_0 : decode b_Sh_holds 0 = .ok (.lload_n 1, 1) := by decide +kernel
theorem d_Sh_holds_1 : decode b_Sh_holds 1 = .ok (.aload_n 0, 1) := by decide +kernel
theorem d_Sh_holds_2 : decode b_Sh_holds 2 = .ok (.getfield 15, 3) := by decide +kernel
theorem d_Sh_holds_5 : decode b_Sh_holds 5 = .ok (.ineg, 1) := by decide +kernel
theorem d_Sh_holds_6 : decode b_Sh_holds 6 = .ok (.i2l, 1) := by decide +kernel
theorem d_Sh_holds_7 : decode b_Sh_holds 7 = .ok (.ldc2_w 18, 3) := by decide +kernel
theorem d_Sh_holds_10 : decode b_Sh_holds 10 = .ok (.lmul, 1) := by decide +kernel
theorem d_Sh_holds_11 : decode b_Sh_holds 11 = .ok (.lcmp, 1) := by decide +kernel
theorem d_Sh_holds_12 : decode b_Sh_holds 12 = .ok (.ifCond .lt 50, 3) := by decide +kernel
theorem d_Sh_holds_15 : decode b_Sh_holds 15 = .ok (.lload_n 1, 1) := by decide +kernel
theorem d_Sh_holds_16 : decode b_Sh_holds 16 = .ok (.aload_n 0, 1) := by decide +kernel
theorem d_Sh_holds_17 : decode b_Sh_holds 17 = .ok (.getfield 20, 3) := by decide +kernel
theorem d_Sh_holds_20 : decode b_Sh_holds 20 = .ok (.i2l, 1) := by decide +kernel
theorem d_Sh_holds_21 : decode b_Sh_holds 21 = .ok (.ldc2_w 18, 3) := by decide +kernel
theorem d_Sh_holds_24 : decode b_Sh_holds 24 = .ok (.lmul, 1) := by decide +kernel
theorem d_Sh_holds_25 : decode b_Sh_holds 25 = .ok (.lcmp, 1) := by decide +kernel
theorem d_Sh_holds_26 : decode b_Sh_holds 26 = .ok (.ifCond .gt 36, 3) := by decide +kernel
theorem d_Sh_holds_29 : decode b_Sh_holds 29 = .ok (.lload_n 3, 1) := by decide +kernel
theorem d_Sh_holds_30 : decode b_Sh_holds 30 = .ok (.aload_n 0, 1) := by decide +kernel
theorem d_Sh_holds_31 : decode b_Sh_holds 31 = .ok (.getfield 23, 3) := by decide +kernel
theorem d_Sh_holds_34 : decode b_Sh_holds 34 = .ok (.ineg, 1) := by decide +kernel
theorem d_Sh_holds_35 : decode b_Sh_holds 35 = .ok (.i2l, 1) := by decide +kernel
theorem d_Sh_holds_36 : decode b_Sh_holds 36 = .ok (.ldc2_w 18, 3) := by decide +kernel
theorem d_Sh_holds_39 : decode b_Sh_holds 39 = .ok (.lmul, 1) := by decide +kernel
theorem d_Sh_holds_40 : decode b_Sh_holds 40 = .ok (.lcmp, 1) := by decide +kernel
theorem d_Sh_holds_41 : decode b_Sh_holds 41 = .ok (.ifCond .lt 21, 3) := by decide +kernel
theorem d_Sh_holds_44 : decode b_Sh_holds 44 = .ok (.lload_n 3, 1) := by decide +kernel
theorem d_Sh_holds_45 : decode b_Sh_holds 45 = .ok (.aload_n 0, 1) := by decide +kernel
theorem d_Sh_holds_46 : decode b_Sh_holds 46 = .ok (.getfield 23, 3) := by decide +kernel
theorem d_Sh_holds_49 : decode b_Sh_holds 49 = .ok (.i2l, 1) := by decide +kernel
theorem d_Sh_holds_50 : decode b_Sh_holds 50 = .ok (.ldc2_w 18, 3) := by decide +kernel
theorem d_Sh_holds_53 : decode b_Sh_holds 53 = .ok (.lmul, 1) := by decide +kernel
theorem d_Sh_holds_54 : decode b_Sh_holds 54 = .ok (.lcmp, 1) := by decide +kernel
theorem d_Sh_holds_55 : decode b_Sh_holds 55 = .ok (.ifCond .gt 7, 3) := by decide +kernel
theorem d_Sh_holds_58 : decode b_Sh_holds 58 = .ok (.iconst 1, 1) := by decide +kernel
theorem d_Sh_holds_59 : decode b_Sh_holds 59 = .ok (.goto 4, 3) := by decide +kernel
theorem d_Sh_holds_62 : decode b_Sh_holds 62 = .ok (.iconst 0, 1) := by decide +kernel
theorem d_Sh_holds_63 : decode b_Sh_holds 63 = .ok (.ireturn, 1) := by decide +kernel
theorem d_Sh_directionsIn_0 : decode b_Sh_directionsIn 0 = .ok (.aload_n 0, 1) := by decide +kernel
theorem d_Sh_directionsIn_1 : decode b_Sh_directionsIn 1 = .ok (.getfield 9, 3) := by decide +kernel
theorem d_Sh_directionsIn_4 : decode b_Sh_directionsIn 4 = .ok (.iconst 1, 1) := by decide +kernel
theorem d_Sh_directionsIn_5 : decode b_Sh_directionsIn 5 = .ok (.if_icmp .ge 7, 3) := by decide +kernel
theorem d_Sh_directionsIn_8 : decode b_Sh_directionsIn 8 = .ok (.iconst 0, 1) := by decide +kernel
theorem d_Sh_directionsIn_9 : decode b_Sh_directionsIn 9 = .ok (.goto 9, 3) := by decide +kernel
theorem d_Sh_directionsIn_12 : decode b_Sh_directionsIn 12 = .ok (.iload_n 1, 1) := by decide +kernel
theorem d_Sh_directionsIn_13 : decode b_Sh_directionsIn 13 = .ok (.aload_n 0, 1) := by decide +kernel
theorem d_Sh_directionsIn_14 : decode b_Sh_directionsIn 14 = .ok (.getfield 9, 3) := by decide +kernel
theorem d_Sh_directionsIn_17 : decode b_Sh_directionsIn 17 = .ok (.idiv, 1) := by decide +kernel
theorem d_Sh_directionsIn_18 : decode b_Sh_directionsIn 18 = .ok (.ireturn, 1) := by decide +kernel
theorem d_La_body_0 : decode b_La_body 0 = .ok (.aload 6, 2) := by decide +kernel
theorem d_La_body_2 : decode b_La_body 2 = .ok (.iconst 0, 1) := by decide +kernel
theorem d_La_body_3 : decode b_La_body 3 = .ok (.aload_n 0, 1) := by decide +kernel
theorem d_La_body_4 : decode b_La_body 4 = .ok (.iload_n 1, 1) := by decide +kernel
theorem d_La_body_5 : decode b_La_body 5 = .ok (.iload_n 2, 1) := by decide +kernel
theorem d_La_body_6 : decode b_La_body 6 = .ok (.iload_n 3, 1) := by decide +kernel
theorem d_La_body_7 : decode b_La_body 7 = .ok (.iload 4, 2) := by decide +kernel
theorem d_La_body_9 : decode b_La_body 9 = .ok (.iload 5, 2) := by decide +kernel
theorem d_La_body_11 : decode b_La_body 11 = .ok (.invokevirtual 7, 3) := by decide +kernel
theorem d_La_body_14 : decode b_La_body 14 = .ok (.i2l, 1) := by decide +kernel
theorem d_La_body_15 : decode b_La_body 15 = .ok (.lastore, 1) := by decide +kernel
theorem d_La_body_16 : decode b_La_body 16 = .ok (.goto 11, 3) := by decide +kernel
theorem d_La_body_19 : decode b_La_body 19 = .ok (.astore 7, 2) := by decide +kernel
theorem d_La_body_21 : decode b_La_body 21 = .ok (.iconst 1, 1) := by decide +kernel
theorem d_La_body_22 : decode b_La_body 22 = .ok (.ireturn, 1) := by decide +kernel
theorem d_La_body_23 : decode b_La_body 23 = .ok (.astore 7, 2) := by decide +kernel
theorem d_La_body_25 : decode b_La_body 25 = .ok (.iconst 2, 1) := by decide +kernel
theorem d_La_body_26 : decode b_La_body 26 = .ok (.ireturn, 1) := by decide +kernel
theorem d_La_body_27 : decode b_La_body 27 = .ok (.iconst 0, 1) := by decide +kernel
theorem d_La_body_28 : decode b_La_body 28 = .ok (.ireturn, 1) := by decide +kernel
theorem d_La_start_0 : decode b_La_start 0 = .ok (.aload_n 0, 1) := by decide +kernel
theorem d_La_start_1 : decode b_La_start 1 = .ok (.iload_n 1, 1) := by decide +kernel
theorem d_La_start_2 : decode b_La_start 2 = .ok (.iload_n 2, 1) := by decide +kernel
theorem d_La_start_3 : decode b_La_start 3 = .ok (.iload_n 3, 1) := by decide +kernel
theorem d_La_start_4 : decode b_La_start 4 = .ok (.invokevirtual 17, 3) := by decide +kernel
theorem d_La_start_7 : decode b_La_start 7 = .ok (.goto 7, 3) := by decide +kernel
theorem d_La_start_10 : decode b_La_start 10 = .ok (.astore 4, 2) := by decide +kernel
theorem d_La_start_12 : decode b_La_start 12 = .ok (.iconst 1, 1) := by decide +kernel
theorem d_La_start_13 : decode b_La_start 13 = .ok (.ireturn, 1) := by decide +kernel
theorem d_La_start_14 : decode b_La_start 14 = .ok (.iconst 0, 1) := by decide +kernel
theorem d_La_start_15 : decode b_La_start 15 = .ok (.ireturn, 1) := by decide +kernel
theorem d_La_step_0 : decode b_La_step 0 = .ok (.aload_n 2, 1) := by decide +kernel
theorem d_La_step_1 : decode b_La_step 1 = .ok (.iconst 0, 1) := by decide +kernel
theorem d_La_step_2 : decode b_La_step 2 = .ok (.aload_n 0, 1) := by decide +kernel
theorem d_La_step_3 : decode b_La_step 3 = .ok (.iload_n 1, 1) := by decide +kernel
theorem d_La_step_4 : decode b_La_step 4 = .ok (.invokevirtual 21, 3) := by decide +kernel
theorem d_La_step_7 : decode b_La_step 7 = .ok (.i2l, 1) := by decide +kernel
theorem d_La_step_8 : decode b_La_step 8 = .ok (.lastore, 1) := by decide +kernel
theorem d_La_step_9 : decode b_La_step 9 = .ok (.goto 6, 3) := by decide +kernel
theorem d_La_step_12 : decode b_La_step 12 = .ok (.astore_n 3, 1) := by decide +kernel
theorem d_La_step_13 : decode b_La_step 13 = .ok (.iconst 1, 1) := by decide +kernel
theorem d_La_step_14 : decode b_La_step 14 = .ok (.ireturn, 1) := by decide +kernel
theorem d_La_step_15 : decode b_La_step 15 = .ok (.iconst 0, 1) := by decide +kernel
theorem d_La_step_16 : decode b_La_step 16 = .ok (.ireturn, 1) := by decide +kernel
theorem d_La_pole_0 : decode b_La_pole 0 = .ok (.aload_n 3, 1) := by decide +kernel
theorem d_La_pole_1 : decode b_La_pole 1 = .ok (.iconst 0, 1) := by decide +kernel
theorem d_La_pole_2 : decode b_La_pole 2 = .ok (.aload_n 0, 1) := by decide +kernel
theorem d_La_pole_3 : decode b_La_pole 3 = .ok (.iload_n 1, 1) := by decide +kernel
theorem d_La_pole_4 : decode b_La_pole 4 = .ok (.iload_n 2, 1) := by decide +kernel
theorem d_La_pole_5 : decode b_La_pole 5 = .ok (.invokevirtual 25, 3) := by decide +kernel
theorem d_La_pole_8 : decode b_La_pole 8 = .ok (.i2l, 1) := by decide +kernel
theorem d_La_pole_9 : decode b_La_pole 9 = .ok (.lastore, 1) := by decide +kernel
theorem d_La_pole_10 : decode b_La_pole 10 = .ok (.goto 11, 3) := by decide +kernel
theorem d_La_pole_13 : decode b_La_pole 13 = .ok (.astore 4, 2) := by decide +kernel
theorem d_La_pole_15 : decode b_La_pole 15 = .ok (.iconst 1, 1) := by decide +kernel
theorem d_La_pole_16 : decode b_La_pole 16 = .ok (.ireturn, 1) := by decide +kernel
theorem d_La_pole_17 : decode b_La_pole 17 = .ok (.astore 4, 2) := by decide +kernel
theorem d_La_pole_19 : decode b_La_pole 19 = .ok (.iconst 2, 1) := by decide +kernel
theorem d_La_pole_20 : decode b_La_pole 20 = .ok (.ireturn, 1) := by decide +kernel
theorem d_La_pole_21 : decode b_La_pole 21 = .ok (.iconst 0, 1) := by decide +kernel
theorem d_La_pole_22 : decode b_La_pole 22 = .ok (.ireturn, 1) := by decide +kernel
theorem d_La_go_0 : decode b_La_go 0 = .ok (.aload 4, 2) := by decide +kernel
theorem d_La_go_2 : decode b_La_go 2 = .ok (.iconst 0, 1) := by decide +kernel
theorem d_La_go_3 : decode b_La_go 3 = .ok (.aload_n 0, 1) := by decide +kernel
theorem d_La_go_4 : decode b_La_go 4 = .ok (.iload_n 1, 1) := by decide +kernel
theorem d_La_go_5 : decode b_La_go 5 = .ok (.iload_n 2, 1) := by decide +kernel
theorem d_La_go_6 : decode b_La_go 6 = .ok (.iload_n 3, 1) := by decide +kernel
theorem d_La_go_7 : decode b_La_go 7 = .ok (.invokevirtual 29, 3) := by decide +kernel
theorem d_La_go_10 : decode b_La_go 10 = .ok (.i2l, 1) := by decide +kernel
theorem d_La_go_11 : decode b_La_go 11 = .ok (.lastore, 1) := by decide +kernel
theorem d_La_go_12 : decode b_La_go 12 = .ok (.goto 11, 3) := by decide +kernel
theorem d_La_go_15 : decode b_La_go 15 = .ok (.astore 5, 2) := by decide +kernel
theorem d_La_go_17 : decode b_La_go 17 = .ok (.iconst 1, 1) := by decide +kernel
theorem d_La_go_18 : decode b_La_go 18 = .ok (.ireturn, 1) := by decide +kernel
theorem d_La_go_19 : decode b_La_go 19 = .ok (.astore 5, 2) := by decide +kernel
theorem d_La_go_21 : decode b_La_go 21 = .ok (.iconst 2, 1) := by decide +kernel
theorem d_La_go_22 : decode b_La_go 22 = .ok (.ireturn, 1) := by decide +kernel
theorem d_La_go_23 : decode b_La_go 23 = .ok (.iconst 0, 1) := by decide +kernel
theorem d_La_go_24 : decode b_La_go 24 = .ok (.ireturn, 1) := by decide +kernel
theorem d_La_told_0 : decode b_La_told 0 = .ok (.aload_n 3, 1) := by decide +kernel
theorem d_La_told_1 : decode b_La_told 1 = .ok (.iconst 0, 1) := by decide +kernel
theorem d_La_told_2 : decode b_La_told 2 = .ok (.aload_n 0, 1) := by decide +kernel
theorem d_La_told_3 : decode b_La_told 3 = .ok (.iload_n 1, 1) := by decide +kernel
theorem d_La_told_4 : decode b_La_told 4 = .ok (.iload_n 2, 1) := by decide +kernel
theorem d_La_told_5 : decode b_La_told 5 = .ok (.invokevirtual 33, 3) := by decide +kernel
theorem d_La_told_8 : decode b_La_told 8 = .ok (.i2l, 1) := by decide +kernel
theorem d_La_told_9 : decode b_La_told 9 = .ok (.lastore, 1) := by decide +kernel
theorem d_La_told_10 : decode b_La_told 10 = .ok (.goto 7, 3) := by decide +kernel
theorem d_La_told_13 : decode b_La_told 13 = .ok (.astore 4, 2) := by decide +kernel
theorem d_La_told_15 : decode b_La_told 15 = .ok (.iconst 1, 1) := by decide +kernel
theorem d_La_told_16 : decode b_La_told 16 = .ok (.ireturn, 1) := by decide +kernel
theorem d_La_told_17 : decode b_La_told 17 = .ok (.iconst 0, 1) := by decide +kernel
theorem d_La_told_18 : decode b_La_told 18 = .ok (.ireturn, 1) := by decide +kernel
theorem d_La_corner_0 : decode b_La_corner 0 = .ok (.aload 4, 2) := by decide +kernel
theorem d_La_corner_2 : decode b_La_corner 2 = .ok (.iconst 0, 1) := by decide +kernel
theorem d_La_corner_3 : decode b_La_corner 3 = .ok (.aload_n 0, 1) := by decide +kernel
theorem d_La_corner_4 : decode b_La_corner 4 = .ok (.iload_n 1, 1) := by decide +kernel
theorem d_La_corner_5 : decode b_La_corner 5 = .ok (.iload_n 2, 1) := by decide +kernel
theorem d_La_corner_6 : decode b_La_corner 6 = .ok (.iload_n 3, 1) := by decide +kernel
theorem d_La_corner_7 : decode b_La_corner 7 = .ok (.invokevirtual 36, 3) := by decide +kernel
theorem d_La_corner_10 : decode b_La_corner 10 = .ok (.i2l, 1) := by decide +kernel
theorem d_La_corner_11 : decode b_La_corner 11 = .ok (.lastore, 1) := by decide +kernel
theorem d_La_corner_12 : decode b_La_corner 12 = .ok (.goto 7, 3) := by decide +kernel
theorem d_La_corner_15 : decode b_La_corner 15 = .ok (.astore 5, 2) := by decide +kernel
theorem d_La_corner_17 : decode b_La_corner 17 = .ok (.iconst 1, 1) := by decide +kernel
theorem d_La_corner_18 : decode b_La_corner 18 = .ok (.ireturn, 1) := by decide +kernel
theorem d_La_corner_19 : decode b_La_corner 19 = .ok (.iconst 0, 1) := by decide +kernel
theorem d_La_corner_20 : decode b_La_corner 20 = .ok (.ireturn, 1) := by decide +kernel
theorem d_La_cell_LPIIaJ_0 : decode b_La_cell_LPIIaJ 0 = .ok (.aload_n 3, 1) := by decide +kernel
theorem d_La_cell_LPIIaJ_1 : decode b_La_cell_LPIIaJ 1 = .ok (.iconst 0, 1) := by decide +kernel
theorem d_La_cell_LPIIaJ_2 : decode b_La_cell_LPIIaJ 2 = .ok (.aload_n 0, 1) := by decide +kernel
theorem d_La_cell_LPIIaJ_3 : decode b_La_cell_LPIIaJ 3 = .ok (.iload_n 1, 1) := by decide +kernel
theorem d_La_cell_LPIIaJ_4 : decode b_La_cell_LPIIaJ 4 = .ok (.iload_n 2, 1) := by decide +kernel
theorem d_La_cell_LPIIaJ_5 : decode b_La_cell_LPIIaJ 5 = .ok (.invokevirtual 40, 3) := by decide +kernel
theorem d_La_cell_LPIIaJ_8 : decode b_La_cell_LPIIaJ 8 = .ok (.ifCond .eq 7, 3) := by decide +kernel
theorem d_La_cell_LPIIaJ_11 : decode b_La_cell_LPIIaJ 11 = .ok (.lconst 1, 1) := by decide +kernel
theorem d_La_cell_LPIIaJ_12 : decode b_La_cell_LPIIaJ 12 = .ok (.goto 4, 3) := by decide +kernel
theorem d_La_cell_LPIIaJ_15 : decode b_La_cell_LPIIaJ 15 = .ok (.lconst 0, 1) := by decide +kernel
theorem d_La_cell_LPIIaJ_16 : decode b_La_cell_LPIIaJ 16 = .ok (.lastore, 1) := by decide +kernel
theorem d_La_cell_LPIIaJ_17 : decode b_La_cell_LPIIaJ 17 = .ok (.goto 7, 3) := by decide +kernel
theorem d_La_cell_LPIIaJ_20 : decode b_La_cell_LPIIaJ 20 = .ok (.astore 4, 2) := by decide +kernel
theorem d_La_cell_LPIIaJ_22 : decode b_La_cell_LPIIaJ 22 = .ok (.iconst 1, 1) := by decide +kernel
theorem d_La_cell_LPIIaJ_23 : decode b_La_cell_LPIIaJ 23 = .ok (.ireturn, 1) := by decide +kernel
theorem d_La_cell_LPIIaJ_24 : decode b_La_cell_LPIIaJ 24 = .ok (.iconst 0, 1) := by decide +kernel
theorem d_La_cell_LPIIaJ_25 : decode b_La_cell_LPIIaJ 25 = .ok (.ireturn, 1) := by decide +kernel
theorem d_La_clash_0 : decode b_La_clash 0 = .ok (.aload_n 2, 1) := by decide +kernel
theorem d_La_clash_1 : decode b_La_clash 1 = .ok (.iconst 0, 1) := by decide +kernel
theorem d_La_clash_2 : decode b_La_clash 2 = .ok (.aload_n 0, 1) := by decide +kernel
theorem d_La_clash_3 : decode b_La_clash 3 = .ok (.iload_n 1, 1) := by decide +kernel
theorem d_La_clash_4 : decode b_La_clash 4 = .ok (.invokevirtual 44, 3) := by decide +kernel
theorem d_La_clash_7 : decode b_La_clash 7 = .ok (.i2l, 1) := by decide +kernel
theorem d_La_clash_8 : decode b_La_clash 8 = .ok (.lastore, 1) := by decide +kernel
theorem d_La_clash_9 : decode b_La_clash 9 = .ok (.goto 6, 3) := by decide +kernel
theorem d_La_clash_12 : decode b_La_clash 12 = .ok (.astore_n 3, 1) := by decide +kernel
theorem d_La_clash_13 : decode b_La_clash 13 = .ok (.iconst 1, 1) := by decide +kernel
theorem d_La_clash_14 : decode b_La_clash 14 = .ok (.ireturn, 1) := by decide +kernel
theorem d_La_clash_15 : decode b_La_clash 15 = .ok (.iconst 0, 1) := by decide +kernel
theorem d_La_clash_16 : decode b_La_clash 16 = .ok (.ireturn, 1) := by decide +kernel
theorem d_La_part_0 : decode b_La_part 0 = .ok (.aload 5, 2) := by decide +kernel
theorem d_La_part_2 : decode b_La_part 2 = .ok (.iconst 0, 1) := by decide +kernel
theorem d_La_part_3 : decode b_La_part 3 = .ok (.aload_n 0, 1) := by decide +kernel
theorem d_La_part_4 : decode b_La_part 4 = .ok (.iload_n 1, 1) := by decide +kernel
theorem d_La_part_5 : decode b_La_part 5 = .ok (.iload_n 2, 1) := by decide +kernel
theorem d_La_part_6 : decode b_La_part 6 = .ok (.iload_n 3, 1) := by decide +kernel
theorem d_La_part_7 : decode b_La_part 7 = .ok (.iload 4, 2) := by decide +kernel
theorem d_La_part_9 : decode b_La_part 9 = .ok (.invokevirtual 47, 3) := by decide +kernel
theorem d_La_part_12 : decode b_La_part 12 = .ok (.i2l, 1) := by decide +kernel
theorem d_La_part_13 : decode b_La_part 13 = .ok (.lastore, 1) := by decide +kernel
theorem d_La_part_14 : decode b_La_part 14 = .ok (.goto 11, 3) := by decide +kernel
theorem d_La_part_17 : decode b_La_part 17 = .ok (.astore 6, 2) := by decide +kernel
theorem d_La_part_19 : decode b_La_part 19 = .ok (.iconst 1, 1) := by decide +kernel
theorem d_La_part_20 : decode b_La_part 20 = .ok (.ireturn, 1) := by decide +kernel
theorem d_La_part_21 : decode b_La_part 21 = .ok (.astore 6, 2) := by decide +kernel
theorem d_La_part_23 : decode b_La_part 23 = .ok (.iconst 2, 1) := by decide +kernel
theorem d_La_part_24 : decode b_La_part 24 = .ok (.ireturn, 1) := by decide +kernel
theorem d_La_part_25 : decode b_La_part 25 = .ok (.iconst 0, 1) := by decide +kernel
theorem d_La_part_26 : decode b_La_part 26 = .ok (.ireturn, 1) := by decide +kernel
theorem d_La_clear_0 : decode b_La_clear 0 = .ok (.aload_n 2, 1) := by decide +kernel
theorem d_La_clear_1 : decode b_La_clear 1 = .ok (.iconst 0, 1) := by decide +kernel
theorem d_La_clear_2 : decode b_La_clear 2 = .ok (.aload_n 0, 1) := by decide +kernel
theorem d_La_clear_3 : decode b_La_clear 3 = .ok (.iload_n 1, 1) := by decide +kernel
theorem d_La_clear_4 : decode b_La_clear 4 = .ok (.invokevirtual 51, 3) := by decide +kernel
theorem d_La_clear_7 : decode b_La_clear 7 = .ok (.i2l, 1) := by decide +kernel
theorem d_La_clear_8 : decode b_La_clear 8 = .ok (.lastore, 1) := by decide +kernel
theorem d_La_clear_9 : decode b_La_clear 9 = .ok (.goto 6, 3) := by decide +kernel
theorem d_La_clear_12 : decode b_La_clear 12 = .ok (.astore_n 3, 1) := by decide +kernel
theorem d_La_clear_13 : decode b_La_clear 13 = .ok (.iconst 1, 1) := by decide +kernel
theorem d_La_clear_14 : decode b_La_clear 14 = .ok (.ireturn, 1) := by decide +kernel
theorem d_La_clear_15 : decode b_La_clear 15 = .ok (.iconst 0, 1) := by decide +kernel
theorem d_La_clear_16 : decode b_La_clear 16 = .ok (.ireturn, 1) := by decide +kernel
theorem d_La_best_0 : decode b_La_best 0 = .ok (.aload_n 1, 1) := by decide +kernel
theorem d_La_best_1 : decode b_La_best 1 = .ok (.iconst 0, 1) := by decide +kernel
theorem d_La_best_2 : decode b_La_best 2 = .ok (.aload_n 0, 1) := by decide +kernel
theorem d_La_best_3 : decode b_La_best 3 = .ok (.invokevirtual 54, 3) := by decide +kernel
theorem d_La_best_6 : decode b_La_best 6 = .ok (.i2l, 1) := by decide +kernel
theorem d_La_best_7 : decode b_La_best 7 = .ok (.lastore, 1) := by decide +kernel
theorem d_La_best_8 : decode b_La_best 8 = .ok (.goto 6, 3) := by decide +kernel
theorem d_La_best_11 : decode b_La_best 11 = .ok (.astore_n 2, 1) := by decide +kernel
theorem d_La_best_12 : decode b_La_best 12 = .ok (.iconst 1, 1) := by decide +kernel
theorem d_La_best_13 : decode b_La_best 13 = .ok (.ireturn, 1) := by decide +kernel
theorem d_La_best_14 : decode b_La_best 14 = .ok (.iconst 0, 1) := by decide +kernel
theorem d_La_best_15 : decode b_La_best 15 = .ok (.ireturn, 1) := by decide +kernel
theorem d_La_sweeps_0 : decode b_La_sweeps 0 = .ok (.aload_n 2, 1) := by decide +kernel
theorem d_La_sweeps_1 : decode b_La_sweeps 1 = .ok (.iconst 0, 1) := by decide +kernel
theorem d_La_sweeps_2 : decode b_La_sweeps 2 = .ok (.aload_n 0, 1) := by decide +kernel
theorem d_La_sweeps_3 : decode b_La_sweeps 3 = .ok (.iload_n 1, 1) := by decide +kernel
theorem d_La_sweeps_4 : decode b_La_sweeps 4 = .ok (.invokevirtual 58, 3) := by decide +kernel
theorem d_La_sweeps_7 : decode b_La_sweeps 7 = .ok (.i2l, 1) := by decide +kernel
theorem d_La_sweeps_8 : decode b_La_sweeps 8 = .ok (.lastore, 1) := by decide +kernel
theorem d_La_sweeps_9 : decode b_La_sweeps 9 = .ok (.goto 9, 3) := by decide +kernel
theorem d_La_sweeps_12 : decode b_La_sweeps 12 = .ok (.astore_n 3, 1) := by decide +kernel
theorem d_La_sweeps_13 : decode b_La_sweeps 13 = .ok (.iconst 1, 1) := by decide +kernel
theorem d_La_sweeps_14 : decode b_La_sweeps 14 = .ok (.ireturn, 1) := by decide +kernel
theorem d_La_sweeps_15 : decode b_La_sweeps 15 = .ok (.astore_n 3, 1) := by decide +kernel
theorem d_La_sweeps_16 : decode b_La_sweeps 16 = .ok (.iconst 2, 1) := by decide +kernel
theorem d_La_sweeps_17 : decode b_La_sweeps 17 = .ok (.ireturn, 1) := by decide +kernel
theorem d_La_sweeps_18 : decode b_La_sweeps 18 = .ok (.iconst 0, 1) := by decide +kernel
theorem d_La_sweeps_19 : decode b_La_sweeps 19 = .ok (.ireturn, 1) := by decide +kernel
theorem d_Ob_init_0 : decode b_Ob_init 0 = .ok (.return_, 1) := by decide +kernel
theorem d_Ex_init_0 : decode b_Ex_init 0 = .ok (.aload_n 0, 1) := by decide +kernel
theorem d_Ex_init_1 : decode b_Ex_init 1 = .ok (.aload_n 1, 1) := by decide +kernel
theorem d_Ex_init_2 : decode b_Ex_init 2 = .ok (.invokespecial 7, 3) := by decide +kernel
theorem d_Ex_init_5 : decode b_Ex_init 5 = .ok (.return_, 1) := by decide +kernel
theorem d_IA_init_0 : decode b_IA_init 0 = .ok (.aload_n 0, 1) := by decide +kernel
theorem d_IA_init_1 : decode b_IA_init 1 = .ok (.aload_n 1, 1) := by decide +kernel
theorem d_IA_init_2 : decode b_IA_init 2 = .ok (.invokespecial 7, 3) := by decide +kernel
theorem d_IA_init_5 : decode b_IA_init 5 = .ok (.return_, 1) := by decide +kernel
theorem d_IS_init_0 : decode b_IS_init 0 = .ok (.aload_n 0, 1) := by decide +kernel
theorem d_IS_init_1 : decode b_IS_init 1 = .ok (.aload_n 1, 1) := by decide +kernel
theorem d_IS_init_2 : decode b_IS_init 2 = .ok (.invokespecial 7, 3) := by decide +kernel
theorem d_IS_init_5 : decode b_IS_init 5 = .ok (.return_, 1) := by decide +kernel
theorem d_Ma_abs_0 : decode b_Ma_abs 0 = .ok (.iload_n 0, 1) := by decide +kernel
theorem d_Ma_abs_1 : decode b_Ma_abs 1 = .ok (.ifCond .ge 8, 3) := by decide +kernel
theorem d_Ma_abs_4 : decode b_Ma_abs 4 = .ok (.iload_n 0, 1) := by decide +kernel
theorem d_Ma_abs_5 : decode b_Ma_abs 5 = .ok (.ineg, 1) := by decide +kernel
theorem d_Ma_abs_6 : decode b_Ma_abs 6 = .ok (.goto 4, 3) := by decide +kernel
theorem d_Ma_abs_9 : decode b_Ma_abs 9 = .ok (.iload_n 0, 1) := by decide +kernel
theorem d_Ma_abs_10 : decode b_Ma_abs 10 = .ok (.ireturn, 1) := by decide +kernel
theorem d_Ma_floorDiv_0 : decode b_Ma_floorDiv 0 = .ok (.iload_n 0, 1) := by decide +kernel
theorem d_Ma_floorDiv_1 : decode b_Ma_floorDiv 1 = .ok (.iload_n 1, 1) := by decide +kernel
theorem d_Ma_floorDiv_2 : decode b_Ma_floorDiv 2 = .ok (.idiv, 1) := by decide +kernel
theorem d_Ma_floorDiv_3 : decode b_Ma_floorDiv 3 = .ok (.istore_n 2, 1) := by decide +kernel
theorem d_Ma_floorDiv_4 : decode b_Ma_floorDiv 4 = .ok (.iload_n 0, 1) := by decide +kernel
theorem d_Ma_floorDiv_5 : decode b_Ma_floorDiv 5 = .ok (.iload_n 1, 1) := by decide +kernel
theorem d_Ma_floorDiv_6 : decode b_Ma_floorDiv 6 = .ok (.ixor, 1) := by decide +kernel
theorem d_Ma_floorDiv_7 : decode b_Ma_floorDiv 7 = .ok (.ifCond .ge 14, 3) := by decide +kernel
theorem d_Ma_floorDiv_10 : decode b_Ma_floorDiv 10 = .ok (.iload_n 2, 1) := by decide +kernel
theorem d_Ma_floorDiv_11 : decode b_Ma_floorDiv 11 = .ok (.iload_n 1, 1) := by decide +kernel
theorem d_Ma_floorDiv_12 : decode b_Ma_floorDiv 12 = .ok (.imul, 1) := by decide +kernel
theorem d_Ma_floorDiv_13 : decode b_Ma_floorDiv 13 = .ok (.iload_n 0, 1) := by decide +kernel
theorem d_Ma_floorDiv_14 : decode b_Ma_floorDiv 14 = .ok (.if_icmp .eq 7, 3) := by decide +kernel
theorem d_Ma_floorDiv_17 : decode b_Ma_floorDiv 17 = .ok (.iload_n 2, 1) := by decide +kernel
theorem d_Ma_floorDiv_18 : decode b_Ma_floorDiv 18 = .ok (.iconst 1, 1) := by decide +kernel
theorem d_Ma_floorDiv_19 : decode b_Ma_floorDiv 19 = .ok (.isub, 1) := by decide +kernel
theorem d_Ma_floorDiv_20 : decode b_Ma_floorDiv 20 = .ok (.ireturn, 1) := by decide +kernel
theorem d_Ma_floorDiv_21 : decode b_Ma_floorDiv 21 = .ok (.iload_n 2, 1) := by decide +kernel
theorem d_Ma_floorDiv_22 : decode b_Ma_floorDiv 22 = .ok (.ireturn, 1) := by decide +kernel
theorem d_Ma_max_0 : decode b_Ma_max 0 = .ok (.iload_n 0, 1) := by decide +kernel
theorem d_Ma_max_1 : decode b_Ma_max 1 = .ok (.iload_n 1, 1) := by decide +kernel
theorem d_Ma_max_2 : decode b_Ma_max 2 = .ok (.if_icmp .lt 7, 3) := by decide +kernel
theorem d_Ma_max_5 : decode b_Ma_max 5 = .ok (.iload_n 0, 1) := by decide +kernel
theorem d_Ma_max_6 : decode b_Ma_max 6 = .ok (.goto 4, 3) := by decide +kernel
theorem d_Ma_max_9 : decode b_Ma_max 9 = .ok (.iload_n 1, 1) := by decide +kernel
theorem d_Ma_max_10 : decode b_Ma_max 10 = .ok (.ireturn, 1) := by decide +kernel
theorem d_Ma_min_0 : decode b_Ma_min 0 = .ok (.iload_n 0, 1) := by decide +kernel
theorem d_Ma_min_1 : decode b_Ma_min 1 = .ok (.iload_n 1, 1) := by decide +kernel
theorem d_Ma_min_2 : decode b_Ma_min 2 = .ok (.if_icmp .gt 7, 3) := by decide +kernel
theorem d_Ma_min_5 : decode b_Ma_min 5 = .ok (.iload_n 0, 1) := by decide +kernel
theorem d_Ma_min_6 : decode b_Ma_min 6 = .ok (.goto 4, 3) := by decide +kernel
theorem d_Ma_min_9 : decode b_Ma_min 9 = .ok (.iload_n 1, 1) := by decide +kernel
theorem d_Ma_min_10 : decode b_Ma_min 10 = .ok (.ireturn, 1) := by decide +kernel
theorem d_Rt_init_0 : decode b_Rt_init 0 = .ok (.aload_n 0, 1) := by decide +kernel
theorem d_Rt_init_1 : decode b_Rt_init 1 = .ok (.aload_n 1, 1) := by decide +kernel
theorem d_Rt_init_2 : decode b_Rt_init 2 = .ok (.invokespecial 7, 3) := by decide +kernel
theorem d_Rt_init_5 : decode b_Rt_init 5 = .ok (.return_, 1) := by decide +kernel
theorem d_Ar_fill_0 : decode b_Ar_fill 0 = .ok (.iconst 0, 1) := by decide +kernel
theorem d_Ar_fill_1 : decode b_Ar_fill 1 = .ok (.istore_n 3, 1) := by decide +kernel
theorem d_Ar_fill_2 : decode b_Ar_fill 2 = .ok (.aload_n 0, 1) := by decide +kernel
theorem d_Ar_fill_3 : decode b_Ar_fill 3 = .ok (.arraylength, 1) := by decide +kernel
theorem d_Ar_fill_4 : decode b_Ar_fill 4 = .ok (.istore 4, 2) := by decide +kernel
theorem d_Ar_fill_6 : decode b_Ar_fill 6 = .ok (.iload_n 3, 1) := by decide +kernel
theorem d_Ar_fill_7 : decode b_Ar_fill 7 = .ok (.iload 4, 2) := by decide +kernel
theorem d_Ar_fill_9 : decode b_Ar_fill 9 = .ok (.if_icmp .ge 13, 3) := by decide +kernel
theorem d_Ar_fill_12 : decode b_Ar_fill 12 = .ok (.aload_n 0, 1) := by decide +kernel
theorem d_Ar_fill_13 : decode b_Ar_fill 13 = .ok (.iload_n 3, 1) := by decide +kernel
theorem d_Ar_fill_14 : decode b_Ar_fill 14 = .ok (.lload_n 1, 1) := by decide +kernel
theorem d_Ar_fill_15 : decode b_Ar_fill 15 = .ok (.lastore, 1) := by decide +kernel
theorem d_Ar_fill_16 : decode b_Ar_fill 16 = .ok (.iinc 3 1, 3) := by decide +kernel
theorem d_Ar_fill_19 : decode b_Ar_fill 19 = .ok (.goto (-13), 3) := by decide +kernel
theorem d_Ar_fill_22 : decode b_Ar_fill 22 = .ok (.return_, 1) := by decide +kernel
