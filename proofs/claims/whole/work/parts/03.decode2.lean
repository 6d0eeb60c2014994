theorem d_Mo_cell_47 : decode b_Mo_cell 47 = .ok (.iadd, 1) := by decide +kernel
theorem d_Mo_cell_48 : decode b_Mo_cell 48 = .ok (.imul, 1) := by decide +kernel
theorem d_Mo_cell_49 : decode b_Mo_cell 49 = .ok (.iload_n 2, 1) := by decide +kernel
theorem d_Mo_cell_50 : decode b_Mo_cell 50 = .ok (.iadd, 1) := by decide +kernel
theorem d_Mo_cell_51 : decode b_Mo_cell 51 = .ok (.bipush 32, 2) := by decide +kernel
theorem d_Mo_cell_53 : decode b_Mo_cell 53 = .ok (.iadd, 1) := by decide +kernel
theorem d_Mo_cell_54 : decode b_Mo_cell 54 = .ok (.baload, 1) := by decide +kernel
theorem d_Mo_cell_55 : decode b_Mo_cell 55 = .ok (.ifCond .eq 7, 3) := by decide +kernel
theorem d_Mo_cell_58 : decode b_Mo_cell 58 = .ok (.iconst 1, 1) := by decide +kernel
theorem d_Mo_cell_59 : decode b_Mo_cell 59 = .ok (.goto 4, 3) := by decide +kernel
theorem d_Mo_cell_62 : decode b_Mo_cell 62 = .ok (.iconst 0, 1) := by decide +kernel
theorem d_Mo_cell_63 : decode b_Mo_cell 63 = .ok (.ireturn, 1) := by decide +kernel
theorem d_Mo_clash_0 : decode b_Mo_clash 0 = .ok (.aload_n 0, 1) := by decide +kernel
theorem d_Mo_clash_1 : decode b_Mo_clash 1 = .ok (.iload_n 1, 1) := by decide +kernel
theorem d_Mo_clash_2 : decode b_Mo_clash 2 = .ok (.iconst 0, 1) := by decide +kernel
theorem d_Mo_clash_3 : decode b_Mo_clash 3 = .ok (.iconst 2, 1) := by decide +kernel
theorem d_Mo_clash_4 : decode b_Mo_clash 4 = .ok (.invokestatic 152, 3) := by decide +kernel
theorem d_Mo_clash_7 : decode b_Mo_clash 7 = .ok (.ifCond .eq 7, 3) := by decide +kernel
theorem d_Mo_clash_10 : decode b_Mo_clash 10 = .ok (.iconst 0, 1) := by decide +kernel
theorem d_Mo_clash_11 : decode b_Mo_clash 11 = .ok (.goto 4, 3) := by decide +kernel
theorem d_Mo_clash_14 : decode b_Mo_clash 14 = .ok (.iconst 1, 1) := by decide +kernel
theorem d_Mo_clash_15 : decode b_Mo_clash 15 = .ok (.putfield 87, 3) := by decide +kernel
theorem d_Mo_clash_18 : decode b_Mo_clash 18 = .ok (.aload_n 0, 1) := by decide +kernel
theorem d_Mo_clash_19 : decode b_Mo_clash 19 = .ok (.getfield 87, 3) := by decide +kernel
theorem d_Mo_clash_22 : decode b_Mo_clash 22 = .ok (.ifCond .le 5, 3) := by decide +kernel
theorem d_Mo_clash_25 : decode b_Mo_clash 25 = .ok (.iconst 0, 1) := by decide +kernel
theorem d_Mo_clash_26 : decode b_Mo_clash 26 = .ok (.ireturn, 1) := by decide +kernel
theorem d_Mo_clash_27 : decode b_Mo_clash 27 = .ok (.iload_n 1, 1) := by decide +kernel
theorem d_Mo_clash_28 : decode b_Mo_clash 28 = .ok (.ifCond .ne 10, 3) := by decide +kernel
theorem d_Mo_clash_31 : decode b_Mo_clash 31 = .ok (.aload_n 0, 1) := by decide +kernel
theorem d_Mo_clash_32 : decode b_Mo_clash 32 = .ok (.getfield 66, 3) := by decide +kernel
theorem d_Mo_clash_35 : decode b_Mo_clash 35 = .ok (.goto 19, 3) := by decide +kernel
theorem d_Mo_clash_38 : decode b_Mo_clash 38 = .ok (.iload_n 1, 1) := by decide +kernel
theorem d_Mo_clash_39 : decode b_Mo_clash 39 = .ok (.iconst 1, 1) := by decide +kernel
theorem d_Mo_clash_40 : decode b_Mo_clash 40 = .ok (.if_icmp .ne 10, 3) := by decide +kernel
theorem d_Mo_clash_43 : decode b_Mo_clash 43 = .ok (.aload_n 0, 1) := by decide +kernel
theorem d_Mo_clash_44 : decode b_Mo_clash 44 = .ok (.getfield 69, 3) := by decide +kernel
theorem d_Mo_clash_47 : decode b_Mo_clash 47 = .ok (.goto 7, 3) := by decide +kernel
theorem d_Mo_clash_50 : decode b_Mo_clash 50 = .ok (.aload_n 0, 1) := by decide +kernel
theorem d_Mo_clash_51 : decode b_Mo_clash 51 = .ok (.getfield 72, 3) := by decide +kernel
theorem d_Mo_clash_54 : decode b_Mo_clash 54 = .ok (.ireturn, 1) := by decide +kernel
theorem d_Mo_isStuck_0 : decode b_Mo_isStuck 0 = .ok (.aload_n 0, 1) := by decide +kernel
theorem d_Mo_isStuck_1 : decode b_Mo_isStuck 1 = .ok (.iconst 0, 1) := by decide +kernel
theorem d_Mo_isStuck_2 : decode b_Mo_isStuck 2 = .ok (.putfield 87, 3) := by decide +kernel
theorem d_Mo_isStuck_5 : decode b_Mo_isStuck 5 = .ok (.aload_n 0, 1) := by decide +kernel
theorem d_Mo_isStuck_6 : decode b_Mo_isStuck 6 = .ok (.getfield 125, 3) := by decide +kernel
theorem d_Mo_isStuck_9 : decode b_Mo_isStuck 9 = .ok (.ireturn, 1) := by decide +kernel
theorem d_Mo_part_0 : decode b_Mo_part 0 = .ok (.aload_n 0, 1) := by decide +kernel
theorem d_Mo_part_1 : decode b_Mo_part 1 = .ok (.iload_n 1, 1) := by decide +kernel
theorem d_Mo_part_2 : decode b_Mo_part 2 = .ok (.iconst 0, 1) := by decide +kernel
theorem d_Mo_part_3 : decode b_Mo_part 3 = .ok (.iconst 3, 1) := by decide +kernel
theorem d_Mo_part_4 : decode b_Mo_part 4 = .ok (.invokestatic 152, 3) := by decide +kernel
theorem d_Mo_part_7 : decode b_Mo_part 7 = .ok (.ifCond .eq 23, 3) := by decide +kernel
theorem d_Mo_part_10 : decode b_Mo_part 10 = .ok (.iload_n 2, 1) := by decide +kernel
theorem d_Mo_part_11 : decode b_Mo_part 11 = .ok (.bipush (-3), 2) := by decide +kernel
theorem d_Mo_part_13 : decode b_Mo_part 13 = .ok (.iconst 3, 1) := by decide +kernel
theorem d_Mo_part_14 : decode b_Mo_part 14 = .ok (.invokestatic 152, 3) := by decide +kernel
theorem d_Mo_part_17 : decode b_Mo_part 17 = .ok (.ifCond .eq 13, 3) := by decide +kernel
theorem d_Mo_part_20 : decode b_Mo_part 20 = .ok (.iload_n 3, 1) := by decide +kernel
theorem d_Mo_part_21 : decode b_Mo_part 21 = .ok (.iconst 1, 1) := by decide +kernel
theorem d_Mo_part_22 : decode b_Mo_part 22 = .ok (.bipush 60, 2) := by decide +kernel
theorem d_Mo_part_24 : decode b_Mo_part 24 = .ok (.invokestatic 152, 3) := by decide +kernel
theorem d_Mo_part_27 : decode b_Mo_part 27 = .ok (.ifCond .ne 7, 3) := by decide +kernel
theorem d_Mo_part_30 : decode b_Mo_part 30 = .ok (.iconst 1, 1) := by decide +kernel
theorem d_Mo_part_31 : decode b_Mo_part 31 = .ok (.goto 19, 3) := by decide +kernel
theorem d_Mo_part_34 : decode b_Mo_part 34 = .ok (.aload_n 0, 1) := by decide +kernel
theorem d_Mo_part_35 : decode b_Mo_part 35 = .ok (.getfield 38, 3) := by decide +kernel
theorem d_Mo_part_38 : decode b_Mo_part 38 = .ok (.iload_n 1, 1) := by decide +kernel
theorem d_Mo_part_39 : decode b_Mo_part 39 = .ok (.iaload, 1) := by decide +kernel
theorem d_Mo_part_40 : decode b_Mo_part 40 = .ok (.bipush 6, 2) := by decide +kernel
theorem d_Mo_part_42 : decode b_Mo_part 42 = .ok (.if_icmp .ne 7, 3) := by decide +kernel
theorem d_Mo_part_45 : decode b_Mo_part 45 = .ok (.iconst 2, 1) := by decide +kernel
theorem d_Mo_part_46 : decode b_Mo_part 46 = .ok (.goto 4, 3) := by decide +kernel
theorem d_Mo_part_49 : decode b_Mo_part 49 = .ok (.iconst 0, 1) := by decide +kernel
theorem d_Mo_part_50 : decode b_Mo_part 50 = .ok (.putfield 87, 3) := by decide +kernel
theorem d_Mo_part_53 : decode b_Mo_part 53 = .ok (.aload_n 0, 1) := by decide +kernel
theorem d_Mo_part_54 : decode b_Mo_part 54 = .ok (.getfield 87, 3) := by decide +kernel
theorem d_Mo_part_57 : decode b_Mo_part 57 = .ok (.ifCond .le 5, 3) := by decide +kernel
theorem d_Mo_part_60 : decode b_Mo_part 60 = .ok (.iconst 0, 1) := by decide +kernel
theorem d_Mo_part_61 : decode b_Mo_part 61 = .ok (.ireturn, 1) := by decide +kernel
theorem d_Mo_part_62 : decode b_Mo_part 62 = .ok (.bipush 6, 2) := by decide +kernel
theorem d_Mo_part_64 : decode b_Mo_part 64 = .ok (.iload_n 1, 1) := by decide +kernel
theorem d_Mo_part_65 : decode b_Mo_part 65 = .ok (.imul, 1) := by decide +kernel
theorem d_Mo_part_66 : decode b_Mo_part 66 = .ok (.aload_n 0, 1) := by decide +kernel
theorem d_Mo_part_67 : decode b_Mo_part 67 = .ok (.getfield 38, 3) := by decide +kernel
theorem d_Mo_part_70 : decode b_Mo_part 70 = .ok (.iload_n 1, 1) := by decide +kernel
theorem d_Mo_part_71 : decode b_Mo_part 71 = .ok (.iaload, 1) := by decide +kernel
theorem d_Mo_part_72 : decode b_Mo_part 72 = .ok (.iadd, 1) := by decide +kernel
theorem d_Mo_part_73 : decode b_Mo_part 73 = .ok (.istore 5, 2) := by decide +kernel
theorem d_Mo_part_75 : decode b_Mo_part 75 = .ok (.aload_n 0, 1) := by decide +kernel
theorem d_Mo_part_76 : decode b_Mo_part 76 = .ok (.getfield 41, 3) := by decide +kernel
theorem d_Mo_part_79 : decode b_Mo_part 79 = .ok (.iload 5, 2) := by decide +kernel
theorem d_Mo_part_81 : decode b_Mo_part 81 = .ok (.iload_n 2, 1) := by decide +kernel
theorem d_Mo_part_82 : decode b_Mo_part 82 = .ok (.iastore, 1) := by decide +kernel
theorem d_Mo_part_83 : decode b_Mo_part 83 = .ok (.aload_n 0, 1) := by decide +kernel
theorem d_Mo_part_84 : decode b_Mo_part 84 = .ok (.getfield 44, 3) := by decide +kernel
theorem d_Mo_part_87 : decode b_Mo_part 87 = .ok (.iload 5, 2) := by decide +kernel
theorem d_Mo_part_89 : decode b_Mo_part 89 = .ok (.iload_n 3, 1) := by decide +kernel
theorem d_Mo_part_90 : decode b_Mo_part 90 = .ok (.iastore, 1) := by decide +kernel
theorem d_Mo_part_91 : decode b_Mo_part 91 = .ok (.aload_n 0, 1) := by decide +kernel
theorem d_Mo_part_92 : decode b_Mo_part 92 = .ok (.getfield 47, 3) := by decide +kernel
theorem d_Mo_part_95 : decode b_Mo_part 95 = .ok (.iload 5, 2) := by decide +kernel
theorem d_Mo_part_97 : decode b_Mo_part 97 = .ok (.iload 4, 2) := by decide +kernel
theorem d_Mo_part_99 : decode b_Mo_part 99 = .ok (.bastore, 1) := by decide +kernel
theorem d_Mo_part_100 : decode b_Mo_part 100 = .ok (.aload_n 0, 1) := by decide +kernel
theorem d_Mo_part_101 : decode b_Mo_part 101 = .ok (.getfield 38, 3) := by decide +kernel
theorem d_Mo_part_104 : decode b_Mo_part 104 = .ok (.iload_n 1, 1) := by decide +kernel
theorem d_Mo_part_105 : decode b_Mo_part 105 = .ok (.dup2, 1) := by decide +kernel
theorem d_Mo_part_106 : decode b_Mo_part 106 = .ok (.iaload, 1) := by decide +kernel
theorem d_Mo_part_107 : decode b_Mo_part 107 = .ok (.iconst 1, 1) := by decide +kernel
theorem d_Mo_part_108 : decode b_Mo_part 108 = .ok (.iadd, 1) := by decide +kernel
theorem d_Mo_part_109 : decode b_Mo_part 109 = .ok (.iastore, 1) := by decide +kernel
theorem d_Mo_part_110 : decode b_Mo_part 110 = .ok (.aload_n 0, 1) := by decide +kernel
theorem d_Mo_part_111 : decode b_Mo_part 111 = .ok (.getfield 38, 3) := by decide +kernel
theorem d_Mo_part_114 : decode b_Mo_part 114 = .ok (.iload_n 1, 1) := by decide +kernel
theorem d_Mo_part_115 : decode b_Mo_part 115 = .ok (.iaload, 1) := by decide +kernel
theorem d_Mo_part_116 : decode b_Mo_part 116 = .ok (.ireturn, 1) := by decide +kernel
theorem d_Mo_clear_0 : decode b_Mo_clear 0 = .ok (.aload_n 0, 1) := by decide +kernel
theorem d_Mo_clear_1 : decode b_Mo_clear 1 = .ok (.iload_n 1, 1) := by decide +kernel
theorem d_Mo_clear_2 : decode b_Mo_clear 2 = .ok (.iconst 0, 1) := by decide +kernel
theorem d_Mo_clear_3 : decode b_Mo_clear 3 = .ok (.iconst 3, 1) := by decide +kernel
theorem d_Mo_clear_4 : decode b_Mo_clear 4 = .ok (.invokestatic 152, 3) := by decide +kernel
theorem d_Mo_clear_7 : decode b_Mo_clear 7 = .ok (.ifCond .eq 7, 3) := by decide +kernel
theorem d_Mo_clear_10 : decode b_Mo_clear 10 = .ok (.iconst 0, 1) := by decide +kernel
theorem d_Mo_clear_11 : decode b_Mo_clear 11 = .ok (.goto 4, 3) := by decide +kernel
theorem d_Mo_clear_14 : decode b_Mo_clear 14 = .ok (.iconst 1, 1) := by decide +kernel
theorem d_Mo_clear_15 : decode b_Mo_clear 15 = .ok (.putfield 87, 3) := by decide +kernel
theorem d_Mo_clear_18 : decode b_Mo_clear 18 = .ok (.aload_n 0, 1) := by decide +kernel
theorem d_Mo_clear_19 : decode b_Mo_clear 19 = .ok (.getfield 87, 3) := by decide +kernel
theorem d_Mo_clear_22 : decode b_Mo_clear 22 = .ok (.ifCond .le 5, 3) := by decide +kernel
theorem d_Mo_clear_25 : decode b_Mo_clear 25 = .ok (.iconst 0, 1) := by decide +kernel
theorem d_Mo_clear_26 : decode b_Mo_clear 26 = .ok (.ireturn, 1) := by decide +kernel
theorem d_Mo_clear_27 : decode b_Mo_clear 27 = .ok (.aload_n 0, 1) := by decide +kernel
theorem d_Mo_clear_28 : decode b_Mo_clear 28 = .ok (.getfield 38, 3) := by decide +kernel
theorem d_Mo_clear_31 : decode b_Mo_clear 31 = .ok (.iload_n 1, 1) := by decide +kernel
theorem d_Mo_clear_32 : decode b_Mo_clear 32 = .ok (.iaload, 1) := by decide +kernel
theorem d_Mo_clear_33 : decode b_Mo_clear 33 = .ok (.istore_n 2, 1) := by decide +kernel
theorem d_Mo_clear_34 : decode b_Mo_clear 34 = .ok (.aload_n 0, 1) := by decide +kernel
theorem d_Mo_clear_35 : decode b_Mo_clear 35 = .ok (.getfield 38, 3) := by decide +kernel
theorem d_Mo_clear_38 : decode b_Mo_clear 38 = .ok (.iload_n 1, 1) := by decide +kernel
theorem d_Mo_clear_39 : decode b_Mo_clear 39 = .ok (.iconst 0, 1) := by decide +kernel
theorem d_Mo_clear_40 : decode b_Mo_clear 40 = .ok (.iastore, 1) := by decide +kernel
theorem d_Mo_clear_41 : decode b_Mo_clear 41 = .ok (.iload_n 2, 1) := by decide +kernel
theorem d_Mo_clear_42 : decode b_Mo_clear 42 = .ok (.ireturn, 1) := by decide +kernel
theorem d_Mo_keepAside_0 : decode b_Mo_keepAside 0 = .ok (.iconst 0, 1) := by decide +kernel
theorem d_Mo_keepAside_1 : decode b_Mo_keepAside 1 = .ok (.istore_n 1, 1) := by decide +kernel
theorem d_Mo_keepAside_2 : decode b_Mo_keepAside 2 = .ok (.iload_n 1, 1) := by decide +kernel
theorem d_Mo_keepAside_3 : decode b_Mo_keepAside 3 = .ok (.iconst 3, 1) := by decide +kernel
theorem d_Mo_keepAside_4 : decode b_Mo_keepAside 4 = .ok (.if_icmp .ge 80, 3) := by decide +kernel
theorem d_Mo_keepAside_7 : decode b_Mo_keepAside 7 = .ok (.aload_n 0, 1) := by decide +kernel
theorem d_Mo_keepAside_8 : decode b_Mo_keepAside 8 = .ok (.getfield 78, 3) := by decide +kernel
theorem d_Mo_keepAside_11 : decode b_Mo_keepAside 11 = .ok (.iload_n 1, 1) := by decide +kernel
theorem d_Mo_keepAside_12 : decode b_Mo_keepAside 12 = .ok (.aload_n 0, 1) := by decide +kernel
theorem d_Mo_keepAside_13 : decode b_Mo_keepAside 13 = .ok (.getfield 51, 3) := by decide +kernel
theorem d_Mo_keepAside_16 : decode b_Mo_keepAside 16 = .ok (.iload_n 1, 1) := by decide +kernel
theorem d_Mo_keepAside_17 : decode b_Mo_keepAside 17 = .ok (.iaload, 1) := by decide +kernel
theorem d_Mo_keepAside_18 : decode b_Mo_keepAside 18 = .ok (.iastore, 1) := by decide +kernel
theorem d_Mo_keepAside_19 : decode b_Mo_keepAside 19 = .ok (.aload_n 0, 1) := by decide +kernel
theorem d_Mo_keepAside_20 : decode b_Mo_keepAside 20 = .ok (.getfield 78, 3) := by decide +kernel
theorem d_Mo_keepAside_23 : decode b_Mo_keepAside 23 = .ok (.iconst 3, 1) := by decide +kernel
theorem d_Mo_keepAside_24 : decode b_Mo_keepAside 24 = .ok (.iload_n 1, 1) := by decide +kernel
theorem d_Mo_keepAside_25 : decode b_Mo_keepAside 25 = .ok (.iadd, 1) := by decide +kernel
theorem d_Mo_keepAside_26 : decode b_Mo_keepAside 26 = .ok (.aload_n 0, 1) := by decide +kernel
theorem d_Mo_keepAside_27 : decode b_Mo_keepAside 27 = .ok (.getfield 54, 3) := by decide +kernel
theorem d_Mo_keepAside_30 : decode b_Mo_keepAside 30 = .ok (.iload_n 1, 1) := by decide +kernel
theorem d_Mo_keepAside_31 : decode b_Mo_keepAside 31 = .ok (.iaload, 1) := by decide +kernel
theorem d_Mo_keepAside_32 : decode b_Mo_keepAside 32 = .ok (.iastore, 1) := by decide +kernel
theorem d_Mo_keepAside_33 : decode b_Mo_keepAside 33 = .ok (.aload_n 0, 1) := by decide +kernel
theorem d_Mo_keepAside_34 : decode b_Mo_keepAside 34 = .ok (.getfield 78, 3) := by decide +kernel
theorem d_Mo_keepAside_37 : decode b_Mo_keepAside 37 = .ok (.bipush 6, 2) := by decide +kernel
theorem d_Mo_keepAside_39 : decode b_Mo_keepAside 39 = .ok (.iload_n 1, 1) := by decide +kernel
theorem d_Mo_keepAside_40 : decode b_Mo_keepAside 40 = .ok (.iadd, 1) := by decide +kernel
theorem d_Mo_keepAside_41 : decode b_Mo_keepAside 41 = .ok (.aload_n 0, 1) := by decide +kernel
theorem d_Mo_keepAside_42 : decode b_Mo_keepAside 42 = .ok (.getfield 57, 3) := by decide +kernel
theorem d_Mo_keepAside_45 : decode b_Mo_keepAside 45 = .ok (.iload_n 1, 1) := by decide +kernel
theorem d_Mo_keepAside_46 : decode b_Mo_keepAside 46 = .ok (.iaload, 1) := by decide +kernel
theorem d_Mo_keepAside_47 : decode b_Mo_keepAside 47 = .ok (.iastore, 1) := by decide +kernel
theorem d_Mo_keepAside_48 : decode b_Mo_keepAside 48 = .ok (.aload_n 0, 1) := by decide +kernel
theorem d_Mo_keepAside_49 : decode b_Mo_keepAside 49 = .ok (.getfield 78, 3) := by decide +kernel
theorem d_Mo_keepAside_52 : decode b_Mo_keepAside 52 = .ok (.bipush 9, 2) := by decide +kernel
theorem d_Mo_keepAside_54 : decode b_Mo_keepAside 54 = .ok (.iload_n 1, 1) := by decide +kernel
theorem d_Mo_keepAside_55 : decode b_Mo_keepAside 55 = .ok (.iadd, 1) := by decide +kernel
theorem d_Mo_keepAside_56 : decode b_Mo_keepAside 56 = .ok (.aload_n 0, 1) := by decide +kernel
theorem d_Mo_keepAside_57 : decode b_Mo_keepAside 57 = .ok (.getfield 60, 3) := by decide +kernel
theorem d_Mo_keepAside_60 : decode b_Mo_keepAside 60 = .ok (.iload_n 1, 1) := by decide +kernel
theorem d_Mo_keepAside_61 : decode b_Mo_keepAside 61 = .ok (.iaload, 1) := by decide +kernel
theorem d_Mo_keepAside_62 : decode b_Mo_keepAside 62 = .ok (.iastore, 1) := by decide +kernel
theorem d_Mo_keepAside_63 : decode b_Mo_keepAside 63 = .ok (.aload_n 0, 1) := by decide +kernel
theorem d_Mo_keepAside_64 : decode b_Mo_keepAside 64 = .ok (.getfield 78, 3) := by decide +kernel
theorem d_Mo_keepAside_67 : decode b_Mo_keepAside 67 = .ok (.bipush 12, 2) := by decide +kernel
theorem d_Mo_keepAside_69 : decode b_Mo_keepAside 69 = .ok (.iload_n 1, 1) := by decide +kernel
theorem d_Mo_keepAside_70 : decode b_Mo_keepAside 70 = .ok (.iadd, 1) := by decide +kernel
theorem d_Mo_keepAside_71 : decode b_Mo_keepAside 71 = .ok (.aload_n 0, 1) := by decide +kernel
theorem d_Mo_keepAside_72 : decode b_Mo_keepAside 72 = .ok (.getfield 63, 3) := by decide +kernel
theorem d_Mo_keepAside_75 : decode b_Mo_keepAside 75 = .ok (.iload_n 1, 1) := by decide +kernel
theorem d_Mo_keepAside_76 : decode b_Mo_keepAside 76 = .ok (.iaload, 1) := by decide +kernel
theorem d_Mo_keepAside_77 : decode b_Mo_keepAside 77 = .ok (.iastore, 1) := by decide +kernel
theorem d_Mo_keepAside_78 : decode b_Mo_keepAside 78 = .ok (.iinc 1 1, 3) := by decide +kernel
theorem d_Mo_keepAside_81 : decode b_Mo_keepAside 81 = .ok (.goto (-79), 3) := by decide +kernel
theorem d_Mo_keepAside_84 : decode b_Mo_keepAside 84 = .ok (.aload_n 0, 1) := by decide +kernel
theorem d_Mo_keepAside_85 : decode b_Mo_keepAside 85 = .ok (.getfield 78, 3) := by decide +kernel
theorem d_Mo_keepAside_88 : decode b_Mo_keepAside 88 = .ok (.bipush 15, 2) := by decide +kernel
theorem d_Mo_keepAside_90 : decode b_Mo_keepAside 90 = .ok (.aload_n 0, 1) := by decide +kernel
theorem d_Mo_keepAside_91 : decode b_Mo_keepAside 91 = .ok (.getfield 122, 3) := by decide +kernel
theorem d_Mo_keepAside_94 : decode b_Mo_keepAside 94 = .ok (.iastore, 1) := by decide +kernel
theorem d_Mo_keepAside_95 : decode b_Mo_keepAside 95 = .ok (.aload_n 0, 1) := by decide +kernel
theorem d_Mo_keepAside_96 : decode b_Mo_keepAside 96 = .ok (.getfield 78, 3) := by decide +kernel
theorem d_Mo_keepAside_99 : decode b_Mo_keepAside 99 = .ok (.bipush 16, 2) := by decide +kernel
theorem d_Mo_keepAside_101 : decode b_Mo_keepAside 101 = .ok (.aload_n 0, 1) := by decide +kernel
theorem d_Mo_keepAside_102 : decode b_Mo_keepAside 102 = .ok (.getfield 66, 3) := by decide +kernel
theorem d_Mo_keepAside_105 : decode b_Mo_keepAside 105 = .ok (.iastore, 1) := by decide +kernel
theorem d_Mo_keepAside_106 : decode b_Mo_keepAside 106 = .ok (.aload_n 0, 1) := by decide +kernel
theorem d_Mo_keepAside_107 : decode b_Mo_keepAside 107 = .ok (.getfield 78, 3) := by decide +kernel
theorem d_Mo_keepAside_110 : decode b_Mo_keepAside 110 = .ok (.bipush 17, 2) := by decide +kernel
theorem d_Mo_keepAside_112 : decode b_Mo_keepAside 112 = .ok (.aload_n 0, 1) := by decide +kernel
theorem d_Mo_keepAside_113 : decode b_Mo_keepAside 113 = .ok (.getfield 69, 3) := by decide +kernel
theorem d_Mo_keepAside_116 : decode b_Mo_keepAside 116 = .ok (.iastore, 1) := by decide +kernel
theorem d_Mo_keepAside_117 : decode b_Mo_keepAside 117 = .ok (.aload_n 0, 1) := by decide +kernel
theorem d_Mo_keepAside_118 : decode b_Mo_keepAside 118 = .ok (.getfield 78, 3) := by decide +kernel
theorem d_Mo_keepAside_121 : decode b_Mo_keepAside 121 = .ok (.bipush 18, 2) := by decide +kernel
theorem d_Mo_keepAside_123 : decode b_Mo_keepAside 123 = .ok (.aload_n 0, 1) := by decide +kernel
theorem d_Mo_keepAside_124 : decode b_Mo_keepAside 124 = .ok (.getfield 72, 3) := by decide +kernel
theorem d_Mo_keepAside_127 : decode b_Mo_keepAside 127 = .ok (.iastore, 1) := by decide +kernel
theorem d_Mo_keepAside_128 : decode b_Mo_keepAside 128 = .ok (.aload_n 0, 1) := by decide +kernel
theorem d_Mo_keepAside_129 : decode b_Mo_keepAside 129 = .ok (.getfield 78, 3) := by decide +kernel
theorem d_Mo_keepAside_132 : decode b_Mo_keepAside 132 = .ok (.bipush 19, 2) := by decide +kernel
theorem d_Mo_keepAside_134 : decode b_Mo_keepAside 134 = .ok (.aload_n 0, 1) := by decide +kernel
theorem d_Mo_keepAside_135 : decode b_Mo_keepAside 135 = .ok (.getfield 125, 3) := by decide +kernel
theorem d_Mo_keepAside_138 : decode b_Mo_keepAside 138 = .ok (.ifCond .eq 7, 3) := by decide +kernel
theorem d_Mo_keepAside_141 : decode b_Mo_keepAside 141 = .ok (.iconst 1, 1) := by decide +kernel
theorem d_Mo_keepAside_142 : decode b_Mo_keepAside 142 = .ok (.goto 4, 3) := by decide +kernel
theorem d_Mo_keepAside_145 : decode b_Mo_keepAside 145 = .ok (.iconst 0, 1) := by decide +kernel
theorem d_Mo_keepAside_146 : decode b_Mo_keepAside 146 = .ok (.iastore, 1) := by decide +kernel
theorem d_Mo_keepAside_147 : decode b_Mo_keepAside 147 = .ok (.iconst 0, 1) := by decide +kernel
theorem d_Mo_keepAside_148 : decode b_Mo_keepAside 148 = .ok (.istore_n 1, 1) := by decide +kernel
theorem d_Mo_keepAside_149 : decode b_Mo_keepAside 149 = .ok (.iload_n 1, 1) := by decide +kernel
theorem d_Mo_keepAside_150 : decode b_Mo_keepAside 150 = .ok (.sipush 4096, 3) := by decide +kernel
theorem d_Mo_keepAside_153 : decode b_Mo_keepAside 153 = .ok (.if_icmp .ge 21, 3) := by decide +kernel
theorem d_Mo_keepAside_156 : decode b_Mo_keepAside 156 = .ok (.aload_n 0, 1) := by decide +kernel
theorem d_Mo_keepAside_157 : decode b_Mo_keepAside 157 = .ok (.getfield 81, 3) := by decide +kernel
theorem d_Mo_keepAside_160 : decode b_Mo_keepAside 160 = .ok (.iload_n 1, 1) := by decide +kernel
theorem d_Mo_keepAside_161 : decode b_Mo_keepAside 161 = .ok (.aload_n 0, 1) := by decide +kernel
theorem d_Mo_keepAside_162 : decode b_Mo_keepAside 162 = .ok (.getfield 75, 3) := by decide +kernel
theorem d_Mo_keepAside_165 : decode b_Mo_keepAside 165 = .ok (.iload_n 1, 1) := by decide +kernel
theorem d_Mo_keepAside_166 : decode b_Mo_keepAside 166 = .ok (.baload, 1) := by decide +kernel
theorem d_Mo_keepAside_167 : decode b_Mo_keepAside 167 = .ok (.bastore, 1) := by decide +kernel
theorem d_Mo_keepAside_168 : decode b_Mo_keepAside 168 = .ok (.iinc 1 1, 3) := by decide +kernel
theorem d_Mo_keepAside_171 : decode b_Mo_keepAside 171 = .ok (.goto (-22), 3) := by decide +kernel
theorem d_Mo_keepAside_174 : decode b_Mo_keepAside 174 = .ok (.return_, 1) := by decide +kernel
theorem d_Mo_putBack_0 : decode b_Mo_putBack 0 = .ok (.iconst 0, 1) := by decide +kernel
theorem d_Mo_putBack_1 : decode b_Mo_putBack 1 = .ok (.istore_n 1, 1) := by decide +kernel
theorem d_Mo_putBack_2 : decode b_Mo_putBack 2 = .ok (.iload_n 1, 1) := by decide +kernel
theorem d_Mo_putBack_3 : decode b_Mo_putBack 3 = .ok (.iconst 3, 1) := by decide +kernel
theorem d_Mo_putBack_4 : decode b_Mo_putBack 4 = .ok (.if_icmp .ge 80, 3) := by decide +kernel
theorem d_Mo_putBack_7 : decode b_Mo_putBack 7 = .ok (.aload_n 0, 1) := by decide +kernel
theorem d_Mo_putBack_8 : decode b_Mo_putBack 8 = .ok (.getfield 51, 3) := by decide +kernel
theorem d_Mo_putBack_11 : decode b_Mo_putBack 11 = .ok (.iload_n 1, 1) := by decide +kernel
theorem d_Mo_putBack_12 : decode b_Mo_putBack 12 = .ok (.aload_n 0, 1) := by decide +kernel
theorem d_Mo_putBack_13 : decode b_Mo_putBack 13 = .ok (.getfield 78, 3) := by decide +kernel
theorem d_Mo_putBack_16 : decode b_Mo_putBack 16 = .ok (.iload_n 1, 1) := by decide +kernel
theorem d_Mo_putBack_17 : decode b_Mo_putBack 17 = .ok (.iaload, 1) := by decide +kernel
theorem d_Mo_putBack_18 : decode b_Mo_putBack 18 = .ok (.iastore, 1) := by decide +kernel
theorem d_Mo_putBack_19 : decode b_Mo_putBack 19 = .ok (.aload_n 0, 1) := by decide +kernel
theorem d_Mo_putBack_20 : decode b_Mo_putBack 20 = .ok (.getfield 54, 3) := by decide +kernel
theorem d_Mo_putBack_23 : decode b_Mo_putBack 23 = .ok (.iload_n 1, 1) := by decide +kernel
theorem d_Mo_putBack_24 : decode b_Mo_putBack 24 = .ok (.aload_n 0, 1) := by decide +kernel
theorem d_Mo_putBack_25 : decode b_Mo_putBack 25 = .ok (.getfield 78, 3) := by decide +kernel
theorem d_Mo_putBack_28 : decode b_Mo_putBack 28 = .ok (.iconst 3, 1) := by decide +kernel
theorem d_Mo_putBack_29 : decode b_Mo_putBack 29 = .ok (.iload_n 1, 1) := by decide +kernel
theorem d_Mo_putBack_30 : decode b_Mo_putBack 30 = .ok (.iadd, 1) := by decide +kernel
theorem d_Mo_putBack_31 : decode b_Mo_putBack 31 = .ok (.iaload, 1) := by decide +kernel
theorem d_Mo_putBack_32 : decode b_Mo_putBack 32 = .ok (.iastore, 1) := by decide +kernel
theorem d_Mo_putBack_33 : decode b_Mo_putBack 33 = .ok (.aload_n 0, 1) := by decide +kernel
theorem d_Mo_putBack_34 : decode b_Mo_putBack 34 = .ok (.getfield 57, 3) := by decide +kernel
theorem d_Mo_putBack_37 : decode b_Mo_putBack 37 = .ok (.iload_n 1, 1) := by decide +kernel
theorem d_Mo_putBack_38 : decode b_Mo_putBack 38 = .ok (.aload_n 0, 1) := by decide +kernel
theorem d_Mo_putBack_39 : decode b_Mo_putBack 39 = .ok (.getfield 78, 3) := by decide +kernel
theorem d_Mo_putBack_42 : decode b_Mo_putBack 42 = .ok (.bipush 6, 2) := by decide +kernel
theorem d_Mo_putBack_44 : decode b_Mo_putBack 44 = .ok (.iload_n 1, 1) := by decide +kernel
theorem d_Mo_putBack_45 : decode b_Mo_putBack 45 = .ok (.iadd, 1) := by decide +kernel
theorem d_Mo_putBack_46 : decode b_Mo_putBack 46 = .ok (.iaload, 1) := by decide +kernel
theorem d_Mo_putBack_47 : decode b_Mo_putBack 47 = .ok (.iastore, 1) := by decide +kernel
theorem d_Mo_putBack_48 : decode b_Mo_putBack 48 = .ok (.aload_n 0, 1) := by decide +kernel
theorem d_Mo_putBack_49 : decode b_Mo_putBack 49 = .ok (.getfield 60, 3) := by decide +kernel
theorem d_Mo_putBack_52 : decode b_Mo_putBack 52 = .ok (.iload_n 1, 1) := by decide +kernel
theorem d_Mo_putBack_53 : decode b_Mo_putBack 53 = .ok (.aload_n 0, 1) := by decide +kernel
theorem d_Mo_putBack_54 : decode b_Mo_putBack 54 = .ok (.getfield 78, 3) := by decide +kernel
theorem d_Mo_putBack_57 : decode b_Mo_putBack 57 = .ok (.bipush 9, 2) := by decide +kernel
theorem d_Mo_putBack_59 : decode b_Mo_putBack 59 = .ok (.iload_n 1, 1) := by decide +kernel
theorem d_Mo_putBack_60 : decode b_Mo_putBack 60 = .ok (.iadd, 1) := by decide +kernel
theorem d_Mo_putBack_61 : decode b_Mo_putBack 61 = .ok (.iaload, 1) := by decide +kernel
theorem d_Mo_putBack_62 : decode b_Mo_putBack 62 = .ok (.iastore, 1) := by decide +kernel
theorem d_Mo_putBack_63 : decode b_Mo_putBack 63 = .ok (.aload_n 0, 1) := by decide +kernel
theorem d_Mo_putBack_64 : decode b_Mo_putBack 64 = .ok (.getfield 63, 3) := by decide +kernel
theorem d_Mo_putBack_67 : decode b_Mo_putBack 67 = .ok (.iload_n 1, 1) := by decide +kernel
theorem d_Mo_putBack_68 : decode b_Mo_putBack 68 = .ok (.aload_n 0, 1) := by decide +kernel
theorem d_Mo_putBack_69 : decode b_Mo_putBack 69 = .ok (.getfield 78, 3) := by decide +kernel
theorem d_Mo_putBack_72 : decode b_Mo_putBack 72 = .ok (.bipush 12, 2) := by decide +kernel
theorem d_Mo_putBack_74 : decode b_Mo_putBack 74 = .ok (.iload_n 1, 1) := by decide +kernel
theorem d_Mo_putBack_75 : decode b_Mo_putBack 75 = .ok (.iadd, 1) := by decide +kernel
theorem d_Mo_putBack_76 : decode b_Mo_putBack 76 = .ok (.iaload, 1) := by decide +kernel
theorem d_Mo_putBack_77 : decode b_Mo_putBack 77 = .ok (.iastore, 1) := by decide +kernel
theorem d_Mo_putBack_78 : decode b_Mo_putBack 78 = .ok (.iinc 1 1, 3) := by decide +kernel
theorem d_Mo_putBack_81 : decode b_Mo_putBack 81 = .ok (.goto (-79), 3) := by decide +kernel
theorem d_Mo_putBack_84 : decode b_Mo_putBack 84 = .ok (.aload_n 0, 1) := by decide +kernel
theorem d_Mo_putBack_85 : decode b_Mo_putBack 85 = .ok (.aload_n 0, 1) := by decide +kernel
theorem d_Mo_putBack_86 : decode b_Mo_putBack 86 = .ok (.getfield 78, 3) := by decide +kernel
theorem d_Mo_putBack_89 : decode b_Mo_putBack 89 = .ok (.bipush 15, 2) := by decide +kernel
theorem d_Mo_putBack_91 : decode b_Mo_putBack 91 = .ok (.iaload, 1) := by decide +kernel
theorem d_Mo_putBack_92 : decode b_Mo_putBack 92 = .ok (.putfield 122, 3) := by decide +kernel
theorem d_Mo_putBack_95 : decode b_Mo_putBack 95 = .ok (.aload_n 0, 1) := by decide +kernel
theorem d_Mo_putBack_96 : decode b_Mo_putBack 96 = .ok (.aload_n 0, 1) := by decide +kernel
theorem d_Mo_putBack_97 : decode b_Mo_putBack 97 = .ok (.getfield 78, 3) := by decide +kernel
theorem d_Mo_putBack_100 : decode b_Mo_putBack 100 = .ok (.bipush 16, 2) := by decide +kernel
theorem d_Mo_putBack_102 : decode b_Mo_putBack 102 = .ok (.iaload, 1) := by decide +kernel
theorem d_Mo_putBack_103 : decode b_Mo_putBack 103 = .ok (.putfield 66, 3) := by decide +kernel
theorem d_Mo_putBack_106 : decode b_Mo_putBack 106 = .ok (.aload_n 0, 1) := by decide +kernel
theorem d_Mo_putBack_107 : decode b_Mo_putBack 107 = .ok (.aload_n 0, 1) := by decide +kernel
theorem d_Mo_putBack_108 : decode b_Mo_putBack 108 = .ok (.getfield 78, 3) := by decide +kernel
theorem d_Mo_putBack_111 : decode b_Mo_putBack 111 = .ok (.bipush 17, 2) := by decide +kernel
theorem d_Mo_putBack_113 : decode b_Mo_putBack 113 = .ok (.iaload, 1) := by decide +kernel
theorem d_Mo_putBack_114 : decode b_Mo_putBack 114 = .ok (.putfield 69, 3) := by decide +kernel
theorem d_Mo_putBack_117 : decode b_Mo_putBack 117 = .ok (.aload_n 0, 1) := by decide +kernel
theorem d_Mo_putBack_118 : decode b_Mo_putBack 118 = .ok (.aload_n 0, 1) := by decide +kernel
theorem d_Mo_putBack_119 : decode b_Mo_putBack 119 = .ok (.getfield 78, 3) := by decide +kernel
theorem d_Mo_putBack_122 : decode b_Mo_putBack 122 = .ok (.bipush 18, 2) := by decide +kernel
theorem d_Mo_putBack_124 : decode b_Mo_putBack 124 = .ok (.iaload, 1) := by decide +kernel
theorem d_Mo_putBack_125 : decode b_Mo_putBack 125 = .ok (.putfield 72, 3) := by decide +kernel
theorem d_Mo_putBack_128 : decode b_Mo_putBack 128 = .ok (.aload_n 0, 1) := by decide +kernel
theorem d_Mo_putBack_129 : decode b_Mo_putBack 129 = .ok (.aload_n 0, 1) := by decide +kernel
theorem d_Mo_putBack_130 : decode b_Mo_putBack 130 = .ok (.getfield 78, 3) := by decide +kernel
theorem d_Mo_putBack_133 : decode b_Mo_putBack 133 = .ok (.bipush 19, 2) := by decide +kernel
theorem d_Mo_putBack_135 : decode b_Mo_putBack 135 = .ok (.iaload, 1) := by decide +kernel
theorem d_Mo_putBack_136 : decode b_Mo_putBack 136 = .ok (.iconst 1, 1) := by decide +kernel
theorem d_Mo_putBack_137 : decode b_Mo_putBack 137 = .ok (.if_icmp .ne 7, 3) := by decide +kernel
theorem d_Mo_putBack_140 : decode b_Mo_putBack 140 = .ok (.iconst 1, 1) := by decide +kernel
theorem d_Mo_putBack_141 : decode b_Mo_putBack 141 = .ok (.goto 4, 3) := by decide +kernel
theorem d_Mo_putBack_144 : decode b_Mo_putBack 144 = .ok (.iconst 0, 1) := by decide +kernel
theorem d_Mo_putBack_145 : decode b_Mo_putBack 145 = .ok (.putfield 125, 3) := by decide +kernel
theorem d_Mo_putBack_148 : decode b_Mo_putBack 148 = .ok (.aload_n 0, 1) := by decide +kernel
theorem d_Mo_putBack_149 : decode b_Mo_putBack 149 = .ok (.iconst 0, 1) := by decide +kernel
theorem d_Mo_putBack_150 : decode b_Mo_putBack 150 = .ok (.putfield 116, 3) := by decide +kernel
theorem d_Mo_putBack_153 : decode b_Mo_putBack 153 = .ok (.iconst 0, 1) := by decide +kernel
theorem d_Mo_putBack_154 : decode b_Mo_putBack 154 = .ok (.istore_n 1, 1) := by decide +kernel
theorem d_Mo_putBack_155 : decode b_Mo_putBack 155 = .ok (.iload_n 1, 1) := by decide +kernel
theorem d_Mo_putBack_156 : decode b_Mo_putBack 156 = .ok (.sipush 4096, 3) := by decide +kernel
theorem d_Mo_putBack_159 : decode b_Mo_putBack 159 = .ok (.if_icmp .ge 47, 3) := by decide +kernel
theorem d_Mo_putBack_162 : decode b_Mo_putBack 162 = .ok (.aload_n 0, 1) := by decide +kernel
theorem d_Mo_putBack_163 : decode b_Mo_putBack 163 = .ok (.getfield 75, 3) := by decide +kernel
theorem d_Mo_putBack_166 : decode b_Mo_putBack 166 = .ok (.iload_n 1, 1) := by decide +kernel
theorem d_Mo_putBack_167 : decode b_Mo_putBack 167 = .ok (.aload_n 0, 1) := by decide +kernel
theorem d_Mo_putBack_168 : decode b_Mo_putBack 168 = .ok (.getfield 81, 3) := by decide +kernel
theorem d_Mo_putBack_171 : decode b_Mo_putBack 171 = .ok (.iload_n 1, 1) := by decide +kernel
theorem d_Mo_putBack_172 : decode b_Mo_putBack 172 = .ok (.baload, 1) := by decide +kernel
theorem d_Mo_putBack_173 : decode b_Mo_putBack 173 = .ok (.bastore, 1) := by decide +kernel
theorem d_Mo_putBack_174 : decode b_Mo_putBack 174 = .ok (.aload_n 0, 1) := by decide +kernel
theorem d_Mo_putBack_175 : decode b_Mo_putBack 175 = .ok (.aload_n 0, 1) := by decide +kernel
theorem d_Mo_putBack_176 : decode b_Mo_putBack 176 = .ok (.getfield 75, 3) := by decide +kernel
theorem d_Mo_putBack_179 : decode b_Mo_putBack 179 = .ok (.iload_n 1, 1) := by decide +kernel
theorem d_Mo_putBack_180 : decode b_Mo_putBack 180 = .ok (.baload, 1) := by decide +kernel
theorem d_Mo_putBack_181 : decode b_Mo_putBack 181 = .ok (.ifCond .eq 12, 3) := by decide +kernel
theorem d_Mo_putBack_184 : decode b_Mo_putBack 184 = .ok (.aload_n 0, 1) := by decide +kernel
theorem d_Mo_putBack_185 : decode b_Mo_putBack 185 = .ok (.getfield 116, 3) := by decide +kernel
theorem d_Mo_putBack_188 : decode b_Mo_putBack 188 = .ok (.iconst 1, 1) := by decide +kernel
theorem d_Mo_putBack_189 : decode b_Mo_putBack 189 = .ok (.iadd, 1) := by decide +kernel
theorem d_Mo_putBack_190 : decode b_Mo_putBack 190 = .ok (.goto 7, 3) := by decide +kernel
theorem d_Mo_putBack_193 : decode b_Mo_putBack 193 = .ok (.aload_n 0, 1) := by decide +kernel
theorem d_Mo_putBack_194 : decode b_Mo_putBack 194 = .ok (.getfield 116, 3) := by decide +kernel
theorem d_Mo_putBack_197 : decode b_Mo_putBack 197 = .ok (.putfield 116, 3) := by decide +kernel
theorem d_Mo_putBack_200 : decode b_Mo_putBack 200 = .ok (.iinc 1 1, 3) := by decide +kernel
theorem d_Mo_putBack_203 : decode b_Mo_putBack 203 = .ok (.goto (-48), 3) := by decide +kernel
theorem d_Mo_putBack_206 : decode b_Mo_putBack 206 = .ok (.return_, 1) := by decide +kernel
theorem d_Mo_goPlan_0 : decode b_Mo_goPlan 0 = .ok (.aload_n 0, 1) := by decide +kernel
theorem d_Mo_goPlan_1 : decode b_Mo_goPlan 1 = .ok (.invokevirtual 155, 3) := by decide +kernel
theorem d_Mo_goPlan_4 : decode b_Mo_goPlan 4 = .ok (.iconst 0, 1) := by decide +kernel
theorem d_Mo_goPlan_5 : decode b_Mo_goPlan 5 = .ok (.istore_n 2, 1) := by decide +kernel
theorem d_Mo_goPlan_6 : decode b_Mo_goPlan 6 = .ok (.iload_n 2, 1) := by decide +kernel
theorem d_Mo_goPlan_7 : decode b_Mo_goPlan 7 = .ok (.aload_n 0, 1) := by decide +kernel
theorem d_Mo_goPlan_8 : decode b_Mo_goPlan 8 = .ok (.getfield 38, 3) := by decide +kernel
theorem d_Mo_goPlan_11 : decode b_Mo_goPlan 11 = .ok (.iload_n 1, 1) := by decide +kernel
theorem d_Mo_goPlan_12 : decode b_Mo_goPlan 12 = .ok (.iaload, 1) := by decide +kernel
theorem d_Mo_goPlan_13 : decode b_Mo_goPlan 13 = .ok (.if_icmp .ge 38, 3) := by decide +kernel
theorem d_Mo_goPlan_16 : decode b_Mo_goPlan 16 = .ok (.bipush 6, 2) := by decide +kernel
theorem d_Mo_goPlan_18 : decode b_Mo_goPlan 18 = .ok (.iload_n 1, 1) := by decide +kernel
theorem d_Mo_goPlan_19 : decode b_Mo_goPlan 19 = .ok (.imul, 1) := by decide +kernel
theorem d_Mo_goPlan_20 : decode b_Mo_goPlan 20 = .ok (.iload_n 2, 1) := by decide +kernel
theorem d_Mo_goPlan_21 : decode b_Mo_goPlan 21 = .ok (.iadd, 1) := by decide +kernel
theorem d_Mo_goPlan_22 : decode b_Mo_goPlan 22 = .ok (.istore_n 3, 1) := by decide +kernel
theorem d_Mo_goPlan_23 : decode b_Mo_goPlan 23 = .ok (.aload_n 0, 1) := by decide +kernel
theorem d_Mo_goPlan_24 : decode b_Mo_goPlan 24 = .ok (.aload_n 0, 1) := by decide +kernel
theorem d_Mo_goPlan_25 : decode b_Mo_goPlan 25 = .ok (.getfield 41, 3) := by decide +kernel
theorem d_Mo_goPlan_28 : decode b_Mo_goPlan 28 = .ok (.iload_n 3, 1) := by decide +kernel
theorem d_Mo_goPlan_29 : decode b_Mo_goPlan 29 = .ok (.iaload, 1) := by decide +kernel
theorem d_Mo_goPlan_30 : decode b_Mo_goPlan 30 = .ok (.aload_n 0, 1) := by decide +kernel
theorem d_Mo_goPlan_31 : decode b_Mo_goPlan 31 = .ok (.getfield 44, 3) := by decide +kernel
theorem d_Mo_goPlan_34 : decode b_Mo_goPlan 34 = .ok (.iload_n 3, 1) := by decide +kernel
theorem d_Mo_goPlan_35 : decode b_Mo_goPlan 35 = .ok (.iaload, 1) := by decide +kernel
theorem d_Mo_goPlan_36 : decode b_Mo_goPlan 36 = .ok (.aload_n 0, 1) := by decide +kernel
theorem d_Mo_goPlan_37 : decode b_Mo_goPlan 37 = .ok (.getfield 47, 3) := by decide +kernel
theorem d_Mo_goPlan_40 : decode b_Mo_goPlan 40 = .ok (.iload_n 3, 1) := by decide +kernel
theorem d_Mo_goPlan_41 : decode b_Mo_goPlan 41 = .ok (.baload, 1) := by decide +kernel
theorem d_Mo_goPlan_42 : decode b_Mo_goPlan 42 = .ok (.invokevirtual 158, 3) := by decide +kernel
theorem d_Mo_goPlan_45 : decode b_Mo_goPlan 45 = .ok (.iinc 2 1, 3) := by decide +kernel
theorem d_Mo_goPlan_48 : decode b_Mo_goPlan 48 = .ok (.goto (-42), 3) := by decide +kernel
theorem d_Mo_goPlan_51 : decode b_Mo_goPlan 51 = .ok (.return_, 1) := by decide +kernel
theorem d_Mo_best_0 : decode b_Mo_best 0 = .ok (.aload_n 0, 1) := by decide +kernel
theorem d_Mo_best_1 : decode b_Mo_best 1 = .ok (.aload_n 0, 1) := by decide +kernel
theorem d_Mo_best_2 : decode b_Mo_best 2 = .ok (.getfield 84, 3) := by decide +kernel
theorem d_Mo_best_5 : decode b_Mo_best 5 = .ok (.ifCond .le 7, 3) := by decide +kernel
theorem d_Mo_best_8 : decode b_Mo_best 8 = .ok (.iconst 0, 1) := by decide +kernel
theorem d_Mo_best_9 : decode b_Mo_best 9 = .ok (.goto 4, 3) := by decide +kernel
theorem d_Mo_best_12 : decode b_Mo_best 12 = .ok (.iconst 1, 1) := by decide +kernel
theorem d_Mo_best_13 : decode b_Mo_best 13 = .ok (.putfield 87, 3) := by decide +kernel
theorem d_Mo_best_16 : decode b_Mo_best 16 = .ok (.aload_n 0, 1) := by decide +kernel
theorem d_Mo_best_17 : decode b_Mo_best 17 = .ok (.getfield 87, 3) := by decide +kernel
theorem d_Mo_best_20 : decode b_Mo_best 20 = .ok (.ifCond .le 5, 3) := by decide +kernel
theorem d_Mo_best_23 : decode b_Mo_best 23 = .ok (.iconst 0, 1) := by decide +kernel
theorem d_Mo_best_24 : decode b_Mo_best 24 = .ok (.ireturn, 1) := by decide +kernel
theorem d_Mo_best_25 : decode b_Mo_best 25 = .ok (.aload_n 0, 1) := by decide +kernel
theorem d_Mo_best_26 : decode b_Mo_best 26 = .ok (.invokevirtual 162, 3) := by decide +kernel
theorem d_Mo_best_29 : decode b_Mo_best 29 = .ok (.iconst (-1), 1) := by decide +kernel
theorem d_Mo_best_30 : decode b_Mo_best 30 = .ok (.istore_n 1, 1) := by decide +kernel
theorem d_Mo_best_31 : decode b_Mo_best 31 = .ok (.iconst 0, 1) := by decide +kernel
theorem d_Mo_best_32 : decode b_Mo_best 32 = .ok (.istore_n 2, 1) := by decide +kernel
theorem d_Mo_best_33 : decode b_Mo_best 33 = .ok (.iconst 0, 1) := by decide +kernel
theorem d_Mo_best_34 : decode b_Mo_best 34 = .ok (.istore_n 3, 1) := by decide +kernel
theorem d_Mo_best_35 : decode b_Mo_best 35 = .ok (.iload_n 3, 1) := by decide +kernel
theorem d_Mo_best_36 : decode b_Mo_best 36 = .ok (.iconst 4, 1) := by decide +kernel
theorem d_Mo_best_37 : decode b_Mo_best 37 = .ok (.if_icmp .ge 49, 3) := by decide +kernel
theorem d_Mo_best_40 : decode b_Mo_best 40 = .ok (.aload_n 0, 1) := by decide +kernel
theorem d_Mo_best_41 : decode b_Mo_best 41 = .ok (.iload_n 3, 1) := by decide +kernel
theorem d_Mo_best_42 : decode b_Mo_best 42 = .ok (.invokevirtual 165, 3) := by decide +kernel
theorem d_Mo_best_45 : decode b_Mo_best 45 = .ok (.aload_n 0, 1) := by decide +kernel
theorem d_Mo_best_46 : decode b_Mo_best 46 = .ok (.getfield 125, 3) := by decide +kernel
theorem d_Mo_best_49 : decode b_Mo_best 49 = .ok (.ifCond .ne 31, 3) := by decide +kernel
theorem d_Mo_best_52 : decode b_Mo_best 52 = .ok (.aload_n 0, 1) := by decide +kernel
theorem d_Mo_best_53 : decode b_Mo_best 53 = .ok (.getfield 66, 3) := by decide +kernel
theorem d_Mo_best_56 : decode b_Mo_best 56 = .ok (.iconst (-1), 1) := by decide +kernel
theorem d_Mo_best_57 : decode b_Mo_best 57 = .ok (.if_icmp .ne 23, 3) := by decide +kernel
theorem d_Mo_best_60 : decode b_Mo_best 60 = .ok (.iload_n 1, 1) := by decide +kernel
theorem d_Mo_best_61 : decode b_Mo_best 61 = .ok (.iconst (-1), 1) := by decide +kernel
theorem d_Mo_best_62 : decode b_Mo_best 62 = .ok (.if_icmp .eq 11, 3) := by decide +kernel
theorem d_Mo_best_65 : decode b_Mo_best 65 = .ok (.aload_n 0, 1) := by decide +kernel
theorem d_Mo_best_66 : decode b_Mo_best 66 = .ok (.getfield 116, 3) := by decide +kernel
theorem d_Mo_best_69 : decode b_Mo_best 69 = .ok (.iload_n 2, 1) := by decide +kernel
theorem d_Mo_best_70 : decode b_Mo_best 70 = .ok (.if_icmp .ge 10, 3) := by decide +kernel
theorem d_Mo_best_73 : decode b_Mo_best 73 = .ok (.iload_n 3, 1) := by decide +kernel
theorem d_Mo_best_74 : decode b_Mo_best 74 = .ok (.istore_n 1, 1) := by decide +kernel
theorem d_Mo_best_75 : decode b_Mo_best 75 = .ok (.aload_n 0, 1) := by decide +kernel
theorem d_Mo_best_76 : decode b_Mo_best 76 = .ok (.getfield 116, 3) := by decide +kernel
theorem d_Mo_best_79 : decode b_Mo_best 79 = .ok (.istore_n 2, 1) := by decide +kernel
theorem d_Mo_best_80 : decode b_Mo_best 80 = .ok (.iinc 3 1, 3) := by decide +kernel
theorem d_Mo_best_83 : decode b_Mo_best 83 = .ok (.goto (-48), 3) := by decide +kernel
theorem d_Mo_best_86 : decode b_Mo_best 86 = .ok (.aload_n 0, 1) := by decide +kernel
theorem d_Mo_best_87 : decode b_Mo_best 87 = .ok (.invokevirtual 168, 3) := by decide +kernel
theorem d_Mo_best_90 : decode b_Mo_best 90 = .ok (.iload_n 1, 1) := by decide +kernel
theorem d_Mo_best_91 : decode b_Mo_best 91 = .ok (.ireturn, 1) := by decide +kernel
theorem d_Mo_sweeps_0 : decode b_Mo_sweeps 0 = .ok (.aload_n 0, 1) := by decide +kernel
theorem d_Mo_sweeps_1 : decode b_Mo_sweeps 1 = .ok (.iload_n 1, 1) := by decide +kernel
theorem d_Mo_sweeps_2 : decode b_Mo_sweeps 2 = .ok (.iconst 0, 1) := by decide +kernel
theorem d_Mo_sweeps_3 : decode b_Mo_sweeps 3 = .ok (.iconst 3, 1) := by decide +kernel
theorem d_Mo_sweeps_4 : decode b_Mo_sweeps 4 = .ok (.invokestatic 152, 3) := by decide +kernel
theorem d_Mo_sweeps_7 : decode b_Mo_sweeps 7 = .ok (.ifCond .ne 7, 3) := by decide +kernel
theorem d_Mo_sweeps_10 : decode b_Mo_sweeps 10 = .ok (.iconst 1, 1) := by decide +kernel
theorem d_Mo_sweeps_11 : decode b_Mo_sweeps 11 = .ok (.goto 15, 3) := by decide +kernel
theorem d_Mo_sweeps_14 : decode b_Mo_sweeps 14 = .ok (.aload_n 0, 1) := by decide +kernel
theorem d_Mo_sweeps_15 : decode b_Mo_sweeps 15 = .ok (.getfield 84, 3) := by decide +kernel
theorem d_Mo_sweeps_18 : decode b_Mo_sweeps 18 = .ok (.ifCond .ne 7, 3) := by decide +kernel
theorem d_Mo_sweeps_21 : decode b_Mo_sweeps 21 = .ok (.iconst 2, 1) := by decide +kernel
theorem d_Mo_sweeps_22 : decode b_Mo_sweeps 22 = .ok (.goto 4, 3) := by decide +kernel
theorem d_Mo_sweeps_25 : decode b_Mo_sweeps 25 = .ok (.iconst 0, 1) := by decide +kernel
theorem d_Mo_sweeps_26 : decode b_Mo_sweeps 26 = .ok (.putfield 87, 3) := by decide +kernel
theorem d_Mo_sweeps_29 : decode b_Mo_sweeps 29 = .ok (.aload_n 0, 1) := by decide +kernel
theorem d_Mo_sweeps_30 : decode b_Mo_sweeps 30 = .ok (.getfield 87, 3) := by decide +kernel
theorem d_Mo_sweeps_33 : decode b_Mo_sweeps 33 = .ok (.ifCond .le 5, 3) := by decide +kernel
theorem d_Mo_sweeps_36 : decode b_Mo_sweeps 36 = .ok (.iconst 0, 1) := by decide +kernel
theorem d_Mo_sweeps_37 : decode b_Mo_sweeps 37 = .ok (.ireturn, 1) := by decide +kernel
theorem d_Mo_sweeps_38 : decode b_Mo_sweeps 38 = .ok (.aload_n 0, 1) := by decide +kernel
theorem d_Mo_sweeps_39 : decode b_Mo_sweeps 39 = .ok (.invokevirtual 162, 3) := by decide +kernel
theorem d_Mo_sweeps_42 : decode b_Mo_sweeps 42 = .ok (.aload_n 0, 1) := by decide +kernel
theorem d_Mo_sweeps_43 : decode b_Mo_sweeps 43 = .ok (.iload_n 1, 1) := by decide +kernel
theorem d_Mo_sweeps_44 : decode b_Mo_sweeps 44 = .ok (.invokevirtual 165, 3) := by decide +kernel
theorem d_Mo_sweeps_47 : decode b_Mo_sweeps 47 = .ok (.aload_n 0, 1) := by decide +kernel
theorem d_Mo_sweeps_48 : decode b_Mo_sweeps 48 = .ok (.getfield 116, 3) := by decide +kernel
theorem d_Mo_sweeps_51 : decode b_Mo_sweeps 51 = .ok (.istore_n 2, 1) := by decide +kernel
theorem d_Mo_sweeps_52 : decode b_Mo_sweeps 52 = .ok (.aload_n 0, 1) := by decide +kernel
theorem d_Mo_sweeps_53 : decode b_Mo_sweeps 53 = .ok (.invokevirtual 168, 3) := by decide +kernel
theorem d_Mo_sweeps_56 : decode b_Mo_sweeps 56 = .ok (.iload_n 2, 1) := by decide +kernel
theorem d_Mo_sweeps_57 : decode b_Mo_sweeps 57 = .ok (.ireturn, 1) := by decide +kernel
theorem d_Ce_init_0 : decode b_Ce_init 0 = .ok (.aload_n 0, 1) := by decide +kernel
theorem d_Ce_init_1 : decode b_Ce_init 1 = .ok (.invokespecial 3, 3) := by decide +kernel
theorem d_Ce_init_4 : decode b_Ce_init 4 = .ok (.aload_n 0, 1) := by decide +kernel
theorem d_Ce_init_5 : decode b_Ce_init 5 = .ok (.bipush 64, 2) := by decide +kernel
theorem d_Ce_init_7 : decode b_Ce_init 7 = .ok (.newarray .long, 2) := by decide +kernel
theorem d_Ce_init_9 : decode b_Ce_init 9 = .ok (.putfield 11, 3) := by decide +kernel
theorem d_Ce_init_12 : decode b_Ce_init 12 = .ok (.return_, 1) := by decide +kernel
theorem d_Ce_wipe_0 : decode b_Ce_wipe 0 = .ok (.aload_n 0, 1) := by decide +kernel
theorem d_Ce_wipe_1 : decode b_Ce_wipe 1 = .ok (.getfield 11, 3) := by decide +kernel
theorem d_Ce_wipe_4 : decode b_Ce_wipe 4 = .ok (.lconst 0, 1) := by decide +kernel
theorem d_Ce_wipe_5 : decode b_Ce_wipe 5 = .ok (.invokestatic 15, 3) := by decide +kernel
theorem d_Ce_wipe_8 : decode b_Ce_wipe 8 = .ok (.aload_n 0, 1) := by decide +kernel
theorem d_Ce_wipe_9 : decode b_Ce_wipe 9 = .ok (.iconst 0, 1) := by decide +kernel
theorem d_Ce_wipe_10 : decode b_Ce_wipe 10 = .ok (.putfield 21, 3) := by decide +kernel
theorem d_Ce_wipe_13 : decode b_Ce_wipe 13 = .ok (.return_, 1) := by decide +kernel
theorem d_Ce_has_0 : decode b_Ce_has 0 = .ok (.lconst 1, 1) := by decide +kernel
theorem d_Ce_has_1 : decode b_Ce_has 1 = .ok (.iload_n 1, 1) := by decide +kernel
theorem d_Ce_has_2 : decode b_Ce_has 2 = .ok (.bipush 63, 2) := by decide +kernel
theorem d_Ce_has_4 : decode b_Ce_has 4 = .ok (.iand, 1) := by decide +kernel
theorem d_Ce_has_5 : decode b_Ce_has 5 = .ok (.lshl, 1) := by decide +kernel
theorem d_Ce_has_6 : decode b_Ce_has 6 = .ok (.lstore_n 3, 1) := by decide +kernel
theorem d_Ce_has_7 : decode b_Ce_has 7 = .ok (.aload_n 0, 1) := by decide +kernel
theorem d_Ce_has_8 : decode b_Ce_has 8 = .ok (.getfield 11, 3) := by decide +kernel
theorem d_Ce_has_11 : decode b_Ce_has 11 = .ok (.iload_n 2, 1) := by decide +kernel
theorem d_Ce_has_12 : decode b_Ce_has 12 = .ok (.bipush 63, 2) := by decide +kernel
theorem d_Ce_has_14 : decode b_Ce_has 14 = .ok (.iand, 1) := by decide +kernel
theorem d_Ce_has_15 : decode b_Ce_has 15 = .ok (.laload, 1) := by decide +kernel
theorem d_Ce_has_16 : decode b_Ce_has 16 = .ok (.lload_n 3, 1) := by decide +kernel
theorem d_Ce_has_17 : decode b_Ce_has 17 = .ok (.land, 1) := by decide +kernel
theorem d_Ce_has_18 : decode b_Ce_has 18 = .ok (.lconst 0, 1) := by decide +kernel
theorem d_Ce_has_19 : decode b_Ce_has 19 = .ok (.lcmp, 1) := by decide +kernel
theorem d_Ce_has_20 : decode b_Ce_has 20 = .ok (.ifCond .eq 7, 3) := by decide +kernel
theorem d_Ce_has_23 : decode b_Ce_has 23 = .ok (.iconst 1, 1) := by decide +kernel
theorem d_Ce_has_24 : decode b_Ce_has 24 = .ok (.goto 4, 3) := by decide +kernel
theorem d_Ce_has_27 : decode b_Ce_has 27 = .ok (.iconst 0, 1) := by decide +kernel
theorem d_Ce_has_28 : decode b_Ce_has 28 = .ok (.ireturn, 1) := by decide +kernel
theorem d_Ce_cover_0 : decode b_Ce_cover 0 = .ok (.aload_n 2, 1) := by decide +kernel
theorem d_Ce_cover_1 : decode b_Ce_cover 1 = .ok (.getfield 25, 3) := by decide +kernel
theorem d_Ce_cover_4 : decode b_Ce_cover 4 = .ok (.invokestatic 30, 3) := by decide +kernel
theorem d_Ce_cover_7 : decode b_Ce_cover 7 = .ok (.istore_n 3, 1) := by decide +kernel
theorem d_Ce_cover_8 : decode b_Ce_cover 8 = .ok (.aload_n 2, 1) := by decide +kernel
theorem d_Ce_cover_9 : decode b_Ce_cover 9 = .ok (.getfield 25, 3) := by decide +kernel
theorem d_Ce_cover_12 : decode b_Ce_cover 12 = .ok (.invokestatic 36, 3) := by decide +kernel
theorem d_Ce_cover_15 : decode b_Ce_cover 15 = .ok (.istore 4, 2) := by decide +kernel
theorem d_Ce_cover_17 : decode b_Ce_cover 17 = .ok (.aload_n 1, 1) := by decide +kernel
theorem d_Ce_cover_18 : decode b_Ce_cover 18 = .ok (.getfield 39, 3) := by decide +kernel
theorem d_Ce_cover_21 : decode b_Ce_cover 21 = .ok (.iload_n 3, 1) := by decide +kernel
theorem d_Ce_cover_22 : decode b_Ce_cover 22 = .ok (.imul, 1) := by decide +kernel
theorem d_Ce_cover_23 : decode b_Ce_cover 23 = .ok (.istore 5, 2) := by decide +kernel
theorem d_Ce_cover_25 : decode b_Ce_cover 25 = .ok (.aload_n 1, 1) := by decide +kernel
theorem d_Ce_cover_26 : decode b_Ce_cover 26 = .ok (.getfield 44, 3) := by decide +kernel
theorem d_Ce_cover_29 : decode b_Ce_cover 29 = .ok (.ineg, 1) := by decide +kernel
theorem d_Ce_cover_30 : decode b_Ce_cover 30 = .ok (.iload_n 3, 1) := by decide +kernel
theorem d_Ce_cover_31 : decode b_Ce_cover 31 = .ok (.imul, 1) := by decide +kernel
theorem d_Ce_cover_32 : decode b_Ce_cover 32 = .ok (.istore 6, 2) := by decide +kernel
theorem d_Ce_cover_34 : decode b_Ce_cover 34 = .ok (.aload_n 1, 1) := by decide +kernel
theorem d_Ce_cover_35 : decode b_Ce_cover 35 = .ok (.getfield 39, 3) := by decide +kernel
theorem d_Ce_cover_38 : decode b_Ce_cover 38 = .ok (.iload 4, 2) := by decide +kernel
theorem d_Ce_cover_40 : decode b_Ce_cover 40 = .ok (.imul, 1) := by decide +kernel
theorem d_Ce_cover_41 : decode b_Ce_cover 41 = .ok (.istore 7, 2) := by decide +kernel
theorem d_Ce_cover_43 : decode b_Ce_cover 43 = .ok (.aload_n 1, 1) := by decide +kernel
theorem d_Ce_cover_44 : decode b_Ce_cover 44 = .ok (.getfield 44, 3) := by decide +kernel
theorem d_Ce_cover_47 : decode b_Ce_cover 47 = .ok (.ineg, 1) := by decide +kernel
theorem d_Ce_cover_48 : decode b_Ce_cover 48 = .ok (.iload 4, 2) := by decide +kernel
theorem d_Ce_cover_50 : decode b_Ce_cover 50 = .ok (.imul, 1) := by decide +kernel
theorem d_Ce_cover_51 : decode b_Ce_cover 51 = .ok (.istore 8, 2) := by decide +kernel
theorem d_Ce_cover_53 : decode b_Ce_cover 53 = .ok (.aload_n 1, 1) := by decide +kernel
theorem d_Ce_cover_54 : decode b_Ce_cover 54 = .ok (.getfield 47, 3) := by decide +kernel
theorem d_Ce_cover_57 : decode b_Ce_cover 57 = .ok (.iload 4, 2) := by decide +kernel
theorem d_Ce_cover_59 : decode b_Ce_cover 59 = .ok (.invokestatic 50, 3) := by decide +kernel
theorem d_Ce_cover_62 : decode b_Ce_cover 62 = .ok (.imul, 1) := by decide +kernel
theorem d_Ce_cover_63 : decode b_Ce_cover 63 = .ok (.sipush 4096, 3) := by decide +kernel
theorem d_Ce_cover_66 : decode b_Ce_cover 66 = .ok (.iadd, 1) := by decide +kernel
theorem d_Ce_cover_67 : decode b_Ce_cover 67 = .ok (.istore 9, 2) := by decide +kernel
theorem d_Ce_cover_69 : decode b_Ce_cover 69 = .ok (.aload_n 1, 1) := by decide +kernel
theorem d_Ce_cover_70 : decode b_Ce_cover 70 = .ok (.getfield 47, 3) := by decide +kernel
theorem d_Ce_cover_73 : decode b_Ce_cover 73 = .ok (.iload_n 3, 1) := by decide +kernel
theorem d_Ce_cover_74 : decode b_Ce_cover 74 = .ok (.invokestatic 50, 3) := by decide +kernel
theorem d_Ce_cover_77 : decode b_Ce_cover 77 = .ok (.imul, 1) := by decide +kernel
theorem d_Ce_cover_78 : decode b_Ce_cover 78 = .ok (.sipush 4096, 3) := by decide +kernel
theorem d_Ce_cover_81 : decode b_Ce_cover 81 = .ok (.iadd, 1) := by decide +kernel
theorem d_Ce_cover_82 : decode b_Ce_cover 82 = .ok (.istore 10, 2) := by decide +kernel
theorem d_Ce_cover_84 : decode b_Ce_cover 84 = .ok (.aload_n 2, 1) := by decide +kernel
theorem d_Ce_cover_85 : decode b_Ce_cover 85 = .ok (.getfield 55, 3) := by decide +kernel
theorem d_Ce_cover_88 : decode b_Ce_cover 88 = .ok (.iload 5, 2) := by decide +kernel
theorem d_Ce_cover_90 : decode b_Ce_cover 90 = .ok (.iload 6, 2) := by decide +kernel
theorem d_Ce_cover_92 : decode b_Ce_cover 92 = .ok (.invokestatic 58, 3) := by decide +kernel
theorem d_Ce_cover_95 : decode b_Ce_cover 95 = .ok (.iadd, 1) := by decide +kernel
theorem d_Ce_cover_96 : decode b_Ce_cover 96 = .ok (.iload 9, 2) := by decide +kernel
theorem d_Ce_cover_98 : decode b_Ce_cover 98 = .ok (.isub, 1) := by decide +kernel
theorem d_Ce_cover_99 : decode b_Ce_cover 99 = .ok (.invokestatic 62, 3) := by decide +kernel
theorem d_Ce_cover_102 : decode b_Ce_cover 102 = .ok (.istore 11, 2) := by decide +kernel
theorem d_Ce_cover_104 : decode b_Ce_cover 104 = .ok (.aload_n 2, 1) := by decide +kernel
theorem d_Ce_cover_105 : decode b_Ce_cover 105 = .ok (.getfield 55, 3) := by decide +kernel
theorem d_Ce_cover_108 : decode b_Ce_cover 108 = .ok (.iload 5, 2) := by decide +kernel
theorem d_Ce_cover_110 : decode b_Ce_cover 110 = .ok (.iload 6, 2) := by decide +kernel
theorem d_Ce_cover_112 : decode b_Ce_cover 112 = .ok (.invokestatic 65, 3) := by decide +kernel
theorem d_Ce_cover_115 : decode b_Ce_cover 115 = .ok (.iadd, 1) := by decide +kernel
theorem d_Ce_cover_116 : decode b_Ce_cover 116 = .ok (.iload 9, 2) := by decide +kernel
theorem d_Ce_cover_118 : decode b_Ce_cover 118 = .ok (.iadd, 1) := by decide +kernel
theorem d_Ce_cover_119 : decode b_Ce_cover 119 = .ok (.invokestatic 68, 3) := by decide +kernel
theorem d_Ce_cover_122 : decode b_Ce_cover 122 = .ok (.istore 12, 2) := by decide +kernel
theorem d_Ce_cover_124 : decode b_Ce_cover 124 = .ok (.aload_n 2, 1) := by decide +kernel
theorem d_Ce_cover_125 : decode b_Ce_cover 125 = .ok (.getfield 71, 3) := by decide +kernel
theorem d_Ce_cover_128 : decode b_Ce_cover 128 = .ok (.iload 7, 2) := by decide +kernel
theorem d_Ce_cover_130 : decode b_Ce_cover 130 = .ok (.iload 8, 2) := by decide +kernel
theorem d_Ce_cover_132 : decode b_Ce_cover 132 = .ok (.invokestatic 58, 3) := by decide +kernel
theorem d_Ce_cover_135 : decode b_Ce_cover 135 = .ok (.iadd, 1) := by decide +kernel
theorem d_Ce_cover_136 : decode b_Ce_cover 136 = .ok (.iload 10, 2) := by decide +kernel
theorem d_Ce_cover_138 : decode b_Ce_cover 138 = .ok (.isub, 1) := by decide +kernel
theorem d_Ce_cover_139 : decode b_Ce_cover 139 = .ok (.invokestatic 62, 3) := by decide +kernel
theorem d_Ce_cover_142 : decode b_Ce_cover 142 = .ok (.istore 13, 2) := by decide +kernel
theorem d_Ce_cover_144 : decode b_Ce_cover 144 = .ok (.aload_n 2, 1) := by decide +kernel
theorem d_Ce_cover_145 : decode b_Ce_cover 145 = .ok (.getfield 71, 3) := by decide +kernel
theorem d_Ce_cover_148 : decode b_Ce_cover 148 = .ok (.iload 7, 2) := by decide +kernel
theorem d_Ce_cover_150 : decode b_Ce_cover 150 = .ok (.iload 8, 2) := by decide +kernel
theorem d_Ce_cover_152 : decode b_Ce_cover 152 = .ok (.invokestatic 65, 3) := by decide +kernel
theorem d_Ce_cover_155 : decode b_Ce_cover 155 = .ok (.iadd, 1) := by decide +kernel
theorem d_Ce_cover_156 : decode b_Ce_cover 156 = .ok (.iload 10, 2) := by decide +kernel
theorem d_Ce_cover_158 : decode b_Ce_cover 158 = .ok (.iadd, 1) := by decide +kernel
theorem d_Ce_cover_159 : decode b_Ce_cover 159 = .ok (.invokestatic 68, 3) := by decide +kernel
theorem d_Ce_cover_162 : decode b_Ce_cover 162 = .ok (.istore 14, 2) := by decide +kernel
theorem d_Ce_cover_164 : decode b_Ce_cover 164 = .ok (.iload 11, 2) := by decide +kernel
theorem d_Ce_cover_166 : decode b_Ce_cover 166 = .ok (.invokestatic 74, 3) := by decide +kernel
theorem d_Ce_cover_169 : decode b_Ce_cover 169 = .ok (.aload_n 2, 1) := by decide +kernel
theorem d_Ce_cover_170 : decode b_Ce_cover 170 = .ok (.getfield 55, 3) := by decide +kernel
theorem d_Ce_cover_173 : decode b_Ce_cover 173 = .ok (.isub, 1) := by decide +kernel
theorem d_Ce_cover_174 : decode b_Ce_cover 174 = .ok (.i2l, 1) := by decide +kernel
theorem d_Ce_cover_175 : decode b_Ce_cover 175 = .ok (.lstore 15, 2) := by decide +kernel
theorem d_Ce_cover_177 : decode b_Ce_cover 177 = .ok (.iload 13, 2) := by decide +kernel
theorem d_Ce_cover_179 : decode b_Ce_cover 179 = .ok (.istore 17, 2) := by decide +kernel
theorem d_Ce_cover_181 : decode b_Ce_cover 181 = .ok (.iload 17, 2) := by decide +kernel
theorem d_Ce_cover_183 : decode b_Ce_cover 183 = .ok (.iload 14, 2) := by decide +kernel
theorem d_Ce_cover_185 : decode b_Ce_cover 185 = .ok (.if_icmp .gt 109, 3) := by decide +kernel
theorem d_Ce_cover_188 : decode b_Ce_cover 188 = .ok (.iload 17, 2) := by decide +kernel
theorem d_Ce_cover_190 : decode b_Ce_cover 190 = .ok (.invokestatic 74, 3) := by decide +kernel
theorem d_Ce_cover_193 : decode b_Ce_cover 193 = .ok (.aload_n 2, 1) := by decide +kernel
theorem d_Ce_cover_194 : decode b_Ce_cover 194 = .ok (.getfield 71, 3) := by decide +kernel
theorem d_Ce_cover_197 : decode b_Ce_cover 197 = .ok (.isub, 1) := by decide +kernel
theorem d_Ce_cover_198 : decode b_Ce_cover 198 = .ok (.i2l, 1) := by decide +kernel
theorem d_Ce_cover_199 : decode b_Ce_cover 199 = .ok (.lstore 18, 2) := by decide +kernel
theorem d_Ce_cover_201 : decode b_Ce_cover 201 = .ok (.lload 15, 2) := by decide +kernel
theorem d_Ce_cover_203 : decode b_Ce_cover 203 = .ok (.iload_n 3, 1) := by decide +kernel
theorem d_Ce_cover_204 : decode b_Ce_cover 204 = .ok (.i2l, 1) := by decide +kernel
theorem d_Ce_cover_205 : decode b_Ce_cover 205 = .ok (.lmul, 1) := by decide +kernel
theorem d_Ce_cover_206 : decode b_Ce_cover 206 = .ok (.lload 18, 2) := by decide +kernel
theorem d_Ce_cover_208 : decode b_Ce_cover 208 = .ok (.iload 4, 2) := by decide +kernel
theorem d_Ce_cover_210 : decode b_Ce_cover 210 = .ok (.i2l, 1) := by decide +kernel
theorem d_Ce_cover_211 : decode b_Ce_cover 211 = .ok (.lmul, 1) := by decide +kernel
theorem d_Ce_cover_212 : decode b_Ce_cover 212 = .ok (.ladd, 1) := by decide +kernel
theorem d_Ce_cover_213 : decode b_Ce_cover 213 = .ok (.lstore 20, 2) := by decide +kernel
theorem d_Ce_cover_215 : decode b_Ce_cover 215 = .ok (.lload 18, 2) := by decide +kernel
theorem d_Ce_cover_217 : decode b_Ce_cover 217 = .ok (.iload_n 3, 1) := by decide +kernel
theorem d_Ce_cover_218 : decode b_Ce_cover 218 = .ok (.i2l, 1) := by decide +kernel
theorem d_Ce_cover_219 : decode b_Ce_cover 219 = .ok (.lmul, 1) := by decide +kernel
theorem d_Ce_cover_220 : decode b_Ce_cover 220 = .ok (.lload 15, 2) := by decide +kernel
theorem d_Ce_cover_222 : decode b_Ce_cover 222 = .ok (.iload 4, 2) := by decide +kernel
theorem d_Ce_cover_224 : decode b_Ce_cover 224 = .ok (.i2l, 1) := by decide +kernel
theorem d_Ce_cover_225 : decode b_Ce_cover 225 = .ok (.lmul, 1) := by decide +kernel
theorem d_Ce_cover_226 : decode b_Ce_cover 226 = .ok (.lsub, 1) := by decide +kernel
theorem d_Ce_cover_227 : decode b_Ce_cover 227 = .ok (.lstore 22, 2) := by decide +kernel
theorem d_Ce_cover_229 : decode b_Ce_cover 229 = .ok (.iload 11, 2) := by decide +kernel
theorem d_Ce_cover_231 : decode b_Ce_cover 231 = .ok (.istore 24, 2) := by decide +kernel
theorem d_Ce_cover_233 : decode b_Ce_cover 233 = .ok (.iload 24, 2) := by decide +kernel
theorem d_Ce_cover_235 : decode b_Ce_cover 235 = .ok (.iload 12, 2) := by decide +kernel
theorem d_Ce_cover_237 : decode b_Ce_cover 237 = .ok (.if_icmp .gt 51, 3) := by decide +kernel
theorem d_Ce_cover_240 : decode b_Ce_cover 240 = .ok (.aload_n 1, 1) := by decide +kernel
theorem d_Ce_cover_241 : decode b_Ce_cover 241 = .ok (.lload 20, 2) := by decide +kernel
theorem d_Ce_cover_243 : decode b_Ce_cover 243 = .ok (.lload 22, 2) := by decide +kernel
theorem d_Ce_cover_245 : decode b_Ce_cover 245 = .ok (.invokevirtual 77, 3) := by decide +kernel
theorem d_Ce_cover_248 : decode b_Ce_cover 248 = .ok (.ifCond .eq 11, 3) := by decide +kernel
theorem d_Ce_cover_251 : decode b_Ce_cover 251 = .ok (.aload_n 0, 1) := by decide +kernel
theorem d_Ce_cover_252 : decode b_Ce_cover 252 = .ok (.iload 24, 2) := by decide +kernel
theorem d_Ce_cover_254 : decode b_Ce_cover 254 = .ok (.iload 17, 2) := by decide +kernel
theorem d_Ce_cover_256 : decode b_Ce_cover 256 = .ok (.invokevirtual 81, 3) := by decide +kernel
theorem d_Ce_cover_259 : decode b_Ce_cover 259 = .ok (.lload 20, 2) := by decide +kernel
theorem d_Ce_cover_261 : decode b_Ce_cover 261 = .ok (.ldc2_w 85, 3) := by decide +kernel
theorem d_Ce_cover_264 : decode b_Ce_cover 264 = .ok (.iload_n 3, 1) := by decide +kernel
theorem d_Ce_cover_265 : decode b_Ce_cover 265 = .ok (.i2l, 1) := by decide +kernel
theorem d_Ce_cover_266 : decode b_Ce_cover 266 = .ok (.lmul, 1) := by decide +kernel
theorem d_Ce_cover_267 : decode b_Ce_cover 267 = .ok (.ladd, 1) := by decide +kernel
theorem d_Ce_cover_268 : decode b_Ce_cover 268 = .ok (.lstore 20, 2) := by decide +kernel
theorem d_Ce_cover_270 : decode b_Ce_cover 270 = .ok (.lload 22, 2) := by decide +kernel
theorem d_Ce_cover_272 : decode b_Ce_cover 272 = .ok (.ldc2_w 85, 3) := by decide +kernel
theorem d_Ce_cover_275 : decode b_Ce_cover 275 = .ok (.iload 4, 2) := by decide +kernel
theorem d_Ce_cover_277 : decode b_Ce_cover 277 = .ok (.i2l, 1) := by decide +kernel
theorem d_Ce_cover_278 : decode b_Ce_cover 278 = .ok (.lmul, 1) := by decide +kernel
theorem d_Ce_cover_279 : decode b_Ce_cover 279 = .ok (.lsub, 1) := by decide +kernel
theorem d_Ce_cover_280 : decode b_Ce_cover 280 = .ok (.lstore 22, 2) := by decide +kernel
theorem d_Ce_cover_282 : decode b_Ce_cover 282 = .ok (.iinc 24 1, 3) := by decide +kernel
theorem d_Ce_cover_285 : decode b_Ce_cover 285 = .ok (.goto (-52), 3) := by decide +kernel
theorem d_Ce_cover_288 : decode b_Ce_cover 288 = .ok (.iinc 17 1, 3) := by decide +kernel
theorem d_Ce_cover_291 : decode b_Ce_cover 291 = .ok (.goto (-110), 3) := by decide +kernel
theorem d_Ce_cover_294 : decode b_Ce_cover 294 = .ok (.return_, 1) := by decide +kernel
theorem d_Ce_mark_0 : decode b_Ce_mark 0 = .ok (.iload_n 2, 1) := by decide +kernel
theorem d_Ce_mark_1 : decode b_Ce_mark 1 = .ok (.bipush 63, 2) := by decide +kernel
theorem d_Ce_mark_3 : decode b_Ce_mark 3 = .ok (.iand, 1) := by decide +kernel
theorem d_Ce_mark_4 : decode b_Ce_mark 4 = .ok (.istore_n 3, 1) := by decide +kernel
theorem d_Ce_mark_5 : decode b_Ce_mark 5 = .ok (.lconst 1, 1) := by decide +kernel
theorem d_Ce_mark_6 : decode b_Ce_mark 6 = .ok (.iload_n 1, 1) := by decide +kernel
theorem d_Ce_mark_7 : decode b_Ce_mark 7 = .ok (.bipush 63, 2) := by decide +kernel
theorem d_Ce_mark_9 : decode b_Ce_mark 9 = .ok (.iand, 1) := by decide +kernel
theorem d_Ce_mark_10 : decode b_Ce_mark 10 = .ok (.lshl, 1) := by decide +kernel
theorem d_Ce_mark_11 : decode b_Ce_mark 11 = .ok (.lstore 4, 2) := by decide +kernel
theorem d_Ce_mark_13 : decode b_Ce_mark 13 = .ok (.aload_n 0, 1) := by decide +kernel
theorem d_Ce_mark_14 : decode b_Ce_mark 14 = .ok (.getfield 11, 3) := by decide +kernel
theorem d_Ce_mark_17 : decode b_Ce_mark 17 = .ok (.iload_n 3, 1) := by decide +kernel
theorem d_Ce_mark_18 : decode b_Ce_mark 18 = .ok (.laload, 1) := by decide +kernel
theorem d_Ce_mark_19 : decode b_Ce_mark 19 = .ok (.lload 4, 2) := by decide +kernel
theorem d_Ce_mark_21 : decode b_Ce_mark 21 = .ok (.land, 1) := by decide +kernel
theorem d_Ce_mark_22 : decode b_Ce_mark 22 = .ok (.lconst 0, 1) := by decide +kernel
theorem d_Ce_mark_23 : decode b_Ce_mark 23 = .ok (.lcmp, 1) := by decide +kernel
theorem d_Ce_mark_24 : decode b_Ce_mark 24 = .ok (.ifCond .ne 24, 3) := by decide +kernel
theorem d_Ce_mark_27 : decode b_Ce_mark 27 = .ok (.aload_n 0, 1) := by decide +kernel
theorem d_Ce_mark_28 : decode b_Ce_mark 28 = .ok (.getfield 11, 3) := by decide +kernel
theorem d_Ce_mark_31 : decode b_Ce_mark 31 = .ok (.iload_n 3, 1) := by decide +kernel
theorem d_Ce_mark_32 : decode b_Ce_mark 32 = .ok (.dup2, 1) := by decide +kernel
theorem d_Ce_mark_33 : decode b_Ce_mark 33 = .ok (.laload, 1) := by decide +kernel
theorem d_Ce_mark_34 : decode b_Ce_mark 34 = .ok (.lload 4, 2) := by decide +kernel
theorem d_Ce_mark_36 : decode b_Ce_mark 36 = .ok (.lor, 1) := by decide +kernel
theorem d_Ce_mark_37 : decode b_Ce_mark 37 = .ok (.lastore, 1) := by decide +kernel
theorem d_Ce_mark_38 : decode b_Ce_mark 38 = .ok (.aload_n 0, 1) := by decide +kernel
theorem d_Ce_mark_39 : decode b_Ce_mark 39 = .ok (.dup, 1) := by decide +kernel
theorem d_Ce_mark_40 : decode b_Ce_mark 40 = .ok (.getfield 21, 3) := by decide +kernel
theorem d_Ce_mark_43 : decode b_Ce_mark 43 = .ok (.iconst 1, 1) := by decide +kernel
theorem d_Ce_mark_44 : decode b_Ce_mark 44 = .ok (.iadd, 1) := by decide +kernel
theorem d_Ce_mark_45 : decode b_Ce_mark 45 = .ok (.putfield 21, 3) := by decide +kernel
theorem d_Ce_mark_48 : decode b_Ce_mark 48 = .ok (.return_, 1) := by decide +kernel
theorem d_Ce_middleOf_0 : decode b_Ce_middleOf 0 = .ok (.iload_n 0, 1) := by decide +kernel
theorem d_Ce_middleOf_1 : decode b_Ce_middleOf 1 = .ok (.ldc 87, 2) := by decide +kernel
theorem d_Ce_middleOf_3 : decode b_Ce_middleOf 3 = .ok (.imul, 1) := by decide +kernel
theorem d_Ce_middleOf_4 : decode b_Ce_middleOf 4 = .ok (.sipush 16384, 3) := by decide +kernel
theorem d_Ce_middleOf_7 : decode b_Ce_middleOf 7 = .ok (.iadd, 1) := by decide +kernel
theorem d_Ce_middleOf_8 : decode b_Ce_middleOf 8 = .ok (.ireturn, 1) := by decide +kernel
theorem d_Ce_firstFrom_0 : decode b_Ce_firstFrom 0 = .ok (.bipush (-32), 2) := by decide +kernel
theorem d_Ce_firstFrom_2 : decode b_Ce_firstFrom 2 = .ok (.iload_n 0, 1) := by decide +kernel
theorem d_Ce_firstFrom_3 : decode b_Ce_firstFrom 3 = .ok (.sipush 16384, 3) := by decide +kernel
theorem d_Ce_firstFrom_6 : decode b_Ce_firstFrom 6 = .ok (.isub, 1) := by decide +kernel
theorem d_Ce_firstFrom_7 : decode b_Ce_firstFrom 7 = .ok (.ldc 87, 2) := by decide +kernel
theorem d_Ce_firstFrom_9 : decode b_Ce_firstFrom 9 = .ok (.iadd, 1) := by decide +kernel
theorem d_Ce_firstFrom_10 : decode b_Ce_firstFrom 10 = .ok (.iconst 1, 1) := by decide +kernel
theorem d_Ce_firstFrom_11 : decode b_Ce_firstFrom 11 = .ok (.isub, 1) := by decide +kernel
theorem d_Ce_firstFrom_12 : decode b_Ce_firstFrom 12 = .ok (.ldc 87, 2) := by decide +kernel
theorem d_Ce_firstFrom_14 : decode b_Ce_firstFrom 14 = .ok (.invokestatic 88, 3) := by decide +kernel
theorem d_Ce_firstFrom_17 : decode b_Ce_firstFrom 17 = .ok (.invokestatic 65, 3) := by decide +kernel
theorem d_Ce_firstFrom_20 : decode b_Ce_firstFrom 20 = .ok (.ireturn, 1) := by decide +kernel
theorem d_Ce_lastUpTo_0 : decode b_Ce_lastUpTo 0 = .ok (.bipush 31, 2) := by decide +kernel
theorem d_Ce_lastUpTo_2 : decode b_Ce_lastUpTo 2 = .ok (.iload_n 0, 1) := by decide +kernel
theorem d_Ce_lastUpTo_3 : decode b_Ce_lastUpTo 3 = .ok (.sipush 16384, 3) := by decide +kernel
theorem d_Ce_lastUpTo_6 : decode b_Ce_lastUpTo 6 = .ok (.isub, 1) := by decide +kernel
theorem d_Ce_lastUpTo_7 : decode b_Ce_lastUpTo 7 = .ok (.ldc 87, 2) := by decide +kernel
theorem d_Ce_lastUpTo_9 : decode b_Ce_lastUpTo 9 = .ok (.invokestatic 88, 3) := by decide +kernel
theorem d_Ce_lastUpTo_12 : decode b_Ce_lastUpTo 12 = .ok (.invokestatic 58, 3) := by decide +kernel
theorem d_Ce_lastUpTo_15 : decode b_Ce_lastUpTo 15 = .ok (.ireturn, 1) := by decide +kernel
theorem d_Di_round_0 : decode b_Di_round 0 = .ok (.iload_n 0, 1) := by decide +kernel
theorem d_Di_round_1 : decode b_Di_round 1 = .ok (.bipush 63, 2) := by decide +kernel
theorem d_Di_round_3 : decode b_Di_round 3 = .ok (.iand, 1) := by decide +kernel
theorem d_Di_round_4 : decode b_Di_round 4 = .ok (.ireturn, 1) := by decide +kernel
theorem d_Di_dx_0 : decode b_Di_dx 0 = .ok (.getstatic 9, 3) := by decide +kernel
theorem d_Di_dx_3 : decode b_Di_dx 3 = .ok (.iload_n 0, 1) := by decide +kernel
theorem d_Di_dx_4 : decode b_Di_dx 4 = .ok (.bipush 63, 2) := by decide +kernel
theorem d_Di_dx_6 : decode b_Di_dx 6 = .ok (.iand, 1) := by decide +kernel
theorem d_Di_dx_7 : decode b_Di_dx 7 = .ok (.iaload, 1) := by decide +kernel
theorem d_Di_dx_8 : decode b_Di_dx 8 = .ok (.ireturn, 1) := by decide +kernel
theorem d_Di_dy_0 : decode b_Di_dy 0 = .ok (.getstatic 9, 3) := by decide +kernel
theorem d_Di_dy_3 : decode b_Di_dy 3 = .ok (.iload_n 0, 1) := by decide +kernel
theorem d_Di_dy_4 : decode b_Di_dy 4 = .ok (.bipush 16, 2) := by decide +kernel
theorem d_Di_dy_6 : decode b_Di_dy 6 = .ok (.isub, 1) := by decide +kernel
theorem d_Di_dy_7 : decode b_Di_dy 7 = .ok (.bipush 63, 2) := by decide +kernel
theorem d_Di_dy_9 : decode b_Di_dy 9 = .ok (.iand, 1) := by decide +kernel
theorem d_Di_dy_10 : decode b_Di_dy 10 = .ok (.iaload, 1) := by decide +kernel
theorem d_Di_dy_11 : decode b_Di_dy 11 = .ok (.ireturn, 1) := by decide +kernel
theorem d_Di_askew_0 : decode b_Di_askew 0 = .ok (.iload_n 0, 1) := by decide +kernel
theorem d_Di_askew_1 : decode b_Di_askew 1 = .ok (.iload_n 1, 1) := by decide +kernel
theorem d_Di_askew_2 : decode b_Di_askew 2 = .ok (.isub, 1) := by decide +kernel
theorem d_Di_askew_3 : decode b_Di_askew 3 = .ok (.bipush 32, 2) := by decide +kernel
theorem d_Di_askew_5 : decode b_Di_askew 5 = .ok (.iadd, 1) := by decide +kernel
theorem d_Di_askew_6 : decode b_Di_askew 6 = .ok (.bipush 63, 2) := by decide +kernel
theorem d_Di_askew_8 : decode b_Di_askew 8 = .ok (.iand, 1) := by decide +kernel
theorem d_Di_askew_9 : decode b_Di_askew 9 = .ok (.bipush 32, 2) := by decide +kernel
theorem d_Di_askew_11 : decode b_Di_askew 11 = .ok (.isub, 1) := by decide +kernel
theorem d_Di_askew_12 : decode b_Di_askew 12 = .ok (.ireturn, 1) := by decide +kernel
theorem d_Pl_init_0 : decode b_Pl_init 0 = .ok (.aload_n 0, 1) := by decide +kernel
theorem d_Pl_init_1 : decode b_Pl_init 1 = .ok (.invokespecial 3, 3) := by decide +kernel
theorem d_Pl_init_4 : decode b_Pl_init 4 = .ok (.aload_n 0, 1) := by decide +kernel
theorem d_Pl_init_5 : decode b_Pl_init 5 = .ok (.bipush 6, 2) := by decide +kernel
theorem d_Pl_init_7 : decode b_Pl_init 7 = .ok (.newarray .int, 2) := by decide +kernel
theorem d_Pl_init_9 : decode b_Pl_init 9 = .ok (.putfield 9, 3) := by decide +kernel
theorem d_Pl_init_12 : decode b_Pl_init 12 = .ok (.aload_n 0, 1) := by decide +kernel
theorem d_Pl_init_13 : decode b_Pl_init 13 = .ok (.bipush 6, 2) := by decide +kernel
theorem d_Pl_init_15 : decode b_Pl_init 15 = .ok (.newarray .int, 2) := by decide +kernel
theorem d_Pl_init_17 : decode b_Pl_init 17 = .ok (.putfield 15, 3) := by decide +kernel
theorem d_Pl_init_20 : decode b_Pl_init 20 = .ok (.aload_n 0, 1) := by decide +kernel
theorem d_Pl_init_21 : decode b_Pl_init 21 = .ok (.bipush 6, 2) := by decide +kernel
theorem d_Pl_init_23 : decode b_Pl_init 23 = .ok (.newarray .boolean, 2) := by decide +kernel
theorem d_Pl_init_25 : decode b_Pl_init 25 = .ok (.putfield 18, 3) := by decide +kernel
theorem d_Pl_init_28 : decode b_Pl_init 28 = .ok (.return_, 1) := by decide +kernel
theorem d_Pl_add_0 : decode b_Pl_add 0 = .ok (.aload_n 0, 1) := by decide +kernel
theorem d_Pl_add_1 : decode b_Pl_add 1 = .ok (.getfield 22, 3) := by decide +kernel
theorem d_Pl_add_4 : decode b_Pl_add 4 = .ok (.bipush 6, 2) := by decide +kernel
theorem d_Pl_add_6 : decode b_Pl_add 6 = .ok (.if_icmp .lt 5, 3) := by decide +kernel
theorem d_Pl_add_9 : decode b_Pl_add 9 = .ok (.iconst 0, 1) := by decide +kernel
theorem d_Pl_add_10 : decode b_Pl_add 10 = .ok (.ireturn, 1) := by decide +kernel
theorem d_Pl_add_11 : decode b_Pl_add 11 = .ok (.aload_n 0, 1) := by decide +kernel
theorem d_Pl_add_12 : decode b_Pl_add 12 = .ok (.getfield 9, 3) := by decide +kernel
theorem d_Pl_add_15 : decode b_Pl_add 15 = .ok (.aload_n 0, 1) := by decide +kernel
theorem d_Pl_add_16 : decode b_Pl_add 16 = .ok (.getfield 22, 3) := by decide +kernel
theorem d_Pl_add_19 : decode b_Pl_add 19 = .ok (.iload_n 1, 1) := by decide +kernel
theorem d_Pl_add_20 : decode b_Pl_add 20 = .ok (.iastore, 1) := by decide +kernel
theorem d_Pl_add_21 : decode b_Pl_add 21 = .ok (.aload_n 0, 1) := by decide +kernel
theorem d_Pl_add_22 : decode b_Pl_add 22 = .ok (.getfield 15, 3) := by decide +kernel
theorem d_Pl_add_25 : decode b_Pl_add 25 = .ok (.aload_n 0, 1) := by decide +kernel
theorem d_Pl_add_26 : decode b_Pl_add 26 = .ok (.getfield 22, 3) := by decide +kernel
theorem d_Pl_add_29 : decode b_Pl_add 29 = .ok (.iload_n 2, 1) := by decide +kernel
theorem d_Pl_add_30 : decode b_Pl_add 30 = .ok (.iastore, 1) := by decide +kernel
theorem d_Pl_add_31 : decode b_Pl_add 31 = .ok (.aload_n 0, 1) := by decide +kernel
theorem d_Pl_add_32 : decode b_Pl_add 32 = .ok (.getfield 18, 3) := by decide +kernel
theorem d_Pl_add_35 : decode b_Pl_add 35 = .ok (.aload_n 0, 1) := by decide +kernel
theorem d_Pl_add_36 : decode b_Pl_add 36 = .ok (.getfield 22, 3) := by decide +kernel
theorem d_Pl_add_39 : decode b_Pl_add 39 = .ok (.iload_n 3, 1) := by decide +kernel
theorem d_Pl_add_40 : decode b_Pl_add 40 = .ok (.bastore, 1) := by decide +kernel
theorem d_Pl_add_41 : decode b_Pl_add 41 = .ok (.aload_n 0, 1) := by decide +kernel
theorem d_Pl_add_42 : decode b_Pl_add 42 = .ok (.dup, 1) := by decide +kernel
theorem d_Pl_add_43 : decode b_Pl_add 43 = .ok (.getfield 22, 3) := by decide +kernel
theorem d_Pl_add_46 : decode b_Pl_add 46 = .ok (.iconst 1, 1) := by decide +kernel
theorem d_Pl_add_47 : decode b_Pl_add 47 = .ok (.iadd, 1) := by decide +kernel
theorem d_Pl_add_48 : decode b_Pl_add 48 = .ok (.putfield 22, 3) := by decide +kernel
theorem d_Pl_add_51 : decode b_Pl_add 51 = .ok (.iconst 1, 1) := by decide +kernel
theorem d_Pl_add_52 : decode b_Pl_add 52 = .ok (.ireturn, 1) := by decide +kernel
theorem d_Po_init_0 : decode b_Po_init 0 = .ok (.aload_n 0, 1) := by decide +kernel
theorem d_Po_init_1 : decode b_Po_init 1 = .ok (.invokespecial 1, 3) := by decide +kernel
theorem d_Po_init_4 : decode b_Po_init 4 = .ok (.return_, 1) := by decide +kernel
theorem d_Ru_init_0 : decode b_Ru_init 0 = .ok (.aload_n 0, 1) := by decide +kernel
theorem d_Ru_init_1 : decode b_Ru_init 1 = .ok (.invokespecial 3, 3) := by decide +kernel
theorem d_Ru_init_4 : decode b_Ru_init 4 = .ok (.aload_n 0, 1) := by decide +kernel
theorem d_Ru_init_5 : decode b_Ru_init 5 = .ok (.iconst 3, 1) := by decide +kernel
theorem d_Ru_init_6 : decode b_Ru_init 6 = .ok (.anewarray 9, 3) := by decide +kernel
theorem d_Ru_init_9 : decode b_Ru_init 9 = .ok (.dup, 1) := by decide +kernel
theorem d_Ru_init_10 : decode b_Ru_init 10 = .ok (.iconst 0, 1) := by decide +kernel
theorem d_Ru_init_11 : decode b_Ru_init 11 = .ok (.new 9, 3) := by decide +kernel
theorem d_Ru_init_14 : decode b_Ru_init 14 = .ok (.dup, 1) := by decide +kernel
theorem d_Ru_init_15 : decode b_Ru_init 15 = .ok (.invokespecial 11, 3) := by decide +kernel
theorem d_Ru_init_18 : decode b_Ru_init 18 = .ok (.aastore, 1) := by decide +kernel
theorem d_Ru_init_19 : decode b_Ru_init 19 = .ok (.dup, 1) := by decide +kernel
theorem d_Ru_init_20 : decode b_Ru_init 20 = .ok (.iconst 1, 1) := by decide +kernel
theorem d_Ru_init_21 : decode b_Ru_init 21 = .ok (.new 9, 3) := by decide +kernel
theorem d_Ru_init_24 : decode b_Ru_init 24 = .ok (.dup, 1) := by decide +kernel
theorem d_Ru_init_25 : decode b_Ru_init 25 = .ok (.invokespecial 11, 3) := by decide +kernel
theorem d_Ru_init_28 : decode b_Ru_init 28 = .ok (.aastore, 1) := by decide +kernel
theorem d_Ru_init_29 : decode b_Ru_init 29 = .ok (.dup, 1) := by decide +kernel
theorem d_Ru_init_30 : decode b_Ru_init 30 = .ok (.iconst 2, 1) := by decide +kernel
theorem d_Ru_init_31 : decode b_Ru_init 31 = .ok (.new 9, 3) := by decide +kernel
theorem d_Ru_init_34 : decode b_Ru_init 34 = .ok (.dup, 1) := by decide +kernel
theorem d_Ru_init_35 : decode b_Ru_init 35 = .ok (.invokespecial 11, 3) := by decide +kernel
theorem d_Ru_init_38 : decode b_Ru_init 38 = .ok (.aastore, 1) := by decide +kernel
theorem d_Ru_init_39 : decode b_Ru_init 39 = .ok (.putfield 12, 3) := by decide +kernel
theorem d_Ru_init_42 : decode b_Ru_init 42 = .ok (.aload_n 0, 1) := by decide +kernel
theorem d_Ru_init_43 : decode b_Ru_init 43 = .ok (.new 18, 3) := by decide +kernel
theorem d_Ru_init_46 : decode b_Ru_init 46 = .ok (.dup, 1) := by decide +kernel
theorem d_Ru_init_47 : decode b_Ru_init 47 = .ok (.invokespecial 20, 3) := by decide +kernel
theorem d_Ru_init_50 : decode b_Ru_init 50 = .ok (.putfield 21, 3) := by decide +kernel
theorem d_Ru_init_53 : decode b_Ru_init 53 = .ok (.aload_n 0, 1) := by decide +kernel
theorem d_Ru_init_54 : decode b_Ru_init 54 = .ok (.iconst (-1), 1) := by decide +kernel
theorem d_Ru_init_55 : decode b_Ru_init 55 = .ok (.putfield 25, 3) := by decide +kernel
theorem d_Ru_init_58 : decode b_Ru_init 58 = .ok (.aload_n 0, 1) := by decide +kernel
theorem d_Ru_init_59 : decode b_Ru_init 59 = .ok (.iconst (-1), 1) := by decide +kernel
theorem d_Ru_init_60 : decode b_Ru_init 60 = .ok (.putfield 29, 3) := by decide +kernel
theorem d_Ru_init_63 : decode b_Ru_init 63 = .ok (.aload_n 0, 1) := by decide +kernel
theorem d_Ru_init_64 : decode b_Ru_init 64 = .ok (.iconst (-1), 1) := by decide +kernel
theorem d_Ru_init_65 : decode b_Ru_init 65 = .ok (.putfield 32, 3) := by decide +kernel
theorem d_Ru_init_68 : decode b_Ru_init 68 = .ok (.aload_n 0, 1) := by decide +kernel
theorem d_Ru_init_69 : decode b_Ru_init 69 = .ok (.aload_n 1, 1) := by decide +kernel
theorem d_Ru_init_70 : decode b_Ru_init 70 = .ok (.putfield 35, 3) := by decide +kernel
theorem d_Ru_init_73 : decode b_Ru_init 73 = .ok (.return_, 1) := by decide +kernel
theorem d_Ru_begin_0 : decode b_Ru_begin 0 = .ok (.aload_n 0, 1) := by decide +kernel
theorem d_Ru_begin_1 : decode b_Ru_begin 1 = .ok (.iconst 0, 1) := by decide +kernel
theorem d_Ru_begin_2 : decode b_Ru_begin 2 = .ok (.putfield 39, 3) := by decide +kernel
theorem d_Ru_begin_5 : decode b_Ru_begin 5 = .ok (.aload_n 0, 1) := by decide +kernel
theorem d_Ru_begin_6 : decode b_Ru_begin 6 = .ok (.iconst 0, 1) := by decide +kernel
theorem d_Ru_begin_7 : decode b_Ru_begin 7 = .ok (.putfield 42, 3) := by decide +kernel
theorem d_Ru_begin_10 : decode b_Ru_begin 10 = .ok (.aload_n 0, 1) := by decide +kernel
theorem d_Ru_begin_11 : decode b_Ru_begin 11 = .ok (.iconst (-1), 1) := by decide +kernel
theorem d_Ru_begin_12 : decode b_Ru_begin 12 = .ok (.putfield 25, 3) := by decide +kernel
theorem d_Ru_begin_15 : decode b_Ru_begin 15 = .ok (.aload_n 0, 1) := by decide +kernel
theorem d_Ru_begin_16 : decode b_Ru_begin 16 = .ok (.iconst (-1), 1) := by decide +kernel
theorem d_Ru_begin_17 : decode b_Ru_begin 17 = .ok (.putfield 29, 3) := by decide +kernel
theorem d_Ru_begin_20 : decode b_Ru_begin 20 = .ok (.aload_n 0, 1) := by decide +kernel
theorem d_Ru_begin_21 : decode b_Ru_begin 21 = .ok (.iconst (-1), 1) := by decide +kernel
theorem d_Ru_begin_22 : decode b_Ru_begin 22 = .ok (.putfield 32, 3) := by decide +kernel
theorem d_Ru_begin_25 : decode b_Ru_begin 25 = .ok (.aload_n 0, 1) := by decide +kernel
theorem d_Ru_begin_26 : decode b_Ru_begin 26 = .ok (.getfield 21, 3) := by decide +kernel
theorem d_Ru_begin_29 : decode b_Ru_begin 29 = .ok (.invokevirtual 46, 3) := by decide +kernel
theorem d_Ru_begin_32 : decode b_Ru_begin 32 = .ok (.iconst 0, 1) := by decide +kernel
theorem d_Ru_begin_33 : decode b_Ru_begin 33 = .ok (.istore_n 1, 1) := by decide +kernel
theorem d_Ru_begin_34 : decode b_Ru_begin 34 = .ok (.iload_n 1, 1) := by decide +kernel
theorem d_Ru_begin_35 : decode b_Ru_begin 35 = .ok (.aload_n 0, 1) := by decide +kernel
theorem d_Ru_begin_36 : decode b_Ru_begin 36 = .ok (.getfield 35, 3) := by decide +kernel
theorem d_Ru_begin_39 : decode b_Ru_begin 39 = .ok (.getfield 49, 3) := by decide +kernel
theorem d_Ru_begin_42 : decode b_Ru_begin 42 = .ok (.if_icmp .ge 37, 3) := by decide +kernel
theorem d_Ru_begin_45 : decode b_Ru_begin 45 = .ok (.aload_n 0, 1) := by decide +kernel
theorem d_Ru_begin_46 : decode b_Ru_begin 46 = .ok (.getfield 12, 3) := by decide +kernel
theorem d_Ru_begin_49 : decode b_Ru_begin 49 = .ok (.iload_n 1, 1) := by decide +kernel
theorem d_Ru_begin_50 : decode b_Ru_begin 50 = .ok (.aaload, 1) := by decide +kernel
theorem d_Ru_begin_51 : decode b_Ru_begin 51 = .ok (.astore_n 2, 1) := by decide +kernel
theorem d_Ru_begin_52 : decode b_Ru_begin 52 = .ok (.aload_n 2, 1) := by decide +kernel
theorem d_Ru_begin_53 : decode b_Ru_begin 53 = .ok (.aload_n 0, 1) := by decide +kernel
theorem d_Ru_begin_54 : decode b_Ru_begin 54 = .ok (.getfield 35, 3) := by decide +kernel
theorem d_Ru_begin_57 : decode b_Ru_begin 57 = .ok (.getfield 54, 3) := by decide +kernel
theorem d_Ru_begin_60 : decode b_Ru_begin 60 = .ok (.putfield 57, 3) := by decide +kernel
theorem d_Ru_begin_63 : decode b_Ru_begin 63 = .ok (.aload_n 2, 1) := by decide +kernel
theorem d_Ru_begin_64 : decode b_Ru_begin 64 = .ok (.iconst 0, 1) := by decide +kernel
