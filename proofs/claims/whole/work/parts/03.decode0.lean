theorem d_SP_init_0 : decode b_SP_init 0 = .ok (.aload_n 0, 1) := by decide +kernel
theorem d_SP_init_1 : decode b_SP_init 1 = .ok (.invokespecial 1, 3) := by decide +kernel
theorem d_SP_init_4 : decode b_SP_init 4 = .ok (.aload_n 0, 1) := by decide +kernel
theorem d_SP_init_5 : decode b_SP_init 5 = .ok (.new 7, 3) := by decide +kernel
theorem d_SP_init_8 : decode b_SP_init 8 = .ok (.dup, 1) := by decide +kernel
theorem d_SP_init_9 : decode b_SP_init 9 = .ok (.invokespecial 9, 3) := by decide +kernel
theorem d_SP_init_12 : decode b_SP_init 12 = .ok (.putfield 10, 3) := by decide +kernel
theorem d_SP_init_15 : decode b_SP_init 15 = .ok (.aload_n 0, 1) := by decide +kernel
theorem d_SP_init_16 : decode b_SP_init 16 = .ok (.new 16, 3) := by decide +kernel
theorem d_SP_init_19 : decode b_SP_init 19 = .ok (.dup, 1) := by decide +kernel
theorem d_SP_init_20 : decode b_SP_init 20 = .ok (.aload_n 0, 1) := by decide +kernel
theorem d_SP_init_21 : decode b_SP_init 21 = .ok (.getfield 10, 3) := by decide +kernel
theorem d_SP_init_24 : decode b_SP_init 24 = .ok (.invokespecial 18, 3) := by decide +kernel
theorem d_SP_init_27 : decode b_SP_init 27 = .ok (.putfield 21, 3) := by decide +kernel
theorem d_SP_init_30 : decode b_SP_init 30 = .ok (.aload_n 0, 1) := by decide +kernel
theorem d_SP_init_31 : decode b_SP_init 31 = .ok (.new 16, 3) := by decide +kernel
theorem d_SP_init_34 : decode b_SP_init 34 = .ok (.dup, 1) := by decide +kernel
theorem d_SP_init_35 : decode b_SP_init 35 = .ok (.aload_n 0, 1) := by decide +kernel
theorem d_SP_init_36 : decode b_SP_init 36 = .ok (.getfield 10, 3) := by decide +kernel
theorem d_SP_init_39 : decode b_SP_init 39 = .ok (.invokespecial 18, 3) := by decide +kernel
theorem d_SP_init_42 : decode b_SP_init 42 = .ok (.putfield 25, 3) := by decide +kernel
theorem d_SP_init_45 : decode b_SP_init 45 = .ok (.aload_n 0, 1) := by decide +kernel
theorem d_SP_init_46 : decode b_SP_init 46 = .ok (.iconst 4, 1) := by decide +kernel
theorem d_SP_init_47 : decode b_SP_init 47 = .ok (.anewarray 28, 3) := by decide +kernel
theorem d_SP_init_50 : decode b_SP_init 50 = .ok (.putfield 30, 3) := by decide +kernel
theorem d_SP_init_53 : decode b_SP_init 53 = .ok (.iconst 0, 1) := by decide +kernel
theorem d_SP_init_54 : decode b_SP_init 54 = .ok (.istore_n 1, 1) := by decide +kernel
theorem d_SP_init_55 : decode b_SP_init 55 = .ok (.iload_n 1, 1) := by decide +kernel
theorem d_SP_init_56 : decode b_SP_init 56 = .ok (.iconst 4, 1) := by decide +kernel
theorem d_SP_init_57 : decode b_SP_init 57 = .ok (.if_icmp .ge 22, 3) := by decide +kernel
theorem d_SP_init_60 : decode b_SP_init 60 = .ok (.aload_n 0, 1) := by decide +kernel
theorem d_SP_init_61 : decode b_SP_init 61 = .ok (.getfield 30, 3) := by decide +kernel
theorem d_SP_init_64 : decode b_SP_init 64 = .ok (.iload_n 1, 1) := by decide +kernel
theorem d_SP_init_65 : decode b_SP_init 65 = .ok (.new 28, 3) := by decide +kernel
theorem d_SP_init_68 : decode b_SP_init 68 = .ok (.dup, 1) := by decide +kernel
theorem d_SP_init_69 : decode b_SP_init 69 = .ok (.invokespecial 34, 3) := by decide +kernel
theorem d_SP_init_72 : decode b_SP_init 72 = .ok (.aastore, 1) := by decide +kernel
theorem d_SP_init_73 : decode b_SP_init 73 = .ok (.iinc 1 1, 3) := by decide +kernel
theorem d_SP_init_76 : decode b_SP_init 76 = .ok (.goto (-21), 3) := by decide +kernel
theorem d_SP_init_79 : decode b_SP_init 79 = .ok (.return_, 1) := by decide +kernel
theorem d_SP_body_0 : decode b_SP_body 0 = .ok (.iload_n 1, 1) := by decide +kernel
theorem d_SP_body_1 : decode b_SP_body 1 = .ok (.iconst 1, 1) := by decide +kernel
theorem d_SP_body_2 : decode b_SP_body 2 = .ok (.sipush 200, 3) := by decide +kernel
theorem d_SP_body_5 : decode b_SP_body 5 = .ok (.invokestatic 35, 3) := by decide +kernel
theorem d_SP_body_8 : decode b_SP_body 8 = .ok (.iload_n 2, 1) := by decide +kernel
theorem d_SP_body_9 : decode b_SP_body 9 = .ok (.iconst 0, 1) := by decide +kernel
theorem d_SP_body_10 : decode b_SP_body 10 = .ok (.sipush 200, 3) := by decide +kernel
theorem d_SP_body_13 : decode b_SP_body 13 = .ok (.invokestatic 35, 3) := by decide +kernel
theorem d_SP_body_16 : decode b_SP_body 16 = .ok (.iload_n 3, 1) := by decide +kernel
theorem d_SP_body_17 : decode b_SP_body 17 = .ok (.iconst 0, 1) := by decide +kernel
theorem d_SP_body_18 : decode b_SP_body 18 = .ok (.bipush 60, 2) := by decide +kernel
theorem d_SP_body_20 : decode b_SP_body 20 = .ok (.invokestatic 35, 3) := by decide +kernel
theorem d_SP_body_23 : decode b_SP_body 23 = .ok (.iload 4, 2) := by decide +kernel
theorem d_SP_body_25 : decode b_SP_body 25 = .ok (.iconst 0, 1) := by decide +kernel
theorem d_SP_body_26 : decode b_SP_body 26 = .ok (.bipush 60, 2) := by decide +kernel
theorem d_SP_body_28 : decode b_SP_body 28 = .ok (.invokestatic 35, 3) := by decide +kernel
theorem d_SP_body_31 : decode b_SP_body 31 = .ok (.iload 5, 2) := by decide +kernel
theorem d_SP_body_33 : decode b_SP_body 33 = .ok (.iconst 1, 1) := by decide +kernel
theorem d_SP_body_34 : decode b_SP_body 34 = .ok (.bipush 20, 2) := by decide +kernel
theorem d_SP_body_36 : decode b_SP_body 36 = .ok (.invokestatic 35, 3) := by decide +kernel
theorem d_SP_body_39 : decode b_SP_body 39 = .ok (.aload_n 0, 1) := by decide +kernel
theorem d_SP_body_40 : decode b_SP_body 40 = .ok (.getfield 10, 3) := by decide +kernel
theorem d_SP_body_43 : decode b_SP_body 43 = .ok (.getfield 39, 3) := by decide +kernel
theorem d_SP_body_46 : decode b_SP_body 46 = .ok (.istore 6, 2) := by decide +kernel
theorem d_SP_body_48 : decode b_SP_body 48 = .ok (.iload 6, 2) := by decide +kernel
theorem d_SP_body_50 : decode b_SP_body 50 = .ok (.iconst 3, 1) := by decide +kernel
theorem d_SP_body_51 : decode b_SP_body 51 = .ok (.if_icmp .lt 13, 3) := by decide +kernel
theorem d_SP_body_54 : decode b_SP_body 54 = .ok (.new 43, 3) := by decide +kernel
theorem d_SP_body_57 : decode b_SP_body 57 = .ok (.dup, 1) := by decide +kernel
theorem d_SP_body_58 : decode b_SP_body 58 = .ok (.ldc 45, 2) := by decide +kernel
theorem d_SP_body_60 : decode b_SP_body 60 = .ok (.invokespecial 47, 3) := by decide +kernel
theorem d_SP_body_63 : decode b_SP_body 63 = .ok (.athrow, 1) := by decide +kernel
theorem d_SP_body_64 : decode b_SP_body 64 = .ok (.aload_n 0, 1) := by decide +kernel
theorem d_SP_body_65 : decode b_SP_body 65 = .ok (.getfield 10, 3) := by decide +kernel
theorem d_SP_body_68 : decode b_SP_body 68 = .ok (.getfield 50, 3) := by decide +kernel
theorem d_SP_body_71 : decode b_SP_body 71 = .ok (.iload 6, 2) := by decide +kernel
theorem d_SP_body_73 : decode b_SP_body 73 = .ok (.aaload, 1) := by decide +kernel
theorem d_SP_body_74 : decode b_SP_body 74 = .ok (.astore 7, 2) := by decide +kernel
theorem d_SP_body_76 : decode b_SP_body 76 = .ok (.aload 7, 2) := by decide +kernel
theorem d_SP_body_78 : decode b_SP_body 78 = .ok (.iload_n 1, 1) := by decide +kernel
theorem d_SP_body_79 : decode b_SP_body 79 = .ok (.putfield 54, 3) := by decide +kernel
theorem d_SP_body_82 : decode b_SP_body 82 = .ok (.aload 7, 2) := by decide +kernel
theorem d_SP_body_84 : decode b_SP_body 84 = .ok (.iload_n 2, 1) := by decide +kernel
theorem d_SP_body_85 : decode b_SP_body 85 = .ok (.putfield 59, 3) := by decide +kernel
theorem d_SP_body_88 : decode b_SP_body 88 = .ok (.aload 7, 2) := by decide +kernel
theorem d_SP_body_90 : decode b_SP_body 90 = .ok (.iload_n 3, 1) := by decide +kernel
theorem d_SP_body_91 : decode b_SP_body 91 = .ok (.putfield 62, 3) := by decide +kernel
theorem d_SP_body_94 : decode b_SP_body 94 = .ok (.aload 7, 2) := by decide +kernel
theorem d_SP_body_96 : decode b_SP_body 96 = .ok (.iload 4, 2) := by decide +kernel
theorem d_SP_body_98 : decode b_SP_body 98 = .ok (.putfield 65, 3) := by decide +kernel
theorem d_SP_body_101 : decode b_SP_body 101 = .ok (.aload 7, 2) := by decide +kernel
theorem d_SP_body_103 : decode b_SP_body 103 = .ok (.iload 5, 2) := by decide +kernel
theorem d_SP_body_105 : decode b_SP_body 105 = .ok (.putfield 68, 3) := by decide +kernel
theorem d_SP_body_108 : decode b_SP_body 108 = .ok (.aload_n 0, 1) := by decide +kernel
theorem d_SP_body_109 : decode b_SP_body 109 = .ok (.getfield 10, 3) := by decide +kernel
theorem d_SP_body_112 : decode b_SP_body 112 = .ok (.iload 6, 2) := by decide +kernel
theorem d_SP_body_114 : decode b_SP_body 114 = .ok (.iconst 1, 1) := by decide +kernel
theorem d_SP_body_115 : decode b_SP_body 115 = .ok (.iadd, 1) := by decide +kernel
theorem d_SP_body_116 : decode b_SP_body 116 = .ok (.putfield 39, 3) := by decide +kernel
theorem d_SP_body_119 : decode b_SP_body 119 = .ok (.aload_n 0, 1) := by decide +kernel
theorem d_SP_body_120 : decode b_SP_body 120 = .ok (.getfield 21, 3) := by decide +kernel
theorem d_SP_body_123 : decode b_SP_body 123 = .ok (.invokevirtual 71, 3) := by decide +kernel
theorem d_SP_body_126 : decode b_SP_body 126 = .ok (.iload 6, 2) := by decide +kernel
theorem d_SP_body_128 : decode b_SP_body 128 = .ok (.ireturn, 1) := by decide +kernel
theorem d_SP_start_0 : decode b_SP_start 0 = .ok (.iload_n 1, 1) := by decide +kernel
theorem d_SP_start_1 : decode b_SP_start 1 = .ok (.sipush (-1000), 3) := by decide +kernel
theorem d_SP_start_4 : decode b_SP_start 4 = .ok (.sipush 1000, 3) := by decide +kernel
theorem d_SP_start_7 : decode b_SP_start 7 = .ok (.invokestatic 35, 3) := by decide +kernel
theorem d_SP_start_10 : decode b_SP_start 10 = .ok (.iload_n 2, 1) := by decide +kernel
theorem d_SP_start_11 : decode b_SP_start 11 = .ok (.sipush (-1000), 3) := by decide +kernel
theorem d_SP_start_14 : decode b_SP_start 14 = .ok (.sipush 1000, 3) := by decide +kernel
theorem d_SP_start_17 : decode b_SP_start 17 = .ok (.invokestatic 35, 3) := by decide +kernel
theorem d_SP_start_20 : decode b_SP_start 20 = .ok (.iload_n 3, 1) := by decide +kernel
theorem d_SP_start_21 : decode b_SP_start 21 = .ok (.iconst 0, 1) := by decide +kernel
theorem d_SP_start_22 : decode b_SP_start 22 = .ok (.bipush 63, 2) := by decide +kernel
theorem d_SP_start_24 : decode b_SP_start 24 = .ok (.invokestatic 35, 3) := by decide +kernel
theorem d_SP_start_27 : decode b_SP_start 27 = .ok (.aload_n 0, 1) := by decide +kernel
theorem d_SP_start_28 : decode b_SP_start 28 = .ok (.getfield 10, 3) := by decide +kernel
theorem d_SP_start_31 : decode b_SP_start 31 = .ok (.iload_n 1, 1) := by decide +kernel
theorem d_SP_start_32 : decode b_SP_start 32 = .ok (.putfield 76, 3) := by decide +kernel
theorem d_SP_start_35 : decode b_SP_start 35 = .ok (.aload_n 0, 1) := by decide +kernel
theorem d_SP_start_36 : decode b_SP_start 36 = .ok (.getfield 10, 3) := by decide +kernel
theorem d_SP_start_39 : decode b_SP_start 39 = .ok (.iload_n 2, 1) := by decide +kernel
theorem d_SP_start_40 : decode b_SP_start 40 = .ok (.putfield 79, 3) := by decide +kernel
theorem d_SP_start_43 : decode b_SP_start 43 = .ok (.aload_n 0, 1) := by decide +kernel
theorem d_SP_start_44 : decode b_SP_start 44 = .ok (.getfield 10, 3) := by decide +kernel
theorem d_SP_start_47 : decode b_SP_start 47 = .ok (.iload_n 3, 1) := by decide +kernel
theorem d_SP_start_48 : decode b_SP_start 48 = .ok (.putfield 82, 3) := by decide +kernel
theorem d_SP_start_51 : decode b_SP_start 51 = .ok (.aload_n 0, 1) := by decide +kernel
theorem d_SP_start_52 : decode b_SP_start 52 = .ok (.getfield 21, 3) := by decide +kernel
theorem d_SP_start_55 : decode b_SP_start 55 = .ok (.invokevirtual 71, 3) := by decide +kernel
theorem d_SP_start_58 : decode b_SP_start 58 = .ok (.return_, 1) := by decide +kernel
theorem d_SP_step_0 : decode b_SP_step 0 = .ok (.iload_n 1, 1) := by decide +kernel
theorem d_SP_step_1 : decode b_SP_step 1 = .ok (.iconst 1, 1) := by decide +kernel
theorem d_SP_step_2 : decode b_SP_step 2 = .ok (.bipush 20, 2) := by decide +kernel
theorem d_SP_step_4 : decode b_SP_step 4 = .ok (.invokestatic 35, 3) := by decide +kernel
theorem d_SP_step_7 : decode b_SP_step 7 = .ok (.aload_n 0, 1) := by decide +kernel
theorem d_SP_step_8 : decode b_SP_step 8 = .ok (.getfield 10, 3) := by decide +kernel
theorem d_SP_step_11 : decode b_SP_step 11 = .ok (.getfield 85, 3) := by decide +kernel
theorem d_SP_step_14 : decode b_SP_step 14 = .ok (.istore_n 2, 1) := by decide +kernel
theorem d_SP_step_15 : decode b_SP_step 15 = .ok (.aload_n 0, 1) := by decide +kernel
theorem d_SP_step_16 : decode b_SP_step 16 = .ok (.getfield 10, 3) := by decide +kernel
theorem d_SP_step_19 : decode b_SP_step 19 = .ok (.iload_n 1, 1) := by decide +kernel
theorem d_SP_step_20 : decode b_SP_step 20 = .ok (.putfield 85, 3) := by decide +kernel
theorem d_SP_step_23 : decode b_SP_step 23 = .ok (.aload_n 0, 1) := by decide +kernel
theorem d_SP_step_24 : decode b_SP_step 24 = .ok (.getfield 21, 3) := by decide +kernel
theorem d_SP_step_27 : decode b_SP_step 27 = .ok (.invokevirtual 71, 3) := by decide +kernel
theorem d_SP_step_30 : decode b_SP_step 30 = .ok (.iload_n 2, 1) := by decide +kernel
theorem d_SP_step_31 : decode b_SP_step 31 = .ok (.ireturn, 1) := by decide +kernel
theorem d_SP_pole_0 : decode b_SP_pole 0 = .ok (.iload_n 1, 1) := by decide +kernel
theorem d_SP_pole_1 : decode b_SP_pole 1 = .ok (.sipush (-1000), 3) := by decide +kernel
theorem d_SP_pole_4 : decode b_SP_pole 4 = .ok (.sipush 1000, 3) := by decide +kernel
theorem d_SP_pole_7 : decode b_SP_pole 7 = .ok (.invokestatic 35, 3) := by decide +kernel
theorem d_SP_pole_10 : decode b_SP_pole 10 = .ok (.iload_n 2, 1) := by decide +kernel
theorem d_SP_pole_11 : decode b_SP_pole 11 = .ok (.sipush (-1000), 3) := by decide +kernel
theorem d_SP_pole_14 : decode b_SP_pole 14 = .ok (.sipush 1000, 3) := by decide +kernel
theorem d_SP_pole_17 : decode b_SP_pole 17 = .ok (.invokestatic 35, 3) := by decide +kernel
theorem d_SP_pole_20 : decode b_SP_pole 20 = .ok (.aload_n 0, 1) := by decide +kernel
theorem d_SP_pole_21 : decode b_SP_pole 21 = .ok (.getfield 10, 3) := by decide +kernel
theorem d_SP_pole_24 : decode b_SP_pole 24 = .ok (.getfield 88, 3) := by decide +kernel
theorem d_SP_pole_27 : decode b_SP_pole 27 = .ok (.istore_n 3, 1) := by decide +kernel
theorem d_SP_pole_28 : decode b_SP_pole 28 = .ok (.iload_n 3, 1) := by decide +kernel
theorem d_SP_pole_29 : decode b_SP_pole 29 = .ok (.bipush 20, 2) := by decide +kernel
theorem d_SP_pole_31 : decode b_SP_pole 31 = .ok (.if_icmp .lt 13, 3) := by decide +kernel
theorem d_SP_pole_34 : decode b_SP_pole 34 = .ok (.new 43, 3) := by decide +kernel
theorem d_SP_pole_37 : decode b_SP_pole 37 = .ok (.dup, 1) := by decide +kernel
theorem d_SP_pole_38 : decode b_SP_pole 38 = .ok (.ldc 91, 2) := by decide +kernel
theorem d_SP_pole_40 : decode b_SP_pole 40 = .ok (.invokespecial 47, 3) := by decide +kernel
theorem d_SP_pole_43 : decode b_SP_pole 43 = .ok (.athrow, 1) := by decide +kernel
theorem d_SP_pole_44 : decode b_SP_pole 44 = .ok (.aload_n 0, 1) := by decide +kernel
theorem d_SP_pole_45 : decode b_SP_pole 45 = .ok (.getfield 10, 3) := by decide +kernel
theorem d_SP_pole_48 : decode b_SP_pole 48 = .ok (.getfield 93, 3) := by decide +kernel
theorem d_SP_pole_51 : decode b_SP_pole 51 = .ok (.iload_n 3, 1) := by decide +kernel
theorem d_SP_pole_52 : decode b_SP_pole 52 = .ok (.iload_n 1, 1) := by decide +kernel
theorem d_SP_pole_53 : decode b_SP_pole 53 = .ok (.sipush 4096, 3) := by decide +kernel
theorem d_SP_pole_56 : decode b_SP_pole 56 = .ok (.imul, 1) := by decide +kernel
theorem d_SP_pole_57 : decode b_SP_pole 57 = .ok (.iastore, 1) := by decide +kernel
theorem d_SP_pole_58 : decode b_SP_pole 58 = .ok (.aload_n 0, 1) := by decide +kernel
theorem d_SP_pole_59 : decode b_SP_pole 59 = .ok (.getfield 10, 3) := by decide +kernel
theorem d_SP_pole_62 : decode b_SP_pole 62 = .ok (.getfield 97, 3) := by decide +kernel
theorem d_SP_pole_65 : decode b_SP_pole 65 = .ok (.iload_n 3, 1) := by decide +kernel
theorem d_SP_pole_66 : decode b_SP_pole 66 = .ok (.iload_n 2, 1) := by decide +kernel
theorem d_SP_pole_67 : decode b_SP_pole 67 = .ok (.sipush 4096, 3) := by decide +kernel
theorem d_SP_pole_70 : decode b_SP_pole 70 = .ok (.imul, 1) := by decide +kernel
theorem d_SP_pole_71 : decode b_SP_pole 71 = .ok (.iastore, 1) := by decide +kernel
theorem d_SP_pole_72 : decode b_SP_pole 72 = .ok (.aload_n 0, 1) := by decide +kernel
theorem d_SP_pole_73 : decode b_SP_pole 73 = .ok (.getfield 10, 3) := by decide +kernel
theorem d_SP_pole_76 : decode b_SP_pole 76 = .ok (.iload_n 3, 1) := by decide +kernel
theorem d_SP_pole_77 : decode b_SP_pole 77 = .ok (.iconst 1, 1) := by decide +kernel
theorem d_SP_pole_78 : decode b_SP_pole 78 = .ok (.iadd, 1) := by decide +kernel
theorem d_SP_pole_79 : decode b_SP_pole 79 = .ok (.putfield 88, 3) := by decide +kernel
theorem d_SP_pole_82 : decode b_SP_pole 82 = .ok (.iload_n 3, 1) := by decide +kernel
theorem d_SP_pole_83 : decode b_SP_pole 83 = .ok (.ireturn, 1) := by decide +kernel
theorem d_SP_go_0 : decode b_SP_go 0 = .ok (.iload_n 1, 1) := by decide +kernel
theorem d_SP_go_1 : decode b_SP_go 1 = .ok (.bipush (-3), 2) := by decide +kernel
theorem d_SP_go_3 : decode b_SP_go 3 = .ok (.iconst 3, 1) := by decide +kernel
theorem d_SP_go_4 : decode b_SP_go 4 = .ok (.invokestatic 35, 3) := by decide +kernel
theorem d_SP_go_7 : decode b_SP_go 7 = .ok (.iload_n 2, 1) := by decide +kernel
theorem d_SP_go_8 : decode b_SP_go 8 = .ok (.iconst 1, 1) := by decide +kernel
theorem d_SP_go_9 : decode b_SP_go 9 = .ok (.sipush 200, 3) := by decide +kernel
theorem d_SP_go_12 : decode b_SP_go 12 = .ok (.invokestatic 35, 3) := by decide +kernel
theorem d_SP_go_15 : decode b_SP_go 15 = .ok (.aload_n 0, 1) := by decide +kernel
theorem d_SP_go_16 : decode b_SP_go 16 = .ok (.invokevirtual 100, 3) := by decide +kernel
theorem d_SP_go_19 : decode b_SP_go 19 = .ok (.aload_n 0, 1) := by decide +kernel
theorem d_SP_go_20 : decode b_SP_go 20 = .ok (.getfield 21, 3) := by decide +kernel
theorem d_SP_go_23 : decode b_SP_go 23 = .ok (.iload_n 1, 1) := by decide +kernel
theorem d_SP_go_24 : decode b_SP_go 24 = .ok (.iload_n 2, 1) := by decide +kernel
theorem d_SP_go_25 : decode b_SP_go 25 = .ok (.iload_n 3, 1) := by decide +kernel
theorem d_SP_go_26 : decode b_SP_go 26 = .ok (.invokevirtual 103, 3) := by decide +kernel
theorem d_SP_go_29 : decode b_SP_go 29 = .ok (.aload_n 0, 1) := by decide +kernel
theorem d_SP_go_30 : decode b_SP_go 30 = .ok (.getfield 21, 3) := by decide +kernel
theorem d_SP_go_33 : decode b_SP_go 33 = .ok (.getfield 107, 3) := by decide +kernel
theorem d_SP_go_36 : decode b_SP_go 36 = .ok (.ireturn, 1) := by decide +kernel
theorem d_SP_told_0 : decode b_SP_told 0 = .ok (.iload_n 1, 1) := by decide +kernel
theorem d_SP_told_1 : decode b_SP_told 1 = .ok (.iconst 0, 1) := by decide +kernel
theorem d_SP_told_2 : decode b_SP_told 2 = .ok (.aload_n 0, 1) := by decide +kernel
theorem d_SP_told_3 : decode b_SP_told 3 = .ok (.getfield 10, 3) := by decide +kernel
theorem d_SP_told_6 : decode b_SP_told 6 = .ok (.getfield 39, 3) := by decide +kernel
theorem d_SP_told_9 : decode b_SP_told 9 = .ok (.iconst 1, 1) := by decide +kernel
theorem d_SP_told_10 : decode b_SP_told 10 = .ok (.isub, 1) := by decide +kernel
theorem d_SP_told_11 : decode b_SP_told 11 = .ok (.invokestatic 35, 3) := by decide +kernel
theorem d_SP_told_14 : decode b_SP_told 14 = .ok (.iload_n 2, 1) := by decide +kernel
theorem d_SP_told_15 : decode b_SP_told 15 = .ok (.iconst 0, 1) := by decide +kernel
theorem d_SP_told_16 : decode b_SP_told 16 = .ok (.iconst 4, 1) := by decide +kernel
theorem d_SP_told_17 : decode b_SP_told 17 = .ok (.invokestatic 35, 3) := by decide +kernel
theorem d_SP_told_20 : decode b_SP_told 20 = .ok (.aload_n 0, 1) := by decide +kernel
theorem d_SP_told_21 : decode b_SP_told 21 = .ok (.getfield 21, 3) := by decide +kernel
theorem d_SP_told_24 : decode b_SP_told 24 = .ok (.getfield 110, 3) := by decide +kernel
theorem d_SP_told_27 : decode b_SP_told 27 = .ok (.iload_n 1, 1) := by decide +kernel
theorem d_SP_told_28 : decode b_SP_told 28 = .ok (.aaload, 1) := by decide +kernel
theorem d_SP_told_29 : decode b_SP_told 29 = .ok (.astore_n 3, 1) := by decide +kernel
theorem d_SP_told_30 : decode b_SP_told 30 = .ok (.iload_n 2, 1) := by decide +kernel
theorem d_SP_told_31 : decode b_SP_told 31 = .ok (.tableswitch 53 0 3 #[29, 34, 39, 44], 29) := by decide +kernel
theorem d_SP_told_60 : decode b_SP_told 60 = .ok (.aload_n 3, 1) := by decide +kernel
theorem d_SP_told_61 : decode b_SP_told 61 = .ok (.getfield 114, 3) := by decide +kernel
theorem d_SP_told_64 : decode b_SP_told 64 = .ok (.ireturn, 1) := by decide +kernel
theorem d_SP_told_65 : decode b_SP_told 65 = .ok (.aload_n 3, 1) := by decide +kernel
theorem d_SP_told_66 : decode b_SP_told 66 = .ok (.getfield 119, 3) := by decide +kernel
theorem d_SP_told_69 : decode b_SP_told 69 = .ok (.ireturn, 1) := by decide +kernel
theorem d_SP_told_70 : decode b_SP_told 70 = .ok (.aload_n 3, 1) := by decide +kernel
theorem d_SP_told_71 : decode b_SP_told 71 = .ok (.getfield 122, 3) := by decide +kernel
theorem d_SP_told_74 : decode b_SP_told 74 = .ok (.ireturn, 1) := by decide +kernel
theorem d_SP_told_75 : decode b_SP_told 75 = .ok (.aload_n 0, 1) := by decide +kernel
theorem d_SP_told_76 : decode b_SP_told 76 = .ok (.getfield 21, 3) := by decide +kernel
theorem d_SP_told_79 : decode b_SP_told 79 = .ok (.iload_n 1, 1) := by decide +kernel
theorem d_SP_told_80 : decode b_SP_told 80 = .ok (.invokevirtual 125, 3) := by decide +kernel
theorem d_SP_told_83 : decode b_SP_told 83 = .ok (.ireturn, 1) := by decide +kernel
theorem d_SP_told_84 : decode b_SP_told 84 = .ok (.aload_n 3, 1) := by decide +kernel
theorem d_SP_told_85 : decode b_SP_told 85 = .ok (.getfield 129, 3) := by decide +kernel
theorem d_SP_told_88 : decode b_SP_told 88 = .ok (.ireturn, 1) := by decide +kernel
theorem d_SP_corner_0 : decode b_SP_corner 0 = .ok (.iload_n 1, 1) := by decide +kernel
theorem d_SP_corner_1 : decode b_SP_corner 1 = .ok (.iconst 0, 1) := by decide +kernel
theorem d_SP_corner_2 : decode b_SP_corner 2 = .ok (.aload_n 0, 1) := by decide +kernel
theorem d_SP_corner_3 : decode b_SP_corner 3 = .ok (.getfield 10, 3) := by decide +kernel
theorem d_SP_corner_6 : decode b_SP_corner 6 = .ok (.getfield 39, 3) := by decide +kernel
theorem d_SP_corner_9 : decode b_SP_corner 9 = .ok (.iconst 1, 1) := by decide +kernel
theorem d_SP_corner_10 : decode b_SP_corner 10 = .ok (.isub, 1) := by decide +kernel
theorem d_SP_corner_11 : decode b_SP_corner 11 = .ok (.invokestatic 35, 3) := by decide +kernel
theorem d_SP_corner_14 : decode b_SP_corner 14 = .ok (.iload_n 2, 1) := by decide +kernel
theorem d_SP_corner_15 : decode b_SP_corner 15 = .ok (.iconst 0, 1) := by decide +kernel
theorem d_SP_corner_16 : decode b_SP_corner 16 = .ok (.iconst 3, 1) := by decide +kernel
theorem d_SP_corner_17 : decode b_SP_corner 17 = .ok (.invokestatic 35, 3) := by decide +kernel
theorem d_SP_corner_20 : decode b_SP_corner 20 = .ok (.iload_n 3, 1) := by decide +kernel
theorem d_SP_corner_21 : decode b_SP_corner 21 = .ok (.iconst 0, 1) := by decide +kernel
theorem d_SP_corner_22 : decode b_SP_corner 22 = .ok (.iconst 1, 1) := by decide +kernel
theorem d_SP_corner_23 : decode b_SP_corner 23 = .ok (.invokestatic 35, 3) := by decide +kernel
theorem d_SP_corner_26 : decode b_SP_corner 26 = .ok (.aload_n 0, 1) := by decide +kernel
theorem d_SP_corner_27 : decode b_SP_corner 27 = .ok (.getfield 10, 3) := by decide +kernel
theorem d_SP_corner_30 : decode b_SP_corner 30 = .ok (.getfield 50, 3) := by decide +kernel
theorem d_SP_corner_33 : decode b_SP_corner 33 = .ok (.iload_n 1, 1) := by decide +kernel
theorem d_SP_corner_34 : decode b_SP_corner 34 = .ok (.aaload, 1) := by decide +kernel
theorem d_SP_corner_35 : decode b_SP_corner 35 = .ok (.astore 4, 2) := by decide +kernel
theorem d_SP_corner_37 : decode b_SP_corner 37 = .ok (.aload_n 0, 1) := by decide +kernel
theorem d_SP_corner_38 : decode b_SP_corner 38 = .ok (.getfield 21, 3) := by decide +kernel
theorem d_SP_corner_41 : decode b_SP_corner 41 = .ok (.getfield 110, 3) := by decide +kernel
theorem d_SP_corner_44 : decode b_SP_corner 44 = .ok (.iload_n 1, 1) := by decide +kernel
theorem d_SP_corner_45 : decode b_SP_corner 45 = .ok (.aaload, 1) := by decide +kernel
theorem d_SP_corner_46 : decode b_SP_corner 46 = .ok (.astore 5, 2) := by decide +kernel
theorem d_SP_corner_48 : decode b_SP_corner 48 = .ok (.aload 5, 2) := by decide +kernel
theorem d_SP_corner_50 : decode b_SP_corner 50 = .ok (.getfield 122, 3) := by decide +kernel
theorem d_SP_corner_53 : decode b_SP_corner 53 = .ok (.invokestatic 132, 3) := by decide +kernel
theorem d_SP_corner_56 : decode b_SP_corner 56 = .ok (.istore 6, 2) := by decide +kernel
theorem d_SP_corner_58 : decode b_SP_corner 58 = .ok (.aload 5, 2) := by decide +kernel
theorem d_SP_corner_60 : decode b_SP_corner 60 = .ok (.getfield 122, 3) := by decide +kernel
theorem d_SP_corner_63 : decode b_SP_corner 63 = .ok (.invokestatic 135, 3) := by decide +kernel
theorem d_SP_corner_66 : decode b_SP_corner 66 = .ok (.istore 7, 2) := by decide +kernel
theorem d_SP_corner_68 : decode b_SP_corner 68 = .ok (.iload_n 2, 1) := by decide +kernel
theorem d_SP_corner_69 : decode b_SP_corner 69 = .ok (.iconst 1, 1) := by decide +kernel
theorem d_SP_corner_70 : decode b_SP_corner 70 = .ok (.if_icmp .gt 11, 3) := by decide +kernel
theorem d_SP_corner_73 : decode b_SP_corner 73 = .ok (.aload 4, 2) := by decide +kernel
theorem d_SP_corner_75 : decode b_SP_corner 75 = .ok (.getfield 62, 3) := by decide +kernel
theorem d_SP_corner_78 : decode b_SP_corner 78 = .ok (.goto 9, 3) := by decide +kernel
theorem d_SP_corner_81 : decode b_SP_corner 81 = .ok (.aload 4, 2) := by decide +kernel
theorem d_SP_corner_83 : decode b_SP_corner 83 = .ok (.getfield 65, 3) := by decide +kernel
theorem d_SP_corner_86 : decode b_SP_corner 86 = .ok (.ineg, 1) := by decide +kernel
theorem d_SP_corner_87 : decode b_SP_corner 87 = .ok (.istore 8, 2) := by decide +kernel
theorem d_SP_corner_89 : decode b_SP_corner 89 = .ok (.iload_n 2, 1) := by decide +kernel
theorem d_SP_corner_90 : decode b_SP_corner 90 = .ok (.ifCond .eq 8, 3) := by decide +kernel
theorem d_SP_corner_93 : decode b_SP_corner 93 = .ok (.iload_n 2, 1) := by decide +kernel
theorem d_SP_corner_94 : decode b_SP_corner 94 = .ok (.iconst 3, 1) := by decide +kernel
theorem d_SP_corner_95 : decode b_SP_corner 95 = .ok (.if_icmp .ne 11, 3) := by decide +kernel
theorem d_SP_corner_98 : decode b_SP_corner 98 = .ok (.aload 4, 2) := by decide +kernel
theorem d_SP_corner_100 : decode b_SP_corner 100 = .ok (.getfield 68, 3) := by decide +kernel
theorem d_SP_corner_103 : decode b_SP_corner 103 = .ok (.goto 9, 3) := by decide +kernel
theorem d_SP_corner_106 : decode b_SP_corner 106 = .ok (.aload 4, 2) := by decide +kernel
theorem d_SP_corner_108 : decode b_SP_corner 108 = .ok (.getfield 68, 3) := by decide +kernel
theorem d_SP_corner_111 : decode b_SP_corner 111 = .ok (.ineg, 1) := by decide +kernel
theorem d_SP_corner_112 : decode b_SP_corner 112 = .ok (.istore 9, 2) := by decide +kernel
theorem d_SP_corner_114 : decode b_SP_corner 114 = .ok (.iload_n 3, 1) := by decide +kernel
theorem d_SP_corner_115 : decode b_SP_corner 115 = .ok (.ifCond .ne 23, 3) := by decide +kernel
theorem d_SP_corner_118 : decode b_SP_corner 118 = .ok (.aload 5, 2) := by decide +kernel
theorem d_SP_corner_120 : decode b_SP_corner 120 = .ok (.getfield 114, 3) := by decide +kernel
theorem d_SP_corner_123 : decode b_SP_corner 123 = .ok (.iload 8, 2) := by decide +kernel
theorem d_SP_corner_125 : decode b_SP_corner 125 = .ok (.iload 6, 2) := by decide +kernel
theorem d_SP_corner_127 : decode b_SP_corner 127 = .ok (.imul, 1) := by decide +kernel
theorem d_SP_corner_128 : decode b_SP_corner 128 = .ok (.iadd, 1) := by decide +kernel
theorem d_SP_corner_129 : decode b_SP_corner 129 = .ok (.iload 9, 2) := by decide +kernel
theorem d_SP_corner_131 : decode b_SP_corner 131 = .ok (.iload 7, 2) := by decide +kernel
theorem d_SP_corner_133 : decode b_SP_corner 133 = .ok (.imul, 1) := by decide +kernel
theorem d_SP_corner_134 : decode b_SP_corner 134 = .ok (.isub, 1) := by decide +kernel
theorem d_SP_corner_135 : decode b_SP_corner 135 = .ok (.goto 20, 3) := by decide +kernel
theorem d_SP_corner_138 : decode b_SP_corner 138 = .ok (.aload 5, 2) := by decide +kernel
theorem d_SP_corner_140 : decode b_SP_corner 140 = .ok (.getfield 119, 3) := by decide +kernel
theorem d_SP_corner_143 : decode b_SP_corner 143 = .ok (.iload 8, 2) := by decide +kernel
theorem d_SP_corner_145 : decode b_SP_corner 145 = .ok (.iload 7, 2) := by decide +kernel
theorem d_SP_corner_147 : decode b_SP_corner 147 = .ok (.imul, 1) := by decide +kernel
theorem d_SP_corner_148 : decode b_SP_corner 148 = .ok (.iadd, 1) := by decide +kernel
theorem d_SP_corner_149 : decode b_SP_corner 149 = .ok (.iload 9, 2) := by decide +kernel
theorem d_SP_corner_151 : decode b_SP_corner 151 = .ok (.iload 6, 2) := by decide +kernel
theorem d_SP_corner_153 : decode b_SP_corner 153 = .ok (.imul, 1) := by decide +kernel
theorem d_SP_corner_154 : decode b_SP_corner 154 = .ok (.iadd, 1) := by decide +kernel
theorem d_SP_corner_155 : decode b_SP_corner 155 = .ok (.ireturn, 1) := by decide +kernel
theorem d_SP_swept_0 : decode b_SP_swept 0 = .ok (.aload_n 0, 1) := by decide +kernel
theorem d_SP_swept_1 : decode b_SP_swept 1 = .ok (.getfield 21, 3) := by decide +kernel
theorem d_SP_swept_4 : decode b_SP_swept 4 = .ok (.getfield 138, 3) := by decide +kernel
theorem d_SP_swept_7 : decode b_SP_swept 7 = .ok (.getfield 142, 3) := by decide +kernel
theorem d_SP_swept_10 : decode b_SP_swept 10 = .ok (.ireturn, 1) := by decide +kernel
theorem d_SP_cell_0 : decode b_SP_cell 0 = .ok (.iload_n 1, 1) := by decide +kernel
theorem d_SP_cell_1 : decode b_SP_cell 1 = .ok (.bipush (-32), 2) := by decide +kernel
theorem d_SP_cell_3 : decode b_SP_cell 3 = .ok (.bipush 31, 2) := by decide +kernel
theorem d_SP_cell_5 : decode b_SP_cell 5 = .ok (.invokestatic 35, 3) := by decide +kernel
theorem d_SP_cell_8 : decode b_SP_cell 8 = .ok (.iload_n 2, 1) := by decide +kernel
theorem d_SP_cell_9 : decode b_SP_cell 9 = .ok (.bipush (-32), 2) := by decide +kernel
theorem d_SP_cell_11 : decode b_SP_cell 11 = .ok (.bipush 31, 2) := by decide +kernel
theorem d_SP_cell_13 : decode b_SP_cell 13 = .ok (.invokestatic 35, 3) := by decide +kernel
theorem d_SP_cell_16 : decode b_SP_cell 16 = .ok (.aload_n 0, 1) := by decide +kernel
theorem d_SP_cell_17 : decode b_SP_cell 17 = .ok (.getfield 21, 3) := by decide +kernel
theorem d_SP_cell_20 : decode b_SP_cell 20 = .ok (.getfield 138, 3) := by decide +kernel
theorem d_SP_cell_23 : decode b_SP_cell 23 = .ok (.iload_n 1, 1) := by decide +kernel
theorem d_SP_cell_24 : decode b_SP_cell 24 = .ok (.iload_n 2, 1) := by decide +kernel
theorem d_SP_cell_25 : decode b_SP_cell 25 = .ok (.invokevirtual 147, 3) := by decide +kernel
theorem d_SP_cell_28 : decode b_SP_cell 28 = .ok (.ireturn, 1) := by decide +kernel
theorem d_SP_clash_0 : decode b_SP_clash 0 = .ok (.iload_n 1, 1) := by decide +kernel
theorem d_SP_clash_1 : decode b_SP_clash 1 = .ok (.iconst 0, 1) := by decide +kernel
theorem d_SP_clash_2 : decode b_SP_clash 2 = .ok (.iconst 2, 1) := by decide +kernel
theorem d_SP_clash_3 : decode b_SP_clash 3 = .ok (.invokestatic 35, 3) := by decide +kernel
theorem d_SP_clash_6 : decode b_SP_clash 6 = .ok (.iload_n 1, 1) := by decide +kernel
theorem d_SP_clash_7 : decode b_SP_clash 7 = .ok (.lookupswitch 41 #[(0, 25), (1, 33)], 25) := by decide +kernel
theorem d_SP_clash_32 : decode b_SP_clash 32 = .ok (.aload_n 0, 1) := by decide +kernel
theorem d_SP_clash_33 : decode b_SP_clash 33 = .ok (.getfield 21, 3) := by decide +kernel
theorem d_SP_clash_36 : decode b_SP_clash 36 = .ok (.getfield 151, 3) := by decide +kernel
theorem d_SP_clash_39 : decode b_SP_clash 39 = .ok (.ireturn, 1) := by decide +kernel
theorem d_SP_clash_40 : decode b_SP_clash 40 = .ok (.aload_n 0, 1) := by decide +kernel
theorem d_SP_clash_41 : decode b_SP_clash 41 = .ok (.getfield 21, 3) := by decide +kernel
theorem d_SP_clash_44 : decode b_SP_clash 44 = .ok (.getfield 154, 3) := by decide +kernel
theorem d_SP_clash_47 : decode b_SP_clash 47 = .ok (.ireturn, 1) := by decide +kernel
theorem d_SP_clash_48 : decode b_SP_clash 48 = .ok (.aload_n 0, 1) := by decide +kernel
theorem d_SP_clash_49 : decode b_SP_clash 49 = .ok (.getfield 21, 3) := by decide +kernel
theorem d_SP_clash_52 : decode b_SP_clash 52 = .ok (.getfield 157, 3) := by decide +kernel
theorem d_SP_clash_55 : decode b_SP_clash 55 = .ok (.ireturn, 1) := by decide +kernel
theorem d_SP_isStuck_0 : decode b_SP_isStuck 0 = .ok (.aload_n 0, 1) := by decide +kernel
theorem d_SP_isStuck_1 : decode b_SP_isStuck 1 = .ok (.getfield 21, 3) := by decide +kernel
theorem d_SP_isStuck_4 : decode b_SP_isStuck 4 = .ok (.getfield 160, 3) := by decide +kernel
theorem d_SP_isStuck_7 : decode b_SP_isStuck 7 = .ok (.ireturn, 1) := by decide +kernel
theorem d_SP_part_0 : decode b_SP_part 0 = .ok (.iload_n 1, 1) := by decide +kernel
theorem d_SP_part_1 : decode b_SP_part 1 = .ok (.iconst 0, 1) := by decide +kernel
theorem d_SP_part_2 : decode b_SP_part 2 = .ok (.iconst 3, 1) := by decide +kernel
theorem d_SP_part_3 : decode b_SP_part 3 = .ok (.invokestatic 35, 3) := by decide +kernel
theorem d_SP_part_6 : decode b_SP_part 6 = .ok (.iload_n 2, 1) := by decide +kernel
theorem d_SP_part_7 : decode b_SP_part 7 = .ok (.bipush (-3), 2) := by decide +kernel
theorem d_SP_part_9 : decode b_SP_part 9 = .ok (.iconst 3, 1) := by decide +kernel
theorem d_SP_part_10 : decode b_SP_part 10 = .ok (.invokestatic 35, 3) := by decide +kernel
theorem d_SP_part_13 : decode b_SP_part 13 = .ok (.iload_n 3, 1) := by decide +kernel
theorem d_SP_part_14 : decode b_SP_part 14 = .ok (.iconst 1, 1) := by decide +kernel
theorem d_SP_part_15 : decode b_SP_part 15 = .ok (.bipush 60, 2) := by decide +kernel
theorem d_SP_part_17 : decode b_SP_part 17 = .ok (.invokestatic 35, 3) := by decide +kernel
theorem d_SP_part_20 : decode b_SP_part 20 = .ok (.aload_n 0, 1) := by decide +kernel
theorem d_SP_part_21 : decode b_SP_part 21 = .ok (.getfield 30, 3) := by decide +kernel
theorem d_SP_part_24 : decode b_SP_part 24 = .ok (.iload_n 1, 1) := by decide +kernel
theorem d_SP_part_25 : decode b_SP_part 25 = .ok (.aaload, 1) := by decide +kernel
theorem d_SP_part_26 : decode b_SP_part 26 = .ok (.astore 5, 2) := by decide +kernel
theorem d_SP_part_28 : decode b_SP_part 28 = .ok (.aload 5, 2) := by decide +kernel
theorem d_SP_part_30 : decode b_SP_part 30 = .ok (.iload_n 2, 1) := by decide +kernel
theorem d_SP_part_31 : decode b_SP_part 31 = .ok (.iload_n 3, 1) := by decide +kernel
theorem d_SP_part_32 : decode b_SP_part 32 = .ok (.iload 4, 2) := by decide +kernel
theorem d_SP_part_34 : decode b_SP_part 34 = .ok (.invokevirtual 164, 3) := by decide +kernel
theorem d_SP_part_37 : decode b_SP_part 37 = .ok (.ifCond .ne 13, 3) := by decide +kernel
theorem d_SP_part_40 : decode b_SP_part 40 = .ok (.new 43, 3) := by decide +kernel
theorem d_SP_part_43 : decode b_SP_part 43 = .ok (.dup, 1) := by decide +kernel
theorem d_SP_part_44 : decode b_SP_part 44 = .ok (.ldc 168, 2) := by decide +kernel
theorem d_SP_part_46 : decode b_SP_part 46 = .ok (.invokespecial 47, 3) := by decide +kernel
theorem d_SP_part_49 : decode b_SP_part 49 = .ok (.athrow, 1) := by decide +kernel
theorem d_SP_part_50 : decode b_SP_part 50 = .ok (.aload 5, 2) := by decide +kernel
theorem d_SP_part_52 : decode b_SP_part 52 = .ok (.getfield 170, 3) := by decide +kernel
theorem d_SP_part_55 : decode b_SP_part 55 = .ok (.ireturn, 1) := by decide +kernel
theorem d_SP_clear_0 : decode b_SP_clear 0 = .ok (.iload_n 1, 1) := by decide +kernel
theorem d_SP_clear_1 : decode b_SP_clear 1 = .ok (.iconst 0, 1) := by decide +kernel
theorem d_SP_clear_2 : decode b_SP_clear 2 = .ok (.iconst 3, 1) := by decide +kernel
theorem d_SP_clear_3 : decode b_SP_clear 3 = .ok (.invokestatic 35, 3) := by decide +kernel
theorem d_SP_clear_6 : decode b_SP_clear 6 = .ok (.aload_n 0, 1) := by decide +kernel
theorem d_SP_clear_7 : decode b_SP_clear 7 = .ok (.getfield 30, 3) := by decide +kernel
theorem d_SP_clear_10 : decode b_SP_clear 10 = .ok (.iload_n 1, 1) := by decide +kernel
theorem d_SP_clear_11 : decode b_SP_clear 11 = .ok (.aaload, 1) := by decide +kernel
theorem d_SP_clear_12 : decode b_SP_clear 12 = .ok (.getfield 170, 3) := by decide +kernel
theorem d_SP_clear_15 : decode b_SP_clear 15 = .ok (.istore_n 2, 1) := by decide +kernel
theorem d_SP_clear_16 : decode b_SP_clear 16 = .ok (.aload_n 0, 1) := by decide +kernel
theorem d_SP_clear_17 : decode b_SP_clear 17 = .ok (.getfield 30, 3) := by decide +kernel
theorem d_SP_clear_20 : decode b_SP_clear 20 = .ok (.iload_n 1, 1) := by decide +kernel
theorem d_SP_clear_21 : decode b_SP_clear 21 = .ok (.aaload, 1) := by decide +kernel
theorem d_SP_clear_22 : decode b_SP_clear 22 = .ok (.iconst 0, 1) := by decide +kernel
theorem d_SP_clear_23 : decode b_SP_clear 23 = .ok (.putfield 170, 3) := by decide +kernel
theorem d_SP_clear_26 : decode b_SP_clear 26 = .ok (.iload_n 2, 1) := by decide +kernel
theorem d_SP_clear_27 : decode b_SP_clear 27 = .ok (.ireturn, 1) := by decide +kernel
theorem d_SP_best_0 : decode b_SP_best 0 = .ok (.aload_n 0, 1) := by decide +kernel
theorem d_SP_best_1 : decode b_SP_best 1 = .ok (.invokevirtual 100, 3) := by decide +kernel
theorem d_SP_best_4 : decode b_SP_best 4 = .ok (.iconst (-1), 1) := by decide +kernel
theorem d_SP_best_5 : decode b_SP_best 5 = .ok (.istore_n 1, 1) := by decide +kernel
theorem d_SP_best_6 : decode b_SP_best 6 = .ok (.iconst 0, 1) := by decide +kernel
theorem d_SP_best_7 : decode b_SP_best 7 = .ok (.istore_n 2, 1) := by decide +kernel
theorem d_SP_best_8 : decode b_SP_best 8 = .ok (.iconst 0, 1) := by decide +kernel
theorem d_SP_best_9 : decode b_SP_best 9 = .ok (.istore_n 3, 1) := by decide +kernel
theorem d_SP_best_10 : decode b_SP_best 10 = .ok (.iload_n 3, 1) := by decide +kernel
theorem d_SP_best_11 : decode b_SP_best 11 = .ok (.iconst 4, 1) := by decide +kernel
theorem d_SP_best_12 : decode b_SP_best 12 = .ok (.if_icmp .ge 64, 3) := by decide +kernel
theorem d_SP_best_15 : decode b_SP_best 15 = .ok (.aload_n 0, 1) := by decide +kernel
theorem d_SP_best_16 : decode b_SP_best 16 = .ok (.getfield 25, 3) := by decide +kernel
theorem d_SP_best_19 : decode b_SP_best 19 = .ok (.aload_n 0, 1) := by decide +kernel
theorem d_SP_best_20 : decode b_SP_best 20 = .ok (.getfield 30, 3) := by decide +kernel
theorem d_SP_best_23 : decode b_SP_best 23 = .ok (.iload_n 3, 1) := by decide +kernel
theorem d_SP_best_24 : decode b_SP_best 24 = .ok (.aaload, 1) := by decide +kernel
theorem d_SP_best_25 : decode b_SP_best 25 = .ok (.invokevirtual 173, 3) := by decide +kernel
theorem d_SP_best_28 : decode b_SP_best 28 = .ok (.aload_n 0, 1) := by decide +kernel
theorem d_SP_best_29 : decode b_SP_best 29 = .ok (.getfield 25, 3) := by decide +kernel
theorem d_SP_best_32 : decode b_SP_best 32 = .ok (.invokevirtual 177, 3) := by decide +kernel
theorem d_SP_best_35 : decode b_SP_best 35 = .ok (.ifCond .eq 35, 3) := by decide +kernel
theorem d_SP_best_38 : decode b_SP_best 38 = .ok (.iload_n 1, 1) := by decide +kernel
theorem d_SP_best_39 : decode b_SP_best 39 = .ok (.iconst (-1), 1) := by decide +kernel
theorem d_SP_best_40 : decode b_SP_best 40 = .ok (.if_icmp .eq 17, 3) := by decide +kernel
theorem d_SP_best_43 : decode b_SP_best 43 = .ok (.aload_n 0, 1) := by decide +kernel
theorem d_SP_best_44 : decode b_SP_best 44 = .ok (.getfield 25, 3) := by decide +kernel
theorem d_SP_best_47 : decode b_SP_best 47 = .ok (.getfield 138, 3) := by decide +kernel
theorem d_SP_best_50 : decode b_SP_best 50 = .ok (.getfield 142, 3) := by decide +kernel
theorem d_SP_best_53 : decode b_SP_best 53 = .ok (.iload_n 2, 1) := by decide +kernel
theorem d_SP_best_54 : decode b_SP_best 54 = .ok (.if_icmp .ge 16, 3) := by decide +kernel
theorem d_SP_best_57 : decode b_SP_best 57 = .ok (.iload_n 3, 1) := by decide +kernel
theorem d_SP_best_58 : decode b_SP_best 58 = .ok (.istore_n 1, 1) := by decide +kernel
theorem d_SP_best_59 : decode b_SP_best 59 = .ok (.aload_n 0, 1) := by decide +kernel
theorem d_SP_best_60 : decode b_SP_best 60 = .ok (.getfield 25, 3) := by decide +kernel
theorem d_SP_best_63 : decode b_SP_best 63 = .ok (.getfield 138, 3) := by decide +kernel
theorem d_SP_best_66 : decode b_SP_best 66 = .ok (.getfield 142, 3) := by decide +kernel
theorem d_SP_best_69 : decode b_SP_best 69 = .ok (.istore_n 2, 1) := by decide +kernel
theorem d_SP_best_70 : decode b_SP_best 70 = .ok (.iinc 3 1, 3) := by decide +kernel
theorem d_SP_best_73 : decode b_SP_best 73 = .ok (.goto (-63), 3) := by decide +kernel
theorem d_SP_best_76 : decode b_SP_best 76 = .ok (.iload_n 1, 1) := by decide +kernel
theorem d_SP_best_77 : decode b_SP_best 77 = .ok (.ireturn, 1) := by decide +kernel
theorem d_SP_sweeps_0 : decode b_SP_sweeps 0 = .ok (.iload_n 1, 1) := by decide +kernel
theorem d_SP_sweeps_1 : decode b_SP_sweeps 1 = .ok (.iconst 0, 1) := by decide +kernel
theorem d_SP_sweeps_2 : decode b_SP_sweeps 2 = .ok (.iconst 3, 1) := by decide +kernel
theorem d_SP_sweeps_3 : decode b_SP_sweeps 3 = .ok (.invokestatic 35, 3) := by decide +kernel
theorem d_SP_sweeps_6 : decode b_SP_sweeps 6 = .ok (.aload_n 0, 1) := by decide +kernel
theorem d_SP_sweeps_7 : decode b_SP_sweeps 7 = .ok (.invokevirtual 100, 3) := by decide +kernel
theorem d_SP_sweeps_10 : decode b_SP_sweeps 10 = .ok (.aload_n 0, 1) := by decide +kernel
theorem d_SP_sweeps_11 : decode b_SP_sweeps 11 = .ok (.getfield 25, 3) := by decide +kernel
theorem d_SP_sweeps_14 : decode b_SP_sweeps 14 = .ok (.aload_n 0, 1) := by decide +kernel
theorem d_SP_sweeps_15 : decode b_SP_sweeps 15 = .ok (.getfield 30, 3) := by decide +kernel
theorem d_SP_sweeps_18 : decode b_SP_sweeps 18 = .ok (.iload_n 1, 1) := by decide +kernel
theorem d_SP_sweeps_19 : decode b_SP_sweeps 19 = .ok (.aaload, 1) := by decide +kernel
theorem d_SP_sweeps_20 : decode b_SP_sweeps 20 = .ok (.invokevirtual 173, 3) := by decide +kernel
theorem d_SP_sweeps_23 : decode b_SP_sweeps 23 = .ok (.aload_n 0, 1) := by decide +kernel
theorem d_SP_sweeps_24 : decode b_SP_sweeps 24 = .ok (.getfield 25, 3) := by decide +kernel
theorem d_SP_sweeps_27 : decode b_SP_sweeps 27 = .ok (.getfield 138, 3) := by decide +kernel
theorem d_SP_sweeps_30 : decode b_SP_sweeps 30 = .ok (.getfield 142, 3) := by decide +kernel
theorem d_SP_sweeps_33 : decode b_SP_sweeps 33 = .ok (.ireturn, 1) := by decide +kernel
theorem d_SP_demandWithin_0 : decode b_SP_demandWithin 0 = .ok (.iload_n 0, 1) := by decide +kernel
theorem d_SP_demandWithin_1 : decode b_SP_demandWithin 1 = .ok (.iload_n 1, 1) := by decide +kernel
theorem d_SP_demandWithin_2 : decode b_SP_demandWithin 2 = .ok (.if_icmp .lt 8, 3) := by decide +kernel
theorem d_SP_demandWithin_5 : decode b_SP_demandWithin 5 = .ok (.iload_n 0, 1) := by decide +kernel
theorem d_SP_demandWithin_6 : decode b_SP_demandWithin 6 = .ok (.iload_n 2, 1) := by decide +kernel
theorem d_SP_demandWithin_7 : decode b_SP_demandWithin 7 = .ok (.if_icmp .le 13, 3) := by decide +kernel
theorem d_SP_demandWithin_10 : decode b_SP_demandWithin 10 = .ok (.new 181, 3) := by decide +kernel
theorem d_SP_demandWithin_13 : decode b_SP_demandWithin 13 = .ok (.dup, 1) := by decide +kernel
theorem d_SP_demandWithin_14 : decode b_SP_demandWithin 14 = .ok (.ldc 183, 2) := by decide +kernel
theorem d_SP_demandWithin_16 : decode b_SP_demandWithin 16 = .ok (.invokespecial 185, 3) := by decide +kernel
theorem d_SP_demandWithin_19 : decode b_SP_demandWithin 19 = .ok (.athrow, 1) := by decide +kernel
theorem d_SP_demandWithin_20 : decode b_SP_demandWithin 20 = .ok (.return_, 1) := by decide +kernel
theorem d_SP_demandSomeBody_0 : decode b_SP_demandSomeBody 0 = .ok (.aload_n 0, 1) := by decide +kernel
theorem d_SP_demandSomeBody_1 : decode b_SP_demandSomeBody 1 = .ok (.getfield 10, 3) := by decide +kernel
theorem d_SP_demandSomeBody_4 : decode b_SP_demandSomeBody 4 = .ok (.getfield 39, 3) := by decide +kernel
theorem d_SP_demandSomeBody_7 : decode b_SP_demandSomeBody 7 = .ok (.ifCond .ne 13, 3) := by decide +kernel
theorem d_SP_demandSomeBody_10 : decode b_SP_demandSomeBody 10 = .ok (.new 43, 3) := by decide +kernel
theorem d_SP_demandSomeBody_13 : decode b_SP_demandSomeBody 13 = .ok (.dup, 1) := by decide +kernel
theorem d_SP_demandSomeBody_14 : decode b_SP_demandSomeBody 14 = .ok (.ldc 186, 2) := by decide +kernel
theorem d_SP_demandSomeBody_16 : decode b_SP_demandSomeBody 16 = .ok (.invokespecial 47, 3) := by decide +kernel
theorem d_SP_demandSomeBody_19 : decode b_SP_demandSomeBody 19 = .ok (.athrow, 1) := by decide +kernel
theorem d_SP_demandSomeBody_20 : decode b_SP_demandSomeBody 20 = .ok (.return_, 1) := by decide +kernel
theorem d_Mo_init_0 : decode b_Mo_init 0 = .ok (.aload_n 0, 1) := by decide +kernel
theorem d_Mo_init_1 : decode b_Mo_init 1 = .ok (.invokespecial 1, 3) := by decide +kernel
theorem d_Mo_init_4 : decode b_Mo_init 4 = .ok (.aload_n 0, 1) := by decide +kernel
theorem d_Mo_init_5 : decode b_Mo_init 5 = .ok (.bipush 17, 2) := by decide +kernel
theorem d_Mo_init_7 : decode b_Mo_init 7 = .ok (.newarray .int, 2) := by decide +kernel
theorem d_Mo_init_9 : decode b_Mo_init 9 = .ok (.dup, 1) := by decide +kernel
theorem d_Mo_init_10 : decode b_Mo_init 10 = .ok (.iconst 0, 1) := by decide +kernel
theorem d_Mo_init_11 : decode b_Mo_init 11 = .ok (.sipush 4096, 3) := by decide +kernel
theorem d_Mo_init_14 : decode b_Mo_init 14 = .ok (.iastore, 1) := by decide +kernel
theorem d_Mo_init_15 : decode b_Mo_init 15 = .ok (.dup, 1) := by decide +kernel
theorem d_Mo_init_16 : decode b_Mo_init 16 = .ok (.iconst 1, 1) := by decide +kernel
theorem d_Mo_init_17 : decode b_Mo_init 17 = .ok (.sipush 4076, 3) := by decide +kernel
theorem d_Mo_init_20 : decode b_Mo_init 20 = .ok (.iastore, 1) := by decide +kernel
theorem d_Mo_init_21 : decode b_Mo_init 21 = .ok (.dup, 1) := by decide +kernel
theorem d_Mo_init_22 : decode b_Mo_init 22 = .ok (.iconst 2, 1) := by decide +kernel
theorem d_Mo_init_23 : decode b_Mo_init 23 = .ok (.sipush 4017, 3) := by decide +kernel
theorem d_Mo_init_26 : decode b_Mo_init 26 = .ok (.iastore, 1) := by decide +kernel
theorem d_Mo_init_27 : decode b_Mo_init 27 = .ok (.dup, 1) := by decide +kernel
theorem d_Mo_init_28 : decode b_Mo_init 28 = .ok (.iconst 3, 1) := by decide +kernel
theorem d_Mo_init_29 : decode b_Mo_init 29 = .ok (.sipush 3920, 3) := by decide +kernel
theorem d_Mo_init_32 : decode b_Mo_init 32 = .ok (.iastore, 1) := by decide +kernel
theorem d_Mo_init_33 : decode b_Mo_init 33 = .ok (.dup, 1) := by decide +kernel
theorem d_Mo_init_34 : decode b_Mo_init 34 = .ok (.iconst 4, 1) := by decide +kernel
theorem d_Mo_init_35 : decode b_Mo_init 35 = .ok (.sipush 3784, 3) := by decide +kernel
theorem d_Mo_init_38 : decode b_Mo_init 38 = .ok (.iastore, 1) := by decide +kernel
theorem d_Mo_init_39 : decode b_Mo_init 39 = .ok (.dup, 1) := by decide +kernel
theorem d_Mo_init_40 : decode b_Mo_init 40 = .ok (.iconst 5, 1) := by decide +kernel
theorem d_Mo_init_41 : decode b_Mo_init 41 = .ok (.sipush 3612, 3) := by decide +kernel
theorem d_Mo_init_44 : decode b_Mo_init 44 = .ok (.iastore, 1) := by decide +kernel
theorem d_Mo_init_45 : decode b_Mo_init 45 = .ok (.dup, 1) := by decide +kernel
theorem d_Mo_init_46 : decode b_Mo_init 46 = .ok (.bipush 6, 2) := by decide +kernel
theorem d_Mo_init_48 : decode b_Mo_init 48 = .ok (.sipush 3406, 3) := by decide +kernel
theorem d_Mo_init_51 : decode b_Mo_init 51 = .ok (.iastore, 1) := by decide +kernel
theorem d_Mo_init_52 : decode b_Mo_init 52 = .ok (.dup, 1) := by decide +kernel
theorem d_Mo_init_53 : decode b_Mo_init 53 = .ok (.bipush 7, 2) := by decide +kernel
theorem d_Mo_init_55 : decode b_Mo_init 55 = .ok (.sipush 3166, 3) := by decide +kernel
theorem d_Mo_init_58 : decode b_Mo_init 58 = .ok (.iastore, 1) := by decide +kernel
theorem d_Mo_init_59 : decode b_Mo_init 59 = .ok (.dup, 1) := by decide +kernel
theorem d_Mo_init_60 : decode b_Mo_init 60 = .ok (.bipush 8, 2) := by decide +kernel
theorem d_Mo_init_62 : decode b_Mo_init 62 = .ok (.sipush 2896, 3) := by decide +kernel
theorem d_Mo_init_65 : decode b_Mo_init 65 = .ok (.iastore, 1) := by decide +kernel
theorem d_Mo_init_66 : decode b_Mo_init 66 = .ok (.dup, 1) := by decide +kernel
theorem d_Mo_init_67 : decode b_Mo_init 67 = .ok (.bipush 9, 2) := by decide +kernel
theorem d_Mo_init_69 : decode b_Mo_init 69 = .ok (.sipush 2598, 3) := by decide +kernel
theorem d_Mo_init_72 : decode b_Mo_init 72 = .ok (.iastore, 1) := by decide +kernel
theorem d_Mo_init_73 : decode b_Mo_init 73 = .ok (.dup, 1) := by decide +kernel
theorem d_Mo_init_74 : decode b_Mo_init 74 = .ok (.bipush 10, 2) := by decide +kernel
theorem d_Mo_init_76 : decode b_Mo_init 76 = .ok (.sipush 2276, 3) := by decide +kernel
theorem d_Mo_init_79 : decode b_Mo_init 79 = .ok (.iastore, 1) := by decide +kernel
theorem d_Mo_init_80 : decode b_Mo_init 80 = .ok (.dup, 1) := by decide +kernel
theorem d_Mo_init_81 : decode b_Mo_init 81 = .ok (.bipush 11, 2) := by decide +kernel
theorem d_Mo_init_83 : decode b_Mo_init 83 = .ok (.sipush 1931, 3) := by decide +kernel
theorem d_Mo_init_86 : decode b_Mo_init 86 = .ok (.iastore, 1) := by decide +kernel
theorem d_Mo_init_87 : decode b_Mo_init 87 = .ok (.dup, 1) := by decide +kernel
theorem d_Mo_init_88 : decode b_Mo_init 88 = .ok (.bipush 12, 2) := by decide +kernel
theorem d_Mo_init_90 : decode b_Mo_init 90 = .ok (.sipush 1567, 3) := by decide +kernel
theorem d_Mo_init_93 : decode b_Mo_init 93 = .ok (.iastore, 1) := by decide +kernel
theorem d_Mo_init_94 : decode b_Mo_init 94 = .ok (.dup, 1) := by decide +kernel
theorem d_Mo_init_95 : decode b_Mo_init 95 = .ok (.bipush 13, 2) := by decide +kernel
theorem d_Mo_init_97 : decode b_Mo_init 97 = .ok (.sipush 1189, 3) := by decide +kernel
theorem d_Mo_init_100 : decode b_Mo_init 100 = .ok (.iastore, 1) := by decide +kernel
theorem d_Mo_init_101 : decode b_Mo_init 101 = .ok (.dup, 1) := by decide +kernel
theorem d_Mo_init_102 : decode b_Mo_init 102 = .ok (.bipush 14, 2) := by decide +kernel
theorem d_Mo_init_104 : decode b_Mo_init 104 = .ok (.sipush 799, 3) := by decide +kernel
theorem d_Mo_init_107 : decode b_Mo_init 107 = .ok (.iastore, 1) := by decide +kernel
theorem d_Mo_init_108 : decode b_Mo_init 108 = .ok (.dup, 1) := by decide +kernel
theorem d_Mo_init_109 : decode b_Mo_init 109 = .ok (.bipush 15, 2) := by decide +kernel
theorem d_Mo_init_111 : decode b_Mo_init 111 = .ok (.sipush 401, 3) := by decide +kernel
theorem d_Mo_init_114 : decode b_Mo_init 114 = .ok (.iastore, 1) := by decide +kernel
theorem d_Mo_init_115 : decode b_Mo_init 115 = .ok (.dup, 1) := by decide +kernel
theorem d_Mo_init_116 : decode b_Mo_init 116 = .ok (.bipush 16, 2) := by decide +kernel
theorem d_Mo_init_118 : decode b_Mo_init 118 = .ok (.iconst 0, 1) := by decide +kernel
theorem d_Mo_init_119 : decode b_Mo_init 119 = .ok (.iastore, 1) := by decide +kernel
theorem d_Mo_init_120 : decode b_Mo_init 120 = .ok (.putfield 7, 3) := by decide +kernel
theorem d_Mo_init_123 : decode b_Mo_init 123 = .ok (.aload_n 0, 1) := by decide +kernel
theorem d_Mo_init_124 : decode b_Mo_init 124 = .ok (.iconst 3, 1) := by decide +kernel
theorem d_Mo_init_125 : decode b_Mo_init 125 = .ok (.newarray .int, 2) := by decide +kernel
theorem d_Mo_init_127 : decode b_Mo_init 127 = .ok (.putfield 13, 3) := by decide +kernel
theorem d_Mo_init_130 : decode b_Mo_init 130 = .ok (.aload_n 0, 1) := by decide +kernel
theorem d_Mo_init_131 : decode b_Mo_init 131 = .ok (.iconst 3, 1) := by decide +kernel
theorem d_Mo_init_132 : decode b_Mo_init 132 = .ok (.newarray .int, 2) := by decide +kernel
theorem d_Mo_init_134 : decode b_Mo_init 134 = .ok (.putfield 16, 3) := by decide +kernel
theorem d_Mo_init_137 : decode b_Mo_init 137 = .ok (.aload_n 0, 1) := by decide +kernel
theorem d_Mo_init_138 : decode b_Mo_init 138 = .ok (.iconst 3, 1) := by decide +kernel
theorem d_Mo_init_139 : decode b_Mo_init 139 = .ok (.newarray .int, 2) := by decide +kernel
theorem d_Mo_init_141 : decode b_Mo_init 141 = .ok (.putfield 19, 3) := by decide +kernel
theorem d_Mo_init_144 : decode b_Mo_init 144 = .ok (.aload_n 0, 1) := by decide +kernel
theorem d_Mo_init_145 : decode b_Mo_init 145 = .ok (.iconst 3, 1) := by decide +kernel
theorem d_Mo_init_146 : decode b_Mo_init 146 = .ok (.newarray .int, 2) := by decide +kernel
theorem d_Mo_init_148 : decode b_Mo_init 148 = .ok (.putfield 22, 3) := by decide +kernel
theorem d_Mo_init_151 : decode b_Mo_init 151 = .ok (.aload_n 0, 1) := by decide +kernel
theorem d_Mo_init_152 : decode b_Mo_init 152 = .ok (.iconst 3, 1) := by decide +kernel
theorem d_Mo_init_153 : decode b_Mo_init 153 = .ok (.newarray .int, 2) := by decide +kernel
theorem d_Mo_init_155 : decode b_Mo_init 155 = .ok (.putfield 25, 3) := by decide +kernel
theorem d_Mo_init_158 : decode b_Mo_init 158 = .ok (.aload_n 0, 1) := by decide +kernel
theorem d_Mo_init_159 : decode b_Mo_init 159 = .ok (.iconst 4, 1) := by decide +kernel
theorem d_Mo_init_160 : decode b_Mo_init 160 = .ok (.putfield 28, 3) := by decide +kernel
theorem d_Mo_init_163 : decode b_Mo_init 163 = .ok (.aload_n 0, 1) := by decide +kernel
theorem d_Mo_init_164 : decode b_Mo_init 164 = .ok (.bipush 20, 2) := by decide +kernel
theorem d_Mo_init_166 : decode b_Mo_init 166 = .ok (.newarray .int, 2) := by decide +kernel
theorem d_Mo_init_168 : decode b_Mo_init 168 = .ok (.putfield 32, 3) := by decide +kernel
theorem d_Mo_init_171 : decode b_Mo_init 171 = .ok (.aload_n 0, 1) := by decide +kernel
theorem d_Mo_init_172 : decode b_Mo_init 172 = .ok (.bipush 20, 2) := by decide +kernel
theorem d_Mo_init_174 : decode b_Mo_init 174 = .ok (.newarray .int, 2) := by decide +kernel
theorem d_Mo_init_176 : decode b_Mo_init 176 = .ok (.putfield 35, 3) := by decide +kernel
theorem d_Mo_init_179 : decode b_Mo_init 179 = .ok (.aload_n 0, 1) := by decide +kernel
theorem d_Mo_init_180 : decode b_Mo_init 180 = .ok (.iconst 4, 1) := by decide +kernel
theorem d_Mo_init_181 : decode b_Mo_init 181 = .ok (.newarray .int, 2) := by decide +kernel
theorem d_Mo_init_183 : decode b_Mo_init 183 = .ok (.putfield 38, 3) := by decide +kernel
theorem d_Mo_init_186 : decode b_Mo_init 186 = .ok (.aload_n 0, 1) := by decide +kernel
theorem d_Mo_init_187 : decode b_Mo_init 187 = .ok (.bipush 24, 2) := by decide +kernel
theorem d_Mo_init_189 : decode b_Mo_init 189 = .ok (.newarray .int, 2) := by decide +kernel
theorem d_Mo_init_191 : decode b_Mo_init 191 = .ok (.putfield 41, 3) := by decide +kernel
theorem d_Mo_init_194 : decode b_Mo_init 194 = .ok (.aload_n 0, 1) := by decide +kernel
theorem d_Mo_init_195 : decode b_Mo_init 195 = .ok (.bipush 24, 2) := by decide +kernel
theorem d_Mo_init_197 : decode b_Mo_init 197 = .ok (.newarray .int, 2) := by decide +kernel
theorem d_Mo_init_199 : decode b_Mo_init 199 = .ok (.putfield 44, 3) := by decide +kernel
theorem d_Mo_init_202 : decode b_Mo_init 202 = .ok (.aload_n 0, 1) := by decide +kernel
theorem d_Mo_init_203 : decode b_Mo_init 203 = .ok (.bipush 24, 2) := by decide +kernel
theorem d_Mo_init_205 : decode b_Mo_init 205 = .ok (.newarray .boolean, 2) := by decide +kernel
theorem d_Mo_init_207 : decode b_Mo_init 207 = .ok (.putfield 47, 3) := by decide +kernel
theorem d_Mo_init_210 : decode b_Mo_init 210 = .ok (.aload_n 0, 1) := by decide +kernel
theorem d_Mo_init_211 : decode b_Mo_init 211 = .ok (.iconst 3, 1) := by decide +kernel
theorem d_Mo_init_212 : decode b_Mo_init 212 = .ok (.newarray .int, 2) := by decide +kernel
theorem d_Mo_init_214 : decode b_Mo_init 214 = .ok (.putfield 51, 3) := by decide +kernel
theorem d_Mo_init_217 : decode b_Mo_init 217 = .ok (.aload_n 0, 1) := by decide +kernel
theorem d_Mo_init_218 : decode b_Mo_init 218 = .ok (.iconst 3, 1) := by decide +kernel
theorem d_Mo_init_219 : decode b_Mo_init 219 = .ok (.newarray .int, 2) := by decide +kernel
theorem d_Mo_init_221 : decode b_Mo_init 221 = .ok (.putfield 54, 3) := by decide +kernel
theorem d_Mo_init_224 : decode b_Mo_init 224 = .ok (.aload_n 0, 1) := by decide +kernel
theorem d_Mo_init_225 : decode b_Mo_init 225 = .ok (.iconst 3, 1) := by decide +kernel
theorem d_Mo_init_226 : decode b_Mo_init 226 = .ok (.newarray .int, 2) := by decide +kernel
theorem d_Mo_init_228 : decode b_Mo_init 228 = .ok (.putfield 57, 3) := by decide +kernel
theorem d_Mo_init_231 : decode b_Mo_init 231 = .ok (.aload_n 0, 1) := by decide +kernel
theorem d_Mo_init_232 : decode b_Mo_init 232 = .ok (.iconst 3, 1) := by decide +kernel
theorem d_Mo_init_233 : decode b_Mo_init 233 = .ok (.newarray .int, 2) := by decide +kernel
theorem d_Mo_init_235 : decode b_Mo_init 235 = .ok (.putfield 60, 3) := by decide +kernel
theorem d_Mo_init_238 : decode b_Mo_init 238 = .ok (.aload_n 0, 1) := by decide +kernel
theorem d_Mo_init_239 : decode b_Mo_init 239 = .ok (.iconst 3, 1) := by decide +kernel
theorem d_Mo_init_240 : decode b_Mo_init 240 = .ok (.newarray .int, 2) := by decide +kernel
theorem d_Mo_init_242 : decode b_Mo_init 242 = .ok (.putfield 63, 3) := by decide +kernel
theorem d_Mo_init_245 : decode b_Mo_init 245 = .ok (.aload_n 0, 1) := by decide +kernel
theorem d_Mo_init_246 : decode b_Mo_init 246 = .ok (.iconst (-1), 1) := by decide +kernel
theorem d_Mo_init_247 : decode b_Mo_init 247 = .ok (.putfield 66, 3) := by decide +kernel
theorem d_Mo_init_250 : decode b_Mo_init 250 = .ok (.aload_n 0, 1) := by decide +kernel
theorem d_Mo_init_251 : decode b_Mo_init 251 = .ok (.iconst (-1), 1) := by decide +kernel
theorem d_Mo_init_252 : decode b_Mo_init 252 = .ok (.putfield 69, 3) := by decide +kernel
theorem d_Mo_init_255 : decode b_Mo_init 255 = .ok (.aload_n 0, 1) := by decide +kernel
theorem d_Mo_init_256 : decode b_Mo_init 256 = .ok (.iconst (-1), 1) := by decide +kernel
theorem d_Mo_init_257 : decode b_Mo_init 257 = .ok (.putfield 72, 3) := by decide +kernel
theorem d_Mo_init_260 : decode b_Mo_init 260 = .ok (.aload_n 0, 1) := by decide +kernel
theorem d_Mo_init_261 : decode b_Mo_init 261 = .ok (.sipush 4096, 3) := by decide +kernel
theorem d_Mo_init_264 : decode b_Mo_init 264 = .ok (.newarray .boolean, 2) := by decide +kernel
theorem d_Mo_init_266 : decode b_Mo_init 266 = .ok (.putfield 75, 3) := by decide +kernel
theorem d_Mo_init_269 : decode b_Mo_init 269 = .ok (.aload_n 0, 1) := by decide +kernel
theorem d_Mo_init_270 : decode b_Mo_init 270 = .ok (.bipush 20, 2) := by decide +kernel
theorem d_Mo_init_272 : decode b_Mo_init 272 = .ok (.newarray .int, 2) := by decide +kernel
theorem d_Mo_init_274 : decode b_Mo_init 274 = .ok (.putfield 78, 3) := by decide +kernel
theorem d_Mo_init_277 : decode b_Mo_init 277 = .ok (.aload_n 0, 1) := by decide +kernel
theorem d_Mo_init_278 : decode b_Mo_init 278 = .ok (.sipush 4096, 3) := by decide +kernel
theorem d_Mo_init_281 : decode b_Mo_init 281 = .ok (.newarray .boolean, 2) := by decide +kernel
theorem d_Mo_init_283 : decode b_Mo_init 283 = .ok (.putfield 81, 3) := by decide +kernel
theorem d_Mo_init_286 : decode b_Mo_init 286 = .ok (.aload_n 0, 1) := by decide +kernel
theorem d_Mo_init_287 : decode b_Mo_init 287 = .ok (.iconst 0, 1) := by decide +kernel
theorem d_Mo_init_288 : decode b_Mo_init 288 = .ok (.putfield 84, 3) := by decide +kernel
theorem d_Mo_init_291 : decode b_Mo_init 291 = .ok (.return_, 1) := by decide +kernel
theorem d_Mo_thrown_0 : decode b_Mo_thrown 0 = .ok (.aload_n 0, 1) := by decide +kernel
theorem d_Mo_thrown_1 : decode b_Mo_thrown 1 = .ok (.getfield 87, 3) := by decide +kernel
theorem d_Mo_thrown_4 : decode b_Mo_thrown 4 = .ok (.ireturn, 1) := by decide +kernel
theorem d_Mo_in_0 : decode b_Mo_in 0 = .ok (.iload_n 0, 1) := by decide +kernel
theorem d_Mo_in_1 : decode b_Mo_in 1 = .ok (.iload_n 1, 1) := by decide +kernel
theorem d_Mo_in_2 : decode b_Mo_in 2 = .ok (.if_icmp .lt 12, 3) := by decide +kernel
theorem d_Mo_in_5 : decode b_Mo_in 5 = .ok (.iload_n 0, 1) := by decide +kernel
theorem d_Mo_in_6 : decode b_Mo_in 6 = .ok (.iload_n 2, 1) := by decide +kernel
theorem d_Mo_in_7 : decode b_Mo_in 7 = .ok (.if_icmp .gt 7, 3) := by decide +kernel
theorem d_Mo_in_10 : decode b_Mo_in 10 = .ok (.iconst 1, 1) := by decide +kernel
theorem d_Mo_in_11 : decode b_Mo_in 11 = .ok (.goto 4, 3) := by decide +kernel
theorem d_Mo_in_14 : decode b_Mo_in 14 = .ok (.iconst 0, 1) := by decide +kernel
theorem d_Mo_in_15 : decode b_Mo_in 15 = .ok (.ireturn, 1) := by decide +kernel
theorem d_Mo_dx_0 : decode b_Mo_dx 0 = .ok (.iload_n 1, 1) := by decide +kernel
theorem d_Mo_dx_1 : decode b_Mo_dx 1 = .ok (.bipush 63, 2) := by decide +kernel
theorem d_Mo_dx_3 : decode b_Mo_dx 3 = .ok (.iand, 1) := by decide +kernel
theorem d_Mo_dx_4 : decode b_Mo_dx 4 = .ok (.istore_n 2, 1) := by decide +kernel
theorem d_Mo_dx_5 : decode b_Mo_dx 5 = .ok (.iload_n 2, 1) := by decide +kernel
theorem d_Mo_dx_6 : decode b_Mo_dx 6 = .ok (.bipush 16, 2) := by decide +kernel
theorem d_Mo_dx_8 : decode b_Mo_dx 8 = .ok (.if_icmp .gt 10, 3) := by decide +kernel
theorem d_Mo_dx_11 : decode b_Mo_dx 11 = .ok (.aload_n 0, 1) := by decide +kernel
theorem d_Mo_dx_12 : decode b_Mo_dx 12 = .ok (.getfield 7, 3) := by decide +kernel
theorem d_Mo_dx_15 : decode b_Mo_dx 15 = .ok (.iload_n 2, 1) := by decide +kernel
theorem d_Mo_dx_16 : decode b_Mo_dx 16 = .ok (.iaload, 1) := by decide +kernel
theorem d_Mo_dx_17 : decode b_Mo_dx 17 = .ok (.ireturn, 1) := by decide +kernel
theorem d_Mo_dx_18 : decode b_Mo_dx 18 = .ok (.iload_n 2, 1) := by decide +kernel
theorem d_Mo_dx_19 : decode b_Mo_dx 19 = .ok (.bipush 32, 2) := by decide +kernel
theorem d_Mo_dx_21 : decode b_Mo_dx 21 = .ok (.if_icmp .gt 14, 3) := by decide +kernel
theorem d_Mo_dx_24 : decode b_Mo_dx 24 = .ok (.aload_n 0, 1) := by decide +kernel
theorem d_Mo_dx_25 : decode b_Mo_dx 25 = .ok (.getfield 7, 3) := by decide +kernel
theorem d_Mo_dx_28 : decode b_Mo_dx 28 = .ok (.bipush 32, 2) := by decide +kernel
theorem d_Mo_dx_30 : decode b_Mo_dx 30 = .ok (.iload_n 2, 1) := by decide +kernel
theorem d_Mo_dx_31 : decode b_Mo_dx 31 = .ok (.isub, 1) := by decide +kernel
theorem d_Mo_dx_32 : decode b_Mo_dx 32 = .ok (.iaload, 1) := by decide +kernel
theorem d_Mo_dx_33 : decode b_Mo_dx 33 = .ok (.ineg, 1) := by decide +kernel
theorem d_Mo_dx_34 : decode b_Mo_dx 34 = .ok (.ireturn, 1) := by decide +kernel
theorem d_Mo_dx_35 : decode b_Mo_dx 35 = .ok (.iload_n 2, 1) := by decide +kernel
theorem d_Mo_dx_36 : decode b_Mo_dx 36 = .ok (.bipush 48, 2) := by decide +kernel
theorem d_Mo_dx_38 : decode b_Mo_dx 38 = .ok (.if_icmp .gt 16, 3) := by decide +kernel
theorem d_Mo_dx_41 : decode b_Mo_dx 41 = .ok (.aload_n 0, 1) := by decide +kernel
theorem d_Mo_dx_42 : decode b_Mo_dx 42 = .ok (.getfield 7, 3) := by decide +kernel
theorem d_Mo_dx_45 : decode b_Mo_dx 45 = .ok (.iload_n 2, 1) := by decide +kernel
theorem d_Mo_dx_46 : decode b_Mo_dx 46 = .ok (.bipush 32, 2) := by decide +kernel
theorem d_Mo_dx_48 : decode b_Mo_dx 48 = .ok (.isub, 1) := by decide +kernel
theorem d_Mo_dx_49 : decode b_Mo_dx 49 = .ok (.iaload, 1) := by decide +kernel
theorem d_Mo_dx_50 : decode b_Mo_dx 50 = .ok (.ineg, 1) := by decide +kernel
theorem d_Mo_dx_51 : decode b_Mo_dx 51 = .ok (.goto 12, 3) := by decide +kernel
theorem d_Mo_dx_54 : decode b_Mo_dx 54 = .ok (.aload_n 0, 1) := by decide +kernel
theorem d_Mo_dx_55 : decode b_Mo_dx 55 = .ok (.getfield 7, 3) := by decide +kernel
theorem d_Mo_dx_58 : decode b_Mo_dx 58 = .ok (.bipush 64, 2) := by decide +kernel
theorem d_Mo_dx_60 : decode b_Mo_dx 60 = .ok (.iload_n 2, 1) := by decide +kernel
theorem d_Mo_dx_61 : decode b_Mo_dx 61 = .ok (.isub, 1) := by decide +kernel
theorem d_Mo_dx_62 : decode b_Mo_dx 62 = .ok (.iaload, 1) := by decide +kernel
theorem d_Mo_dx_63 : decode b_Mo_dx 63 = .ok (.ireturn, 1) := by decide +kernel
theorem d_Mo_dy_0 : decode b_Mo_dy 0 = .ok (.aload_n 0, 1) := by decide +kernel
theorem d_Mo_dy_1 : decode b_Mo_dy 1 = .ok (.iload_n 1, 1) := by decide +kernel
theorem d_Mo_dy_2 : decode b_Mo_dy 2 = .ok (.bipush 48, 2) := by decide +kernel
theorem d_Mo_dy_4 : decode b_Mo_dy 4 = .ok (.iadd, 1) := by decide +kernel
theorem d_Mo_dy_5 : decode b_Mo_dy 5 = .ok (.invokevirtual 90, 3) := by decide +kernel
theorem d_Mo_dy_8 : decode b_Mo_dy 8 = .ok (.ireturn, 1) := by decide +kernel
theorem d_Mo_wrapped_0 : decode b_Mo_wrapped 0 = .ok (.iload_n 0, 1) := by decide +kernel
theorem d_Mo_wrapped_1 : decode b_Mo_wrapped 1 = .ok (.bipush 32, 2) := by decide +kernel
theorem d_Mo_wrapped_3 : decode b_Mo_wrapped 3 = .ok (.iadd, 1) := by decide +kernel
theorem d_Mo_wrapped_4 : decode b_Mo_wrapped 4 = .ok (.bipush 63, 2) := by decide +kernel
theorem d_Mo_wrapped_6 : decode b_Mo_wrapped 6 = .ok (.iand, 1) := by decide +kernel
theorem d_Mo_wrapped_7 : decode b_Mo_wrapped 7 = .ok (.bipush 32, 2) := by decide +kernel
theorem d_Mo_wrapped_9 : decode b_Mo_wrapped 9 = .ok (.isub, 1) := by decide +kernel
theorem d_Mo_wrapped_10 : decode b_Mo_wrapped 10 = .ok (.ireturn, 1) := by decide +kernel
theorem d_Mo_askewOf_0 : decode b_Mo_askewOf 0 = .ok (.iload_n 1, 1) := by decide +kernel
theorem d_Mo_askewOf_1 : decode b_Mo_askewOf 1 = .ok (.ifCond .ne 7, 3) := by decide +kernel
theorem d_Mo_askewOf_4 : decode b_Mo_askewOf 4 = .ok (.iconst 0, 1) := by decide +kernel
theorem d_Mo_askewOf_5 : decode b_Mo_askewOf 5 = .ok (.goto 21, 3) := by decide +kernel
theorem d_Mo_askewOf_8 : decode b_Mo_askewOf 8 = .ok (.aload_n 0, 1) := by decide +kernel
theorem d_Mo_askewOf_9 : decode b_Mo_askewOf 9 = .ok (.getfield 57, 3) := by decide +kernel
theorem d_Mo_askewOf_12 : decode b_Mo_askewOf 12 = .ok (.iload_n 1, 1) := by decide +kernel
theorem d_Mo_askewOf_13 : decode b_Mo_askewOf 13 = .ok (.iconst 1, 1) := by decide +kernel
theorem d_Mo_askewOf_14 : decode b_Mo_askewOf 14 = .ok (.isub, 1) := by decide +kernel
theorem d_Mo_askewOf_15 : decode b_Mo_askewOf 15 = .ok (.iaload, 1) := by decide +kernel
theorem d_Mo_askewOf_16 : decode b_Mo_askewOf 16 = .ok (.aload_n 0, 1) := by decide +kernel
theorem d_Mo_askewOf_17 : decode b_Mo_askewOf 17 = .ok (.getfield 57, 3) := by decide +kernel
theorem d_Mo_askewOf_20 : decode b_Mo_askewOf 20 = .ok (.iload_n 1, 1) := by decide +kernel
theorem d_Mo_askewOf_21 : decode b_Mo_askewOf 21 = .ok (.iaload, 1) := by decide +kernel
theorem d_Mo_askewOf_22 : decode b_Mo_askewOf 22 = .ok (.isub, 1) := by decide +kernel
theorem d_Mo_askewOf_23 : decode b_Mo_askewOf 23 = .ok (.invokestatic 94, 3) := by decide +kernel
theorem d_Mo_askewOf_26 : decode b_Mo_askewOf 26 = .ok (.ireturn, 1) := by decide +kernel
theorem d_Mo_hang_0 : decode b_Mo_hang 0 = .ok (.aload_n 0, 1) := by decide +kernel
theorem d_Mo_hang_1 : decode b_Mo_hang 1 = .ok (.getfield 57, 3) := by decide +kernel
theorem d_Mo_hang_4 : decode b_Mo_hang 4 = .ok (.iload_n 1, 1) := by decide +kernel
theorem d_Mo_hang_5 : decode b_Mo_hang 5 = .ok (.iconst 1, 1) := by decide +kernel
theorem d_Mo_hang_6 : decode b_Mo_hang 6 = .ok (.isub, 1) := by decide +kernel
theorem d_Mo_hang_7 : decode b_Mo_hang 7 = .ok (.iaload, 1) := by decide +kernel
theorem d_Mo_hang_8 : decode b_Mo_hang 8 = .ok (.istore_n 2, 1) := by decide +kernel
theorem d_Mo_hang_9 : decode b_Mo_hang 9 = .ok (.aload_n 0, 1) := by decide +kernel
theorem d_Mo_hang_10 : decode b_Mo_hang 10 = .ok (.getfield 51, 3) := by decide +kernel
theorem d_Mo_hang_13 : decode b_Mo_hang 13 = .ok (.iload_n 1, 1) := by decide +kernel
theorem d_Mo_hang_14 : decode b_Mo_hang 14 = .ok (.aload_n 0, 1) := by decide +kernel
theorem d_Mo_hang_15 : decode b_Mo_hang 15 = .ok (.getfield 51, 3) := by decide +kernel
theorem d_Mo_hang_18 : decode b_Mo_hang 18 = .ok (.iload_n 1, 1) := by decide +kernel
theorem d_Mo_hang_19 : decode b_Mo_hang 19 = .ok (.iconst 1, 1) := by decide +kernel
theorem d_Mo_hang_20 : decode b_Mo_hang 20 = .ok (.isub, 1) := by decide +kernel
theorem d_Mo_hang_21 : decode b_Mo_hang 21 = .ok (.iaload, 1) := by decide +kernel
theorem d_Mo_hang_22 : decode b_Mo_hang 22 = .ok (.aload_n 0, 1) := by decide +kernel
theorem d_Mo_hang_23 : decode b_Mo_hang 23 = .ok (.getfield 16, 3) := by decide +kernel
theorem d_Mo_hang_26 : decode b_Mo_hang 26 = .ok (.iload_n 1, 1) := by decide +kernel
theorem d_Mo_hang_27 : decode b_Mo_hang 27 = .ok (.iconst 1, 1) := by decide +kernel
theorem d_Mo_hang_28 : decode b_Mo_hang 28 = .ok (.isub, 1) := by decide +kernel
theorem d_Mo_hang_29 : decode b_Mo_hang 29 = .ok (.iaload, 1) := by decide +kernel
theorem d_Mo_hang_30 : decode b_Mo_hang 30 = .ok (.aload_n 0, 1) := by decide +kernel
theorem d_Mo_hang_31 : decode b_Mo_hang 31 = .ok (.iload_n 2, 1) := by decide +kernel
theorem d_Mo_hang_32 : decode b_Mo_hang 32 = .ok (.invokevirtual 90, 3) := by decide +kernel
theorem d_Mo_hang_35 : decode b_Mo_hang 35 = .ok (.imul, 1) := by decide +kernel
theorem d_Mo_hang_36 : decode b_Mo_hang 36 = .ok (.isub, 1) := by decide +kernel
theorem d_Mo_hang_37 : decode b_Mo_hang 37 = .ok (.aload_n 0, 1) := by decide +kernel
theorem d_Mo_hang_38 : decode b_Mo_hang 38 = .ok (.getfield 13, 3) := by decide +kernel
theorem d_Mo_hang_41 : decode b_Mo_hang 41 = .ok (.iload_n 1, 1) := by decide +kernel
theorem d_Mo_hang_42 : decode b_Mo_hang 42 = .ok (.iaload, 1) := by decide +kernel
theorem d_Mo_hang_43 : decode b_Mo_hang 43 = .ok (.aload_n 0, 1) := by decide +kernel
theorem d_Mo_hang_44 : decode b_Mo_hang 44 = .ok (.aload_n 0, 1) := by decide +kernel
theorem d_Mo_hang_45 : decode b_Mo_hang 45 = .ok (.getfield 57, 3) := by decide +kernel
theorem d_Mo_hang_48 : decode b_Mo_hang 48 = .ok (.iload_n 1, 1) := by decide +kernel
theorem d_Mo_hang_49 : decode b_Mo_hang 49 = .ok (.iaload, 1) := by decide +kernel
theorem d_Mo_hang_50 : decode b_Mo_hang 50 = .ok (.invokevirtual 90, 3) := by decide +kernel
theorem d_Mo_hang_53 : decode b_Mo_hang 53 = .ok (.imul, 1) := by decide +kernel
theorem d_Mo_hang_54 : decode b_Mo_hang 54 = .ok (.isub, 1) := by decide +kernel
theorem d_Mo_hang_55 : decode b_Mo_hang 55 = .ok (.iastore, 1) := by decide +kernel
theorem d_Mo_hang_56 : decode b_Mo_hang 56 = .ok (.aload_n 0, 1) := by decide +kernel
theorem d_Mo_hang_57 : decode b_Mo_hang 57 = .ok (.getfield 54, 3) := by decide +kernel
theorem d_Mo_hang_60 : decode b_Mo_hang 60 = .ok (.iload_n 1, 1) := by decide +kernel
theorem d_Mo_hang_61 : decode b_Mo_hang 61 = .ok (.aload_n 0, 1) := by decide +kernel
theorem d_Mo_hang_62 : decode b_Mo_hang 62 = .ok (.getfield 54, 3) := by decide +kernel
theorem d_Mo_hang_65 : decode b_Mo_hang 65 = .ok (.iload_n 1, 1) := by decide +kernel
theorem d_Mo_hang_66 : decode b_Mo_hang 66 = .ok (.iconst 1, 1) := by decide +kernel
theorem d_Mo_hang_67 : decode b_Mo_hang 67 = .ok (.isub, 1) := by decide +kernel
theorem d_Mo_hang_68 : decode b_Mo_hang 68 = .ok (.iaload, 1) := by decide +kernel
theorem d_Mo_hang_69 : decode b_Mo_hang 69 = .ok (.aload_n 0, 1) := by decide +kernel
theorem d_Mo_hang_70 : decode b_Mo_hang 70 = .ok (.getfield 16, 3) := by decide +kernel
theorem d_Mo_hang_73 : decode b_Mo_hang 73 = .ok (.iload_n 1, 1) := by decide +kernel
theorem d_Mo_hang_74 : decode b_Mo_hang 74 = .ok (.iconst 1, 1) := by decide +kernel
theorem d_Mo_hang_75 : decode b_Mo_hang 75 = .ok (.isub, 1) := by decide +kernel
theorem d_Mo_hang_76 : decode b_Mo_hang 76 = .ok (.iaload, 1) := by decide +kernel
theorem d_Mo_hang_77 : decode b_Mo_hang 77 = .ok (.aload_n 0, 1) := by decide +kernel
theorem d_Mo_hang_78 : decode b_Mo_hang 78 = .ok (.iload_n 2, 1) := by decide +kernel
theorem d_Mo_hang_79 : decode b_Mo_hang 79 = .ok (.invokevirtual 97, 3) := by decide +kernel
theorem d_Mo_hang_82 : decode b_Mo_hang 82 = .ok (.imul, 1) := by decide +kernel
theorem d_Mo_hang_83 : decode b_Mo_hang 83 = .ok (.isub, 1) := by decide +kernel
theorem d_Mo_hang_84 : decode b_Mo_hang 84 = .ok (.aload_n 0, 1) := by decide +kernel
theorem d_Mo_hang_85 : decode b_Mo_hang 85 = .ok (.getfield 13, 3) := by decide +kernel
theorem d_Mo_hang_88 : decode b_Mo_hang 88 = .ok (.iload_n 1, 1) := by decide +kernel
theorem d_Mo_hang_89 : decode b_Mo_hang 89 = .ok (.iaload, 1) := by decide +kernel
theorem d_Mo_hang_90 : decode b_Mo_hang 90 = .ok (.aload_n 0, 1) := by decide +kernel
theorem d_Mo_hang_91 : decode b_Mo_hang 91 = .ok (.aload_n 0, 1) := by decide +kernel
theorem d_Mo_hang_92 : decode b_Mo_hang 92 = .ok (.getfield 57, 3) := by decide +kernel
theorem d_Mo_hang_95 : decode b_Mo_hang 95 = .ok (.iload_n 1, 1) := by decide +kernel
theorem d_Mo_hang_96 : decode b_Mo_hang 96 = .ok (.iaload, 1) := by decide +kernel
theorem d_Mo_hang_97 : decode b_Mo_hang 97 = .ok (.invokevirtual 97, 3) := by decide +kernel
theorem d_Mo_hang_100 : decode b_Mo_hang 100 = .ok (.imul, 1) := by decide +kernel
theorem d_Mo_hang_101 : decode b_Mo_hang 101 = .ok (.isub, 1) := by decide +kernel
theorem d_Mo_hang_102 : decode b_Mo_hang 102 = .ok (.iastore, 1) := by decide +kernel
theorem d_Mo_hang_103 : decode b_Mo_hang 103 = .ok (.return_, 1) := by decide +kernel
theorem d_Mo_covers_0 : decode b_Mo_covers 0 = .ok (.iload_n 2, 1) := by decide +kernel
theorem d_Mo_covers_1 : decode b_Mo_covers 1 = .ok (.aload_n 0, 1) := by decide +kernel
theorem d_Mo_covers_2 : decode b_Mo_covers 2 = .ok (.getfield 51, 3) := by decide +kernel
theorem d_Mo_covers_5 : decode b_Mo_covers 5 = .ok (.iload_n 1, 1) := by decide +kernel
theorem d_Mo_covers_6 : decode b_Mo_covers 6 = .ok (.iaload, 1) := by decide +kernel
theorem d_Mo_covers_7 : decode b_Mo_covers 7 = .ok (.isub, 1) := by decide +kernel
theorem d_Mo_covers_8 : decode b_Mo_covers 8 = .ok (.i2l, 1) := by decide +kernel
theorem d_Mo_covers_9 : decode b_Mo_covers 9 = .ok (.lstore 4, 2) := by decide +kernel
theorem d_Mo_covers_11 : decode b_Mo_covers 11 = .ok (.iload_n 3, 1) := by decide +kernel
theorem d_Mo_covers_12 : decode b_Mo_covers 12 = .ok (.aload_n 0, 1) := by decide +kernel
theorem d_Mo_covers_13 : decode b_Mo_covers 13 = .ok (.getfield 54, 3) := by decide +kernel
theorem d_Mo_covers_16 : decode b_Mo_covers 16 = .ok (.iload_n 1, 1) := by decide +kernel
theorem d_Mo_covers_17 : decode b_Mo_covers 17 = .ok (.iaload, 1) := by decide +kernel
theorem d_Mo_covers_18 : decode b_Mo_covers 18 = .ok (.isub, 1) := by decide +kernel
theorem d_Mo_covers_19 : decode b_Mo_covers 19 = .ok (.i2l, 1) := by decide +kernel
theorem d_Mo_covers_20 : decode b_Mo_covers 20 = .ok (.lstore 6, 2) := by decide +kernel
theorem d_Mo_covers_22 : decode b_Mo_covers 22 = .ok (.aload_n 0, 1) := by decide +kernel
theorem d_Mo_covers_23 : decode b_Mo_covers 23 = .ok (.aload_n 0, 1) := by decide +kernel
theorem d_Mo_covers_24 : decode b_Mo_covers 24 = .ok (.getfield 57, 3) := by decide +kernel
theorem d_Mo_covers_27 : decode b_Mo_covers 27 = .ok (.iload_n 1, 1) := by decide +kernel
theorem d_Mo_covers_28 : decode b_Mo_covers 28 = .ok (.iaload, 1) := by decide +kernel
theorem d_Mo_covers_29 : decode b_Mo_covers 29 = .ok (.invokevirtual 90, 3) := by decide +kernel
theorem d_Mo_covers_32 : decode b_Mo_covers 32 = .ok (.i2l, 1) := by decide +kernel
theorem d_Mo_covers_33 : decode b_Mo_covers 33 = .ok (.lstore 8, 2) := by decide +kernel
theorem d_Mo_covers_35 : decode b_Mo_covers 35 = .ok (.aload_n 0, 1) := by decide +kernel
theorem d_Mo_covers_36 : decode b_Mo_covers 36 = .ok (.aload_n 0, 1) := by decide +kernel
theorem d_Mo_covers_37 : decode b_Mo_covers 37 = .ok (.getfield 57, 3) := by decide +kernel
theorem d_Mo_covers_40 : decode b_Mo_covers 40 = .ok (.iload_n 1, 1) := by decide +kernel
theorem d_Mo_covers_41 : decode b_Mo_covers 41 = .ok (.iaload, 1) := by decide +kernel
theorem d_Mo_covers_42 : decode b_Mo_covers 42 = .ok (.invokevirtual 97, 3) := by decide +kernel
theorem d_Mo_covers_45 : decode b_Mo_covers 45 = .ok (.i2l, 1) := by decide +kernel
theorem d_Mo_covers_46 : decode b_Mo_covers 46 = .ok (.lstore 10, 2) := by decide +kernel
theorem d_Mo_covers_48 : decode b_Mo_covers 48 = .ok (.lload 4, 2) := by decide +kernel
theorem d_Mo_covers_50 : decode b_Mo_covers 50 = .ok (.lload 8, 2) := by decide +kernel
theorem d_Mo_covers_52 : decode b_Mo_covers 52 = .ok (.lmul, 1) := by decide +kernel
theorem d_Mo_covers_53 : decode b_Mo_covers 53 = .ok (.lload 6, 2) := by decide +kernel
theorem d_Mo_covers_55 : decode b_Mo_covers 55 = .ok (.lload 10, 2) := by decide +kernel
theorem d_Mo_covers_57 : decode b_Mo_covers 57 = .ok (.lmul, 1) := by decide +kernel
theorem d_Mo_covers_58 : decode b_Mo_covers 58 = .ok (.ladd, 1) := by decide +kernel
theorem d_Mo_covers_59 : decode b_Mo_covers 59 = .ok (.lstore 12, 2) := by decide +kernel
theorem d_Mo_covers_61 : decode b_Mo_covers 61 = .ok (.lload 6, 2) := by decide +kernel
theorem d_Mo_covers_63 : decode b_Mo_covers 63 = .ok (.lload 8, 2) := by decide +kernel
theorem d_Mo_covers_65 : decode b_Mo_covers 65 = .ok (.lmul, 1) := by decide +kernel
theorem d_Mo_covers_66 : decode b_Mo_covers 66 = .ok (.lload 4, 2) := by decide +kernel
theorem d_Mo_covers_68 : decode b_Mo_covers 68 = .ok (.lload 10, 2) := by decide +kernel
theorem d_Mo_covers_70 : decode b_Mo_covers 70 = .ok (.lmul, 1) := by decide +kernel
theorem d_Mo_covers_71 : decode b_Mo_covers 71 = .ok (.lsub, 1) := by decide +kernel
theorem d_Mo_covers_72 : decode b_Mo_covers 72 = .ok (.lstore 14, 2) := by decide +kernel
theorem d_Mo_covers_74 : decode b_Mo_covers 74 = .ok (.lload 12, 2) := by decide +kernel
theorem d_Mo_covers_76 : decode b_Mo_covers 76 = .ok (.aload_n 0, 1) := by decide +kernel
theorem d_Mo_covers_77 : decode b_Mo_covers 77 = .ok (.getfield 22, 3) := by decide +kernel
theorem d_Mo_covers_80 : decode b_Mo_covers 80 = .ok (.iload_n 1, 1) := by decide +kernel
theorem d_Mo_covers_81 : decode b_Mo_covers 81 = .ok (.iaload, 1) := by decide +kernel
theorem d_Mo_covers_82 : decode b_Mo_covers 82 = .ok (.ineg, 1) := by decide +kernel
theorem d_Mo_covers_83 : decode b_Mo_covers 83 = .ok (.i2l, 1) := by decide +kernel
theorem d_Mo_covers_84 : decode b_Mo_covers 84 = .ok (.ldc2_w 100, 3) := by decide +kernel
theorem d_Mo_covers_87 : decode b_Mo_covers 87 = .ok (.lmul, 1) := by decide +kernel
theorem d_Mo_covers_88 : decode b_Mo_covers 88 = .ok (.lcmp, 1) := by decide +kernel
theorem d_Mo_covers_89 : decode b_Mo_covers 89 = .ok (.ifCond .lt 59, 3) := by decide +kernel
theorem d_Mo_covers_92 : decode b_Mo_covers 92 = .ok (.lload 12, 2) := by decide +kernel
theorem d_Mo_covers_94 : decode b_Mo_covers 94 = .ok (.aload_n 0, 1) := by decide +kernel
theorem d_Mo_covers_95 : decode b_Mo_covers 95 = .ok (.getfield 19, 3) := by decide +kernel
theorem d_Mo_covers_98 : decode b_Mo_covers 98 = .ok (.iload_n 1, 1) := by decide +kernel
theorem d_Mo_covers_99 : decode b_Mo_covers 99 = .ok (.iaload, 1) := by decide +kernel
theorem d_Mo_covers_100 : decode b_Mo_covers 100 = .ok (.i2l, 1) := by decide +kernel
theorem d_Mo_covers_101 : decode b_Mo_covers 101 = .ok (.ldc2_w 100, 3) := by decide +kernel
theorem d_Mo_covers_104 : decode b_Mo_covers 104 = .ok (.lmul, 1) := by decide +kernel
theorem d_Mo_covers_105 : decode b_Mo_covers 105 = .ok (.lcmp, 1) := by decide +kernel
theorem d_Mo_covers_106 : decode b_Mo_covers 106 = .ok (.ifCond .gt 42, 3) := by decide +kernel
theorem d_Mo_covers_109 : decode b_Mo_covers 109 = .ok (.lload 14, 2) := by decide +kernel
