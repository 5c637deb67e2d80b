theorem d_An_init_0 : decode b_An_init 0 = .ok (.aload_n 0, 1) := by decide +kernel
theorem d_An_init_1 : decode b_An_init 1 = .ok (.invokespecial 3, 3) := by decide +kernel
theorem d_An_init_4 : decode b_An_init 4 = .ok (.aload_n 0, 1) := by decide +kernel
theorem d_An_init_5 : decode b_An_init 5 = .ok (.iconst (4), 1) := by decide +kernel
theorem d_An_init_6 : decode b_An_init 6 = .ok (.anewarray 9, 3) := by decide +kernel
theorem d_An_init_9 : decode b_An_init 9 = .ok (.putfield 11, 3) := by decide +kernel
theorem d_An_init_12 : decode b_An_init 12 = .ok (.aload_n 0, 1) := by decide +kernel
theorem d_An_init_13 : decode b_An_init 13 = .ok (.iconst (4), 1) := by decide +kernel
theorem d_An_init_14 : decode b_An_init 14 = .ok (.bipush (8), 2) := by decide +kernel
theorem d_An_init_16 : decode b_An_init 16 = .ok (.multianewarray 15 2, 4) := by decide +kernel
theorem d_An_init_20 : decode b_An_init 20 = .ok (.putfield 17, 3) := by decide +kernel
theorem d_An_init_23 : decode b_An_init 23 = .ok (.aload_n 0, 1) := by decide +kernel
theorem d_An_init_24 : decode b_An_init 24 = .ok (.iconst (4), 1) := by decide +kernel
theorem d_An_init_25 : decode b_An_init 25 = .ok (.anewarray 20, 3) := by decide +kernel
theorem d_An_init_28 : decode b_An_init 28 = .ok (.putfield 22, 3) := by decide +kernel
theorem d_An_init_31 : decode b_An_init 31 = .ok (.aload_n 0, 1) := by decide +kernel
theorem d_An_init_32 : decode b_An_init 32 = .ok (.new 26, 3) := by decide +kernel
theorem d_An_init_35 : decode b_An_init 35 = .ok (.dup, 1) := by decide +kernel
theorem d_An_init_36 : decode b_An_init 36 = .ok (.invokespecial 28, 3) := by decide +kernel
theorem d_An_init_39 : decode b_An_init 39 = .ok (.putfield 29, 3) := by decide +kernel
theorem d_An_init_42 : decode b_An_init 42 = .ok (.aload_n 0, 1) := by decide +kernel
theorem d_An_init_43 : decode b_An_init 43 = .ok (.new 33, 3) := by decide +kernel
theorem d_An_init_46 : decode b_An_init 46 = .ok (.dup, 1) := by decide +kernel
theorem d_An_init_47 : decode b_An_init 47 = .ok (.invokespecial 35, 3) := by decide +kernel
theorem d_An_init_50 : decode b_An_init 50 = .ok (.putfield 36, 3) := by decide +kernel
theorem d_An_init_53 : decode b_An_init 53 = .ok (.aload_n 0, 1) := by decide +kernel
theorem d_An_init_54 : decode b_An_init 54 = .ok (.new 40, 3) := by decide +kernel
theorem d_An_init_57 : decode b_An_init 57 = .ok (.dup, 1) := by decide +kernel
theorem d_An_init_58 : decode b_An_init 58 = .ok (.invokespecial 42, 3) := by decide +kernel
theorem d_An_init_61 : decode b_An_init 61 = .ok (.putfield 43, 3) := by decide +kernel
theorem d_An_init_64 : decode b_An_init 64 = .ok (.aload_n 0, 1) := by decide +kernel
theorem d_An_init_65 : decode b_An_init 65 = .ok (.new 47, 3) := by decide +kernel
theorem d_An_init_68 : decode b_An_init 68 = .ok (.dup, 1) := by decide +kernel
theorem d_An_init_69 : decode b_An_init 69 = .ok (.invokespecial 49, 3) := by decide +kernel
theorem d_An_init_72 : decode b_An_init 72 = .ok (.putfield 50, 3) := by decide +kernel
theorem d_An_init_75 : decode b_An_init 75 = .ok (.aload_n 0, 1) := by decide +kernel
theorem d_An_init_76 : decode b_An_init 76 = .ok (.iconst (0), 1) := by decide +kernel
theorem d_An_init_77 : decode b_An_init 77 = .ok (.putfield 54, 3) := by decide +kernel
theorem d_An_init_80 : decode b_An_init 80 = .ok (.iconst (0), 1) := by decide +kernel
theorem d_An_init_81 : decode b_An_init 81 = .ok (.istore_n 1, 1) := by decide +kernel
theorem d_An_init_82 : decode b_An_init 82 = .ok (.iload_n 1, 1) := by decide +kernel
theorem d_An_init_83 : decode b_An_init 83 = .ok (.iconst (4), 1) := by decide +kernel
theorem d_An_init_84 : decode b_An_init 84 = .ok (.if_icmp .ge (22), 3) := by decide +kernel
theorem d_An_init_87 : decode b_An_init 87 = .ok (.aload_n 0, 1) := by decide +kernel
theorem d_An_init_88 : decode b_An_init 88 = .ok (.getfield 11, 3) := by decide +kernel
theorem d_An_init_91 : decode b_An_init 91 = .ok (.iload_n 1, 1) := by decide +kernel
theorem d_An_init_92 : decode b_An_init 92 = .ok (.new 9, 3) := by decide +kernel
theorem d_An_init_95 : decode b_An_init 95 = .ok (.dup, 1) := by decide +kernel
theorem d_An_init_96 : decode b_An_init 96 = .ok (.invokespecial 58, 3) := by decide +kernel
theorem d_An_init_99 : decode b_An_init 99 = .ok (.aastore, 1) := by decide +kernel
theorem d_An_init_100 : decode b_An_init 100 = .ok (.iinc 1 (1), 3) := by decide +kernel
theorem d_An_init_103 : decode b_An_init 103 = .ok (.goto (-21), 3) := by decide +kernel
theorem d_An_init_106 : decode b_An_init 106 = .ok (.iconst (0), 1) := by decide +kernel
theorem d_An_init_107 : decode b_An_init 107 = .ok (.istore_n 1, 1) := by decide +kernel
theorem d_An_init_108 : decode b_An_init 108 = .ok (.iload_n 1, 1) := by decide +kernel
theorem d_An_init_109 : decode b_An_init 109 = .ok (.iconst (4), 1) := by decide +kernel
theorem d_An_init_110 : decode b_An_init 110 = .ok (.if_icmp .ge (23), 3) := by decide +kernel
theorem d_An_init_113 : decode b_An_init 113 = .ok (.aload_n 0, 1) := by decide +kernel
theorem d_An_init_114 : decode b_An_init 114 = .ok (.getfield 22, 3) := by decide +kernel
theorem d_An_init_117 : decode b_An_init 117 = .ok (.iload_n 1, 1) := by decide +kernel
theorem d_An_init_118 : decode b_An_init 118 = .ok (.new 20, 3) := by decide +kernel
theorem d_An_init_121 : decode b_An_init 121 = .ok (.dup, 1) := by decide +kernel
theorem d_An_init_122 : decode b_An_init 122 = .ok (.iload_n 1, 1) := by decide +kernel
theorem d_An_init_123 : decode b_An_init 123 = .ok (.invokespecial 59, 3) := by decide +kernel
theorem d_An_init_126 : decode b_An_init 126 = .ok (.aastore, 1) := by decide +kernel
theorem d_An_init_127 : decode b_An_init 127 = .ok (.iinc 1 (1), 3) := by decide +kernel
theorem d_An_init_130 : decode b_An_init 130 = .ok (.goto (-22), 3) := by decide +kernel
theorem d_An_init_133 : decode b_An_init 133 = .ok (.return_, 1) := by decide +kernel
theorem d_An_program_0 : decode b_An_program 0 = .ok (.iload_n 1, 1) := by decide +kernel
theorem d_An_program_1 : decode b_An_program 1 = .ok (.invokestatic 62, 3) := by decide +kernel
theorem d_An_program_4 : decode b_An_program 4 = .ok (.ifCond .eq (23), 3) := by decide +kernel
theorem d_An_program_7 : decode b_An_program 7 = .ok (.iload 4, 2) := by decide +kernel
theorem d_An_program_9 : decode b_An_program 9 = .ok (.iconst (1), 1) := by decide +kernel
theorem d_An_program_10 : decode b_An_program 10 = .ok (.if_icmp .lt (17), 3) := by decide +kernel
theorem d_An_program_13 : decode b_An_program 13 = .ok (.iload 4, 2) := by decide +kernel
theorem d_An_program_15 : decode b_An_program 15 = .ok (.bipush (8), 2) := by decide +kernel
theorem d_An_program_17 : decode b_An_program 17 = .ok (.if_icmp .gt (10), 3) := by decide +kernel
theorem d_An_program_20 : decode b_An_program 20 = .ok (.aload_n 0, 1) := by decide +kernel
theorem d_An_program_21 : decode b_An_program 21 = .ok (.getfield 54, 3) := by decide +kernel
theorem d_An_program_24 : decode b_An_program 24 = .ok (.ifCond .le (5), 3) := by decide +kernel
theorem d_An_program_27 : decode b_An_program 27 = .ok (.iconst (-1), 1) := by decide +kernel
theorem d_An_program_28 : decode b_An_program 28 = .ok (.ireturn, 1) := by decide +kernel
theorem d_An_program_29 : decode b_An_program 29 = .ok (.aload_n 0, 1) := by decide +kernel
theorem d_An_program_30 : decode b_An_program 30 = .ok (.getfield 11, 3) := by decide +kernel
theorem d_An_program_33 : decode b_An_program 33 = .ok (.iload_n 1, 1) := by decide +kernel
theorem d_An_program_34 : decode b_An_program 34 = .ok (.aaload, 1) := by decide +kernel
theorem d_An_program_35 : decode b_An_program 35 = .ok (.lload_n 2, 1) := by decide +kernel
theorem d_An_program_36 : decode b_An_program 36 = .ok (.iload 4, 2) := by decide +kernel
theorem d_An_program_38 : decode b_An_program 38 = .ok (.invokevirtual 66, 3) := by decide +kernel
theorem d_An_program_41 : decode b_An_program 41 = .ok (.ireturn, 1) := by decide +kernel
theorem d_An_table_0 : decode b_An_table 0 = .ok (.iload_n 1, 1) := by decide +kernel
theorem d_An_table_1 : decode b_An_table 1 = .ok (.invokestatic 70, 3) := by decide +kernel
theorem d_An_table_4 : decode b_An_table 4 = .ok (.ifCond .eq (20), 3) := by decide +kernel
theorem d_An_table_7 : decode b_An_table 7 = .ok (.iload_n 2, 1) := by decide +kernel
theorem d_An_table_8 : decode b_An_table 8 = .ok (.ifCond .lt (16), 3) := by decide +kernel
theorem d_An_table_11 : decode b_An_table 11 = .ok (.iload_n 2, 1) := by decide +kernel
theorem d_An_table_12 : decode b_An_table 12 = .ok (.bipush (8), 2) := by decide +kernel
theorem d_An_table_14 : decode b_An_table 14 = .ok (.if_icmp .ge (10), 3) := by decide +kernel
theorem d_An_table_17 : decode b_An_table 17 = .ok (.aload_n 0, 1) := by decide +kernel
theorem d_An_table_18 : decode b_An_table 18 = .ok (.getfield 54, 3) := by decide +kernel
theorem d_An_table_21 : decode b_An_table 21 = .ok (.ifCond .le (5), 3) := by decide +kernel
theorem d_An_table_24 : decode b_An_table 24 = .ok (.iconst (0), 1) := by decide +kernel
theorem d_An_table_25 : decode b_An_table 25 = .ok (.ireturn, 1) := by decide +kernel
theorem d_An_table_26 : decode b_An_table 26 = .ok (.aload_n 0, 1) := by decide +kernel
theorem d_An_table_27 : decode b_An_table 27 = .ok (.getfield 17, 3) := by decide +kernel
theorem d_An_table_30 : decode b_An_table 30 = .ok (.iload_n 1, 1) := by decide +kernel
theorem d_An_table_31 : decode b_An_table 31 = .ok (.aaload, 1) := by decide +kernel
theorem d_An_table_32 : decode b_An_table 32 = .ok (.iload_n 2, 1) := by decide +kernel
theorem d_An_table_33 : decode b_An_table 33 = .ok (.iload_n 3, 1) := by decide +kernel
theorem d_An_table_34 : decode b_An_table 34 = .ok (.iastore, 1) := by decide +kernel
theorem d_An_table_35 : decode b_An_table 35 = .ok (.iconst (1), 1) := by decide +kernel
theorem d_An_table_36 : decode b_An_table 36 = .ok (.ireturn, 1) := by decide +kernel
theorem d_An_launch_0 : decode b_An_launch 0 = .ok (.iload_n 1, 1) := by decide +kernel
theorem d_An_launch_1 : decode b_An_launch 1 = .ok (.invokestatic 70, 3) := by decide +kernel
theorem d_An_launch_4 : decode b_An_launch 4 = .ok (.ifCond .eq (22), 3) := by decide +kernel
theorem d_An_launch_7 : decode b_An_launch 7 = .ok (.iload_n 2, 1) := by decide +kernel
theorem d_An_launch_8 : decode b_An_launch 8 = .ok (.invokestatic 62, 3) := by decide +kernel
theorem d_An_launch_11 : decode b_An_launch 11 = .ok (.ifCond .eq (15), 3) := by decide +kernel
theorem d_An_launch_14 : decode b_An_launch 14 = .ok (.iload_n 3, 1) := by decide +kernel
theorem d_An_launch_15 : decode b_An_launch 15 = .ok (.iconst (1), 1) := by decide +kernel
theorem d_An_launch_16 : decode b_An_launch 16 = .ok (.if_icmp .lt (10), 3) := by decide +kernel
theorem d_An_launch_19 : decode b_An_launch 19 = .ok (.iload_n 3, 1) := by decide +kernel
theorem d_An_launch_20 : decode b_An_launch 20 = .ok (.sipush (200), 3) := by decide +kernel
theorem d_An_launch_23 : decode b_An_launch 23 = .ok (.if_icmp .le (11), 3) := by decide +kernel
theorem d_An_launch_26 : decode b_An_launch 26 = .ok (.new 73, 3) := by decide +kernel
theorem d_An_launch_29 : decode b_An_launch 29 = .ok (.dup, 1) := by decide +kernel
theorem d_An_launch_30 : decode b_An_launch 30 = .ok (.invokespecial 75, 3) := by decide +kernel
theorem d_An_launch_33 : decode b_An_launch 33 = .ok (.athrow, 1) := by decide +kernel
theorem d_An_launch_34 : decode b_An_launch 34 = .ok (.aload_n 0, 1) := by decide +kernel
theorem d_An_launch_35 : decode b_An_launch 35 = .ok (.getfield 22, 3) := by decide +kernel
theorem d_An_launch_38 : decode b_An_launch 38 = .ok (.iload_n 1, 1) := by decide +kernel
theorem d_An_launch_39 : decode b_An_launch 39 = .ok (.aaload, 1) := by decide +kernel
theorem d_An_launch_40 : decode b_An_launch 40 = .ok (.getfield 76, 3) := by decide +kernel
theorem d_An_launch_43 : decode b_An_launch 43 = .ok (.ifCond .eq (11), 3) := by decide +kernel
theorem d_An_launch_46 : decode b_An_launch 46 = .ok (.aload_n 0, 1) := by decide +kernel
theorem d_An_launch_47 : decode b_An_launch 47 = .ok (.getfield 54, 3) := by decide +kernel
theorem d_An_launch_50 : decode b_An_launch 50 = .ok (.iconst (4), 1) := by decide +kernel
theorem d_An_launch_51 : decode b_An_launch 51 = .ok (.if_icmp .lt (11), 3) := by decide +kernel
theorem d_An_launch_54 : decode b_An_launch 54 = .ok (.new 80, 3) := by decide +kernel
theorem d_An_launch_57 : decode b_An_launch 57 = .ok (.dup, 1) := by decide +kernel
theorem d_An_launch_58 : decode b_An_launch 58 = .ok (.invokespecial 82, 3) := by decide +kernel
theorem d_An_launch_61 : decode b_An_launch 61 = .ok (.athrow, 1) := by decide +kernel
theorem d_An_launch_62 : decode b_An_launch 62 = .ok (.aload_n 0, 1) := by decide +kernel
theorem d_An_launch_63 : decode b_An_launch 63 = .ok (.getfield 54, 3) := by decide +kernel
theorem d_An_launch_66 : decode b_An_launch 66 = .ok (.istore 4, 2) := by decide +kernel
theorem d_An_launch_68 : decode b_An_launch 68 = .ok (.aload_n 0, 1) := by decide +kernel
theorem d_An_launch_69 : decode b_An_launch 69 = .ok (.dup, 1) := by decide +kernel
theorem d_An_launch_70 : decode b_An_launch 70 = .ok (.getfield 54, 3) := by decide +kernel
theorem d_An_launch_73 : decode b_An_launch 73 = .ok (.iconst (1), 1) := by decide +kernel
theorem d_An_launch_74 : decode b_An_launch 74 = .ok (.iadd, 1) := by decide +kernel
theorem d_An_launch_75 : decode b_An_launch 75 = .ok (.putfield 54, 3) := by decide +kernel
theorem d_An_launch_78 : decode b_An_launch 78 = .ok (.aload_n 0, 1) := by decide +kernel
theorem d_An_launch_79 : decode b_An_launch 79 = .ok (.getfield 22, 3) := by decide +kernel
theorem d_An_launch_82 : decode b_An_launch 82 = .ok (.iload_n 1, 1) := by decide +kernel
theorem d_An_launch_83 : decode b_An_launch 83 = .ok (.aaload, 1) := by decide +kernel
theorem d_An_launch_84 : decode b_An_launch 84 = .ok (.getfield 83, 3) := by decide +kernel
theorem d_An_launch_87 : decode b_An_launch 87 = .ok (.astore 5, 2) := by decide +kernel
theorem d_An_launch_89 : decode b_An_launch 89 = .ok (.aload 5, 2) := by decide +kernel
theorem d_An_launch_91 : decode b_An_launch 91 = .ok (.getfield 87, 3) := by decide +kernel
theorem d_An_launch_94 : decode b_An_launch 94 = .ok (.iload 4, 2) := by decide +kernel
theorem d_An_launch_96 : decode b_An_launch 96 = .ok (.aaload, 1) := by decide +kernel
theorem d_An_launch_97 : decode b_An_launch 97 = .ok (.iload 4, 2) := by decide +kernel
theorem d_An_launch_99 : decode b_An_launch 99 = .ok (.iload_n 2, 1) := by decide +kernel
theorem d_An_launch_100 : decode b_An_launch 100 = .ok (.iload_n 3, 1) := by decide +kernel
theorem d_An_launch_101 : decode b_An_launch 101 = .ok (.invokevirtual 93, 3) := by decide +kernel
theorem d_An_launch_104 : decode b_An_launch 104 = .ok (.aload 5, 2) := by decide +kernel
theorem d_An_launch_106 : decode b_An_launch 106 = .ok (.iload 4, 2) := by decide +kernel
theorem d_An_launch_108 : decode b_An_launch 108 = .ok (.iconst (0), 1) := by decide +kernel
theorem d_An_launch_109 : decode b_An_launch 109 = .ok (.invokevirtual 99, 3) := by decide +kernel
theorem d_An_launch_112 : decode b_An_launch 112 = .ok (.aload_n 0, 1) := by decide +kernel
theorem d_An_launch_113 : decode b_An_launch 113 = .ok (.getfield 50, 3) := by decide +kernel
theorem d_An_launch_116 : decode b_An_launch 116 = .ok (.aload 5, 2) := by decide +kernel
theorem d_An_launch_118 : decode b_An_launch 118 = .ok (.getfield 87, 3) := by decide +kernel
theorem d_An_launch_121 : decode b_An_launch 121 = .ok (.iload 4, 2) := by decide +kernel
theorem d_An_launch_123 : decode b_An_launch 123 = .ok (.aaload, 1) := by decide +kernel
theorem d_An_launch_124 : decode b_An_launch 124 = .ok (.iload_n 1, 1) := by decide +kernel
theorem d_An_launch_125 : decode b_An_launch 125 = .ok (.aload_n 0, 1) := by decide +kernel
theorem d_An_launch_126 : decode b_An_launch 126 = .ok (.getfield 36, 3) := by decide +kernel
theorem d_An_launch_129 : decode b_An_launch 129 = .ok (.aload_n 0, 1) := by decide +kernel
theorem d_An_launch_130 : decode b_An_launch 130 = .ok (.getfield 11, 3) := by decide +kernel
theorem d_An_launch_133 : decode b_An_launch 133 = .ok (.aload_n 0, 1) := by decide +kernel
theorem d_An_launch_134 : decode b_An_launch 134 = .ok (.getfield 17, 3) := by decide +kernel
theorem d_An_launch_137 : decode b_An_launch 137 = .ok (.invokevirtual 103, 3) := by decide +kernel
theorem d_An_launch_140 : decode b_An_launch 140 = .ok (.iload 4, 2) := by decide +kernel
theorem d_An_launch_142 : decode b_An_launch 142 = .ok (.ireturn, 1) := by decide +kernel
theorem d_An_step_0 : decode b_An_step 0 = .ok (.iload_n 1, 1) := by decide +kernel
theorem d_An_step_1 : decode b_An_step 1 = .ok (.invokestatic 70, 3) := by decide +kernel
theorem d_An_step_4 : decode b_An_step 4 = .ok (.ifCond .eq (14), 3) := by decide +kernel
theorem d_An_step_7 : decode b_An_step 7 = .ok (.iload_n 2, 1) := by decide +kernel
theorem d_An_step_8 : decode b_An_step 8 = .ok (.iconst (1), 1) := by decide +kernel
theorem d_An_step_9 : decode b_An_step 9 = .ok (.if_icmp .lt (9), 3) := by decide +kernel
theorem d_An_step_12 : decode b_An_step 12 = .ok (.iload_n 2, 1) := by decide +kernel
theorem d_An_step_13 : decode b_An_step 13 = .ok (.bipush (40), 2) := by decide +kernel
theorem d_An_step_15 : decode b_An_step 15 = .ok (.if_icmp .le (11), 3) := by decide +kernel
theorem d_An_step_18 : decode b_An_step 18 = .ok (.new 73, 3) := by decide +kernel
theorem d_An_step_21 : decode b_An_step 21 = .ok (.dup, 1) := by decide +kernel
theorem d_An_step_22 : decode b_An_step 22 = .ok (.invokespecial 75, 3) := by decide +kernel
theorem d_An_step_25 : decode b_An_step 25 = .ok (.athrow, 1) := by decide +kernel
theorem d_An_step_26 : decode b_An_step 26 = .ok (.aload_n 0, 1) := by decide +kernel
theorem d_An_step_27 : decode b_An_step 27 = .ok (.getfield 22, 3) := by decide +kernel
theorem d_An_step_30 : decode b_An_step 30 = .ok (.iload_n 1, 1) := by decide +kernel
theorem d_An_step_31 : decode b_An_step 31 = .ok (.aaload, 1) := by decide +kernel
theorem d_An_step_32 : decode b_An_step 32 = .ok (.getfield 76, 3) := by decide +kernel
theorem d_An_step_35 : decode b_An_step 35 = .ok (.ifCond .ne (11), 3) := by decide +kernel
theorem d_An_step_38 : decode b_An_step 38 = .ok (.new 80, 3) := by decide +kernel
theorem d_An_step_41 : decode b_An_step 41 = .ok (.dup, 1) := by decide +kernel
theorem d_An_step_42 : decode b_An_step 42 = .ok (.invokespecial 82, 3) := by decide +kernel
theorem d_An_step_45 : decode b_An_step 45 = .ok (.athrow, 1) := by decide +kernel
theorem d_An_step_46 : decode b_An_step 46 = .ok (.iconst (0), 1) := by decide +kernel
theorem d_An_step_47 : decode b_An_step 47 = .ok (.istore_n 3, 1) := by decide +kernel
theorem d_An_step_48 : decode b_An_step 48 = .ok (.iconst (0), 1) := by decide +kernel
theorem d_An_step_49 : decode b_An_step 49 = .ok (.istore 4, 2) := by decide +kernel
theorem d_An_step_51 : decode b_An_step 51 = .ok (.iload 4, 2) := by decide +kernel
theorem d_An_step_53 : decode b_An_step 53 = .ok (.iload_n 2, 1) := by decide +kernel
theorem d_An_step_54 : decode b_An_step 54 = .ok (.if_icmp .ge (17), 3) := by decide +kernel
theorem d_An_step_57 : decode b_An_step 57 = .ok (.iload_n 3, 1) := by decide +kernel
theorem d_An_step_58 : decode b_An_step 58 = .ok (.aload_n 0, 1) := by decide +kernel
theorem d_An_step_59 : decode b_An_step 59 = .ok (.iload_n 1, 1) := by decide +kernel
theorem d_An_step_60 : decode b_An_step 60 = .ok (.invokevirtual 107, 3) := by decide +kernel
theorem d_An_step_63 : decode b_An_step 63 = .ok (.iadd, 1) := by decide +kernel
theorem d_An_step_64 : decode b_An_step 64 = .ok (.istore_n 3, 1) := by decide +kernel
theorem d_An_step_65 : decode b_An_step 65 = .ok (.iinc 4 (1), 3) := by decide +kernel
theorem d_An_step_68 : decode b_An_step 68 = .ok (.goto (-17), 3) := by decide +kernel
theorem d_An_step_71 : decode b_An_step 71 = .ok (.iload_n 3, 1) := by decide +kernel
theorem d_An_step_72 : decode b_An_step 72 = .ok (.ireturn, 1) := by decide +kernel
theorem d_An_tick_0 : decode b_An_tick 0 = .ok (.iload_n 1, 1) := by decide +kernel
theorem d_An_tick_1 : decode b_An_tick 1 = .ok (.invokestatic 70, 3) := by decide +kernel
theorem d_An_tick_4 : decode b_An_tick 4 = .ok (.ifCond .ne (11), 3) := by decide +kernel
theorem d_An_tick_7 : decode b_An_tick 7 = .ok (.new 73, 3) := by decide +kernel
theorem d_An_tick_10 : decode b_An_tick 10 = .ok (.dup, 1) := by decide +kernel
theorem d_An_tick_11 : decode b_An_tick 11 = .ok (.invokespecial 75, 3) := by decide +kernel
theorem d_An_tick_14 : decode b_An_tick 14 = .ok (.athrow, 1) := by decide +kernel
theorem d_An_tick_15 : decode b_An_tick 15 = .ok (.aload_n 0, 1) := by decide +kernel
theorem d_An_tick_16 : decode b_An_tick 16 = .ok (.getfield 22, 3) := by decide +kernel
theorem d_An_tick_19 : decode b_An_tick 19 = .ok (.iload_n 1, 1) := by decide +kernel
theorem d_An_tick_20 : decode b_An_tick 20 = .ok (.aaload, 1) := by decide +kernel
theorem d_An_tick_21 : decode b_An_tick 21 = .ok (.getfield 76, 3) := by decide +kernel
theorem d_An_tick_24 : decode b_An_tick 24 = .ok (.ifCond .ne (11), 3) := by decide +kernel
theorem d_An_tick_27 : decode b_An_tick 27 = .ok (.new 80, 3) := by decide +kernel
theorem d_An_tick_30 : decode b_An_tick 30 = .ok (.dup, 1) := by decide +kernel
theorem d_An_tick_31 : decode b_An_tick 31 = .ok (.invokespecial 82, 3) := by decide +kernel
theorem d_An_tick_34 : decode b_An_tick 34 = .ok (.athrow, 1) := by decide +kernel
theorem d_An_tick_35 : decode b_An_tick 35 = .ok (.aload_n 0, 1) := by decide +kernel
theorem d_An_tick_36 : decode b_An_tick 36 = .ok (.getfield 22, 3) := by decide +kernel
theorem d_An_tick_39 : decode b_An_tick 39 = .ok (.iload_n 1, 1) := by decide +kernel
theorem d_An_tick_40 : decode b_An_tick 40 = .ok (.aaload, 1) := by decide +kernel
theorem d_An_tick_41 : decode b_An_tick 41 = .ok (.getfield 83, 3) := by decide +kernel
theorem d_An_tick_44 : decode b_An_tick 44 = .ok (.invokevirtual 111, 3) := by decide +kernel
theorem d_An_tick_47 : decode b_An_tick 47 = .ok (.aload_n 0, 1) := by decide +kernel
theorem d_An_tick_48 : decode b_An_tick 48 = .ok (.getfield 22, 3) := by decide +kernel
theorem d_An_tick_51 : decode b_An_tick 51 = .ok (.iload_n 1, 1) := by decide +kernel
theorem d_An_tick_52 : decode b_An_tick 52 = .ok (.aaload, 1) := by decide +kernel
theorem d_An_tick_53 : decode b_An_tick 53 = .ok (.aload_n 0, 1) := by decide +kernel
theorem d_An_tick_54 : decode b_An_tick 54 = .ok (.getfield 29, 3) := by decide +kernel
theorem d_An_tick_57 : decode b_An_tick 57 = .ok (.invokevirtual 114, 3) := by decide +kernel
theorem d_An_tick_60 : decode b_An_tick 60 = .ok (.aload_n 0, 1) := by decide +kernel
theorem d_An_tick_61 : decode b_An_tick 61 = .ok (.getfield 29, 3) := by decide +kernel
theorem d_An_tick_64 : decode b_An_tick 64 = .ok (.getfield 118, 3) := by decide +kernel
theorem d_An_tick_67 : decode b_An_tick 67 = .ok (.ireturn, 1) := by decide +kernel
theorem d_An_checkpoint_0 : decode b_An_checkpoint 0 = .ok (.iload_n 1, 1) := by decide +kernel
theorem d_An_checkpoint_1 : decode b_An_checkpoint 1 = .ok (.invokestatic 70, 3) := by decide +kernel
theorem d_An_checkpoint_4 : decode b_An_checkpoint 4 = .ok (.ifCond .ne (11), 3) := by decide +kernel
theorem d_An_checkpoint_7 : decode b_An_checkpoint 7 = .ok (.new 73, 3) := by decide +kernel
theorem d_An_checkpoint_10 : decode b_An_checkpoint 10 = .ok (.dup, 1) := by decide +kernel
theorem d_An_checkpoint_11 : decode b_An_checkpoint 11 = .ok (.invokespecial 75, 3) := by decide +kernel
theorem d_An_checkpoint_14 : decode b_An_checkpoint 14 = .ok (.athrow, 1) := by decide +kernel
theorem d_An_checkpoint_15 : decode b_An_checkpoint 15 = .ok (.aload_n 0, 1) := by decide +kernel
theorem d_An_checkpoint_16 : decode b_An_checkpoint 16 = .ok (.getfield 22, 3) := by decide +kernel
theorem d_An_checkpoint_19 : decode b_An_checkpoint 19 = .ok (.iload_n 1, 1) := by decide +kernel
theorem d_An_checkpoint_20 : decode b_An_checkpoint 20 = .ok (.aaload, 1) := by decide +kernel
theorem d_An_checkpoint_21 : decode b_An_checkpoint 21 = .ok (.getfield 76, 3) := by decide +kernel
theorem d_An_checkpoint_24 : decode b_An_checkpoint 24 = .ok (.ifCond .eq (15), 3) := by decide +kernel
theorem d_An_checkpoint_27 : decode b_An_checkpoint 27 = .ok (.aload_n 0, 1) := by decide +kernel
theorem d_An_checkpoint_28 : decode b_An_checkpoint 28 = .ok (.getfield 22, 3) := by decide +kernel
theorem d_An_checkpoint_31 : decode b_An_checkpoint 31 = .ok (.iload_n 1, 1) := by decide +kernel
theorem d_An_checkpoint_32 : decode b_An_checkpoint 32 = .ok (.aaload, 1) := by decide +kernel
theorem d_An_checkpoint_33 : decode b_An_checkpoint 33 = .ok (.getfield 121, 3) := by decide +kernel
theorem d_An_checkpoint_36 : decode b_An_checkpoint 36 = .ok (.ifCond .le (11), 3) := by decide +kernel
theorem d_An_checkpoint_39 : decode b_An_checkpoint 39 = .ok (.new 80, 3) := by decide +kernel
theorem d_An_checkpoint_42 : decode b_An_checkpoint 42 = .ok (.dup, 1) := by decide +kernel
theorem d_An_checkpoint_43 : decode b_An_checkpoint 43 = .ok (.invokespecial 82, 3) := by decide +kernel
theorem d_An_checkpoint_46 : decode b_An_checkpoint 46 = .ok (.athrow, 1) := by decide +kernel
theorem d_An_checkpoint_47 : decode b_An_checkpoint 47 = .ok (.aload_n 0, 1) := by decide +kernel
theorem d_An_checkpoint_48 : decode b_An_checkpoint 48 = .ok (.getfield 22, 3) := by decide +kernel
theorem d_An_checkpoint_51 : decode b_An_checkpoint 51 = .ok (.iload_n 1, 1) := by decide +kernel
theorem d_An_checkpoint_52 : decode b_An_checkpoint 52 = .ok (.aaload, 1) := by decide +kernel
theorem d_An_checkpoint_53 : decode b_An_checkpoint 53 = .ok (.invokevirtual 124, 3) := by decide +kernel
theorem d_An_checkpoint_56 : decode b_An_checkpoint 56 = .ok (.ireturn, 1) := by decide +kernel
theorem d_An_write_0 : decode b_An_write 0 = .ok (.iload_n 1, 1) := by decide +kernel
theorem d_An_write_1 : decode b_An_write 1 = .ok (.invokestatic 70, 3) := by decide +kernel
theorem d_An_write_4 : decode b_An_write 4 = .ok (.ifCond .eq (8), 3) := by decide +kernel
theorem d_An_write_7 : decode b_An_write 7 = .ok (.iload_n 2, 1) := by decide +kernel
theorem d_An_write_8 : decode b_An_write 8 = .ok (.iconst (1), 1) := by decide +kernel
theorem d_An_write_9 : decode b_An_write 9 = .ok (.if_icmp .ge (11), 3) := by decide +kernel
theorem d_An_write_12 : decode b_An_write 12 = .ok (.new 73, 3) := by decide +kernel
theorem d_An_write_15 : decode b_An_write 15 = .ok (.dup, 1) := by decide +kernel
theorem d_An_write_16 : decode b_An_write 16 = .ok (.invokespecial 75, 3) := by decide +kernel
theorem d_An_write_19 : decode b_An_write 19 = .ok (.athrow, 1) := by decide +kernel
theorem d_An_write_20 : decode b_An_write 20 = .ok (.aload_n 0, 1) := by decide +kernel
theorem d_An_write_21 : decode b_An_write 21 = .ok (.getfield 22, 3) := by decide +kernel
theorem d_An_write_24 : decode b_An_write 24 = .ok (.iload_n 1, 1) := by decide +kernel
theorem d_An_write_25 : decode b_An_write 25 = .ok (.aaload, 1) := by decide +kernel
theorem d_An_write_26 : decode b_An_write 26 = .ok (.astore_n 3, 1) := by decide +kernel
theorem d_An_write_27 : decode b_An_write 27 = .ok (.aload_n 3, 1) := by decide +kernel
theorem d_An_write_28 : decode b_An_write 28 = .ok (.getfield 76, 3) := by decide +kernel
theorem d_An_write_31 : decode b_An_write 31 = .ok (.ifCond .eq (10), 3) := by decide +kernel
theorem d_An_write_34 : decode b_An_write 34 = .ok (.aload_n 3, 1) := by decide +kernel
theorem d_An_write_35 : decode b_An_write 35 = .ok (.getfield 121, 3) := by decide +kernel
theorem d_An_write_38 : decode b_An_write 38 = .ok (.ifCond .ne (11), 3) := by decide +kernel
theorem d_An_write_41 : decode b_An_write 41 = .ok (.new 80, 3) := by decide +kernel
theorem d_An_write_44 : decode b_An_write 44 = .ok (.dup, 1) := by decide +kernel
theorem d_An_write_45 : decode b_An_write 45 = .ok (.invokespecial 82, 3) := by decide +kernel
theorem d_An_write_48 : decode b_An_write 48 = .ok (.athrow, 1) := by decide +kernel
theorem d_An_write_49 : decode b_An_write 49 = .ok (.aload_n 3, 1) := by decide +kernel
theorem d_An_write_50 : decode b_An_write 50 = .ok (.dup, 1) := by decide +kernel
theorem d_An_write_51 : decode b_An_write 51 = .ok (.getfield 121, 3) := by decide +kernel
theorem d_An_write_54 : decode b_An_write 54 = .ok (.iload_n 2, 1) := by decide +kernel
theorem d_An_write_55 : decode b_An_write 55 = .ok (.aload_n 3, 1) := by decide +kernel
theorem d_An_write_56 : decode b_An_write 56 = .ok (.getfield 121, 3) := by decide +kernel
theorem d_An_write_59 : decode b_An_write 59 = .ok (.invokestatic 128, 3) := by decide +kernel
theorem d_An_write_62 : decode b_An_write 62 = .ok (.isub, 1) := by decide +kernel
theorem d_An_write_63 : decode b_An_write 63 = .ok (.putfield 121, 3) := by decide +kernel
theorem d_An_write_66 : decode b_An_write 66 = .ok (.aload_n 3, 1) := by decide +kernel
theorem d_An_write_67 : decode b_An_write 67 = .ok (.getfield 121, 3) := by decide +kernel
theorem d_An_write_70 : decode b_An_write 70 = .ok (.ifCond .ne (15), 3) := by decide +kernel
theorem d_An_write_73 : decode b_An_write 73 = .ok (.aload_n 3, 1) := by decide +kernel
theorem d_An_write_74 : decode b_An_write 74 = .ok (.aload_n 0, 1) := by decide +kernel
theorem d_An_write_75 : decode b_An_write 75 = .ok (.getfield 43, 3) := by decide +kernel
theorem d_An_write_78 : decode b_An_write 78 = .ok (.aload_n 0, 1) := by decide +kernel
theorem d_An_write_79 : decode b_An_write 79 = .ok (.getfield 29, 3) := by decide +kernel
theorem d_An_write_82 : decode b_An_write 82 = .ok (.invokevirtual 134, 3) := by decide +kernel
theorem d_An_write_85 : decode b_An_write 85 = .ok (.aload_n 3, 1) := by decide +kernel
theorem d_An_write_86 : decode b_An_write 86 = .ok (.getfield 121, 3) := by decide +kernel
theorem d_An_write_89 : decode b_An_write 89 = .ok (.ireturn, 1) := by decide +kernel
theorem d_An_crash_0 : decode b_An_crash 0 = .ok (.iload_n 1, 1) := by decide +kernel
theorem d_An_crash_1 : decode b_An_crash 1 = .ok (.invokestatic 70, 3) := by decide +kernel
theorem d_An_crash_4 : decode b_An_crash 4 = .ok (.ifCond .ne (11), 3) := by decide +kernel
theorem d_An_crash_7 : decode b_An_crash 7 = .ok (.new 73, 3) := by decide +kernel
theorem d_An_crash_10 : decode b_An_crash 10 = .ok (.dup, 1) := by decide +kernel
theorem d_An_crash_11 : decode b_An_crash 11 = .ok (.invokespecial 75, 3) := by decide +kernel
theorem d_An_crash_14 : decode b_An_crash 14 = .ok (.athrow, 1) := by decide +kernel
theorem d_An_crash_15 : decode b_An_crash 15 = .ok (.aload_n 0, 1) := by decide +kernel
theorem d_An_crash_16 : decode b_An_crash 16 = .ok (.getfield 22, 3) := by decide +kernel
theorem d_An_crash_19 : decode b_An_crash 19 = .ok (.iload_n 1, 1) := by decide +kernel
theorem d_An_crash_20 : decode b_An_crash 20 = .ok (.aaload, 1) := by decide +kernel
theorem d_An_crash_21 : decode b_An_crash 21 = .ok (.getfield 76, 3) := by decide +kernel
theorem d_An_crash_24 : decode b_An_crash 24 = .ok (.ifCond .ne (5), 3) := by decide +kernel
theorem d_An_crash_27 : decode b_An_crash 27 = .ok (.iconst (0), 1) := by decide +kernel
theorem d_An_crash_28 : decode b_An_crash 28 = .ok (.ireturn, 1) := by decide +kernel
theorem d_An_crash_29 : decode b_An_crash 29 = .ok (.aload_n 0, 1) := by decide +kernel
theorem d_An_crash_30 : decode b_An_crash 30 = .ok (.getfield 22, 3) := by decide +kernel
theorem d_An_crash_33 : decode b_An_crash 33 = .ok (.iload_n 1, 1) := by decide +kernel
theorem d_An_crash_34 : decode b_An_crash 34 = .ok (.aaload, 1) := by decide +kernel
theorem d_An_crash_35 : decode b_An_crash 35 = .ok (.invokevirtual 138, 3) := by decide +kernel
theorem d_An_crash_38 : decode b_An_crash 38 = .ok (.iconst (1), 1) := by decide +kernel
theorem d_An_crash_39 : decode b_An_crash 39 = .ok (.ireturn, 1) := by decide +kernel
theorem d_An_start_0 : decode b_An_start 0 = .ok (.iload_n 1, 1) := by decide +kernel
theorem d_An_start_1 : decode b_An_start 1 = .ok (.invokestatic 70, 3) := by decide +kernel
theorem d_An_start_4 : decode b_An_start 4 = .ok (.ifCond .ne (11), 3) := by decide +kernel
theorem d_An_start_7 : decode b_An_start 7 = .ok (.new 73, 3) := by decide +kernel
theorem d_An_start_10 : decode b_An_start 10 = .ok (.dup, 1) := by decide +kernel
theorem d_An_start_11 : decode b_An_start 11 = .ok (.invokespecial 75, 3) := by decide +kernel
theorem d_An_start_14 : decode b_An_start 14 = .ok (.athrow, 1) := by decide +kernel
theorem d_An_start_15 : decode b_An_start 15 = .ok (.aload_n 0, 1) := by decide +kernel
theorem d_An_start_16 : decode b_An_start 16 = .ok (.getfield 22, 3) := by decide +kernel
theorem d_An_start_19 : decode b_An_start 19 = .ok (.iload_n 1, 1) := by decide +kernel
theorem d_An_start_20 : decode b_An_start 20 = .ok (.aaload, 1) := by decide +kernel
theorem d_An_start_21 : decode b_An_start 21 = .ok (.getfield 76, 3) := by decide +kernel
theorem d_An_start_24 : decode b_An_start 24 = .ok (.ifCond .eq (5), 3) := by decide +kernel
theorem d_An_start_27 : decode b_An_start 27 = .ok (.iconst (0), 1) := by decide +kernel
theorem d_An_start_28 : decode b_An_start 28 = .ok (.ireturn, 1) := by decide +kernel
theorem d_An_start_29 : decode b_An_start 29 = .ok (.aload_n 0, 1) := by decide +kernel
theorem d_An_start_30 : decode b_An_start 30 = .ok (.getfield 22, 3) := by decide +kernel
theorem d_An_start_33 : decode b_An_start 33 = .ok (.iload_n 1, 1) := by decide +kernel
theorem d_An_start_34 : decode b_An_start 34 = .ok (.aaload, 1) := by decide +kernel
theorem d_An_start_35 : decode b_An_start 35 = .ok (.invokevirtual 141, 3) := by decide +kernel
theorem d_An_start_38 : decode b_An_start 38 = .ok (.iconst (1), 1) := by decide +kernel
theorem d_An_start_39 : decode b_An_start 39 = .ok (.ireturn, 1) := by decide +kernel
theorem d_An_net_0 : decode b_An_net 0 = .ok (.iload_n 2, 1) := by decide +kernel
theorem d_An_net_1 : decode b_An_net 1 = .ok (.ifCond .eq (21), 3) := by decide +kernel
theorem d_An_net_4 : decode b_An_net 4 = .ok (.iload_n 2, 1) := by decide +kernel
theorem d_An_net_5 : decode b_An_net 5 = .ok (.iconst (1), 1) := by decide +kernel
theorem d_An_net_6 : decode b_An_net 6 = .ok (.if_icmp .eq (16), 3) := by decide +kernel
theorem d_An_net_9 : decode b_An_net 9 = .ok (.iload_n 2, 1) := by decide +kernel
theorem d_An_net_10 : decode b_An_net 10 = .ok (.iconst (2), 1) := by decide +kernel
theorem d_An_net_11 : decode b_An_net 11 = .ok (.if_icmp .eq (11), 3) := by decide +kernel
theorem d_An_net_14 : decode b_An_net 14 = .ok (.new 73, 3) := by decide +kernel
theorem d_An_net_17 : decode b_An_net 17 = .ok (.dup, 1) := by decide +kernel
theorem d_An_net_18 : decode b_An_net 18 = .ok (.invokespecial 75, 3) := by decide +kernel
theorem d_An_net_21 : decode b_An_net 21 = .ok (.athrow, 1) := by decide +kernel
theorem d_An_net_22 : decode b_An_net 22 = .ok (.aload_n 0, 1) := by decide +kernel
theorem d_An_net_23 : decode b_An_net 23 = .ok (.getfield 29, 3) := by decide +kernel
theorem d_An_net_26 : decode b_An_net 26 = .ok (.iload_n 1, 1) := by decide +kernel
theorem d_An_net_27 : decode b_An_net 27 = .ok (.invokevirtual 144, 3) := by decide +kernel
theorem d_An_net_30 : decode b_An_net 30 = .ok (.ifCond .ne (11), 3) := by decide +kernel
theorem d_An_net_33 : decode b_An_net 33 = .ok (.new 147, 3) := by decide +kernel
theorem d_An_net_36 : decode b_An_net 36 = .ok (.dup, 1) := by decide +kernel
theorem d_An_net_37 : decode b_An_net 37 = .ok (.invokespecial 149, 3) := by decide +kernel
theorem d_An_net_40 : decode b_An_net 40 = .ok (.athrow, 1) := by decide +kernel
theorem d_An_net_41 : decode b_An_net 41 = .ok (.iload_n 2, 1) := by decide +kernel
theorem d_An_net_42 : decode b_An_net 42 = .ok (.iconst (2), 1) := by decide +kernel
theorem d_An_net_43 : decode b_An_net 43 = .ok (.if_icmp .ne (21), 3) := by decide +kernel
theorem d_An_net_46 : decode b_An_net 46 = .ok (.aload_n 0, 1) := by decide +kernel
theorem d_An_net_47 : decode b_An_net 47 = .ok (.getfield 29, 3) := by decide +kernel
theorem d_An_net_50 : decode b_An_net 50 = .ok (.invokevirtual 150, 3) := by decide +kernel
theorem d_An_net_53 : decode b_An_net 53 = .ok (.ifCond .eq (11), 3) := by decide +kernel
theorem d_An_net_56 : decode b_An_net 56 = .ok (.new 80, 3) := by decide +kernel
theorem d_An_net_59 : decode b_An_net 59 = .ok (.dup, 1) := by decide +kernel
theorem d_An_net_60 : decode b_An_net 60 = .ok (.invokespecial 82, 3) := by decide +kernel
theorem d_An_net_63 : decode b_An_net 63 = .ok (.athrow, 1) := by decide +kernel
theorem d_An_net_64 : decode b_An_net 64 = .ok (.iload_n 2, 1) := by decide +kernel
theorem d_An_net_65 : decode b_An_net 65 = .ok (.iconst (2), 1) := by decide +kernel
theorem d_An_net_66 : decode b_An_net 66 = .ok (.if_icmp .ne (14), 3) := by decide +kernel
theorem d_An_net_69 : decode b_An_net 69 = .ok (.aload_n 0, 1) := by decide +kernel
theorem d_An_net_70 : decode b_An_net 70 = .ok (.getfield 29, 3) := by decide +kernel
theorem d_An_net_73 : decode b_An_net 73 = .ok (.iload_n 1, 1) := by decide +kernel
theorem d_An_net_74 : decode b_An_net 74 = .ok (.invokevirtual 154, 3) := by decide +kernel
theorem d_An_net_77 : decode b_An_net 77 = .ok (.goto (33), 3) := by decide +kernel
theorem d_An_net_80 : decode b_An_net 80 = .ok (.aload_n 0, 1) := by decide +kernel
theorem d_An_net_81 : decode b_An_net 81 = .ok (.getfield 29, 3) := by decide +kernel
theorem d_An_net_84 : decode b_An_net 84 = .ok (.iload_n 1, 1) := by decide +kernel
theorem d_An_net_85 : decode b_An_net 85 = .ok (.invokevirtual 157, 3) := by decide +kernel
theorem d_An_net_88 : decode b_An_net 88 = .ok (.astore_n 3, 1) := by decide +kernel
theorem d_An_net_89 : decode b_An_net 89 = .ok (.iload_n 2, 1) := by decide +kernel
theorem d_An_net_90 : decode b_An_net 90 = .ok (.ifCond .ne (20), 3) := by decide +kernel
theorem d_An_net_93 : decode b_An_net 93 = .ok (.aload_n 0, 1) := by decide +kernel
theorem d_An_net_94 : decode b_An_net 94 = .ok (.getfield 22, 3) := by decide +kernel
theorem d_An_net_97 : decode b_An_net 97 = .ok (.aload_n 3, 1) := by decide +kernel
theorem d_An_net_98 : decode b_An_net 98 = .ok (.getfield 161, 3) := by decide +kernel
theorem d_An_net_101 : decode b_An_net 101 = .ok (.aaload, 1) := by decide +kernel
theorem d_An_net_102 : decode b_An_net 102 = .ok (.aload_n 3, 1) := by decide +kernel
theorem d_An_net_103 : decode b_An_net 103 = .ok (.aload_n 0, 1) := by decide +kernel
theorem d_An_net_104 : decode b_An_net 104 = .ok (.getfield 29, 3) := by decide +kernel
theorem d_An_net_107 : decode b_An_net 107 = .ok (.invokevirtual 166, 3) := by decide +kernel
theorem d_An_net_110 : decode b_An_net 110 = .ok (.aload_n 0, 1) := by decide +kernel
theorem d_An_net_111 : decode b_An_net 111 = .ok (.getfield 29, 3) := by decide +kernel
theorem d_An_net_114 : decode b_An_net 114 = .ok (.getfield 118, 3) := by decide +kernel
theorem d_An_net_117 : decode b_An_net 117 = .ok (.ireturn, 1) := by decide +kernel
theorem d_An_message_0 : decode b_An_message 0 = .ok (.aload_n 0, 1) := by decide +kernel
theorem d_An_message_1 : decode b_An_message 1 = .ok (.getfield 29, 3) := by decide +kernel
theorem d_An_message_4 : decode b_An_message 4 = .ok (.iload_n 1, 1) := by decide +kernel
theorem d_An_message_5 : decode b_An_message 5 = .ok (.invokevirtual 144, 3) := by decide +kernel
theorem d_An_message_8 : decode b_An_message 8 = .ok (.ifCond .eq (19), 3) := by decide +kernel
theorem d_An_message_11 : decode b_An_message 11 = .ok (.aload_n 0, 1) := by decide +kernel
theorem d_An_message_12 : decode b_An_message 12 = .ok (.getfield 29, 3) := by decide +kernel
theorem d_An_message_15 : decode b_An_message 15 = .ok (.getfield 170, 3) := by decide +kernel
theorem d_An_message_18 : decode b_An_message 18 = .ok (.iload_n 1, 1) := by decide +kernel
theorem d_An_message_19 : decode b_An_message 19 = .ok (.aaload, 1) := by decide +kernel
theorem d_An_message_20 : decode b_An_message 20 = .ok (.iload_n 2, 1) := by decide +kernel
theorem d_An_message_21 : decode b_An_message 21 = .ok (.invokevirtual 174, 3) := by decide +kernel
theorem d_An_message_24 : decode b_An_message 24 = .ok (.goto (4), 3) := by decide +kernel
theorem d_An_message_27 : decode b_An_message 27 = .ok (.iconst (-1), 1) := by decide +kernel
theorem d_An_message_28 : decode b_An_message 28 = .ok (.ireturn, 1) := by decide +kernel
theorem d_An_slot_0 : decode b_An_slot 0 = .ok (.iload_n 1, 1) := by decide +kernel
theorem d_An_slot_1 : decode b_An_slot 1 = .ok (.invokestatic 70, 3) := by decide +kernel
theorem d_An_slot_4 : decode b_An_slot 4 = .ok (.ifCond .eq (22), 3) := by decide +kernel
theorem d_An_slot_7 : decode b_An_slot 7 = .ok (.iload_n 2, 1) := by decide +kernel
theorem d_An_slot_8 : decode b_An_slot 8 = .ok (.invokestatic 177, 3) := by decide +kernel
theorem d_An_slot_11 : decode b_An_slot 11 = .ok (.ifCond .eq (15), 3) := by decide +kernel
theorem d_An_slot_14 : decode b_An_slot 14 = .ok (.aload_n 0, 1) := by decide +kernel
theorem d_An_slot_15 : decode b_An_slot 15 = .ok (.getfield 22, 3) := by decide +kernel
theorem d_An_slot_18 : decode b_An_slot 18 = .ok (.iload_n 1, 1) := by decide +kernel
theorem d_An_slot_19 : decode b_An_slot 19 = .ok (.aaload, 1) := by decide +kernel
theorem d_An_slot_20 : decode b_An_slot 20 = .ok (.getfield 76, 3) := by decide +kernel
theorem d_An_slot_23 : decode b_An_slot 23 = .ok (.ifCond .ne (5), 3) := by decide +kernel
theorem d_An_slot_26 : decode b_An_slot 26 = .ok (.iconst (-1), 1) := by decide +kernel
theorem d_An_slot_27 : decode b_An_slot 27 = .ok (.ireturn, 1) := by decide +kernel
theorem d_An_slot_28 : decode b_An_slot 28 = .ok (.aload_n 0, 1) := by decide +kernel
theorem d_An_slot_29 : decode b_An_slot 29 = .ok (.getfield 22, 3) := by decide +kernel
theorem d_An_slot_32 : decode b_An_slot 32 = .ok (.iload_n 1, 1) := by decide +kernel
theorem d_An_slot_33 : decode b_An_slot 33 = .ok (.aaload, 1) := by decide +kernel
theorem d_An_slot_34 : decode b_An_slot 34 = .ok (.getfield 83, 3) := by decide +kernel
theorem d_An_slot_37 : decode b_An_slot 37 = .ok (.getfield 180, 3) := by decide +kernel
theorem d_An_slot_40 : decode b_An_slot 40 = .ok (.iload_n 2, 1) := by decide +kernel
theorem d_An_slot_41 : decode b_An_slot 41 = .ok (.iaload, 1) := by decide +kernel
theorem d_An_slot_42 : decode b_An_slot 42 = .ok (.ireturn, 1) := by decide +kernel
theorem d_An_agent_0 : decode b_An_agent 0 = .ok (.iload_n 1, 1) := by decide +kernel
theorem d_An_agent_1 : decode b_An_agent 1 = .ok (.invokestatic 70, 3) := by decide +kernel
theorem d_An_agent_4 : decode b_An_agent 4 = .ok (.ifCond .eq (39), 3) := by decide +kernel
theorem d_An_agent_7 : decode b_An_agent 7 = .ok (.iload_n 2, 1) := by decide +kernel
theorem d_An_agent_8 : decode b_An_agent 8 = .ok (.invokestatic 177, 3) := by decide +kernel
theorem d_An_agent_11 : decode b_An_agent 11 = .ok (.ifCond .eq (32), 3) := by decide +kernel
theorem d_An_agent_14 : decode b_An_agent 14 = .ok (.aload_n 0, 1) := by decide +kernel
theorem d_An_agent_15 : decode b_An_agent 15 = .ok (.getfield 22, 3) := by decide +kernel
theorem d_An_agent_18 : decode b_An_agent 18 = .ok (.iload_n 1, 1) := by decide +kernel
theorem d_An_agent_19 : decode b_An_agent 19 = .ok (.aaload, 1) := by decide +kernel
theorem d_An_agent_20 : decode b_An_agent 20 = .ok (.getfield 76, 3) := by decide +kernel
theorem d_An_agent_23 : decode b_An_agent 23 = .ok (.ifCond .eq (20), 3) := by decide +kernel
theorem d_An_agent_26 : decode b_An_agent 26 = .ok (.aload_n 0, 1) := by decide +kernel
theorem d_An_agent_27 : decode b_An_agent 27 = .ok (.getfield 22, 3) := by decide +kernel
theorem d_An_agent_30 : decode b_An_agent 30 = .ok (.iload_n 1, 1) := by decide +kernel
theorem d_An_agent_31 : decode b_An_agent 31 = .ok (.aaload, 1) := by decide +kernel
theorem d_An_agent_32 : decode b_An_agent 32 = .ok (.getfield 83, 3) := by decide +kernel
theorem d_An_agent_35 : decode b_An_agent 35 = .ok (.getfield 180, 3) := by decide +kernel
theorem d_An_agent_38 : decode b_An_agent 38 = .ok (.iload_n 2, 1) := by decide +kernel
theorem d_An_agent_39 : decode b_An_agent 39 = .ok (.iaload, 1) := by decide +kernel
theorem d_An_agent_40 : decode b_An_agent 40 = .ok (.ifCond .ne (5), 3) := by decide +kernel
theorem d_An_agent_43 : decode b_An_agent 43 = .ok (.iconst (-1), 1) := by decide +kernel
theorem d_An_agent_44 : decode b_An_agent 44 = .ok (.ireturn, 1) := by decide +kernel
theorem d_An_agent_45 : decode b_An_agent 45 = .ok (.aload_n 0, 1) := by decide +kernel
theorem d_An_agent_46 : decode b_An_agent 46 = .ok (.getfield 22, 3) := by decide +kernel
theorem d_An_agent_49 : decode b_An_agent 49 = .ok (.iload_n 1, 1) := by decide +kernel
theorem d_An_agent_50 : decode b_An_agent 50 = .ok (.aaload, 1) := by decide +kernel
theorem d_An_agent_51 : decode b_An_agent 51 = .ok (.getfield 83, 3) := by decide +kernel
theorem d_An_agent_54 : decode b_An_agent 54 = .ok (.getfield 87, 3) := by decide +kernel
theorem d_An_agent_57 : decode b_An_agent 57 = .ok (.iload_n 2, 1) := by decide +kernel
theorem d_An_agent_58 : decode b_An_agent 58 = .ok (.aaload, 1) := by decide +kernel
theorem d_An_agent_59 : decode b_An_agent 59 = .ok (.iload_n 3, 1) := by decide +kernel
theorem d_An_agent_60 : decode b_An_agent 60 = .ok (.invokevirtual 184, 3) := by decide +kernel
theorem d_An_agent_63 : decode b_An_agent 63 = .ok (.ireturn, 1) := by decide +kernel
theorem d_An_host_0 : decode b_An_host 0 = .ok (.iload_n 1, 1) := by decide +kernel
theorem d_An_host_1 : decode b_An_host 1 = .ok (.invokestatic 70, 3) := by decide +kernel
theorem d_An_host_4 : decode b_An_host 4 = .ok (.ifCond .eq (16), 3) := by decide +kernel
theorem d_An_host_7 : decode b_An_host 7 = .ok (.aload_n 0, 1) := by decide +kernel
theorem d_An_host_8 : decode b_An_host 8 = .ok (.getfield 22, 3) := by decide +kernel
theorem d_An_host_11 : decode b_An_host 11 = .ok (.iload_n 1, 1) := by decide +kernel
theorem d_An_host_12 : decode b_An_host 12 = .ok (.aaload, 1) := by decide +kernel
theorem d_An_host_13 : decode b_An_host 13 = .ok (.iload_n 2, 1) := by decide +kernel
theorem d_An_host_14 : decode b_An_host 14 = .ok (.invokevirtual 185, 3) := by decide +kernel
theorem d_An_host_17 : decode b_An_host 17 = .ok (.goto (4), 3) := by decide +kernel
theorem d_An_host_20 : decode b_An_host 20 = .ok (.iconst (-1), 1) := by decide +kernel
theorem d_An_host_21 : decode b_An_host 21 = .ok (.ireturn, 1) := by decide +kernel
theorem d_An_sealed_0 : decode b_An_sealed 0 = .ok (.iload_n 1, 1) := by decide +kernel
theorem d_An_sealed_1 : decode b_An_sealed 1 = .ok (.invokestatic 177, 3) := by decide +kernel
theorem d_An_sealed_4 : decode b_An_sealed 4 = .ok (.ifCond .ne (5), 3) := by decide +kernel
theorem d_An_sealed_7 : decode b_An_sealed 7 = .ok (.iconst (-1), 1) := by decide +kernel
theorem d_An_sealed_8 : decode b_An_sealed 8 = .ok (.ireturn, 1) := by decide +kernel
theorem d_An_sealed_9 : decode b_An_sealed 9 = .ok (.iconst (-1), 1) := by decide +kernel
theorem d_An_sealed_10 : decode b_An_sealed 10 = .ok (.istore_n 2, 1) := by decide +kernel
theorem d_An_sealed_11 : decode b_An_sealed 11 = .ok (.iconst (0), 1) := by decide +kernel
theorem d_An_sealed_12 : decode b_An_sealed 12 = .ok (.istore_n 3, 1) := by decide +kernel
theorem d_An_sealed_13 : decode b_An_sealed 13 = .ok (.iload_n 3, 1) := by decide +kernel
theorem d_An_sealed_14 : decode b_An_sealed 14 = .ok (.iconst (4), 1) := by decide +kernel
theorem d_An_sealed_15 : decode b_An_sealed 15 = .ok (.if_icmp .ge (27), 3) := by decide +kernel
theorem d_An_sealed_18 : decode b_An_sealed 18 = .ok (.iload_n 2, 1) := by decide +kernel
theorem d_An_sealed_19 : decode b_An_sealed 19 = .ok (.aload_n 0, 1) := by decide +kernel
theorem d_An_sealed_20 : decode b_An_sealed 20 = .ok (.getfield 22, 3) := by decide +kernel
theorem d_An_sealed_23 : decode b_An_sealed 23 = .ok (.iload_n 3, 1) := by decide +kernel
theorem d_An_sealed_24 : decode b_An_sealed 24 = .ok (.aaload, 1) := by decide +kernel
theorem d_An_sealed_25 : decode b_An_sealed 25 = .ok (.getfield 186, 3) := by decide +kernel
theorem d_An_sealed_28 : decode b_An_sealed 28 = .ok (.iload_n 1, 1) := by decide +kernel
theorem d_An_sealed_29 : decode b_An_sealed 29 = .ok (.invokevirtual 189, 3) := by decide +kernel
theorem d_An_sealed_32 : decode b_An_sealed 32 = .ok (.invokestatic 192, 3) := by decide +kernel
theorem d_An_sealed_35 : decode b_An_sealed 35 = .ok (.istore_n 2, 1) := by decide +kernel
theorem d_An_sealed_36 : decode b_An_sealed 36 = .ok (.iinc 3 (1), 3) := by decide +kernel
theorem d_An_sealed_39 : decode b_An_sealed 39 = .ok (.goto (-26), 3) := by decide +kernel
theorem d_An_sealed_42 : decode b_An_sealed 42 = .ok (.iload_n 2, 1) := by decide +kernel
theorem d_An_sealed_43 : decode b_An_sealed 43 = .ok (.iconst (-1), 1) := by decide +kernel
theorem d_An_sealed_44 : decode b_An_sealed 44 = .ok (.if_icmp .ne (5), 3) := by decide +kernel
theorem d_An_sealed_47 : decode b_An_sealed 47 = .ok (.iconst (-1), 1) := by decide +kernel
theorem d_An_sealed_48 : decode b_An_sealed 48 = .ok (.ireturn, 1) := by decide +kernel
theorem d_An_sealed_49 : decode b_An_sealed 49 = .ok (.iconst (0), 1) := by decide +kernel
theorem d_An_sealed_50 : decode b_An_sealed 50 = .ok (.istore_n 3, 1) := by decide +kernel
theorem d_An_sealed_51 : decode b_An_sealed 51 = .ok (.iconst (0), 1) := by decide +kernel
theorem d_An_sealed_52 : decode b_An_sealed 52 = .ok (.istore 4, 2) := by decide +kernel
theorem d_An_sealed_54 : decode b_An_sealed 54 = .ok (.iconst (0), 1) := by decide +kernel
theorem d_An_sealed_55 : decode b_An_sealed 55 = .ok (.istore 5, 2) := by decide +kernel
theorem d_An_sealed_57 : decode b_An_sealed 57 = .ok (.iload 5, 2) := by decide +kernel
theorem d_An_sealed_59 : decode b_An_sealed 59 = .ok (.iconst (4), 1) := by decide +kernel
theorem d_An_sealed_60 : decode b_An_sealed 60 = .ok (.if_icmp .ge (71), 3) := by decide +kernel
theorem d_An_sealed_63 : decode b_An_sealed 63 = .ok (.aload_n 0, 1) := by decide +kernel
theorem d_An_sealed_64 : decode b_An_sealed 64 = .ok (.getfield 22, 3) := by decide +kernel
theorem d_An_sealed_67 : decode b_An_sealed 67 = .ok (.iload 5, 2) := by decide +kernel
theorem d_An_sealed_69 : decode b_An_sealed 69 = .ok (.aaload, 1) := by decide +kernel
theorem d_An_sealed_70 : decode b_An_sealed 70 = .ok (.getfield 186, 3) := by decide +kernel
theorem d_An_sealed_73 : decode b_An_sealed 73 = .ok (.astore 6, 2) := by decide +kernel
theorem d_An_sealed_75 : decode b_An_sealed 75 = .ok (.aload 6, 2) := by decide +kernel
theorem d_An_sealed_77 : decode b_An_sealed 77 = .ok (.iload_n 1, 1) := by decide +kernel
theorem d_An_sealed_78 : decode b_An_sealed 78 = .ok (.invokevirtual 189, 3) := by decide +kernel
theorem d_An_sealed_81 : decode b_An_sealed 81 = .ok (.iload_n 2, 1) := by decide +kernel
theorem d_An_sealed_82 : decode b_An_sealed 82 = .ok (.if_icmp .ne (43), 3) := by decide +kernel
theorem d_An_sealed_85 : decode b_An_sealed 85 = .ok (.iload_n 3, 1) := by decide +kernel
theorem d_An_sealed_86 : decode b_An_sealed 86 = .ok (.aload 6, 2) := by decide +kernel
theorem d_An_sealed_88 : decode b_An_sealed 88 = .ok (.getfield 180, 3) := by decide +kernel
theorem d_An_sealed_91 : decode b_An_sealed 91 = .ok (.iload_n 1, 1) := by decide +kernel
theorem d_An_sealed_92 : decode b_An_sealed 92 = .ok (.iaload, 1) := by decide +kernel
theorem d_An_sealed_93 : decode b_An_sealed 93 = .ok (.iconst (2), 1) := by decide +kernel
theorem d_An_sealed_94 : decode b_An_sealed 94 = .ok (.if_icmp .ne (7), 3) := by decide +kernel
theorem d_An_sealed_97 : decode b_An_sealed 97 = .ok (.iconst (1), 1) := by decide +kernel
theorem d_An_sealed_98 : decode b_An_sealed 98 = .ok (.goto (4), 3) := by decide +kernel
theorem d_An_sealed_101 : decode b_An_sealed 101 = .ok (.iconst (0), 1) := by decide +kernel
theorem d_An_sealed_102 : decode b_An_sealed 102 = .ok (.iadd, 1) := by decide +kernel
theorem d_An_sealed_103 : decode b_An_sealed 103 = .ok (.istore_n 3, 1) := by decide +kernel
theorem d_An_sealed_104 : decode b_An_sealed 104 = .ok (.iload 4, 2) := by decide +kernel
theorem d_An_sealed_106 : decode b_An_sealed 106 = .ok (.aload 6, 2) := by decide +kernel
theorem d_An_sealed_108 : decode b_An_sealed 108 = .ok (.getfield 180, 3) := by decide +kernel
theorem d_An_sealed_111 : decode b_An_sealed 111 = .ok (.iload_n 1, 1) := by decide +kernel
theorem d_An_sealed_112 : decode b_An_sealed 112 = .ok (.iaload, 1) := by decide +kernel
theorem d_An_sealed_113 : decode b_An_sealed 113 = .ok (.iconst (2), 1) := by decide +kernel
theorem d_An_sealed_114 : decode b_An_sealed 114 = .ok (.if_icmp .ne (7), 3) := by decide +kernel
theorem d_An_sealed_117 : decode b_An_sealed 117 = .ok (.iconst (0), 1) := by decide +kernel
theorem d_An_sealed_118 : decode b_An_sealed 118 = .ok (.goto (4), 3) := by decide +kernel
theorem d_An_sealed_121 : decode b_An_sealed 121 = .ok (.iconst (1), 1) := by decide +kernel
theorem d_An_sealed_122 : decode b_An_sealed 122 = .ok (.iadd, 1) := by decide +kernel
theorem d_An_sealed_123 : decode b_An_sealed 123 = .ok (.istore 4, 2) := by decide +kernel
theorem d_An_sealed_125 : decode b_An_sealed 125 = .ok (.iinc 5 (1), 3) := by decide +kernel
theorem d_An_sealed_128 : decode b_An_sealed 128 = .ok (.goto (-71), 3) := by decide +kernel
theorem d_An_sealed_131 : decode b_An_sealed 131 = .ok (.bipush (100), 2) := by decide +kernel
theorem d_An_sealed_133 : decode b_An_sealed 133 = .ok (.iload_n 2, 1) := by decide +kernel
theorem d_An_sealed_134 : decode b_An_sealed 134 = .ok (.imul, 1) := by decide +kernel
theorem d_An_sealed_135 : decode b_An_sealed 135 = .ok (.iload 4, 2) := by decide +kernel
theorem d_An_sealed_137 : decode b_An_sealed 137 = .ok (.ifCond .le (8), 3) := by decide +kernel
theorem d_An_sealed_140 : decode b_An_sealed 140 = .ok (.iload 4, 2) := by decide +kernel
theorem d_An_sealed_142 : decode b_An_sealed 142 = .ok (.goto (4), 3) := by decide +kernel
theorem d_An_sealed_145 : decode b_An_sealed 145 = .ok (.iload_n 3, 1) := by decide +kernel
theorem d_An_sealed_146 : decode b_An_sealed 146 = .ok (.iadd, 1) := by decide +kernel
theorem d_An_sealed_147 : decode b_An_sealed 147 = .ok (.ireturn, 1) := by decide +kernel
theorem d_An_outputs_0 : decode b_An_outputs 0 = .ok (.iload_n 1, 1) := by decide +kernel
theorem d_An_outputs_1 : decode b_An_outputs 1 = .ok (.invokestatic 177, 3) := by decide +kernel
theorem d_An_outputs_4 : decode b_An_outputs 4 = .ok (.ifCond .eq (14), 3) := by decide +kernel
theorem d_An_outputs_7 : decode b_An_outputs 7 = .ok (.aload_n 0, 1) := by decide +kernel
theorem d_An_outputs_8 : decode b_An_outputs 8 = .ok (.getfield 43, 3) := by decide +kernel
theorem d_An_outputs_11 : decode b_An_outputs 11 = .ok (.iload_n 1, 1) := by decide +kernel
theorem d_An_outputs_12 : decode b_An_outputs 12 = .ok (.invokevirtual 195, 3) := by decide +kernel
theorem d_An_outputs_15 : decode b_An_outputs 15 = .ok (.goto (4), 3) := by decide +kernel
theorem d_An_outputs_18 : decode b_An_outputs 18 = .ok (.iconst (-1), 1) := by decide +kernel
theorem d_An_outputs_19 : decode b_An_outputs 19 = .ok (.ireturn, 1) := by decide +kernel
theorem d_An_output_0 : decode b_An_output 0 = .ok (.aload_n 0, 1) := by decide +kernel
theorem d_An_output_1 : decode b_An_output 1 = .ok (.getfield 43, 3) := by decide +kernel
theorem d_An_output_4 : decode b_An_output 4 = .ok (.iload_n 1, 1) := by decide +kernel
theorem d_An_output_5 : decode b_An_output 5 = .ok (.iload_n 2, 1) := by decide +kernel
theorem d_An_output_6 : decode b_An_output 6 = .ok (.invokevirtual 197, 3) := by decide +kernel
theorem d_An_output_9 : decode b_An_output 9 = .ok (.lreturn, 1) := by decide +kernel
theorem d_An_expected_0 : decode b_An_expected 0 = .ok (.iload_n 1, 1) := by decide +kernel
theorem d_An_expected_1 : decode b_An_expected 1 = .ok (.invokestatic 177, 3) := by decide +kernel
theorem d_An_expected_4 : decode b_An_expected 4 = .ok (.ifCond .eq (29), 3) := by decide +kernel
theorem d_An_expected_7 : decode b_An_expected 7 = .ok (.aload_n 0, 1) := by decide +kernel
theorem d_An_expected_8 : decode b_An_expected 8 = .ok (.getfield 50, 3) := by decide +kernel
theorem d_An_expected_11 : decode b_An_expected 11 = .ok (.getfield 201, 3) := by decide +kernel
theorem d_An_expected_14 : decode b_An_expected 14 = .ok (.iload_n 1, 1) := by decide +kernel
theorem d_An_expected_15 : decode b_An_expected 15 = .ok (.baload, 1) := by decide +kernel
theorem d_An_expected_16 : decode b_An_expected 16 = .ok (.ifCond .eq (17), 3) := by decide +kernel
theorem d_An_expected_19 : decode b_An_expected 19 = .ok (.aload_n 0, 1) := by decide +kernel
theorem d_An_expected_20 : decode b_An_expected 20 = .ok (.getfield 50, 3) := by decide +kernel
theorem d_An_expected_23 : decode b_An_expected 23 = .ok (.getfield 205, 3) := by decide +kernel
theorem d_An_expected_26 : decode b_An_expected 26 = .ok (.iload_n 1, 1) := by decide +kernel
theorem d_An_expected_27 : decode b_An_expected 27 = .ok (.invokevirtual 195, 3) := by decide +kernel
theorem d_An_expected_30 : decode b_An_expected 30 = .ok (.goto (4), 3) := by decide +kernel
theorem d_An_expected_33 : decode b_An_expected 33 = .ok (.iconst (-1), 1) := by decide +kernel
theorem d_An_expected_34 : decode b_An_expected 34 = .ok (.ireturn, 1) := by decide +kernel
theorem d_An_expectedOutput_0 : decode b_An_expectedOutput 0 = .ok (.aload_n 0, 1) := by decide +kernel
theorem d_An_expectedOutput_1 : decode b_An_expectedOutput 1 = .ok (.getfield 50, 3) := by decide +kernel
theorem d_An_expectedOutput_4 : decode b_An_expectedOutput 4 = .ok (.getfield 205, 3) := by decide +kernel
theorem d_An_expectedOutput_7 : decode b_An_expectedOutput 7 = .ok (.iload_n 1, 1) := by decide +kernel
theorem d_An_expectedOutput_8 : decode b_An_expectedOutput 8 = .ok (.iload_n 2, 1) := by decide +kernel
theorem d_An_expectedOutput_9 : decode b_An_expectedOutput 9 = .ok (.invokevirtual 197, 3) := by decide +kernel
theorem d_An_expectedOutput_12 : decode b_An_expectedOutput 12 = .ok (.lreturn, 1) := by decide +kernel
theorem d_An_round_0 : decode b_An_round 0 = .ok (.aload_n 0, 1) := by decide +kernel
theorem d_An_round_1 : decode b_An_round 1 = .ok (.getfield 22, 3) := by decide +kernel
theorem d_An_round_4 : decode b_An_round 4 = .ok (.iload_n 1, 1) := by decide +kernel
theorem d_An_round_5 : decode b_An_round 5 = .ok (.aaload, 1) := by decide +kernel
theorem d_An_round_6 : decode b_An_round 6 = .ok (.getfield 83, 3) := by decide +kernel
theorem d_An_round_9 : decode b_An_round 9 = .ok (.astore_n 2, 1) := by decide +kernel
theorem d_An_round_10 : decode b_An_round 10 = .ok (.aload_n 2, 1) := by decide +kernel
theorem d_An_round_11 : decode b_An_round 11 = .ok (.invokevirtual 208, 3) := by decide +kernel
theorem d_An_round_14 : decode b_An_round 14 = .ok (.istore_n 3, 1) := by decide +kernel
theorem d_An_round_15 : decode b_An_round 15 = .ok (.iconst (0), 1) := by decide +kernel
theorem d_An_round_16 : decode b_An_round 16 = .ok (.istore 4, 2) := by decide +kernel
theorem d_An_round_18 : decode b_An_round 18 = .ok (.iconst (0), 1) := by decide +kernel
theorem d_An_round_19 : decode b_An_round 19 = .ok (.istore 5, 2) := by decide +kernel
theorem d_An_round_21 : decode b_An_round 21 = .ok (.iload 5, 2) := by decide +kernel
theorem d_An_round_23 : decode b_An_round 23 = .ok (.bipush (8), 2) := by decide +kernel
theorem d_An_round_25 : decode b_An_round 25 = .ok (.if_icmp .ge (92), 3) := by decide +kernel
theorem d_An_round_28 : decode b_An_round 28 = .ok (.aload_n 2, 1) := by decide +kernel
theorem d_An_round_29 : decode b_An_round 29 = .ok (.getfield 87, 3) := by decide +kernel
theorem d_An_round_32 : decode b_An_round 32 = .ok (.iload 5, 2) := by decide +kernel
theorem d_An_round_34 : decode b_An_round 34 = .ok (.aaload, 1) := by decide +kernel
theorem d_An_round_35 : decode b_An_round 35 = .ok (.astore 6, 2) := by decide +kernel
theorem d_An_round_37 : decode b_An_round 37 = .ok (.iload_n 3, 1) := by decide +kernel
theorem d_An_round_38 : decode b_An_round 38 = .ok (.iload 5, 2) := by decide +kernel
theorem d_An_round_40 : decode b_An_round 40 = .ok (.ishr, 1) := by decide +kernel
theorem d_An_round_41 : decode b_An_round 41 = .ok (.iconst (1), 1) := by decide +kernel
theorem d_An_round_42 : decode b_An_round 42 = .ok (.iand, 1) := by decide +kernel
theorem d_An_round_43 : decode b_An_round 43 = .ok (.ifCond .eq (68), 3) := by decide +kernel
theorem d_An_round_46 : decode b_An_round 46 = .ok (.aload 6, 2) := by decide +kernel
theorem d_An_round_48 : decode b_An_round 48 = .ok (.getfield 211, 3) := by decide +kernel
theorem d_An_round_51 : decode b_An_round 51 = .ok (.ifCond .eq (60), 3) := by decide +kernel
theorem d_An_round_54 : decode b_An_round 54 = .ok (.aload 6, 2) := by decide +kernel
theorem d_An_round_56 : decode b_An_round 56 = .ok (.getfield 214, 3) := by decide +kernel
theorem d_An_round_59 : decode b_An_round 59 = .ok (.ifCond .le (6), 3) := by decide +kernel
theorem d_An_round_62 : decode b_An_round 62 = .ok (.goto (49), 3) := by decide +kernel
theorem d_An_round_65 : decode b_An_round 65 = .ok (.aload_n 0, 1) := by decide +kernel
theorem d_An_round_66 : decode b_An_round 66 = .ok (.getfield 36, 3) := by decide +kernel
theorem d_An_round_69 : decode b_An_round 69 = .ok (.aload 6, 2) := by decide +kernel
theorem d_An_round_71 : decode b_An_round 71 = .ok (.aload_n 0, 1) := by decide +kernel
theorem d_An_round_72 : decode b_An_round 72 = .ok (.getfield 11, 3) := by decide +kernel
theorem d_An_round_75 : decode b_An_round 75 = .ok (.aload 6, 2) := by decide +kernel
theorem d_An_round_77 : decode b_An_round 77 = .ok (.getfield 217, 3) := by decide +kernel
theorem d_An_round_80 : decode b_An_round 80 = .ok (.aaload, 1) := by decide +kernel
theorem d_An_round_81 : decode b_An_round 81 = .ok (.aload_n 0, 1) := by decide +kernel
theorem d_An_round_82 : decode b_An_round 82 = .ok (.getfield 17, 3) := by decide +kernel
theorem d_An_round_85 : decode b_An_round 85 = .ok (.iload_n 1, 1) := by decide +kernel
theorem d_An_round_86 : decode b_An_round 86 = .ok (.aaload, 1) := by decide +kernel
theorem d_An_round_87 : decode b_An_round 87 = .ok (.iload_n 1, 1) := by decide +kernel
theorem d_An_round_88 : decode b_An_round 88 = .ok (.invokevirtual 220, 3) := by decide +kernel
theorem d_An_round_91 : decode b_An_round 91 = .ok (.istore 7, 2) := by decide +kernel
theorem d_An_round_93 : decode b_An_round 93 = .ok (.aload_n 2, 1) := by decide +kernel
theorem d_An_round_94 : decode b_An_round 94 = .ok (.iload 5, 2) := by decide +kernel
theorem d_An_round_96 : decode b_An_round 96 = .ok (.iload 7, 2) := by decide +kernel
theorem d_An_round_98 : decode b_An_round 98 = .ok (.aload_n 0, 1) := by decide +kernel
theorem d_An_round_99 : decode b_An_round 99 = .ok (.getfield 36, 3) := by decide +kernel
theorem d_An_round_102 : decode b_An_round 102 = .ok (.getfield 224, 3) := by decide +kernel
theorem d_An_round_105 : decode b_An_round 105 = .ok (.invokevirtual 227, 3) := by decide +kernel
theorem d_An_round_108 : decode b_An_round 108 = .ok (.iinc 4 (1), 3) := by decide +kernel
theorem d_An_round_111 : decode b_An_round 111 = .ok (.iinc 5 (1), 3) := by decide +kernel
theorem d_An_round_114 : decode b_An_round 114 = .ok (.goto (-93), 3) := by decide +kernel
theorem d_An_round_117 : decode b_An_round 117 = .ok (.iload 4, 2) := by decide +kernel
theorem d_An_round_119 : decode b_An_round 119 = .ok (.ireturn, 1) := by decide +kernel
theorem d_An_isHost_0 : decode b_An_isHost 0 = .ok (.iload_n 0, 1) := by decide +kernel
theorem d_An_isHost_1 : decode b_An_isHost 1 = .ok (.ifCond .lt (12), 3) := by decide +kernel
theorem d_An_isHost_4 : decode b_An_isHost 4 = .ok (.iload_n 0, 1) := by decide +kernel
theorem d_An_isHost_5 : decode b_An_isHost 5 = .ok (.iconst (4), 1) := by decide +kernel
theorem d_An_isHost_6 : decode b_An_isHost 6 = .ok (.if_icmp .ge (7), 3) := by decide +kernel
theorem d_An_isHost_9 : decode b_An_isHost 9 = .ok (.iconst (1), 1) := by decide +kernel
theorem d_An_isHost_10 : decode b_An_isHost 10 = .ok (.goto (4), 3) := by decide +kernel
theorem d_An_isHost_13 : decode b_An_isHost 13 = .ok (.iconst (0), 1) := by decide +kernel
theorem d_An_isHost_14 : decode b_An_isHost 14 = .ok (.ireturn, 1) := by decide +kernel
theorem d_An_isProgram_0 : decode b_An_isProgram 0 = .ok (.iload_n 0, 1) := by decide +kernel
theorem d_An_isProgram_1 : decode b_An_isProgram 1 = .ok (.ifCond .lt (12), 3) := by decide +kernel
theorem d_An_isProgram_4 : decode b_An_isProgram 4 = .ok (.iload_n 0, 1) := by decide +kernel
theorem d_An_isProgram_5 : decode b_An_isProgram 5 = .ok (.iconst (4), 1) := by decide +kernel
theorem d_An_isProgram_6 : decode b_An_isProgram 6 = .ok (.if_icmp .ge (7), 3) := by decide +kernel
theorem d_An_isProgram_9 : decode b_An_isProgram 9 = .ok (.iconst (1), 1) := by decide +kernel
theorem d_An_isProgram_10 : decode b_An_isProgram 10 = .ok (.goto (4), 3) := by decide +kernel
theorem d_An_isProgram_13 : decode b_An_isProgram 13 = .ok (.iconst (0), 1) := by decide +kernel
theorem d_An_isProgram_14 : decode b_An_isProgram 14 = .ok (.ireturn, 1) := by decide +kernel
theorem d_An_isAgent_0 : decode b_An_isAgent 0 = .ok (.iload_n 0, 1) := by decide +kernel
theorem d_An_isAgent_1 : decode b_An_isAgent 1 = .ok (.ifCond .lt (13), 3) := by decide +kernel
theorem d_An_isAgent_4 : decode b_An_isAgent 4 = .ok (.iload_n 0, 1) := by decide +kernel
theorem d_An_isAgent_5 : decode b_An_isAgent 5 = .ok (.bipush (8), 2) := by decide +kernel
theorem d_An_isAgent_7 : decode b_An_isAgent 7 = .ok (.if_icmp .ge (7), 3) := by decide +kernel
theorem d_An_isAgent_10 : decode b_An_isAgent 10 = .ok (.iconst (1), 1) := by decide +kernel
theorem d_An_isAgent_11 : decode b_An_isAgent 11 = .ok (.goto (4), 3) := by decide +kernel
theorem d_An_isAgent_14 : decode b_An_isAgent 14 = .ok (.iconst (0), 1) := by decide +kernel
theorem d_An_isAgent_15 : decode b_An_isAgent 15 = .ok (.ireturn, 1) := by decide +kernel
theorem d_An_isPair_0 : decode b_An_isPair 0 = .ok (.lload_n 0, 1) := by decide +kernel
theorem d_An_isPair_1 : decode b_An_isPair 1 = .ok (.ldc2_w 230, 3) := by decide +kernel
theorem d_An_isPair_4 : decode b_An_isPair 4 = .ok (.lcmp, 1) := by decide +kernel
theorem d_An_isPair_5 : decode b_An_isPair 5 = .ok (.ifCond .lt (7), 3) := by decide +kernel
theorem d_An_isPair_8 : decode b_An_isPair 8 = .ok (.iconst (1), 1) := by decide +kernel
theorem d_An_isPair_9 : decode b_An_isPair 9 = .ok (.goto (4), 3) := by decide +kernel
theorem d_An_isPair_12 : decode b_An_isPair 12 = .ok (.iconst (0), 1) := by decide +kernel
theorem d_An_isPair_13 : decode b_An_isPair 13 = .ok (.ireturn, 1) := by decide +kernel
