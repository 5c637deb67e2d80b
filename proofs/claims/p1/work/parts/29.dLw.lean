theorem d_Lw_launch_0 : decode b_Lw_launch 0 = .ok (.aload 4, 2) := by decide +kernel
theorem d_Lw_launch_2 : decode b_Lw_launch 2 = .ok (.iconst (0), 1) := by decide +kernel
theorem d_Lw_launch_3 : decode b_Lw_launch 3 = .ok (.aload_n 0, 1) := by decide +kernel
theorem d_Lw_launch_4 : decode b_Lw_launch 4 = .ok (.iload_n 1, 1) := by decide +kernel
theorem d_Lw_launch_5 : decode b_Lw_launch 5 = .ok (.iload_n 2, 1) := by decide +kernel
theorem d_Lw_launch_6 : decode b_Lw_launch 6 = .ok (.iload_n 3, 1) := by decide +kernel
theorem d_Lw_launch_7 : decode b_Lw_launch 7 = .ok (.invokevirtual 7, 3) := by decide +kernel
theorem d_Lw_launch_10 : decode b_Lw_launch 10 = .ok (.i2l, 1) := by decide +kernel
theorem d_Lw_launch_11 : decode b_Lw_launch 11 = .ok (.lastore, 1) := by decide +kernel
theorem d_Lw_launch_12 : decode b_Lw_launch 12 = .ok (.goto (11), 3) := by decide +kernel
theorem d_Lw_launch_15 : decode b_Lw_launch 15 = .ok (.astore 5, 2) := by decide +kernel
theorem d_Lw_launch_17 : decode b_Lw_launch 17 = .ok (.iconst (1), 1) := by decide +kernel
theorem d_Lw_launch_18 : decode b_Lw_launch 18 = .ok (.ireturn, 1) := by decide +kernel
theorem d_Lw_launch_19 : decode b_Lw_launch 19 = .ok (.astore 5, 2) := by decide +kernel
theorem d_Lw_launch_21 : decode b_Lw_launch 21 = .ok (.iconst (2), 1) := by decide +kernel
theorem d_Lw_launch_22 : decode b_Lw_launch 22 = .ok (.ireturn, 1) := by decide +kernel
theorem d_Lw_launch_23 : decode b_Lw_launch 23 = .ok (.iconst (0), 1) := by decide +kernel
theorem d_Lw_launch_24 : decode b_Lw_launch 24 = .ok (.ireturn, 1) := by decide +kernel
theorem d_Lw_step_0 : decode b_Lw_step 0 = .ok (.aload_n 3, 1) := by decide +kernel
theorem d_Lw_step_1 : decode b_Lw_step 1 = .ok (.iconst (0), 1) := by decide +kernel
theorem d_Lw_step_2 : decode b_Lw_step 2 = .ok (.aload_n 0, 1) := by decide +kernel
theorem d_Lw_step_3 : decode b_Lw_step 3 = .ok (.iload_n 1, 1) := by decide +kernel
theorem d_Lw_step_4 : decode b_Lw_step 4 = .ok (.iload_n 2, 1) := by decide +kernel
theorem d_Lw_step_5 : decode b_Lw_step 5 = .ok (.invokevirtual 17, 3) := by decide +kernel
theorem d_Lw_step_8 : decode b_Lw_step 8 = .ok (.i2l, 1) := by decide +kernel
theorem d_Lw_step_9 : decode b_Lw_step 9 = .ok (.lastore, 1) := by decide +kernel
theorem d_Lw_step_10 : decode b_Lw_step 10 = .ok (.goto (11), 3) := by decide +kernel
theorem d_Lw_step_13 : decode b_Lw_step 13 = .ok (.astore 4, 2) := by decide +kernel
theorem d_Lw_step_15 : decode b_Lw_step 15 = .ok (.iconst (1), 1) := by decide +kernel
theorem d_Lw_step_16 : decode b_Lw_step 16 = .ok (.ireturn, 1) := by decide +kernel
theorem d_Lw_step_17 : decode b_Lw_step 17 = .ok (.astore 4, 2) := by decide +kernel
theorem d_Lw_step_19 : decode b_Lw_step 19 = .ok (.iconst (2), 1) := by decide +kernel
theorem d_Lw_step_20 : decode b_Lw_step 20 = .ok (.ireturn, 1) := by decide +kernel
theorem d_Lw_step_21 : decode b_Lw_step 21 = .ok (.iconst (0), 1) := by decide +kernel
theorem d_Lw_step_22 : decode b_Lw_step 22 = .ok (.ireturn, 1) := by decide +kernel
theorem d_Lw_tick_0 : decode b_Lw_tick 0 = .ok (.aload_n 2, 1) := by decide +kernel
theorem d_Lw_tick_1 : decode b_Lw_tick 1 = .ok (.iconst (0), 1) := by decide +kernel
theorem d_Lw_tick_2 : decode b_Lw_tick 2 = .ok (.aload_n 0, 1) := by decide +kernel
theorem d_Lw_tick_3 : decode b_Lw_tick 3 = .ok (.iload_n 1, 1) := by decide +kernel
theorem d_Lw_tick_4 : decode b_Lw_tick 4 = .ok (.invokevirtual 21, 3) := by decide +kernel
theorem d_Lw_tick_7 : decode b_Lw_tick 7 = .ok (.i2l, 1) := by decide +kernel
theorem d_Lw_tick_8 : decode b_Lw_tick 8 = .ok (.lastore, 1) := by decide +kernel
theorem d_Lw_tick_9 : decode b_Lw_tick 9 = .ok (.goto (9), 3) := by decide +kernel
theorem d_Lw_tick_12 : decode b_Lw_tick 12 = .ok (.astore_n 3, 1) := by decide +kernel
theorem d_Lw_tick_13 : decode b_Lw_tick 13 = .ok (.iconst (1), 1) := by decide +kernel
theorem d_Lw_tick_14 : decode b_Lw_tick 14 = .ok (.ireturn, 1) := by decide +kernel
theorem d_Lw_tick_15 : decode b_Lw_tick 15 = .ok (.astore_n 3, 1) := by decide +kernel
theorem d_Lw_tick_16 : decode b_Lw_tick 16 = .ok (.iconst (2), 1) := by decide +kernel
theorem d_Lw_tick_17 : decode b_Lw_tick 17 = .ok (.ireturn, 1) := by decide +kernel
theorem d_Lw_tick_18 : decode b_Lw_tick 18 = .ok (.iconst (0), 1) := by decide +kernel
theorem d_Lw_tick_19 : decode b_Lw_tick 19 = .ok (.ireturn, 1) := by decide +kernel
theorem d_Lw_checkpoint_0 : decode b_Lw_checkpoint 0 = .ok (.aload_n 2, 1) := by decide +kernel
theorem d_Lw_checkpoint_1 : decode b_Lw_checkpoint 1 = .ok (.iconst (0), 1) := by decide +kernel
theorem d_Lw_checkpoint_2 : decode b_Lw_checkpoint 2 = .ok (.aload_n 0, 1) := by decide +kernel
theorem d_Lw_checkpoint_3 : decode b_Lw_checkpoint 3 = .ok (.iload_n 1, 1) := by decide +kernel
theorem d_Lw_checkpoint_4 : decode b_Lw_checkpoint 4 = .ok (.invokevirtual 25, 3) := by decide +kernel
theorem d_Lw_checkpoint_7 : decode b_Lw_checkpoint 7 = .ok (.i2l, 1) := by decide +kernel
theorem d_Lw_checkpoint_8 : decode b_Lw_checkpoint 8 = .ok (.lastore, 1) := by decide +kernel
theorem d_Lw_checkpoint_9 : decode b_Lw_checkpoint 9 = .ok (.goto (9), 3) := by decide +kernel
theorem d_Lw_checkpoint_12 : decode b_Lw_checkpoint 12 = .ok (.astore_n 3, 1) := by decide +kernel
theorem d_Lw_checkpoint_13 : decode b_Lw_checkpoint 13 = .ok (.iconst (1), 1) := by decide +kernel
theorem d_Lw_checkpoint_14 : decode b_Lw_checkpoint 14 = .ok (.ireturn, 1) := by decide +kernel
theorem d_Lw_checkpoint_15 : decode b_Lw_checkpoint 15 = .ok (.astore_n 3, 1) := by decide +kernel
theorem d_Lw_checkpoint_16 : decode b_Lw_checkpoint 16 = .ok (.iconst (2), 1) := by decide +kernel
theorem d_Lw_checkpoint_17 : decode b_Lw_checkpoint 17 = .ok (.ireturn, 1) := by decide +kernel
theorem d_Lw_checkpoint_18 : decode b_Lw_checkpoint 18 = .ok (.iconst (0), 1) := by decide +kernel
theorem d_Lw_checkpoint_19 : decode b_Lw_checkpoint 19 = .ok (.ireturn, 1) := by decide +kernel
theorem d_Lw_write_0 : decode b_Lw_write 0 = .ok (.aload_n 3, 1) := by decide +kernel
theorem d_Lw_write_1 : decode b_Lw_write 1 = .ok (.iconst (0), 1) := by decide +kernel
theorem d_Lw_write_2 : decode b_Lw_write 2 = .ok (.aload_n 0, 1) := by decide +kernel
theorem d_Lw_write_3 : decode b_Lw_write 3 = .ok (.iload_n 1, 1) := by decide +kernel
theorem d_Lw_write_4 : decode b_Lw_write 4 = .ok (.iload_n 2, 1) := by decide +kernel
theorem d_Lw_write_5 : decode b_Lw_write 5 = .ok (.invokevirtual 28, 3) := by decide +kernel
theorem d_Lw_write_8 : decode b_Lw_write 8 = .ok (.i2l, 1) := by decide +kernel
theorem d_Lw_write_9 : decode b_Lw_write 9 = .ok (.lastore, 1) := by decide +kernel
theorem d_Lw_write_10 : decode b_Lw_write 10 = .ok (.goto (11), 3) := by decide +kernel
theorem d_Lw_write_13 : decode b_Lw_write 13 = .ok (.astore 4, 2) := by decide +kernel
theorem d_Lw_write_15 : decode b_Lw_write 15 = .ok (.iconst (1), 1) := by decide +kernel
theorem d_Lw_write_16 : decode b_Lw_write 16 = .ok (.ireturn, 1) := by decide +kernel
theorem d_Lw_write_17 : decode b_Lw_write 17 = .ok (.astore 4, 2) := by decide +kernel
theorem d_Lw_write_19 : decode b_Lw_write 19 = .ok (.iconst (2), 1) := by decide +kernel
theorem d_Lw_write_20 : decode b_Lw_write 20 = .ok (.ireturn, 1) := by decide +kernel
theorem d_Lw_write_21 : decode b_Lw_write 21 = .ok (.iconst (0), 1) := by decide +kernel
theorem d_Lw_write_22 : decode b_Lw_write 22 = .ok (.ireturn, 1) := by decide +kernel
theorem d_Lw_crash_0 : decode b_Lw_crash 0 = .ok (.aload_n 2, 1) := by decide +kernel
theorem d_Lw_crash_1 : decode b_Lw_crash 1 = .ok (.iconst (0), 1) := by decide +kernel
theorem d_Lw_crash_2 : decode b_Lw_crash 2 = .ok (.aload_n 0, 1) := by decide +kernel
theorem d_Lw_crash_3 : decode b_Lw_crash 3 = .ok (.iload_n 1, 1) := by decide +kernel
theorem d_Lw_crash_4 : decode b_Lw_crash 4 = .ok (.invokevirtual 31, 3) := by decide +kernel
theorem d_Lw_crash_7 : decode b_Lw_crash 7 = .ok (.ifCond .eq (7), 3) := by decide +kernel
theorem d_Lw_crash_10 : decode b_Lw_crash 10 = .ok (.lconst 1, 1) := by decide +kernel
theorem d_Lw_crash_11 : decode b_Lw_crash 11 = .ok (.goto (4), 3) := by decide +kernel
theorem d_Lw_crash_14 : decode b_Lw_crash 14 = .ok (.lconst 0, 1) := by decide +kernel
theorem d_Lw_crash_15 : decode b_Lw_crash 15 = .ok (.lastore, 1) := by decide +kernel
theorem d_Lw_crash_16 : decode b_Lw_crash 16 = .ok (.goto (6), 3) := by decide +kernel
theorem d_Lw_crash_19 : decode b_Lw_crash 19 = .ok (.astore_n 3, 1) := by decide +kernel
theorem d_Lw_crash_20 : decode b_Lw_crash 20 = .ok (.iconst (1), 1) := by decide +kernel
theorem d_Lw_crash_21 : decode b_Lw_crash 21 = .ok (.ireturn, 1) := by decide +kernel
theorem d_Lw_crash_22 : decode b_Lw_crash 22 = .ok (.iconst (0), 1) := by decide +kernel
theorem d_Lw_crash_23 : decode b_Lw_crash 23 = .ok (.ireturn, 1) := by decide +kernel
theorem d_Lw_start_0 : decode b_Lw_start 0 = .ok (.aload_n 2, 1) := by decide +kernel
theorem d_Lw_start_1 : decode b_Lw_start 1 = .ok (.iconst (0), 1) := by decide +kernel
theorem d_Lw_start_2 : decode b_Lw_start 2 = .ok (.aload_n 0, 1) := by decide +kernel
theorem d_Lw_start_3 : decode b_Lw_start 3 = .ok (.iload_n 1, 1) := by decide +kernel
theorem d_Lw_start_4 : decode b_Lw_start 4 = .ok (.invokevirtual 35, 3) := by decide +kernel
theorem d_Lw_start_7 : decode b_Lw_start 7 = .ok (.ifCond .eq (7), 3) := by decide +kernel
theorem d_Lw_start_10 : decode b_Lw_start 10 = .ok (.lconst 1, 1) := by decide +kernel
theorem d_Lw_start_11 : decode b_Lw_start 11 = .ok (.goto (4), 3) := by decide +kernel
theorem d_Lw_start_14 : decode b_Lw_start 14 = .ok (.lconst 0, 1) := by decide +kernel
theorem d_Lw_start_15 : decode b_Lw_start 15 = .ok (.lastore, 1) := by decide +kernel
theorem d_Lw_start_16 : decode b_Lw_start 16 = .ok (.goto (6), 3) := by decide +kernel
theorem d_Lw_start_19 : decode b_Lw_start 19 = .ok (.astore_n 3, 1) := by decide +kernel
theorem d_Lw_start_20 : decode b_Lw_start 20 = .ok (.iconst (1), 1) := by decide +kernel
theorem d_Lw_start_21 : decode b_Lw_start 21 = .ok (.ireturn, 1) := by decide +kernel
theorem d_Lw_start_22 : decode b_Lw_start 22 = .ok (.iconst (0), 1) := by decide +kernel
theorem d_Lw_start_23 : decode b_Lw_start 23 = .ok (.ireturn, 1) := by decide +kernel
theorem d_Lw_net_0 : decode b_Lw_net 0 = .ok (.aload_n 3, 1) := by decide +kernel
theorem d_Lw_net_1 : decode b_Lw_net 1 = .ok (.iconst (0), 1) := by decide +kernel
theorem d_Lw_net_2 : decode b_Lw_net 2 = .ok (.aload_n 0, 1) := by decide +kernel
theorem d_Lw_net_3 : decode b_Lw_net 3 = .ok (.iload_n 1, 1) := by decide +kernel
theorem d_Lw_net_4 : decode b_Lw_net 4 = .ok (.iload_n 2, 1) := by decide +kernel
theorem d_Lw_net_5 : decode b_Lw_net 5 = .ok (.invokevirtual 38, 3) := by decide +kernel
theorem d_Lw_net_8 : decode b_Lw_net 8 = .ok (.i2l, 1) := by decide +kernel
theorem d_Lw_net_9 : decode b_Lw_net 9 = .ok (.lastore, 1) := by decide +kernel
theorem d_Lw_net_10 : decode b_Lw_net 10 = .ok (.goto (15), 3) := by decide +kernel
theorem d_Lw_net_13 : decode b_Lw_net 13 = .ok (.astore 4, 2) := by decide +kernel
theorem d_Lw_net_15 : decode b_Lw_net 15 = .ok (.iconst (1), 1) := by decide +kernel
theorem d_Lw_net_16 : decode b_Lw_net 16 = .ok (.ireturn, 1) := by decide +kernel
theorem d_Lw_net_17 : decode b_Lw_net 17 = .ok (.astore 4, 2) := by decide +kernel
theorem d_Lw_net_19 : decode b_Lw_net 19 = .ok (.iconst (2), 1) := by decide +kernel
theorem d_Lw_net_20 : decode b_Lw_net 20 = .ok (.ireturn, 1) := by decide +kernel
theorem d_Lw_net_21 : decode b_Lw_net 21 = .ok (.astore 4, 2) := by decide +kernel
theorem d_Lw_net_23 : decode b_Lw_net 23 = .ok (.iconst (3), 1) := by decide +kernel
theorem d_Lw_net_24 : decode b_Lw_net 24 = .ok (.ireturn, 1) := by decide +kernel
theorem d_Lw_net_25 : decode b_Lw_net 25 = .ok (.iconst (0), 1) := by decide +kernel
theorem d_Lw_net_26 : decode b_Lw_net 26 = .ok (.ireturn, 1) := by decide +kernel
theorem d_Lw_law_0 : decode b_Lw_law 0 = .ok (.new 8, 3) := by decide +kernel
theorem d_Lw_law_3 : decode b_Lw_law 3 = .ok (.dup, 1) := by decide +kernel
theorem d_Lw_law_4 : decode b_Lw_law 4 = .ok (.invokespecial 43, 3) := by decide +kernel
theorem d_Lw_law_7 : decode b_Lw_law 7 = .ok (.astore_n 1, 1) := by decide +kernel
theorem d_Lw_law_8 : decode b_Lw_law 8 = .ok (.new 44, 3) := by decide +kernel
theorem d_Lw_law_11 : decode b_Lw_law 11 = .ok (.dup, 1) := by decide +kernel
theorem d_Lw_law_12 : decode b_Lw_law 12 = .ok (.invokespecial 46, 3) := by decide +kernel
theorem d_Lw_law_15 : decode b_Lw_law 15 = .ok (.astore_n 2, 1) := by decide +kernel
theorem d_Lw_law_16 : decode b_Lw_law 16 = .ok (.iconst (1), 1) := by decide +kernel
theorem d_Lw_law_17 : decode b_Lw_law 17 = .ok (.newarray .long, 2) := by decide +kernel
theorem d_Lw_law_19 : decode b_Lw_law 19 = .ok (.astore_n 3, 1) := by decide +kernel
theorem d_Lw_law_20 : decode b_Lw_law 20 = .ok (.iconst (0), 1) := by decide +kernel
theorem d_Lw_law_21 : decode b_Lw_law 21 = .ok (.istore 4, 2) := by decide +kernel
theorem d_Lw_law_23 : decode b_Lw_law 23 = .ok (.iload 4, 2) := by decide +kernel
theorem d_Lw_law_25 : decode b_Lw_law 25 = .ok (.aload_n 0, 1) := by decide +kernel
theorem d_Lw_law_26 : decode b_Lw_law 26 = .ok (.arraylength, 1) := by decide +kernel
theorem d_Lw_law_27 : decode b_Lw_law 27 = .ok (.iconst (5), 1) := by decide +kernel
theorem d_Lw_law_28 : decode b_Lw_law 28 = .ok (.isub, 1) := by decide +kernel
theorem d_Lw_law_29 : decode b_Lw_law 29 = .ok (.if_icmp .gt (1068), 3) := by decide +kernel
theorem d_Lw_law_32 : decode b_Lw_law 32 = .ok (.aload_n 0, 1) := by decide +kernel
theorem d_Lw_law_33 : decode b_Lw_law 33 = .ok (.iload 4, 2) := by decide +kernel
theorem d_Lw_law_35 : decode b_Lw_law 35 = .ok (.iaload, 1) := by decide +kernel
theorem d_Lw_law_36 : decode b_Lw_law 36 = .ok (.bipush (31), 2) := by decide +kernel
theorem d_Lw_law_38 : decode b_Lw_law 38 = .ok (.iand, 1) := by decide +kernel
theorem d_Lw_law_39 : decode b_Lw_law 39 = .ok (.tableswitch (1052) (0) (18) #[89, 170, 219, 299, 367, 423, 479, 547, 610, 673, 741, 778, 815, 864, 901, 926, 951, 989, 1014], 89) := by decide +kernel
theorem d_Lw_law_128 : decode b_Lw_law 128 = .ok (.aload_n 1, 1) := by decide +kernel
theorem d_Lw_law_129 : decode b_Lw_law 129 = .ok (.aload_n 0, 1) := by decide +kernel
theorem d_Lw_law_130 : decode b_Lw_law 130 = .ok (.iload 4, 2) := by decide +kernel
theorem d_Lw_law_132 : decode b_Lw_law 132 = .ok (.iconst (1), 1) := by decide +kernel
theorem d_Lw_law_133 : decode b_Lw_law 133 = .ok (.iadd, 1) := by decide +kernel
theorem d_Lw_law_134 : decode b_Lw_law 134 = .ok (.iaload, 1) := by decide +kernel
theorem d_Lw_law_135 : decode b_Lw_law 135 = .ok (.aload_n 0, 1) := by decide +kernel
theorem d_Lw_law_136 : decode b_Lw_law 136 = .ok (.iload 4, 2) := by decide +kernel
theorem d_Lw_law_138 : decode b_Lw_law 138 = .ok (.iconst (2), 1) := by decide +kernel
theorem d_Lw_law_139 : decode b_Lw_law 139 = .ok (.iadd, 1) := by decide +kernel
theorem d_Lw_law_140 : decode b_Lw_law 140 = .ok (.iaload, 1) := by decide +kernel
theorem d_Lw_law_141 : decode b_Lw_law 141 = .ok (.i2l, 1) := by decide +kernel
theorem d_Lw_law_142 : decode b_Lw_law 142 = .ok (.bipush (32), 2) := by decide +kernel
theorem d_Lw_law_144 : decode b_Lw_law 144 = .ok (.lshl, 1) := by decide +kernel
theorem d_Lw_law_145 : decode b_Lw_law 145 = .ok (.aload_n 0, 1) := by decide +kernel
theorem d_Lw_law_146 : decode b_Lw_law 146 = .ok (.iload 4, 2) := by decide +kernel
theorem d_Lw_law_148 : decode b_Lw_law 148 = .ok (.iconst (3), 1) := by decide +kernel
theorem d_Lw_law_149 : decode b_Lw_law 149 = .ok (.iadd, 1) := by decide +kernel
theorem d_Lw_law_150 : decode b_Lw_law 150 = .ok (.iaload, 1) := by decide +kernel
theorem d_Lw_law_151 : decode b_Lw_law 151 = .ok (.i2l, 1) := by decide +kernel
theorem d_Lw_law_152 : decode b_Lw_law 152 = .ok (.ldc2_w 47, 3) := by decide +kernel
theorem d_Lw_law_155 : decode b_Lw_law 155 = .ok (.land, 1) := by decide +kernel
theorem d_Lw_law_156 : decode b_Lw_law 156 = .ok (.lor, 1) := by decide +kernel
theorem d_Lw_law_157 : decode b_Lw_law 157 = .ok (.aload_n 0, 1) := by decide +kernel
theorem d_Lw_law_158 : decode b_Lw_law 158 = .ok (.iload 4, 2) := by decide +kernel
theorem d_Lw_law_160 : decode b_Lw_law 160 = .ok (.iconst (4), 1) := by decide +kernel
theorem d_Lw_law_161 : decode b_Lw_law 161 = .ok (.iadd, 1) := by decide +kernel
theorem d_Lw_law_162 : decode b_Lw_law 162 = .ok (.iaload, 1) := by decide +kernel
theorem d_Lw_law_163 : decode b_Lw_law 163 = .ok (.invokevirtual 49, 3) := by decide +kernel
theorem d_Lw_law_166 : decode b_Lw_law 166 = .ok (.aload_n 2, 1) := by decide +kernel
theorem d_Lw_law_167 : decode b_Lw_law 167 = .ok (.aload_n 0, 1) := by decide +kernel
theorem d_Lw_law_168 : decode b_Lw_law 168 = .ok (.iload 4, 2) := by decide +kernel
theorem d_Lw_law_170 : decode b_Lw_law 170 = .ok (.iconst (1), 1) := by decide +kernel
theorem d_Lw_law_171 : decode b_Lw_law 171 = .ok (.iadd, 1) := by decide +kernel
theorem d_Lw_law_172 : decode b_Lw_law 172 = .ok (.iaload, 1) := by decide +kernel
theorem d_Lw_law_173 : decode b_Lw_law 173 = .ok (.aload_n 0, 1) := by decide +kernel
theorem d_Lw_law_174 : decode b_Lw_law 174 = .ok (.iload 4, 2) := by decide +kernel
theorem d_Lw_law_176 : decode b_Lw_law 176 = .ok (.iconst (2), 1) := by decide +kernel
theorem d_Lw_law_177 : decode b_Lw_law 177 = .ok (.iadd, 1) := by decide +kernel
theorem d_Lw_law_178 : decode b_Lw_law 178 = .ok (.iaload, 1) := by decide +kernel
theorem d_Lw_law_179 : decode b_Lw_law 179 = .ok (.i2l, 1) := by decide +kernel
theorem d_Lw_law_180 : decode b_Lw_law 180 = .ok (.bipush (32), 2) := by decide +kernel
theorem d_Lw_law_182 : decode b_Lw_law 182 = .ok (.lshl, 1) := by decide +kernel
theorem d_Lw_law_183 : decode b_Lw_law 183 = .ok (.aload_n 0, 1) := by decide +kernel
theorem d_Lw_law_184 : decode b_Lw_law 184 = .ok (.iload 4, 2) := by decide +kernel
theorem d_Lw_law_186 : decode b_Lw_law 186 = .ok (.iconst (3), 1) := by decide +kernel
theorem d_Lw_law_187 : decode b_Lw_law 187 = .ok (.iadd, 1) := by decide +kernel
theorem d_Lw_law_188 : decode b_Lw_law 188 = .ok (.iaload, 1) := by decide +kernel
theorem d_Lw_law_189 : decode b_Lw_law 189 = .ok (.i2l, 1) := by decide +kernel
theorem d_Lw_law_190 : decode b_Lw_law 190 = .ok (.ldc2_w 47, 3) := by decide +kernel
theorem d_Lw_law_193 : decode b_Lw_law 193 = .ok (.land, 1) := by decide +kernel
theorem d_Lw_law_194 : decode b_Lw_law 194 = .ok (.lor, 1) := by decide +kernel
theorem d_Lw_law_195 : decode b_Lw_law 195 = .ok (.aload_n 0, 1) := by decide +kernel
theorem d_Lw_law_196 : decode b_Lw_law 196 = .ok (.iload 4, 2) := by decide +kernel
theorem d_Lw_law_198 : decode b_Lw_law 198 = .ok (.iconst (4), 1) := by decide +kernel
theorem d_Lw_law_199 : decode b_Lw_law 199 = .ok (.iadd, 1) := by decide +kernel
theorem d_Lw_law_200 : decode b_Lw_law 200 = .ok (.iaload, 1) := by decide +kernel
theorem d_Lw_law_201 : decode b_Lw_law 201 = .ok (.invokevirtual 53, 3) := by decide +kernel
theorem d_Lw_law_204 : decode b_Lw_law 204 = .ok (.if_icmp .eq (887), 3) := by decide +kernel
theorem d_Lw_law_207 : decode b_Lw_law 207 = .ok (.iconst (0), 1) := by decide +kernel
theorem d_Lw_law_208 : decode b_Lw_law 208 = .ok (.ireturn, 1) := by decide +kernel
theorem d_Lw_law_209 : decode b_Lw_law 209 = .ok (.aload_n 1, 1) := by decide +kernel
theorem d_Lw_law_210 : decode b_Lw_law 210 = .ok (.aload_n 0, 1) := by decide +kernel
theorem d_Lw_law_211 : decode b_Lw_law 211 = .ok (.iload 4, 2) := by decide +kernel
theorem d_Lw_law_213 : decode b_Lw_law 213 = .ok (.iconst (1), 1) := by decide +kernel
theorem d_Lw_law_214 : decode b_Lw_law 214 = .ok (.iadd, 1) := by decide +kernel
theorem d_Lw_law_215 : decode b_Lw_law 215 = .ok (.iaload, 1) := by decide +kernel
theorem d_Lw_law_216 : decode b_Lw_law 216 = .ok (.aload_n 0, 1) := by decide +kernel
theorem d_Lw_law_217 : decode b_Lw_law 217 = .ok (.iload 4, 2) := by decide +kernel
theorem d_Lw_law_219 : decode b_Lw_law 219 = .ok (.iconst (2), 1) := by decide +kernel
theorem d_Lw_law_220 : decode b_Lw_law 220 = .ok (.iadd, 1) := by decide +kernel
theorem d_Lw_law_221 : decode b_Lw_law 221 = .ok (.iaload, 1) := by decide +kernel
theorem d_Lw_law_222 : decode b_Lw_law 222 = .ok (.aload_n 0, 1) := by decide +kernel
theorem d_Lw_law_223 : decode b_Lw_law 223 = .ok (.iload 4, 2) := by decide +kernel
theorem d_Lw_law_225 : decode b_Lw_law 225 = .ok (.iconst (3), 1) := by decide +kernel
theorem d_Lw_law_226 : decode b_Lw_law 226 = .ok (.iadd, 1) := by decide +kernel
theorem d_Lw_law_227 : decode b_Lw_law 227 = .ok (.iaload, 1) := by decide +kernel
theorem d_Lw_law_228 : decode b_Lw_law 228 = .ok (.invokevirtual 54, 3) := by decide +kernel
theorem d_Lw_law_231 : decode b_Lw_law 231 = .ok (.aload_n 2, 1) := by decide +kernel
theorem d_Lw_law_232 : decode b_Lw_law 232 = .ok (.aload_n 0, 1) := by decide +kernel
theorem d_Lw_law_233 : decode b_Lw_law 233 = .ok (.iload 4, 2) := by decide +kernel
theorem d_Lw_law_235 : decode b_Lw_law 235 = .ok (.iconst (1), 1) := by decide +kernel
theorem d_Lw_law_236 : decode b_Lw_law 236 = .ok (.iadd, 1) := by decide +kernel
theorem d_Lw_law_237 : decode b_Lw_law 237 = .ok (.iaload, 1) := by decide +kernel
theorem d_Lw_law_238 : decode b_Lw_law 238 = .ok (.aload_n 0, 1) := by decide +kernel
theorem d_Lw_law_239 : decode b_Lw_law 239 = .ok (.iload 4, 2) := by decide +kernel
theorem d_Lw_law_241 : decode b_Lw_law 241 = .ok (.iconst (2), 1) := by decide +kernel
theorem d_Lw_law_242 : decode b_Lw_law 242 = .ok (.iadd, 1) := by decide +kernel
theorem d_Lw_law_243 : decode b_Lw_law 243 = .ok (.iaload, 1) := by decide +kernel
theorem d_Lw_law_244 : decode b_Lw_law 244 = .ok (.aload_n 0, 1) := by decide +kernel
theorem d_Lw_law_245 : decode b_Lw_law 245 = .ok (.iload 4, 2) := by decide +kernel
theorem d_Lw_law_247 : decode b_Lw_law 247 = .ok (.iconst (3), 1) := by decide +kernel
theorem d_Lw_law_248 : decode b_Lw_law 248 = .ok (.iadd, 1) := by decide +kernel
theorem d_Lw_law_249 : decode b_Lw_law 249 = .ok (.iaload, 1) := by decide +kernel
theorem d_Lw_law_250 : decode b_Lw_law 250 = .ok (.invokevirtual 58, 3) := by decide +kernel
theorem d_Lw_law_253 : decode b_Lw_law 253 = .ok (.if_icmp .eq (838), 3) := by decide +kernel
theorem d_Lw_law_256 : decode b_Lw_law 256 = .ok (.iconst (0), 1) := by decide +kernel
theorem d_Lw_law_257 : decode b_Lw_law 257 = .ok (.ireturn, 1) := by decide +kernel
theorem d_Lw_law_258 : decode b_Lw_law 258 = .ok (.aload_n 1, 1) := by decide +kernel
theorem d_Lw_law_259 : decode b_Lw_law 259 = .ok (.aload_n 0, 1) := by decide +kernel
theorem d_Lw_law_260 : decode b_Lw_law 260 = .ok (.iload 4, 2) := by decide +kernel
theorem d_Lw_law_262 : decode b_Lw_law 262 = .ok (.iconst (1), 1) := by decide +kernel
theorem d_Lw_law_263 : decode b_Lw_law 263 = .ok (.iadd, 1) := by decide +kernel
theorem d_Lw_law_264 : decode b_Lw_law 264 = .ok (.iaload, 1) := by decide +kernel
theorem d_Lw_law_265 : decode b_Lw_law 265 = .ok (.aload_n 0, 1) := by decide +kernel
theorem d_Lw_law_266 : decode b_Lw_law 266 = .ok (.iload 4, 2) := by decide +kernel
theorem d_Lw_law_268 : decode b_Lw_law 268 = .ok (.iconst (2), 1) := by decide +kernel
theorem d_Lw_law_269 : decode b_Lw_law 269 = .ok (.iadd, 1) := by decide +kernel
theorem d_Lw_law_270 : decode b_Lw_law 270 = .ok (.iaload, 1) := by decide +kernel
theorem d_Lw_law_271 : decode b_Lw_law 271 = .ok (.aload_n 0, 1) := by decide +kernel
theorem d_Lw_law_272 : decode b_Lw_law 272 = .ok (.iload 4, 2) := by decide +kernel
theorem d_Lw_law_274 : decode b_Lw_law 274 = .ok (.iconst (3), 1) := by decide +kernel
theorem d_Lw_law_275 : decode b_Lw_law 275 = .ok (.iadd, 1) := by decide +kernel
theorem d_Lw_law_276 : decode b_Lw_law 276 = .ok (.iaload, 1) := by decide +kernel
theorem d_Lw_law_277 : decode b_Lw_law 277 = .ok (.aload_n 3, 1) := by decide +kernel
theorem d_Lw_law_278 : decode b_Lw_law 278 = .ok (.invokestatic 59, 3) := by decide +kernel
theorem d_Lw_law_281 : decode b_Lw_law 281 = .ok (.istore 5, 2) := by decide +kernel
theorem d_Lw_law_283 : decode b_Lw_law 283 = .ok (.aload_n 2, 1) := by decide +kernel
theorem d_Lw_law_284 : decode b_Lw_law 284 = .ok (.aload_n 0, 1) := by decide +kernel
theorem d_Lw_law_285 : decode b_Lw_law 285 = .ok (.iload 4, 2) := by decide +kernel
theorem d_Lw_law_287 : decode b_Lw_law 287 = .ok (.iconst (1), 1) := by decide +kernel
theorem d_Lw_law_288 : decode b_Lw_law 288 = .ok (.iadd, 1) := by decide +kernel
theorem d_Lw_law_289 : decode b_Lw_law 289 = .ok (.iaload, 1) := by decide +kernel
theorem d_Lw_law_290 : decode b_Lw_law 290 = .ok (.aload_n 0, 1) := by decide +kernel
theorem d_Lw_law_291 : decode b_Lw_law 291 = .ok (.iload 4, 2) := by decide +kernel
theorem d_Lw_law_293 : decode b_Lw_law 293 = .ok (.iconst (2), 1) := by decide +kernel
theorem d_Lw_law_294 : decode b_Lw_law 294 = .ok (.iadd, 1) := by decide +kernel
theorem d_Lw_law_295 : decode b_Lw_law 295 = .ok (.iaload, 1) := by decide +kernel
theorem d_Lw_law_296 : decode b_Lw_law 296 = .ok (.aload_n 0, 1) := by decide +kernel
theorem d_Lw_law_297 : decode b_Lw_law 297 = .ok (.iload 4, 2) := by decide +kernel
theorem d_Lw_law_299 : decode b_Lw_law 299 = .ok (.iconst (3), 1) := by decide +kernel
theorem d_Lw_law_300 : decode b_Lw_law 300 = .ok (.iadd, 1) := by decide +kernel
theorem d_Lw_law_301 : decode b_Lw_law 301 = .ok (.iaload, 1) := by decide +kernel
theorem d_Lw_law_302 : decode b_Lw_law 302 = .ok (.invokevirtual 64, 3) := by decide +kernel
theorem d_Lw_law_305 : decode b_Lw_law 305 = .ok (.istore 6, 2) := by decide +kernel
theorem d_Lw_law_307 : decode b_Lw_law 307 = .ok (.aload_n 2, 1) := by decide +kernel
theorem d_Lw_law_308 : decode b_Lw_law 308 = .ok (.invokevirtual 65, 3) := by decide +kernel
theorem d_Lw_law_311 : decode b_Lw_law 311 = .ok (.iload 5, 2) := by decide +kernel
theorem d_Lw_law_313 : decode b_Lw_law 313 = .ok (.if_icmp .eq (5), 3) := by decide +kernel
theorem d_Lw_law_316 : decode b_Lw_law 316 = .ok (.iconst (0), 1) := by decide +kernel
theorem d_Lw_law_317 : decode b_Lw_law 317 = .ok (.ireturn, 1) := by decide +kernel
theorem d_Lw_law_318 : decode b_Lw_law 318 = .ok (.iload 5, 2) := by decide +kernel
theorem d_Lw_law_320 : decode b_Lw_law 320 = .ok (.ifCond .ne (15), 3) := by decide +kernel
theorem d_Lw_law_323 : decode b_Lw_law 323 = .ok (.aload_n 3, 1) := by decide +kernel
theorem d_Lw_law_324 : decode b_Lw_law 324 = .ok (.iconst (0), 1) := by decide +kernel
theorem d_Lw_law_325 : decode b_Lw_law 325 = .ok (.laload, 1) := by decide +kernel
theorem d_Lw_law_326 : decode b_Lw_law 326 = .ok (.iload 6, 2) := by decide +kernel
theorem d_Lw_law_328 : decode b_Lw_law 328 = .ok (.i2l, 1) := by decide +kernel
theorem d_Lw_law_329 : decode b_Lw_law 329 = .ok (.lcmp, 1) := by decide +kernel
theorem d_Lw_law_330 : decode b_Lw_law 330 = .ok (.ifCond .eq (5), 3) := by decide +kernel
theorem d_Lw_law_333 : decode b_Lw_law 333 = .ok (.iconst (0), 1) := by decide +kernel
theorem d_Lw_law_334 : decode b_Lw_law 334 = .ok (.ireturn, 1) := by decide +kernel
theorem d_Lw_law_335 : decode b_Lw_law 335 = .ok (.goto (756), 3) := by decide +kernel
theorem d_Lw_law_338 : decode b_Lw_law 338 = .ok (.aload_n 1, 1) := by decide +kernel
theorem d_Lw_law_339 : decode b_Lw_law 339 = .ok (.aload_n 0, 1) := by decide +kernel
theorem d_Lw_law_340 : decode b_Lw_law 340 = .ok (.iload 4, 2) := by decide +kernel
theorem d_Lw_law_342 : decode b_Lw_law 342 = .ok (.iconst (1), 1) := by decide +kernel
theorem d_Lw_law_343 : decode b_Lw_law 343 = .ok (.iadd, 1) := by decide +kernel
theorem d_Lw_law_344 : decode b_Lw_law 344 = .ok (.iaload, 1) := by decide +kernel
theorem d_Lw_law_345 : decode b_Lw_law 345 = .ok (.aload_n 0, 1) := by decide +kernel
theorem d_Lw_law_346 : decode b_Lw_law 346 = .ok (.iload 4, 2) := by decide +kernel
theorem d_Lw_law_348 : decode b_Lw_law 348 = .ok (.iconst (2), 1) := by decide +kernel
theorem d_Lw_law_349 : decode b_Lw_law 349 = .ok (.iadd, 1) := by decide +kernel
theorem d_Lw_law_350 : decode b_Lw_law 350 = .ok (.iaload, 1) := by decide +kernel
theorem d_Lw_law_351 : decode b_Lw_law 351 = .ok (.aload_n 3, 1) := by decide +kernel
theorem d_Lw_law_352 : decode b_Lw_law 352 = .ok (.invokestatic 69, 3) := by decide +kernel
theorem d_Lw_law_355 : decode b_Lw_law 355 = .ok (.istore 5, 2) := by decide +kernel
theorem d_Lw_law_357 : decode b_Lw_law 357 = .ok (.aload_n 2, 1) := by decide +kernel
theorem d_Lw_law_358 : decode b_Lw_law 358 = .ok (.aload_n 0, 1) := by decide +kernel
theorem d_Lw_law_359 : decode b_Lw_law 359 = .ok (.iload 4, 2) := by decide +kernel
theorem d_Lw_law_361 : decode b_Lw_law 361 = .ok (.iconst (1), 1) := by decide +kernel
theorem d_Lw_law_362 : decode b_Lw_law 362 = .ok (.iadd, 1) := by decide +kernel
theorem d_Lw_law_363 : decode b_Lw_law 363 = .ok (.iaload, 1) := by decide +kernel
theorem d_Lw_law_364 : decode b_Lw_law 364 = .ok (.aload_n 0, 1) := by decide +kernel
theorem d_Lw_law_365 : decode b_Lw_law 365 = .ok (.iload 4, 2) := by decide +kernel
theorem d_Lw_law_367 : decode b_Lw_law 367 = .ok (.iconst (2), 1) := by decide +kernel
theorem d_Lw_law_368 : decode b_Lw_law 368 = .ok (.iadd, 1) := by decide +kernel
theorem d_Lw_law_369 : decode b_Lw_law 369 = .ok (.iaload, 1) := by decide +kernel
theorem d_Lw_law_370 : decode b_Lw_law 370 = .ok (.invokevirtual 72, 3) := by decide +kernel
theorem d_Lw_law_373 : decode b_Lw_law 373 = .ok (.istore 6, 2) := by decide +kernel
theorem d_Lw_law_375 : decode b_Lw_law 375 = .ok (.aload_n 2, 1) := by decide +kernel
theorem d_Lw_law_376 : decode b_Lw_law 376 = .ok (.invokevirtual 65, 3) := by decide +kernel
theorem d_Lw_law_379 : decode b_Lw_law 379 = .ok (.iload 5, 2) := by decide +kernel
theorem d_Lw_law_381 : decode b_Lw_law 381 = .ok (.if_icmp .eq (5), 3) := by decide +kernel
theorem d_Lw_law_384 : decode b_Lw_law 384 = .ok (.iconst (0), 1) := by decide +kernel
theorem d_Lw_law_385 : decode b_Lw_law 385 = .ok (.ireturn, 1) := by decide +kernel
theorem d_Lw_law_386 : decode b_Lw_law 386 = .ok (.iload 5, 2) := by decide +kernel
theorem d_Lw_law_388 : decode b_Lw_law 388 = .ok (.ifCond .ne (15), 3) := by decide +kernel
theorem d_Lw_law_391 : decode b_Lw_law 391 = .ok (.aload_n 3, 1) := by decide +kernel
theorem d_Lw_law_392 : decode b_Lw_law 392 = .ok (.iconst (0), 1) := by decide +kernel
theorem d_Lw_law_393 : decode b_Lw_law 393 = .ok (.laload, 1) := by decide +kernel
theorem d_Lw_law_394 : decode b_Lw_law 394 = .ok (.iload 6, 2) := by decide +kernel
theorem d_Lw_law_396 : decode b_Lw_law 396 = .ok (.i2l, 1) := by decide +kernel
theorem d_Lw_law_397 : decode b_Lw_law 397 = .ok (.lcmp, 1) := by decide +kernel
theorem d_Lw_law_398 : decode b_Lw_law 398 = .ok (.ifCond .eq (5), 3) := by decide +kernel
theorem d_Lw_law_401 : decode b_Lw_law 401 = .ok (.iconst (0), 1) := by decide +kernel
theorem d_Lw_law_402 : decode b_Lw_law 402 = .ok (.ireturn, 1) := by decide +kernel
theorem d_Lw_law_403 : decode b_Lw_law 403 = .ok (.goto (688), 3) := by decide +kernel
theorem d_Lw_law_406 : decode b_Lw_law 406 = .ok (.aload_n 1, 1) := by decide +kernel
theorem d_Lw_law_407 : decode b_Lw_law 407 = .ok (.aload_n 0, 1) := by decide +kernel
theorem d_Lw_law_408 : decode b_Lw_law 408 = .ok (.iload 4, 2) := by decide +kernel
theorem d_Lw_law_410 : decode b_Lw_law 410 = .ok (.iconst (1), 1) := by decide +kernel
theorem d_Lw_law_411 : decode b_Lw_law 411 = .ok (.iadd, 1) := by decide +kernel
theorem d_Lw_law_412 : decode b_Lw_law 412 = .ok (.iaload, 1) := by decide +kernel
theorem d_Lw_law_413 : decode b_Lw_law 413 = .ok (.aload_n 3, 1) := by decide +kernel
theorem d_Lw_law_414 : decode b_Lw_law 414 = .ok (.invokestatic 73, 3) := by decide +kernel
theorem d_Lw_law_417 : decode b_Lw_law 417 = .ok (.istore 5, 2) := by decide +kernel
theorem d_Lw_law_419 : decode b_Lw_law 419 = .ok (.aload_n 2, 1) := by decide +kernel
theorem d_Lw_law_420 : decode b_Lw_law 420 = .ok (.aload_n 0, 1) := by decide +kernel
theorem d_Lw_law_421 : decode b_Lw_law 421 = .ok (.iload 4, 2) := by decide +kernel
theorem d_Lw_law_423 : decode b_Lw_law 423 = .ok (.iconst (1), 1) := by decide +kernel
theorem d_Lw_law_424 : decode b_Lw_law 424 = .ok (.iadd, 1) := by decide +kernel
theorem d_Lw_law_425 : decode b_Lw_law 425 = .ok (.iaload, 1) := by decide +kernel
theorem d_Lw_law_426 : decode b_Lw_law 426 = .ok (.invokevirtual 76, 3) := by decide +kernel
theorem d_Lw_law_429 : decode b_Lw_law 429 = .ok (.istore 6, 2) := by decide +kernel
theorem d_Lw_law_431 : decode b_Lw_law 431 = .ok (.aload_n 2, 1) := by decide +kernel
theorem d_Lw_law_432 : decode b_Lw_law 432 = .ok (.invokevirtual 65, 3) := by decide +kernel
theorem d_Lw_law_435 : decode b_Lw_law 435 = .ok (.iload 5, 2) := by decide +kernel
theorem d_Lw_law_437 : decode b_Lw_law 437 = .ok (.if_icmp .eq (5), 3) := by decide +kernel
theorem d_Lw_law_440 : decode b_Lw_law 440 = .ok (.iconst (0), 1) := by decide +kernel
theorem d_Lw_law_441 : decode b_Lw_law 441 = .ok (.ireturn, 1) := by decide +kernel
theorem d_Lw_law_442 : decode b_Lw_law 442 = .ok (.iload 5, 2) := by decide +kernel
theorem d_Lw_law_444 : decode b_Lw_law 444 = .ok (.ifCond .ne (15), 3) := by decide +kernel
theorem d_Lw_law_447 : decode b_Lw_law 447 = .ok (.aload_n 3, 1) := by decide +kernel
theorem d_Lw_law_448 : decode b_Lw_law 448 = .ok (.iconst (0), 1) := by decide +kernel
theorem d_Lw_law_449 : decode b_Lw_law 449 = .ok (.laload, 1) := by decide +kernel
theorem d_Lw_law_450 : decode b_Lw_law 450 = .ok (.iload 6, 2) := by decide +kernel
theorem d_Lw_law_452 : decode b_Lw_law 452 = .ok (.i2l, 1) := by decide +kernel
theorem d_Lw_law_453 : decode b_Lw_law 453 = .ok (.lcmp, 1) := by decide +kernel
theorem d_Lw_law_454 : decode b_Lw_law 454 = .ok (.ifCond .eq (5), 3) := by decide +kernel
theorem d_Lw_law_457 : decode b_Lw_law 457 = .ok (.iconst (0), 1) := by decide +kernel
theorem d_Lw_law_458 : decode b_Lw_law 458 = .ok (.ireturn, 1) := by decide +kernel
theorem d_Lw_law_459 : decode b_Lw_law 459 = .ok (.goto (632), 3) := by decide +kernel
theorem d_Lw_law_462 : decode b_Lw_law 462 = .ok (.aload_n 1, 1) := by decide +kernel
theorem d_Lw_law_463 : decode b_Lw_law 463 = .ok (.aload_n 0, 1) := by decide +kernel
theorem d_Lw_law_464 : decode b_Lw_law 464 = .ok (.iload 4, 2) := by decide +kernel
theorem d_Lw_law_466 : decode b_Lw_law 466 = .ok (.iconst (1), 1) := by decide +kernel
theorem d_Lw_law_467 : decode b_Lw_law 467 = .ok (.iadd, 1) := by decide +kernel
theorem d_Lw_law_468 : decode b_Lw_law 468 = .ok (.iaload, 1) := by decide +kernel
theorem d_Lw_law_469 : decode b_Lw_law 469 = .ok (.aload_n 3, 1) := by decide +kernel
theorem d_Lw_law_470 : decode b_Lw_law 470 = .ok (.invokestatic 77, 3) := by decide +kernel
theorem d_Lw_law_473 : decode b_Lw_law 473 = .ok (.istore 5, 2) := by decide +kernel
theorem d_Lw_law_475 : decode b_Lw_law 475 = .ok (.aload_n 2, 1) := by decide +kernel
theorem d_Lw_law_476 : decode b_Lw_law 476 = .ok (.aload_n 0, 1) := by decide +kernel
theorem d_Lw_law_477 : decode b_Lw_law 477 = .ok (.iload 4, 2) := by decide +kernel
theorem d_Lw_law_479 : decode b_Lw_law 479 = .ok (.iconst (1), 1) := by decide +kernel
theorem d_Lw_law_480 : decode b_Lw_law 480 = .ok (.iadd, 1) := by decide +kernel
theorem d_Lw_law_481 : decode b_Lw_law 481 = .ok (.iaload, 1) := by decide +kernel
theorem d_Lw_law_482 : decode b_Lw_law 482 = .ok (.invokevirtual 79, 3) := by decide +kernel
theorem d_Lw_law_485 : decode b_Lw_law 485 = .ok (.istore 6, 2) := by decide +kernel
theorem d_Lw_law_487 : decode b_Lw_law 487 = .ok (.aload_n 2, 1) := by decide +kernel
theorem d_Lw_law_488 : decode b_Lw_law 488 = .ok (.invokevirtual 65, 3) := by decide +kernel
theorem d_Lw_law_491 : decode b_Lw_law 491 = .ok (.iload 5, 2) := by decide +kernel
theorem d_Lw_law_493 : decode b_Lw_law 493 = .ok (.if_icmp .eq (5), 3) := by decide +kernel
theorem d_Lw_law_496 : decode b_Lw_law 496 = .ok (.iconst (0), 1) := by decide +kernel
theorem d_Lw_law_497 : decode b_Lw_law 497 = .ok (.ireturn, 1) := by decide +kernel
theorem d_Lw_law_498 : decode b_Lw_law 498 = .ok (.iload 5, 2) := by decide +kernel
theorem d_Lw_law_500 : decode b_Lw_law 500 = .ok (.ifCond .ne (15), 3) := by decide +kernel
theorem d_Lw_law_503 : decode b_Lw_law 503 = .ok (.aload_n 3, 1) := by decide +kernel
theorem d_Lw_law_504 : decode b_Lw_law 504 = .ok (.iconst (0), 1) := by decide +kernel
theorem d_Lw_law_505 : decode b_Lw_law 505 = .ok (.laload, 1) := by decide +kernel
theorem d_Lw_law_506 : decode b_Lw_law 506 = .ok (.iload 6, 2) := by decide +kernel
theorem d_Lw_law_508 : decode b_Lw_law 508 = .ok (.i2l, 1) := by decide +kernel
theorem d_Lw_law_509 : decode b_Lw_law 509 = .ok (.lcmp, 1) := by decide +kernel
theorem d_Lw_law_510 : decode b_Lw_law 510 = .ok (.ifCond .eq (5), 3) := by decide +kernel
theorem d_Lw_law_513 : decode b_Lw_law 513 = .ok (.iconst (0), 1) := by decide +kernel
theorem d_Lw_law_514 : decode b_Lw_law 514 = .ok (.ireturn, 1) := by decide +kernel
theorem d_Lw_law_515 : decode b_Lw_law 515 = .ok (.goto (576), 3) := by decide +kernel
theorem d_Lw_law_518 : decode b_Lw_law 518 = .ok (.aload_n 1, 1) := by decide +kernel
theorem d_Lw_law_519 : decode b_Lw_law 519 = .ok (.aload_n 0, 1) := by decide +kernel
theorem d_Lw_law_520 : decode b_Lw_law 520 = .ok (.iload 4, 2) := by decide +kernel
theorem d_Lw_law_522 : decode b_Lw_law 522 = .ok (.iconst (1), 1) := by decide +kernel
theorem d_Lw_law_523 : decode b_Lw_law 523 = .ok (.iadd, 1) := by decide +kernel
theorem d_Lw_law_524 : decode b_Lw_law 524 = .ok (.iaload, 1) := by decide +kernel
theorem d_Lw_law_525 : decode b_Lw_law 525 = .ok (.aload_n 0, 1) := by decide +kernel
theorem d_Lw_law_526 : decode b_Lw_law 526 = .ok (.iload 4, 2) := by decide +kernel
theorem d_Lw_law_528 : decode b_Lw_law 528 = .ok (.iconst (2), 1) := by decide +kernel
theorem d_Lw_law_529 : decode b_Lw_law 529 = .ok (.iadd, 1) := by decide +kernel
theorem d_Lw_law_530 : decode b_Lw_law 530 = .ok (.iaload, 1) := by decide +kernel
theorem d_Lw_law_531 : decode b_Lw_law 531 = .ok (.aload_n 3, 1) := by decide +kernel
theorem d_Lw_law_532 : decode b_Lw_law 532 = .ok (.invokestatic 80, 3) := by decide +kernel
theorem d_Lw_law_535 : decode b_Lw_law 535 = .ok (.istore 5, 2) := by decide +kernel
theorem d_Lw_law_537 : decode b_Lw_law 537 = .ok (.aload_n 2, 1) := by decide +kernel
theorem d_Lw_law_538 : decode b_Lw_law 538 = .ok (.aload_n 0, 1) := by decide +kernel
theorem d_Lw_law_539 : decode b_Lw_law 539 = .ok (.iload 4, 2) := by decide +kernel
theorem d_Lw_law_541 : decode b_Lw_law 541 = .ok (.iconst (1), 1) := by decide +kernel
theorem d_Lw_law_542 : decode b_Lw_law 542 = .ok (.iadd, 1) := by decide +kernel
theorem d_Lw_law_543 : decode b_Lw_law 543 = .ok (.iaload, 1) := by decide +kernel
theorem d_Lw_law_544 : decode b_Lw_law 544 = .ok (.aload_n 0, 1) := by decide +kernel
theorem d_Lw_law_545 : decode b_Lw_law 545 = .ok (.iload 4, 2) := by decide +kernel
theorem d_Lw_law_547 : decode b_Lw_law 547 = .ok (.iconst (2), 1) := by decide +kernel
theorem d_Lw_law_548 : decode b_Lw_law 548 = .ok (.iadd, 1) := by decide +kernel
theorem d_Lw_law_549 : decode b_Lw_law 549 = .ok (.iaload, 1) := by decide +kernel
theorem d_Lw_law_550 : decode b_Lw_law 550 = .ok (.invokevirtual 82, 3) := by decide +kernel
theorem d_Lw_law_553 : decode b_Lw_law 553 = .ok (.istore 6, 2) := by decide +kernel
theorem d_Lw_law_555 : decode b_Lw_law 555 = .ok (.aload_n 2, 1) := by decide +kernel
theorem d_Lw_law_556 : decode b_Lw_law 556 = .ok (.invokevirtual 65, 3) := by decide +kernel
theorem d_Lw_law_559 : decode b_Lw_law 559 = .ok (.iload 5, 2) := by decide +kernel
theorem d_Lw_law_561 : decode b_Lw_law 561 = .ok (.if_icmp .eq (5), 3) := by decide +kernel
theorem d_Lw_law_564 : decode b_Lw_law 564 = .ok (.iconst (0), 1) := by decide +kernel
theorem d_Lw_law_565 : decode b_Lw_law 565 = .ok (.ireturn, 1) := by decide +kernel
theorem d_Lw_law_566 : decode b_Lw_law 566 = .ok (.iload 5, 2) := by decide +kernel
theorem d_Lw_law_568 : decode b_Lw_law 568 = .ok (.ifCond .ne (15), 3) := by decide +kernel
theorem d_Lw_law_571 : decode b_Lw_law 571 = .ok (.aload_n 3, 1) := by decide +kernel
theorem d_Lw_law_572 : decode b_Lw_law 572 = .ok (.iconst (0), 1) := by decide +kernel
theorem d_Lw_law_573 : decode b_Lw_law 573 = .ok (.laload, 1) := by decide +kernel
theorem d_Lw_law_574 : decode b_Lw_law 574 = .ok (.iload 6, 2) := by decide +kernel
theorem d_Lw_law_576 : decode b_Lw_law 576 = .ok (.i2l, 1) := by decide +kernel
theorem d_Lw_law_577 : decode b_Lw_law 577 = .ok (.lcmp, 1) := by decide +kernel
theorem d_Lw_law_578 : decode b_Lw_law 578 = .ok (.ifCond .eq (5), 3) := by decide +kernel
theorem d_Lw_law_581 : decode b_Lw_law 581 = .ok (.iconst (0), 1) := by decide +kernel
theorem d_Lw_law_582 : decode b_Lw_law 582 = .ok (.ireturn, 1) := by decide +kernel
theorem d_Lw_law_583 : decode b_Lw_law 583 = .ok (.goto (508), 3) := by decide +kernel
theorem d_Lw_law_586 : decode b_Lw_law 586 = .ok (.aload_n 1, 1) := by decide +kernel
theorem d_Lw_law_587 : decode b_Lw_law 587 = .ok (.aload_n 0, 1) := by decide +kernel
theorem d_Lw_law_588 : decode b_Lw_law 588 = .ok (.iload 4, 2) := by decide +kernel
theorem d_Lw_law_590 : decode b_Lw_law 590 = .ok (.iconst (1), 1) := by decide +kernel
theorem d_Lw_law_591 : decode b_Lw_law 591 = .ok (.iadd, 1) := by decide +kernel
theorem d_Lw_law_592 : decode b_Lw_law 592 = .ok (.iaload, 1) := by decide +kernel
theorem d_Lw_law_593 : decode b_Lw_law 593 = .ok (.aload_n 3, 1) := by decide +kernel
theorem d_Lw_law_594 : decode b_Lw_law 594 = .ok (.invokestatic 83, 3) := by decide +kernel
theorem d_Lw_law_597 : decode b_Lw_law 597 = .ok (.istore 5, 2) := by decide +kernel
theorem d_Lw_law_599 : decode b_Lw_law 599 = .ok (.aload_n 2, 1) := by decide +kernel
theorem d_Lw_law_600 : decode b_Lw_law 600 = .ok (.aload_n 0, 1) := by decide +kernel
theorem d_Lw_law_601 : decode b_Lw_law 601 = .ok (.iload 4, 2) := by decide +kernel
theorem d_Lw_law_603 : decode b_Lw_law 603 = .ok (.iconst (1), 1) := by decide +kernel
theorem d_Lw_law_604 : decode b_Lw_law 604 = .ok (.iadd, 1) := by decide +kernel
theorem d_Lw_law_605 : decode b_Lw_law 605 = .ok (.iaload, 1) := by decide +kernel
theorem d_Lw_law_606 : decode b_Lw_law 606 = .ok (.invokevirtual 85, 3) := by decide +kernel
theorem d_Lw_law_609 : decode b_Lw_law 609 = .ok (.istore 6, 2) := by decide +kernel
theorem d_Lw_law_611 : decode b_Lw_law 611 = .ok (.aload_n 2, 1) := by decide +kernel
theorem d_Lw_law_612 : decode b_Lw_law 612 = .ok (.invokevirtual 65, 3) := by decide +kernel
theorem d_Lw_law_615 : decode b_Lw_law 615 = .ok (.iload 5, 2) := by decide +kernel
theorem d_Lw_law_617 : decode b_Lw_law 617 = .ok (.if_icmp .eq (5), 3) := by decide +kernel
theorem d_Lw_law_620 : decode b_Lw_law 620 = .ok (.iconst (0), 1) := by decide +kernel
theorem d_Lw_law_621 : decode b_Lw_law 621 = .ok (.ireturn, 1) := by decide +kernel
theorem d_Lw_law_622 : decode b_Lw_law 622 = .ok (.iload 5, 2) := by decide +kernel
theorem d_Lw_law_624 : decode b_Lw_law 624 = .ok (.ifCond .ne (22), 3) := by decide +kernel
theorem d_Lw_law_627 : decode b_Lw_law 627 = .ok (.aload_n 3, 1) := by decide +kernel
theorem d_Lw_law_628 : decode b_Lw_law 628 = .ok (.iconst (0), 1) := by decide +kernel
theorem d_Lw_law_629 : decode b_Lw_law 629 = .ok (.laload, 1) := by decide +kernel
theorem d_Lw_law_630 : decode b_Lw_law 630 = .ok (.iload 6, 2) := by decide +kernel
theorem d_Lw_law_632 : decode b_Lw_law 632 = .ok (.ifCond .eq (7), 3) := by decide +kernel
theorem d_Lw_law_635 : decode b_Lw_law 635 = .ok (.lconst 1, 1) := by decide +kernel
theorem d_Lw_law_636 : decode b_Lw_law 636 = .ok (.goto (4), 3) := by decide +kernel
theorem d_Lw_law_639 : decode b_Lw_law 639 = .ok (.lconst 0, 1) := by decide +kernel
theorem d_Lw_law_640 : decode b_Lw_law 640 = .ok (.lcmp, 1) := by decide +kernel
theorem d_Lw_law_641 : decode b_Lw_law 641 = .ok (.ifCond .eq (5), 3) := by decide +kernel
theorem d_Lw_law_644 : decode b_Lw_law 644 = .ok (.iconst (0), 1) := by decide +kernel
theorem d_Lw_law_645 : decode b_Lw_law 645 = .ok (.ireturn, 1) := by decide +kernel
theorem d_Lw_law_646 : decode b_Lw_law 646 = .ok (.goto (445), 3) := by decide +kernel
theorem d_Lw_law_649 : decode b_Lw_law 649 = .ok (.aload_n 1, 1) := by decide +kernel
theorem d_Lw_law_650 : decode b_Lw_law 650 = .ok (.aload_n 0, 1) := by decide +kernel
theorem d_Lw_law_651 : decode b_Lw_law 651 = .ok (.iload 4, 2) := by decide +kernel
theorem d_Lw_law_653 : decode b_Lw_law 653 = .ok (.iconst (1), 1) := by decide +kernel
theorem d_Lw_law_654 : decode b_Lw_law 654 = .ok (.iadd, 1) := by decide +kernel
theorem d_Lw_law_655 : decode b_Lw_law 655 = .ok (.iaload, 1) := by decide +kernel
theorem d_Lw_law_656 : decode b_Lw_law 656 = .ok (.aload_n 3, 1) := by decide +kernel
theorem d_Lw_law_657 : decode b_Lw_law 657 = .ok (.invokestatic 86, 3) := by decide +kernel
theorem d_Lw_law_660 : decode b_Lw_law 660 = .ok (.istore 5, 2) := by decide +kernel
theorem d_Lw_law_662 : decode b_Lw_law 662 = .ok (.aload_n 2, 1) := by decide +kernel
theorem d_Lw_law_663 : decode b_Lw_law 663 = .ok (.aload_n 0, 1) := by decide +kernel
theorem d_Lw_law_664 : decode b_Lw_law 664 = .ok (.iload 4, 2) := by decide +kernel
theorem d_Lw_law_666 : decode b_Lw_law 666 = .ok (.iconst (1), 1) := by decide +kernel
theorem d_Lw_law_667 : decode b_Lw_law 667 = .ok (.iadd, 1) := by decide +kernel
theorem d_Lw_law_668 : decode b_Lw_law 668 = .ok (.iaload, 1) := by decide +kernel
theorem d_Lw_law_669 : decode b_Lw_law 669 = .ok (.invokevirtual 88, 3) := by decide +kernel
theorem d_Lw_law_672 : decode b_Lw_law 672 = .ok (.istore 6, 2) := by decide +kernel
theorem d_Lw_law_674 : decode b_Lw_law 674 = .ok (.aload_n 2, 1) := by decide +kernel
theorem d_Lw_law_675 : decode b_Lw_law 675 = .ok (.invokevirtual 65, 3) := by decide +kernel
theorem d_Lw_law_678 : decode b_Lw_law 678 = .ok (.iload 5, 2) := by decide +kernel
theorem d_Lw_law_680 : decode b_Lw_law 680 = .ok (.if_icmp .eq (5), 3) := by decide +kernel
theorem d_Lw_law_683 : decode b_Lw_law 683 = .ok (.iconst (0), 1) := by decide +kernel
theorem d_Lw_law_684 : decode b_Lw_law 684 = .ok (.ireturn, 1) := by decide +kernel
theorem d_Lw_law_685 : decode b_Lw_law 685 = .ok (.iload 5, 2) := by decide +kernel
theorem d_Lw_law_687 : decode b_Lw_law 687 = .ok (.ifCond .ne (22), 3) := by decide +kernel
theorem d_Lw_law_690 : decode b_Lw_law 690 = .ok (.aload_n 3, 1) := by decide +kernel
theorem d_Lw_law_691 : decode b_Lw_law 691 = .ok (.iconst (0), 1) := by decide +kernel
theorem d_Lw_law_692 : decode b_Lw_law 692 = .ok (.laload, 1) := by decide +kernel
theorem d_Lw_law_693 : decode b_Lw_law 693 = .ok (.iload 6, 2) := by decide +kernel
theorem d_Lw_law_695 : decode b_Lw_law 695 = .ok (.ifCond .eq (7), 3) := by decide +kernel
theorem d_Lw_law_698 : decode b_Lw_law 698 = .ok (.lconst 1, 1) := by decide +kernel
theorem d_Lw_law_699 : decode b_Lw_law 699 = .ok (.goto (4), 3) := by decide +kernel
theorem d_Lw_law_702 : decode b_Lw_law 702 = .ok (.lconst 0, 1) := by decide +kernel
theorem d_Lw_law_703 : decode b_Lw_law 703 = .ok (.lcmp, 1) := by decide +kernel
theorem d_Lw_law_704 : decode b_Lw_law 704 = .ok (.ifCond .eq (5), 3) := by decide +kernel
theorem d_Lw_law_707 : decode b_Lw_law 707 = .ok (.iconst (0), 1) := by decide +kernel
theorem d_Lw_law_708 : decode b_Lw_law 708 = .ok (.ireturn, 1) := by decide +kernel
theorem d_Lw_law_709 : decode b_Lw_law 709 = .ok (.goto (382), 3) := by decide +kernel
theorem d_Lw_law_712 : decode b_Lw_law 712 = .ok (.aload_n 1, 1) := by decide +kernel
theorem d_Lw_law_713 : decode b_Lw_law 713 = .ok (.aload_n 0, 1) := by decide +kernel
theorem d_Lw_law_714 : decode b_Lw_law 714 = .ok (.iload 4, 2) := by decide +kernel
theorem d_Lw_law_716 : decode b_Lw_law 716 = .ok (.iconst (1), 1) := by decide +kernel
theorem d_Lw_law_717 : decode b_Lw_law 717 = .ok (.iadd, 1) := by decide +kernel
theorem d_Lw_law_718 : decode b_Lw_law 718 = .ok (.iaload, 1) := by decide +kernel
theorem d_Lw_law_719 : decode b_Lw_law 719 = .ok (.aload_n 0, 1) := by decide +kernel
theorem d_Lw_law_720 : decode b_Lw_law 720 = .ok (.iload 4, 2) := by decide +kernel
theorem d_Lw_law_722 : decode b_Lw_law 722 = .ok (.iconst (2), 1) := by decide +kernel
theorem d_Lw_law_723 : decode b_Lw_law 723 = .ok (.iadd, 1) := by decide +kernel
theorem d_Lw_law_724 : decode b_Lw_law 724 = .ok (.iaload, 1) := by decide +kernel
theorem d_Lw_law_725 : decode b_Lw_law 725 = .ok (.aload_n 3, 1) := by decide +kernel
theorem d_Lw_law_726 : decode b_Lw_law 726 = .ok (.invokestatic 89, 3) := by decide +kernel
theorem d_Lw_law_729 : decode b_Lw_law 729 = .ok (.istore 5, 2) := by decide +kernel
theorem d_Lw_law_731 : decode b_Lw_law 731 = .ok (.aload_n 2, 1) := by decide +kernel
theorem d_Lw_law_732 : decode b_Lw_law 732 = .ok (.aload_n 0, 1) := by decide +kernel
theorem d_Lw_law_733 : decode b_Lw_law 733 = .ok (.iload 4, 2) := by decide +kernel
theorem d_Lw_law_735 : decode b_Lw_law 735 = .ok (.iconst (1), 1) := by decide +kernel
theorem d_Lw_law_736 : decode b_Lw_law 736 = .ok (.iadd, 1) := by decide +kernel
theorem d_Lw_law_737 : decode b_Lw_law 737 = .ok (.iaload, 1) := by decide +kernel
theorem d_Lw_law_738 : decode b_Lw_law 738 = .ok (.aload_n 0, 1) := by decide +kernel
theorem d_Lw_law_739 : decode b_Lw_law 739 = .ok (.iload 4, 2) := by decide +kernel
theorem d_Lw_law_741 : decode b_Lw_law 741 = .ok (.iconst (2), 1) := by decide +kernel
theorem d_Lw_law_742 : decode b_Lw_law 742 = .ok (.iadd, 1) := by decide +kernel
theorem d_Lw_law_743 : decode b_Lw_law 743 = .ok (.iaload, 1) := by decide +kernel
theorem d_Lw_law_744 : decode b_Lw_law 744 = .ok (.invokevirtual 91, 3) := by decide +kernel
theorem d_Lw_law_747 : decode b_Lw_law 747 = .ok (.istore 6, 2) := by decide +kernel
theorem d_Lw_law_749 : decode b_Lw_law 749 = .ok (.aload_n 2, 1) := by decide +kernel
theorem d_Lw_law_750 : decode b_Lw_law 750 = .ok (.invokevirtual 65, 3) := by decide +kernel
theorem d_Lw_law_753 : decode b_Lw_law 753 = .ok (.iload 5, 2) := by decide +kernel
theorem d_Lw_law_755 : decode b_Lw_law 755 = .ok (.if_icmp .eq (5), 3) := by decide +kernel
theorem d_Lw_law_758 : decode b_Lw_law 758 = .ok (.iconst (0), 1) := by decide +kernel
theorem d_Lw_law_759 : decode b_Lw_law 759 = .ok (.ireturn, 1) := by decide +kernel
theorem d_Lw_law_760 : decode b_Lw_law 760 = .ok (.iload 5, 2) := by decide +kernel
theorem d_Lw_law_762 : decode b_Lw_law 762 = .ok (.ifCond .ne (15), 3) := by decide +kernel
theorem d_Lw_law_765 : decode b_Lw_law 765 = .ok (.aload_n 3, 1) := by decide +kernel
theorem d_Lw_law_766 : decode b_Lw_law 766 = .ok (.iconst (0), 1) := by decide +kernel
theorem d_Lw_law_767 : decode b_Lw_law 767 = .ok (.laload, 1) := by decide +kernel
theorem d_Lw_law_768 : decode b_Lw_law 768 = .ok (.iload 6, 2) := by decide +kernel
theorem d_Lw_law_770 : decode b_Lw_law 770 = .ok (.i2l, 1) := by decide +kernel
theorem d_Lw_law_771 : decode b_Lw_law 771 = .ok (.lcmp, 1) := by decide +kernel
theorem d_Lw_law_772 : decode b_Lw_law 772 = .ok (.ifCond .eq (5), 3) := by decide +kernel
theorem d_Lw_law_775 : decode b_Lw_law 775 = .ok (.iconst (0), 1) := by decide +kernel
theorem d_Lw_law_776 : decode b_Lw_law 776 = .ok (.ireturn, 1) := by decide +kernel
theorem d_Lw_law_777 : decode b_Lw_law 777 = .ok (.goto (314), 3) := by decide +kernel
theorem d_Lw_law_780 : decode b_Lw_law 780 = .ok (.aload_n 1, 1) := by decide +kernel
theorem d_Lw_law_781 : decode b_Lw_law 781 = .ok (.aload_n 0, 1) := by decide +kernel
theorem d_Lw_law_782 : decode b_Lw_law 782 = .ok (.iload 4, 2) := by decide +kernel
theorem d_Lw_law_784 : decode b_Lw_law 784 = .ok (.iconst (1), 1) := by decide +kernel
theorem d_Lw_law_785 : decode b_Lw_law 785 = .ok (.iadd, 1) := by decide +kernel
theorem d_Lw_law_786 : decode b_Lw_law 786 = .ok (.iaload, 1) := by decide +kernel
theorem d_Lw_law_787 : decode b_Lw_law 787 = .ok (.aload_n 0, 1) := by decide +kernel
theorem d_Lw_law_788 : decode b_Lw_law 788 = .ok (.iload 4, 2) := by decide +kernel
theorem d_Lw_law_790 : decode b_Lw_law 790 = .ok (.iconst (2), 1) := by decide +kernel
theorem d_Lw_law_791 : decode b_Lw_law 791 = .ok (.iadd, 1) := by decide +kernel
theorem d_Lw_law_792 : decode b_Lw_law 792 = .ok (.iaload, 1) := by decide +kernel
theorem d_Lw_law_793 : decode b_Lw_law 793 = .ok (.invokevirtual 92, 3) := by decide +kernel
theorem d_Lw_law_796 : decode b_Lw_law 796 = .ok (.aload_n 2, 1) := by decide +kernel
theorem d_Lw_law_797 : decode b_Lw_law 797 = .ok (.aload_n 0, 1) := by decide +kernel
theorem d_Lw_law_798 : decode b_Lw_law 798 = .ok (.iload 4, 2) := by decide +kernel
theorem d_Lw_law_800 : decode b_Lw_law 800 = .ok (.iconst (1), 1) := by decide +kernel
theorem d_Lw_law_801 : decode b_Lw_law 801 = .ok (.iadd, 1) := by decide +kernel
theorem d_Lw_law_802 : decode b_Lw_law 802 = .ok (.iaload, 1) := by decide +kernel
theorem d_Lw_law_803 : decode b_Lw_law 803 = .ok (.aload_n 0, 1) := by decide +kernel
theorem d_Lw_law_804 : decode b_Lw_law 804 = .ok (.iload 4, 2) := by decide +kernel
theorem d_Lw_law_806 : decode b_Lw_law 806 = .ok (.iconst (2), 1) := by decide +kernel
theorem d_Lw_law_807 : decode b_Lw_law 807 = .ok (.iadd, 1) := by decide +kernel
theorem d_Lw_law_808 : decode b_Lw_law 808 = .ok (.iaload, 1) := by decide +kernel
theorem d_Lw_law_809 : decode b_Lw_law 809 = .ok (.invokevirtual 95, 3) := by decide +kernel
theorem d_Lw_law_812 : decode b_Lw_law 812 = .ok (.if_icmp .eq (279), 3) := by decide +kernel
theorem d_Lw_law_815 : decode b_Lw_law 815 = .ok (.iconst (0), 1) := by decide +kernel
theorem d_Lw_law_816 : decode b_Lw_law 816 = .ok (.ireturn, 1) := by decide +kernel
theorem d_Lw_law_817 : decode b_Lw_law 817 = .ok (.aload_n 1, 1) := by decide +kernel
theorem d_Lw_law_818 : decode b_Lw_law 818 = .ok (.aload_n 0, 1) := by decide +kernel
theorem d_Lw_law_819 : decode b_Lw_law 819 = .ok (.iload 4, 2) := by decide +kernel
theorem d_Lw_law_821 : decode b_Lw_law 821 = .ok (.iconst (1), 1) := by decide +kernel
theorem d_Lw_law_822 : decode b_Lw_law 822 = .ok (.iadd, 1) := by decide +kernel
theorem d_Lw_law_823 : decode b_Lw_law 823 = .ok (.iaload, 1) := by decide +kernel
theorem d_Lw_law_824 : decode b_Lw_law 824 = .ok (.aload_n 0, 1) := by decide +kernel
theorem d_Lw_law_825 : decode b_Lw_law 825 = .ok (.iload 4, 2) := by decide +kernel
theorem d_Lw_law_827 : decode b_Lw_law 827 = .ok (.iconst (2), 1) := by decide +kernel
theorem d_Lw_law_828 : decode b_Lw_law 828 = .ok (.iadd, 1) := by decide +kernel
theorem d_Lw_law_829 : decode b_Lw_law 829 = .ok (.iaload, 1) := by decide +kernel
theorem d_Lw_law_830 : decode b_Lw_law 830 = .ok (.invokevirtual 96, 3) := by decide +kernel
theorem d_Lw_law_833 : decode b_Lw_law 833 = .ok (.aload_n 2, 1) := by decide +kernel
theorem d_Lw_law_834 : decode b_Lw_law 834 = .ok (.aload_n 0, 1) := by decide +kernel
theorem d_Lw_law_835 : decode b_Lw_law 835 = .ok (.iload 4, 2) := by decide +kernel
theorem d_Lw_law_837 : decode b_Lw_law 837 = .ok (.iconst (1), 1) := by decide +kernel
theorem d_Lw_law_838 : decode b_Lw_law 838 = .ok (.iadd, 1) := by decide +kernel
theorem d_Lw_law_839 : decode b_Lw_law 839 = .ok (.iaload, 1) := by decide +kernel
theorem d_Lw_law_840 : decode b_Lw_law 840 = .ok (.aload_n 0, 1) := by decide +kernel
theorem d_Lw_law_841 : decode b_Lw_law 841 = .ok (.iload 4, 2) := by decide +kernel
theorem d_Lw_law_843 : decode b_Lw_law 843 = .ok (.iconst (2), 1) := by decide +kernel
theorem d_Lw_law_844 : decode b_Lw_law 844 = .ok (.iadd, 1) := by decide +kernel
theorem d_Lw_law_845 : decode b_Lw_law 845 = .ok (.iaload, 1) := by decide +kernel
theorem d_Lw_law_846 : decode b_Lw_law 846 = .ok (.invokevirtual 99, 3) := by decide +kernel
theorem d_Lw_law_849 : decode b_Lw_law 849 = .ok (.if_icmp .eq (242), 3) := by decide +kernel
theorem d_Lw_law_852 : decode b_Lw_law 852 = .ok (.iconst (0), 1) := by decide +kernel
theorem d_Lw_law_853 : decode b_Lw_law 853 = .ok (.ireturn, 1) := by decide +kernel
theorem d_Lw_law_854 : decode b_Lw_law 854 = .ok (.aload_n 1, 1) := by decide +kernel
theorem d_Lw_law_855 : decode b_Lw_law 855 = .ok (.aload_n 0, 1) := by decide +kernel
theorem d_Lw_law_856 : decode b_Lw_law 856 = .ok (.iload 4, 2) := by decide +kernel
theorem d_Lw_law_858 : decode b_Lw_law 858 = .ok (.iconst (1), 1) := by decide +kernel
theorem d_Lw_law_859 : decode b_Lw_law 859 = .ok (.iadd, 1) := by decide +kernel
theorem d_Lw_law_860 : decode b_Lw_law 860 = .ok (.iaload, 1) := by decide +kernel
theorem d_Lw_law_861 : decode b_Lw_law 861 = .ok (.aload_n 0, 1) := by decide +kernel
theorem d_Lw_law_862 : decode b_Lw_law 862 = .ok (.iload 4, 2) := by decide +kernel
theorem d_Lw_law_864 : decode b_Lw_law 864 = .ok (.iconst (2), 1) := by decide +kernel
theorem d_Lw_law_865 : decode b_Lw_law 865 = .ok (.iadd, 1) := by decide +kernel
theorem d_Lw_law_866 : decode b_Lw_law 866 = .ok (.iaload, 1) := by decide +kernel
theorem d_Lw_law_867 : decode b_Lw_law 867 = .ok (.aload_n 0, 1) := by decide +kernel
theorem d_Lw_law_868 : decode b_Lw_law 868 = .ok (.iload 4, 2) := by decide +kernel
theorem d_Lw_law_870 : decode b_Lw_law 870 = .ok (.iconst (3), 1) := by decide +kernel
theorem d_Lw_law_871 : decode b_Lw_law 871 = .ok (.iadd, 1) := by decide +kernel
theorem d_Lw_law_872 : decode b_Lw_law 872 = .ok (.iaload, 1) := by decide +kernel
theorem d_Lw_law_873 : decode b_Lw_law 873 = .ok (.invokevirtual 100, 3) := by decide +kernel
theorem d_Lw_law_876 : decode b_Lw_law 876 = .ok (.aload_n 2, 1) := by decide +kernel
theorem d_Lw_law_877 : decode b_Lw_law 877 = .ok (.aload_n 0, 1) := by decide +kernel
theorem d_Lw_law_878 : decode b_Lw_law 878 = .ok (.iload 4, 2) := by decide +kernel
theorem d_Lw_law_880 : decode b_Lw_law 880 = .ok (.iconst (1), 1) := by decide +kernel
theorem d_Lw_law_881 : decode b_Lw_law 881 = .ok (.iadd, 1) := by decide +kernel
theorem d_Lw_law_882 : decode b_Lw_law 882 = .ok (.iaload, 1) := by decide +kernel
theorem d_Lw_law_883 : decode b_Lw_law 883 = .ok (.aload_n 0, 1) := by decide +kernel
theorem d_Lw_law_884 : decode b_Lw_law 884 = .ok (.iload 4, 2) := by decide +kernel
theorem d_Lw_law_886 : decode b_Lw_law 886 = .ok (.iconst (2), 1) := by decide +kernel
theorem d_Lw_law_887 : decode b_Lw_law 887 = .ok (.iadd, 1) := by decide +kernel
theorem d_Lw_law_888 : decode b_Lw_law 888 = .ok (.iaload, 1) := by decide +kernel
theorem d_Lw_law_889 : decode b_Lw_law 889 = .ok (.aload_n 0, 1) := by decide +kernel
theorem d_Lw_law_890 : decode b_Lw_law 890 = .ok (.iload 4, 2) := by decide +kernel
theorem d_Lw_law_892 : decode b_Lw_law 892 = .ok (.iconst (3), 1) := by decide +kernel
theorem d_Lw_law_893 : decode b_Lw_law 893 = .ok (.iadd, 1) := by decide +kernel
theorem d_Lw_law_894 : decode b_Lw_law 894 = .ok (.iaload, 1) := by decide +kernel
theorem d_Lw_law_895 : decode b_Lw_law 895 = .ok (.invokevirtual 103, 3) := by decide +kernel
theorem d_Lw_law_898 : decode b_Lw_law 898 = .ok (.if_icmp .eq (193), 3) := by decide +kernel
theorem d_Lw_law_901 : decode b_Lw_law 901 = .ok (.iconst (0), 1) := by decide +kernel
theorem d_Lw_law_902 : decode b_Lw_law 902 = .ok (.ireturn, 1) := by decide +kernel
theorem d_Lw_law_903 : decode b_Lw_law 903 = .ok (.aload_n 1, 1) := by decide +kernel
theorem d_Lw_law_904 : decode b_Lw_law 904 = .ok (.aload_n 0, 1) := by decide +kernel
theorem d_Lw_law_905 : decode b_Lw_law 905 = .ok (.iload 4, 2) := by decide +kernel
theorem d_Lw_law_907 : decode b_Lw_law 907 = .ok (.iconst (1), 1) := by decide +kernel
theorem d_Lw_law_908 : decode b_Lw_law 908 = .ok (.iadd, 1) := by decide +kernel
theorem d_Lw_law_909 : decode b_Lw_law 909 = .ok (.iaload, 1) := by decide +kernel
theorem d_Lw_law_910 : decode b_Lw_law 910 = .ok (.aload_n 0, 1) := by decide +kernel
theorem d_Lw_law_911 : decode b_Lw_law 911 = .ok (.iload 4, 2) := by decide +kernel
theorem d_Lw_law_913 : decode b_Lw_law 913 = .ok (.iconst (2), 1) := by decide +kernel
theorem d_Lw_law_914 : decode b_Lw_law 914 = .ok (.iadd, 1) := by decide +kernel
theorem d_Lw_law_915 : decode b_Lw_law 915 = .ok (.iaload, 1) := by decide +kernel
theorem d_Lw_law_916 : decode b_Lw_law 916 = .ok (.invokevirtual 104, 3) := by decide +kernel
theorem d_Lw_law_919 : decode b_Lw_law 919 = .ok (.aload_n 2, 1) := by decide +kernel
theorem d_Lw_law_920 : decode b_Lw_law 920 = .ok (.aload_n 0, 1) := by decide +kernel
theorem d_Lw_law_921 : decode b_Lw_law 921 = .ok (.iload 4, 2) := by decide +kernel
theorem d_Lw_law_923 : decode b_Lw_law 923 = .ok (.iconst (1), 1) := by decide +kernel
theorem d_Lw_law_924 : decode b_Lw_law 924 = .ok (.iadd, 1) := by decide +kernel
theorem d_Lw_law_925 : decode b_Lw_law 925 = .ok (.iaload, 1) := by decide +kernel
theorem d_Lw_law_926 : decode b_Lw_law 926 = .ok (.aload_n 0, 1) := by decide +kernel
theorem d_Lw_law_927 : decode b_Lw_law 927 = .ok (.iload 4, 2) := by decide +kernel
theorem d_Lw_law_929 : decode b_Lw_law 929 = .ok (.iconst (2), 1) := by decide +kernel
theorem d_Lw_law_930 : decode b_Lw_law 930 = .ok (.iadd, 1) := by decide +kernel
theorem d_Lw_law_931 : decode b_Lw_law 931 = .ok (.iaload, 1) := by decide +kernel
theorem d_Lw_law_932 : decode b_Lw_law 932 = .ok (.invokevirtual 107, 3) := by decide +kernel
theorem d_Lw_law_935 : decode b_Lw_law 935 = .ok (.if_icmp .eq (156), 3) := by decide +kernel
theorem d_Lw_law_938 : decode b_Lw_law 938 = .ok (.iconst (0), 1) := by decide +kernel
theorem d_Lw_law_939 : decode b_Lw_law 939 = .ok (.ireturn, 1) := by decide +kernel
theorem d_Lw_law_940 : decode b_Lw_law 940 = .ok (.aload_n 1, 1) := by decide +kernel
theorem d_Lw_law_941 : decode b_Lw_law 941 = .ok (.aload_n 0, 1) := by decide +kernel
theorem d_Lw_law_942 : decode b_Lw_law 942 = .ok (.iload 4, 2) := by decide +kernel
theorem d_Lw_law_944 : decode b_Lw_law 944 = .ok (.iconst (1), 1) := by decide +kernel
theorem d_Lw_law_945 : decode b_Lw_law 945 = .ok (.iadd, 1) := by decide +kernel
theorem d_Lw_law_946 : decode b_Lw_law 946 = .ok (.iaload, 1) := by decide +kernel
theorem d_Lw_law_947 : decode b_Lw_law 947 = .ok (.invokevirtual 108, 3) := by decide +kernel
theorem d_Lw_law_950 : decode b_Lw_law 950 = .ok (.aload_n 2, 1) := by decide +kernel
theorem d_Lw_law_951 : decode b_Lw_law 951 = .ok (.aload_n 0, 1) := by decide +kernel
theorem d_Lw_law_952 : decode b_Lw_law 952 = .ok (.iload 4, 2) := by decide +kernel
theorem d_Lw_law_954 : decode b_Lw_law 954 = .ok (.iconst (1), 1) := by decide +kernel
theorem d_Lw_law_955 : decode b_Lw_law 955 = .ok (.iadd, 1) := by decide +kernel
theorem d_Lw_law_956 : decode b_Lw_law 956 = .ok (.iaload, 1) := by decide +kernel
theorem d_Lw_law_957 : decode b_Lw_law 957 = .ok (.invokevirtual 111, 3) := by decide +kernel
theorem d_Lw_law_960 : decode b_Lw_law 960 = .ok (.if_icmp .eq (131), 3) := by decide +kernel
theorem d_Lw_law_963 : decode b_Lw_law 963 = .ok (.iconst (0), 1) := by decide +kernel
theorem d_Lw_law_964 : decode b_Lw_law 964 = .ok (.ireturn, 1) := by decide +kernel
theorem d_Lw_law_965 : decode b_Lw_law 965 = .ok (.aload_n 1, 1) := by decide +kernel
theorem d_Lw_law_966 : decode b_Lw_law 966 = .ok (.aload_n 0, 1) := by decide +kernel
theorem d_Lw_law_967 : decode b_Lw_law 967 = .ok (.iload 4, 2) := by decide +kernel
theorem d_Lw_law_969 : decode b_Lw_law 969 = .ok (.iconst (1), 1) := by decide +kernel
theorem d_Lw_law_970 : decode b_Lw_law 970 = .ok (.iadd, 1) := by decide +kernel
theorem d_Lw_law_971 : decode b_Lw_law 971 = .ok (.iaload, 1) := by decide +kernel
theorem d_Lw_law_972 : decode b_Lw_law 972 = .ok (.invokevirtual 112, 3) := by decide +kernel
theorem d_Lw_law_975 : decode b_Lw_law 975 = .ok (.aload_n 2, 1) := by decide +kernel
theorem d_Lw_law_976 : decode b_Lw_law 976 = .ok (.aload_n 0, 1) := by decide +kernel
theorem d_Lw_law_977 : decode b_Lw_law 977 = .ok (.iload 4, 2) := by decide +kernel
theorem d_Lw_law_979 : decode b_Lw_law 979 = .ok (.iconst (1), 1) := by decide +kernel
theorem d_Lw_law_980 : decode b_Lw_law 980 = .ok (.iadd, 1) := by decide +kernel
theorem d_Lw_law_981 : decode b_Lw_law 981 = .ok (.iaload, 1) := by decide +kernel
theorem d_Lw_law_982 : decode b_Lw_law 982 = .ok (.invokevirtual 115, 3) := by decide +kernel
theorem d_Lw_law_985 : decode b_Lw_law 985 = .ok (.if_icmp .eq (106), 3) := by decide +kernel
theorem d_Lw_law_988 : decode b_Lw_law 988 = .ok (.iconst (0), 1) := by decide +kernel
theorem d_Lw_law_989 : decode b_Lw_law 989 = .ok (.ireturn, 1) := by decide +kernel
theorem d_Lw_law_990 : decode b_Lw_law 990 = .ok (.aload_n 1, 1) := by decide +kernel
theorem d_Lw_law_991 : decode b_Lw_law 991 = .ok (.aload_n 0, 1) := by decide +kernel
theorem d_Lw_law_992 : decode b_Lw_law 992 = .ok (.iload 4, 2) := by decide +kernel
theorem d_Lw_law_994 : decode b_Lw_law 994 = .ok (.iconst (1), 1) := by decide +kernel
theorem d_Lw_law_995 : decode b_Lw_law 995 = .ok (.iadd, 1) := by decide +kernel
theorem d_Lw_law_996 : decode b_Lw_law 996 = .ok (.iaload, 1) := by decide +kernel
theorem d_Lw_law_997 : decode b_Lw_law 997 = .ok (.aload_n 0, 1) := by decide +kernel
theorem d_Lw_law_998 : decode b_Lw_law 998 = .ok (.iload 4, 2) := by decide +kernel
theorem d_Lw_law_1000 : decode b_Lw_law 1000 = .ok (.iconst (2), 1) := by decide +kernel
theorem d_Lw_law_1001 : decode b_Lw_law 1001 = .ok (.iadd, 1) := by decide +kernel
theorem d_Lw_law_1002 : decode b_Lw_law 1002 = .ok (.iaload, 1) := by decide +kernel
theorem d_Lw_law_1003 : decode b_Lw_law 1003 = .ok (.invokevirtual 116, 3) := by decide +kernel
theorem d_Lw_law_1006 : decode b_Lw_law 1006 = .ok (.aload_n 2, 1) := by decide +kernel
theorem d_Lw_law_1007 : decode b_Lw_law 1007 = .ok (.aload_n 0, 1) := by decide +kernel
theorem d_Lw_law_1008 : decode b_Lw_law 1008 = .ok (.iload 4, 2) := by decide +kernel
theorem d_Lw_law_1010 : decode b_Lw_law 1010 = .ok (.iconst (1), 1) := by decide +kernel
theorem d_Lw_law_1011 : decode b_Lw_law 1011 = .ok (.iadd, 1) := by decide +kernel
theorem d_Lw_law_1012 : decode b_Lw_law 1012 = .ok (.iaload, 1) := by decide +kernel
theorem d_Lw_law_1013 : decode b_Lw_law 1013 = .ok (.aload_n 0, 1) := by decide +kernel
theorem d_Lw_law_1014 : decode b_Lw_law 1014 = .ok (.iload 4, 2) := by decide +kernel
theorem d_Lw_law_1016 : decode b_Lw_law 1016 = .ok (.iconst (2), 1) := by decide +kernel
theorem d_Lw_law_1017 : decode b_Lw_law 1017 = .ok (.iadd, 1) := by decide +kernel
theorem d_Lw_law_1018 : decode b_Lw_law 1018 = .ok (.iaload, 1) := by decide +kernel
theorem d_Lw_law_1019 : decode b_Lw_law 1019 = .ok (.invokevirtual 120, 3) := by decide +kernel
theorem d_Lw_law_1022 : decode b_Lw_law 1022 = .ok (.lcmp, 1) := by decide +kernel
theorem d_Lw_law_1023 : decode b_Lw_law 1023 = .ok (.ifCond .eq (68), 3) := by decide +kernel
theorem d_Lw_law_1026 : decode b_Lw_law 1026 = .ok (.iconst (0), 1) := by decide +kernel
theorem d_Lw_law_1027 : decode b_Lw_law 1027 = .ok (.ireturn, 1) := by decide +kernel
theorem d_Lw_law_1028 : decode b_Lw_law 1028 = .ok (.aload_n 1, 1) := by decide +kernel
theorem d_Lw_law_1029 : decode b_Lw_law 1029 = .ok (.aload_n 0, 1) := by decide +kernel
theorem d_Lw_law_1030 : decode b_Lw_law 1030 = .ok (.iload 4, 2) := by decide +kernel
theorem d_Lw_law_1032 : decode b_Lw_law 1032 = .ok (.iconst (1), 1) := by decide +kernel
theorem d_Lw_law_1033 : decode b_Lw_law 1033 = .ok (.iadd, 1) := by decide +kernel
theorem d_Lw_law_1034 : decode b_Lw_law 1034 = .ok (.iaload, 1) := by decide +kernel
theorem d_Lw_law_1035 : decode b_Lw_law 1035 = .ok (.invokevirtual 121, 3) := by decide +kernel
theorem d_Lw_law_1038 : decode b_Lw_law 1038 = .ok (.aload_n 2, 1) := by decide +kernel
theorem d_Lw_law_1039 : decode b_Lw_law 1039 = .ok (.aload_n 0, 1) := by decide +kernel
theorem d_Lw_law_1040 : decode b_Lw_law 1040 = .ok (.iload 4, 2) := by decide +kernel
theorem d_Lw_law_1042 : decode b_Lw_law 1042 = .ok (.iconst (1), 1) := by decide +kernel
theorem d_Lw_law_1043 : decode b_Lw_law 1043 = .ok (.iadd, 1) := by decide +kernel
theorem d_Lw_law_1044 : decode b_Lw_law 1044 = .ok (.iaload, 1) := by decide +kernel
theorem d_Lw_law_1045 : decode b_Lw_law 1045 = .ok (.invokevirtual 124, 3) := by decide +kernel
theorem d_Lw_law_1048 : decode b_Lw_law 1048 = .ok (.if_icmp .eq (43), 3) := by decide +kernel
theorem d_Lw_law_1051 : decode b_Lw_law 1051 = .ok (.iconst (0), 1) := by decide +kernel
theorem d_Lw_law_1052 : decode b_Lw_law 1052 = .ok (.ireturn, 1) := by decide +kernel
theorem d_Lw_law_1053 : decode b_Lw_law 1053 = .ok (.aload_n 1, 1) := by decide +kernel
theorem d_Lw_law_1054 : decode b_Lw_law 1054 = .ok (.aload_n 0, 1) := by decide +kernel
theorem d_Lw_law_1055 : decode b_Lw_law 1055 = .ok (.iload 4, 2) := by decide +kernel
theorem d_Lw_law_1057 : decode b_Lw_law 1057 = .ok (.iconst (1), 1) := by decide +kernel
theorem d_Lw_law_1058 : decode b_Lw_law 1058 = .ok (.iadd, 1) := by decide +kernel
theorem d_Lw_law_1059 : decode b_Lw_law 1059 = .ok (.iaload, 1) := by decide +kernel
theorem d_Lw_law_1060 : decode b_Lw_law 1060 = .ok (.aload_n 0, 1) := by decide +kernel
theorem d_Lw_law_1061 : decode b_Lw_law 1061 = .ok (.iload 4, 2) := by decide +kernel
theorem d_Lw_law_1063 : decode b_Lw_law 1063 = .ok (.iconst (2), 1) := by decide +kernel
theorem d_Lw_law_1064 : decode b_Lw_law 1064 = .ok (.iadd, 1) := by decide +kernel
theorem d_Lw_law_1065 : decode b_Lw_law 1065 = .ok (.iaload, 1) := by decide +kernel
theorem d_Lw_law_1066 : decode b_Lw_law 1066 = .ok (.invokevirtual 125, 3) := by decide +kernel
theorem d_Lw_law_1069 : decode b_Lw_law 1069 = .ok (.aload_n 2, 1) := by decide +kernel
theorem d_Lw_law_1070 : decode b_Lw_law 1070 = .ok (.aload_n 0, 1) := by decide +kernel
theorem d_Lw_law_1071 : decode b_Lw_law 1071 = .ok (.iload 4, 2) := by decide +kernel
theorem d_Lw_law_1073 : decode b_Lw_law 1073 = .ok (.iconst (1), 1) := by decide +kernel
theorem d_Lw_law_1074 : decode b_Lw_law 1074 = .ok (.iadd, 1) := by decide +kernel
theorem d_Lw_law_1075 : decode b_Lw_law 1075 = .ok (.iaload, 1) := by decide +kernel
theorem d_Lw_law_1076 : decode b_Lw_law 1076 = .ok (.aload_n 0, 1) := by decide +kernel
theorem d_Lw_law_1077 : decode b_Lw_law 1077 = .ok (.iload 4, 2) := by decide +kernel
theorem d_Lw_law_1079 : decode b_Lw_law 1079 = .ok (.iconst (2), 1) := by decide +kernel
theorem d_Lw_law_1080 : decode b_Lw_law 1080 = .ok (.iadd, 1) := by decide +kernel
theorem d_Lw_law_1081 : decode b_Lw_law 1081 = .ok (.iaload, 1) := by decide +kernel
theorem d_Lw_law_1082 : decode b_Lw_law 1082 = .ok (.invokevirtual 128, 3) := by decide +kernel
theorem d_Lw_law_1085 : decode b_Lw_law 1085 = .ok (.lcmp, 1) := by decide +kernel
theorem d_Lw_law_1086 : decode b_Lw_law 1086 = .ok (.ifCond .eq (5), 3) := by decide +kernel
theorem d_Lw_law_1089 : decode b_Lw_law 1089 = .ok (.iconst (0), 1) := by decide +kernel
theorem d_Lw_law_1090 : decode b_Lw_law 1090 = .ok (.ireturn, 1) := by decide +kernel
theorem d_Lw_law_1091 : decode b_Lw_law 1091 = .ok (.iinc 4 (5), 3) := by decide +kernel
theorem d_Lw_law_1094 : decode b_Lw_law 1094 = .ok (.goto (-1071), 3) := by decide +kernel
theorem d_Lw_law_1097 : decode b_Lw_law 1097 = .ok (.iconst (1), 1) := by decide +kernel
theorem d_Lw_law_1098 : decode b_Lw_law 1098 = .ok (.ireturn, 1) := by decide +kernel
