theorem d_Mo_wrongAt_0 : decode b_Mo_wrongAt 0 = .ok (.iload_n 1, 1) := by decide +kernel
theorem d_Mo_wrongAt_1 : decode b_Mo_wrongAt 1 = .ok (.iconst (0), 1) := by decide +kernel
theorem d_Mo_wrongAt_2 : decode b_Mo_wrongAt 2 = .ok (.iconst (3), 1) := by decide +kernel
theorem d_Mo_wrongAt_3 : decode b_Mo_wrongAt 3 = .ok (.invokestatic 171, 3) := by decide +kernel
theorem d_Mo_wrongAt_6 : decode b_Mo_wrongAt 6 = .ok (.ifCond .eq (7), 3) := by decide +kernel
theorem d_Mo_wrongAt_9 : decode b_Mo_wrongAt 9 = .ok (.iload_n 2, 1) := by decide +kernel
theorem d_Mo_wrongAt_10 : decode b_Mo_wrongAt 10 = .ok (.ifCond .ne (7), 3) := by decide +kernel
theorem d_Mo_wrongAt_13 : decode b_Mo_wrongAt 13 = .ok (.iconst (1), 1) := by decide +kernel
theorem d_Mo_wrongAt_14 : decode b_Mo_wrongAt 14 = .ok (.goto (17), 3) := by decide +kernel
theorem d_Mo_wrongAt_17 : decode b_Mo_wrongAt 17 = .ok (.aload_n 0, 1) := by decide +kernel
theorem d_Mo_wrongAt_18 : decode b_Mo_wrongAt 18 = .ok (.getfield 34, 3) := by decide +kernel
theorem d_Mo_wrongAt_21 : decode b_Mo_wrongAt 21 = .ok (.iload_n 1, 1) := by decide +kernel
theorem d_Mo_wrongAt_22 : decode b_Mo_wrongAt 22 = .ok (.baload, 1) := by decide +kernel
theorem d_Mo_wrongAt_23 : decode b_Mo_wrongAt 23 = .ok (.ifCond .ne (7), 3) := by decide +kernel
theorem d_Mo_wrongAt_26 : decode b_Mo_wrongAt 26 = .ok (.iconst (2), 1) := by decide +kernel
theorem d_Mo_wrongAt_27 : decode b_Mo_wrongAt 27 = .ok (.goto (4), 3) := by decide +kernel
theorem d_Mo_wrongAt_30 : decode b_Mo_wrongAt 30 = .ok (.iconst (0), 1) := by decide +kernel
theorem d_Mo_wrongAt_31 : decode b_Mo_wrongAt 31 = .ok (.ireturn, 1) := by decide +kernel
theorem d_Mo_step_0 : decode b_Mo_step 0 = .ok (.aload_n 0, 1) := by decide +kernel
theorem d_Mo_step_1 : decode b_Mo_step 1 = .ok (.aload_n 0, 1) := by decide +kernel
theorem d_Mo_step_2 : decode b_Mo_step 2 = .ok (.iload_n 1, 1) := by decide +kernel
theorem d_Mo_step_3 : decode b_Mo_step 3 = .ok (.iload_n 2, 1) := by decide +kernel
theorem d_Mo_step_4 : decode b_Mo_step 4 = .ok (.iconst (1), 1) := by decide +kernel
theorem d_Mo_step_5 : decode b_Mo_step 5 = .ok (.bipush (40), 2) := by decide +kernel
theorem d_Mo_step_7 : decode b_Mo_step 7 = .ok (.invokestatic 171, 3) := by decide +kernel
theorem d_Mo_step_10 : decode b_Mo_step 10 = .ok (.invokevirtual 262, 3) := by decide +kernel
theorem d_Mo_step_13 : decode b_Mo_step 13 = .ok (.putfield 142, 3) := by decide +kernel
theorem d_Mo_step_16 : decode b_Mo_step 16 = .ok (.aload_n 0, 1) := by decide +kernel
theorem d_Mo_step_17 : decode b_Mo_step 17 = .ok (.getfield 142, 3) := by decide +kernel
theorem d_Mo_step_20 : decode b_Mo_step 20 = .ok (.ifCond .le (5), 3) := by decide +kernel
theorem d_Mo_step_23 : decode b_Mo_step 23 = .ok (.iconst (0), 1) := by decide +kernel
theorem d_Mo_step_24 : decode b_Mo_step 24 = .ok (.ireturn, 1) := by decide +kernel
theorem d_Mo_step_25 : decode b_Mo_step 25 = .ok (.iconst (0), 1) := by decide +kernel
theorem d_Mo_step_26 : decode b_Mo_step 26 = .ok (.istore_n 3, 1) := by decide +kernel
theorem d_Mo_step_27 : decode b_Mo_step 27 = .ok (.iconst (0), 1) := by decide +kernel
theorem d_Mo_step_28 : decode b_Mo_step 28 = .ok (.istore 4, 2) := by decide +kernel
theorem d_Mo_step_30 : decode b_Mo_step 30 = .ok (.iload 4, 2) := by decide +kernel
theorem d_Mo_step_32 : decode b_Mo_step 32 = .ok (.iload_n 2, 1) := by decide +kernel
theorem d_Mo_step_33 : decode b_Mo_step 33 = .ok (.if_icmp .ge (158), 3) := by decide +kernel
theorem d_Mo_step_36 : decode b_Mo_step 36 = .ok (.iconst (0), 1) := by decide +kernel
theorem d_Mo_step_37 : decode b_Mo_step 37 = .ok (.istore 5, 2) := by decide +kernel
theorem d_Mo_step_39 : decode b_Mo_step 39 = .ok (.iload 5, 2) := by decide +kernel
theorem d_Mo_step_41 : decode b_Mo_step 41 = .ok (.bipush (8), 2) := by decide +kernel
theorem d_Mo_step_43 : decode b_Mo_step 43 = .ok (.if_icmp .ge (61), 3) := by decide +kernel
theorem d_Mo_step_46 : decode b_Mo_step 46 = .ok (.bipush (24), 2) := by decide +kernel
theorem d_Mo_step_48 : decode b_Mo_step 48 = .ok (.iload_n 1, 1) := by decide +kernel
theorem d_Mo_step_49 : decode b_Mo_step 49 = .ok (.imul, 1) := by decide +kernel
theorem d_Mo_step_50 : decode b_Mo_step 50 = .ok (.iload 5, 2) := by decide +kernel
theorem d_Mo_step_52 : decode b_Mo_step 52 = .ok (.iadd, 1) := by decide +kernel
theorem d_Mo_step_53 : decode b_Mo_step 53 = .ok (.istore 6, 2) := by decide +kernel
theorem d_Mo_step_55 : decode b_Mo_step 55 = .ok (.aload_n 0, 1) := by decide +kernel
theorem d_Mo_step_56 : decode b_Mo_step 56 = .ok (.getfield 62, 3) := by decide +kernel
theorem d_Mo_step_59 : decode b_Mo_step 59 = .ok (.iload 5, 2) := by decide +kernel
theorem d_Mo_step_61 : decode b_Mo_step 61 = .ok (.aload_n 0, 1) := by decide +kernel
theorem d_Mo_step_62 : decode b_Mo_step 62 = .ok (.getfield 41, 3) := by decide +kernel
theorem d_Mo_step_65 : decode b_Mo_step 65 = .ok (.iload 6, 2) := by decide +kernel
theorem d_Mo_step_67 : decode b_Mo_step 67 = .ok (.iaload, 1) := by decide +kernel
theorem d_Mo_step_68 : decode b_Mo_step 68 = .ok (.iconst (1), 1) := by decide +kernel
theorem d_Mo_step_69 : decode b_Mo_step 69 = .ok (.if_icmp .ne (27), 3) := by decide +kernel
theorem d_Mo_step_72 : decode b_Mo_step 72 = .ok (.aload_n 0, 1) := by decide +kernel
theorem d_Mo_step_73 : decode b_Mo_step 73 = .ok (.getfield 71, 3) := by decide +kernel
theorem d_Mo_step_76 : decode b_Mo_step 76 = .ok (.iload 6, 2) := by decide +kernel
theorem d_Mo_step_78 : decode b_Mo_step 78 = .ok (.iaload, 1) := by decide +kernel
theorem d_Mo_step_79 : decode b_Mo_step 79 = .ok (.ifCond .le (17), 3) := by decide +kernel
theorem d_Mo_step_82 : decode b_Mo_step 82 = .ok (.aload_n 0, 1) := by decide +kernel
theorem d_Mo_step_83 : decode b_Mo_step 83 = .ok (.getfield 80, 3) := by decide +kernel
theorem d_Mo_step_86 : decode b_Mo_step 86 = .ok (.iload 6, 2) := by decide +kernel
theorem d_Mo_step_88 : decode b_Mo_step 88 = .ok (.iaload, 1) := by decide +kernel
theorem d_Mo_step_89 : decode b_Mo_step 89 = .ok (.ifCond .ne (7), 3) := by decide +kernel
theorem d_Mo_step_92 : decode b_Mo_step 92 = .ok (.iconst (1), 1) := by decide +kernel
theorem d_Mo_step_93 : decode b_Mo_step 93 = .ok (.goto (4), 3) := by decide +kernel
theorem d_Mo_step_96 : decode b_Mo_step 96 = .ok (.iconst (0), 1) := by decide +kernel
theorem d_Mo_step_97 : decode b_Mo_step 97 = .ok (.bastore, 1) := by decide +kernel
theorem d_Mo_step_98 : decode b_Mo_step 98 = .ok (.iinc 5 (1), 3) := by decide +kernel
theorem d_Mo_step_101 : decode b_Mo_step 101 = .ok (.goto (-62), 3) := by decide +kernel
theorem d_Mo_step_104 : decode b_Mo_step 104 = .ok (.iconst (0), 1) := by decide +kernel
theorem d_Mo_step_105 : decode b_Mo_step 105 = .ok (.istore 5, 2) := by decide +kernel
theorem d_Mo_step_107 : decode b_Mo_step 107 = .ok (.iload 5, 2) := by decide +kernel
theorem d_Mo_step_109 : decode b_Mo_step 109 = .ok (.bipush (8), 2) := by decide +kernel
theorem d_Mo_step_111 : decode b_Mo_step 111 = .ok (.if_icmp .ge (74), 3) := by decide +kernel
theorem d_Mo_step_114 : decode b_Mo_step 114 = .ok (.aload_n 0, 1) := by decide +kernel
theorem d_Mo_step_115 : decode b_Mo_step 115 = .ok (.getfield 62, 3) := by decide +kernel
theorem d_Mo_step_118 : decode b_Mo_step 118 = .ok (.iload 5, 2) := by decide +kernel
theorem d_Mo_step_120 : decode b_Mo_step 120 = .ok (.baload, 1) := by decide +kernel
theorem d_Mo_step_121 : decode b_Mo_step 121 = .ok (.ifCond .eq (58), 3) := by decide +kernel
theorem d_Mo_step_124 : decode b_Mo_step 124 = .ok (.bipush (24), 2) := by decide +kernel
theorem d_Mo_step_126 : decode b_Mo_step 126 = .ok (.iload_n 1, 1) := by decide +kernel
theorem d_Mo_step_127 : decode b_Mo_step 127 = .ok (.imul, 1) := by decide +kernel
theorem d_Mo_step_128 : decode b_Mo_step 128 = .ok (.iload 5, 2) := by decide +kernel
theorem d_Mo_step_130 : decode b_Mo_step 130 = .ok (.iadd, 1) := by decide +kernel
theorem d_Mo_step_131 : decode b_Mo_step 131 = .ok (.istore 6, 2) := by decide +kernel
theorem d_Mo_step_133 : decode b_Mo_step 133 = .ok (.aload_n 0, 1) := by decide +kernel
theorem d_Mo_step_134 : decode b_Mo_step 134 = .ok (.iload 6, 2) := by decide +kernel
theorem d_Mo_step_136 : decode b_Mo_step 136 = .ok (.iload_n 1, 1) := by decide +kernel
theorem d_Mo_step_137 : decode b_Mo_step 137 = .ok (.invokevirtual 266, 3) := by decide +kernel
theorem d_Mo_step_140 : decode b_Mo_step 140 = .ok (.istore 7, 2) := by decide +kernel
theorem d_Mo_step_142 : decode b_Mo_step 142 = .ok (.aload_n 0, 1) := by decide +kernel
theorem d_Mo_step_143 : decode b_Mo_step 143 = .ok (.getfield 41, 3) := by decide +kernel
theorem d_Mo_step_146 : decode b_Mo_step 146 = .ok (.iload 6, 2) := by decide +kernel
theorem d_Mo_step_148 : decode b_Mo_step 148 = .ok (.iload 7, 2) := by decide +kernel
theorem d_Mo_step_150 : decode b_Mo_step 150 = .ok (.ifCond .ne (7), 3) := by decide +kernel
theorem d_Mo_step_153 : decode b_Mo_step 153 = .ok (.iconst (4), 1) := by decide +kernel
theorem d_Mo_step_154 : decode b_Mo_step 154 = .ok (.goto (21), 3) := by decide +kernel
theorem d_Mo_step_157 : decode b_Mo_step 157 = .ok (.aload_n 0, 1) := by decide +kernel
theorem d_Mo_step_158 : decode b_Mo_step 158 = .ok (.getfield 227, 3) := by decide +kernel
theorem d_Mo_step_161 : decode b_Mo_step 161 = .ok (.ifCond .eq (7), 3) := by decide +kernel
theorem d_Mo_step_164 : decode b_Mo_step 164 = .ok (.iconst (3), 1) := by decide +kernel
theorem d_Mo_step_165 : decode b_Mo_step 165 = .ok (.goto (10), 3) := by decide +kernel
theorem d_Mo_step_168 : decode b_Mo_step 168 = .ok (.aload_n 0, 1) := by decide +kernel
theorem d_Mo_step_169 : decode b_Mo_step 169 = .ok (.getfield 41, 3) := by decide +kernel
theorem d_Mo_step_172 : decode b_Mo_step 172 = .ok (.iload 6, 2) := by decide +kernel
theorem d_Mo_step_174 : decode b_Mo_step 174 = .ok (.iaload, 1) := by decide +kernel
theorem d_Mo_step_175 : decode b_Mo_step 175 = .ok (.iastore, 1) := by decide +kernel
theorem d_Mo_step_176 : decode b_Mo_step 176 = .ok (.iinc 3 (1), 3) := by decide +kernel
theorem d_Mo_step_179 : decode b_Mo_step 179 = .ok (.iinc 5 (1), 3) := by decide +kernel
theorem d_Mo_step_182 : decode b_Mo_step 182 = .ok (.goto (-75), 3) := by decide +kernel
theorem d_Mo_step_185 : decode b_Mo_step 185 = .ok (.iinc 4 (1), 3) := by decide +kernel
theorem d_Mo_step_188 : decode b_Mo_step 188 = .ok (.goto (-158), 3) := by decide +kernel
theorem d_Mo_step_191 : decode b_Mo_step 191 = .ok (.iload_n 3, 1) := by decide +kernel
theorem d_Mo_step_192 : decode b_Mo_step 192 = .ok (.ireturn, 1) := by decide +kernel
theorem d_Mo_post_0 : decode b_Mo_post 0 = .ok (.aload_n 0, 1) := by decide +kernel
theorem d_Mo_post_1 : decode b_Mo_post 1 = .ok (.getfield 269, 3) := by decide +kernel
theorem d_Mo_post_4 : decode b_Mo_post 4 = .ok (.bipush (20), 2) := by decide +kernel
theorem d_Mo_post_6 : decode b_Mo_post 6 = .ok (.if_icmp .ne (5), 3) := by decide +kernel
theorem d_Mo_post_9 : decode b_Mo_post 9 = .ok (.iconst (-1), 1) := by decide +kernel
theorem d_Mo_post_10 : decode b_Mo_post 10 = .ok (.ireturn, 1) := by decide +kernel
theorem d_Mo_post_11 : decode b_Mo_post 11 = .ok (.aload_n 0, 1) := by decide +kernel
theorem d_Mo_post_12 : decode b_Mo_post 12 = .ok (.getfield 114, 3) := by decide +kernel
theorem d_Mo_post_15 : decode b_Mo_post 15 = .ok (.aload_n 0, 1) := by decide +kernel
theorem d_Mo_post_16 : decode b_Mo_post 16 = .ok (.getfield 269, 3) := by decide +kernel
theorem d_Mo_post_19 : decode b_Mo_post 19 = .ok (.iload_n 1, 1) := by decide +kernel
theorem d_Mo_post_20 : decode b_Mo_post 20 = .ok (.bastore, 1) := by decide +kernel
theorem d_Mo_post_21 : decode b_Mo_post 21 = .ok (.aload_n 0, 1) := by decide +kernel
theorem d_Mo_post_22 : decode b_Mo_post 22 = .ok (.getfield 117, 3) := by decide +kernel
theorem d_Mo_post_25 : decode b_Mo_post 25 = .ok (.aload_n 0, 1) := by decide +kernel
theorem d_Mo_post_26 : decode b_Mo_post 26 = .ok (.getfield 269, 3) := by decide +kernel
theorem d_Mo_post_29 : decode b_Mo_post 29 = .ok (.iload_n 2, 1) := by decide +kernel
theorem d_Mo_post_30 : decode b_Mo_post 30 = .ok (.iastore, 1) := by decide +kernel
theorem d_Mo_post_31 : decode b_Mo_post 31 = .ok (.aload_n 0, 1) := by decide +kernel
theorem d_Mo_post_32 : decode b_Mo_post 32 = .ok (.getfield 120, 3) := by decide +kernel
theorem d_Mo_post_35 : decode b_Mo_post 35 = .ok (.aload_n 0, 1) := by decide +kernel
theorem d_Mo_post_36 : decode b_Mo_post 36 = .ok (.getfield 269, 3) := by decide +kernel
theorem d_Mo_post_39 : decode b_Mo_post 39 = .ok (.iload_n 3, 1) := by decide +kernel
theorem d_Mo_post_40 : decode b_Mo_post 40 = .ok (.iastore, 1) := by decide +kernel
theorem d_Mo_post_41 : decode b_Mo_post 41 = .ok (.aload_n 0, 1) := by decide +kernel
theorem d_Mo_post_42 : decode b_Mo_post 42 = .ok (.getfield 123, 3) := by decide +kernel
theorem d_Mo_post_45 : decode b_Mo_post 45 = .ok (.aload_n 0, 1) := by decide +kernel
theorem d_Mo_post_46 : decode b_Mo_post 46 = .ok (.getfield 269, 3) := by decide +kernel
theorem d_Mo_post_49 : decode b_Mo_post 49 = .ok (.iload 4, 2) := by decide +kernel
theorem d_Mo_post_51 : decode b_Mo_post 51 = .ok (.iastore, 1) := by decide +kernel
theorem d_Mo_post_52 : decode b_Mo_post 52 = .ok (.aload_n 0, 1) := by decide +kernel
theorem d_Mo_post_53 : decode b_Mo_post 53 = .ok (.getfield 126, 3) := by decide +kernel
theorem d_Mo_post_56 : decode b_Mo_post 56 = .ok (.aload_n 0, 1) := by decide +kernel
theorem d_Mo_post_57 : decode b_Mo_post 57 = .ok (.getfield 269, 3) := by decide +kernel
theorem d_Mo_post_60 : decode b_Mo_post 60 = .ok (.iload 5, 2) := by decide +kernel
theorem d_Mo_post_62 : decode b_Mo_post 62 = .ok (.iastore, 1) := by decide +kernel
theorem d_Mo_post_63 : decode b_Mo_post 63 = .ok (.aload_n 0, 1) := by decide +kernel
theorem d_Mo_post_64 : decode b_Mo_post 64 = .ok (.getfield 129, 3) := by decide +kernel
theorem d_Mo_post_67 : decode b_Mo_post 67 = .ok (.aload_n 0, 1) := by decide +kernel
theorem d_Mo_post_68 : decode b_Mo_post 68 = .ok (.getfield 269, 3) := by decide +kernel
theorem d_Mo_post_71 : decode b_Mo_post 71 = .ok (.iconst (0), 1) := by decide +kernel
theorem d_Mo_post_72 : decode b_Mo_post 72 = .ok (.iastore, 1) := by decide +kernel
theorem d_Mo_post_73 : decode b_Mo_post 73 = .ok (.aload_n 0, 1) := by decide +kernel
theorem d_Mo_post_74 : decode b_Mo_post 74 = .ok (.dup, 1) := by decide +kernel
theorem d_Mo_post_75 : decode b_Mo_post 75 = .ok (.getfield 269, 3) := by decide +kernel
theorem d_Mo_post_78 : decode b_Mo_post 78 = .ok (.iconst (1), 1) := by decide +kernel
theorem d_Mo_post_79 : decode b_Mo_post 79 = .ok (.iadd, 1) := by decide +kernel
theorem d_Mo_post_80 : decode b_Mo_post 80 = .ok (.putfield 269, 3) := by decide +kernel
theorem d_Mo_post_83 : decode b_Mo_post 83 = .ok (.aload_n 0, 1) := by decide +kernel
theorem d_Mo_post_84 : decode b_Mo_post 84 = .ok (.getfield 269, 3) := by decide +kernel
theorem d_Mo_post_87 : decode b_Mo_post 87 = .ok (.iconst (1), 1) := by decide +kernel
theorem d_Mo_post_88 : decode b_Mo_post 88 = .ok (.isub, 1) := by decide +kernel
theorem d_Mo_post_89 : decode b_Mo_post 89 = .ok (.ireturn, 1) := by decide +kernel
theorem d_Mo_say_0 : decode b_Mo_say 0 = .ok (.aload_n 0, 1) := by decide +kernel
theorem d_Mo_say_1 : decode b_Mo_say 1 = .ok (.getfield 132, 3) := by decide +kernel
theorem d_Mo_say_4 : decode b_Mo_say 4 = .ok (.aload_n 0, 1) := by decide +kernel
theorem d_Mo_say_5 : decode b_Mo_say 5 = .ok (.getfield 272, 3) := by decide +kernel
theorem d_Mo_say_8 : decode b_Mo_say 8 = .ok (.iload_n 1, 1) := by decide +kernel
theorem d_Mo_say_9 : decode b_Mo_say 9 = .ok (.sipush (255), 3) := by decide +kernel
theorem d_Mo_say_12 : decode b_Mo_say 12 = .ok (.iand, 1) := by decide +kernel
theorem d_Mo_say_13 : decode b_Mo_say 13 = .ok (.iastore, 1) := by decide +kernel
theorem d_Mo_say_14 : decode b_Mo_say 14 = .ok (.aload_n 0, 1) := by decide +kernel
theorem d_Mo_say_15 : decode b_Mo_say 15 = .ok (.dup, 1) := by decide +kernel
theorem d_Mo_say_16 : decode b_Mo_say 16 = .ok (.getfield 272, 3) := by decide +kernel
theorem d_Mo_say_19 : decode b_Mo_say 19 = .ok (.iconst (1), 1) := by decide +kernel
theorem d_Mo_say_20 : decode b_Mo_say 20 = .ok (.iadd, 1) := by decide +kernel
theorem d_Mo_say_21 : decode b_Mo_say 21 = .ok (.putfield 272, 3) := by decide +kernel
theorem d_Mo_say_24 : decode b_Mo_say 24 = .ok (.return_, 1) := by decide +kernel
theorem d_Mo_sayValue_0 : decode b_Mo_sayValue 0 = .ok (.lload_n 1, 1) := by decide +kernel
theorem d_Mo_sayValue_1 : decode b_Mo_sayValue 1 = .ok (.ldc2_w 150, 3) := by decide +kernel
theorem d_Mo_sayValue_4 : decode b_Mo_sayValue 4 = .ok (.lcmp, 1) := by decide +kernel
theorem d_Mo_sayValue_5 : decode b_Mo_sayValue 5 = .ok (.ifCond .lt (22), 3) := by decide +kernel
theorem d_Mo_sayValue_8 : decode b_Mo_sayValue 8 = .ok (.aload_n 0, 1) := by decide +kernel
theorem d_Mo_sayValue_9 : decode b_Mo_sayValue 9 = .ok (.iconst (1), 1) := by decide +kernel
theorem d_Mo_sayValue_10 : decode b_Mo_sayValue 10 = .ok (.invokevirtual 275, 3) := by decide +kernel
theorem d_Mo_sayValue_13 : decode b_Mo_sayValue 13 = .ok (.aload_n 0, 1) := by decide +kernel
theorem d_Mo_sayValue_14 : decode b_Mo_sayValue 14 = .ok (.aload_n 0, 1) := by decide +kernel
theorem d_Mo_sayValue_15 : decode b_Mo_sayValue 15 = .ok (.getfield 105, 3) := by decide +kernel
theorem d_Mo_sayValue_18 : decode b_Mo_sayValue 18 = .ok (.lload_n 1, 1) := by decide +kernel
theorem d_Mo_sayValue_19 : decode b_Mo_sayValue 19 = .ok (.invokestatic 152, 3) := by decide +kernel
theorem d_Mo_sayValue_22 : decode b_Mo_sayValue 22 = .ok (.iaload, 1) := by decide +kernel
theorem d_Mo_sayValue_23 : decode b_Mo_sayValue 23 = .ok (.invokevirtual 275, 3) := by decide +kernel
theorem d_Mo_sayValue_26 : decode b_Mo_sayValue 26 = .ok (.return_, 1) := by decide +kernel
theorem d_Mo_sayValue_27 : decode b_Mo_sayValue 27 = .ok (.aload_n 0, 1) := by decide +kernel
theorem d_Mo_sayValue_28 : decode b_Mo_sayValue 28 = .ok (.iconst (0), 1) := by decide +kernel
theorem d_Mo_sayValue_29 : decode b_Mo_sayValue 29 = .ok (.invokevirtual 275, 3) := by decide +kernel
theorem d_Mo_sayValue_32 : decode b_Mo_sayValue 32 = .ok (.bipush (24), 2) := by decide +kernel
theorem d_Mo_sayValue_34 : decode b_Mo_sayValue 34 = .ok (.istore_n 3, 1) := by decide +kernel
theorem d_Mo_sayValue_35 : decode b_Mo_sayValue 35 = .ok (.iload_n 3, 1) := by decide +kernel
theorem d_Mo_sayValue_36 : decode b_Mo_sayValue 36 = .ok (.ifCond .lt (17), 3) := by decide +kernel
theorem d_Mo_sayValue_39 : decode b_Mo_sayValue 39 = .ok (.aload_n 0, 1) := by decide +kernel
theorem d_Mo_sayValue_40 : decode b_Mo_sayValue 40 = .ok (.lload_n 1, 1) := by decide +kernel
theorem d_Mo_sayValue_41 : decode b_Mo_sayValue 41 = .ok (.iload_n 3, 1) := by decide +kernel
theorem d_Mo_sayValue_42 : decode b_Mo_sayValue 42 = .ok (.lshr, 1) := by decide +kernel
theorem d_Mo_sayValue_43 : decode b_Mo_sayValue 43 = .ok (.l2i, 1) := by decide +kernel
theorem d_Mo_sayValue_44 : decode b_Mo_sayValue 44 = .ok (.invokevirtual 275, 3) := by decide +kernel
theorem d_Mo_sayValue_47 : decode b_Mo_sayValue 47 = .ok (.iinc 3 (-8), 3) := by decide +kernel
theorem d_Mo_sayValue_50 : decode b_Mo_sayValue 50 = .ok (.goto (-15), 3) := by decide +kernel
theorem d_Mo_sayValue_53 : decode b_Mo_sayValue 53 = .ok (.return_, 1) := by decide +kernel
theorem d_Mo_pack_0 : decode b_Mo_pack 0 = .ok (.aload_n 0, 1) := by decide +kernel
theorem d_Mo_pack_1 : decode b_Mo_pack 1 = .ok (.iload_n 1, 1) := by decide +kernel
theorem d_Mo_pack_2 : decode b_Mo_pack 2 = .ok (.invokevirtual 163, 3) := by decide +kernel
theorem d_Mo_pack_5 : decode b_Mo_pack 5 = .ok (.istore_n 3, 1) := by decide +kernel
theorem d_Mo_pack_6 : decode b_Mo_pack 6 = .ok (.aload_n 0, 1) := by decide +kernel
theorem d_Mo_pack_7 : decode b_Mo_pack 7 = .ok (.sipush (128), 3) := by decide +kernel
theorem d_Mo_pack_10 : decode b_Mo_pack 10 = .ok (.iload_n 2, 1) := by decide +kernel
theorem d_Mo_pack_11 : decode b_Mo_pack 11 = .ok (.imul, 1) := by decide +kernel
theorem d_Mo_pack_12 : decode b_Mo_pack 12 = .ok (.putfield 272, 3) := by decide +kernel
theorem d_Mo_pack_15 : decode b_Mo_pack 15 = .ok (.aload_n 0, 1) := by decide +kernel
theorem d_Mo_pack_16 : decode b_Mo_pack 16 = .ok (.iload_n 1, 1) := by decide +kernel
theorem d_Mo_pack_17 : decode b_Mo_pack 17 = .ok (.bipush (8), 2) := by decide +kernel
theorem d_Mo_pack_19 : decode b_Mo_pack 19 = .ok (.irem, 1) := by decide +kernel
theorem d_Mo_pack_20 : decode b_Mo_pack 20 = .ok (.invokevirtual 275, 3) := by decide +kernel
theorem d_Mo_pack_23 : decode b_Mo_pack 23 = .ok (.aload_n 0, 1) := by decide +kernel
theorem d_Mo_pack_24 : decode b_Mo_pack 24 = .ok (.aload_n 0, 1) := by decide +kernel
theorem d_Mo_pack_25 : decode b_Mo_pack 25 = .ok (.getfield 65, 3) := by decide +kernel
theorem d_Mo_pack_28 : decode b_Mo_pack 28 = .ok (.iload_n 1, 1) := by decide +kernel
theorem d_Mo_pack_29 : decode b_Mo_pack 29 = .ok (.iaload, 1) := by decide +kernel
theorem d_Mo_pack_30 : decode b_Mo_pack 30 = .ok (.invokevirtual 275, 3) := by decide +kernel
theorem d_Mo_pack_33 : decode b_Mo_pack 33 = .ok (.aload_n 0, 1) := by decide +kernel
theorem d_Mo_pack_34 : decode b_Mo_pack 34 = .ok (.aload_n 0, 1) := by decide +kernel
theorem d_Mo_pack_35 : decode b_Mo_pack 35 = .ok (.getfield 68, 3) := by decide +kernel
theorem d_Mo_pack_38 : decode b_Mo_pack 38 = .ok (.iload_n 1, 1) := by decide +kernel
theorem d_Mo_pack_39 : decode b_Mo_pack 39 = .ok (.iaload, 1) := by decide +kernel
theorem d_Mo_pack_40 : decode b_Mo_pack 40 = .ok (.invokevirtual 275, 3) := by decide +kernel
theorem d_Mo_pack_43 : decode b_Mo_pack 43 = .ok (.aload_n 0, 1) := by decide +kernel
theorem d_Mo_pack_44 : decode b_Mo_pack 44 = .ok (.aload_n 0, 1) := by decide +kernel
theorem d_Mo_pack_45 : decode b_Mo_pack 45 = .ok (.getfield 74, 3) := by decide +kernel
theorem d_Mo_pack_48 : decode b_Mo_pack 48 = .ok (.iload_n 1, 1) := by decide +kernel
theorem d_Mo_pack_49 : decode b_Mo_pack 49 = .ok (.iaload, 1) := by decide +kernel
theorem d_Mo_pack_50 : decode b_Mo_pack 50 = .ok (.invokevirtual 275, 3) := by decide +kernel
theorem d_Mo_pack_53 : decode b_Mo_pack 53 = .ok (.aload_n 0, 1) := by decide +kernel
theorem d_Mo_pack_54 : decode b_Mo_pack 54 = .ok (.aload_n 0, 1) := by decide +kernel
theorem d_Mo_pack_55 : decode b_Mo_pack 55 = .ok (.getfield 77, 3) := by decide +kernel
theorem d_Mo_pack_58 : decode b_Mo_pack 58 = .ok (.iload_n 1, 1) := by decide +kernel
theorem d_Mo_pack_59 : decode b_Mo_pack 59 = .ok (.iaload, 1) := by decide +kernel
theorem d_Mo_pack_60 : decode b_Mo_pack 60 = .ok (.invokevirtual 275, 3) := by decide +kernel
theorem d_Mo_pack_63 : decode b_Mo_pack 63 = .ok (.aload_n 0, 1) := by decide +kernel
theorem d_Mo_pack_64 : decode b_Mo_pack 64 = .ok (.aload_n 0, 1) := by decide +kernel
theorem d_Mo_pack_65 : decode b_Mo_pack 65 = .ok (.getfield 80, 3) := by decide +kernel
theorem d_Mo_pack_68 : decode b_Mo_pack 68 = .ok (.iload_n 1, 1) := by decide +kernel
theorem d_Mo_pack_69 : decode b_Mo_pack 69 = .ok (.iaload, 1) := by decide +kernel
theorem d_Mo_pack_70 : decode b_Mo_pack 70 = .ok (.invokevirtual 275, 3) := by decide +kernel
theorem d_Mo_pack_73 : decode b_Mo_pack 73 = .ok (.aload_n 0, 1) := by decide +kernel
theorem d_Mo_pack_74 : decode b_Mo_pack 74 = .ok (.aload_n 0, 1) := by decide +kernel
theorem d_Mo_pack_75 : decode b_Mo_pack 75 = .ok (.getfield 83, 3) := by decide +kernel
theorem d_Mo_pack_78 : decode b_Mo_pack 78 = .ok (.iload_n 1, 1) := by decide +kernel
theorem d_Mo_pack_79 : decode b_Mo_pack 79 = .ok (.baload, 1) := by decide +kernel
theorem d_Mo_pack_80 : decode b_Mo_pack 80 = .ok (.ifCond .eq (7), 3) := by decide +kernel
theorem d_Mo_pack_83 : decode b_Mo_pack 83 = .ok (.iconst (1), 1) := by decide +kernel
theorem d_Mo_pack_84 : decode b_Mo_pack 84 = .ok (.goto (4), 3) := by decide +kernel
theorem d_Mo_pack_87 : decode b_Mo_pack 87 = .ok (.iconst (0), 1) := by decide +kernel
theorem d_Mo_pack_88 : decode b_Mo_pack 88 = .ok (.invokevirtual 275, 3) := by decide +kernel
theorem d_Mo_pack_91 : decode b_Mo_pack 91 = .ok (.aload_n 0, 1) := by decide +kernel
theorem d_Mo_pack_92 : decode b_Mo_pack 92 = .ok (.aload_n 0, 1) := by decide +kernel
theorem d_Mo_pack_93 : decode b_Mo_pack 93 = .ok (.getfield 71, 3) := by decide +kernel
theorem d_Mo_pack_96 : decode b_Mo_pack 96 = .ok (.iload_n 1, 1) := by decide +kernel
theorem d_Mo_pack_97 : decode b_Mo_pack 97 = .ok (.iaload, 1) := by decide +kernel
theorem d_Mo_pack_98 : decode b_Mo_pack 98 = .ok (.bipush (8), 2) := by decide +kernel
theorem d_Mo_pack_100 : decode b_Mo_pack 100 = .ok (.ishr, 1) := by decide +kernel
theorem d_Mo_pack_101 : decode b_Mo_pack 101 = .ok (.invokevirtual 275, 3) := by decide +kernel
theorem d_Mo_pack_104 : decode b_Mo_pack 104 = .ok (.aload_n 0, 1) := by decide +kernel
theorem d_Mo_pack_105 : decode b_Mo_pack 105 = .ok (.aload_n 0, 1) := by decide +kernel
theorem d_Mo_pack_106 : decode b_Mo_pack 106 = .ok (.getfield 71, 3) := by decide +kernel
theorem d_Mo_pack_109 : decode b_Mo_pack 109 = .ok (.iload_n 1, 1) := by decide +kernel
theorem d_Mo_pack_110 : decode b_Mo_pack 110 = .ok (.iaload, 1) := by decide +kernel
theorem d_Mo_pack_111 : decode b_Mo_pack 111 = .ok (.invokevirtual 275, 3) := by decide +kernel
theorem d_Mo_pack_114 : decode b_Mo_pack 114 = .ok (.aload_n 0, 1) := by decide +kernel
theorem d_Mo_pack_115 : decode b_Mo_pack 115 = .ok (.aload_n 0, 1) := by decide +kernel
theorem d_Mo_pack_116 : decode b_Mo_pack 116 = .ok (.getfield 86, 3) := by decide +kernel
theorem d_Mo_pack_119 : decode b_Mo_pack 119 = .ok (.iload_n 1, 1) := by decide +kernel
theorem d_Mo_pack_120 : decode b_Mo_pack 120 = .ok (.iaload, 1) := by decide +kernel
theorem d_Mo_pack_121 : decode b_Mo_pack 121 = .ok (.invokevirtual 275, 3) := by decide +kernel
theorem d_Mo_pack_124 : decode b_Mo_pack 124 = .ok (.iconst (0), 1) := by decide +kernel
theorem d_Mo_pack_125 : decode b_Mo_pack 125 = .ok (.istore 4, 2) := by decide +kernel
theorem d_Mo_pack_127 : decode b_Mo_pack 127 = .ok (.iload 4, 2) := by decide +kernel
theorem d_Mo_pack_129 : decode b_Mo_pack 129 = .ok (.aload_n 0, 1) := by decide +kernel
theorem d_Mo_pack_130 : decode b_Mo_pack 130 = .ok (.getfield 86, 3) := by decide +kernel
theorem d_Mo_pack_133 : decode b_Mo_pack 133 = .ok (.iload_n 1, 1) := by decide +kernel
theorem d_Mo_pack_134 : decode b_Mo_pack 134 = .ok (.iaload, 1) := by decide +kernel
theorem d_Mo_pack_135 : decode b_Mo_pack 135 = .ok (.if_icmp .ge (25), 3) := by decide +kernel
theorem d_Mo_pack_138 : decode b_Mo_pack 138 = .ok (.aload_n 0, 1) := by decide +kernel
theorem d_Mo_pack_139 : decode b_Mo_pack 139 = .ok (.aload_n 0, 1) := by decide +kernel
theorem d_Mo_pack_140 : decode b_Mo_pack 140 = .ok (.getfield 89, 3) := by decide +kernel
theorem d_Mo_pack_143 : decode b_Mo_pack 143 = .ok (.bipush (6), 2) := by decide +kernel
theorem d_Mo_pack_145 : decode b_Mo_pack 145 = .ok (.iload_n 1, 1) := by decide +kernel
theorem d_Mo_pack_146 : decode b_Mo_pack 146 = .ok (.imul, 1) := by decide +kernel
theorem d_Mo_pack_147 : decode b_Mo_pack 147 = .ok (.iload 4, 2) := by decide +kernel
theorem d_Mo_pack_149 : decode b_Mo_pack 149 = .ok (.iadd, 1) := by decide +kernel
theorem d_Mo_pack_150 : decode b_Mo_pack 150 = .ok (.laload, 1) := by decide +kernel
theorem d_Mo_pack_151 : decode b_Mo_pack 151 = .ok (.invokevirtual 278, 3) := by decide +kernel
theorem d_Mo_pack_154 : decode b_Mo_pack 154 = .ok (.iinc 4 (1), 3) := by decide +kernel
theorem d_Mo_pack_157 : decode b_Mo_pack 157 = .ok (.goto (-30), 3) := by decide +kernel
theorem d_Mo_pack_160 : decode b_Mo_pack 160 = .ok (.aload_n 0, 1) := by decide +kernel
theorem d_Mo_pack_161 : decode b_Mo_pack 161 = .ok (.iload_n 3, 1) := by decide +kernel
theorem d_Mo_pack_162 : decode b_Mo_pack 162 = .ok (.invokevirtual 275, 3) := by decide +kernel
theorem d_Mo_pack_165 : decode b_Mo_pack 165 = .ok (.iconst (0), 1) := by decide +kernel
theorem d_Mo_pack_166 : decode b_Mo_pack 166 = .ok (.istore 4, 2) := by decide +kernel
theorem d_Mo_pack_168 : decode b_Mo_pack 168 = .ok (.iload 4, 2) := by decide +kernel
theorem d_Mo_pack_170 : decode b_Mo_pack 170 = .ok (.iload_n 3, 1) := by decide +kernel
theorem d_Mo_pack_171 : decode b_Mo_pack 171 = .ok (.if_icmp .ge (51), 3) := by decide +kernel
theorem d_Mo_pack_174 : decode b_Mo_pack 174 = .ok (.aload_n 0, 1) := by decide +kernel
theorem d_Mo_pack_175 : decode b_Mo_pack 175 = .ok (.aload_n 0, 1) := by decide +kernel
theorem d_Mo_pack_176 : decode b_Mo_pack 176 = .ok (.getfield 96, 3) := by decide +kernel
theorem d_Mo_pack_179 : decode b_Mo_pack 179 = .ok (.bipush (9), 2) := by decide +kernel
theorem d_Mo_pack_181 : decode b_Mo_pack 181 = .ok (.iload_n 1, 1) := by decide +kernel
theorem d_Mo_pack_182 : decode b_Mo_pack 182 = .ok (.imul, 1) := by decide +kernel
theorem d_Mo_pack_183 : decode b_Mo_pack 183 = .ok (.aload_n 0, 1) := by decide +kernel
theorem d_Mo_pack_184 : decode b_Mo_pack 184 = .ok (.getfield 102, 3) := by decide +kernel
theorem d_Mo_pack_187 : decode b_Mo_pack 187 = .ok (.iload 4, 2) := by decide +kernel
theorem d_Mo_pack_189 : decode b_Mo_pack 189 = .ok (.iaload, 1) := by decide +kernel
theorem d_Mo_pack_190 : decode b_Mo_pack 190 = .ok (.iadd, 1) := by decide +kernel
theorem d_Mo_pack_191 : decode b_Mo_pack 191 = .ok (.laload, 1) := by decide +kernel
theorem d_Mo_pack_192 : decode b_Mo_pack 192 = .ok (.invokevirtual 278, 3) := by decide +kernel
theorem d_Mo_pack_195 : decode b_Mo_pack 195 = .ok (.aload_n 0, 1) := by decide +kernel
theorem d_Mo_pack_196 : decode b_Mo_pack 196 = .ok (.aload_n 0, 1) := by decide +kernel
theorem d_Mo_pack_197 : decode b_Mo_pack 197 = .ok (.getfield 99, 3) := by decide +kernel
theorem d_Mo_pack_200 : decode b_Mo_pack 200 = .ok (.bipush (9), 2) := by decide +kernel
theorem d_Mo_pack_202 : decode b_Mo_pack 202 = .ok (.iload_n 1, 1) := by decide +kernel
theorem d_Mo_pack_203 : decode b_Mo_pack 203 = .ok (.imul, 1) := by decide +kernel
theorem d_Mo_pack_204 : decode b_Mo_pack 204 = .ok (.aload_n 0, 1) := by decide +kernel
theorem d_Mo_pack_205 : decode b_Mo_pack 205 = .ok (.getfield 102, 3) := by decide +kernel
theorem d_Mo_pack_208 : decode b_Mo_pack 208 = .ok (.iload 4, 2) := by decide +kernel
theorem d_Mo_pack_210 : decode b_Mo_pack 210 = .ok (.iaload, 1) := by decide +kernel
theorem d_Mo_pack_211 : decode b_Mo_pack 211 = .ok (.iadd, 1) := by decide +kernel
theorem d_Mo_pack_212 : decode b_Mo_pack 212 = .ok (.laload, 1) := by decide +kernel
theorem d_Mo_pack_213 : decode b_Mo_pack 213 = .ok (.invokevirtual 278, 3) := by decide +kernel
theorem d_Mo_pack_216 : decode b_Mo_pack 216 = .ok (.iinc 4 (1), 3) := by decide +kernel
theorem d_Mo_pack_219 : decode b_Mo_pack 219 = .ok (.goto (-51), 3) := by decide +kernel
theorem d_Mo_pack_222 : decode b_Mo_pack 222 = .ok (.aload_n 0, 1) := by decide +kernel
theorem d_Mo_pack_223 : decode b_Mo_pack 223 = .ok (.getfield 129, 3) := by decide +kernel
theorem d_Mo_pack_226 : decode b_Mo_pack 226 = .ok (.iload_n 2, 1) := by decide +kernel
theorem d_Mo_pack_227 : decode b_Mo_pack 227 = .ok (.aload_n 0, 1) := by decide +kernel
theorem d_Mo_pack_228 : decode b_Mo_pack 228 = .ok (.getfield 272, 3) := by decide +kernel
theorem d_Mo_pack_231 : decode b_Mo_pack 231 = .ok (.sipush (128), 3) := by decide +kernel
theorem d_Mo_pack_234 : decode b_Mo_pack 234 = .ok (.iload_n 2, 1) := by decide +kernel
theorem d_Mo_pack_235 : decode b_Mo_pack 235 = .ok (.imul, 1) := by decide +kernel
theorem d_Mo_pack_236 : decode b_Mo_pack 236 = .ok (.isub, 1) := by decide +kernel
theorem d_Mo_pack_237 : decode b_Mo_pack 237 = .ok (.iastore, 1) := by decide +kernel
theorem d_Mo_pack_238 : decode b_Mo_pack 238 = .ok (.return_, 1) := by decide +kernel
theorem d_Mo_tick_0 : decode b_Mo_tick 0 = .ok (.aload_n 0, 1) := by decide +kernel
theorem d_Mo_tick_1 : decode b_Mo_tick 1 = .ok (.aload_n 0, 1) := by decide +kernel
theorem d_Mo_tick_2 : decode b_Mo_tick 2 = .ok (.iload_n 1, 1) := by decide +kernel
theorem d_Mo_tick_3 : decode b_Mo_tick 3 = .ok (.iconst (1), 1) := by decide +kernel
theorem d_Mo_tick_4 : decode b_Mo_tick 4 = .ok (.invokevirtual 262, 3) := by decide +kernel
theorem d_Mo_tick_7 : decode b_Mo_tick 7 = .ok (.putfield 142, 3) := by decide +kernel
theorem d_Mo_tick_10 : decode b_Mo_tick 10 = .ok (.aload_n 0, 1) := by decide +kernel
theorem d_Mo_tick_11 : decode b_Mo_tick 11 = .ok (.getfield 142, 3) := by decide +kernel
theorem d_Mo_tick_14 : decode b_Mo_tick 14 = .ok (.ifCond .le (5), 3) := by decide +kernel
theorem d_Mo_tick_17 : decode b_Mo_tick 17 = .ok (.iconst (0), 1) := by decide +kernel
theorem d_Mo_tick_18 : decode b_Mo_tick 18 = .ok (.ireturn, 1) := by decide +kernel
theorem d_Mo_tick_19 : decode b_Mo_tick 19 = .ok (.bipush (24), 2) := by decide +kernel
theorem d_Mo_tick_21 : decode b_Mo_tick 21 = .ok (.iload_n 1, 1) := by decide +kernel
theorem d_Mo_tick_22 : decode b_Mo_tick 22 = .ok (.imul, 1) := by decide +kernel
theorem d_Mo_tick_23 : decode b_Mo_tick 23 = .ok (.istore_n 2, 1) := by decide +kernel
theorem d_Mo_tick_24 : decode b_Mo_tick 24 = .ok (.iload_n 2, 1) := by decide +kernel
theorem d_Mo_tick_25 : decode b_Mo_tick 25 = .ok (.bipush (24), 2) := by decide +kernel
theorem d_Mo_tick_27 : decode b_Mo_tick 27 = .ok (.iload_n 1, 1) := by decide +kernel
theorem d_Mo_tick_28 : decode b_Mo_tick 28 = .ok (.imul, 1) := by decide +kernel
theorem d_Mo_tick_29 : decode b_Mo_tick 29 = .ok (.bipush (8), 2) := by decide +kernel
theorem d_Mo_tick_31 : decode b_Mo_tick 31 = .ok (.iadd, 1) := by decide +kernel
theorem d_Mo_tick_32 : decode b_Mo_tick 32 = .ok (.if_icmp .ge (51), 3) := by decide +kernel
theorem d_Mo_tick_35 : decode b_Mo_tick 35 = .ok (.aload_n 0, 1) := by decide +kernel
theorem d_Mo_tick_36 : decode b_Mo_tick 36 = .ok (.getfield 80, 3) := by decide +kernel
theorem d_Mo_tick_39 : decode b_Mo_tick 39 = .ok (.iload_n 2, 1) := by decide +kernel
theorem d_Mo_tick_40 : decode b_Mo_tick 40 = .ok (.aload_n 0, 1) := by decide +kernel
theorem d_Mo_tick_41 : decode b_Mo_tick 41 = .ok (.getfield 41, 3) := by decide +kernel
theorem d_Mo_tick_44 : decode b_Mo_tick 44 = .ok (.iload_n 2, 1) := by decide +kernel
theorem d_Mo_tick_45 : decode b_Mo_tick 45 = .ok (.iaload, 1) := by decide +kernel
theorem d_Mo_tick_46 : decode b_Mo_tick 46 = .ok (.iconst (1), 1) := by decide +kernel
theorem d_Mo_tick_47 : decode b_Mo_tick 47 = .ok (.if_icmp .ne (23), 3) := by decide +kernel
theorem d_Mo_tick_50 : decode b_Mo_tick 50 = .ok (.aload_n 0, 1) := by decide +kernel
theorem d_Mo_tick_51 : decode b_Mo_tick 51 = .ok (.getfield 80, 3) := by decide +kernel
theorem d_Mo_tick_54 : decode b_Mo_tick 54 = .ok (.iload_n 2, 1) := by decide +kernel
theorem d_Mo_tick_55 : decode b_Mo_tick 55 = .ok (.iaload, 1) := by decide +kernel
theorem d_Mo_tick_56 : decode b_Mo_tick 56 = .ok (.ifCond .le (14), 3) := by decide +kernel
theorem d_Mo_tick_59 : decode b_Mo_tick 59 = .ok (.aload_n 0, 1) := by decide +kernel
theorem d_Mo_tick_60 : decode b_Mo_tick 60 = .ok (.getfield 80, 3) := by decide +kernel
theorem d_Mo_tick_63 : decode b_Mo_tick 63 = .ok (.iload_n 2, 1) := by decide +kernel
theorem d_Mo_tick_64 : decode b_Mo_tick 64 = .ok (.iaload, 1) := by decide +kernel
theorem d_Mo_tick_65 : decode b_Mo_tick 65 = .ok (.iconst (1), 1) := by decide +kernel
theorem d_Mo_tick_66 : decode b_Mo_tick 66 = .ok (.isub, 1) := by decide +kernel
theorem d_Mo_tick_67 : decode b_Mo_tick 67 = .ok (.goto (9), 3) := by decide +kernel
theorem d_Mo_tick_70 : decode b_Mo_tick 70 = .ok (.aload_n 0, 1) := by decide +kernel
theorem d_Mo_tick_71 : decode b_Mo_tick 71 = .ok (.getfield 80, 3) := by decide +kernel
theorem d_Mo_tick_74 : decode b_Mo_tick 74 = .ok (.iload_n 2, 1) := by decide +kernel
theorem d_Mo_tick_75 : decode b_Mo_tick 75 = .ok (.iaload, 1) := by decide +kernel
theorem d_Mo_tick_76 : decode b_Mo_tick 76 = .ok (.iastore, 1) := by decide +kernel
theorem d_Mo_tick_77 : decode b_Mo_tick 77 = .ok (.iinc 2 (1), 3) := by decide +kernel
theorem d_Mo_tick_80 : decode b_Mo_tick 80 = .ok (.goto (-56), 3) := by decide +kernel
theorem d_Mo_tick_83 : decode b_Mo_tick 83 = .ok (.bipush (24), 2) := by decide +kernel
theorem d_Mo_tick_85 : decode b_Mo_tick 85 = .ok (.iload_n 1, 1) := by decide +kernel
theorem d_Mo_tick_86 : decode b_Mo_tick 86 = .ok (.imul, 1) := by decide +kernel
theorem d_Mo_tick_87 : decode b_Mo_tick 87 = .ok (.istore_n 2, 1) := by decide +kernel
theorem d_Mo_tick_88 : decode b_Mo_tick 88 = .ok (.iload_n 2, 1) := by decide +kernel
theorem d_Mo_tick_89 : decode b_Mo_tick 89 = .ok (.bipush (24), 2) := by decide +kernel
theorem d_Mo_tick_91 : decode b_Mo_tick 91 = .ok (.iload_n 1, 1) := by decide +kernel
theorem d_Mo_tick_92 : decode b_Mo_tick 92 = .ok (.imul, 1) := by decide +kernel
theorem d_Mo_tick_93 : decode b_Mo_tick 93 = .ok (.bipush (8), 2) := by decide +kernel
theorem d_Mo_tick_95 : decode b_Mo_tick 95 = .ok (.iadd, 1) := by decide +kernel
theorem d_Mo_tick_96 : decode b_Mo_tick 96 = .ok (.if_icmp .ge (83), 3) := by decide +kernel
theorem d_Mo_tick_99 : decode b_Mo_tick 99 = .ok (.aload_n 0, 1) := by decide +kernel
theorem d_Mo_tick_100 : decode b_Mo_tick 100 = .ok (.getfield 41, 3) := by decide +kernel
theorem d_Mo_tick_103 : decode b_Mo_tick 103 = .ok (.iload_n 2, 1) := by decide +kernel
theorem d_Mo_tick_104 : decode b_Mo_tick 104 = .ok (.iaload, 1) := by decide +kernel
theorem d_Mo_tick_105 : decode b_Mo_tick 105 = .ok (.iconst (2), 1) := by decide +kernel
theorem d_Mo_tick_106 : decode b_Mo_tick 106 = .ok (.if_icmp .ne (67), 3) := by decide +kernel
theorem d_Mo_tick_109 : decode b_Mo_tick 109 = .ok (.aload_n 0, 1) := by decide +kernel
theorem d_Mo_tick_110 : decode b_Mo_tick 110 = .ok (.getfield 41, 3) := by decide +kernel
theorem d_Mo_tick_113 : decode b_Mo_tick 113 = .ok (.iload_n 2, 1) := by decide +kernel
theorem d_Mo_tick_114 : decode b_Mo_tick 114 = .ok (.bipush (16), 2) := by decide +kernel
theorem d_Mo_tick_116 : decode b_Mo_tick 116 = .ok (.iadd, 1) := by decide +kernel
theorem d_Mo_tick_117 : decode b_Mo_tick 117 = .ok (.iaload, 1) := by decide +kernel
theorem d_Mo_tick_118 : decode b_Mo_tick 118 = .ok (.iconst (2), 1) := by decide +kernel
theorem d_Mo_tick_119 : decode b_Mo_tick 119 = .ok (.if_icmp .ne (54), 3) := by decide +kernel
theorem d_Mo_tick_122 : decode b_Mo_tick 122 = .ok (.aload_n 0, 1) := by decide +kernel
theorem d_Mo_tick_123 : decode b_Mo_tick 123 = .ok (.getfield 74, 3) := by decide +kernel
theorem d_Mo_tick_126 : decode b_Mo_tick 126 = .ok (.iload_n 2, 1) := by decide +kernel
theorem d_Mo_tick_127 : decode b_Mo_tick 127 = .ok (.bipush (16), 2) := by decide +kernel
theorem d_Mo_tick_129 : decode b_Mo_tick 129 = .ok (.iadd, 1) := by decide +kernel
theorem d_Mo_tick_130 : decode b_Mo_tick 130 = .ok (.iaload, 1) := by decide +kernel
theorem d_Mo_tick_131 : decode b_Mo_tick 131 = .ok (.aload_n 0, 1) := by decide +kernel
theorem d_Mo_tick_132 : decode b_Mo_tick 132 = .ok (.getfield 74, 3) := by decide +kernel
theorem d_Mo_tick_135 : decode b_Mo_tick 135 = .ok (.iload_n 2, 1) := by decide +kernel
theorem d_Mo_tick_136 : decode b_Mo_tick 136 = .ok (.iaload, 1) := by decide +kernel
theorem d_Mo_tick_137 : decode b_Mo_tick 137 = .ok (.if_icmp .ne (36), 3) := by decide +kernel
theorem d_Mo_tick_140 : decode b_Mo_tick 140 = .ok (.aload_n 0, 1) := by decide +kernel
theorem d_Mo_tick_141 : decode b_Mo_tick 141 = .ok (.iconst (0), 1) := by decide +kernel
theorem d_Mo_tick_142 : decode b_Mo_tick 142 = .ok (.iload_n 2, 1) := by decide +kernel
theorem d_Mo_tick_143 : decode b_Mo_tick 143 = .ok (.bipush (8), 2) := by decide +kernel
theorem d_Mo_tick_145 : decode b_Mo_tick 145 = .ok (.irem, 1) := by decide +kernel
theorem d_Mo_tick_146 : decode b_Mo_tick 146 = .ok (.aload_n 0, 1) := by decide +kernel
theorem d_Mo_tick_147 : decode b_Mo_tick 147 = .ok (.getfield 74, 3) := by decide +kernel
theorem d_Mo_tick_150 : decode b_Mo_tick 150 = .ok (.iload_n 2, 1) := by decide +kernel
theorem d_Mo_tick_151 : decode b_Mo_tick 151 = .ok (.iaload, 1) := by decide +kernel
theorem d_Mo_tick_152 : decode b_Mo_tick 152 = .ok (.iload_n 1, 1) := by decide +kernel
theorem d_Mo_tick_153 : decode b_Mo_tick 153 = .ok (.aload_n 0, 1) := by decide +kernel
theorem d_Mo_tick_154 : decode b_Mo_tick 154 = .ok (.getfield 44, 3) := by decide +kernel
theorem d_Mo_tick_157 : decode b_Mo_tick 157 = .ok (.iload_n 2, 1) := by decide +kernel
theorem d_Mo_tick_158 : decode b_Mo_tick 158 = .ok (.iaload, 1) := by decide +kernel
theorem d_Mo_tick_159 : decode b_Mo_tick 159 = .ok (.invokevirtual 281, 3) := by decide +kernel
theorem d_Mo_tick_162 : decode b_Mo_tick 162 = .ok (.istore_n 3, 1) := by decide +kernel
theorem d_Mo_tick_163 : decode b_Mo_tick 163 = .ok (.iload_n 3, 1) := by decide +kernel
theorem d_Mo_tick_164 : decode b_Mo_tick 164 = .ok (.ifCond .lt (9), 3) := by decide +kernel
theorem d_Mo_tick_167 : decode b_Mo_tick 167 = .ok (.aload_n 0, 1) := by decide +kernel
theorem d_Mo_tick_168 : decode b_Mo_tick 168 = .ok (.iload_n 2, 1) := by decide +kernel
theorem d_Mo_tick_169 : decode b_Mo_tick 169 = .ok (.iload_n 3, 1) := by decide +kernel
theorem d_Mo_tick_170 : decode b_Mo_tick 170 = .ok (.invokevirtual 285, 3) := by decide +kernel
theorem d_Mo_tick_173 : decode b_Mo_tick 173 = .ok (.iinc 2 (1), 3) := by decide +kernel
theorem d_Mo_tick_176 : decode b_Mo_tick 176 = .ok (.goto (-88), 3) := by decide +kernel
theorem d_Mo_tick_179 : decode b_Mo_tick 179 = .ok (.aload_n 0, 1) := by decide +kernel
theorem d_Mo_tick_180 : decode b_Mo_tick 180 = .ok (.getfield 269, 3) := by decide +kernel
theorem d_Mo_tick_183 : decode b_Mo_tick 183 = .ok (.ireturn, 1) := by decide +kernel
theorem d_Mo_checkpoint_0 : decode b_Mo_checkpoint 0 = .ok (.aload_n 0, 1) := by decide +kernel
theorem d_Mo_checkpoint_1 : decode b_Mo_checkpoint 1 = .ok (.aload_n 0, 1) := by decide +kernel
theorem d_Mo_checkpoint_2 : decode b_Mo_checkpoint 2 = .ok (.iload_n 1, 1) := by decide +kernel
theorem d_Mo_checkpoint_3 : decode b_Mo_checkpoint 3 = .ok (.iconst (1), 1) := by decide +kernel
theorem d_Mo_checkpoint_4 : decode b_Mo_checkpoint 4 = .ok (.invokevirtual 262, 3) := by decide +kernel
theorem d_Mo_checkpoint_7 : decode b_Mo_checkpoint 7 = .ok (.putfield 142, 3) := by decide +kernel
theorem d_Mo_checkpoint_10 : decode b_Mo_checkpoint 10 = .ok (.aload_n 0, 1) := by decide +kernel
theorem d_Mo_checkpoint_11 : decode b_Mo_checkpoint 11 = .ok (.aload_n 0, 1) := by decide +kernel
theorem d_Mo_checkpoint_12 : decode b_Mo_checkpoint 12 = .ok (.getfield 142, 3) := by decide +kernel
theorem d_Mo_checkpoint_15 : decode b_Mo_checkpoint 15 = .ok (.ifCond .ne (16), 3) := by decide +kernel
theorem d_Mo_checkpoint_18 : decode b_Mo_checkpoint 18 = .ok (.aload_n 0, 1) := by decide +kernel
theorem d_Mo_checkpoint_19 : decode b_Mo_checkpoint 19 = .ok (.getfield 38, 3) := by decide +kernel
theorem d_Mo_checkpoint_22 : decode b_Mo_checkpoint 22 = .ok (.iload_n 1, 1) := by decide +kernel
theorem d_Mo_checkpoint_23 : decode b_Mo_checkpoint 23 = .ok (.iaload, 1) := by decide +kernel
theorem d_Mo_checkpoint_24 : decode b_Mo_checkpoint 24 = .ok (.ifCond .le (7), 3) := by decide +kernel
theorem d_Mo_checkpoint_27 : decode b_Mo_checkpoint 27 = .ok (.iconst (2), 1) := by decide +kernel
theorem d_Mo_checkpoint_28 : decode b_Mo_checkpoint 28 = .ok (.goto (7), 3) := by decide +kernel
theorem d_Mo_checkpoint_31 : decode b_Mo_checkpoint 31 = .ok (.aload_n 0, 1) := by decide +kernel
theorem d_Mo_checkpoint_32 : decode b_Mo_checkpoint 32 = .ok (.getfield 142, 3) := by decide +kernel
theorem d_Mo_checkpoint_35 : decode b_Mo_checkpoint 35 = .ok (.putfield 142, 3) := by decide +kernel
theorem d_Mo_checkpoint_38 : decode b_Mo_checkpoint 38 = .ok (.aload_n 0, 1) := by decide +kernel
theorem d_Mo_checkpoint_39 : decode b_Mo_checkpoint 39 = .ok (.getfield 142, 3) := by decide +kernel
theorem d_Mo_checkpoint_42 : decode b_Mo_checkpoint 42 = .ok (.ifCond .le (5), 3) := by decide +kernel
theorem d_Mo_checkpoint_45 : decode b_Mo_checkpoint 45 = .ok (.iconst (0), 1) := by decide +kernel
theorem d_Mo_checkpoint_46 : decode b_Mo_checkpoint 46 = .ok (.ireturn, 1) := by decide +kernel
theorem d_Mo_checkpoint_47 : decode b_Mo_checkpoint 47 = .ok (.aload_n 0, 1) := by decide +kernel
theorem d_Mo_checkpoint_48 : decode b_Mo_checkpoint 48 = .ok (.iconst (3), 1) := by decide +kernel
theorem d_Mo_checkpoint_49 : decode b_Mo_checkpoint 49 = .ok (.iload_n 1, 1) := by decide +kernel
theorem d_Mo_checkpoint_50 : decode b_Mo_checkpoint 50 = .ok (.imul, 1) := by decide +kernel
theorem d_Mo_checkpoint_51 : decode b_Mo_checkpoint 51 = .ok (.iconst (3), 1) := by decide +kernel
theorem d_Mo_checkpoint_52 : decode b_Mo_checkpoint 52 = .ok (.iload_n 1, 1) := by decide +kernel
theorem d_Mo_checkpoint_53 : decode b_Mo_checkpoint 53 = .ok (.imul, 1) := by decide +kernel
theorem d_Mo_checkpoint_54 : decode b_Mo_checkpoint 54 = .ok (.iconst (1), 1) := by decide +kernel
theorem d_Mo_checkpoint_55 : decode b_Mo_checkpoint 55 = .ok (.iadd, 1) := by decide +kernel
theorem d_Mo_checkpoint_56 : decode b_Mo_checkpoint 56 = .ok (.invokevirtual 288, 3) := by decide +kernel
theorem d_Mo_checkpoint_59 : decode b_Mo_checkpoint 59 = .ok (.aload_n 0, 1) := by decide +kernel
theorem d_Mo_checkpoint_60 : decode b_Mo_checkpoint 60 = .ok (.getfield 38, 3) := by decide +kernel
theorem d_Mo_checkpoint_63 : decode b_Mo_checkpoint 63 = .ok (.iload_n 1, 1) := by decide +kernel
theorem d_Mo_checkpoint_64 : decode b_Mo_checkpoint 64 = .ok (.iconst (1), 1) := by decide +kernel
theorem d_Mo_checkpoint_65 : decode b_Mo_checkpoint 65 = .ok (.iastore, 1) := by decide +kernel
theorem d_Mo_checkpoint_66 : decode b_Mo_checkpoint 66 = .ok (.bipush (24), 2) := by decide +kernel
theorem d_Mo_checkpoint_68 : decode b_Mo_checkpoint 68 = .ok (.iload_n 1, 1) := by decide +kernel
theorem d_Mo_checkpoint_69 : decode b_Mo_checkpoint 69 = .ok (.imul, 1) := by decide +kernel
theorem d_Mo_checkpoint_70 : decode b_Mo_checkpoint 70 = .ok (.istore_n 2, 1) := by decide +kernel
theorem d_Mo_checkpoint_71 : decode b_Mo_checkpoint 71 = .ok (.iload_n 2, 1) := by decide +kernel
theorem d_Mo_checkpoint_72 : decode b_Mo_checkpoint 72 = .ok (.bipush (24), 2) := by decide +kernel
theorem d_Mo_checkpoint_74 : decode b_Mo_checkpoint 74 = .ok (.iload_n 1, 1) := by decide +kernel
theorem d_Mo_checkpoint_75 : decode b_Mo_checkpoint 75 = .ok (.imul, 1) := by decide +kernel
theorem d_Mo_checkpoint_76 : decode b_Mo_checkpoint 76 = .ok (.bipush (8), 2) := by decide +kernel
theorem d_Mo_checkpoint_78 : decode b_Mo_checkpoint 78 = .ok (.iadd, 1) := by decide +kernel
theorem d_Mo_checkpoint_79 : decode b_Mo_checkpoint 79 = .ok (.if_icmp .ge (41), 3) := by decide +kernel
theorem d_Mo_checkpoint_82 : decode b_Mo_checkpoint 82 = .ok (.aload_n 0, 1) := by decide +kernel
theorem d_Mo_checkpoint_83 : decode b_Mo_checkpoint 83 = .ok (.getfield 38, 3) := by decide +kernel
theorem d_Mo_checkpoint_86 : decode b_Mo_checkpoint 86 = .ok (.iload_n 1, 1) := by decide +kernel
theorem d_Mo_checkpoint_87 : decode b_Mo_checkpoint 87 = .ok (.aload_n 0, 1) := by decide +kernel
theorem d_Mo_checkpoint_88 : decode b_Mo_checkpoint 88 = .ok (.getfield 41, 3) := by decide +kernel
theorem d_Mo_checkpoint_91 : decode b_Mo_checkpoint 91 = .ok (.iload_n 2, 1) := by decide +kernel
theorem d_Mo_checkpoint_92 : decode b_Mo_checkpoint 92 = .ok (.iaload, 1) := by decide +kernel
theorem d_Mo_checkpoint_93 : decode b_Mo_checkpoint 93 = .ok (.ifCond .le (14), 3) := by decide +kernel
theorem d_Mo_checkpoint_96 : decode b_Mo_checkpoint 96 = .ok (.aload_n 0, 1) := by decide +kernel
theorem d_Mo_checkpoint_97 : decode b_Mo_checkpoint 97 = .ok (.getfield 38, 3) := by decide +kernel
theorem d_Mo_checkpoint_100 : decode b_Mo_checkpoint 100 = .ok (.iload_n 1, 1) := by decide +kernel
theorem d_Mo_checkpoint_101 : decode b_Mo_checkpoint 101 = .ok (.iaload, 1) := by decide +kernel
theorem d_Mo_checkpoint_102 : decode b_Mo_checkpoint 102 = .ok (.iconst (1), 1) := by decide +kernel
theorem d_Mo_checkpoint_103 : decode b_Mo_checkpoint 103 = .ok (.iadd, 1) := by decide +kernel
theorem d_Mo_checkpoint_104 : decode b_Mo_checkpoint 104 = .ok (.goto (9), 3) := by decide +kernel
theorem d_Mo_checkpoint_107 : decode b_Mo_checkpoint 107 = .ok (.aload_n 0, 1) := by decide +kernel
theorem d_Mo_checkpoint_108 : decode b_Mo_checkpoint 108 = .ok (.getfield 38, 3) := by decide +kernel
theorem d_Mo_checkpoint_111 : decode b_Mo_checkpoint 111 = .ok (.iload_n 1, 1) := by decide +kernel
theorem d_Mo_checkpoint_112 : decode b_Mo_checkpoint 112 = .ok (.iaload, 1) := by decide +kernel
theorem d_Mo_checkpoint_113 : decode b_Mo_checkpoint 113 = .ok (.iastore, 1) := by decide +kernel
theorem d_Mo_checkpoint_114 : decode b_Mo_checkpoint 114 = .ok (.iinc 2 (1), 3) := by decide +kernel
theorem d_Mo_checkpoint_117 : decode b_Mo_checkpoint 117 = .ok (.goto (-46), 3) := by decide +kernel
theorem d_Mo_checkpoint_120 : decode b_Mo_checkpoint 120 = .ok (.aload_n 0, 1) := by decide +kernel
theorem d_Mo_checkpoint_121 : decode b_Mo_checkpoint 121 = .ok (.getfield 38, 3) := by decide +kernel
theorem d_Mo_checkpoint_124 : decode b_Mo_checkpoint 124 = .ok (.iload_n 1, 1) := by decide +kernel
theorem d_Mo_checkpoint_125 : decode b_Mo_checkpoint 125 = .ok (.iaload, 1) := by decide +kernel
theorem d_Mo_checkpoint_126 : decode b_Mo_checkpoint 126 = .ok (.ireturn, 1) := by decide +kernel
theorem d_Mo_seal_0 : decode b_Mo_seal 0 = .ok (.aload_n 0, 1) := by decide +kernel
theorem d_Mo_seal_1 : decode b_Mo_seal 1 = .ok (.iconst (3), 1) := by decide +kernel
theorem d_Mo_seal_2 : decode b_Mo_seal 2 = .ok (.iload_n 1, 1) := by decide +kernel
theorem d_Mo_seal_3 : decode b_Mo_seal 3 = .ok (.imul, 1) := by decide +kernel
theorem d_Mo_seal_4 : decode b_Mo_seal 4 = .ok (.iconst (1), 1) := by decide +kernel
theorem d_Mo_seal_5 : decode b_Mo_seal 5 = .ok (.iadd, 1) := by decide +kernel
theorem d_Mo_seal_6 : decode b_Mo_seal 6 = .ok (.iconst (3), 1) := by decide +kernel
theorem d_Mo_seal_7 : decode b_Mo_seal 7 = .ok (.iload_n 1, 1) := by decide +kernel
theorem d_Mo_seal_8 : decode b_Mo_seal 8 = .ok (.imul, 1) := by decide +kernel
theorem d_Mo_seal_9 : decode b_Mo_seal 9 = .ok (.iconst (2), 1) := by decide +kernel
theorem d_Mo_seal_10 : decode b_Mo_seal 10 = .ok (.iadd, 1) := by decide +kernel
theorem d_Mo_seal_11 : decode b_Mo_seal 11 = .ok (.invokevirtual 288, 3) := by decide +kernel
theorem d_Mo_seal_14 : decode b_Mo_seal 14 = .ok (.bipush (24), 2) := by decide +kernel
theorem d_Mo_seal_16 : decode b_Mo_seal 16 = .ok (.iload_n 1, 1) := by decide +kernel
theorem d_Mo_seal_17 : decode b_Mo_seal 17 = .ok (.imul, 1) := by decide +kernel
theorem d_Mo_seal_18 : decode b_Mo_seal 18 = .ok (.bipush (16), 2) := by decide +kernel
theorem d_Mo_seal_20 : decode b_Mo_seal 20 = .ok (.iadd, 1) := by decide +kernel
theorem d_Mo_seal_21 : decode b_Mo_seal 21 = .ok (.istore_n 2, 1) := by decide +kernel
theorem d_Mo_seal_22 : decode b_Mo_seal 22 = .ok (.iconst (0), 1) := by decide +kernel
theorem d_Mo_seal_23 : decode b_Mo_seal 23 = .ok (.istore_n 3, 1) := by decide +kernel
theorem d_Mo_seal_24 : decode b_Mo_seal 24 = .ok (.iload_n 3, 1) := by decide +kernel
theorem d_Mo_seal_25 : decode b_Mo_seal 25 = .ok (.bipush (8), 2) := by decide +kernel
theorem d_Mo_seal_27 : decode b_Mo_seal 27 = .ok (.if_icmp .ge (72), 3) := by decide +kernel
theorem d_Mo_seal_30 : decode b_Mo_seal 30 = .ok (.aload_n 0, 1) := by decide +kernel
theorem d_Mo_seal_31 : decode b_Mo_seal 31 = .ok (.getfield 28, 3) := by decide +kernel
theorem d_Mo_seal_34 : decode b_Mo_seal 34 = .ok (.iload_n 3, 1) := by decide +kernel
theorem d_Mo_seal_35 : decode b_Mo_seal 35 = .ok (.iaload, 1) := by decide +kernel
theorem d_Mo_seal_36 : decode b_Mo_seal 36 = .ok (.istore 4, 2) := by decide +kernel
theorem d_Mo_seal_38 : decode b_Mo_seal 38 = .ok (.iload 4, 2) := by decide +kernel
theorem d_Mo_seal_40 : decode b_Mo_seal 40 = .ok (.aload_n 0, 1) := by decide +kernel
theorem d_Mo_seal_41 : decode b_Mo_seal 41 = .ok (.getfield 56, 3) := by decide +kernel
theorem d_Mo_seal_44 : decode b_Mo_seal 44 = .ok (.iload_n 2, 1) := by decide +kernel
theorem d_Mo_seal_45 : decode b_Mo_seal 45 = .ok (.iload_n 3, 1) := by decide +kernel
theorem d_Mo_seal_46 : decode b_Mo_seal 46 = .ok (.iadd, 1) := by decide +kernel
theorem d_Mo_seal_47 : decode b_Mo_seal 47 = .ok (.iaload, 1) := by decide +kernel
theorem d_Mo_seal_48 : decode b_Mo_seal 48 = .ok (.if_icmp .ge (45), 3) := by decide +kernel
theorem d_Mo_seal_51 : decode b_Mo_seal 51 = .ok (.aload_n 0, 1) := by decide +kernel
theorem d_Mo_seal_52 : decode b_Mo_seal 52 = .ok (.getfield 31, 3) := by decide +kernel
theorem d_Mo_seal_55 : decode b_Mo_seal 55 = .ok (.bipush (16), 2) := by decide +kernel
theorem d_Mo_seal_57 : decode b_Mo_seal 57 = .ok (.iload_n 3, 1) := by decide +kernel
theorem d_Mo_seal_58 : decode b_Mo_seal 58 = .ok (.imul, 1) := by decide +kernel
theorem d_Mo_seal_59 : decode b_Mo_seal 59 = .ok (.iload 4, 2) := by decide +kernel
theorem d_Mo_seal_61 : decode b_Mo_seal 61 = .ok (.iadd, 1) := by decide +kernel
theorem d_Mo_seal_62 : decode b_Mo_seal 62 = .ok (.aload_n 0, 1) := by decide +kernel
theorem d_Mo_seal_63 : decode b_Mo_seal 63 = .ok (.getfield 59, 3) := by decide +kernel
theorem d_Mo_seal_66 : decode b_Mo_seal 66 = .ok (.bipush (16), 2) := by decide +kernel
theorem d_Mo_seal_68 : decode b_Mo_seal 68 = .ok (.iload_n 2, 1) := by decide +kernel
theorem d_Mo_seal_69 : decode b_Mo_seal 69 = .ok (.iload_n 3, 1) := by decide +kernel
theorem d_Mo_seal_70 : decode b_Mo_seal 70 = .ok (.iadd, 1) := by decide +kernel
theorem d_Mo_seal_71 : decode b_Mo_seal 71 = .ok (.imul, 1) := by decide +kernel
theorem d_Mo_seal_72 : decode b_Mo_seal 72 = .ok (.iload 4, 2) := by decide +kernel
theorem d_Mo_seal_74 : decode b_Mo_seal 74 = .ok (.iadd, 1) := by decide +kernel
theorem d_Mo_seal_75 : decode b_Mo_seal 75 = .ok (.iaload, 1) := by decide +kernel
theorem d_Mo_seal_76 : decode b_Mo_seal 76 = .ok (.iastore, 1) := by decide +kernel
theorem d_Mo_seal_77 : decode b_Mo_seal 77 = .ok (.aload_n 0, 1) := by decide +kernel
theorem d_Mo_seal_78 : decode b_Mo_seal 78 = .ok (.getfield 28, 3) := by decide +kernel
theorem d_Mo_seal_81 : decode b_Mo_seal 81 = .ok (.iload_n 3, 1) := by decide +kernel
theorem d_Mo_seal_82 : decode b_Mo_seal 82 = .ok (.dup2, 1) := by decide +kernel
theorem d_Mo_seal_83 : decode b_Mo_seal 83 = .ok (.iaload, 1) := by decide +kernel
theorem d_Mo_seal_84 : decode b_Mo_seal 84 = .ok (.iconst (1), 1) := by decide +kernel
theorem d_Mo_seal_85 : decode b_Mo_seal 85 = .ok (.iadd, 1) := by decide +kernel
theorem d_Mo_seal_86 : decode b_Mo_seal 86 = .ok (.iastore, 1) := by decide +kernel
theorem d_Mo_seal_87 : decode b_Mo_seal 87 = .ok (.iinc 4 (1), 3) := by decide +kernel
theorem d_Mo_seal_90 : decode b_Mo_seal 90 = .ok (.goto (-52), 3) := by decide +kernel
theorem d_Mo_seal_93 : decode b_Mo_seal 93 = .ok (.iinc 3 (1), 3) := by decide +kernel
theorem d_Mo_seal_96 : decode b_Mo_seal 96 = .ok (.goto (-72), 3) := by decide +kernel
theorem d_Mo_seal_99 : decode b_Mo_seal 99 = .ok (.iconst (0), 1) := by decide +kernel
theorem d_Mo_seal_100 : decode b_Mo_seal 100 = .ok (.istore_n 3, 1) := by decide +kernel
theorem d_Mo_seal_101 : decode b_Mo_seal 101 = .ok (.iload_n 3, 1) := by decide +kernel
theorem d_Mo_seal_102 : decode b_Mo_seal 102 = .ok (.bipush (8), 2) := by decide +kernel
theorem d_Mo_seal_104 : decode b_Mo_seal 104 = .ok (.if_icmp .ge (90), 3) := by decide +kernel
theorem d_Mo_seal_107 : decode b_Mo_seal 107 = .ok (.iload_n 2, 1) := by decide +kernel
theorem d_Mo_seal_108 : decode b_Mo_seal 108 = .ok (.iload_n 3, 1) := by decide +kernel
theorem d_Mo_seal_109 : decode b_Mo_seal 109 = .ok (.iadd, 1) := by decide +kernel
theorem d_Mo_seal_110 : decode b_Mo_seal 110 = .ok (.istore 4, 2) := by decide +kernel
theorem d_Mo_seal_112 : decode b_Mo_seal 112 = .ok (.aload_n 0, 1) := by decide +kernel
theorem d_Mo_seal_113 : decode b_Mo_seal 113 = .ok (.getfield 50, 3) := by decide +kernel
theorem d_Mo_seal_116 : decode b_Mo_seal 116 = .ok (.iload 4, 2) := by decide +kernel
theorem d_Mo_seal_118 : decode b_Mo_seal 118 = .ok (.iaload, 1) := by decide +kernel
theorem d_Mo_seal_119 : decode b_Mo_seal 119 = .ok (.ifCond .lt (69), 3) := by decide +kernel
theorem d_Mo_seal_122 : decode b_Mo_seal 122 = .ok (.aload_n 0, 1) := by decide +kernel
theorem d_Mo_seal_123 : decode b_Mo_seal 123 = .ok (.iconst (1), 1) := by decide +kernel
theorem d_Mo_seal_124 : decode b_Mo_seal 124 = .ok (.iload_n 3, 1) := by decide +kernel
theorem d_Mo_seal_125 : decode b_Mo_seal 125 = .ok (.aload_n 0, 1) := by decide +kernel
theorem d_Mo_seal_126 : decode b_Mo_seal 126 = .ok (.getfield 47, 3) := by decide +kernel
theorem d_Mo_seal_129 : decode b_Mo_seal 129 = .ok (.iload 4, 2) := by decide +kernel
theorem d_Mo_seal_131 : decode b_Mo_seal 131 = .ok (.iaload, 1) := by decide +kernel
theorem d_Mo_seal_132 : decode b_Mo_seal 132 = .ok (.iload_n 1, 1) := by decide +kernel
theorem d_Mo_seal_133 : decode b_Mo_seal 133 = .ok (.aload_n 0, 1) := by decide +kernel
theorem d_Mo_seal_134 : decode b_Mo_seal 134 = .ok (.getfield 50, 3) := by decide +kernel
theorem d_Mo_seal_137 : decode b_Mo_seal 137 = .ok (.iload 4, 2) := by decide +kernel
theorem d_Mo_seal_139 : decode b_Mo_seal 139 = .ok (.iaload, 1) := by decide +kernel
theorem d_Mo_seal_140 : decode b_Mo_seal 140 = .ok (.invokevirtual 281, 3) := by decide +kernel
theorem d_Mo_seal_143 : decode b_Mo_seal 143 = .ok (.istore 5, 2) := by decide +kernel
theorem d_Mo_seal_145 : decode b_Mo_seal 145 = .ok (.bipush (24), 2) := by decide +kernel
theorem d_Mo_seal_147 : decode b_Mo_seal 147 = .ok (.iload_n 1, 1) := by decide +kernel
theorem d_Mo_seal_148 : decode b_Mo_seal 148 = .ok (.imul, 1) := by decide +kernel
theorem d_Mo_seal_149 : decode b_Mo_seal 149 = .ok (.iload_n 3, 1) := by decide +kernel
theorem d_Mo_seal_150 : decode b_Mo_seal 150 = .ok (.iadd, 1) := by decide +kernel
theorem d_Mo_seal_151 : decode b_Mo_seal 151 = .ok (.istore 6, 2) := by decide +kernel
theorem d_Mo_seal_153 : decode b_Mo_seal 153 = .ok (.aload_n 0, 1) := by decide +kernel
theorem d_Mo_seal_154 : decode b_Mo_seal 154 = .ok (.getfield 50, 3) := by decide +kernel
theorem d_Mo_seal_157 : decode b_Mo_seal 157 = .ok (.iload 6, 2) := by decide +kernel
theorem d_Mo_seal_159 : decode b_Mo_seal 159 = .ok (.aload_n 0, 1) := by decide +kernel
theorem d_Mo_seal_160 : decode b_Mo_seal 160 = .ok (.getfield 47, 3) := by decide +kernel
theorem d_Mo_seal_163 : decode b_Mo_seal 163 = .ok (.iload 6, 2) := by decide +kernel
theorem d_Mo_seal_165 : decode b_Mo_seal 165 = .ok (.iaload, 1) := by decide +kernel
theorem d_Mo_seal_166 : decode b_Mo_seal 166 = .ok (.aload_n 0, 1) := by decide +kernel
theorem d_Mo_seal_167 : decode b_Mo_seal 167 = .ok (.getfield 47, 3) := by decide +kernel
theorem d_Mo_seal_170 : decode b_Mo_seal 170 = .ok (.iload 4, 2) := by decide +kernel
theorem d_Mo_seal_172 : decode b_Mo_seal 172 = .ok (.iaload, 1) := by decide +kernel
theorem d_Mo_seal_173 : decode b_Mo_seal 173 = .ok (.if_icmp .ne (7), 3) := by decide +kernel
theorem d_Mo_seal_176 : decode b_Mo_seal 176 = .ok (.iconst (-1), 1) := by decide +kernel
theorem d_Mo_seal_177 : decode b_Mo_seal 177 = .ok (.goto (10), 3) := by decide +kernel
theorem d_Mo_seal_180 : decode b_Mo_seal 180 = .ok (.aload_n 0, 1) := by decide +kernel
theorem d_Mo_seal_181 : decode b_Mo_seal 181 = .ok (.getfield 50, 3) := by decide +kernel
theorem d_Mo_seal_184 : decode b_Mo_seal 184 = .ok (.iload 6, 2) := by decide +kernel
theorem d_Mo_seal_186 : decode b_Mo_seal 186 = .ok (.iaload, 1) := by decide +kernel
theorem d_Mo_seal_187 : decode b_Mo_seal 187 = .ok (.iastore, 1) := by decide +kernel
theorem d_Mo_seal_188 : decode b_Mo_seal 188 = .ok (.iinc 3 (1), 3) := by decide +kernel
theorem d_Mo_seal_191 : decode b_Mo_seal 191 = .ok (.goto (-90), 3) := by decide +kernel
theorem d_Mo_seal_194 : decode b_Mo_seal 194 = .ok (.return_, 1) := by decide +kernel
theorem d_Mo_write_0 : decode b_Mo_write 0 = .ok (.aload_n 0, 1) := by decide +kernel
theorem d_Mo_write_1 : decode b_Mo_write 1 = .ok (.aload_n 0, 1) := by decide +kernel
theorem d_Mo_write_2 : decode b_Mo_write 2 = .ok (.iload_n 1, 1) := by decide +kernel
theorem d_Mo_write_3 : decode b_Mo_write 3 = .ok (.iload_n 2, 1) := by decide +kernel
theorem d_Mo_write_4 : decode b_Mo_write 4 = .ok (.ifCond .le (7), 3) := by decide +kernel
theorem d_Mo_write_7 : decode b_Mo_write 7 = .ok (.iconst (1), 1) := by decide +kernel
theorem d_Mo_write_8 : decode b_Mo_write 8 = .ok (.goto (4), 3) := by decide +kernel
theorem d_Mo_write_11 : decode b_Mo_write 11 = .ok (.iconst (0), 1) := by decide +kernel
theorem d_Mo_write_12 : decode b_Mo_write 12 = .ok (.invokevirtual 262, 3) := by decide +kernel
theorem d_Mo_write_15 : decode b_Mo_write 15 = .ok (.putfield 142, 3) := by decide +kernel
theorem d_Mo_write_18 : decode b_Mo_write 18 = .ok (.aload_n 0, 1) := by decide +kernel
theorem d_Mo_write_19 : decode b_Mo_write 19 = .ok (.aload_n 0, 1) := by decide +kernel
theorem d_Mo_write_20 : decode b_Mo_write 20 = .ok (.getfield 142, 3) := by decide +kernel
theorem d_Mo_write_23 : decode b_Mo_write 23 = .ok (.ifCond .ne (16), 3) := by decide +kernel
theorem d_Mo_write_26 : decode b_Mo_write 26 = .ok (.aload_n 0, 1) := by decide +kernel
theorem d_Mo_write_27 : decode b_Mo_write 27 = .ok (.getfield 38, 3) := by decide +kernel
theorem d_Mo_write_30 : decode b_Mo_write 30 = .ok (.iload_n 1, 1) := by decide +kernel
theorem d_Mo_write_31 : decode b_Mo_write 31 = .ok (.iaload, 1) := by decide +kernel
theorem d_Mo_write_32 : decode b_Mo_write 32 = .ok (.ifCond .ne (7), 3) := by decide +kernel
theorem d_Mo_write_35 : decode b_Mo_write 35 = .ok (.iconst (2), 1) := by decide +kernel
theorem d_Mo_write_36 : decode b_Mo_write 36 = .ok (.goto (7), 3) := by decide +kernel
theorem d_Mo_write_39 : decode b_Mo_write 39 = .ok (.aload_n 0, 1) := by decide +kernel
theorem d_Mo_write_40 : decode b_Mo_write 40 = .ok (.getfield 142, 3) := by decide +kernel
theorem d_Mo_write_43 : decode b_Mo_write 43 = .ok (.putfield 142, 3) := by decide +kernel
theorem d_Mo_write_46 : decode b_Mo_write 46 = .ok (.aload_n 0, 1) := by decide +kernel
theorem d_Mo_write_47 : decode b_Mo_write 47 = .ok (.getfield 142, 3) := by decide +kernel
theorem d_Mo_write_50 : decode b_Mo_write 50 = .ok (.ifCond .le (5), 3) := by decide +kernel
theorem d_Mo_write_53 : decode b_Mo_write 53 = .ok (.iconst (0), 1) := by decide +kernel
theorem d_Mo_write_54 : decode b_Mo_write 54 = .ok (.ireturn, 1) := by decide +kernel
theorem d_Mo_write_55 : decode b_Mo_write 55 = .ok (.aload_n 0, 1) := by decide +kernel
theorem d_Mo_write_56 : decode b_Mo_write 56 = .ok (.getfield 38, 3) := by decide +kernel
theorem d_Mo_write_59 : decode b_Mo_write 59 = .ok (.iload_n 1, 1) := by decide +kernel
theorem d_Mo_write_60 : decode b_Mo_write 60 = .ok (.iload_n 2, 1) := by decide +kernel
theorem d_Mo_write_61 : decode b_Mo_write 61 = .ok (.aload_n 0, 1) := by decide +kernel
theorem d_Mo_write_62 : decode b_Mo_write 62 = .ok (.getfield 38, 3) := by decide +kernel
theorem d_Mo_write_65 : decode b_Mo_write 65 = .ok (.iload_n 1, 1) := by decide +kernel
theorem d_Mo_write_66 : decode b_Mo_write 66 = .ok (.iaload, 1) := by decide +kernel
theorem d_Mo_write_67 : decode b_Mo_write 67 = .ok (.if_icmp .lt (7), 3) := by decide +kernel
theorem d_Mo_write_70 : decode b_Mo_write 70 = .ok (.iconst (0), 1) := by decide +kernel
theorem d_Mo_write_71 : decode b_Mo_write 71 = .ok (.goto (11), 3) := by decide +kernel
theorem d_Mo_write_74 : decode b_Mo_write 74 = .ok (.aload_n 0, 1) := by decide +kernel
theorem d_Mo_write_75 : decode b_Mo_write 75 = .ok (.getfield 38, 3) := by decide +kernel
theorem d_Mo_write_78 : decode b_Mo_write 78 = .ok (.iload_n 1, 1) := by decide +kernel
theorem d_Mo_write_79 : decode b_Mo_write 79 = .ok (.iaload, 1) := by decide +kernel
theorem d_Mo_write_80 : decode b_Mo_write 80 = .ok (.iload_n 2, 1) := by decide +kernel
theorem d_Mo_write_81 : decode b_Mo_write 81 = .ok (.isub, 1) := by decide +kernel
theorem d_Mo_write_82 : decode b_Mo_write 82 = .ok (.iastore, 1) := by decide +kernel
theorem d_Mo_write_83 : decode b_Mo_write 83 = .ok (.aload_n 0, 1) := by decide +kernel
theorem d_Mo_write_84 : decode b_Mo_write 84 = .ok (.getfield 38, 3) := by decide +kernel
theorem d_Mo_write_87 : decode b_Mo_write 87 = .ok (.iload_n 1, 1) := by decide +kernel
theorem d_Mo_write_88 : decode b_Mo_write 88 = .ok (.iaload, 1) := by decide +kernel
theorem d_Mo_write_89 : decode b_Mo_write 89 = .ok (.ifCond .ne (8), 3) := by decide +kernel
theorem d_Mo_write_92 : decode b_Mo_write 92 = .ok (.aload_n 0, 1) := by decide +kernel
theorem d_Mo_write_93 : decode b_Mo_write 93 = .ok (.iload_n 1, 1) := by decide +kernel
theorem d_Mo_write_94 : decode b_Mo_write 94 = .ok (.invokevirtual 291, 3) := by decide +kernel
theorem d_Mo_write_97 : decode b_Mo_write 97 = .ok (.aload_n 0, 1) := by decide +kernel
theorem d_Mo_write_98 : decode b_Mo_write 98 = .ok (.getfield 38, 3) := by decide +kernel
theorem d_Mo_write_101 : decode b_Mo_write 101 = .ok (.iload_n 1, 1) := by decide +kernel
theorem d_Mo_write_102 : decode b_Mo_write 102 = .ok (.iaload, 1) := by decide +kernel
theorem d_Mo_write_103 : decode b_Mo_write 103 = .ok (.ireturn, 1) := by decide +kernel
theorem d_Mo_crash_0 : decode b_Mo_crash 0 = .ok (.aload_n 0, 1) := by decide +kernel
theorem d_Mo_crash_1 : decode b_Mo_crash 1 = .ok (.iload_n 1, 1) := by decide +kernel
theorem d_Mo_crash_2 : decode b_Mo_crash 2 = .ok (.iconst (0), 1) := by decide +kernel
theorem d_Mo_crash_3 : decode b_Mo_crash 3 = .ok (.iconst (3), 1) := by decide +kernel
theorem d_Mo_crash_4 : decode b_Mo_crash 4 = .ok (.invokestatic 171, 3) := by decide +kernel
theorem d_Mo_crash_7 : decode b_Mo_crash 7 = .ok (.ifCond .eq (7), 3) := by decide +kernel
theorem d_Mo_crash_10 : decode b_Mo_crash 10 = .ok (.iconst (0), 1) := by decide +kernel
theorem d_Mo_crash_11 : decode b_Mo_crash 11 = .ok (.goto (4), 3) := by decide +kernel
theorem d_Mo_crash_14 : decode b_Mo_crash 14 = .ok (.iconst (1), 1) := by decide +kernel
theorem d_Mo_crash_15 : decode b_Mo_crash 15 = .ok (.putfield 142, 3) := by decide +kernel
theorem d_Mo_crash_18 : decode b_Mo_crash 18 = .ok (.aload_n 0, 1) := by decide +kernel
theorem d_Mo_crash_19 : decode b_Mo_crash 19 = .ok (.getfield 142, 3) := by decide +kernel
theorem d_Mo_crash_22 : decode b_Mo_crash 22 = .ok (.ifCond .gt (12), 3) := by decide +kernel
theorem d_Mo_crash_25 : decode b_Mo_crash 25 = .ok (.aload_n 0, 1) := by decide +kernel
theorem d_Mo_crash_26 : decode b_Mo_crash 26 = .ok (.getfield 34, 3) := by decide +kernel
theorem d_Mo_crash_29 : decode b_Mo_crash 29 = .ok (.iload_n 1, 1) := by decide +kernel
theorem d_Mo_crash_30 : decode b_Mo_crash 30 = .ok (.baload, 1) := by decide +kernel
theorem d_Mo_crash_31 : decode b_Mo_crash 31 = .ok (.ifCond .ne (5), 3) := by decide +kernel
theorem d_Mo_crash_34 : decode b_Mo_crash 34 = .ok (.iconst (0), 1) := by decide +kernel
theorem d_Mo_crash_35 : decode b_Mo_crash 35 = .ok (.ireturn, 1) := by decide +kernel
theorem d_Mo_crash_36 : decode b_Mo_crash 36 = .ok (.aload_n 0, 1) := by decide +kernel
theorem d_Mo_crash_37 : decode b_Mo_crash 37 = .ok (.getfield 34, 3) := by decide +kernel
theorem d_Mo_crash_40 : decode b_Mo_crash 40 = .ok (.iload_n 1, 1) := by decide +kernel
theorem d_Mo_crash_41 : decode b_Mo_crash 41 = .ok (.iconst (0), 1) := by decide +kernel
theorem d_Mo_crash_42 : decode b_Mo_crash 42 = .ok (.bastore, 1) := by decide +kernel
theorem d_Mo_crash_43 : decode b_Mo_crash 43 = .ok (.aload_n 0, 1) := by decide +kernel
theorem d_Mo_crash_44 : decode b_Mo_crash 44 = .ok (.getfield 38, 3) := by decide +kernel
theorem d_Mo_crash_47 : decode b_Mo_crash 47 = .ok (.iload_n 1, 1) := by decide +kernel
theorem d_Mo_crash_48 : decode b_Mo_crash 48 = .ok (.iconst (0), 1) := by decide +kernel
theorem d_Mo_crash_49 : decode b_Mo_crash 49 = .ok (.iastore, 1) := by decide +kernel
theorem d_Mo_crash_50 : decode b_Mo_crash 50 = .ok (.aload_n 0, 1) := by decide +kernel
theorem d_Mo_crash_51 : decode b_Mo_crash 51 = .ok (.iconst (3), 1) := by decide +kernel
theorem d_Mo_crash_52 : decode b_Mo_crash 52 = .ok (.iload_n 1, 1) := by decide +kernel
theorem d_Mo_crash_53 : decode b_Mo_crash 53 = .ok (.imul, 1) := by decide +kernel
theorem d_Mo_crash_54 : decode b_Mo_crash 54 = .ok (.invokevirtual 138, 3) := by decide +kernel
theorem d_Mo_crash_57 : decode b_Mo_crash 57 = .ok (.iconst (1), 1) := by decide +kernel
theorem d_Mo_crash_58 : decode b_Mo_crash 58 = .ok (.ireturn, 1) := by decide +kernel
theorem d_Mo_start_0 : decode b_Mo_start 0 = .ok (.aload_n 0, 1) := by decide +kernel
theorem d_Mo_start_1 : decode b_Mo_start 1 = .ok (.iload_n 1, 1) := by decide +kernel
theorem d_Mo_start_2 : decode b_Mo_start 2 = .ok (.iconst (0), 1) := by decide +kernel
theorem d_Mo_start_3 : decode b_Mo_start 3 = .ok (.iconst (3), 1) := by decide +kernel
theorem d_Mo_start_4 : decode b_Mo_start 4 = .ok (.invokestatic 171, 3) := by decide +kernel
theorem d_Mo_start_7 : decode b_Mo_start 7 = .ok (.ifCond .eq (7), 3) := by decide +kernel
theorem d_Mo_start_10 : decode b_Mo_start 10 = .ok (.iconst (0), 1) := by decide +kernel
theorem d_Mo_start_11 : decode b_Mo_start 11 = .ok (.goto (4), 3) := by decide +kernel
theorem d_Mo_start_14 : decode b_Mo_start 14 = .ok (.iconst (1), 1) := by decide +kernel
theorem d_Mo_start_15 : decode b_Mo_start 15 = .ok (.putfield 142, 3) := by decide +kernel
theorem d_Mo_start_18 : decode b_Mo_start 18 = .ok (.aload_n 0, 1) := by decide +kernel
theorem d_Mo_start_19 : decode b_Mo_start 19 = .ok (.getfield 142, 3) := by decide +kernel
theorem d_Mo_start_22 : decode b_Mo_start 22 = .ok (.ifCond .gt (12), 3) := by decide +kernel
theorem d_Mo_start_25 : decode b_Mo_start 25 = .ok (.aload_n 0, 1) := by decide +kernel
theorem d_Mo_start_26 : decode b_Mo_start 26 = .ok (.getfield 34, 3) := by decide +kernel
theorem d_Mo_start_29 : decode b_Mo_start 29 = .ok (.iload_n 1, 1) := by decide +kernel
theorem d_Mo_start_30 : decode b_Mo_start 30 = .ok (.baload, 1) := by decide +kernel
theorem d_Mo_start_31 : decode b_Mo_start 31 = .ok (.ifCond .eq (5), 3) := by decide +kernel
theorem d_Mo_start_34 : decode b_Mo_start 34 = .ok (.iconst (0), 1) := by decide +kernel
theorem d_Mo_start_35 : decode b_Mo_start 35 = .ok (.ireturn, 1) := by decide +kernel
theorem d_Mo_start_36 : decode b_Mo_start 36 = .ok (.aload_n 0, 1) := by decide +kernel
theorem d_Mo_start_37 : decode b_Mo_start 37 = .ok (.getfield 34, 3) := by decide +kernel
theorem d_Mo_start_40 : decode b_Mo_start 40 = .ok (.iload_n 1, 1) := by decide +kernel
theorem d_Mo_start_41 : decode b_Mo_start 41 = .ok (.iconst (1), 1) := by decide +kernel
theorem d_Mo_start_42 : decode b_Mo_start 42 = .ok (.bastore, 1) := by decide +kernel
theorem d_Mo_start_43 : decode b_Mo_start 43 = .ok (.aload_n 0, 1) := by decide +kernel
theorem d_Mo_start_44 : decode b_Mo_start 44 = .ok (.iconst (3), 1) := by decide +kernel
theorem d_Mo_start_45 : decode b_Mo_start 45 = .ok (.iload_n 1, 1) := by decide +kernel
theorem d_Mo_start_46 : decode b_Mo_start 46 = .ok (.imul, 1) := by decide +kernel
theorem d_Mo_start_47 : decode b_Mo_start 47 = .ok (.iconst (2), 1) := by decide +kernel
theorem d_Mo_start_48 : decode b_Mo_start 48 = .ok (.iadd, 1) := by decide +kernel
theorem d_Mo_start_49 : decode b_Mo_start 49 = .ok (.iconst (3), 1) := by decide +kernel
theorem d_Mo_start_50 : decode b_Mo_start 50 = .ok (.iload_n 1, 1) := by decide +kernel
theorem d_Mo_start_51 : decode b_Mo_start 51 = .ok (.imul, 1) := by decide +kernel
theorem d_Mo_start_52 : decode b_Mo_start 52 = .ok (.invokevirtual 288, 3) := by decide +kernel
theorem d_Mo_start_55 : decode b_Mo_start 55 = .ok (.iconst (1), 1) := by decide +kernel
theorem d_Mo_start_56 : decode b_Mo_start 56 = .ok (.ireturn, 1) := by decide +kernel
theorem d_Mo_copyMessage_0 : decode b_Mo_copyMessage 0 = .ok (.aload_n 0, 1) := by decide +kernel
theorem d_Mo_copyMessage_1 : decode b_Mo_copyMessage 1 = .ok (.getfield 114, 3) := by decide +kernel
theorem d_Mo_copyMessage_4 : decode b_Mo_copyMessage 4 = .ok (.iload_n 2, 1) := by decide +kernel
theorem d_Mo_copyMessage_5 : decode b_Mo_copyMessage 5 = .ok (.aload_n 0, 1) := by decide +kernel
theorem d_Mo_copyMessage_6 : decode b_Mo_copyMessage 6 = .ok (.getfield 114, 3) := by decide +kernel
theorem d_Mo_copyMessage_9 : decode b_Mo_copyMessage 9 = .ok (.iload_n 1, 1) := by decide +kernel
theorem d_Mo_copyMessage_10 : decode b_Mo_copyMessage 10 = .ok (.baload, 1) := by decide +kernel
theorem d_Mo_copyMessage_11 : decode b_Mo_copyMessage 11 = .ok (.bastore, 1) := by decide +kernel
theorem d_Mo_copyMessage_12 : decode b_Mo_copyMessage 12 = .ok (.aload_n 0, 1) := by decide +kernel
theorem d_Mo_copyMessage_13 : decode b_Mo_copyMessage 13 = .ok (.getfield 117, 3) := by decide +kernel
theorem d_Mo_copyMessage_16 : decode b_Mo_copyMessage 16 = .ok (.iload_n 2, 1) := by decide +kernel
theorem d_Mo_copyMessage_17 : decode b_Mo_copyMessage 17 = .ok (.aload_n 0, 1) := by decide +kernel
theorem d_Mo_copyMessage_18 : decode b_Mo_copyMessage 18 = .ok (.getfield 117, 3) := by decide +kernel
theorem d_Mo_copyMessage_21 : decode b_Mo_copyMessage 21 = .ok (.iload_n 1, 1) := by decide +kernel
theorem d_Mo_copyMessage_22 : decode b_Mo_copyMessage 22 = .ok (.iaload, 1) := by decide +kernel
theorem d_Mo_copyMessage_23 : decode b_Mo_copyMessage 23 = .ok (.iastore, 1) := by decide +kernel
theorem d_Mo_copyMessage_24 : decode b_Mo_copyMessage 24 = .ok (.aload_n 0, 1) := by decide +kernel
theorem d_Mo_copyMessage_25 : decode b_Mo_copyMessage 25 = .ok (.getfield 120, 3) := by decide +kernel
theorem d_Mo_copyMessage_28 : decode b_Mo_copyMessage 28 = .ok (.iload_n 2, 1) := by decide +kernel
theorem d_Mo_copyMessage_29 : decode b_Mo_copyMessage 29 = .ok (.aload_n 0, 1) := by decide +kernel
theorem d_Mo_copyMessage_30 : decode b_Mo_copyMessage 30 = .ok (.getfield 120, 3) := by decide +kernel
theorem d_Mo_copyMessage_33 : decode b_Mo_copyMessage 33 = .ok (.iload_n 1, 1) := by decide +kernel
theorem d_Mo_copyMessage_34 : decode b_Mo_copyMessage 34 = .ok (.iaload, 1) := by decide +kernel
theorem d_Mo_copyMessage_35 : decode b_Mo_copyMessage 35 = .ok (.iastore, 1) := by decide +kernel
theorem d_Mo_copyMessage_36 : decode b_Mo_copyMessage 36 = .ok (.aload_n 0, 1) := by decide +kernel
theorem d_Mo_copyMessage_37 : decode b_Mo_copyMessage 37 = .ok (.getfield 123, 3) := by decide +kernel
theorem d_Mo_copyMessage_40 : decode b_Mo_copyMessage 40 = .ok (.iload_n 2, 1) := by decide +kernel
theorem d_Mo_copyMessage_41 : decode b_Mo_copyMessage 41 = .ok (.aload_n 0, 1) := by decide +kernel
theorem d_Mo_copyMessage_42 : decode b_Mo_copyMessage 42 = .ok (.getfield 123, 3) := by decide +kernel
theorem d_Mo_copyMessage_45 : decode b_Mo_copyMessage 45 = .ok (.iload_n 1, 1) := by decide +kernel
theorem d_Mo_copyMessage_46 : decode b_Mo_copyMessage 46 = .ok (.iaload, 1) := by decide +kernel
theorem d_Mo_copyMessage_47 : decode b_Mo_copyMessage 47 = .ok (.iastore, 1) := by decide +kernel
theorem d_Mo_copyMessage_48 : decode b_Mo_copyMessage 48 = .ok (.aload_n 0, 1) := by decide +kernel
theorem d_Mo_copyMessage_49 : decode b_Mo_copyMessage 49 = .ok (.getfield 126, 3) := by decide +kernel
theorem d_Mo_copyMessage_52 : decode b_Mo_copyMessage 52 = .ok (.iload_n 2, 1) := by decide +kernel
theorem d_Mo_copyMessage_53 : decode b_Mo_copyMessage 53 = .ok (.aload_n 0, 1) := by decide +kernel
theorem d_Mo_copyMessage_54 : decode b_Mo_copyMessage 54 = .ok (.getfield 126, 3) := by decide +kernel
theorem d_Mo_copyMessage_57 : decode b_Mo_copyMessage 57 = .ok (.iload_n 1, 1) := by decide +kernel
theorem d_Mo_copyMessage_58 : decode b_Mo_copyMessage 58 = .ok (.iaload, 1) := by decide +kernel
theorem d_Mo_copyMessage_59 : decode b_Mo_copyMessage 59 = .ok (.iastore, 1) := by decide +kernel
theorem d_Mo_copyMessage_60 : decode b_Mo_copyMessage 60 = .ok (.aload_n 0, 1) := by decide +kernel
theorem d_Mo_copyMessage_61 : decode b_Mo_copyMessage 61 = .ok (.getfield 129, 3) := by decide +kernel
theorem d_Mo_copyMessage_64 : decode b_Mo_copyMessage 64 = .ok (.iload_n 2, 1) := by decide +kernel
theorem d_Mo_copyMessage_65 : decode b_Mo_copyMessage 65 = .ok (.aload_n 0, 1) := by decide +kernel
theorem d_Mo_copyMessage_66 : decode b_Mo_copyMessage 66 = .ok (.getfield 129, 3) := by decide +kernel
theorem d_Mo_copyMessage_69 : decode b_Mo_copyMessage 69 = .ok (.iload_n 1, 1) := by decide +kernel
theorem d_Mo_copyMessage_70 : decode b_Mo_copyMessage 70 = .ok (.iaload, 1) := by decide +kernel
theorem d_Mo_copyMessage_71 : decode b_Mo_copyMessage 71 = .ok (.iastore, 1) := by decide +kernel
theorem d_Mo_copyMessage_72 : decode b_Mo_copyMessage 72 = .ok (.iconst (0), 1) := by decide +kernel
theorem d_Mo_copyMessage_73 : decode b_Mo_copyMessage 73 = .ok (.istore_n 3, 1) := by decide +kernel
theorem d_Mo_copyMessage_74 : decode b_Mo_copyMessage 74 = .ok (.iload_n 3, 1) := by decide +kernel
theorem d_Mo_copyMessage_75 : decode b_Mo_copyMessage 75 = .ok (.aload_n 0, 1) := by decide +kernel
theorem d_Mo_copyMessage_76 : decode b_Mo_copyMessage 76 = .ok (.getfield 129, 3) := by decide +kernel
theorem d_Mo_copyMessage_79 : decode b_Mo_copyMessage 79 = .ok (.iload_n 1, 1) := by decide +kernel
theorem d_Mo_copyMessage_80 : decode b_Mo_copyMessage 80 = .ok (.iaload, 1) := by decide +kernel
theorem d_Mo_copyMessage_81 : decode b_Mo_copyMessage 81 = .ok (.if_icmp .ge (33), 3) := by decide +kernel
theorem d_Mo_copyMessage_84 : decode b_Mo_copyMessage 84 = .ok (.aload_n 0, 1) := by decide +kernel
theorem d_Mo_copyMessage_85 : decode b_Mo_copyMessage 85 = .ok (.getfield 132, 3) := by decide +kernel
theorem d_Mo_copyMessage_88 : decode b_Mo_copyMessage 88 = .ok (.sipush (128), 3) := by decide +kernel
theorem d_Mo_copyMessage_91 : decode b_Mo_copyMessage 91 = .ok (.iload_n 2, 1) := by decide +kernel
theorem d_Mo_copyMessage_92 : decode b_Mo_copyMessage 92 = .ok (.imul, 1) := by decide +kernel
theorem d_Mo_copyMessage_93 : decode b_Mo_copyMessage 93 = .ok (.iload_n 3, 1) := by decide +kernel
theorem d_Mo_copyMessage_94 : decode b_Mo_copyMessage 94 = .ok (.iadd, 1) := by decide +kernel
theorem d_Mo_copyMessage_95 : decode b_Mo_copyMessage 95 = .ok (.aload_n 0, 1) := by decide +kernel
theorem d_Mo_copyMessage_96 : decode b_Mo_copyMessage 96 = .ok (.getfield 132, 3) := by decide +kernel
theorem d_Mo_copyMessage_99 : decode b_Mo_copyMessage 99 = .ok (.sipush (128), 3) := by decide +kernel
theorem d_Mo_copyMessage_102 : decode b_Mo_copyMessage 102 = .ok (.iload_n 1, 1) := by decide +kernel
theorem d_Mo_copyMessage_103 : decode b_Mo_copyMessage 103 = .ok (.imul, 1) := by decide +kernel
theorem d_Mo_copyMessage_104 : decode b_Mo_copyMessage 104 = .ok (.iload_n 3, 1) := by decide +kernel
theorem d_Mo_copyMessage_105 : decode b_Mo_copyMessage 105 = .ok (.iadd, 1) := by decide +kernel
theorem d_Mo_copyMessage_106 : decode b_Mo_copyMessage 106 = .ok (.iaload, 1) := by decide +kernel
theorem d_Mo_copyMessage_107 : decode b_Mo_copyMessage 107 = .ok (.iastore, 1) := by decide +kernel
theorem d_Mo_copyMessage_108 : decode b_Mo_copyMessage 108 = .ok (.iinc 3 (1), 3) := by decide +kernel
theorem d_Mo_copyMessage_111 : decode b_Mo_copyMessage 111 = .ok (.goto (-37), 3) := by decide +kernel
theorem d_Mo_copyMessage_114 : decode b_Mo_copyMessage 114 = .ok (.return_, 1) := by decide +kernel
theorem d_Mo_hear_0 : decode b_Mo_hear 0 = .ok (.aload_n 0, 1) := by decide +kernel
theorem d_Mo_hear_1 : decode b_Mo_hear 1 = .ok (.dup, 1) := by decide +kernel
theorem d_Mo_hear_2 : decode b_Mo_hear 2 = .ok (.getfield 272, 3) := by decide +kernel
theorem d_Mo_hear_5 : decode b_Mo_hear 5 = .ok (.iconst (1), 1) := by decide +kernel
theorem d_Mo_hear_6 : decode b_Mo_hear 6 = .ok (.iadd, 1) := by decide +kernel
theorem d_Mo_hear_7 : decode b_Mo_hear 7 = .ok (.putfield 272, 3) := by decide +kernel
theorem d_Mo_hear_10 : decode b_Mo_hear 10 = .ok (.aload_n 0, 1) := by decide +kernel
theorem d_Mo_hear_11 : decode b_Mo_hear 11 = .ok (.getfield 132, 3) := by decide +kernel
theorem d_Mo_hear_14 : decode b_Mo_hear 14 = .ok (.aload_n 0, 1) := by decide +kernel
theorem d_Mo_hear_15 : decode b_Mo_hear 15 = .ok (.getfield 272, 3) := by decide +kernel
theorem d_Mo_hear_18 : decode b_Mo_hear 18 = .ok (.iconst (1), 1) := by decide +kernel
theorem d_Mo_hear_19 : decode b_Mo_hear 19 = .ok (.isub, 1) := by decide +kernel
theorem d_Mo_hear_20 : decode b_Mo_hear 20 = .ok (.iaload, 1) := by decide +kernel
theorem d_Mo_hear_21 : decode b_Mo_hear 21 = .ok (.ireturn, 1) := by decide +kernel
theorem d_Mo_hearValue_0 : decode b_Mo_hearValue 0 = .ok (.aload_n 0, 1) := by decide +kernel
theorem d_Mo_hearValue_1 : decode b_Mo_hearValue 1 = .ok (.invokevirtual 294, 3) := by decide +kernel
theorem d_Mo_hearValue_4 : decode b_Mo_hearValue 4 = .ok (.iconst (1), 1) := by decide +kernel
theorem d_Mo_hearValue_5 : decode b_Mo_hearValue 5 = .ok (.if_icmp .ne (13), 3) := by decide +kernel
theorem d_Mo_hearValue_8 : decode b_Mo_hearValue 8 = .ok (.ldc2_w 150, 3) := by decide +kernel
theorem d_Mo_hearValue_11 : decode b_Mo_hearValue 11 = .ok (.aload_n 0, 1) := by decide +kernel
theorem d_Mo_hearValue_12 : decode b_Mo_hearValue 12 = .ok (.invokevirtual 294, 3) := by decide +kernel
theorem d_Mo_hearValue_15 : decode b_Mo_hearValue 15 = .ok (.i2l, 1) := by decide +kernel
theorem d_Mo_hearValue_16 : decode b_Mo_hearValue 16 = .ok (.ladd, 1) := by decide +kernel
theorem d_Mo_hearValue_17 : decode b_Mo_hearValue 17 = .ok (.lreturn, 1) := by decide +kernel
theorem d_Mo_hearValue_18 : decode b_Mo_hearValue 18 = .ok (.iconst (0), 1) := by decide +kernel
theorem d_Mo_hearValue_19 : decode b_Mo_hearValue 19 = .ok (.istore_n 1, 1) := by decide +kernel
theorem d_Mo_hearValue_20 : decode b_Mo_hearValue 20 = .ok (.iconst (0), 1) := by decide +kernel
theorem d_Mo_hearValue_21 : decode b_Mo_hearValue 21 = .ok (.istore_n 2, 1) := by decide +kernel
theorem d_Mo_hearValue_22 : decode b_Mo_hearValue 22 = .ok (.iload_n 2, 1) := by decide +kernel
theorem d_Mo_hearValue_23 : decode b_Mo_hearValue 23 = .ok (.iconst (4), 1) := by decide +kernel
theorem d_Mo_hearValue_24 : decode b_Mo_hearValue 24 = .ok (.if_icmp .ge (19), 3) := by decide +kernel
theorem d_Mo_hearValue_27 : decode b_Mo_hearValue 27 = .ok (.iload_n 1, 1) := by decide +kernel
theorem d_Mo_hearValue_28 : decode b_Mo_hearValue 28 = .ok (.bipush (8), 2) := by decide +kernel
theorem d_Mo_hearValue_30 : decode b_Mo_hearValue 30 = .ok (.ishl, 1) := by decide +kernel
theorem d_Mo_hearValue_31 : decode b_Mo_hearValue 31 = .ok (.aload_n 0, 1) := by decide +kernel
theorem d_Mo_hearValue_32 : decode b_Mo_hearValue 32 = .ok (.invokevirtual 294, 3) := by decide +kernel
theorem d_Mo_hearValue_35 : decode b_Mo_hearValue 35 = .ok (.ior, 1) := by decide +kernel
theorem d_Mo_hearValue_36 : decode b_Mo_hearValue 36 = .ok (.istore_n 1, 1) := by decide +kernel
theorem d_Mo_hearValue_37 : decode b_Mo_hearValue 37 = .ok (.iinc 2 (1), 3) := by decide +kernel
theorem d_Mo_hearValue_40 : decode b_Mo_hearValue 40 = .ok (.goto (-18), 3) := by decide +kernel
theorem d_Mo_hearValue_43 : decode b_Mo_hearValue 43 = .ok (.iload_n 1, 1) := by decide +kernel
theorem d_Mo_hearValue_44 : decode b_Mo_hearValue 44 = .ok (.i2l, 1) := by decide +kernel
theorem d_Mo_hearValue_45 : decode b_Mo_hearValue 45 = .ok (.lreturn, 1) := by decide +kernel
