theorem d_Mo_launch_0 : decode b_Mo_launch 0 = .ok (.aload_n 0, 1) := by decide +kernel
theorem d_Mo_launch_1 : decode b_Mo_launch 1 = .ok (.iconst (0), 1) := by decide +kernel
theorem d_Mo_launch_2 : decode b_Mo_launch 2 = .ok (.putfield 142, 3) := by decide +kernel
theorem d_Mo_launch_5 : decode b_Mo_launch 5 = .ok (.iload_n 1, 1) := by decide +kernel
theorem d_Mo_launch_6 : decode b_Mo_launch 6 = .ok (.iconst (0), 1) := by decide +kernel
theorem d_Mo_launch_7 : decode b_Mo_launch 7 = .ok (.iconst (3), 1) := by decide +kernel
theorem d_Mo_launch_8 : decode b_Mo_launch 8 = .ok (.invokestatic 171, 3) := by decide +kernel
theorem d_Mo_launch_11 : decode b_Mo_launch 11 = .ok (.ifCond .eq (23), 3) := by decide +kernel
theorem d_Mo_launch_14 : decode b_Mo_launch 14 = .ok (.iload_n 2, 1) := by decide +kernel
theorem d_Mo_launch_15 : decode b_Mo_launch 15 = .ok (.iconst (0), 1) := by decide +kernel
theorem d_Mo_launch_16 : decode b_Mo_launch 16 = .ok (.iconst (3), 1) := by decide +kernel
theorem d_Mo_launch_17 : decode b_Mo_launch 17 = .ok (.invokestatic 171, 3) := by decide +kernel
theorem d_Mo_launch_20 : decode b_Mo_launch 20 = .ok (.ifCond .eq (14), 3) := by decide +kernel
theorem d_Mo_launch_23 : decode b_Mo_launch 23 = .ok (.iload_n 3, 1) := by decide +kernel
theorem d_Mo_launch_24 : decode b_Mo_launch 24 = .ok (.iconst (1), 1) := by decide +kernel
theorem d_Mo_launch_25 : decode b_Mo_launch 25 = .ok (.sipush (200), 3) := by decide +kernel
theorem d_Mo_launch_28 : decode b_Mo_launch 28 = .ok (.invokestatic 171, 3) := by decide +kernel
theorem d_Mo_launch_31 : decode b_Mo_launch 31 = .ok (.ifCond .ne (9), 3) := by decide +kernel
theorem d_Mo_launch_34 : decode b_Mo_launch 34 = .ok (.aload_n 0, 1) := by decide +kernel
theorem d_Mo_launch_35 : decode b_Mo_launch 35 = .ok (.iconst (1), 1) := by decide +kernel
theorem d_Mo_launch_36 : decode b_Mo_launch 36 = .ok (.invokevirtual 180, 3) := by decide +kernel
theorem d_Mo_launch_39 : decode b_Mo_launch 39 = .ok (.ireturn, 1) := by decide +kernel
theorem d_Mo_launch_40 : decode b_Mo_launch 40 = .ok (.aload_n 0, 1) := by decide +kernel
theorem d_Mo_launch_41 : decode b_Mo_launch 41 = .ok (.getfield 34, 3) := by decide +kernel
theorem d_Mo_launch_44 : decode b_Mo_launch 44 = .ok (.iload_n 1, 1) := by decide +kernel
theorem d_Mo_launch_45 : decode b_Mo_launch 45 = .ok (.baload, 1) := by decide +kernel
theorem d_Mo_launch_46 : decode b_Mo_launch 46 = .ok (.ifCond .eq (11), 3) := by decide +kernel
theorem d_Mo_launch_49 : decode b_Mo_launch 49 = .ok (.aload_n 0, 1) := by decide +kernel
theorem d_Mo_launch_50 : decode b_Mo_launch 50 = .ok (.getfield 175, 3) := by decide +kernel
theorem d_Mo_launch_53 : decode b_Mo_launch 53 = .ok (.iconst (4), 1) := by decide +kernel
theorem d_Mo_launch_54 : decode b_Mo_launch 54 = .ok (.if_icmp .ne (9), 3) := by decide +kernel
theorem d_Mo_launch_57 : decode b_Mo_launch 57 = .ok (.aload_n 0, 1) := by decide +kernel
theorem d_Mo_launch_58 : decode b_Mo_launch 58 = .ok (.iconst (2), 1) := by decide +kernel
theorem d_Mo_launch_59 : decode b_Mo_launch 59 = .ok (.invokevirtual 180, 3) := by decide +kernel
theorem d_Mo_launch_62 : decode b_Mo_launch 62 = .ok (.ireturn, 1) := by decide +kernel
theorem d_Mo_launch_63 : decode b_Mo_launch 63 = .ok (.aload_n 0, 1) := by decide +kernel
theorem d_Mo_launch_64 : decode b_Mo_launch 64 = .ok (.getfield 19, 3) := by decide +kernel
theorem d_Mo_launch_67 : decode b_Mo_launch 67 = .ok (.aload_n 0, 1) := by decide +kernel
theorem d_Mo_launch_68 : decode b_Mo_launch 68 = .ok (.getfield 175, 3) := by decide +kernel
theorem d_Mo_launch_71 : decode b_Mo_launch 71 = .ok (.iload_n 1, 1) := by decide +kernel
theorem d_Mo_launch_72 : decode b_Mo_launch 72 = .ok (.iastore, 1) := by decide +kernel
theorem d_Mo_launch_73 : decode b_Mo_launch 73 = .ok (.aload_n 0, 1) := by decide +kernel
theorem d_Mo_launch_74 : decode b_Mo_launch 74 = .ok (.getfield 22, 3) := by decide +kernel
theorem d_Mo_launch_77 : decode b_Mo_launch 77 = .ok (.aload_n 0, 1) := by decide +kernel
theorem d_Mo_launch_78 : decode b_Mo_launch 78 = .ok (.getfield 175, 3) := by decide +kernel
theorem d_Mo_launch_81 : decode b_Mo_launch 81 = .ok (.iload_n 2, 1) := by decide +kernel
theorem d_Mo_launch_82 : decode b_Mo_launch 82 = .ok (.iastore, 1) := by decide +kernel
theorem d_Mo_launch_83 : decode b_Mo_launch 83 = .ok (.aload_n 0, 1) := by decide +kernel
theorem d_Mo_launch_84 : decode b_Mo_launch 84 = .ok (.getfield 25, 3) := by decide +kernel
theorem d_Mo_launch_87 : decode b_Mo_launch 87 = .ok (.aload_n 0, 1) := by decide +kernel
theorem d_Mo_launch_88 : decode b_Mo_launch 88 = .ok (.getfield 175, 3) := by decide +kernel
theorem d_Mo_launch_91 : decode b_Mo_launch 91 = .ok (.iload_n 3, 1) := by decide +kernel
theorem d_Mo_launch_92 : decode b_Mo_launch 92 = .ok (.iastore, 1) := by decide +kernel
theorem d_Mo_launch_93 : decode b_Mo_launch 93 = .ok (.aload_n 0, 1) := by decide +kernel
theorem d_Mo_launch_94 : decode b_Mo_launch 94 = .ok (.bipush (24), 2) := by decide +kernel
theorem d_Mo_launch_96 : decode b_Mo_launch 96 = .ok (.iload_n 1, 1) := by decide +kernel
theorem d_Mo_launch_97 : decode b_Mo_launch 97 = .ok (.imul, 1) := by decide +kernel
theorem d_Mo_launch_98 : decode b_Mo_launch 98 = .ok (.aload_n 0, 1) := by decide +kernel
theorem d_Mo_launch_99 : decode b_Mo_launch 99 = .ok (.getfield 175, 3) := by decide +kernel
theorem d_Mo_launch_102 : decode b_Mo_launch 102 = .ok (.iadd, 1) := by decide +kernel
theorem d_Mo_launch_103 : decode b_Mo_launch 103 = .ok (.aload_n 0, 1) := by decide +kernel
theorem d_Mo_launch_104 : decode b_Mo_launch 104 = .ok (.getfield 175, 3) := by decide +kernel
theorem d_Mo_launch_107 : decode b_Mo_launch 107 = .ok (.invokevirtual 183, 3) := by decide +kernel
theorem d_Mo_launch_110 : decode b_Mo_launch 110 = .ok (.aload_n 0, 1) := by decide +kernel
theorem d_Mo_launch_111 : decode b_Mo_launch 111 = .ok (.bipush (24), 2) := by decide +kernel
theorem d_Mo_launch_113 : decode b_Mo_launch 113 = .ok (.iload_n 1, 1) := by decide +kernel
theorem d_Mo_launch_114 : decode b_Mo_launch 114 = .ok (.imul, 1) := by decide +kernel
theorem d_Mo_launch_115 : decode b_Mo_launch 115 = .ok (.aload_n 0, 1) := by decide +kernel
theorem d_Mo_launch_116 : decode b_Mo_launch 116 = .ok (.getfield 175, 3) := by decide +kernel
theorem d_Mo_launch_119 : decode b_Mo_launch 119 = .ok (.iadd, 1) := by decide +kernel
theorem d_Mo_launch_120 : decode b_Mo_launch 120 = .ok (.iconst (0), 1) := by decide +kernel
theorem d_Mo_launch_121 : decode b_Mo_launch 121 = .ok (.iconst (-1), 1) := by decide +kernel
theorem d_Mo_launch_122 : decode b_Mo_launch 122 = .ok (.invokevirtual 186, 3) := by decide +kernel
theorem d_Mo_launch_125 : decode b_Mo_launch 125 = .ok (.aload_n 0, 1) := by decide +kernel
theorem d_Mo_launch_126 : decode b_Mo_launch 126 = .ok (.dup, 1) := by decide +kernel
theorem d_Mo_launch_127 : decode b_Mo_launch 127 = .ok (.getfield 175, 3) := by decide +kernel
theorem d_Mo_launch_130 : decode b_Mo_launch 130 = .ok (.iconst (1), 1) := by decide +kernel
theorem d_Mo_launch_131 : decode b_Mo_launch 131 = .ok (.iadd, 1) := by decide +kernel
theorem d_Mo_launch_132 : decode b_Mo_launch 132 = .ok (.putfield 175, 3) := by decide +kernel
theorem d_Mo_launch_135 : decode b_Mo_launch 135 = .ok (.aload_n 0, 1) := by decide +kernel
theorem d_Mo_launch_136 : decode b_Mo_launch 136 = .ok (.getfield 175, 3) := by decide +kernel
theorem d_Mo_launch_139 : decode b_Mo_launch 139 = .ok (.iconst (1), 1) := by decide +kernel
theorem d_Mo_launch_140 : decode b_Mo_launch 140 = .ok (.isub, 1) := by decide +kernel
theorem d_Mo_launch_141 : decode b_Mo_launch 141 = .ok (.ireturn, 1) := by decide +kernel
theorem d_Mo_isWide_0 : decode b_Mo_isWide 0 = .ok (.iload_n 0, 1) := by decide +kernel
theorem d_Mo_isWide_1 : decode b_Mo_isWide 1 = .ok (.iconst (1), 1) := by decide +kernel
theorem d_Mo_isWide_2 : decode b_Mo_isWide 2 = .ok (.if_icmp .eq (26), 3) := by decide +kernel
theorem d_Mo_isWide_5 : decode b_Mo_isWide 5 = .ok (.iload_n 0, 1) := by decide +kernel
theorem d_Mo_isWide_6 : decode b_Mo_isWide 6 = .ok (.iconst (5), 1) := by decide +kernel
theorem d_Mo_isWide_7 : decode b_Mo_isWide 7 = .ok (.if_icmp .eq (21), 3) := by decide +kernel
theorem d_Mo_isWide_10 : decode b_Mo_isWide 10 = .ok (.iload_n 0, 1) := by decide +kernel
theorem d_Mo_isWide_11 : decode b_Mo_isWide 11 = .ok (.bipush (7), 2) := by decide +kernel
theorem d_Mo_isWide_13 : decode b_Mo_isWide 13 = .ok (.if_icmp .eq (15), 3) := by decide +kernel
theorem d_Mo_isWide_16 : decode b_Mo_isWide 16 = .ok (.iload_n 0, 1) := by decide +kernel
theorem d_Mo_isWide_17 : decode b_Mo_isWide 17 = .ok (.bipush (10), 2) := by decide +kernel
theorem d_Mo_isWide_19 : decode b_Mo_isWide 19 = .ok (.if_icmp .eq (9), 3) := by decide +kernel
theorem d_Mo_isWide_22 : decode b_Mo_isWide 22 = .ok (.iload_n 0, 1) := by decide +kernel
theorem d_Mo_isWide_23 : decode b_Mo_isWide 23 = .ok (.bipush (11), 2) := by decide +kernel
theorem d_Mo_isWide_25 : decode b_Mo_isWide 25 = .ok (.if_icmp .ne (7), 3) := by decide +kernel
theorem d_Mo_isWide_28 : decode b_Mo_isWide 28 = .ok (.iconst (1), 1) := by decide +kernel
theorem d_Mo_isWide_29 : decode b_Mo_isWide 29 = .ok (.goto (4), 3) := by decide +kernel
theorem d_Mo_isWide_32 : decode b_Mo_isWide 32 = .ok (.iconst (0), 1) := by decide +kernel
theorem d_Mo_isWide_33 : decode b_Mo_isWide 33 = .ok (.ireturn, 1) := by decide +kernel
theorem d_Mo_isInt_0 : decode b_Mo_isInt 0 = .ok (.aload_n 0, 1) := by decide +kernel
theorem d_Mo_isInt_1 : decode b_Mo_isInt 1 = .ok (.getfield 86, 3) := by decide +kernel
theorem d_Mo_isInt_4 : decode b_Mo_isInt 4 = .ok (.iload_n 1, 1) := by decide +kernel
theorem d_Mo_isInt_5 : decode b_Mo_isInt 5 = .ok (.iaload, 1) := by decide +kernel
theorem d_Mo_isInt_6 : decode b_Mo_isInt 6 = .ok (.iload_n 2, 1) := by decide +kernel
theorem d_Mo_isInt_7 : decode b_Mo_isInt 7 = .ok (.if_icmp .le (20), 3) := by decide +kernel
theorem d_Mo_isInt_10 : decode b_Mo_isInt 10 = .ok (.aload_n 0, 1) := by decide +kernel
theorem d_Mo_isInt_11 : decode b_Mo_isInt 11 = .ok (.iload_n 1, 1) := by decide +kernel
theorem d_Mo_isInt_12 : decode b_Mo_isInt 12 = .ok (.iload_n 2, 1) := by decide +kernel
theorem d_Mo_isInt_13 : decode b_Mo_isInt 13 = .ok (.invokevirtual 190, 3) := by decide +kernel
theorem d_Mo_isInt_16 : decode b_Mo_isInt 16 = .ok (.ldc2_w 150, 3) := by decide +kernel
theorem d_Mo_isInt_19 : decode b_Mo_isInt 19 = .ok (.lcmp, 1) := by decide +kernel
theorem d_Mo_isInt_20 : decode b_Mo_isInt 20 = .ok (.ifCond .ge (7), 3) := by decide +kernel
theorem d_Mo_isInt_23 : decode b_Mo_isInt 23 = .ok (.iconst (1), 1) := by decide +kernel
theorem d_Mo_isInt_24 : decode b_Mo_isInt 24 = .ok (.goto (4), 3) := by decide +kernel
theorem d_Mo_isInt_27 : decode b_Mo_isInt 27 = .ok (.iconst (0), 1) := by decide +kernel
theorem d_Mo_isInt_28 : decode b_Mo_isInt 28 = .ok (.ireturn, 1) := by decide +kernel
theorem d_Mo_isUpTo_0 : decode b_Mo_isUpTo 0 = .ok (.aload_n 0, 1) := by decide +kernel
theorem d_Mo_isUpTo_1 : decode b_Mo_isUpTo 1 = .ok (.iload_n 1, 1) := by decide +kernel
theorem d_Mo_isUpTo_2 : decode b_Mo_isUpTo 2 = .ok (.iconst (0), 1) := by decide +kernel
theorem d_Mo_isUpTo_3 : decode b_Mo_isUpTo 3 = .ok (.invokevirtual 194, 3) := by decide +kernel
theorem d_Mo_isUpTo_6 : decode b_Mo_isUpTo 6 = .ok (.ifCond .eq (30), 3) := by decide +kernel
theorem d_Mo_isUpTo_9 : decode b_Mo_isUpTo 9 = .ok (.aload_n 0, 1) := by decide +kernel
theorem d_Mo_isUpTo_10 : decode b_Mo_isUpTo 10 = .ok (.iload_n 1, 1) := by decide +kernel
theorem d_Mo_isUpTo_11 : decode b_Mo_isUpTo 11 = .ok (.iconst (0), 1) := by decide +kernel
theorem d_Mo_isUpTo_12 : decode b_Mo_isUpTo 12 = .ok (.invokevirtual 190, 3) := by decide +kernel
theorem d_Mo_isUpTo_15 : decode b_Mo_isUpTo 15 = .ok (.lconst 0, 1) := by decide +kernel
theorem d_Mo_isUpTo_16 : decode b_Mo_isUpTo 16 = .ok (.lcmp, 1) := by decide +kernel
theorem d_Mo_isUpTo_17 : decode b_Mo_isUpTo 17 = .ok (.ifCond .lt (19), 3) := by decide +kernel
theorem d_Mo_isUpTo_20 : decode b_Mo_isUpTo 20 = .ok (.aload_n 0, 1) := by decide +kernel
theorem d_Mo_isUpTo_21 : decode b_Mo_isUpTo 21 = .ok (.iload_n 1, 1) := by decide +kernel
theorem d_Mo_isUpTo_22 : decode b_Mo_isUpTo 22 = .ok (.iconst (0), 1) := by decide +kernel
theorem d_Mo_isUpTo_23 : decode b_Mo_isUpTo 23 = .ok (.invokevirtual 190, 3) := by decide +kernel
theorem d_Mo_isUpTo_26 : decode b_Mo_isUpTo 26 = .ok (.iload_n 2, 1) := by decide +kernel
theorem d_Mo_isUpTo_27 : decode b_Mo_isUpTo 27 = .ok (.i2l, 1) := by decide +kernel
theorem d_Mo_isUpTo_28 : decode b_Mo_isUpTo 28 = .ok (.lcmp, 1) := by decide +kernel
theorem d_Mo_isUpTo_29 : decode b_Mo_isUpTo 29 = .ok (.ifCond .gt (7), 3) := by decide +kernel
theorem d_Mo_isUpTo_32 : decode b_Mo_isUpTo 32 = .ok (.iconst (1), 1) := by decide +kernel
theorem d_Mo_isUpTo_33 : decode b_Mo_isUpTo 33 = .ok (.goto (4), 3) := by decide +kernel
theorem d_Mo_isUpTo_36 : decode b_Mo_isUpTo 36 = .ok (.iconst (0), 1) := by decide +kernel
theorem d_Mo_isUpTo_37 : decode b_Mo_isUpTo 37 = .ok (.ireturn, 1) := by decide +kernel
theorem d_Mo_isFit_0 : decode b_Mo_isFit 0 = .ok (.iload_n 2, 1) := by decide +kernel
theorem d_Mo_isFit_1 : decode b_Mo_isFit 1 = .ok (.tableswitch (322) (0) (18) #[91, 93, 110, 110, 110, 134, 161, 176, 199, 225, 91, 232, 232, 239, 247, 273, 273, 297, 297], 91) := by decide +kernel
theorem d_Mo_isFit_92 : decode b_Mo_isFit 92 = .ok (.iconst (1), 1) := by decide +kernel
theorem d_Mo_isFit_93 : decode b_Mo_isFit 93 = .ok (.ireturn, 1) := by decide +kernel
theorem d_Mo_isFit_94 : decode b_Mo_isFit 94 = .ok (.aload_n 0, 1) := by decide +kernel
theorem d_Mo_isFit_95 : decode b_Mo_isFit 95 = .ok (.getfield 86, 3) := by decide +kernel
theorem d_Mo_isFit_98 : decode b_Mo_isFit 98 = .ok (.iload_n 1, 1) := by decide +kernel
theorem d_Mo_isFit_99 : decode b_Mo_isFit 99 = .ok (.iaload, 1) := by decide +kernel
theorem d_Mo_isFit_100 : decode b_Mo_isFit 100 = .ok (.bipush (6), 2) := by decide +kernel
theorem d_Mo_isFit_102 : decode b_Mo_isFit 102 = .ok (.if_icmp .ge (7), 3) := by decide +kernel
theorem d_Mo_isFit_105 : decode b_Mo_isFit 105 = .ok (.iconst (1), 1) := by decide +kernel
theorem d_Mo_isFit_106 : decode b_Mo_isFit 106 = .ok (.goto (4), 3) := by decide +kernel
theorem d_Mo_isFit_109 : decode b_Mo_isFit 109 = .ok (.iconst (0), 1) := by decide +kernel
theorem d_Mo_isFit_110 : decode b_Mo_isFit 110 = .ok (.ireturn, 1) := by decide +kernel
theorem d_Mo_isFit_111 : decode b_Mo_isFit 111 = .ok (.aload_n 0, 1) := by decide +kernel
theorem d_Mo_isFit_112 : decode b_Mo_isFit 112 = .ok (.iload_n 1, 1) := by decide +kernel
theorem d_Mo_isFit_113 : decode b_Mo_isFit 113 = .ok (.iconst (0), 1) := by decide +kernel
theorem d_Mo_isFit_114 : decode b_Mo_isFit 114 = .ok (.invokevirtual 194, 3) := by decide +kernel
theorem d_Mo_isFit_117 : decode b_Mo_isFit 117 = .ok (.ifCond .eq (16), 3) := by decide +kernel
theorem d_Mo_isFit_120 : decode b_Mo_isFit 120 = .ok (.aload_n 0, 1) := by decide +kernel
theorem d_Mo_isFit_121 : decode b_Mo_isFit 121 = .ok (.iload_n 1, 1) := by decide +kernel
theorem d_Mo_isFit_122 : decode b_Mo_isFit 122 = .ok (.iconst (1), 1) := by decide +kernel
theorem d_Mo_isFit_123 : decode b_Mo_isFit 123 = .ok (.invokevirtual 194, 3) := by decide +kernel
theorem d_Mo_isFit_126 : decode b_Mo_isFit 126 = .ok (.ifCond .eq (7), 3) := by decide +kernel
theorem d_Mo_isFit_129 : decode b_Mo_isFit 129 = .ok (.iconst (1), 1) := by decide +kernel
theorem d_Mo_isFit_130 : decode b_Mo_isFit 130 = .ok (.goto (4), 3) := by decide +kernel
theorem d_Mo_isFit_133 : decode b_Mo_isFit 133 = .ok (.iconst (0), 1) := by decide +kernel
theorem d_Mo_isFit_134 : decode b_Mo_isFit 134 = .ok (.ireturn, 1) := by decide +kernel
theorem d_Mo_isFit_135 : decode b_Mo_isFit 135 = .ok (.aload_n 0, 1) := by decide +kernel
theorem d_Mo_isFit_136 : decode b_Mo_isFit 136 = .ok (.getfield 86, 3) := by decide +kernel
theorem d_Mo_isFit_139 : decode b_Mo_isFit 139 = .ok (.iload_n 1, 1) := by decide +kernel
theorem d_Mo_isFit_140 : decode b_Mo_isFit 140 = .ok (.iaload, 1) := by decide +kernel
theorem d_Mo_isFit_141 : decode b_Mo_isFit 141 = .ok (.iload_n 3, 1) := by decide +kernel
theorem d_Mo_isFit_142 : decode b_Mo_isFit 142 = .ok (.if_icmp .le (18), 3) := by decide +kernel
theorem d_Mo_isFit_145 : decode b_Mo_isFit 145 = .ok (.aload_n 0, 1) := by decide +kernel
theorem d_Mo_isFit_146 : decode b_Mo_isFit 146 = .ok (.getfield 86, 3) := by decide +kernel
theorem d_Mo_isFit_149 : decode b_Mo_isFit 149 = .ok (.iload_n 1, 1) := by decide +kernel
theorem d_Mo_isFit_150 : decode b_Mo_isFit 150 = .ok (.iaload, 1) := by decide +kernel
theorem d_Mo_isFit_151 : decode b_Mo_isFit 151 = .ok (.bipush (6), 2) := by decide +kernel
theorem d_Mo_isFit_153 : decode b_Mo_isFit 153 = .ok (.if_icmp .ge (7), 3) := by decide +kernel
theorem d_Mo_isFit_156 : decode b_Mo_isFit 156 = .ok (.iconst (1), 1) := by decide +kernel
theorem d_Mo_isFit_157 : decode b_Mo_isFit 157 = .ok (.goto (4), 3) := by decide +kernel
theorem d_Mo_isFit_160 : decode b_Mo_isFit 160 = .ok (.iconst (0), 1) := by decide +kernel
theorem d_Mo_isFit_161 : decode b_Mo_isFit 161 = .ok (.ireturn, 1) := by decide +kernel
theorem d_Mo_isFit_162 : decode b_Mo_isFit 162 = .ok (.aload_n 0, 1) := by decide +kernel
theorem d_Mo_isFit_163 : decode b_Mo_isFit 163 = .ok (.getfield 86, 3) := by decide +kernel
theorem d_Mo_isFit_166 : decode b_Mo_isFit 166 = .ok (.iload_n 1, 1) := by decide +kernel
theorem d_Mo_isFit_167 : decode b_Mo_isFit 167 = .ok (.iaload, 1) := by decide +kernel
theorem d_Mo_isFit_168 : decode b_Mo_isFit 168 = .ok (.ifCond .le (7), 3) := by decide +kernel
theorem d_Mo_isFit_171 : decode b_Mo_isFit 171 = .ok (.iconst (1), 1) := by decide +kernel
theorem d_Mo_isFit_172 : decode b_Mo_isFit 172 = .ok (.goto (4), 3) := by decide +kernel
theorem d_Mo_isFit_175 : decode b_Mo_isFit 175 = .ok (.iconst (0), 1) := by decide +kernel
theorem d_Mo_isFit_176 : decode b_Mo_isFit 176 = .ok (.ireturn, 1) := by decide +kernel
theorem d_Mo_isFit_177 : decode b_Mo_isFit 177 = .ok (.iload_n 3, 1) := by decide +kernel
theorem d_Mo_isFit_178 : decode b_Mo_isFit 178 = .ok (.bipush (8), 2) := by decide +kernel
theorem d_Mo_isFit_180 : decode b_Mo_isFit 180 = .ok (.if_icmp .ge (18), 3) := by decide +kernel
theorem d_Mo_isFit_183 : decode b_Mo_isFit 183 = .ok (.aload_n 0, 1) := by decide +kernel
theorem d_Mo_isFit_184 : decode b_Mo_isFit 184 = .ok (.getfield 86, 3) := by decide +kernel
theorem d_Mo_isFit_187 : decode b_Mo_isFit 187 = .ok (.iload_n 1, 1) := by decide +kernel
theorem d_Mo_isFit_188 : decode b_Mo_isFit 188 = .ok (.iaload, 1) := by decide +kernel
theorem d_Mo_isFit_189 : decode b_Mo_isFit 189 = .ok (.bipush (6), 2) := by decide +kernel
theorem d_Mo_isFit_191 : decode b_Mo_isFit 191 = .ok (.if_icmp .ge (7), 3) := by decide +kernel
theorem d_Mo_isFit_194 : decode b_Mo_isFit 194 = .ok (.iconst (1), 1) := by decide +kernel
theorem d_Mo_isFit_195 : decode b_Mo_isFit 195 = .ok (.goto (4), 3) := by decide +kernel
theorem d_Mo_isFit_198 : decode b_Mo_isFit 198 = .ok (.iconst (0), 1) := by decide +kernel
theorem d_Mo_isFit_199 : decode b_Mo_isFit 199 = .ok (.ireturn, 1) := by decide +kernel
theorem d_Mo_isFit_200 : decode b_Mo_isFit 200 = .ok (.aload_n 0, 1) := by decide +kernel
theorem d_Mo_isFit_201 : decode b_Mo_isFit 201 = .ok (.iload_n 1, 1) := by decide +kernel
theorem d_Mo_isFit_202 : decode b_Mo_isFit 202 = .ok (.iconst (0), 1) := by decide +kernel
theorem d_Mo_isFit_203 : decode b_Mo_isFit 203 = .ok (.invokevirtual 194, 3) := by decide +kernel
theorem d_Mo_isFit_206 : decode b_Mo_isFit 206 = .ok (.ifCond .eq (18), 3) := by decide +kernel
theorem d_Mo_isFit_209 : decode b_Mo_isFit 209 = .ok (.aload_n 0, 1) := by decide +kernel
theorem d_Mo_isFit_210 : decode b_Mo_isFit 210 = .ok (.getfield 77, 3) := by decide +kernel
theorem d_Mo_isFit_213 : decode b_Mo_isFit 213 = .ok (.iload_n 1, 1) := by decide +kernel
theorem d_Mo_isFit_214 : decode b_Mo_isFit 214 = .ok (.iaload, 1) := by decide +kernel
theorem d_Mo_isFit_215 : decode b_Mo_isFit 215 = .ok (.bipush (16), 2) := by decide +kernel
theorem d_Mo_isFit_217 : decode b_Mo_isFit 217 = .ok (.if_icmp .ge (7), 3) := by decide +kernel
theorem d_Mo_isFit_220 : decode b_Mo_isFit 220 = .ok (.iconst (1), 1) := by decide +kernel
theorem d_Mo_isFit_221 : decode b_Mo_isFit 221 = .ok (.goto (4), 3) := by decide +kernel
theorem d_Mo_isFit_224 : decode b_Mo_isFit 224 = .ok (.iconst (0), 1) := by decide +kernel
theorem d_Mo_isFit_225 : decode b_Mo_isFit 225 = .ok (.ireturn, 1) := by decide +kernel
theorem d_Mo_isFit_226 : decode b_Mo_isFit 226 = .ok (.aload_n 0, 1) := by decide +kernel
theorem d_Mo_isFit_227 : decode b_Mo_isFit 227 = .ok (.iload_n 1, 1) := by decide +kernel
theorem d_Mo_isFit_228 : decode b_Mo_isFit 228 = .ok (.iconst (3), 1) := by decide +kernel
theorem d_Mo_isFit_229 : decode b_Mo_isFit 229 = .ok (.invokevirtual 198, 3) := by decide +kernel
theorem d_Mo_isFit_232 : decode b_Mo_isFit 232 = .ok (.ireturn, 1) := by decide +kernel
theorem d_Mo_isFit_233 : decode b_Mo_isFit 233 = .ok (.aload_n 0, 1) := by decide +kernel
theorem d_Mo_isFit_234 : decode b_Mo_isFit 234 = .ok (.iload_n 1, 1) := by decide +kernel
theorem d_Mo_isFit_235 : decode b_Mo_isFit 235 = .ok (.iconst (0), 1) := by decide +kernel
theorem d_Mo_isFit_236 : decode b_Mo_isFit 236 = .ok (.invokevirtual 194, 3) := by decide +kernel
theorem d_Mo_isFit_239 : decode b_Mo_isFit 239 = .ok (.ireturn, 1) := by decide +kernel
theorem d_Mo_isFit_240 : decode b_Mo_isFit 240 = .ok (.aload_n 0, 1) := by decide +kernel
theorem d_Mo_isFit_241 : decode b_Mo_isFit 241 = .ok (.iload_n 1, 1) := by decide +kernel
theorem d_Mo_isFit_242 : decode b_Mo_isFit 242 = .ok (.bipush (20), 2) := by decide +kernel
theorem d_Mo_isFit_244 : decode b_Mo_isFit 244 = .ok (.invokevirtual 198, 3) := by decide +kernel
theorem d_Mo_isFit_247 : decode b_Mo_isFit 247 = .ok (.ireturn, 1) := by decide +kernel
theorem d_Mo_isFit_248 : decode b_Mo_isFit 248 = .ok (.aload_n 0, 1) := by decide +kernel
theorem d_Mo_isFit_249 : decode b_Mo_isFit 249 = .ok (.getfield 86, 3) := by decide +kernel
theorem d_Mo_isFit_252 : decode b_Mo_isFit 252 = .ok (.iload_n 1, 1) := by decide +kernel
theorem d_Mo_isFit_253 : decode b_Mo_isFit 253 = .ok (.iaload, 1) := by decide +kernel
theorem d_Mo_isFit_254 : decode b_Mo_isFit 254 = .ok (.iconst (1), 1) := by decide +kernel
theorem d_Mo_isFit_255 : decode b_Mo_isFit 255 = .ok (.if_icmp .le (17), 3) := by decide +kernel
theorem d_Mo_isFit_258 : decode b_Mo_isFit 258 = .ok (.aload_n 0, 1) := by decide +kernel
theorem d_Mo_isFit_259 : decode b_Mo_isFit 259 = .ok (.iload_n 1, 1) := by decide +kernel
theorem d_Mo_isFit_260 : decode b_Mo_isFit 260 = .ok (.invokevirtual 163, 3) := by decide +kernel
theorem d_Mo_isFit_263 : decode b_Mo_isFit 263 = .ok (.bipush (8), 2) := by decide +kernel
theorem d_Mo_isFit_265 : decode b_Mo_isFit 265 = .ok (.if_icmp .ge (7), 3) := by decide +kernel
theorem d_Mo_isFit_268 : decode b_Mo_isFit 268 = .ok (.iconst (1), 1) := by decide +kernel
theorem d_Mo_isFit_269 : decode b_Mo_isFit 269 = .ok (.goto (4), 3) := by decide +kernel
theorem d_Mo_isFit_272 : decode b_Mo_isFit 272 = .ok (.iconst (0), 1) := by decide +kernel
theorem d_Mo_isFit_273 : decode b_Mo_isFit 273 = .ok (.ireturn, 1) := by decide +kernel
theorem d_Mo_isFit_274 : decode b_Mo_isFit 274 = .ok (.aload_n 0, 1) := by decide +kernel
theorem d_Mo_isFit_275 : decode b_Mo_isFit 275 = .ok (.getfield 86, 3) := by decide +kernel
theorem d_Mo_isFit_278 : decode b_Mo_isFit 278 = .ok (.iload_n 1, 1) := by decide +kernel
theorem d_Mo_isFit_279 : decode b_Mo_isFit 279 = .ok (.iaload, 1) := by decide +kernel
theorem d_Mo_isFit_280 : decode b_Mo_isFit 280 = .ok (.ifCond .le (16), 3) := by decide +kernel
theorem d_Mo_isFit_283 : decode b_Mo_isFit 283 = .ok (.aload_n 0, 1) := by decide +kernel
theorem d_Mo_isFit_284 : decode b_Mo_isFit 284 = .ok (.iload_n 1, 1) := by decide +kernel
theorem d_Mo_isFit_285 : decode b_Mo_isFit 285 = .ok (.iconst (0), 1) := by decide +kernel
theorem d_Mo_isFit_286 : decode b_Mo_isFit 286 = .ok (.invokevirtual 194, 3) := by decide +kernel
theorem d_Mo_isFit_289 : decode b_Mo_isFit 289 = .ok (.ifCond .ne (7), 3) := by decide +kernel
theorem d_Mo_isFit_292 : decode b_Mo_isFit 292 = .ok (.iconst (1), 1) := by decide +kernel
theorem d_Mo_isFit_293 : decode b_Mo_isFit 293 = .ok (.goto (4), 3) := by decide +kernel
theorem d_Mo_isFit_296 : decode b_Mo_isFit 296 = .ok (.iconst (0), 1) := by decide +kernel
theorem d_Mo_isFit_297 : decode b_Mo_isFit 297 = .ok (.ireturn, 1) := by decide +kernel
theorem d_Mo_isFit_298 : decode b_Mo_isFit 298 = .ok (.aload_n 0, 1) := by decide +kernel
theorem d_Mo_isFit_299 : decode b_Mo_isFit 299 = .ok (.getfield 86, 3) := by decide +kernel
theorem d_Mo_isFit_302 : decode b_Mo_isFit 302 = .ok (.iload_n 1, 1) := by decide +kernel
theorem d_Mo_isFit_303 : decode b_Mo_isFit 303 = .ok (.iaload, 1) := by decide +kernel
theorem d_Mo_isFit_304 : decode b_Mo_isFit 304 = .ok (.iconst (1), 1) := by decide +kernel
theorem d_Mo_isFit_305 : decode b_Mo_isFit 305 = .ok (.if_icmp .le (16), 3) := by decide +kernel
theorem d_Mo_isFit_308 : decode b_Mo_isFit 308 = .ok (.aload_n 0, 1) := by decide +kernel
theorem d_Mo_isFit_309 : decode b_Mo_isFit 309 = .ok (.iload_n 1, 1) := by decide +kernel
theorem d_Mo_isFit_310 : decode b_Mo_isFit 310 = .ok (.iconst (1), 1) := by decide +kernel
theorem d_Mo_isFit_311 : decode b_Mo_isFit 311 = .ok (.invokevirtual 194, 3) := by decide +kernel
theorem d_Mo_isFit_314 : decode b_Mo_isFit 314 = .ok (.ifCond .ne (7), 3) := by decide +kernel
theorem d_Mo_isFit_317 : decode b_Mo_isFit 317 = .ok (.iconst (1), 1) := by decide +kernel
theorem d_Mo_isFit_318 : decode b_Mo_isFit 318 = .ok (.goto (4), 3) := by decide +kernel
theorem d_Mo_isFit_321 : decode b_Mo_isFit 321 = .ok (.iconst (0), 1) := by decide +kernel
theorem d_Mo_isFit_322 : decode b_Mo_isFit 322 = .ok (.ireturn, 1) := by decide +kernel
theorem d_Mo_isFit_323 : decode b_Mo_isFit 323 = .ok (.aload_n 0, 1) := by decide +kernel
theorem d_Mo_isFit_324 : decode b_Mo_isFit 324 = .ok (.getfield 86, 3) := by decide +kernel
theorem d_Mo_isFit_327 : decode b_Mo_isFit 327 = .ok (.iload_n 1, 1) := by decide +kernel
theorem d_Mo_isFit_328 : decode b_Mo_isFit 328 = .ok (.iaload, 1) := by decide +kernel
theorem d_Mo_isFit_329 : decode b_Mo_isFit 329 = .ok (.iconst (1), 1) := by decide +kernel
theorem d_Mo_isFit_330 : decode b_Mo_isFit 330 = .ok (.if_icmp .le (7), 3) := by decide +kernel
theorem d_Mo_isFit_333 : decode b_Mo_isFit 333 = .ok (.iconst (1), 1) := by decide +kernel
theorem d_Mo_isFit_334 : decode b_Mo_isFit 334 = .ok (.goto (4), 3) := by decide +kernel
theorem d_Mo_isFit_337 : decode b_Mo_isFit 337 = .ok (.iconst (0), 1) := by decide +kernel
theorem d_Mo_isFit_338 : decode b_Mo_isFit 338 = .ok (.ireturn, 1) := by decide +kernel
theorem d_Mo_bear_0 : decode b_Mo_bear 0 = .ok (.aload_n 0, 1) := by decide +kernel
theorem d_Mo_bear_1 : decode b_Mo_bear 1 = .ok (.iload_n 1, 1) := by decide +kernel
theorem d_Mo_bear_2 : decode b_Mo_bear 2 = .ok (.iload_n 2, 1) := by decide +kernel
theorem d_Mo_bear_3 : decode b_Mo_bear 3 = .ok (.invokevirtual 146, 3) := by decide +kernel
theorem d_Mo_bear_6 : decode b_Mo_bear 6 = .ok (.aload_n 0, 1) := by decide +kernel
theorem d_Mo_bear_7 : decode b_Mo_bear 7 = .ok (.getfield 71, 3) := by decide +kernel
theorem d_Mo_bear_10 : decode b_Mo_bear 10 = .ok (.iload_n 2, 1) := by decide +kernel
theorem d_Mo_bear_11 : decode b_Mo_bear 11 = .ok (.iload_n 3, 1) := by decide +kernel
theorem d_Mo_bear_12 : decode b_Mo_bear 12 = .ok (.iastore, 1) := by decide +kernel
theorem d_Mo_bear_13 : decode b_Mo_bear 13 = .ok (.aload_n 0, 1) := by decide +kernel
theorem d_Mo_bear_14 : decode b_Mo_bear 14 = .ok (.getfield 74, 3) := by decide +kernel
theorem d_Mo_bear_17 : decode b_Mo_bear 17 = .ok (.iload_n 2, 1) := by decide +kernel
theorem d_Mo_bear_18 : decode b_Mo_bear 18 = .ok (.iconst (0), 1) := by decide +kernel
theorem d_Mo_bear_19 : decode b_Mo_bear 19 = .ok (.iastore, 1) := by decide +kernel
theorem d_Mo_bear_20 : decode b_Mo_bear 20 = .ok (.aload_n 0, 1) := by decide +kernel
theorem d_Mo_bear_21 : decode b_Mo_bear 21 = .ok (.getfield 77, 3) := by decide +kernel
theorem d_Mo_bear_24 : decode b_Mo_bear 24 = .ok (.iload_n 2, 1) := by decide +kernel
theorem d_Mo_bear_25 : decode b_Mo_bear 25 = .ok (.iconst (0), 1) := by decide +kernel
theorem d_Mo_bear_26 : decode b_Mo_bear 26 = .ok (.iastore, 1) := by decide +kernel
theorem d_Mo_bear_27 : decode b_Mo_bear 27 = .ok (.aload_n 0, 1) := by decide +kernel
theorem d_Mo_bear_28 : decode b_Mo_bear 28 = .ok (.getfield 80, 3) := by decide +kernel
theorem d_Mo_bear_31 : decode b_Mo_bear 31 = .ok (.iload_n 2, 1) := by decide +kernel
theorem d_Mo_bear_32 : decode b_Mo_bear 32 = .ok (.iconst (0), 1) := by decide +kernel
theorem d_Mo_bear_33 : decode b_Mo_bear 33 = .ok (.iastore, 1) := by decide +kernel
theorem d_Mo_bear_34 : decode b_Mo_bear 34 = .ok (.aload_n 0, 1) := by decide +kernel
theorem d_Mo_bear_35 : decode b_Mo_bear 35 = .ok (.getfield 83, 3) := by decide +kernel
theorem d_Mo_bear_38 : decode b_Mo_bear 38 = .ok (.iload_n 2, 1) := by decide +kernel
theorem d_Mo_bear_39 : decode b_Mo_bear 39 = .ok (.iconst (0), 1) := by decide +kernel
theorem d_Mo_bear_40 : decode b_Mo_bear 40 = .ok (.bastore, 1) := by decide +kernel
theorem d_Mo_bear_41 : decode b_Mo_bear 41 = .ok (.aload_n 0, 1) := by decide +kernel
theorem d_Mo_bear_42 : decode b_Mo_bear 42 = .ok (.iload_n 2, 1) := by decide +kernel
theorem d_Mo_bear_43 : decode b_Mo_bear 43 = .ok (.lconst 1, 1) := by decide +kernel
theorem d_Mo_bear_44 : decode b_Mo_bear 44 = .ok (.invokevirtual 201, 3) := by decide +kernel
theorem d_Mo_bear_47 : decode b_Mo_bear 47 = .ok (.return_, 1) := by decide +kernel
theorem d_Mo_speak_0 : decode b_Mo_speak 0 = .ok (.iload_n 2, 1) := by decide +kernel
theorem d_Mo_speak_1 : decode b_Mo_speak 1 = .ok (.ifCond .ge (34), 3) := by decide +kernel
theorem d_Mo_speak_4 : decode b_Mo_speak 4 = .ok (.aload_n 0, 1) := by decide +kernel
theorem d_Mo_speak_5 : decode b_Mo_speak 5 = .ok (.getfield 135, 3) := by decide +kernel
theorem d_Mo_speak_8 : decode b_Mo_speak 8 = .ok (.aload_n 0, 1) := by decide +kernel
theorem d_Mo_speak_9 : decode b_Mo_speak 9 = .ok (.getfield 205, 3) := by decide +kernel
theorem d_Mo_speak_12 : decode b_Mo_speak 12 = .ok (.iload_n 3, 1) := by decide +kernel
theorem d_Mo_speak_13 : decode b_Mo_speak 13 = .ok (.iastore, 1) := by decide +kernel
theorem d_Mo_speak_14 : decode b_Mo_speak 14 = .ok (.aload_n 0, 1) := by decide +kernel
theorem d_Mo_speak_15 : decode b_Mo_speak 15 = .ok (.dup, 1) := by decide +kernel
theorem d_Mo_speak_16 : decode b_Mo_speak 16 = .ok (.getfield 205, 3) := by decide +kernel
theorem d_Mo_speak_19 : decode b_Mo_speak 19 = .ok (.iconst (1), 1) := by decide +kernel
theorem d_Mo_speak_20 : decode b_Mo_speak 20 = .ok (.iadd, 1) := by decide +kernel
theorem d_Mo_speak_21 : decode b_Mo_speak 21 = .ok (.putfield 205, 3) := by decide +kernel
theorem d_Mo_speak_24 : decode b_Mo_speak 24 = .ok (.aload_n 0, 1) := by decide +kernel
theorem d_Mo_speak_25 : decode b_Mo_speak 25 = .ok (.getfield 77, 3) := by decide +kernel
theorem d_Mo_speak_28 : decode b_Mo_speak 28 = .ok (.iload_n 1, 1) := by decide +kernel
theorem d_Mo_speak_29 : decode b_Mo_speak 29 = .ok (.dup2, 1) := by decide +kernel
theorem d_Mo_speak_30 : decode b_Mo_speak 30 = .ok (.iaload, 1) := by decide +kernel
theorem d_Mo_speak_31 : decode b_Mo_speak 31 = .ok (.iconst (1), 1) := by decide +kernel
theorem d_Mo_speak_32 : decode b_Mo_speak 32 = .ok (.iadd, 1) := by decide +kernel
theorem d_Mo_speak_33 : decode b_Mo_speak 33 = .ok (.iastore, 1) := by decide +kernel
theorem d_Mo_speak_34 : decode b_Mo_speak 34 = .ok (.return_, 1) := by decide +kernel
theorem d_Mo_speak_35 : decode b_Mo_speak 35 = .ok (.aload_n 0, 1) := by decide +kernel
theorem d_Mo_speak_36 : decode b_Mo_speak 36 = .ok (.getfield 59, 3) := by decide +kernel
theorem d_Mo_speak_39 : decode b_Mo_speak 39 = .ok (.bipush (16), 2) := by decide +kernel
theorem d_Mo_speak_41 : decode b_Mo_speak 41 = .ok (.iload_n 1, 1) := by decide +kernel
theorem d_Mo_speak_42 : decode b_Mo_speak 42 = .ok (.imul, 1) := by decide +kernel
theorem d_Mo_speak_43 : decode b_Mo_speak 43 = .ok (.aload_n 0, 1) := by decide +kernel
theorem d_Mo_speak_44 : decode b_Mo_speak 44 = .ok (.getfield 77, 3) := by decide +kernel
theorem d_Mo_speak_47 : decode b_Mo_speak 47 = .ok (.iload_n 1, 1) := by decide +kernel
theorem d_Mo_speak_48 : decode b_Mo_speak 48 = .ok (.iaload, 1) := by decide +kernel
theorem d_Mo_speak_49 : decode b_Mo_speak 49 = .ok (.iadd, 1) := by decide +kernel
theorem d_Mo_speak_50 : decode b_Mo_speak 50 = .ok (.iload_n 3, 1) := by decide +kernel
theorem d_Mo_speak_51 : decode b_Mo_speak 51 = .ok (.iastore, 1) := by decide +kernel
theorem d_Mo_speak_52 : decode b_Mo_speak 52 = .ok (.aload_n 0, 1) := by decide +kernel
theorem d_Mo_speak_53 : decode b_Mo_speak 53 = .ok (.getfield 77, 3) := by decide +kernel
theorem d_Mo_speak_56 : decode b_Mo_speak 56 = .ok (.iload_n 1, 1) := by decide +kernel
theorem d_Mo_speak_57 : decode b_Mo_speak 57 = .ok (.dup2, 1) := by decide +kernel
theorem d_Mo_speak_58 : decode b_Mo_speak 58 = .ok (.iaload, 1) := by decide +kernel
theorem d_Mo_speak_59 : decode b_Mo_speak 59 = .ok (.iconst (1), 1) := by decide +kernel
theorem d_Mo_speak_60 : decode b_Mo_speak 60 = .ok (.iadd, 1) := by decide +kernel
theorem d_Mo_speak_61 : decode b_Mo_speak 61 = .ok (.iastore, 1) := by decide +kernel
theorem d_Mo_speak_62 : decode b_Mo_speak 62 = .ok (.aload_n 0, 1) := by decide +kernel
theorem d_Mo_speak_63 : decode b_Mo_speak 63 = .ok (.getfield 56, 3) := by decide +kernel
theorem d_Mo_speak_66 : decode b_Mo_speak 66 = .ok (.iload_n 1, 1) := by decide +kernel
theorem d_Mo_speak_67 : decode b_Mo_speak 67 = .ok (.aload_n 0, 1) := by decide +kernel
theorem d_Mo_speak_68 : decode b_Mo_speak 68 = .ok (.getfield 77, 3) := by decide +kernel
theorem d_Mo_speak_71 : decode b_Mo_speak 71 = .ok (.iload_n 1, 1) := by decide +kernel
theorem d_Mo_speak_72 : decode b_Mo_speak 72 = .ok (.iaload, 1) := by decide +kernel
theorem d_Mo_speak_73 : decode b_Mo_speak 73 = .ok (.iastore, 1) := by decide +kernel
theorem d_Mo_speak_74 : decode b_Mo_speak 74 = .ok (.return_, 1) := by decide +kernel
theorem d_Mo_travel_0 : decode b_Mo_travel 0 = .ok (.iload_n 2, 1) := by decide +kernel
theorem d_Mo_travel_1 : decode b_Mo_travel 1 = .ok (.ifCond .ge (11), 3) := by decide +kernel
theorem d_Mo_travel_4 : decode b_Mo_travel 4 = .ok (.aload_n 0, 1) := by decide +kernel
theorem d_Mo_travel_5 : decode b_Mo_travel 5 = .ok (.iload_n 3, 1) := by decide +kernel
theorem d_Mo_travel_6 : decode b_Mo_travel 6 = .ok (.putfield 208, 3) := by decide +kernel
theorem d_Mo_travel_9 : decode b_Mo_travel 9 = .ok (.goto (39), 3) := by decide +kernel
theorem d_Mo_travel_12 : decode b_Mo_travel 12 = .ok (.iload_n 3, 1) := by decide +kernel
theorem d_Mo_travel_13 : decode b_Mo_travel 13 = .ok (.iload_n 2, 1) := by decide +kernel
theorem d_Mo_travel_14 : decode b_Mo_travel 14 = .ok (.if_icmp .eq (34), 3) := by decide +kernel
theorem d_Mo_travel_17 : decode b_Mo_travel 17 = .ok (.aload_n 0, 1) := by decide +kernel
theorem d_Mo_travel_18 : decode b_Mo_travel 18 = .ok (.getfield 74, 3) := by decide +kernel
theorem d_Mo_travel_21 : decode b_Mo_travel 21 = .ok (.iload_n 1, 1) := by decide +kernel
theorem d_Mo_travel_22 : decode b_Mo_travel 22 = .ok (.dup2, 1) := by decide +kernel
theorem d_Mo_travel_23 : decode b_Mo_travel 23 = .ok (.iaload, 1) := by decide +kernel
theorem d_Mo_travel_24 : decode b_Mo_travel 24 = .ok (.iconst (1), 1) := by decide +kernel
theorem d_Mo_travel_25 : decode b_Mo_travel 25 = .ok (.iadd, 1) := by decide +kernel
theorem d_Mo_travel_26 : decode b_Mo_travel 26 = .ok (.iastore, 1) := by decide +kernel
theorem d_Mo_travel_27 : decode b_Mo_travel 27 = .ok (.aload_n 0, 1) := by decide +kernel
theorem d_Mo_travel_28 : decode b_Mo_travel 28 = .ok (.getfield 41, 3) := by decide +kernel
theorem d_Mo_travel_31 : decode b_Mo_travel 31 = .ok (.iload_n 1, 1) := by decide +kernel
theorem d_Mo_travel_32 : decode b_Mo_travel 32 = .ok (.iconst (2), 1) := by decide +kernel
theorem d_Mo_travel_33 : decode b_Mo_travel 33 = .ok (.iastore, 1) := by decide +kernel
theorem d_Mo_travel_34 : decode b_Mo_travel 34 = .ok (.aload_n 0, 1) := by decide +kernel
theorem d_Mo_travel_35 : decode b_Mo_travel 35 = .ok (.getfield 44, 3) := by decide +kernel
theorem d_Mo_travel_38 : decode b_Mo_travel 38 = .ok (.iload_n 1, 1) := by decide +kernel
theorem d_Mo_travel_39 : decode b_Mo_travel 39 = .ok (.iload_n 3, 1) := by decide +kernel
theorem d_Mo_travel_40 : decode b_Mo_travel 40 = .ok (.iastore, 1) := by decide +kernel
theorem d_Mo_travel_41 : decode b_Mo_travel 41 = .ok (.aload_n 0, 1) := by decide +kernel
theorem d_Mo_travel_42 : decode b_Mo_travel 42 = .ok (.getfield 53, 3) := by decide +kernel
theorem d_Mo_travel_45 : decode b_Mo_travel 45 = .ok (.iload_n 1, 1) := by decide +kernel
theorem d_Mo_travel_46 : decode b_Mo_travel 46 = .ok (.iload_n 3, 1) := by decide +kernel
theorem d_Mo_travel_47 : decode b_Mo_travel 47 = .ok (.iastore, 1) := by decide +kernel
theorem d_Mo_travel_48 : decode b_Mo_travel 48 = .ok (.return_, 1) := by decide +kernel
theorem d_Mo_cloning_0 : decode b_Mo_cloning 0 = .ok (.iload_n 2, 1) := by decide +kernel
theorem d_Mo_cloning_1 : decode b_Mo_cloning 1 = .ok (.ifCond .ge (17), 3) := by decide +kernel
theorem d_Mo_cloning_4 : decode b_Mo_cloning 4 = .ok (.iload_n 1, 1) := by decide +kernel
theorem d_Mo_cloning_5 : decode b_Mo_cloning 5 = .ok (.bipush (96), 2) := by decide +kernel
theorem d_Mo_cloning_7 : decode b_Mo_cloning 7 = .ok (.if_icmp .ne (7), 3) := by decide +kernel
theorem d_Mo_cloning_10 : decode b_Mo_cloning 10 = .ok (.iconst (1), 1) := by decide +kernel
theorem d_Mo_cloning_11 : decode b_Mo_cloning 11 = .ok (.goto (20), 3) := by decide +kernel
theorem d_Mo_cloning_14 : decode b_Mo_cloning 14 = .ok (.iconst (0), 1) := by decide +kernel
theorem d_Mo_cloning_15 : decode b_Mo_cloning 15 = .ok (.goto (16), 3) := by decide +kernel
theorem d_Mo_cloning_18 : decode b_Mo_cloning 18 = .ok (.iload_n 1, 1) := by decide +kernel
theorem d_Mo_cloning_19 : decode b_Mo_cloning 19 = .ok (.bipush (8), 2) := by decide +kernel
theorem d_Mo_cloning_21 : decode b_Mo_cloning 21 = .ok (.irem, 1) := by decide +kernel
theorem d_Mo_cloning_22 : decode b_Mo_cloning 22 = .ok (.iconst (4), 1) := by decide +kernel
theorem d_Mo_cloning_23 : decode b_Mo_cloning 23 = .ok (.if_icmp .ge (7), 3) := by decide +kernel
theorem d_Mo_cloning_26 : decode b_Mo_cloning 26 = .ok (.iconst (1), 1) := by decide +kernel
theorem d_Mo_cloning_27 : decode b_Mo_cloning 27 = .ok (.goto (4), 3) := by decide +kernel
theorem d_Mo_cloning_30 : decode b_Mo_cloning 30 = .ok (.iconst (0), 1) := by decide +kernel
theorem d_Mo_cloning_31 : decode b_Mo_cloning 31 = .ok (.istore 4, 2) := by decide +kernel
theorem d_Mo_cloning_33 : decode b_Mo_cloning 33 = .ok (.iload 4, 2) := by decide +kernel
theorem d_Mo_cloning_35 : decode b_Mo_cloning 35 = .ok (.ifCond .eq (27), 3) := by decide +kernel
theorem d_Mo_cloning_38 : decode b_Mo_cloning 38 = .ok (.aload_n 0, 1) := by decide +kernel
theorem d_Mo_cloning_39 : decode b_Mo_cloning 39 = .ok (.getfield 83, 3) := by decide +kernel
theorem d_Mo_cloning_42 : decode b_Mo_cloning 42 = .ok (.iload_n 1, 1) := by decide +kernel
theorem d_Mo_cloning_43 : decode b_Mo_cloning 43 = .ok (.baload, 1) := by decide +kernel
theorem d_Mo_cloning_44 : decode b_Mo_cloning 44 = .ok (.ifCond .ne (18), 3) := by decide +kernel
theorem d_Mo_cloning_47 : decode b_Mo_cloning 47 = .ok (.iload_n 3, 1) := by decide +kernel
theorem d_Mo_cloning_48 : decode b_Mo_cloning 48 = .ok (.iconst (1), 1) := by decide +kernel
theorem d_Mo_cloning_49 : decode b_Mo_cloning 49 = .ok (.if_icmp .lt (13), 3) := by decide +kernel
theorem d_Mo_cloning_52 : decode b_Mo_cloning 52 = .ok (.iload_n 3, 1) := by decide +kernel
theorem d_Mo_cloning_53 : decode b_Mo_cloning 53 = .ok (.aload_n 0, 1) := by decide +kernel
theorem d_Mo_cloning_54 : decode b_Mo_cloning 54 = .ok (.getfield 71, 3) := by decide +kernel
theorem d_Mo_cloning_57 : decode b_Mo_cloning 57 = .ok (.iload_n 1, 1) := by decide +kernel
theorem d_Mo_cloning_58 : decode b_Mo_cloning 58 = .ok (.iaload, 1) := by decide +kernel
theorem d_Mo_cloning_59 : decode b_Mo_cloning 59 = .ok (.if_icmp .le (12), 3) := by decide +kernel
theorem d_Mo_cloning_62 : decode b_Mo_cloning 62 = .ok (.aload_n 0, 1) := by decide +kernel
theorem d_Mo_cloning_63 : decode b_Mo_cloning 63 = .ok (.iload_n 1, 1) := by decide +kernel
theorem d_Mo_cloning_64 : decode b_Mo_cloning 64 = .ok (.ldc2_w 211, 3) := by decide +kernel
theorem d_Mo_cloning_67 : decode b_Mo_cloning 67 = .ok (.invokevirtual 201, 3) := by decide +kernel
theorem d_Mo_cloning_70 : decode b_Mo_cloning 70 = .ok (.return_, 1) := by decide +kernel
theorem d_Mo_cloning_71 : decode b_Mo_cloning 71 = .ok (.iload_n 2, 1) := by decide +kernel
theorem d_Mo_cloning_72 : decode b_Mo_cloning 72 = .ok (.ifCond .ge (8), 3) := by decide +kernel
theorem d_Mo_cloning_75 : decode b_Mo_cloning 75 = .ok (.bipush (97), 2) := by decide +kernel
theorem d_Mo_cloning_77 : decode b_Mo_cloning 77 = .ok (.goto (6), 3) := by decide +kernel
theorem d_Mo_cloning_80 : decode b_Mo_cloning 80 = .ok (.iload_n 1, 1) := by decide +kernel
theorem d_Mo_cloning_81 : decode b_Mo_cloning 81 = .ok (.iconst (4), 1) := by decide +kernel
theorem d_Mo_cloning_82 : decode b_Mo_cloning 82 = .ok (.iadd, 1) := by decide +kernel
theorem d_Mo_cloning_83 : decode b_Mo_cloning 83 = .ok (.istore 5, 2) := by decide +kernel
theorem d_Mo_cloning_85 : decode b_Mo_cloning 85 = .ok (.aload_n 0, 1) := by decide +kernel
theorem d_Mo_cloning_86 : decode b_Mo_cloning 86 = .ok (.iload_n 1, 1) := by decide +kernel
theorem d_Mo_cloning_87 : decode b_Mo_cloning 87 = .ok (.iload 5, 2) := by decide +kernel
theorem d_Mo_cloning_89 : decode b_Mo_cloning 89 = .ok (.iload_n 3, 1) := by decide +kernel
theorem d_Mo_cloning_90 : decode b_Mo_cloning 90 = .ok (.invokevirtual 213, 3) := by decide +kernel
theorem d_Mo_cloning_93 : decode b_Mo_cloning 93 = .ok (.iload_n 2, 1) := by decide +kernel
theorem d_Mo_cloning_94 : decode b_Mo_cloning 94 = .ok (.ifCond .ge (11), 3) := by decide +kernel
theorem d_Mo_cloning_97 : decode b_Mo_cloning 97 = .ok (.aload_n 0, 1) := by decide +kernel
theorem d_Mo_cloning_98 : decode b_Mo_cloning 98 = .ok (.iconst (1), 1) := by decide +kernel
theorem d_Mo_cloning_99 : decode b_Mo_cloning 99 = .ok (.putfield 216, 3) := by decide +kernel
theorem d_Mo_cloning_102 : decode b_Mo_cloning 102 = .ok (.goto (11), 3) := by decide +kernel
theorem d_Mo_cloning_105 : decode b_Mo_cloning 105 = .ok (.aload_n 0, 1) := by decide +kernel
theorem d_Mo_cloning_106 : decode b_Mo_cloning 106 = .ok (.iload 5, 2) := by decide +kernel
theorem d_Mo_cloning_108 : decode b_Mo_cloning 108 = .ok (.iconst (0), 1) := by decide +kernel
theorem d_Mo_cloning_109 : decode b_Mo_cloning 109 = .ok (.iconst (-1), 1) := by decide +kernel
theorem d_Mo_cloning_110 : decode b_Mo_cloning 110 = .ok (.invokevirtual 186, 3) := by decide +kernel
theorem d_Mo_cloning_113 : decode b_Mo_cloning 113 = .ok (.aload_n 0, 1) := by decide +kernel
theorem d_Mo_cloning_114 : decode b_Mo_cloning 114 = .ok (.getfield 71, 3) := by decide +kernel
theorem d_Mo_cloning_117 : decode b_Mo_cloning 117 = .ok (.iload_n 1, 1) := by decide +kernel
theorem d_Mo_cloning_118 : decode b_Mo_cloning 118 = .ok (.aload_n 0, 1) := by decide +kernel
theorem d_Mo_cloning_119 : decode b_Mo_cloning 119 = .ok (.getfield 71, 3) := by decide +kernel
theorem d_Mo_cloning_122 : decode b_Mo_cloning 122 = .ok (.iload_n 1, 1) := by decide +kernel
theorem d_Mo_cloning_123 : decode b_Mo_cloning 123 = .ok (.iaload, 1) := by decide +kernel
theorem d_Mo_cloning_124 : decode b_Mo_cloning 124 = .ok (.iload_n 3, 1) := by decide +kernel
theorem d_Mo_cloning_125 : decode b_Mo_cloning 125 = .ok (.isub, 1) := by decide +kernel
theorem d_Mo_cloning_126 : decode b_Mo_cloning 126 = .ok (.iastore, 1) := by decide +kernel
theorem d_Mo_cloning_127 : decode b_Mo_cloning 127 = .ok (.aload_n 0, 1) := by decide +kernel
theorem d_Mo_cloning_128 : decode b_Mo_cloning 128 = .ok (.getfield 83, 3) := by decide +kernel
theorem d_Mo_cloning_131 : decode b_Mo_cloning 131 = .ok (.iload_n 1, 1) := by decide +kernel
theorem d_Mo_cloning_132 : decode b_Mo_cloning 132 = .ok (.iconst (1), 1) := by decide +kernel
theorem d_Mo_cloning_133 : decode b_Mo_cloning 133 = .ok (.bastore, 1) := by decide +kernel
theorem d_Mo_cloning_134 : decode b_Mo_cloning 134 = .ok (.aload_n 0, 1) := by decide +kernel
theorem d_Mo_cloning_135 : decode b_Mo_cloning 135 = .ok (.iload_n 1, 1) := by decide +kernel
theorem d_Mo_cloning_136 : decode b_Mo_cloning 136 = .ok (.lconst 0, 1) := by decide +kernel
theorem d_Mo_cloning_137 : decode b_Mo_cloning 137 = .ok (.invokevirtual 201, 3) := by decide +kernel
theorem d_Mo_cloning_140 : decode b_Mo_cloning 140 = .ok (.return_, 1) := by decide +kernel
theorem d_Mo_newPair_0 : decode b_Mo_newPair 0 = .ok (.aload_n 0, 1) := by decide +kernel
theorem d_Mo_newPair_1 : decode b_Mo_newPair 1 = .ok (.iload_n 1, 1) := by decide +kernel
theorem d_Mo_newPair_2 : decode b_Mo_newPair 2 = .ok (.invokevirtual 220, 3) := by decide +kernel
theorem d_Mo_newPair_5 : decode b_Mo_newPair 5 = .ok (.aload_n 0, 1) := by decide +kernel
theorem d_Mo_newPair_6 : decode b_Mo_newPair 6 = .ok (.iload_n 1, 1) := by decide +kernel
theorem d_Mo_newPair_7 : decode b_Mo_newPair 7 = .ok (.invokevirtual 223, 3) := by decide +kernel
theorem d_Mo_newPair_10 : decode b_Mo_newPair 10 = .ok (.lstore_n 2, 1) := by decide +kernel
theorem d_Mo_newPair_11 : decode b_Mo_newPair 11 = .ok (.aload_n 0, 1) := by decide +kernel
theorem d_Mo_newPair_12 : decode b_Mo_newPair 12 = .ok (.iload_n 1, 1) := by decide +kernel
theorem d_Mo_newPair_13 : decode b_Mo_newPair 13 = .ok (.invokevirtual 223, 3) := by decide +kernel
theorem d_Mo_newPair_16 : decode b_Mo_newPair 16 = .ok (.lstore 4, 2) := by decide +kernel
theorem d_Mo_newPair_18 : decode b_Mo_newPair 18 = .ok (.aload_n 0, 1) := by decide +kernel
theorem d_Mo_newPair_19 : decode b_Mo_newPair 19 = .ok (.getfield 96, 3) := by decide +kernel
theorem d_Mo_newPair_22 : decode b_Mo_newPair 22 = .ok (.bipush (9), 2) := by decide +kernel
theorem d_Mo_newPair_24 : decode b_Mo_newPair 24 = .ok (.iload_n 1, 1) := by decide +kernel
theorem d_Mo_newPair_25 : decode b_Mo_newPair 25 = .ok (.imul, 1) := by decide +kernel
theorem d_Mo_newPair_26 : decode b_Mo_newPair 26 = .ok (.aload_n 0, 1) := by decide +kernel
theorem d_Mo_newPair_27 : decode b_Mo_newPair 27 = .ok (.getfield 93, 3) := by decide +kernel
theorem d_Mo_newPair_30 : decode b_Mo_newPair 30 = .ok (.iload_n 1, 1) := by decide +kernel
theorem d_Mo_newPair_31 : decode b_Mo_newPair 31 = .ok (.iaload, 1) := by decide +kernel
theorem d_Mo_newPair_32 : decode b_Mo_newPair 32 = .ok (.iadd, 1) := by decide +kernel
theorem d_Mo_newPair_33 : decode b_Mo_newPair 33 = .ok (.lload 4, 2) := by decide +kernel
theorem d_Mo_newPair_35 : decode b_Mo_newPair 35 = .ok (.lastore, 1) := by decide +kernel
theorem d_Mo_newPair_36 : decode b_Mo_newPair 36 = .ok (.aload_n 0, 1) := by decide +kernel
theorem d_Mo_newPair_37 : decode b_Mo_newPair 37 = .ok (.getfield 99, 3) := by decide +kernel
theorem d_Mo_newPair_40 : decode b_Mo_newPair 40 = .ok (.bipush (9), 2) := by decide +kernel
theorem d_Mo_newPair_42 : decode b_Mo_newPair 42 = .ok (.iload_n 1, 1) := by decide +kernel
theorem d_Mo_newPair_43 : decode b_Mo_newPair 43 = .ok (.imul, 1) := by decide +kernel
theorem d_Mo_newPair_44 : decode b_Mo_newPair 44 = .ok (.aload_n 0, 1) := by decide +kernel
theorem d_Mo_newPair_45 : decode b_Mo_newPair 45 = .ok (.getfield 93, 3) := by decide +kernel
theorem d_Mo_newPair_48 : decode b_Mo_newPair 48 = .ok (.iload_n 1, 1) := by decide +kernel
theorem d_Mo_newPair_49 : decode b_Mo_newPair 49 = .ok (.iaload, 1) := by decide +kernel
theorem d_Mo_newPair_50 : decode b_Mo_newPair 50 = .ok (.iadd, 1) := by decide +kernel
theorem d_Mo_newPair_51 : decode b_Mo_newPair 51 = .ok (.lload_n 2, 1) := by decide +kernel
theorem d_Mo_newPair_52 : decode b_Mo_newPair 52 = .ok (.lastore, 1) := by decide +kernel
theorem d_Mo_newPair_53 : decode b_Mo_newPair 53 = .ok (.aload_n 0, 1) := by decide +kernel
theorem d_Mo_newPair_54 : decode b_Mo_newPair 54 = .ok (.iload_n 1, 1) := by decide +kernel
theorem d_Mo_newPair_55 : decode b_Mo_newPair 55 = .ok (.ldc2_w 150, 3) := by decide +kernel
theorem d_Mo_newPair_58 : decode b_Mo_newPair 58 = .ok (.aload_n 0, 1) := by decide +kernel
theorem d_Mo_newPair_59 : decode b_Mo_newPair 59 = .ok (.getfield 93, 3) := by decide +kernel
theorem d_Mo_newPair_62 : decode b_Mo_newPair 62 = .ok (.iload_n 1, 1) := by decide +kernel
theorem d_Mo_newPair_63 : decode b_Mo_newPair 63 = .ok (.iaload, 1) := by decide +kernel
theorem d_Mo_newPair_64 : decode b_Mo_newPair 64 = .ok (.i2l, 1) := by decide +kernel
theorem d_Mo_newPair_65 : decode b_Mo_newPair 65 = .ok (.ladd, 1) := by decide +kernel
theorem d_Mo_newPair_66 : decode b_Mo_newPair 66 = .ok (.invokevirtual 201, 3) := by decide +kernel
theorem d_Mo_newPair_69 : decode b_Mo_newPair 69 = .ok (.aload_n 0, 1) := by decide +kernel
theorem d_Mo_newPair_70 : decode b_Mo_newPair 70 = .ok (.getfield 93, 3) := by decide +kernel
theorem d_Mo_newPair_73 : decode b_Mo_newPair 73 = .ok (.iload_n 1, 1) := by decide +kernel
theorem d_Mo_newPair_74 : decode b_Mo_newPair 74 = .ok (.dup2, 1) := by decide +kernel
theorem d_Mo_newPair_75 : decode b_Mo_newPair 75 = .ok (.iaload, 1) := by decide +kernel
theorem d_Mo_newPair_76 : decode b_Mo_newPair 76 = .ok (.iconst (1), 1) := by decide +kernel
theorem d_Mo_newPair_77 : decode b_Mo_newPair 77 = .ok (.iadd, 1) := by decide +kernel
theorem d_Mo_newPair_78 : decode b_Mo_newPair 78 = .ok (.iastore, 1) := by decide +kernel
theorem d_Mo_newPair_79 : decode b_Mo_newPair 79 = .ok (.return_, 1) := by decide +kernel
theorem d_Mo_compute_0 : decode b_Mo_compute 0 = .ok (.aload_n 0, 1) := by decide +kernel
theorem d_Mo_compute_1 : decode b_Mo_compute 1 = .ok (.iload_n 1, 1) := by decide +kernel
theorem d_Mo_compute_2 : decode b_Mo_compute 2 = .ok (.invokevirtual 223, 3) := by decide +kernel
theorem d_Mo_compute_5 : decode b_Mo_compute 5 = .ok (.l2i, 1) := by decide +kernel
theorem d_Mo_compute_6 : decode b_Mo_compute 6 = .ok (.istore_n 3, 1) := by decide +kernel
theorem d_Mo_compute_7 : decode b_Mo_compute 7 = .ok (.aload_n 0, 1) := by decide +kernel
theorem d_Mo_compute_8 : decode b_Mo_compute 8 = .ok (.iload_n 1, 1) := by decide +kernel
theorem d_Mo_compute_9 : decode b_Mo_compute 9 = .ok (.invokevirtual 223, 3) := by decide +kernel
theorem d_Mo_compute_12 : decode b_Mo_compute 12 = .ok (.l2i, 1) := by decide +kernel
theorem d_Mo_compute_13 : decode b_Mo_compute 13 = .ok (.istore 4, 2) := by decide +kernel
theorem d_Mo_compute_15 : decode b_Mo_compute 15 = .ok (.aload_n 0, 1) := by decide +kernel
theorem d_Mo_compute_16 : decode b_Mo_compute 16 = .ok (.iload_n 1, 1) := by decide +kernel
theorem d_Mo_compute_17 : decode b_Mo_compute 17 = .ok (.iload_n 2, 1) := by decide +kernel
theorem d_Mo_compute_18 : decode b_Mo_compute 18 = .ok (.iconst (2), 1) := by decide +kernel
theorem d_Mo_compute_19 : decode b_Mo_compute 19 = .ok (.if_icmp .ne (11), 3) := by decide +kernel
theorem d_Mo_compute_22 : decode b_Mo_compute 22 = .ok (.iload 4, 2) := by decide +kernel
theorem d_Mo_compute_24 : decode b_Mo_compute 24 = .ok (.iload_n 3, 1) := by decide +kernel
theorem d_Mo_compute_25 : decode b_Mo_compute 25 = .ok (.iadd, 1) := by decide +kernel
theorem d_Mo_compute_26 : decode b_Mo_compute 26 = .ok (.i2l, 1) := by decide +kernel
theorem d_Mo_compute_27 : decode b_Mo_compute 27 = .ok (.goto (21), 3) := by decide +kernel
theorem d_Mo_compute_30 : decode b_Mo_compute 30 = .ok (.iload_n 2, 1) := by decide +kernel
theorem d_Mo_compute_31 : decode b_Mo_compute 31 = .ok (.iconst (3), 1) := by decide +kernel
theorem d_Mo_compute_32 : decode b_Mo_compute 32 = .ok (.if_icmp .ne (11), 3) := by decide +kernel
theorem d_Mo_compute_35 : decode b_Mo_compute 35 = .ok (.iload 4, 2) := by decide +kernel
theorem d_Mo_compute_37 : decode b_Mo_compute 37 = .ok (.iload_n 3, 1) := by decide +kernel
theorem d_Mo_compute_38 : decode b_Mo_compute 38 = .ok (.isub, 1) := by decide +kernel
theorem d_Mo_compute_39 : decode b_Mo_compute 39 = .ok (.i2l, 1) := by decide +kernel
theorem d_Mo_compute_40 : decode b_Mo_compute 40 = .ok (.goto (8), 3) := by decide +kernel
theorem d_Mo_compute_43 : decode b_Mo_compute 43 = .ok (.iload 4, 2) := by decide +kernel
theorem d_Mo_compute_45 : decode b_Mo_compute 45 = .ok (.iload_n 3, 1) := by decide +kernel
theorem d_Mo_compute_46 : decode b_Mo_compute 46 = .ok (.imul, 1) := by decide +kernel
theorem d_Mo_compute_47 : decode b_Mo_compute 47 = .ok (.i2l, 1) := by decide +kernel
theorem d_Mo_compute_48 : decode b_Mo_compute 48 = .ok (.invokevirtual 201, 3) := by decide +kernel
theorem d_Mo_compute_51 : decode b_Mo_compute 51 = .ok (.return_, 1) := by decide +kernel
theorem d_Mo_compare_0 : decode b_Mo_compare 0 = .ok (.aload_n 0, 1) := by decide +kernel
theorem d_Mo_compare_1 : decode b_Mo_compare 1 = .ok (.iload_n 1, 1) := by decide +kernel
theorem d_Mo_compare_2 : decode b_Mo_compare 2 = .ok (.invokevirtual 223, 3) := by decide +kernel
theorem d_Mo_compare_5 : decode b_Mo_compare 5 = .ok (.lstore_n 2, 1) := by decide +kernel
theorem d_Mo_compare_6 : decode b_Mo_compare 6 = .ok (.aload_n 0, 1) := by decide +kernel
theorem d_Mo_compare_7 : decode b_Mo_compare 7 = .ok (.iload_n 1, 1) := by decide +kernel
theorem d_Mo_compare_8 : decode b_Mo_compare 8 = .ok (.invokevirtual 223, 3) := by decide +kernel
theorem d_Mo_compare_11 : decode b_Mo_compare 11 = .ok (.lstore 4, 2) := by decide +kernel
theorem d_Mo_compare_13 : decode b_Mo_compare 13 = .ok (.aload_n 0, 1) := by decide +kernel
theorem d_Mo_compare_14 : decode b_Mo_compare 14 = .ok (.iload_n 1, 1) := by decide +kernel
theorem d_Mo_compare_15 : decode b_Mo_compare 15 = .ok (.lload 4, 2) := by decide +kernel
theorem d_Mo_compare_17 : decode b_Mo_compare 17 = .ok (.lload_n 2, 1) := by decide +kernel
theorem d_Mo_compare_18 : decode b_Mo_compare 18 = .ok (.lcmp, 1) := by decide +kernel
theorem d_Mo_compare_19 : decode b_Mo_compare 19 = .ok (.ifCond .ne (7), 3) := by decide +kernel
theorem d_Mo_compare_22 : decode b_Mo_compare 22 = .ok (.lconst 1, 1) := by decide +kernel
theorem d_Mo_compare_23 : decode b_Mo_compare 23 = .ok (.goto (4), 3) := by decide +kernel
theorem d_Mo_compare_26 : decode b_Mo_compare 26 = .ok (.lconst 0, 1) := by decide +kernel
theorem d_Mo_compare_27 : decode b_Mo_compare 27 = .ok (.invokevirtual 201, 3) := by decide +kernel
theorem d_Mo_compare_30 : decode b_Mo_compare 30 = .ok (.return_, 1) := by decide +kernel
theorem d_Mo_put_0 : decode b_Mo_put 0 = .ok (.aload_n 0, 1) := by decide +kernel
theorem d_Mo_put_1 : decode b_Mo_put 1 = .ok (.iload_n 1, 1) := by decide +kernel
theorem d_Mo_put_2 : decode b_Mo_put 2 = .ok (.invokevirtual 223, 3) := by decide +kernel
theorem d_Mo_put_5 : decode b_Mo_put 5 = .ok (.lstore_n 3, 1) := by decide +kernel
theorem d_Mo_put_6 : decode b_Mo_put 6 = .ok (.bipush (9), 2) := by decide +kernel
theorem d_Mo_put_8 : decode b_Mo_put 8 = .ok (.iload_n 1, 1) := by decide +kernel
theorem d_Mo_put_9 : decode b_Mo_put 9 = .ok (.imul, 1) := by decide +kernel
theorem d_Mo_put_10 : decode b_Mo_put 10 = .ok (.aload_n 0, 1) := by decide +kernel
theorem d_Mo_put_11 : decode b_Mo_put 11 = .ok (.iload_n 1, 1) := by decide +kernel
theorem d_Mo_put_12 : decode b_Mo_put 12 = .ok (.invokevirtual 223, 3) := by decide +kernel
theorem d_Mo_put_15 : decode b_Mo_put 15 = .ok (.invokestatic 152, 3) := by decide +kernel
theorem d_Mo_put_18 : decode b_Mo_put 18 = .ok (.iadd, 1) := by decide +kernel
theorem d_Mo_put_19 : decode b_Mo_put 19 = .ok (.istore 5, 2) := by decide +kernel
theorem d_Mo_put_21 : decode b_Mo_put 21 = .ok (.aload_n 0, 1) := by decide +kernel
theorem d_Mo_put_22 : decode b_Mo_put 22 = .ok (.getfield 96, 3) := by decide +kernel
theorem d_Mo_put_25 : decode b_Mo_put 25 = .ok (.iload 5, 2) := by decide +kernel
theorem d_Mo_put_27 : decode b_Mo_put 27 = .ok (.iload_n 2, 1) := by decide +kernel
theorem d_Mo_put_28 : decode b_Mo_put 28 = .ok (.bipush (17), 2) := by decide +kernel
theorem d_Mo_put_30 : decode b_Mo_put 30 = .ok (.if_icmp .ne (7), 3) := by decide +kernel
theorem d_Mo_put_33 : decode b_Mo_put 33 = .ok (.lload_n 3, 1) := by decide +kernel
theorem d_Mo_put_34 : decode b_Mo_put 34 = .ok (.goto (10), 3) := by decide +kernel
theorem d_Mo_put_37 : decode b_Mo_put 37 = .ok (.aload_n 0, 1) := by decide +kernel
theorem d_Mo_put_38 : decode b_Mo_put 38 = .ok (.getfield 96, 3) := by decide +kernel
theorem d_Mo_put_41 : decode b_Mo_put 41 = .ok (.iload 5, 2) := by decide +kernel
theorem d_Mo_put_43 : decode b_Mo_put 43 = .ok (.laload, 1) := by decide +kernel
theorem d_Mo_put_44 : decode b_Mo_put 44 = .ok (.lastore, 1) := by decide +kernel
theorem d_Mo_put_45 : decode b_Mo_put 45 = .ok (.aload_n 0, 1) := by decide +kernel
theorem d_Mo_put_46 : decode b_Mo_put 46 = .ok (.getfield 99, 3) := by decide +kernel
theorem d_Mo_put_49 : decode b_Mo_put 49 = .ok (.iload 5, 2) := by decide +kernel
theorem d_Mo_put_51 : decode b_Mo_put 51 = .ok (.iload_n 2, 1) := by decide +kernel
theorem d_Mo_put_52 : decode b_Mo_put 52 = .ok (.bipush (18), 2) := by decide +kernel
theorem d_Mo_put_54 : decode b_Mo_put 54 = .ok (.if_icmp .ne (7), 3) := by decide +kernel
theorem d_Mo_put_57 : decode b_Mo_put 57 = .ok (.lload_n 3, 1) := by decide +kernel
theorem d_Mo_put_58 : decode b_Mo_put 58 = .ok (.goto (10), 3) := by decide +kernel
theorem d_Mo_put_61 : decode b_Mo_put 61 = .ok (.aload_n 0, 1) := by decide +kernel
theorem d_Mo_put_62 : decode b_Mo_put 62 = .ok (.getfield 99, 3) := by decide +kernel
theorem d_Mo_put_65 : decode b_Mo_put 65 = .ok (.iload 5, 2) := by decide +kernel
theorem d_Mo_put_67 : decode b_Mo_put 67 = .ok (.laload, 1) := by decide +kernel
theorem d_Mo_put_68 : decode b_Mo_put 68 = .ok (.lastore, 1) := by decide +kernel
theorem d_Mo_put_69 : decode b_Mo_put 69 = .ok (.return_, 1) := by decide +kernel
theorem d_Mo_perform_0 : decode b_Mo_perform 0 = .ok (.iload_n 3, 1) := by decide +kernel
theorem d_Mo_perform_1 : decode b_Mo_perform 1 = .ok (.tableswitch (385) (0) (18) #[91, 99, 127, 127, 127, 136, 151, 164, 196, 211, 226, 237, 266, 281, 316, 324, 350, 376, 376], 91) := by decide +kernel
theorem d_Mo_perform_92 : decode b_Mo_perform 92 = .ok (.aload_n 0, 1) := by decide +kernel
theorem d_Mo_perform_93 : decode b_Mo_perform 93 = .ok (.iconst (1), 1) := by decide +kernel
theorem d_Mo_perform_94 : decode b_Mo_perform 94 = .ok (.putfield 227, 3) := by decide +kernel
theorem d_Mo_perform_97 : decode b_Mo_perform 97 = .ok (.goto (294), 3) := by decide +kernel
theorem d_Mo_perform_100 : decode b_Mo_perform 100 = .ok (.aload_n 0, 1) := by decide +kernel
theorem d_Mo_perform_101 : decode b_Mo_perform 101 = .ok (.iload_n 1, 1) := by decide +kernel
theorem d_Mo_perform_102 : decode b_Mo_perform 102 = .ok (.iload 4, 2) := by decide +kernel
theorem d_Mo_perform_104 : decode b_Mo_perform 104 = .ok (.bipush (127), 2) := by decide +kernel
theorem d_Mo_perform_106 : decode b_Mo_perform 106 = .ok (.if_icmp .le (13), 3) := by decide +kernel
theorem d_Mo_perform_109 : decode b_Mo_perform 109 = .ok (.iload 4, 2) := by decide +kernel
theorem d_Mo_perform_111 : decode b_Mo_perform 111 = .ok (.sipush (256), 3) := by decide +kernel
theorem d_Mo_perform_114 : decode b_Mo_perform 114 = .ok (.isub, 1) := by decide +kernel
theorem d_Mo_perform_115 : decode b_Mo_perform 115 = .ok (.i2l, 1) := by decide +kernel
theorem d_Mo_perform_116 : decode b_Mo_perform 116 = .ok (.goto (6), 3) := by decide +kernel
theorem d_Mo_perform_119 : decode b_Mo_perform 119 = .ok (.iload 4, 2) := by decide +kernel
theorem d_Mo_perform_121 : decode b_Mo_perform 121 = .ok (.i2l, 1) := by decide +kernel
theorem d_Mo_perform_122 : decode b_Mo_perform 122 = .ok (.invokevirtual 201, 3) := by decide +kernel
theorem d_Mo_perform_125 : decode b_Mo_perform 125 = .ok (.goto (266), 3) := by decide +kernel
theorem d_Mo_perform_128 : decode b_Mo_perform 128 = .ok (.aload_n 0, 1) := by decide +kernel
theorem d_Mo_perform_129 : decode b_Mo_perform 129 = .ok (.iload_n 1, 1) := by decide +kernel
theorem d_Mo_perform_130 : decode b_Mo_perform 130 = .ok (.iload_n 3, 1) := by decide +kernel
theorem d_Mo_perform_131 : decode b_Mo_perform 131 = .ok (.invokevirtual 230, 3) := by decide +kernel
theorem d_Mo_perform_134 : decode b_Mo_perform 134 = .ok (.goto (257), 3) := by decide +kernel
theorem d_Mo_perform_137 : decode b_Mo_perform 137 = .ok (.aload_n 0, 1) := by decide +kernel
theorem d_Mo_perform_138 : decode b_Mo_perform 138 = .ok (.iload_n 1, 1) := by decide +kernel
theorem d_Mo_perform_139 : decode b_Mo_perform 139 = .ok (.aload_n 0, 1) := by decide +kernel
theorem d_Mo_perform_140 : decode b_Mo_perform 140 = .ok (.iload_n 1, 1) := by decide +kernel
theorem d_Mo_perform_141 : decode b_Mo_perform 141 = .ok (.iload 4, 2) := by decide +kernel
theorem d_Mo_perform_143 : decode b_Mo_perform 143 = .ok (.invokevirtual 190, 3) := by decide +kernel
theorem d_Mo_perform_146 : decode b_Mo_perform 146 = .ok (.invokevirtual 201, 3) := by decide +kernel
theorem d_Mo_perform_149 : decode b_Mo_perform 149 = .ok (.goto (242), 3) := by decide +kernel
theorem d_Mo_perform_152 : decode b_Mo_perform 152 = .ok (.aload_n 0, 1) := by decide +kernel
theorem d_Mo_perform_153 : decode b_Mo_perform 153 = .ok (.getfield 86, 3) := by decide +kernel
theorem d_Mo_perform_156 : decode b_Mo_perform 156 = .ok (.iload_n 1, 1) := by decide +kernel
theorem d_Mo_perform_157 : decode b_Mo_perform 157 = .ok (.dup2, 1) := by decide +kernel
theorem d_Mo_perform_158 : decode b_Mo_perform 158 = .ok (.iaload, 1) := by decide +kernel
theorem d_Mo_perform_159 : decode b_Mo_perform 159 = .ok (.iconst (1), 1) := by decide +kernel
theorem d_Mo_perform_160 : decode b_Mo_perform 160 = .ok (.isub, 1) := by decide +kernel
theorem d_Mo_perform_161 : decode b_Mo_perform 161 = .ok (.iastore, 1) := by decide +kernel
theorem d_Mo_perform_162 : decode b_Mo_perform 162 = .ok (.goto (229), 3) := by decide +kernel
theorem d_Mo_perform_165 : decode b_Mo_perform 165 = .ok (.aload_n 0, 1) := by decide +kernel
theorem d_Mo_perform_166 : decode b_Mo_perform 166 = .ok (.iload_n 1, 1) := by decide +kernel
theorem d_Mo_perform_167 : decode b_Mo_perform 167 = .ok (.aload_n 0, 1) := by decide +kernel
theorem d_Mo_perform_168 : decode b_Mo_perform 168 = .ok (.getfield 16, 3) := by decide +kernel
theorem d_Mo_perform_171 : decode b_Mo_perform 171 = .ok (.bipush (8), 2) := by decide +kernel
theorem d_Mo_perform_173 : decode b_Mo_perform 173 = .ok (.iload_n 2, 1) := by decide +kernel
theorem d_Mo_perform_174 : decode b_Mo_perform 174 = .ok (.ifCond .ge (10), 3) := by decide +kernel
theorem d_Mo_perform_177 : decode b_Mo_perform 177 = .ok (.aload_n 0, 1) := by decide +kernel
theorem d_Mo_perform_178 : decode b_Mo_perform 178 = .ok (.getfield 208, 3) := by decide +kernel
theorem d_Mo_perform_181 : decode b_Mo_perform 181 = .ok (.goto (4), 3) := by decide +kernel
theorem d_Mo_perform_184 : decode b_Mo_perform 184 = .ok (.iload_n 2, 1) := by decide +kernel
theorem d_Mo_perform_185 : decode b_Mo_perform 185 = .ok (.imul, 1) := by decide +kernel
theorem d_Mo_perform_186 : decode b_Mo_perform 186 = .ok (.iload 4, 2) := by decide +kernel
theorem d_Mo_perform_188 : decode b_Mo_perform 188 = .ok (.iadd, 1) := by decide +kernel
theorem d_Mo_perform_189 : decode b_Mo_perform 189 = .ok (.iaload, 1) := by decide +kernel
theorem d_Mo_perform_190 : decode b_Mo_perform 190 = .ok (.i2l, 1) := by decide +kernel
theorem d_Mo_perform_191 : decode b_Mo_perform 191 = .ok (.invokevirtual 201, 3) := by decide +kernel
theorem d_Mo_perform_194 : decode b_Mo_perform 194 = .ok (.goto (197), 3) := by decide +kernel
theorem d_Mo_perform_197 : decode b_Mo_perform 197 = .ok (.aload_n 0, 1) := by decide +kernel
theorem d_Mo_perform_198 : decode b_Mo_perform 198 = .ok (.iload_n 1, 1) := by decide +kernel
theorem d_Mo_perform_199 : decode b_Mo_perform 199 = .ok (.iload_n 2, 1) := by decide +kernel
theorem d_Mo_perform_200 : decode b_Mo_perform 200 = .ok (.aload_n 0, 1) := by decide +kernel
theorem d_Mo_perform_201 : decode b_Mo_perform 201 = .ok (.iload_n 1, 1) := by decide +kernel
theorem d_Mo_perform_202 : decode b_Mo_perform 202 = .ok (.invokevirtual 223, 3) := by decide +kernel
theorem d_Mo_perform_205 : decode b_Mo_perform 205 = .ok (.l2i, 1) := by decide +kernel
theorem d_Mo_perform_206 : decode b_Mo_perform 206 = .ok (.invokevirtual 233, 3) := by decide +kernel
theorem d_Mo_perform_209 : decode b_Mo_perform 209 = .ok (.goto (182), 3) := by decide +kernel
theorem d_Mo_perform_212 : decode b_Mo_perform 212 = .ok (.aload_n 0, 1) := by decide +kernel
theorem d_Mo_perform_213 : decode b_Mo_perform 213 = .ok (.iload_n 1, 1) := by decide +kernel
theorem d_Mo_perform_214 : decode b_Mo_perform 214 = .ok (.iload_n 2, 1) := by decide +kernel
theorem d_Mo_perform_215 : decode b_Mo_perform 215 = .ok (.aload_n 0, 1) := by decide +kernel
theorem d_Mo_perform_216 : decode b_Mo_perform 216 = .ok (.iload_n 1, 1) := by decide +kernel
theorem d_Mo_perform_217 : decode b_Mo_perform 217 = .ok (.invokevirtual 223, 3) := by decide +kernel
theorem d_Mo_perform_220 : decode b_Mo_perform 220 = .ok (.l2i, 1) := by decide +kernel
theorem d_Mo_perform_221 : decode b_Mo_perform 221 = .ok (.invokevirtual 236, 3) := by decide +kernel
theorem d_Mo_perform_224 : decode b_Mo_perform 224 = .ok (.goto (167), 3) := by decide +kernel
theorem d_Mo_perform_227 : decode b_Mo_perform 227 = .ok (.aload_n 0, 1) := by decide +kernel
theorem d_Mo_perform_228 : decode b_Mo_perform 228 = .ok (.getfield 68, 3) := by decide +kernel
theorem d_Mo_perform_231 : decode b_Mo_perform 231 = .ok (.iload_n 1, 1) := by decide +kernel
theorem d_Mo_perform_232 : decode b_Mo_perform 232 = .ok (.iload 4, 2) := by decide +kernel
theorem d_Mo_perform_234 : decode b_Mo_perform 234 = .ok (.iastore, 1) := by decide +kernel
theorem d_Mo_perform_235 : decode b_Mo_perform 235 = .ok (.goto (156), 3) := by decide +kernel
theorem d_Mo_perform_238 : decode b_Mo_perform 238 = .ok (.aload_n 0, 1) := by decide +kernel
theorem d_Mo_perform_239 : decode b_Mo_perform 239 = .ok (.getfield 68, 3) := by decide +kernel
theorem d_Mo_perform_242 : decode b_Mo_perform 242 = .ok (.iload_n 1, 1) := by decide +kernel
theorem d_Mo_perform_243 : decode b_Mo_perform 243 = .ok (.aload_n 0, 1) := by decide +kernel
theorem d_Mo_perform_244 : decode b_Mo_perform 244 = .ok (.iload_n 1, 1) := by decide +kernel
theorem d_Mo_perform_245 : decode b_Mo_perform 245 = .ok (.invokevirtual 223, 3) := by decide +kernel
theorem d_Mo_perform_248 : decode b_Mo_perform 248 = .ok (.l2i, 1) := by decide +kernel
theorem d_Mo_perform_249 : decode b_Mo_perform 249 = .ok (.ifCond .eq (8), 3) := by decide +kernel
theorem d_Mo_perform_252 : decode b_Mo_perform 252 = .ok (.iload 4, 2) := by decide +kernel
theorem d_Mo_perform_254 : decode b_Mo_perform 254 = .ok (.goto (9), 3) := by decide +kernel
theorem d_Mo_perform_257 : decode b_Mo_perform 257 = .ok (.aload_n 0, 1) := by decide +kernel
theorem d_Mo_perform_258 : decode b_Mo_perform 258 = .ok (.getfield 68, 3) := by decide +kernel
theorem d_Mo_perform_261 : decode b_Mo_perform 261 = .ok (.iload_n 1, 1) := by decide +kernel
theorem d_Mo_perform_262 : decode b_Mo_perform 262 = .ok (.iaload, 1) := by decide +kernel
theorem d_Mo_perform_263 : decode b_Mo_perform 263 = .ok (.iastore, 1) := by decide +kernel
theorem d_Mo_perform_264 : decode b_Mo_perform 264 = .ok (.goto (127), 3) := by decide +kernel
theorem d_Mo_perform_267 : decode b_Mo_perform 267 = .ok (.aload_n 0, 1) := by decide +kernel
theorem d_Mo_perform_268 : decode b_Mo_perform 268 = .ok (.iload_n 1, 1) := by decide +kernel
theorem d_Mo_perform_269 : decode b_Mo_perform 269 = .ok (.iload_n 2, 1) := by decide +kernel
theorem d_Mo_perform_270 : decode b_Mo_perform 270 = .ok (.aload_n 0, 1) := by decide +kernel
theorem d_Mo_perform_271 : decode b_Mo_perform 271 = .ok (.iload_n 1, 1) := by decide +kernel
theorem d_Mo_perform_272 : decode b_Mo_perform 272 = .ok (.invokevirtual 223, 3) := by decide +kernel
theorem d_Mo_perform_275 : decode b_Mo_perform 275 = .ok (.l2i, 1) := by decide +kernel
theorem d_Mo_perform_276 : decode b_Mo_perform 276 = .ok (.invokevirtual 239, 3) := by decide +kernel
theorem d_Mo_perform_279 : decode b_Mo_perform 279 = .ok (.goto (112), 3) := by decide +kernel
theorem d_Mo_perform_282 : decode b_Mo_perform 282 = .ok (.aload_n 0, 1) := by decide +kernel
theorem d_Mo_perform_283 : decode b_Mo_perform 283 = .ok (.getfield 80, 3) := by decide +kernel
theorem d_Mo_perform_286 : decode b_Mo_perform 286 = .ok (.iload_n 1, 1) := by decide +kernel
theorem d_Mo_perform_287 : decode b_Mo_perform 287 = .ok (.aload_n 0, 1) := by decide +kernel
theorem d_Mo_perform_288 : decode b_Mo_perform 288 = .ok (.iload_n 1, 1) := by decide +kernel
theorem d_Mo_perform_289 : decode b_Mo_perform 289 = .ok (.invokevirtual 223, 3) := by decide +kernel
theorem d_Mo_perform_292 : decode b_Mo_perform 292 = .ok (.l2i, 1) := by decide +kernel
theorem d_Mo_perform_293 : decode b_Mo_perform 293 = .ok (.iastore, 1) := by decide +kernel
theorem d_Mo_perform_294 : decode b_Mo_perform 294 = .ok (.aload_n 0, 1) := by decide +kernel
theorem d_Mo_perform_295 : decode b_Mo_perform 295 = .ok (.getfield 80, 3) := by decide +kernel
theorem d_Mo_perform_298 : decode b_Mo_perform 298 = .ok (.iload_n 1, 1) := by decide +kernel
theorem d_Mo_perform_299 : decode b_Mo_perform 299 = .ok (.iload_n 2, 1) := by decide +kernel
theorem d_Mo_perform_300 : decode b_Mo_perform 300 = .ok (.ifCond .ge (7), 3) := by decide +kernel
theorem d_Mo_perform_303 : decode b_Mo_perform 303 = .ok (.iconst (0), 1) := by decide +kernel
theorem d_Mo_perform_304 : decode b_Mo_perform 304 = .ok (.goto (9), 3) := by decide +kernel
theorem d_Mo_perform_307 : decode b_Mo_perform 307 = .ok (.aload_n 0, 1) := by decide +kernel
theorem d_Mo_perform_308 : decode b_Mo_perform 308 = .ok (.getfield 80, 3) := by decide +kernel
theorem d_Mo_perform_311 : decode b_Mo_perform 311 = .ok (.iload_n 1, 1) := by decide +kernel
theorem d_Mo_perform_312 : decode b_Mo_perform 312 = .ok (.iaload, 1) := by decide +kernel
theorem d_Mo_perform_313 : decode b_Mo_perform 313 = .ok (.iastore, 1) := by decide +kernel
theorem d_Mo_perform_314 : decode b_Mo_perform 314 = .ok (.goto (77), 3) := by decide +kernel
theorem d_Mo_perform_317 : decode b_Mo_perform 317 = .ok (.aload_n 0, 1) := by decide +kernel
theorem d_Mo_perform_318 : decode b_Mo_perform 318 = .ok (.iload_n 1, 1) := by decide +kernel
theorem d_Mo_perform_319 : decode b_Mo_perform 319 = .ok (.invokevirtual 242, 3) := by decide +kernel
theorem d_Mo_perform_322 : decode b_Mo_perform 322 = .ok (.goto (69), 3) := by decide +kernel
theorem d_Mo_perform_325 : decode b_Mo_perform 325 = .ok (.aload_n 0, 1) := by decide +kernel
theorem d_Mo_perform_326 : decode b_Mo_perform 326 = .ok (.iload_n 1, 1) := by decide +kernel
theorem d_Mo_perform_327 : decode b_Mo_perform 327 = .ok (.aload_n 0, 1) := by decide +kernel
theorem d_Mo_perform_328 : decode b_Mo_perform 328 = .ok (.getfield 96, 3) := by decide +kernel
theorem d_Mo_perform_331 : decode b_Mo_perform 331 = .ok (.bipush (9), 2) := by decide +kernel
theorem d_Mo_perform_333 : decode b_Mo_perform 333 = .ok (.iload_n 1, 1) := by decide +kernel
theorem d_Mo_perform_334 : decode b_Mo_perform 334 = .ok (.imul, 1) := by decide +kernel
theorem d_Mo_perform_335 : decode b_Mo_perform 335 = .ok (.aload_n 0, 1) := by decide +kernel
theorem d_Mo_perform_336 : decode b_Mo_perform 336 = .ok (.iload_n 1, 1) := by decide +kernel
theorem d_Mo_perform_337 : decode b_Mo_perform 337 = .ok (.invokevirtual 223, 3) := by decide +kernel
theorem d_Mo_perform_340 : decode b_Mo_perform 340 = .ok (.invokestatic 152, 3) := by decide +kernel
theorem d_Mo_perform_343 : decode b_Mo_perform 343 = .ok (.iadd, 1) := by decide +kernel
theorem d_Mo_perform_344 : decode b_Mo_perform 344 = .ok (.laload, 1) := by decide +kernel
theorem d_Mo_perform_345 : decode b_Mo_perform 345 = .ok (.invokevirtual 201, 3) := by decide +kernel
theorem d_Mo_perform_348 : decode b_Mo_perform 348 = .ok (.goto (43), 3) := by decide +kernel
theorem d_Mo_perform_351 : decode b_Mo_perform 351 = .ok (.aload_n 0, 1) := by decide +kernel
theorem d_Mo_perform_352 : decode b_Mo_perform 352 = .ok (.iload_n 1, 1) := by decide +kernel
theorem d_Mo_perform_353 : decode b_Mo_perform 353 = .ok (.aload_n 0, 1) := by decide +kernel
theorem d_Mo_perform_354 : decode b_Mo_perform 354 = .ok (.getfield 99, 3) := by decide +kernel
theorem d_Mo_perform_357 : decode b_Mo_perform 357 = .ok (.bipush (9), 2) := by decide +kernel
theorem d_Mo_perform_359 : decode b_Mo_perform 359 = .ok (.iload_n 1, 1) := by decide +kernel
theorem d_Mo_perform_360 : decode b_Mo_perform 360 = .ok (.imul, 1) := by decide +kernel
theorem d_Mo_perform_361 : decode b_Mo_perform 361 = .ok (.aload_n 0, 1) := by decide +kernel
theorem d_Mo_perform_362 : decode b_Mo_perform 362 = .ok (.iload_n 1, 1) := by decide +kernel
theorem d_Mo_perform_363 : decode b_Mo_perform 363 = .ok (.invokevirtual 223, 3) := by decide +kernel
theorem d_Mo_perform_366 : decode b_Mo_perform 366 = .ok (.invokestatic 152, 3) := by decide +kernel
theorem d_Mo_perform_369 : decode b_Mo_perform 369 = .ok (.iadd, 1) := by decide +kernel
theorem d_Mo_perform_370 : decode b_Mo_perform 370 = .ok (.laload, 1) := by decide +kernel
theorem d_Mo_perform_371 : decode b_Mo_perform 371 = .ok (.invokevirtual 201, 3) := by decide +kernel
theorem d_Mo_perform_374 : decode b_Mo_perform 374 = .ok (.goto (17), 3) := by decide +kernel
theorem d_Mo_perform_377 : decode b_Mo_perform 377 = .ok (.aload_n 0, 1) := by decide +kernel
theorem d_Mo_perform_378 : decode b_Mo_perform 378 = .ok (.iload_n 1, 1) := by decide +kernel
theorem d_Mo_perform_379 : decode b_Mo_perform 379 = .ok (.iload_n 3, 1) := by decide +kernel
theorem d_Mo_perform_380 : decode b_Mo_perform 380 = .ok (.invokevirtual 245, 3) := by decide +kernel
theorem d_Mo_perform_383 : decode b_Mo_perform 383 = .ok (.goto (8), 3) := by decide +kernel
theorem d_Mo_perform_386 : decode b_Mo_perform 386 = .ok (.aload_n 0, 1) := by decide +kernel
theorem d_Mo_perform_387 : decode b_Mo_perform 387 = .ok (.iload_n 1, 1) := by decide +kernel
theorem d_Mo_perform_388 : decode b_Mo_perform 388 = .ok (.invokevirtual 248, 3) := by decide +kernel
theorem d_Mo_perform_391 : decode b_Mo_perform 391 = .ok (.return_, 1) := by decide +kernel
theorem d_Mo_work_0 : decode b_Mo_work 0 = .ok (.aload_n 0, 1) := by decide +kernel
theorem d_Mo_work_1 : decode b_Mo_work 1 = .ok (.getfield 71, 3) := by decide +kernel
theorem d_Mo_work_4 : decode b_Mo_work 4 = .ok (.iload_n 1, 1) := by decide +kernel
theorem d_Mo_work_5 : decode b_Mo_work 5 = .ok (.dup2, 1) := by decide +kernel
theorem d_Mo_work_6 : decode b_Mo_work 6 = .ok (.iaload, 1) := by decide +kernel
theorem d_Mo_work_7 : decode b_Mo_work 7 = .ok (.iconst (1), 1) := by decide +kernel
theorem d_Mo_work_8 : decode b_Mo_work 8 = .ok (.isub, 1) := by decide +kernel
theorem d_Mo_work_9 : decode b_Mo_work 9 = .ok (.iastore, 1) := by decide +kernel
theorem d_Mo_work_10 : decode b_Mo_work 10 = .ok (.aload_n 0, 1) := by decide +kernel
theorem d_Mo_work_11 : decode b_Mo_work 11 = .ok (.iconst (0), 1) := by decide +kernel
theorem d_Mo_work_12 : decode b_Mo_work 12 = .ok (.putfield 227, 3) := by decide +kernel
theorem d_Mo_work_15 : decode b_Mo_work 15 = .ok (.aload_n 0, 1) := by decide +kernel
theorem d_Mo_work_16 : decode b_Mo_work 16 = .ok (.getfield 13, 3) := by decide +kernel
theorem d_Mo_work_19 : decode b_Mo_work 19 = .ok (.aload_n 0, 1) := by decide +kernel
theorem d_Mo_work_20 : decode b_Mo_work 20 = .ok (.getfield 65, 3) := by decide +kernel
theorem d_Mo_work_23 : decode b_Mo_work 23 = .ok (.iload_n 1, 1) := by decide +kernel
theorem d_Mo_work_24 : decode b_Mo_work 24 = .ok (.iaload, 1) := by decide +kernel
theorem d_Mo_work_25 : decode b_Mo_work 25 = .ok (.iaload, 1) := by decide +kernel
theorem d_Mo_work_26 : decode b_Mo_work 26 = .ok (.istore_n 3, 1) := by decide +kernel
theorem d_Mo_work_27 : decode b_Mo_work 27 = .ok (.bipush (48), 2) := by decide +kernel
theorem d_Mo_work_29 : decode b_Mo_work 29 = .ok (.aload_n 0, 1) := by decide +kernel
theorem d_Mo_work_30 : decode b_Mo_work 30 = .ok (.getfield 65, 3) := by decide +kernel
theorem d_Mo_work_33 : decode b_Mo_work 33 = .ok (.iload_n 1, 1) := by decide +kernel
theorem d_Mo_work_34 : decode b_Mo_work 34 = .ok (.iaload, 1) := by decide +kernel
theorem d_Mo_work_35 : decode b_Mo_work 35 = .ok (.imul, 1) := by decide +kernel
theorem d_Mo_work_36 : decode b_Mo_work 36 = .ok (.istore 4, 2) := by decide +kernel
theorem d_Mo_work_38 : decode b_Mo_work 38 = .ok (.aload_n 0, 1) := by decide +kernel
theorem d_Mo_work_39 : decode b_Mo_work 39 = .ok (.getfield 68, 3) := by decide +kernel
theorem d_Mo_work_42 : decode b_Mo_work 42 = .ok (.iload_n 1, 1) := by decide +kernel
theorem d_Mo_work_43 : decode b_Mo_work 43 = .ok (.iaload, 1) := by decide +kernel
theorem d_Mo_work_44 : decode b_Mo_work 44 = .ok (.istore 5, 2) := by decide +kernel
theorem d_Mo_work_46 : decode b_Mo_work 46 = .ok (.iload 5, 2) := by decide +kernel
theorem d_Mo_work_48 : decode b_Mo_work 48 = .ok (.iload_n 3, 1) := by decide +kernel
theorem d_Mo_work_49 : decode b_Mo_work 49 = .ok (.if_icmp .ge (16), 3) := by decide +kernel
theorem d_Mo_work_52 : decode b_Mo_work 52 = .ok (.aload_n 0, 1) := by decide +kernel
theorem d_Mo_work_53 : decode b_Mo_work 53 = .ok (.getfield 7, 3) := by decide +kernel
theorem d_Mo_work_56 : decode b_Mo_work 56 = .ok (.iload 4, 2) := by decide +kernel
theorem d_Mo_work_58 : decode b_Mo_work 58 = .ok (.iload 5, 2) := by decide +kernel
theorem d_Mo_work_60 : decode b_Mo_work 60 = .ok (.iadd, 1) := by decide +kernel
theorem d_Mo_work_61 : decode b_Mo_work 61 = .ok (.iaload, 1) := by decide +kernel
theorem d_Mo_work_62 : decode b_Mo_work 62 = .ok (.goto (6), 3) := by decide +kernel
theorem d_Mo_work_65 : decode b_Mo_work 65 = .ok (.sipush (255), 3) := by decide +kernel
theorem d_Mo_work_68 : decode b_Mo_work 68 = .ok (.istore 6, 2) := by decide +kernel
theorem d_Mo_work_70 : decode b_Mo_work 70 = .ok (.iload 6, 2) := by decide +kernel
theorem d_Mo_work_72 : decode b_Mo_work 72 = .ok (.invokestatic 251, 3) := by decide +kernel
theorem d_Mo_work_75 : decode b_Mo_work 75 = .ok (.ifCond .eq (10), 3) := by decide +kernel
theorem d_Mo_work_78 : decode b_Mo_work 78 = .ok (.iload 5, 2) := by decide +kernel
theorem d_Mo_work_80 : decode b_Mo_work 80 = .ok (.iconst (2), 1) := by decide +kernel
theorem d_Mo_work_81 : decode b_Mo_work 81 = .ok (.iadd, 1) := by decide +kernel
theorem d_Mo_work_82 : decode b_Mo_work 82 = .ok (.goto (7), 3) := by decide +kernel
theorem d_Mo_work_85 : decode b_Mo_work 85 = .ok (.iload 5, 2) := by decide +kernel
theorem d_Mo_work_87 : decode b_Mo_work 87 = .ok (.iconst (1), 1) := by decide +kernel
theorem d_Mo_work_88 : decode b_Mo_work 88 = .ok (.iadd, 1) := by decide +kernel
theorem d_Mo_work_89 : decode b_Mo_work 89 = .ok (.istore 7, 2) := by decide +kernel
theorem d_Mo_work_91 : decode b_Mo_work 91 = .ok (.iload 6, 2) := by decide +kernel
theorem d_Mo_work_93 : decode b_Mo_work 93 = .ok (.bipush (19), 2) := by decide +kernel
theorem d_Mo_work_95 : decode b_Mo_work 95 = .ok (.if_icmp .gt (9), 3) := by decide +kernel
theorem d_Mo_work_98 : decode b_Mo_work 98 = .ok (.iload 7, 2) := by decide +kernel
theorem d_Mo_work_100 : decode b_Mo_work 100 = .ok (.iload_n 3, 1) := by decide +kernel
theorem d_Mo_work_101 : decode b_Mo_work 101 = .ok (.if_icmp .le (5), 3) := by decide +kernel
theorem d_Mo_work_104 : decode b_Mo_work 104 = .ok (.iconst (0), 1) := by decide +kernel
theorem d_Mo_work_105 : decode b_Mo_work 105 = .ok (.ireturn, 1) := by decide +kernel
theorem d_Mo_work_106 : decode b_Mo_work 106 = .ok (.iload 6, 2) := by decide +kernel
theorem d_Mo_work_108 : decode b_Mo_work 108 = .ok (.invokestatic 251, 3) := by decide +kernel
theorem d_Mo_work_111 : decode b_Mo_work 111 = .ok (.ifCond .eq (18), 3) := by decide +kernel
theorem d_Mo_work_114 : decode b_Mo_work 114 = .ok (.aload_n 0, 1) := by decide +kernel
theorem d_Mo_work_115 : decode b_Mo_work 115 = .ok (.getfield 7, 3) := by decide +kernel
theorem d_Mo_work_118 : decode b_Mo_work 118 = .ok (.iload 4, 2) := by decide +kernel
theorem d_Mo_work_120 : decode b_Mo_work 120 = .ok (.iload 5, 2) := by decide +kernel
theorem d_Mo_work_122 : decode b_Mo_work 122 = .ok (.iadd, 1) := by decide +kernel
theorem d_Mo_work_123 : decode b_Mo_work 123 = .ok (.iconst (1), 1) := by decide +kernel
theorem d_Mo_work_124 : decode b_Mo_work 124 = .ok (.iadd, 1) := by decide +kernel
theorem d_Mo_work_125 : decode b_Mo_work 125 = .ok (.iaload, 1) := by decide +kernel
theorem d_Mo_work_126 : decode b_Mo_work 126 = .ok (.goto (4), 3) := by decide +kernel
theorem d_Mo_work_129 : decode b_Mo_work 129 = .ok (.iconst (0), 1) := by decide +kernel
theorem d_Mo_work_130 : decode b_Mo_work 130 = .ok (.istore 8, 2) := by decide +kernel
theorem d_Mo_work_132 : decode b_Mo_work 132 = .ok (.aload_n 0, 1) := by decide +kernel
theorem d_Mo_work_133 : decode b_Mo_work 133 = .ok (.iload_n 1, 1) := by decide +kernel
theorem d_Mo_work_134 : decode b_Mo_work 134 = .ok (.iload 6, 2) := by decide +kernel
theorem d_Mo_work_136 : decode b_Mo_work 136 = .ok (.iload 8, 2) := by decide +kernel
theorem d_Mo_work_138 : decode b_Mo_work 138 = .ok (.invokevirtual 255, 3) := by decide +kernel
theorem d_Mo_work_141 : decode b_Mo_work 141 = .ok (.ifCond .ne (5), 3) := by decide +kernel
theorem d_Mo_work_144 : decode b_Mo_work 144 = .ok (.iconst (0), 1) := by decide +kernel
theorem d_Mo_work_145 : decode b_Mo_work 145 = .ok (.ireturn, 1) := by decide +kernel
theorem d_Mo_work_146 : decode b_Mo_work 146 = .ok (.aload_n 0, 1) := by decide +kernel
theorem d_Mo_work_147 : decode b_Mo_work 147 = .ok (.getfield 68, 3) := by decide +kernel
theorem d_Mo_work_150 : decode b_Mo_work 150 = .ok (.iload_n 1, 1) := by decide +kernel
theorem d_Mo_work_151 : decode b_Mo_work 151 = .ok (.iload 7, 2) := by decide +kernel
theorem d_Mo_work_153 : decode b_Mo_work 153 = .ok (.iastore, 1) := by decide +kernel
theorem d_Mo_work_154 : decode b_Mo_work 154 = .ok (.aload_n 0, 1) := by decide +kernel
theorem d_Mo_work_155 : decode b_Mo_work 155 = .ok (.iload_n 1, 1) := by decide +kernel
theorem d_Mo_work_156 : decode b_Mo_work 156 = .ok (.iload_n 2, 1) := by decide +kernel
theorem d_Mo_work_157 : decode b_Mo_work 157 = .ok (.iload 6, 2) := by decide +kernel
theorem d_Mo_work_159 : decode b_Mo_work 159 = .ok (.iload 8, 2) := by decide +kernel
theorem d_Mo_work_161 : decode b_Mo_work 161 = .ok (.invokevirtual 258, 3) := by decide +kernel
theorem d_Mo_work_164 : decode b_Mo_work 164 = .ok (.iconst (1), 1) := by decide +kernel
theorem d_Mo_work_165 : decode b_Mo_work 165 = .ok (.ireturn, 1) := by decide +kernel
