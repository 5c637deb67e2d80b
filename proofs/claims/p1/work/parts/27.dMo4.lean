theorem d_Mo_unpack_0 : decode b_Mo_unpack 0 = .ok (.aload_n 0, 1) := by decide +kernel
theorem d_Mo_unpack_1 : decode b_Mo_unpack 1 = .ok (.sipush (128), 3) := by decide +kernel
theorem d_Mo_unpack_4 : decode b_Mo_unpack 4 = .ok (.iload_n 1, 1) := by decide +kernel
theorem d_Mo_unpack_5 : decode b_Mo_unpack 5 = .ok (.imul, 1) := by decide +kernel
theorem d_Mo_unpack_6 : decode b_Mo_unpack 6 = .ok (.iconst (1), 1) := by decide +kernel
theorem d_Mo_unpack_7 : decode b_Mo_unpack 7 = .ok (.iadd, 1) := by decide +kernel
theorem d_Mo_unpack_8 : decode b_Mo_unpack 8 = .ok (.putfield 272, 3) := by decide +kernel
theorem d_Mo_unpack_11 : decode b_Mo_unpack 11 = .ok (.aload_n 0, 1) := by decide +kernel
theorem d_Mo_unpack_12 : decode b_Mo_unpack 12 = .ok (.getfield 65, 3) := by decide +kernel
theorem d_Mo_unpack_15 : decode b_Mo_unpack 15 = .ok (.iload_n 2, 1) := by decide +kernel
theorem d_Mo_unpack_16 : decode b_Mo_unpack 16 = .ok (.aload_n 0, 1) := by decide +kernel
theorem d_Mo_unpack_17 : decode b_Mo_unpack 17 = .ok (.invokevirtual 294, 3) := by decide +kernel
theorem d_Mo_unpack_20 : decode b_Mo_unpack 20 = .ok (.iastore, 1) := by decide +kernel
theorem d_Mo_unpack_21 : decode b_Mo_unpack 21 = .ok (.aload_n 0, 1) := by decide +kernel
theorem d_Mo_unpack_22 : decode b_Mo_unpack 22 = .ok (.getfield 68, 3) := by decide +kernel
theorem d_Mo_unpack_25 : decode b_Mo_unpack 25 = .ok (.iload_n 2, 1) := by decide +kernel
theorem d_Mo_unpack_26 : decode b_Mo_unpack 26 = .ok (.aload_n 0, 1) := by decide +kernel
theorem d_Mo_unpack_27 : decode b_Mo_unpack 27 = .ok (.invokevirtual 294, 3) := by decide +kernel
theorem d_Mo_unpack_30 : decode b_Mo_unpack 30 = .ok (.iastore, 1) := by decide +kernel
theorem d_Mo_unpack_31 : decode b_Mo_unpack 31 = .ok (.aload_n 0, 1) := by decide +kernel
theorem d_Mo_unpack_32 : decode b_Mo_unpack 32 = .ok (.getfield 74, 3) := by decide +kernel
theorem d_Mo_unpack_35 : decode b_Mo_unpack 35 = .ok (.iload_n 2, 1) := by decide +kernel
theorem d_Mo_unpack_36 : decode b_Mo_unpack 36 = .ok (.aload_n 0, 1) := by decide +kernel
theorem d_Mo_unpack_37 : decode b_Mo_unpack 37 = .ok (.invokevirtual 294, 3) := by decide +kernel
theorem d_Mo_unpack_40 : decode b_Mo_unpack 40 = .ok (.iastore, 1) := by decide +kernel
theorem d_Mo_unpack_41 : decode b_Mo_unpack 41 = .ok (.aload_n 0, 1) := by decide +kernel
theorem d_Mo_unpack_42 : decode b_Mo_unpack 42 = .ok (.getfield 77, 3) := by decide +kernel
theorem d_Mo_unpack_45 : decode b_Mo_unpack 45 = .ok (.iload_n 2, 1) := by decide +kernel
theorem d_Mo_unpack_46 : decode b_Mo_unpack 46 = .ok (.aload_n 0, 1) := by decide +kernel
theorem d_Mo_unpack_47 : decode b_Mo_unpack 47 = .ok (.invokevirtual 294, 3) := by decide +kernel
theorem d_Mo_unpack_50 : decode b_Mo_unpack 50 = .ok (.iastore, 1) := by decide +kernel
theorem d_Mo_unpack_51 : decode b_Mo_unpack 51 = .ok (.aload_n 0, 1) := by decide +kernel
theorem d_Mo_unpack_52 : decode b_Mo_unpack 52 = .ok (.getfield 80, 3) := by decide +kernel
theorem d_Mo_unpack_55 : decode b_Mo_unpack 55 = .ok (.iload_n 2, 1) := by decide +kernel
theorem d_Mo_unpack_56 : decode b_Mo_unpack 56 = .ok (.aload_n 0, 1) := by decide +kernel
theorem d_Mo_unpack_57 : decode b_Mo_unpack 57 = .ok (.invokevirtual 294, 3) := by decide +kernel
theorem d_Mo_unpack_60 : decode b_Mo_unpack 60 = .ok (.iastore, 1) := by decide +kernel
theorem d_Mo_unpack_61 : decode b_Mo_unpack 61 = .ok (.aload_n 0, 1) := by decide +kernel
theorem d_Mo_unpack_62 : decode b_Mo_unpack 62 = .ok (.getfield 83, 3) := by decide +kernel
theorem d_Mo_unpack_65 : decode b_Mo_unpack 65 = .ok (.iload_n 2, 1) := by decide +kernel
theorem d_Mo_unpack_66 : decode b_Mo_unpack 66 = .ok (.aload_n 0, 1) := by decide +kernel
theorem d_Mo_unpack_67 : decode b_Mo_unpack 67 = .ok (.invokevirtual 294, 3) := by decide +kernel
theorem d_Mo_unpack_70 : decode b_Mo_unpack 70 = .ok (.iconst (1), 1) := by decide +kernel
theorem d_Mo_unpack_71 : decode b_Mo_unpack 71 = .ok (.if_icmp .ne (7), 3) := by decide +kernel
theorem d_Mo_unpack_74 : decode b_Mo_unpack 74 = .ok (.iconst (1), 1) := by decide +kernel
theorem d_Mo_unpack_75 : decode b_Mo_unpack 75 = .ok (.goto (4), 3) := by decide +kernel
theorem d_Mo_unpack_78 : decode b_Mo_unpack 78 = .ok (.iconst (0), 1) := by decide +kernel
theorem d_Mo_unpack_79 : decode b_Mo_unpack 79 = .ok (.bastore, 1) := by decide +kernel
theorem d_Mo_unpack_80 : decode b_Mo_unpack 80 = .ok (.aload_n 0, 1) := by decide +kernel
theorem d_Mo_unpack_81 : decode b_Mo_unpack 81 = .ok (.invokevirtual 294, 3) := by decide +kernel
theorem d_Mo_unpack_84 : decode b_Mo_unpack 84 = .ok (.istore_n 3, 1) := by decide +kernel
theorem d_Mo_unpack_85 : decode b_Mo_unpack 85 = .ok (.aload_n 0, 1) := by decide +kernel
theorem d_Mo_unpack_86 : decode b_Mo_unpack 86 = .ok (.getfield 71, 3) := by decide +kernel
theorem d_Mo_unpack_89 : decode b_Mo_unpack 89 = .ok (.iload_n 2, 1) := by decide +kernel
theorem d_Mo_unpack_90 : decode b_Mo_unpack 90 = .ok (.sipush (256), 3) := by decide +kernel
theorem d_Mo_unpack_93 : decode b_Mo_unpack 93 = .ok (.iload_n 3, 1) := by decide +kernel
theorem d_Mo_unpack_94 : decode b_Mo_unpack 94 = .ok (.imul, 1) := by decide +kernel
theorem d_Mo_unpack_95 : decode b_Mo_unpack 95 = .ok (.aload_n 0, 1) := by decide +kernel
theorem d_Mo_unpack_96 : decode b_Mo_unpack 96 = .ok (.invokevirtual 294, 3) := by decide +kernel
theorem d_Mo_unpack_99 : decode b_Mo_unpack 99 = .ok (.iadd, 1) := by decide +kernel
theorem d_Mo_unpack_100 : decode b_Mo_unpack 100 = .ok (.iastore, 1) := by decide +kernel
theorem d_Mo_unpack_101 : decode b_Mo_unpack 101 = .ok (.aload_n 0, 1) := by decide +kernel
theorem d_Mo_unpack_102 : decode b_Mo_unpack 102 = .ok (.getfield 86, 3) := by decide +kernel
theorem d_Mo_unpack_105 : decode b_Mo_unpack 105 = .ok (.iload_n 2, 1) := by decide +kernel
theorem d_Mo_unpack_106 : decode b_Mo_unpack 106 = .ok (.aload_n 0, 1) := by decide +kernel
theorem d_Mo_unpack_107 : decode b_Mo_unpack 107 = .ok (.invokevirtual 294, 3) := by decide +kernel
theorem d_Mo_unpack_110 : decode b_Mo_unpack 110 = .ok (.iastore, 1) := by decide +kernel
theorem d_Mo_unpack_111 : decode b_Mo_unpack 111 = .ok (.iconst (0), 1) := by decide +kernel
theorem d_Mo_unpack_112 : decode b_Mo_unpack 112 = .ok (.istore 4, 2) := by decide +kernel
theorem d_Mo_unpack_114 : decode b_Mo_unpack 114 = .ok (.iload 4, 2) := by decide +kernel
theorem d_Mo_unpack_116 : decode b_Mo_unpack 116 = .ok (.aload_n 0, 1) := by decide +kernel
theorem d_Mo_unpack_117 : decode b_Mo_unpack 117 = .ok (.getfield 86, 3) := by decide +kernel
theorem d_Mo_unpack_120 : decode b_Mo_unpack 120 = .ok (.iload_n 2, 1) := by decide +kernel
theorem d_Mo_unpack_121 : decode b_Mo_unpack 121 = .ok (.iaload, 1) := by decide +kernel
theorem d_Mo_unpack_122 : decode b_Mo_unpack 122 = .ok (.if_icmp .ge (25), 3) := by decide +kernel
theorem d_Mo_unpack_125 : decode b_Mo_unpack 125 = .ok (.aload_n 0, 1) := by decide +kernel
theorem d_Mo_unpack_126 : decode b_Mo_unpack 126 = .ok (.getfield 89, 3) := by decide +kernel
theorem d_Mo_unpack_129 : decode b_Mo_unpack 129 = .ok (.bipush (6), 2) := by decide +kernel
theorem d_Mo_unpack_131 : decode b_Mo_unpack 131 = .ok (.iload_n 2, 1) := by decide +kernel
theorem d_Mo_unpack_132 : decode b_Mo_unpack 132 = .ok (.imul, 1) := by decide +kernel
theorem d_Mo_unpack_133 : decode b_Mo_unpack 133 = .ok (.iload 4, 2) := by decide +kernel
theorem d_Mo_unpack_135 : decode b_Mo_unpack 135 = .ok (.iadd, 1) := by decide +kernel
theorem d_Mo_unpack_136 : decode b_Mo_unpack 136 = .ok (.aload_n 0, 1) := by decide +kernel
theorem d_Mo_unpack_137 : decode b_Mo_unpack 137 = .ok (.invokevirtual 298, 3) := by decide +kernel
theorem d_Mo_unpack_140 : decode b_Mo_unpack 140 = .ok (.lastore, 1) := by decide +kernel
theorem d_Mo_unpack_141 : decode b_Mo_unpack 141 = .ok (.iinc 4 (1), 3) := by decide +kernel
theorem d_Mo_unpack_144 : decode b_Mo_unpack 144 = .ok (.goto (-30), 3) := by decide +kernel
theorem d_Mo_unpack_147 : decode b_Mo_unpack 147 = .ok (.aload_n 0, 1) := by decide +kernel
theorem d_Mo_unpack_148 : decode b_Mo_unpack 148 = .ok (.getfield 93, 3) := by decide +kernel
theorem d_Mo_unpack_151 : decode b_Mo_unpack 151 = .ok (.iload_n 2, 1) := by decide +kernel
theorem d_Mo_unpack_152 : decode b_Mo_unpack 152 = .ok (.aload_n 0, 1) := by decide +kernel
theorem d_Mo_unpack_153 : decode b_Mo_unpack 153 = .ok (.invokevirtual 294, 3) := by decide +kernel
theorem d_Mo_unpack_156 : decode b_Mo_unpack 156 = .ok (.iastore, 1) := by decide +kernel
theorem d_Mo_unpack_157 : decode b_Mo_unpack 157 = .ok (.iconst (0), 1) := by decide +kernel
theorem d_Mo_unpack_158 : decode b_Mo_unpack 158 = .ok (.istore 4, 2) := by decide +kernel
theorem d_Mo_unpack_160 : decode b_Mo_unpack 160 = .ok (.iload 4, 2) := by decide +kernel
theorem d_Mo_unpack_162 : decode b_Mo_unpack 162 = .ok (.aload_n 0, 1) := by decide +kernel
theorem d_Mo_unpack_163 : decode b_Mo_unpack 163 = .ok (.getfield 93, 3) := by decide +kernel
theorem d_Mo_unpack_166 : decode b_Mo_unpack 166 = .ok (.iload_n 2, 1) := by decide +kernel
theorem d_Mo_unpack_167 : decode b_Mo_unpack 167 = .ok (.iaload, 1) := by decide +kernel
theorem d_Mo_unpack_168 : decode b_Mo_unpack 168 = .ok (.if_icmp .ge (41), 3) := by decide +kernel
theorem d_Mo_unpack_171 : decode b_Mo_unpack 171 = .ok (.aload_n 0, 1) := by decide +kernel
theorem d_Mo_unpack_172 : decode b_Mo_unpack 172 = .ok (.getfield 96, 3) := by decide +kernel
theorem d_Mo_unpack_175 : decode b_Mo_unpack 175 = .ok (.bipush (9), 2) := by decide +kernel
theorem d_Mo_unpack_177 : decode b_Mo_unpack 177 = .ok (.iload_n 2, 1) := by decide +kernel
theorem d_Mo_unpack_178 : decode b_Mo_unpack 178 = .ok (.imul, 1) := by decide +kernel
theorem d_Mo_unpack_179 : decode b_Mo_unpack 179 = .ok (.iload 4, 2) := by decide +kernel
theorem d_Mo_unpack_181 : decode b_Mo_unpack 181 = .ok (.iadd, 1) := by decide +kernel
theorem d_Mo_unpack_182 : decode b_Mo_unpack 182 = .ok (.aload_n 0, 1) := by decide +kernel
theorem d_Mo_unpack_183 : decode b_Mo_unpack 183 = .ok (.invokevirtual 298, 3) := by decide +kernel
theorem d_Mo_unpack_186 : decode b_Mo_unpack 186 = .ok (.lastore, 1) := by decide +kernel
theorem d_Mo_unpack_187 : decode b_Mo_unpack 187 = .ok (.aload_n 0, 1) := by decide +kernel
theorem d_Mo_unpack_188 : decode b_Mo_unpack 188 = .ok (.getfield 99, 3) := by decide +kernel
theorem d_Mo_unpack_191 : decode b_Mo_unpack 191 = .ok (.bipush (9), 2) := by decide +kernel
theorem d_Mo_unpack_193 : decode b_Mo_unpack 193 = .ok (.iload_n 2, 1) := by decide +kernel
theorem d_Mo_unpack_194 : decode b_Mo_unpack 194 = .ok (.imul, 1) := by decide +kernel
theorem d_Mo_unpack_195 : decode b_Mo_unpack 195 = .ok (.iload 4, 2) := by decide +kernel
theorem d_Mo_unpack_197 : decode b_Mo_unpack 197 = .ok (.iadd, 1) := by decide +kernel
theorem d_Mo_unpack_198 : decode b_Mo_unpack 198 = .ok (.aload_n 0, 1) := by decide +kernel
theorem d_Mo_unpack_199 : decode b_Mo_unpack 199 = .ok (.invokevirtual 298, 3) := by decide +kernel
theorem d_Mo_unpack_202 : decode b_Mo_unpack 202 = .ok (.lastore, 1) := by decide +kernel
theorem d_Mo_unpack_203 : decode b_Mo_unpack 203 = .ok (.iinc 4 (1), 3) := by decide +kernel
theorem d_Mo_unpack_206 : decode b_Mo_unpack 206 = .ok (.goto (-46), 3) := by decide +kernel
theorem d_Mo_unpack_209 : decode b_Mo_unpack 209 = .ok (.return_, 1) := by decide +kernel
theorem d_Mo_deliver_0 : decode b_Mo_deliver 0 = .ok (.aload_n 0, 1) := by decide +kernel
theorem d_Mo_deliver_1 : decode b_Mo_deliver 1 = .ok (.getfield 126, 3) := by decide +kernel
theorem d_Mo_deliver_4 : decode b_Mo_deliver 4 = .ok (.bipush (20), 2) := by decide +kernel
theorem d_Mo_deliver_6 : decode b_Mo_deliver 6 = .ok (.iaload, 1) := by decide +kernel
theorem d_Mo_deliver_7 : decode b_Mo_deliver 7 = .ok (.istore_n 1, 1) := by decide +kernel
theorem d_Mo_deliver_8 : decode b_Mo_deliver 8 = .ok (.aload_n 0, 1) := by decide +kernel
theorem d_Mo_deliver_9 : decode b_Mo_deliver 9 = .ok (.getfield 117, 3) := by decide +kernel
theorem d_Mo_deliver_12 : decode b_Mo_deliver 12 = .ok (.bipush (20), 2) := by decide +kernel
theorem d_Mo_deliver_14 : decode b_Mo_deliver 14 = .ok (.iaload, 1) := by decide +kernel
theorem d_Mo_deliver_15 : decode b_Mo_deliver 15 = .ok (.istore_n 2, 1) := by decide +kernel
theorem d_Mo_deliver_16 : decode b_Mo_deliver 16 = .ok (.bipush (24), 2) := by decide +kernel
theorem d_Mo_deliver_18 : decode b_Mo_deliver 18 = .ok (.iload_n 1, 1) := by decide +kernel
theorem d_Mo_deliver_19 : decode b_Mo_deliver 19 = .ok (.imul, 1) := by decide +kernel
theorem d_Mo_deliver_20 : decode b_Mo_deliver 20 = .ok (.iload_n 2, 1) := by decide +kernel
theorem d_Mo_deliver_21 : decode b_Mo_deliver 21 = .ok (.iadd, 1) := by decide +kernel
theorem d_Mo_deliver_22 : decode b_Mo_deliver 22 = .ok (.istore_n 3, 1) := by decide +kernel
theorem d_Mo_deliver_23 : decode b_Mo_deliver 23 = .ok (.aload_n 0, 1) := by decide +kernel
theorem d_Mo_deliver_24 : decode b_Mo_deliver 24 = .ok (.getfield 34, 3) := by decide +kernel
theorem d_Mo_deliver_27 : decode b_Mo_deliver 27 = .ok (.iload_n 1, 1) := by decide +kernel
theorem d_Mo_deliver_28 : decode b_Mo_deliver 28 = .ok (.baload, 1) := by decide +kernel
theorem d_Mo_deliver_29 : decode b_Mo_deliver 29 = .ok (.ifCond .ne (4), 3) := by decide +kernel
theorem d_Mo_deliver_32 : decode b_Mo_deliver 32 = .ok (.return_, 1) := by decide +kernel
theorem d_Mo_deliver_33 : decode b_Mo_deliver 33 = .ok (.aload_n 0, 1) := by decide +kernel
theorem d_Mo_deliver_34 : decode b_Mo_deliver 34 = .ok (.getfield 114, 3) := by decide +kernel
theorem d_Mo_deliver_37 : decode b_Mo_deliver 37 = .ok (.bipush (20), 2) := by decide +kernel
theorem d_Mo_deliver_39 : decode b_Mo_deliver 39 = .ok (.baload, 1) := by decide +kernel
theorem d_Mo_deliver_40 : decode b_Mo_deliver 40 = .ok (.ifCond .eq (48), 3) := by decide +kernel
theorem d_Mo_deliver_43 : decode b_Mo_deliver 43 = .ok (.aload_n 0, 1) := by decide +kernel
theorem d_Mo_deliver_44 : decode b_Mo_deliver 44 = .ok (.getfield 41, 3) := by decide +kernel
theorem d_Mo_deliver_47 : decode b_Mo_deliver 47 = .ok (.iload_n 3, 1) := by decide +kernel
theorem d_Mo_deliver_48 : decode b_Mo_deliver 48 = .ok (.aload_n 0, 1) := by decide +kernel
theorem d_Mo_deliver_49 : decode b_Mo_deliver 49 = .ok (.getfield 41, 3) := by decide +kernel
theorem d_Mo_deliver_52 : decode b_Mo_deliver 52 = .ok (.iload_n 3, 1) := by decide +kernel
theorem d_Mo_deliver_53 : decode b_Mo_deliver 53 = .ok (.iaload, 1) := by decide +kernel
theorem d_Mo_deliver_54 : decode b_Mo_deliver 54 = .ok (.iconst (2), 1) := by decide +kernel
theorem d_Mo_deliver_55 : decode b_Mo_deliver 55 = .ok (.if_icmp .ne (23), 3) := by decide +kernel
theorem d_Mo_deliver_58 : decode b_Mo_deliver 58 = .ok (.aload_n 0, 1) := by decide +kernel
theorem d_Mo_deliver_59 : decode b_Mo_deliver 59 = .ok (.getfield 74, 3) := by decide +kernel
theorem d_Mo_deliver_62 : decode b_Mo_deliver 62 = .ok (.iload_n 3, 1) := by decide +kernel
theorem d_Mo_deliver_63 : decode b_Mo_deliver 63 = .ok (.iaload, 1) := by decide +kernel
theorem d_Mo_deliver_64 : decode b_Mo_deliver 64 = .ok (.aload_n 0, 1) := by decide +kernel
theorem d_Mo_deliver_65 : decode b_Mo_deliver 65 = .ok (.getfield 120, 3) := by decide +kernel
theorem d_Mo_deliver_68 : decode b_Mo_deliver 68 = .ok (.bipush (20), 2) := by decide +kernel
theorem d_Mo_deliver_70 : decode b_Mo_deliver 70 = .ok (.iaload, 1) := by decide +kernel
theorem d_Mo_deliver_71 : decode b_Mo_deliver 71 = .ok (.if_icmp .ne (7), 3) := by decide +kernel
theorem d_Mo_deliver_74 : decode b_Mo_deliver 74 = .ok (.iconst (0), 1) := by decide +kernel
theorem d_Mo_deliver_75 : decode b_Mo_deliver 75 = .ok (.goto (9), 3) := by decide +kernel
theorem d_Mo_deliver_78 : decode b_Mo_deliver 78 = .ok (.aload_n 0, 1) := by decide +kernel
theorem d_Mo_deliver_79 : decode b_Mo_deliver 79 = .ok (.getfield 41, 3) := by decide +kernel
theorem d_Mo_deliver_82 : decode b_Mo_deliver 82 = .ok (.iload_n 3, 1) := by decide +kernel
theorem d_Mo_deliver_83 : decode b_Mo_deliver 83 = .ok (.iaload, 1) := by decide +kernel
theorem d_Mo_deliver_84 : decode b_Mo_deliver 84 = .ok (.iastore, 1) := by decide +kernel
theorem d_Mo_deliver_85 : decode b_Mo_deliver 85 = .ok (.goto (90), 3) := by decide +kernel
theorem d_Mo_deliver_88 : decode b_Mo_deliver 88 = .ok (.aload_n 0, 1) := by decide +kernel
theorem d_Mo_deliver_89 : decode b_Mo_deliver 89 = .ok (.getfield 120, 3) := by decide +kernel
theorem d_Mo_deliver_92 : decode b_Mo_deliver 92 = .ok (.bipush (20), 2) := by decide +kernel
theorem d_Mo_deliver_94 : decode b_Mo_deliver 94 = .ok (.iaload, 1) := by decide +kernel
theorem d_Mo_deliver_95 : decode b_Mo_deliver 95 = .ok (.aload_n 0, 1) := by decide +kernel
theorem d_Mo_deliver_96 : decode b_Mo_deliver 96 = .ok (.getfield 47, 3) := by decide +kernel
theorem d_Mo_deliver_99 : decode b_Mo_deliver 99 = .ok (.iload_n 3, 1) := by decide +kernel
theorem d_Mo_deliver_100 : decode b_Mo_deliver 100 = .ok (.iaload, 1) := by decide +kernel
theorem d_Mo_deliver_101 : decode b_Mo_deliver 101 = .ok (.if_icmp .le (32), 3) := by decide +kernel
theorem d_Mo_deliver_104 : decode b_Mo_deliver 104 = .ok (.aload_n 0, 1) := by decide +kernel
theorem d_Mo_deliver_105 : decode b_Mo_deliver 105 = .ok (.bipush (20), 2) := by decide +kernel
theorem d_Mo_deliver_107 : decode b_Mo_deliver 107 = .ok (.iload_n 3, 1) := by decide +kernel
theorem d_Mo_deliver_108 : decode b_Mo_deliver 108 = .ok (.invokevirtual 302, 3) := by decide +kernel
theorem d_Mo_deliver_111 : decode b_Mo_deliver 111 = .ok (.aload_n 0, 1) := by decide +kernel
theorem d_Mo_deliver_112 : decode b_Mo_deliver 112 = .ok (.iload_n 3, 1) := by decide +kernel
theorem d_Mo_deliver_113 : decode b_Mo_deliver 113 = .ok (.aload_n 0, 1) := by decide +kernel
theorem d_Mo_deliver_114 : decode b_Mo_deliver 114 = .ok (.getfield 120, 3) := by decide +kernel
theorem d_Mo_deliver_117 : decode b_Mo_deliver 117 = .ok (.bipush (20), 2) := by decide +kernel
theorem d_Mo_deliver_119 : decode b_Mo_deliver 119 = .ok (.iaload, 1) := by decide +kernel
theorem d_Mo_deliver_120 : decode b_Mo_deliver 120 = .ok (.aload_n 0, 1) := by decide +kernel
theorem d_Mo_deliver_121 : decode b_Mo_deliver 121 = .ok (.getfield 123, 3) := by decide +kernel
theorem d_Mo_deliver_124 : decode b_Mo_deliver 124 = .ok (.bipush (20), 2) := by decide +kernel
theorem d_Mo_deliver_126 : decode b_Mo_deliver 126 = .ok (.iaload, 1) := by decide +kernel
theorem d_Mo_deliver_127 : decode b_Mo_deliver 127 = .ok (.invokevirtual 186, 3) := by decide +kernel
theorem d_Mo_deliver_130 : decode b_Mo_deliver 130 = .ok (.goto (45), 3) := by decide +kernel
theorem d_Mo_deliver_133 : decode b_Mo_deliver 133 = .ok (.aload_n 0, 1) := by decide +kernel
theorem d_Mo_deliver_134 : decode b_Mo_deliver 134 = .ok (.getfield 47, 3) := by decide +kernel
theorem d_Mo_deliver_137 : decode b_Mo_deliver 137 = .ok (.iload_n 3, 1) := by decide +kernel
theorem d_Mo_deliver_138 : decode b_Mo_deliver 138 = .ok (.bipush (16), 2) := by decide +kernel
theorem d_Mo_deliver_140 : decode b_Mo_deliver 140 = .ok (.iadd, 1) := by decide +kernel
theorem d_Mo_deliver_141 : decode b_Mo_deliver 141 = .ok (.iaload, 1) := by decide +kernel
theorem d_Mo_deliver_142 : decode b_Mo_deliver 142 = .ok (.aload_n 0, 1) := by decide +kernel
theorem d_Mo_deliver_143 : decode b_Mo_deliver 143 = .ok (.getfield 120, 3) := by decide +kernel
theorem d_Mo_deliver_146 : decode b_Mo_deliver 146 = .ok (.bipush (20), 2) := by decide +kernel
theorem d_Mo_deliver_148 : decode b_Mo_deliver 148 = .ok (.iaload, 1) := by decide +kernel
theorem d_Mo_deliver_149 : decode b_Mo_deliver 149 = .ok (.if_icmp .lt (26), 3) := by decide +kernel
theorem d_Mo_deliver_152 : decode b_Mo_deliver 152 = .ok (.aload_n 0, 1) := by decide +kernel
theorem d_Mo_deliver_153 : decode b_Mo_deliver 153 = .ok (.iconst (1), 1) := by decide +kernel
theorem d_Mo_deliver_154 : decode b_Mo_deliver 154 = .ok (.iload_n 2, 1) := by decide +kernel
theorem d_Mo_deliver_155 : decode b_Mo_deliver 155 = .ok (.aload_n 0, 1) := by decide +kernel
theorem d_Mo_deliver_156 : decode b_Mo_deliver 156 = .ok (.getfield 120, 3) := by decide +kernel
theorem d_Mo_deliver_159 : decode b_Mo_deliver 159 = .ok (.bipush (20), 2) := by decide +kernel
theorem d_Mo_deliver_161 : decode b_Mo_deliver 161 = .ok (.iaload, 1) := by decide +kernel
theorem d_Mo_deliver_162 : decode b_Mo_deliver 162 = .ok (.iload_n 1, 1) := by decide +kernel
theorem d_Mo_deliver_163 : decode b_Mo_deliver 163 = .ok (.aload_n 0, 1) := by decide +kernel
theorem d_Mo_deliver_164 : decode b_Mo_deliver 164 = .ok (.getfield 123, 3) := by decide +kernel
theorem d_Mo_deliver_167 : decode b_Mo_deliver 167 = .ok (.bipush (20), 2) := by decide +kernel
theorem d_Mo_deliver_169 : decode b_Mo_deliver 169 = .ok (.iaload, 1) := by decide +kernel
theorem d_Mo_deliver_170 : decode b_Mo_deliver 170 = .ok (.invokevirtual 281, 3) := by decide +kernel
theorem d_Mo_deliver_173 : decode b_Mo_deliver 173 = .ok (.istore 4, 2) := by decide +kernel
theorem d_Mo_deliver_175 : decode b_Mo_deliver 175 = .ok (.return_, 1) := by decide +kernel
theorem d_Mo_net_0 : decode b_Mo_net 0 = .ok (.aload_n 0, 1) := by decide +kernel
theorem d_Mo_net_1 : decode b_Mo_net 1 = .ok (.iload_n 2, 1) := by decide +kernel
theorem d_Mo_net_2 : decode b_Mo_net 2 = .ok (.iconst (0), 1) := by decide +kernel
theorem d_Mo_net_3 : decode b_Mo_net 3 = .ok (.iconst (2), 1) := by decide +kernel
theorem d_Mo_net_4 : decode b_Mo_net 4 = .ok (.invokestatic 171, 3) := by decide +kernel
theorem d_Mo_net_7 : decode b_Mo_net 7 = .ok (.ifCond .ne (7), 3) := by decide +kernel
theorem d_Mo_net_10 : decode b_Mo_net 10 = .ok (.iconst (1), 1) := by decide +kernel
theorem d_Mo_net_11 : decode b_Mo_net 11 = .ok (.goto (40), 3) := by decide +kernel
theorem d_Mo_net_14 : decode b_Mo_net 14 = .ok (.iload_n 1, 1) := by decide +kernel
theorem d_Mo_net_15 : decode b_Mo_net 15 = .ok (.iconst (0), 1) := by decide +kernel
theorem d_Mo_net_16 : decode b_Mo_net 16 = .ok (.aload_n 0, 1) := by decide +kernel
theorem d_Mo_net_17 : decode b_Mo_net 17 = .ok (.getfield 269, 3) := by decide +kernel
theorem d_Mo_net_20 : decode b_Mo_net 20 = .ok (.iconst (1), 1) := by decide +kernel
theorem d_Mo_net_21 : decode b_Mo_net 21 = .ok (.isub, 1) := by decide +kernel
theorem d_Mo_net_22 : decode b_Mo_net 22 = .ok (.invokestatic 171, 3) := by decide +kernel
theorem d_Mo_net_25 : decode b_Mo_net 25 = .ok (.ifCond .ne (7), 3) := by decide +kernel
theorem d_Mo_net_28 : decode b_Mo_net 28 = .ok (.iconst (2), 1) := by decide +kernel
theorem d_Mo_net_29 : decode b_Mo_net 29 = .ok (.goto (22), 3) := by decide +kernel
theorem d_Mo_net_32 : decode b_Mo_net 32 = .ok (.iload_n 2, 1) := by decide +kernel
theorem d_Mo_net_33 : decode b_Mo_net 33 = .ok (.iconst (2), 1) := by decide +kernel
theorem d_Mo_net_34 : decode b_Mo_net 34 = .ok (.if_icmp .ne (16), 3) := by decide +kernel
theorem d_Mo_net_37 : decode b_Mo_net 37 = .ok (.aload_n 0, 1) := by decide +kernel
theorem d_Mo_net_38 : decode b_Mo_net 38 = .ok (.getfield 269, 3) := by decide +kernel
theorem d_Mo_net_41 : decode b_Mo_net 41 = .ok (.bipush (20), 2) := by decide +kernel
theorem d_Mo_net_43 : decode b_Mo_net 43 = .ok (.if_icmp .ne (7), 3) := by decide +kernel
theorem d_Mo_net_46 : decode b_Mo_net 46 = .ok (.iconst (3), 1) := by decide +kernel
theorem d_Mo_net_47 : decode b_Mo_net 47 = .ok (.goto (4), 3) := by decide +kernel
theorem d_Mo_net_50 : decode b_Mo_net 50 = .ok (.iconst (0), 1) := by decide +kernel
theorem d_Mo_net_51 : decode b_Mo_net 51 = .ok (.putfield 142, 3) := by decide +kernel
theorem d_Mo_net_54 : decode b_Mo_net 54 = .ok (.aload_n 0, 1) := by decide +kernel
theorem d_Mo_net_55 : decode b_Mo_net 55 = .ok (.getfield 142, 3) := by decide +kernel
theorem d_Mo_net_58 : decode b_Mo_net 58 = .ok (.ifCond .le (5), 3) := by decide +kernel
theorem d_Mo_net_61 : decode b_Mo_net 61 = .ok (.iconst (0), 1) := by decide +kernel
theorem d_Mo_net_62 : decode b_Mo_net 62 = .ok (.ireturn, 1) := by decide +kernel
theorem d_Mo_net_63 : decode b_Mo_net 63 = .ok (.iload_n 2, 1) := by decide +kernel
theorem d_Mo_net_64 : decode b_Mo_net 64 = .ok (.iconst (2), 1) := by decide +kernel
theorem d_Mo_net_65 : decode b_Mo_net 65 = .ok (.if_icmp .ne (27), 3) := by decide +kernel
theorem d_Mo_net_68 : decode b_Mo_net 68 = .ok (.aload_n 0, 1) := by decide +kernel
theorem d_Mo_net_69 : decode b_Mo_net 69 = .ok (.iload_n 1, 1) := by decide +kernel
theorem d_Mo_net_70 : decode b_Mo_net 70 = .ok (.aload_n 0, 1) := by decide +kernel
theorem d_Mo_net_71 : decode b_Mo_net 71 = .ok (.getfield 269, 3) := by decide +kernel
theorem d_Mo_net_74 : decode b_Mo_net 74 = .ok (.invokevirtual 305, 3) := by decide +kernel
theorem d_Mo_net_77 : decode b_Mo_net 77 = .ok (.aload_n 0, 1) := by decide +kernel
theorem d_Mo_net_78 : decode b_Mo_net 78 = .ok (.dup, 1) := by decide +kernel
theorem d_Mo_net_79 : decode b_Mo_net 79 = .ok (.getfield 269, 3) := by decide +kernel
theorem d_Mo_net_82 : decode b_Mo_net 82 = .ok (.iconst (1), 1) := by decide +kernel
theorem d_Mo_net_83 : decode b_Mo_net 83 = .ok (.iadd, 1) := by decide +kernel
theorem d_Mo_net_84 : decode b_Mo_net 84 = .ok (.putfield 269, 3) := by decide +kernel
theorem d_Mo_net_87 : decode b_Mo_net 87 = .ok (.aload_n 0, 1) := by decide +kernel
theorem d_Mo_net_88 : decode b_Mo_net 88 = .ok (.getfield 269, 3) := by decide +kernel
theorem d_Mo_net_91 : decode b_Mo_net 91 = .ok (.ireturn, 1) := by decide +kernel
theorem d_Mo_net_92 : decode b_Mo_net 92 = .ok (.aload_n 0, 1) := by decide +kernel
theorem d_Mo_net_93 : decode b_Mo_net 93 = .ok (.iload_n 1, 1) := by decide +kernel
theorem d_Mo_net_94 : decode b_Mo_net 94 = .ok (.bipush (20), 2) := by decide +kernel
theorem d_Mo_net_96 : decode b_Mo_net 96 = .ok (.invokevirtual 305, 3) := by decide +kernel
theorem d_Mo_net_99 : decode b_Mo_net 99 = .ok (.iload_n 1, 1) := by decide +kernel
theorem d_Mo_net_100 : decode b_Mo_net 100 = .ok (.iconst (1), 1) := by decide +kernel
theorem d_Mo_net_101 : decode b_Mo_net 101 = .ok (.iadd, 1) := by decide +kernel
theorem d_Mo_net_102 : decode b_Mo_net 102 = .ok (.istore_n 3, 1) := by decide +kernel
theorem d_Mo_net_103 : decode b_Mo_net 103 = .ok (.iload_n 3, 1) := by decide +kernel
theorem d_Mo_net_104 : decode b_Mo_net 104 = .ok (.aload_n 0, 1) := by decide +kernel
theorem d_Mo_net_105 : decode b_Mo_net 105 = .ok (.getfield 269, 3) := by decide +kernel
theorem d_Mo_net_108 : decode b_Mo_net 108 = .ok (.if_icmp .ge (17), 3) := by decide +kernel
theorem d_Mo_net_111 : decode b_Mo_net 111 = .ok (.aload_n 0, 1) := by decide +kernel
theorem d_Mo_net_112 : decode b_Mo_net 112 = .ok (.iload_n 3, 1) := by decide +kernel
theorem d_Mo_net_113 : decode b_Mo_net 113 = .ok (.iload_n 3, 1) := by decide +kernel
theorem d_Mo_net_114 : decode b_Mo_net 114 = .ok (.iconst (1), 1) := by decide +kernel
theorem d_Mo_net_115 : decode b_Mo_net 115 = .ok (.isub, 1) := by decide +kernel
theorem d_Mo_net_116 : decode b_Mo_net 116 = .ok (.invokevirtual 305, 3) := by decide +kernel
theorem d_Mo_net_119 : decode b_Mo_net 119 = .ok (.iinc 3 (1), 3) := by decide +kernel
theorem d_Mo_net_122 : decode b_Mo_net 122 = .ok (.goto (-19), 3) := by decide +kernel
theorem d_Mo_net_125 : decode b_Mo_net 125 = .ok (.aload_n 0, 1) := by decide +kernel
theorem d_Mo_net_126 : decode b_Mo_net 126 = .ok (.dup, 1) := by decide +kernel
theorem d_Mo_net_127 : decode b_Mo_net 127 = .ok (.getfield 269, 3) := by decide +kernel
theorem d_Mo_net_130 : decode b_Mo_net 130 = .ok (.iconst (1), 1) := by decide +kernel
theorem d_Mo_net_131 : decode b_Mo_net 131 = .ok (.isub, 1) := by decide +kernel
theorem d_Mo_net_132 : decode b_Mo_net 132 = .ok (.putfield 269, 3) := by decide +kernel
theorem d_Mo_net_135 : decode b_Mo_net 135 = .ok (.iload_n 2, 1) := by decide +kernel
theorem d_Mo_net_136 : decode b_Mo_net 136 = .ok (.ifCond .ne (7), 3) := by decide +kernel
theorem d_Mo_net_139 : decode b_Mo_net 139 = .ok (.aload_n 0, 1) := by decide +kernel
theorem d_Mo_net_140 : decode b_Mo_net 140 = .ok (.invokevirtual 308, 3) := by decide +kernel
theorem d_Mo_net_143 : decode b_Mo_net 143 = .ok (.aload_n 0, 1) := by decide +kernel
theorem d_Mo_net_144 : decode b_Mo_net 144 = .ok (.getfield 269, 3) := by decide +kernel
theorem d_Mo_net_147 : decode b_Mo_net 147 = .ok (.ireturn, 1) := by decide +kernel
theorem d_Mo_message_0 : decode b_Mo_message 0 = .ok (.aload_n 0, 1) := by decide +kernel
theorem d_Mo_message_1 : decode b_Mo_message 1 = .ok (.iconst (0), 1) := by decide +kernel
theorem d_Mo_message_2 : decode b_Mo_message 2 = .ok (.putfield 142, 3) := by decide +kernel
theorem d_Mo_message_5 : decode b_Mo_message 5 = .ok (.iload_n 1, 1) := by decide +kernel
theorem d_Mo_message_6 : decode b_Mo_message 6 = .ok (.iconst (0), 1) := by decide +kernel
theorem d_Mo_message_7 : decode b_Mo_message 7 = .ok (.aload_n 0, 1) := by decide +kernel
theorem d_Mo_message_8 : decode b_Mo_message 8 = .ok (.getfield 269, 3) := by decide +kernel
theorem d_Mo_message_11 : decode b_Mo_message 11 = .ok (.iconst (1), 1) := by decide +kernel
theorem d_Mo_message_12 : decode b_Mo_message 12 = .ok (.isub, 1) := by decide +kernel
theorem d_Mo_message_13 : decode b_Mo_message 13 = .ok (.invokestatic 171, 3) := by decide +kernel
theorem d_Mo_message_16 : decode b_Mo_message 16 = .ok (.ifCond .ne (5), 3) := by decide +kernel
theorem d_Mo_message_19 : decode b_Mo_message 19 = .ok (.iconst (-1), 1) := by decide +kernel
theorem d_Mo_message_20 : decode b_Mo_message 20 = .ok (.ireturn, 1) := by decide +kernel
theorem d_Mo_message_21 : decode b_Mo_message 21 = .ok (.iload_n 2, 1) := by decide +kernel
theorem d_Mo_message_22 : decode b_Mo_message 22 = .ok (.tableswitch (88) (0) (5) #[38, 53, 60, 67, 74, 81], 38) := by decide +kernel
theorem d_Mo_message_60 : decode b_Mo_message 60 = .ok (.aload_n 0, 1) := by decide +kernel
theorem d_Mo_message_61 : decode b_Mo_message 61 = .ok (.getfield 114, 3) := by decide +kernel
theorem d_Mo_message_64 : decode b_Mo_message 64 = .ok (.iload_n 1, 1) := by decide +kernel
theorem d_Mo_message_65 : decode b_Mo_message 65 = .ok (.baload, 1) := by decide +kernel
theorem d_Mo_message_66 : decode b_Mo_message 66 = .ok (.ifCond .eq (7), 3) := by decide +kernel
theorem d_Mo_message_69 : decode b_Mo_message 69 = .ok (.iconst (1), 1) := by decide +kernel
theorem d_Mo_message_70 : decode b_Mo_message 70 = .ok (.goto (4), 3) := by decide +kernel
theorem d_Mo_message_73 : decode b_Mo_message 73 = .ok (.iconst (0), 1) := by decide +kernel
theorem d_Mo_message_74 : decode b_Mo_message 74 = .ok (.ireturn, 1) := by decide +kernel
theorem d_Mo_message_75 : decode b_Mo_message 75 = .ok (.aload_n 0, 1) := by decide +kernel
theorem d_Mo_message_76 : decode b_Mo_message 76 = .ok (.getfield 117, 3) := by decide +kernel
theorem d_Mo_message_79 : decode b_Mo_message 79 = .ok (.iload_n 1, 1) := by decide +kernel
theorem d_Mo_message_80 : decode b_Mo_message 80 = .ok (.iaload, 1) := by decide +kernel
theorem d_Mo_message_81 : decode b_Mo_message 81 = .ok (.ireturn, 1) := by decide +kernel
theorem d_Mo_message_82 : decode b_Mo_message 82 = .ok (.aload_n 0, 1) := by decide +kernel
theorem d_Mo_message_83 : decode b_Mo_message 83 = .ok (.getfield 120, 3) := by decide +kernel
theorem d_Mo_message_86 : decode b_Mo_message 86 = .ok (.iload_n 1, 1) := by decide +kernel
theorem d_Mo_message_87 : decode b_Mo_message 87 = .ok (.iaload, 1) := by decide +kernel
theorem d_Mo_message_88 : decode b_Mo_message 88 = .ok (.ireturn, 1) := by decide +kernel
theorem d_Mo_message_89 : decode b_Mo_message 89 = .ok (.aload_n 0, 1) := by decide +kernel
theorem d_Mo_message_90 : decode b_Mo_message 90 = .ok (.getfield 123, 3) := by decide +kernel
theorem d_Mo_message_93 : decode b_Mo_message 93 = .ok (.iload_n 1, 1) := by decide +kernel
theorem d_Mo_message_94 : decode b_Mo_message 94 = .ok (.iaload, 1) := by decide +kernel
theorem d_Mo_message_95 : decode b_Mo_message 95 = .ok (.ireturn, 1) := by decide +kernel
theorem d_Mo_message_96 : decode b_Mo_message 96 = .ok (.aload_n 0, 1) := by decide +kernel
theorem d_Mo_message_97 : decode b_Mo_message 97 = .ok (.getfield 126, 3) := by decide +kernel
theorem d_Mo_message_100 : decode b_Mo_message 100 = .ok (.iload_n 1, 1) := by decide +kernel
theorem d_Mo_message_101 : decode b_Mo_message 101 = .ok (.iaload, 1) := by decide +kernel
theorem d_Mo_message_102 : decode b_Mo_message 102 = .ok (.ireturn, 1) := by decide +kernel
theorem d_Mo_message_103 : decode b_Mo_message 103 = .ok (.aload_n 0, 1) := by decide +kernel
theorem d_Mo_message_104 : decode b_Mo_message 104 = .ok (.getfield 129, 3) := by decide +kernel
theorem d_Mo_message_107 : decode b_Mo_message 107 = .ok (.iload_n 1, 1) := by decide +kernel
theorem d_Mo_message_108 : decode b_Mo_message 108 = .ok (.iaload, 1) := by decide +kernel
theorem d_Mo_message_109 : decode b_Mo_message 109 = .ok (.ireturn, 1) := by decide +kernel
theorem d_Mo_message_110 : decode b_Mo_message 110 = .ok (.iload_n 2, 1) := by decide +kernel
theorem d_Mo_message_111 : decode b_Mo_message 111 = .ok (.bipush (10), 2) := by decide +kernel
theorem d_Mo_message_113 : decode b_Mo_message 113 = .ok (.if_icmp .lt (34), 3) := by decide +kernel
theorem d_Mo_message_116 : decode b_Mo_message 116 = .ok (.iload_n 2, 1) := by decide +kernel
theorem d_Mo_message_117 : decode b_Mo_message 117 = .ok (.bipush (10), 2) := by decide +kernel
theorem d_Mo_message_119 : decode b_Mo_message 119 = .ok (.isub, 1) := by decide +kernel
theorem d_Mo_message_120 : decode b_Mo_message 120 = .ok (.aload_n 0, 1) := by decide +kernel
theorem d_Mo_message_121 : decode b_Mo_message 121 = .ok (.getfield 129, 3) := by decide +kernel
theorem d_Mo_message_124 : decode b_Mo_message 124 = .ok (.iload_n 1, 1) := by decide +kernel
theorem d_Mo_message_125 : decode b_Mo_message 125 = .ok (.iaload, 1) := by decide +kernel
theorem d_Mo_message_126 : decode b_Mo_message 126 = .ok (.if_icmp .ge (21), 3) := by decide +kernel
theorem d_Mo_message_129 : decode b_Mo_message 129 = .ok (.aload_n 0, 1) := by decide +kernel
theorem d_Mo_message_130 : decode b_Mo_message 130 = .ok (.getfield 132, 3) := by decide +kernel
theorem d_Mo_message_133 : decode b_Mo_message 133 = .ok (.sipush (128), 3) := by decide +kernel
theorem d_Mo_message_136 : decode b_Mo_message 136 = .ok (.iload_n 1, 1) := by decide +kernel
theorem d_Mo_message_137 : decode b_Mo_message 137 = .ok (.imul, 1) := by decide +kernel
theorem d_Mo_message_138 : decode b_Mo_message 138 = .ok (.iload_n 2, 1) := by decide +kernel
theorem d_Mo_message_139 : decode b_Mo_message 139 = .ok (.iadd, 1) := by decide +kernel
theorem d_Mo_message_140 : decode b_Mo_message 140 = .ok (.bipush (10), 2) := by decide +kernel
theorem d_Mo_message_142 : decode b_Mo_message 142 = .ok (.isub, 1) := by decide +kernel
theorem d_Mo_message_143 : decode b_Mo_message 143 = .ok (.iaload, 1) := by decide +kernel
theorem d_Mo_message_144 : decode b_Mo_message 144 = .ok (.goto (4), 3) := by decide +kernel
theorem d_Mo_message_147 : decode b_Mo_message 147 = .ok (.iconst (-1), 1) := by decide +kernel
theorem d_Mo_message_148 : decode b_Mo_message 148 = .ok (.ireturn, 1) := by decide +kernel
theorem d_Mo_slot_0 : decode b_Mo_slot 0 = .ok (.aload_n 0, 1) := by decide +kernel
theorem d_Mo_slot_1 : decode b_Mo_slot 1 = .ok (.iconst (0), 1) := by decide +kernel
theorem d_Mo_slot_2 : decode b_Mo_slot 2 = .ok (.putfield 142, 3) := by decide +kernel
theorem d_Mo_slot_5 : decode b_Mo_slot 5 = .ok (.iload_n 1, 1) := by decide +kernel
theorem d_Mo_slot_6 : decode b_Mo_slot 6 = .ok (.iconst (0), 1) := by decide +kernel
theorem d_Mo_slot_7 : decode b_Mo_slot 7 = .ok (.iconst (3), 1) := by decide +kernel
theorem d_Mo_slot_8 : decode b_Mo_slot 8 = .ok (.invokestatic 171, 3) := by decide +kernel
theorem d_Mo_slot_11 : decode b_Mo_slot 11 = .ok (.ifCond .eq (36), 3) := by decide +kernel
theorem d_Mo_slot_14 : decode b_Mo_slot 14 = .ok (.iload_n 2, 1) := by decide +kernel
theorem d_Mo_slot_15 : decode b_Mo_slot 15 = .ok (.iconst (0), 1) := by decide +kernel
theorem d_Mo_slot_16 : decode b_Mo_slot 16 = .ok (.bipush (7), 2) := by decide +kernel
theorem d_Mo_slot_18 : decode b_Mo_slot 18 = .ok (.invokestatic 171, 3) := by decide +kernel
theorem d_Mo_slot_21 : decode b_Mo_slot 21 = .ok (.ifCond .eq (26), 3) := by decide +kernel
theorem d_Mo_slot_24 : decode b_Mo_slot 24 = .ok (.aload_n 0, 1) := by decide +kernel
theorem d_Mo_slot_25 : decode b_Mo_slot 25 = .ok (.getfield 34, 3) := by decide +kernel
theorem d_Mo_slot_28 : decode b_Mo_slot 28 = .ok (.iload_n 1, 1) := by decide +kernel
theorem d_Mo_slot_29 : decode b_Mo_slot 29 = .ok (.baload, 1) := by decide +kernel
theorem d_Mo_slot_30 : decode b_Mo_slot 30 = .ok (.ifCond .eq (17), 3) := by decide +kernel
theorem d_Mo_slot_33 : decode b_Mo_slot 33 = .ok (.aload_n 0, 1) := by decide +kernel
theorem d_Mo_slot_34 : decode b_Mo_slot 34 = .ok (.getfield 41, 3) := by decide +kernel
theorem d_Mo_slot_37 : decode b_Mo_slot 37 = .ok (.bipush (24), 2) := by decide +kernel
theorem d_Mo_slot_39 : decode b_Mo_slot 39 = .ok (.iload_n 1, 1) := by decide +kernel
theorem d_Mo_slot_40 : decode b_Mo_slot 40 = .ok (.imul, 1) := by decide +kernel
theorem d_Mo_slot_41 : decode b_Mo_slot 41 = .ok (.iload_n 2, 1) := by decide +kernel
theorem d_Mo_slot_42 : decode b_Mo_slot 42 = .ok (.iadd, 1) := by decide +kernel
theorem d_Mo_slot_43 : decode b_Mo_slot 43 = .ok (.iaload, 1) := by decide +kernel
theorem d_Mo_slot_44 : decode b_Mo_slot 44 = .ok (.goto (4), 3) := by decide +kernel
theorem d_Mo_slot_47 : decode b_Mo_slot 47 = .ok (.iconst (-1), 1) := by decide +kernel
theorem d_Mo_slot_48 : decode b_Mo_slot 48 = .ok (.ireturn, 1) := by decide +kernel
theorem d_Mo_agent_0 : decode b_Mo_agent 0 = .ok (.aload_n 0, 1) := by decide +kernel
theorem d_Mo_agent_1 : decode b_Mo_agent 1 = .ok (.iconst (0), 1) := by decide +kernel
theorem d_Mo_agent_2 : decode b_Mo_agent 2 = .ok (.putfield 142, 3) := by decide +kernel
theorem d_Mo_agent_5 : decode b_Mo_agent 5 = .ok (.iload_n 1, 1) := by decide +kernel
theorem d_Mo_agent_6 : decode b_Mo_agent 6 = .ok (.iconst (0), 1) := by decide +kernel
theorem d_Mo_agent_7 : decode b_Mo_agent 7 = .ok (.iconst (3), 1) := by decide +kernel
theorem d_Mo_agent_8 : decode b_Mo_agent 8 = .ok (.invokestatic 171, 3) := by decide +kernel
theorem d_Mo_agent_11 : decode b_Mo_agent 11 = .ok (.ifCond .eq (36), 3) := by decide +kernel
theorem d_Mo_agent_14 : decode b_Mo_agent 14 = .ok (.iload_n 2, 1) := by decide +kernel
theorem d_Mo_agent_15 : decode b_Mo_agent 15 = .ok (.iconst (0), 1) := by decide +kernel
theorem d_Mo_agent_16 : decode b_Mo_agent 16 = .ok (.bipush (7), 2) := by decide +kernel
theorem d_Mo_agent_18 : decode b_Mo_agent 18 = .ok (.invokestatic 171, 3) := by decide +kernel
theorem d_Mo_agent_21 : decode b_Mo_agent 21 = .ok (.ifCond .eq (26), 3) := by decide +kernel
theorem d_Mo_agent_24 : decode b_Mo_agent 24 = .ok (.aload_n 0, 1) := by decide +kernel
theorem d_Mo_agent_25 : decode b_Mo_agent 25 = .ok (.getfield 34, 3) := by decide +kernel
theorem d_Mo_agent_28 : decode b_Mo_agent 28 = .ok (.iload_n 1, 1) := by decide +kernel
theorem d_Mo_agent_29 : decode b_Mo_agent 29 = .ok (.baload, 1) := by decide +kernel
theorem d_Mo_agent_30 : decode b_Mo_agent 30 = .ok (.ifCond .eq (17), 3) := by decide +kernel
theorem d_Mo_agent_33 : decode b_Mo_agent 33 = .ok (.aload_n 0, 1) := by decide +kernel
theorem d_Mo_agent_34 : decode b_Mo_agent 34 = .ok (.getfield 41, 3) := by decide +kernel
theorem d_Mo_agent_37 : decode b_Mo_agent 37 = .ok (.bipush (24), 2) := by decide +kernel
theorem d_Mo_agent_39 : decode b_Mo_agent 39 = .ok (.iload_n 1, 1) := by decide +kernel
theorem d_Mo_agent_40 : decode b_Mo_agent 40 = .ok (.imul, 1) := by decide +kernel
theorem d_Mo_agent_41 : decode b_Mo_agent 41 = .ok (.iload_n 2, 1) := by decide +kernel
theorem d_Mo_agent_42 : decode b_Mo_agent 42 = .ok (.iadd, 1) := by decide +kernel
theorem d_Mo_agent_43 : decode b_Mo_agent 43 = .ok (.iaload, 1) := by decide +kernel
theorem d_Mo_agent_44 : decode b_Mo_agent 44 = .ok (.ifCond .ne (5), 3) := by decide +kernel
theorem d_Mo_agent_47 : decode b_Mo_agent 47 = .ok (.iconst (-1), 1) := by decide +kernel
theorem d_Mo_agent_48 : decode b_Mo_agent 48 = .ok (.ireturn, 1) := by decide +kernel
theorem d_Mo_agent_49 : decode b_Mo_agent 49 = .ok (.bipush (24), 2) := by decide +kernel
theorem d_Mo_agent_51 : decode b_Mo_agent 51 = .ok (.iload_n 1, 1) := by decide +kernel
theorem d_Mo_agent_52 : decode b_Mo_agent 52 = .ok (.imul, 1) := by decide +kernel
theorem d_Mo_agent_53 : decode b_Mo_agent 53 = .ok (.iload_n 2, 1) := by decide +kernel
theorem d_Mo_agent_54 : decode b_Mo_agent 54 = .ok (.iadd, 1) := by decide +kernel
theorem d_Mo_agent_55 : decode b_Mo_agent 55 = .ok (.istore 4, 2) := by decide +kernel
theorem d_Mo_agent_57 : decode b_Mo_agent 57 = .ok (.iload_n 3, 1) := by decide +kernel
theorem d_Mo_agent_58 : decode b_Mo_agent 58 = .ok (.tableswitch (97) (0) (6) #[42, 50, 58, 66, 74, 82, 90], 42) := by decide +kernel
theorem d_Mo_agent_100 : decode b_Mo_agent 100 = .ok (.aload_n 0, 1) := by decide +kernel
theorem d_Mo_agent_101 : decode b_Mo_agent 101 = .ok (.getfield 68, 3) := by decide +kernel
theorem d_Mo_agent_104 : decode b_Mo_agent 104 = .ok (.iload 4, 2) := by decide +kernel
theorem d_Mo_agent_106 : decode b_Mo_agent 106 = .ok (.iaload, 1) := by decide +kernel
theorem d_Mo_agent_107 : decode b_Mo_agent 107 = .ok (.ireturn, 1) := by decide +kernel
theorem d_Mo_agent_108 : decode b_Mo_agent 108 = .ok (.aload_n 0, 1) := by decide +kernel
theorem d_Mo_agent_109 : decode b_Mo_agent 109 = .ok (.getfield 74, 3) := by decide +kernel
theorem d_Mo_agent_112 : decode b_Mo_agent 112 = .ok (.iload 4, 2) := by decide +kernel
theorem d_Mo_agent_114 : decode b_Mo_agent 114 = .ok (.iaload, 1) := by decide +kernel
theorem d_Mo_agent_115 : decode b_Mo_agent 115 = .ok (.ireturn, 1) := by decide +kernel
theorem d_Mo_agent_116 : decode b_Mo_agent 116 = .ok (.aload_n 0, 1) := by decide +kernel
theorem d_Mo_agent_117 : decode b_Mo_agent 117 = .ok (.getfield 71, 3) := by decide +kernel
theorem d_Mo_agent_120 : decode b_Mo_agent 120 = .ok (.iload 4, 2) := by decide +kernel
theorem d_Mo_agent_122 : decode b_Mo_agent 122 = .ok (.iaload, 1) := by decide +kernel
theorem d_Mo_agent_123 : decode b_Mo_agent 123 = .ok (.ireturn, 1) := by decide +kernel
theorem d_Mo_agent_124 : decode b_Mo_agent 124 = .ok (.aload_n 0, 1) := by decide +kernel
theorem d_Mo_agent_125 : decode b_Mo_agent 125 = .ok (.getfield 77, 3) := by decide +kernel
theorem d_Mo_agent_128 : decode b_Mo_agent 128 = .ok (.iload 4, 2) := by decide +kernel
theorem d_Mo_agent_130 : decode b_Mo_agent 130 = .ok (.iaload, 1) := by decide +kernel
theorem d_Mo_agent_131 : decode b_Mo_agent 131 = .ok (.ireturn, 1) := by decide +kernel
theorem d_Mo_agent_132 : decode b_Mo_agent 132 = .ok (.aload_n 0, 1) := by decide +kernel
theorem d_Mo_agent_133 : decode b_Mo_agent 133 = .ok (.getfield 80, 3) := by decide +kernel
theorem d_Mo_agent_136 : decode b_Mo_agent 136 = .ok (.iload 4, 2) := by decide +kernel
theorem d_Mo_agent_138 : decode b_Mo_agent 138 = .ok (.iaload, 1) := by decide +kernel
theorem d_Mo_agent_139 : decode b_Mo_agent 139 = .ok (.ireturn, 1) := by decide +kernel
theorem d_Mo_agent_140 : decode b_Mo_agent 140 = .ok (.aload_n 0, 1) := by decide +kernel
theorem d_Mo_agent_141 : decode b_Mo_agent 141 = .ok (.getfield 86, 3) := by decide +kernel
theorem d_Mo_agent_144 : decode b_Mo_agent 144 = .ok (.iload 4, 2) := by decide +kernel
theorem d_Mo_agent_146 : decode b_Mo_agent 146 = .ok (.iaload, 1) := by decide +kernel
theorem d_Mo_agent_147 : decode b_Mo_agent 147 = .ok (.ireturn, 1) := by decide +kernel
theorem d_Mo_agent_148 : decode b_Mo_agent 148 = .ok (.aload_n 0, 1) := by decide +kernel
theorem d_Mo_agent_149 : decode b_Mo_agent 149 = .ok (.iload 4, 2) := by decide +kernel
theorem d_Mo_agent_151 : decode b_Mo_agent 151 = .ok (.invokevirtual 163, 3) := by decide +kernel
theorem d_Mo_agent_154 : decode b_Mo_agent 154 = .ok (.ireturn, 1) := by decide +kernel
theorem d_Mo_agent_155 : decode b_Mo_agent 155 = .ok (.iload_n 3, 1) := by decide +kernel
theorem d_Mo_agent_156 : decode b_Mo_agent 156 = .ok (.bipush (10), 2) := by decide +kernel
theorem d_Mo_agent_158 : decode b_Mo_agent 158 = .ok (.if_icmp .lt (17), 3) := by decide +kernel
theorem d_Mo_agent_161 : decode b_Mo_agent 161 = .ok (.iload_n 3, 1) := by decide +kernel
theorem d_Mo_agent_162 : decode b_Mo_agent 162 = .ok (.bipush (10), 2) := by decide +kernel
theorem d_Mo_agent_164 : decode b_Mo_agent 164 = .ok (.isub, 1) := by decide +kernel
theorem d_Mo_agent_165 : decode b_Mo_agent 165 = .ok (.aload_n 0, 1) := by decide +kernel
theorem d_Mo_agent_166 : decode b_Mo_agent 166 = .ok (.getfield 86, 3) := by decide +kernel
theorem d_Mo_agent_169 : decode b_Mo_agent 169 = .ok (.iload 4, 2) := by decide +kernel
theorem d_Mo_agent_171 : decode b_Mo_agent 171 = .ok (.iaload, 1) := by decide +kernel
theorem d_Mo_agent_172 : decode b_Mo_agent 172 = .ok (.if_icmp .lt (7), 3) := by decide +kernel
theorem d_Mo_agent_175 : decode b_Mo_agent 175 = .ok (.iconst (-1), 1) := by decide +kernel
theorem d_Mo_agent_176 : decode b_Mo_agent 176 = .ok (.goto (30), 3) := by decide +kernel
theorem d_Mo_agent_179 : decode b_Mo_agent 179 = .ok (.aload_n 0, 1) := by decide +kernel
theorem d_Mo_agent_180 : decode b_Mo_agent 180 = .ok (.getfield 89, 3) := by decide +kernel
theorem d_Mo_agent_183 : decode b_Mo_agent 183 = .ok (.bipush (6), 2) := by decide +kernel
theorem d_Mo_agent_185 : decode b_Mo_agent 185 = .ok (.iload 4, 2) := by decide +kernel
theorem d_Mo_agent_187 : decode b_Mo_agent 187 = .ok (.imul, 1) := by decide +kernel
theorem d_Mo_agent_188 : decode b_Mo_agent 188 = .ok (.iload_n 3, 1) := by decide +kernel
theorem d_Mo_agent_189 : decode b_Mo_agent 189 = .ok (.iadd, 1) := by decide +kernel
theorem d_Mo_agent_190 : decode b_Mo_agent 190 = .ok (.bipush (10), 2) := by decide +kernel
theorem d_Mo_agent_192 : decode b_Mo_agent 192 = .ok (.isub, 1) := by decide +kernel
theorem d_Mo_agent_193 : decode b_Mo_agent 193 = .ok (.laload, 1) := by decide +kernel
theorem d_Mo_agent_194 : decode b_Mo_agent 194 = .ok (.ldc2_w 150, 3) := by decide +kernel
theorem d_Mo_agent_197 : decode b_Mo_agent 197 = .ok (.lcmp, 1) := by decide +kernel
theorem d_Mo_agent_198 : decode b_Mo_agent 198 = .ok (.ifCond .ge (7), 3) := by decide +kernel
theorem d_Mo_agent_201 : decode b_Mo_agent 201 = .ok (.iconst (0), 1) := by decide +kernel
theorem d_Mo_agent_202 : decode b_Mo_agent 202 = .ok (.goto (4), 3) := by decide +kernel
theorem d_Mo_agent_205 : decode b_Mo_agent 205 = .ok (.iconst (1), 1) := by decide +kernel
theorem d_Mo_agent_206 : decode b_Mo_agent 206 = .ok (.ireturn, 1) := by decide +kernel
theorem d_Mo_host_0 : decode b_Mo_host 0 = .ok (.aload_n 0, 1) := by decide +kernel
theorem d_Mo_host_1 : decode b_Mo_host 1 = .ok (.iconst (0), 1) := by decide +kernel
theorem d_Mo_host_2 : decode b_Mo_host 2 = .ok (.putfield 142, 3) := by decide +kernel
theorem d_Mo_host_5 : decode b_Mo_host 5 = .ok (.iload_n 1, 1) := by decide +kernel
theorem d_Mo_host_6 : decode b_Mo_host 6 = .ok (.iconst (0), 1) := by decide +kernel
theorem d_Mo_host_7 : decode b_Mo_host 7 = .ok (.iconst (3), 1) := by decide +kernel
theorem d_Mo_host_8 : decode b_Mo_host 8 = .ok (.invokestatic 171, 3) := by decide +kernel
theorem d_Mo_host_11 : decode b_Mo_host 11 = .ok (.ifCond .eq (13), 3) := by decide +kernel
theorem d_Mo_host_14 : decode b_Mo_host 14 = .ok (.iload_n 2, 1) := by decide +kernel
theorem d_Mo_host_15 : decode b_Mo_host 15 = .ok (.iconst (0), 1) := by decide +kernel
theorem d_Mo_host_16 : decode b_Mo_host 16 = .ok (.bipush (17), 2) := by decide +kernel
theorem d_Mo_host_18 : decode b_Mo_host 18 = .ok (.invokestatic 171, 3) := by decide +kernel
theorem d_Mo_host_21 : decode b_Mo_host 21 = .ok (.ifCond .ne (5), 3) := by decide +kernel
theorem d_Mo_host_24 : decode b_Mo_host 24 = .ok (.iconst (-1), 1) := by decide +kernel
theorem d_Mo_host_25 : decode b_Mo_host 25 = .ok (.ireturn, 1) := by decide +kernel
theorem d_Mo_host_26 : decode b_Mo_host 26 = .ok (.iload_n 2, 1) := by decide +kernel
theorem d_Mo_host_27 : decode b_Mo_host 27 = .ok (.iconst (2), 1) := by decide +kernel
theorem d_Mo_host_28 : decode b_Mo_host 28 = .ok (.if_icmp .ge (32), 3) := by decide +kernel
theorem d_Mo_host_31 : decode b_Mo_host 31 = .ok (.iload_n 2, 1) := by decide +kernel
theorem d_Mo_host_32 : decode b_Mo_host 32 = .ok (.iconst (1), 1) := by decide +kernel
theorem d_Mo_host_33 : decode b_Mo_host 33 = .ok (.if_icmp .ne (12), 3) := by decide +kernel
theorem d_Mo_host_36 : decode b_Mo_host 36 = .ok (.aload_n 0, 1) := by decide +kernel
theorem d_Mo_host_37 : decode b_Mo_host 37 = .ok (.getfield 38, 3) := by decide +kernel
theorem d_Mo_host_40 : decode b_Mo_host 40 = .ok (.iload_n 1, 1) := by decide +kernel
theorem d_Mo_host_41 : decode b_Mo_host 41 = .ok (.iaload, 1) := by decide +kernel
theorem d_Mo_host_42 : decode b_Mo_host 42 = .ok (.goto (17), 3) := by decide +kernel
theorem d_Mo_host_45 : decode b_Mo_host 45 = .ok (.aload_n 0, 1) := by decide +kernel
theorem d_Mo_host_46 : decode b_Mo_host 46 = .ok (.getfield 34, 3) := by decide +kernel
theorem d_Mo_host_49 : decode b_Mo_host 49 = .ok (.iload_n 1, 1) := by decide +kernel
theorem d_Mo_host_50 : decode b_Mo_host 50 = .ok (.baload, 1) := by decide +kernel
theorem d_Mo_host_51 : decode b_Mo_host 51 = .ok (.ifCond .eq (7), 3) := by decide +kernel
theorem d_Mo_host_54 : decode b_Mo_host 54 = .ok (.iconst (1), 1) := by decide +kernel
theorem d_Mo_host_55 : decode b_Mo_host 55 = .ok (.goto (4), 3) := by decide +kernel
theorem d_Mo_host_58 : decode b_Mo_host 58 = .ok (.iconst (0), 1) := by decide +kernel
theorem d_Mo_host_59 : decode b_Mo_host 59 = .ok (.ireturn, 1) := by decide +kernel
theorem d_Mo_host_60 : decode b_Mo_host 60 = .ok (.aload_n 0, 1) := by decide +kernel
theorem d_Mo_host_61 : decode b_Mo_host 61 = .ok (.getfield 34, 3) := by decide +kernel
theorem d_Mo_host_64 : decode b_Mo_host 64 = .ok (.iload_n 1, 1) := by decide +kernel
theorem d_Mo_host_65 : decode b_Mo_host 65 = .ok (.baload, 1) := by decide +kernel
theorem d_Mo_host_66 : decode b_Mo_host 66 = .ok (.ifCond .ne (7), 3) := by decide +kernel
theorem d_Mo_host_69 : decode b_Mo_host 69 = .ok (.iconst (-1), 1) := by decide +kernel
theorem d_Mo_host_70 : decode b_Mo_host 70 = .ok (.goto (39), 3) := by decide +kernel
theorem d_Mo_host_73 : decode b_Mo_host 73 = .ok (.iload_n 2, 1) := by decide +kernel
theorem d_Mo_host_74 : decode b_Mo_host 74 = .ok (.bipush (10), 2) := by decide +kernel
theorem d_Mo_host_76 : decode b_Mo_host 76 = .ok (.if_icmp .ge (19), 3) := by decide +kernel
theorem d_Mo_host_79 : decode b_Mo_host 79 = .ok (.aload_n 0, 1) := by decide +kernel
theorem d_Mo_host_80 : decode b_Mo_host 80 = .ok (.getfield 53, 3) := by decide +kernel
theorem d_Mo_host_83 : decode b_Mo_host 83 = .ok (.bipush (24), 2) := by decide +kernel
theorem d_Mo_host_85 : decode b_Mo_host 85 = .ok (.iload_n 1, 1) := by decide +kernel
theorem d_Mo_host_86 : decode b_Mo_host 86 = .ok (.imul, 1) := by decide +kernel
theorem d_Mo_host_87 : decode b_Mo_host 87 = .ok (.iload_n 2, 1) := by decide +kernel
theorem d_Mo_host_88 : decode b_Mo_host 88 = .ok (.iadd, 1) := by decide +kernel
theorem d_Mo_host_89 : decode b_Mo_host 89 = .ok (.iconst (2), 1) := by decide +kernel
theorem d_Mo_host_90 : decode b_Mo_host 90 = .ok (.isub, 1) := by decide +kernel
theorem d_Mo_host_91 : decode b_Mo_host 91 = .ok (.iaload, 1) := by decide +kernel
theorem d_Mo_host_92 : decode b_Mo_host 92 = .ok (.goto (17), 3) := by decide +kernel
theorem d_Mo_host_95 : decode b_Mo_host 95 = .ok (.aload_n 0, 1) := by decide +kernel
theorem d_Mo_host_96 : decode b_Mo_host 96 = .ok (.getfield 47, 3) := by decide +kernel
theorem d_Mo_host_99 : decode b_Mo_host 99 = .ok (.bipush (24), 2) := by decide +kernel
theorem d_Mo_host_101 : decode b_Mo_host 101 = .ok (.iload_n 1, 1) := by decide +kernel
theorem d_Mo_host_102 : decode b_Mo_host 102 = .ok (.imul, 1) := by decide +kernel
theorem d_Mo_host_103 : decode b_Mo_host 103 = .ok (.iload_n 2, 1) := by decide +kernel
theorem d_Mo_host_104 : decode b_Mo_host 104 = .ok (.iadd, 1) := by decide +kernel
theorem d_Mo_host_105 : decode b_Mo_host 105 = .ok (.bipush (10), 2) := by decide +kernel
theorem d_Mo_host_107 : decode b_Mo_host 107 = .ok (.isub, 1) := by decide +kernel
theorem d_Mo_host_108 : decode b_Mo_host 108 = .ok (.iaload, 1) := by decide +kernel
theorem d_Mo_host_109 : decode b_Mo_host 109 = .ok (.ireturn, 1) := by decide +kernel
theorem d_Mo_sealed_0 : decode b_Mo_sealed 0 = .ok (.aload_n 0, 1) := by decide +kernel
theorem d_Mo_sealed_1 : decode b_Mo_sealed 1 = .ok (.iconst (0), 1) := by decide +kernel
theorem d_Mo_sealed_2 : decode b_Mo_sealed 2 = .ok (.putfield 142, 3) := by decide +kernel
theorem d_Mo_sealed_5 : decode b_Mo_sealed 5 = .ok (.iload_n 1, 1) := by decide +kernel
theorem d_Mo_sealed_6 : decode b_Mo_sealed 6 = .ok (.iconst (0), 1) := by decide +kernel
theorem d_Mo_sealed_7 : decode b_Mo_sealed 7 = .ok (.bipush (7), 2) := by decide +kernel
theorem d_Mo_sealed_9 : decode b_Mo_sealed 9 = .ok (.invokestatic 171, 3) := by decide +kernel
theorem d_Mo_sealed_12 : decode b_Mo_sealed 12 = .ok (.ifCond .ne (5), 3) := by decide +kernel
theorem d_Mo_sealed_15 : decode b_Mo_sealed 15 = .ok (.iconst (-1), 1) := by decide +kernel
theorem d_Mo_sealed_16 : decode b_Mo_sealed 16 = .ok (.ireturn, 1) := by decide +kernel
theorem d_Mo_sealed_17 : decode b_Mo_sealed 17 = .ok (.iconst (-1), 1) := by decide +kernel
theorem d_Mo_sealed_18 : decode b_Mo_sealed 18 = .ok (.istore_n 2, 1) := by decide +kernel
theorem d_Mo_sealed_19 : decode b_Mo_sealed 19 = .ok (.iconst (0), 1) := by decide +kernel
theorem d_Mo_sealed_20 : decode b_Mo_sealed 20 = .ok (.istore_n 3, 1) := by decide +kernel
theorem d_Mo_sealed_21 : decode b_Mo_sealed 21 = .ok (.iload_n 3, 1) := by decide +kernel
theorem d_Mo_sealed_22 : decode b_Mo_sealed 22 = .ok (.iconst (4), 1) := by decide +kernel
theorem d_Mo_sealed_23 : decode b_Mo_sealed 23 = .ok (.if_icmp .ge (53), 3) := by decide +kernel
theorem d_Mo_sealed_26 : decode b_Mo_sealed 26 = .ok (.bipush (24), 2) := by decide +kernel
theorem d_Mo_sealed_28 : decode b_Mo_sealed 28 = .ok (.iload_n 3, 1) := by decide +kernel
theorem d_Mo_sealed_29 : decode b_Mo_sealed 29 = .ok (.imul, 1) := by decide +kernel
theorem d_Mo_sealed_30 : decode b_Mo_sealed 30 = .ok (.bipush (16), 2) := by decide +kernel
theorem d_Mo_sealed_32 : decode b_Mo_sealed 32 = .ok (.iadd, 1) := by decide +kernel
theorem d_Mo_sealed_33 : decode b_Mo_sealed 33 = .ok (.iload_n 1, 1) := by decide +kernel
theorem d_Mo_sealed_34 : decode b_Mo_sealed 34 = .ok (.iadd, 1) := by decide +kernel
theorem d_Mo_sealed_35 : decode b_Mo_sealed 35 = .ok (.istore 4, 2) := by decide +kernel
theorem d_Mo_sealed_37 : decode b_Mo_sealed 37 = .ok (.aload_n 0, 1) := by decide +kernel
theorem d_Mo_sealed_38 : decode b_Mo_sealed 38 = .ok (.getfield 41, 3) := by decide +kernel
theorem d_Mo_sealed_41 : decode b_Mo_sealed 41 = .ok (.iload 4, 2) := by decide +kernel
theorem d_Mo_sealed_43 : decode b_Mo_sealed 43 = .ok (.iaload, 1) := by decide +kernel
theorem d_Mo_sealed_44 : decode b_Mo_sealed 44 = .ok (.ifCond .le (24), 3) := by decide +kernel
theorem d_Mo_sealed_47 : decode b_Mo_sealed 47 = .ok (.aload_n 0, 1) := by decide +kernel
theorem d_Mo_sealed_48 : decode b_Mo_sealed 48 = .ok (.getfield 74, 3) := by decide +kernel
theorem d_Mo_sealed_51 : decode b_Mo_sealed 51 = .ok (.iload 4, 2) := by decide +kernel
theorem d_Mo_sealed_53 : decode b_Mo_sealed 53 = .ok (.iaload, 1) := by decide +kernel
theorem d_Mo_sealed_54 : decode b_Mo_sealed 54 = .ok (.iload_n 2, 1) := by decide +kernel
theorem d_Mo_sealed_55 : decode b_Mo_sealed 55 = .ok (.if_icmp .le (13), 3) := by decide +kernel
theorem d_Mo_sealed_58 : decode b_Mo_sealed 58 = .ok (.aload_n 0, 1) := by decide +kernel
theorem d_Mo_sealed_59 : decode b_Mo_sealed 59 = .ok (.getfield 74, 3) := by decide +kernel
theorem d_Mo_sealed_62 : decode b_Mo_sealed 62 = .ok (.iload 4, 2) := by decide +kernel
theorem d_Mo_sealed_64 : decode b_Mo_sealed 64 = .ok (.iaload, 1) := by decide +kernel
theorem d_Mo_sealed_65 : decode b_Mo_sealed 65 = .ok (.goto (4), 3) := by decide +kernel
theorem d_Mo_sealed_68 : decode b_Mo_sealed 68 = .ok (.iload_n 2, 1) := by decide +kernel
theorem d_Mo_sealed_69 : decode b_Mo_sealed 69 = .ok (.istore_n 2, 1) := by decide +kernel
theorem d_Mo_sealed_70 : decode b_Mo_sealed 70 = .ok (.iinc 3 (1), 3) := by decide +kernel
theorem d_Mo_sealed_73 : decode b_Mo_sealed 73 = .ok (.goto (-52), 3) := by decide +kernel
theorem d_Mo_sealed_76 : decode b_Mo_sealed 76 = .ok (.iconst (0), 1) := by decide +kernel
theorem d_Mo_sealed_77 : decode b_Mo_sealed 77 = .ok (.istore_n 3, 1) := by decide +kernel
theorem d_Mo_sealed_78 : decode b_Mo_sealed 78 = .ok (.iconst (0), 1) := by decide +kernel
theorem d_Mo_sealed_79 : decode b_Mo_sealed 79 = .ok (.istore 4, 2) := by decide +kernel
theorem d_Mo_sealed_81 : decode b_Mo_sealed 81 = .ok (.iconst (0), 1) := by decide +kernel
theorem d_Mo_sealed_82 : decode b_Mo_sealed 82 = .ok (.istore 5, 2) := by decide +kernel
theorem d_Mo_sealed_84 : decode b_Mo_sealed 84 = .ok (.iload 5, 2) := by decide +kernel
theorem d_Mo_sealed_86 : decode b_Mo_sealed 86 = .ok (.iconst (4), 1) := by decide +kernel
theorem d_Mo_sealed_87 : decode b_Mo_sealed 87 = .ok (.if_icmp .ge (100), 3) := by decide +kernel
theorem d_Mo_sealed_90 : decode b_Mo_sealed 90 = .ok (.bipush (24), 2) := by decide +kernel
theorem d_Mo_sealed_92 : decode b_Mo_sealed 92 = .ok (.iload 5, 2) := by decide +kernel
theorem d_Mo_sealed_94 : decode b_Mo_sealed 94 = .ok (.imul, 1) := by decide +kernel
theorem d_Mo_sealed_95 : decode b_Mo_sealed 95 = .ok (.bipush (16), 2) := by decide +kernel
theorem d_Mo_sealed_97 : decode b_Mo_sealed 97 = .ok (.iadd, 1) := by decide +kernel
theorem d_Mo_sealed_98 : decode b_Mo_sealed 98 = .ok (.iload_n 1, 1) := by decide +kernel
theorem d_Mo_sealed_99 : decode b_Mo_sealed 99 = .ok (.iadd, 1) := by decide +kernel
theorem d_Mo_sealed_100 : decode b_Mo_sealed 100 = .ok (.istore 6, 2) := by decide +kernel
theorem d_Mo_sealed_102 : decode b_Mo_sealed 102 = .ok (.aload_n 0, 1) := by decide +kernel
theorem d_Mo_sealed_103 : decode b_Mo_sealed 103 = .ok (.getfield 41, 3) := by decide +kernel
theorem d_Mo_sealed_106 : decode b_Mo_sealed 106 = .ok (.iload 6, 2) := by decide +kernel
theorem d_Mo_sealed_108 : decode b_Mo_sealed 108 = .ok (.iaload, 1) := by decide +kernel
theorem d_Mo_sealed_109 : decode b_Mo_sealed 109 = .ok (.ifCond .le (18), 3) := by decide +kernel
theorem d_Mo_sealed_112 : decode b_Mo_sealed 112 = .ok (.aload_n 0, 1) := by decide +kernel
theorem d_Mo_sealed_113 : decode b_Mo_sealed 113 = .ok (.getfield 74, 3) := by decide +kernel
theorem d_Mo_sealed_116 : decode b_Mo_sealed 116 = .ok (.iload 6, 2) := by decide +kernel
theorem d_Mo_sealed_118 : decode b_Mo_sealed 118 = .ok (.iaload, 1) := by decide +kernel
theorem d_Mo_sealed_119 : decode b_Mo_sealed 119 = .ok (.iload_n 2, 1) := by decide +kernel
theorem d_Mo_sealed_120 : decode b_Mo_sealed 120 = .ok (.if_icmp .ne (7), 3) := by decide +kernel
theorem d_Mo_sealed_123 : decode b_Mo_sealed 123 = .ok (.iconst (1), 1) := by decide +kernel
theorem d_Mo_sealed_124 : decode b_Mo_sealed 124 = .ok (.goto (4), 3) := by decide +kernel
theorem d_Mo_sealed_127 : decode b_Mo_sealed 127 = .ok (.iconst (0), 1) := by decide +kernel
theorem d_Mo_sealed_128 : decode b_Mo_sealed 128 = .ok (.istore 7, 2) := by decide +kernel
theorem d_Mo_sealed_130 : decode b_Mo_sealed 130 = .ok (.iload 7, 2) := by decide +kernel
theorem d_Mo_sealed_132 : decode b_Mo_sealed 132 = .ok (.ifCond .eq (20), 3) := by decide +kernel
theorem d_Mo_sealed_135 : decode b_Mo_sealed 135 = .ok (.aload_n 0, 1) := by decide +kernel
theorem d_Mo_sealed_136 : decode b_Mo_sealed 136 = .ok (.getfield 41, 3) := by decide +kernel
theorem d_Mo_sealed_139 : decode b_Mo_sealed 139 = .ok (.iload 6, 2) := by decide +kernel
theorem d_Mo_sealed_141 : decode b_Mo_sealed 141 = .ok (.iaload, 1) := by decide +kernel
theorem d_Mo_sealed_142 : decode b_Mo_sealed 142 = .ok (.iconst (2), 1) := by decide +kernel
theorem d_Mo_sealed_143 : decode b_Mo_sealed 143 = .ok (.if_icmp .eq (9), 3) := by decide +kernel
theorem d_Mo_sealed_146 : decode b_Mo_sealed 146 = .ok (.iload_n 3, 1) := by decide +kernel
theorem d_Mo_sealed_147 : decode b_Mo_sealed 147 = .ok (.iconst (1), 1) := by decide +kernel
theorem d_Mo_sealed_148 : decode b_Mo_sealed 148 = .ok (.iadd, 1) := by decide +kernel
theorem d_Mo_sealed_149 : decode b_Mo_sealed 149 = .ok (.goto (4), 3) := by decide +kernel
theorem d_Mo_sealed_152 : decode b_Mo_sealed 152 = .ok (.iload_n 3, 1) := by decide +kernel
theorem d_Mo_sealed_153 : decode b_Mo_sealed 153 = .ok (.istore_n 3, 1) := by decide +kernel
theorem d_Mo_sealed_154 : decode b_Mo_sealed 154 = .ok (.iload 7, 2) := by decide +kernel
theorem d_Mo_sealed_156 : decode b_Mo_sealed 156 = .ok (.ifCond .eq (21), 3) := by decide +kernel
theorem d_Mo_sealed_159 : decode b_Mo_sealed 159 = .ok (.aload_n 0, 1) := by decide +kernel
theorem d_Mo_sealed_160 : decode b_Mo_sealed 160 = .ok (.getfield 41, 3) := by decide +kernel
theorem d_Mo_sealed_163 : decode b_Mo_sealed 163 = .ok (.iload 6, 2) := by decide +kernel
theorem d_Mo_sealed_165 : decode b_Mo_sealed 165 = .ok (.iaload, 1) := by decide +kernel
theorem d_Mo_sealed_166 : decode b_Mo_sealed 166 = .ok (.iconst (2), 1) := by decide +kernel
theorem d_Mo_sealed_167 : decode b_Mo_sealed 167 = .ok (.if_icmp .ne (10), 3) := by decide +kernel
theorem d_Mo_sealed_170 : decode b_Mo_sealed 170 = .ok (.iload 4, 2) := by decide +kernel
theorem d_Mo_sealed_172 : decode b_Mo_sealed 172 = .ok (.iconst (1), 1) := by decide +kernel
theorem d_Mo_sealed_173 : decode b_Mo_sealed 173 = .ok (.iadd, 1) := by decide +kernel
theorem d_Mo_sealed_174 : decode b_Mo_sealed 174 = .ok (.goto (5), 3) := by decide +kernel
theorem d_Mo_sealed_177 : decode b_Mo_sealed 177 = .ok (.iload 4, 2) := by decide +kernel
theorem d_Mo_sealed_179 : decode b_Mo_sealed 179 = .ok (.istore 4, 2) := by decide +kernel
theorem d_Mo_sealed_181 : decode b_Mo_sealed 181 = .ok (.iinc 5 (1), 3) := by decide +kernel
theorem d_Mo_sealed_184 : decode b_Mo_sealed 184 = .ok (.goto (-100), 3) := by decide +kernel
theorem d_Mo_sealed_187 : decode b_Mo_sealed 187 = .ok (.iload_n 2, 1) := by decide +kernel
theorem d_Mo_sealed_188 : decode b_Mo_sealed 188 = .ok (.ifCond .ge (7), 3) := by decide +kernel
theorem d_Mo_sealed_191 : decode b_Mo_sealed 191 = .ok (.iconst (-1), 1) := by decide +kernel
theorem d_Mo_sealed_192 : decode b_Mo_sealed 192 = .ok (.goto (18), 3) := by decide +kernel
theorem d_Mo_sealed_195 : decode b_Mo_sealed 195 = .ok (.bipush (100), 2) := by decide +kernel
theorem d_Mo_sealed_197 : decode b_Mo_sealed 197 = .ok (.iload_n 2, 1) := by decide +kernel
theorem d_Mo_sealed_198 : decode b_Mo_sealed 198 = .ok (.imul, 1) := by decide +kernel
theorem d_Mo_sealed_199 : decode b_Mo_sealed 199 = .ok (.iload_n 3, 1) := by decide +kernel
theorem d_Mo_sealed_200 : decode b_Mo_sealed 200 = .ok (.ifCond .le (7), 3) := by decide +kernel
theorem d_Mo_sealed_203 : decode b_Mo_sealed 203 = .ok (.iload_n 3, 1) := by decide +kernel
theorem d_Mo_sealed_204 : decode b_Mo_sealed 204 = .ok (.goto (5), 3) := by decide +kernel
theorem d_Mo_sealed_207 : decode b_Mo_sealed 207 = .ok (.iload 4, 2) := by decide +kernel
theorem d_Mo_sealed_209 : decode b_Mo_sealed 209 = .ok (.iadd, 1) := by decide +kernel
theorem d_Mo_sealed_210 : decode b_Mo_sealed 210 = .ok (.ireturn, 1) := by decide +kernel
theorem d_Mo_outputs_0 : decode b_Mo_outputs 0 = .ok (.aload_n 0, 1) := by decide +kernel
theorem d_Mo_outputs_1 : decode b_Mo_outputs 1 = .ok (.iconst (0), 1) := by decide +kernel
theorem d_Mo_outputs_2 : decode b_Mo_outputs 2 = .ok (.putfield 142, 3) := by decide +kernel
theorem d_Mo_outputs_5 : decode b_Mo_outputs 5 = .ok (.iload_n 1, 1) := by decide +kernel
theorem d_Mo_outputs_6 : decode b_Mo_outputs 6 = .ok (.iconst (0), 1) := by decide +kernel
theorem d_Mo_outputs_7 : decode b_Mo_outputs 7 = .ok (.bipush (7), 2) := by decide +kernel
theorem d_Mo_outputs_9 : decode b_Mo_outputs 9 = .ok (.invokestatic 171, 3) := by decide +kernel
theorem d_Mo_outputs_12 : decode b_Mo_outputs 12 = .ok (.ifCond .eq (12), 3) := by decide +kernel
theorem d_Mo_outputs_15 : decode b_Mo_outputs 15 = .ok (.aload_n 0, 1) := by decide +kernel
theorem d_Mo_outputs_16 : decode b_Mo_outputs 16 = .ok (.getfield 28, 3) := by decide +kernel
theorem d_Mo_outputs_19 : decode b_Mo_outputs 19 = .ok (.iload_n 1, 1) := by decide +kernel
theorem d_Mo_outputs_20 : decode b_Mo_outputs 20 = .ok (.iaload, 1) := by decide +kernel
theorem d_Mo_outputs_21 : decode b_Mo_outputs 21 = .ok (.goto (4), 3) := by decide +kernel
theorem d_Mo_outputs_24 : decode b_Mo_outputs 24 = .ok (.iconst (-1), 1) := by decide +kernel
theorem d_Mo_outputs_25 : decode b_Mo_outputs 25 = .ok (.ireturn, 1) := by decide +kernel
theorem d_Mo_output_0 : decode b_Mo_output 0 = .ok (.aload_n 0, 1) := by decide +kernel
theorem d_Mo_output_1 : decode b_Mo_output 1 = .ok (.iconst (0), 1) := by decide +kernel
theorem d_Mo_output_2 : decode b_Mo_output 2 = .ok (.putfield 142, 3) := by decide +kernel
theorem d_Mo_output_5 : decode b_Mo_output 5 = .ok (.iload_n 1, 1) := by decide +kernel
theorem d_Mo_output_6 : decode b_Mo_output 6 = .ok (.iconst (0), 1) := by decide +kernel
theorem d_Mo_output_7 : decode b_Mo_output 7 = .ok (.bipush (7), 2) := by decide +kernel
theorem d_Mo_output_9 : decode b_Mo_output 9 = .ok (.invokestatic 171, 3) := by decide +kernel
theorem d_Mo_output_12 : decode b_Mo_output 12 = .ok (.ifCond .eq (34), 3) := by decide +kernel
theorem d_Mo_output_15 : decode b_Mo_output 15 = .ok (.iload_n 2, 1) := by decide +kernel
theorem d_Mo_output_16 : decode b_Mo_output 16 = .ok (.iconst (0), 1) := by decide +kernel
theorem d_Mo_output_17 : decode b_Mo_output 17 = .ok (.aload_n 0, 1) := by decide +kernel
theorem d_Mo_output_18 : decode b_Mo_output 18 = .ok (.getfield 28, 3) := by decide +kernel
theorem d_Mo_output_21 : decode b_Mo_output 21 = .ok (.iload_n 1, 1) := by decide +kernel
theorem d_Mo_output_22 : decode b_Mo_output 22 = .ok (.iaload, 1) := by decide +kernel
theorem d_Mo_output_23 : decode b_Mo_output 23 = .ok (.iconst (1), 1) := by decide +kernel
theorem d_Mo_output_24 : decode b_Mo_output 24 = .ok (.isub, 1) := by decide +kernel
theorem d_Mo_output_25 : decode b_Mo_output 25 = .ok (.invokestatic 171, 3) := by decide +kernel
theorem d_Mo_output_28 : decode b_Mo_output 28 = .ok (.ifCond .eq (18), 3) := by decide +kernel
theorem d_Mo_output_31 : decode b_Mo_output 31 = .ok (.aload_n 0, 1) := by decide +kernel
theorem d_Mo_output_32 : decode b_Mo_output 32 = .ok (.getfield 31, 3) := by decide +kernel
theorem d_Mo_output_35 : decode b_Mo_output 35 = .ok (.bipush (16), 2) := by decide +kernel
theorem d_Mo_output_37 : decode b_Mo_output 37 = .ok (.iload_n 1, 1) := by decide +kernel
theorem d_Mo_output_38 : decode b_Mo_output 38 = .ok (.imul, 1) := by decide +kernel
theorem d_Mo_output_39 : decode b_Mo_output 39 = .ok (.iload_n 2, 1) := by decide +kernel
theorem d_Mo_output_40 : decode b_Mo_output 40 = .ok (.iadd, 1) := by decide +kernel
theorem d_Mo_output_41 : decode b_Mo_output 41 = .ok (.iaload, 1) := by decide +kernel
theorem d_Mo_output_42 : decode b_Mo_output 42 = .ok (.i2l, 1) := by decide +kernel
theorem d_Mo_output_43 : decode b_Mo_output 43 = .ok (.goto (6), 3) := by decide +kernel
theorem d_Mo_output_46 : decode b_Mo_output 46 = .ok (.ldc2_w 150, 3) := by decide +kernel
theorem d_Mo_output_49 : decode b_Mo_output 49 = .ok (.lreturn, 1) := by decide +kernel
theorem d_Mo_runOn_0 : decode b_Mo_runOn 0 = .ok (.aload_n 0, 1) := by decide +kernel
theorem d_Mo_runOn_1 : decode b_Mo_runOn 1 = .ok (.iconst (0), 1) := by decide +kernel
theorem d_Mo_runOn_2 : decode b_Mo_runOn 2 = .ok (.putfield 205, 3) := by decide +kernel
theorem d_Mo_runOn_5 : decode b_Mo_runOn 5 = .ok (.iconst (1), 1) := by decide +kernel
theorem d_Mo_runOn_6 : decode b_Mo_runOn 6 = .ok (.istore_n 2, 1) := by decide +kernel
theorem d_Mo_runOn_7 : decode b_Mo_runOn 7 = .ok (.iload_n 2, 1) := by decide +kernel
theorem d_Mo_runOn_8 : decode b_Mo_runOn 8 = .ok (.ifCond .eq (37), 3) := by decide +kernel
theorem d_Mo_runOn_11 : decode b_Mo_runOn 11 = .ok (.aload_n 0, 1) := by decide +kernel
theorem d_Mo_runOn_12 : decode b_Mo_runOn 12 = .ok (.getfield 71, 3) := by decide +kernel
theorem d_Mo_runOn_15 : decode b_Mo_runOn 15 = .ok (.iload_n 1, 1) := by decide +kernel
theorem d_Mo_runOn_16 : decode b_Mo_runOn 16 = .ok (.iaload, 1) := by decide +kernel
theorem d_Mo_runOn_17 : decode b_Mo_runOn 17 = .ok (.ifCond .le (28), 3) := by decide +kernel
theorem d_Mo_runOn_20 : decode b_Mo_runOn 20 = .ok (.aload_n 0, 1) := by decide +kernel
theorem d_Mo_runOn_21 : decode b_Mo_runOn 21 = .ok (.iload_n 1, 1) := by decide +kernel
theorem d_Mo_runOn_22 : decode b_Mo_runOn 22 = .ok (.iconst (-1), 1) := by decide +kernel
theorem d_Mo_runOn_23 : decode b_Mo_runOn 23 = .ok (.invokevirtual 266, 3) := by decide +kernel
theorem d_Mo_runOn_26 : decode b_Mo_runOn 26 = .ok (.ifCond .eq (14), 3) := by decide +kernel
theorem d_Mo_runOn_29 : decode b_Mo_runOn 29 = .ok (.aload_n 0, 1) := by decide +kernel
theorem d_Mo_runOn_30 : decode b_Mo_runOn 30 = .ok (.getfield 227, 3) := by decide +kernel
theorem d_Mo_runOn_33 : decode b_Mo_runOn 33 = .ok (.ifCond .ne (7), 3) := by decide +kernel
theorem d_Mo_runOn_36 : decode b_Mo_runOn 36 = .ok (.iconst (1), 1) := by decide +kernel
theorem d_Mo_runOn_37 : decode b_Mo_runOn 37 = .ok (.goto (4), 3) := by decide +kernel
theorem d_Mo_runOn_40 : decode b_Mo_runOn 40 = .ok (.iconst (0), 1) := by decide +kernel
theorem d_Mo_runOn_41 : decode b_Mo_runOn 41 = .ok (.istore_n 2, 1) := by decide +kernel
theorem d_Mo_runOn_42 : decode b_Mo_runOn 42 = .ok (.goto (-35), 3) := by decide +kernel
theorem d_Mo_runOn_45 : decode b_Mo_runOn 45 = .ok (.return_, 1) := by decide +kernel
theorem d_Mo_runAlone_0 : decode b_Mo_runAlone 0 = .ok (.iload_n 1, 1) := by decide +kernel
theorem d_Mo_runAlone_1 : decode b_Mo_runAlone 1 = .ok (.iconst (0), 1) := by decide +kernel
theorem d_Mo_runAlone_2 : decode b_Mo_runAlone 2 = .ok (.bipush (7), 2) := by decide +kernel
theorem d_Mo_runAlone_4 : decode b_Mo_runAlone 4 = .ok (.invokestatic 171, 3) := by decide +kernel
theorem d_Mo_runAlone_7 : decode b_Mo_runAlone 7 = .ok (.ifCond .eq (13), 3) := by decide +kernel
theorem d_Mo_runAlone_10 : decode b_Mo_runAlone 10 = .ok (.iload_n 1, 1) := by decide +kernel
theorem d_Mo_runAlone_11 : decode b_Mo_runAlone 11 = .ok (.iconst (4), 1) := by decide +kernel
theorem d_Mo_runAlone_12 : decode b_Mo_runAlone 12 = .ok (.irem, 1) := by decide +kernel
theorem d_Mo_runAlone_13 : decode b_Mo_runAlone 13 = .ok (.aload_n 0, 1) := by decide +kernel
theorem d_Mo_runAlone_14 : decode b_Mo_runAlone 14 = .ok (.getfield 175, 3) := by decide +kernel
theorem d_Mo_runAlone_17 : decode b_Mo_runAlone 17 = .ok (.if_icmp .lt (5), 3) := by decide +kernel
theorem d_Mo_runAlone_20 : decode b_Mo_runAlone 20 = .ok (.iconst (0), 1) := by decide +kernel
theorem d_Mo_runAlone_21 : decode b_Mo_runAlone 21 = .ok (.ireturn, 1) := by decide +kernel
theorem d_Mo_runAlone_22 : decode b_Mo_runAlone 22 = .ok (.aload_n 0, 1) := by decide +kernel
theorem d_Mo_runAlone_23 : decode b_Mo_runAlone 23 = .ok (.aload_n 0, 1) := by decide +kernel
theorem d_Mo_runAlone_24 : decode b_Mo_runAlone 24 = .ok (.getfield 19, 3) := by decide +kernel
theorem d_Mo_runAlone_27 : decode b_Mo_runAlone 27 = .ok (.iload_n 1, 1) := by decide +kernel
theorem d_Mo_runAlone_28 : decode b_Mo_runAlone 28 = .ok (.iconst (4), 1) := by decide +kernel
theorem d_Mo_runAlone_29 : decode b_Mo_runAlone 29 = .ok (.irem, 1) := by decide +kernel
theorem d_Mo_runAlone_30 : decode b_Mo_runAlone 30 = .ok (.iaload, 1) := by decide +kernel
theorem d_Mo_runAlone_31 : decode b_Mo_runAlone 31 = .ok (.putfield 208, 3) := by decide +kernel
theorem d_Mo_runAlone_34 : decode b_Mo_runAlone 34 = .ok (.aload_n 0, 1) := by decide +kernel
theorem d_Mo_runAlone_35 : decode b_Mo_runAlone 35 = .ok (.iconst (0), 1) := by decide +kernel
theorem d_Mo_runAlone_36 : decode b_Mo_runAlone 36 = .ok (.putfield 216, 3) := by decide +kernel
theorem d_Mo_runAlone_39 : decode b_Mo_runAlone 39 = .ok (.aload_n 0, 1) := by decide +kernel
theorem d_Mo_runAlone_40 : decode b_Mo_runAlone 40 = .ok (.bipush (96), 2) := by decide +kernel
theorem d_Mo_runAlone_42 : decode b_Mo_runAlone 42 = .ok (.iload_n 1, 1) := by decide +kernel
theorem d_Mo_runAlone_43 : decode b_Mo_runAlone 43 = .ok (.iconst (4), 1) := by decide +kernel
theorem d_Mo_runAlone_44 : decode b_Mo_runAlone 44 = .ok (.irem, 1) := by decide +kernel
theorem d_Mo_runAlone_45 : decode b_Mo_runAlone 45 = .ok (.invokevirtual 183, 3) := by decide +kernel
theorem d_Mo_runAlone_48 : decode b_Mo_runAlone 48 = .ok (.iload_n 1, 1) := by decide +kernel
theorem d_Mo_runAlone_49 : decode b_Mo_runAlone 49 = .ok (.iconst (4), 1) := by decide +kernel
theorem d_Mo_runAlone_50 : decode b_Mo_runAlone 50 = .ok (.if_icmp .ge (11), 3) := by decide +kernel
theorem d_Mo_runAlone_53 : decode b_Mo_runAlone 53 = .ok (.aload_n 0, 1) := by decide +kernel
theorem d_Mo_runAlone_54 : decode b_Mo_runAlone 54 = .ok (.bipush (96), 2) := by decide +kernel
theorem d_Mo_runAlone_56 : decode b_Mo_runAlone 56 = .ok (.invokevirtual 311, 3) := by decide +kernel
theorem d_Mo_runAlone_59 : decode b_Mo_runAlone 59 = .ok (.iconst (1), 1) := by decide +kernel
theorem d_Mo_runAlone_60 : decode b_Mo_runAlone 60 = .ok (.ireturn, 1) := by decide +kernel
theorem d_Mo_runAlone_61 : decode b_Mo_runAlone 61 = .ok (.iconst (1), 1) := by decide +kernel
theorem d_Mo_runAlone_62 : decode b_Mo_runAlone 62 = .ok (.istore_n 2, 1) := by decide +kernel
theorem d_Mo_runAlone_63 : decode b_Mo_runAlone 63 = .ok (.iload_n 2, 1) := by decide +kernel
theorem d_Mo_runAlone_64 : decode b_Mo_runAlone 64 = .ok (.ifCond .eq (51), 3) := by decide +kernel
theorem d_Mo_runAlone_67 : decode b_Mo_runAlone 67 = .ok (.aload_n 0, 1) := by decide +kernel
theorem d_Mo_runAlone_68 : decode b_Mo_runAlone 68 = .ok (.getfield 216, 3) := by decide +kernel
theorem d_Mo_runAlone_71 : decode b_Mo_runAlone 71 = .ok (.ifCond .ne (44), 3) := by decide +kernel
theorem d_Mo_runAlone_74 : decode b_Mo_runAlone 74 = .ok (.aload_n 0, 1) := by decide +kernel
theorem d_Mo_runAlone_75 : decode b_Mo_runAlone 75 = .ok (.getfield 71, 3) := by decide +kernel
theorem d_Mo_runAlone_78 : decode b_Mo_runAlone 78 = .ok (.bipush (96), 2) := by decide +kernel
theorem d_Mo_runAlone_80 : decode b_Mo_runAlone 80 = .ok (.iaload, 1) := by decide +kernel
theorem d_Mo_runAlone_81 : decode b_Mo_runAlone 81 = .ok (.ifCond .le (34), 3) := by decide +kernel
theorem d_Mo_runAlone_84 : decode b_Mo_runAlone 84 = .ok (.aload_n 0, 1) := by decide +kernel
theorem d_Mo_runAlone_85 : decode b_Mo_runAlone 85 = .ok (.iconst (0), 1) := by decide +kernel
theorem d_Mo_runAlone_86 : decode b_Mo_runAlone 86 = .ok (.putfield 205, 3) := by decide +kernel
theorem d_Mo_runAlone_89 : decode b_Mo_runAlone 89 = .ok (.aload_n 0, 1) := by decide +kernel
theorem d_Mo_runAlone_90 : decode b_Mo_runAlone 90 = .ok (.bipush (96), 2) := by decide +kernel
theorem d_Mo_runAlone_92 : decode b_Mo_runAlone 92 = .ok (.iconst (-1), 1) := by decide +kernel
theorem d_Mo_runAlone_93 : decode b_Mo_runAlone 93 = .ok (.invokevirtual 266, 3) := by decide +kernel
theorem d_Mo_runAlone_96 : decode b_Mo_runAlone 96 = .ok (.ifCond .eq (14), 3) := by decide +kernel
theorem d_Mo_runAlone_99 : decode b_Mo_runAlone 99 = .ok (.aload_n 0, 1) := by decide +kernel
theorem d_Mo_runAlone_100 : decode b_Mo_runAlone 100 = .ok (.getfield 227, 3) := by decide +kernel
theorem d_Mo_runAlone_103 : decode b_Mo_runAlone 103 = .ok (.ifCond .ne (7), 3) := by decide +kernel
theorem d_Mo_runAlone_106 : decode b_Mo_runAlone 106 = .ok (.iconst (1), 1) := by decide +kernel
theorem d_Mo_runAlone_107 : decode b_Mo_runAlone 107 = .ok (.goto (4), 3) := by decide +kernel
theorem d_Mo_runAlone_110 : decode b_Mo_runAlone 110 = .ok (.iconst (0), 1) := by decide +kernel
theorem d_Mo_runAlone_111 : decode b_Mo_runAlone 111 = .ok (.istore_n 2, 1) := by decide +kernel
theorem d_Mo_runAlone_112 : decode b_Mo_runAlone 112 = .ok (.goto (-49), 3) := by decide +kernel
theorem d_Mo_runAlone_115 : decode b_Mo_runAlone 115 = .ok (.aload_n 0, 1) := by decide +kernel
theorem d_Mo_runAlone_116 : decode b_Mo_runAlone 116 = .ok (.getfield 216, 3) := by decide +kernel
theorem d_Mo_runAlone_119 : decode b_Mo_runAlone 119 = .ok (.ifCond .eq (9), 3) := by decide +kernel
theorem d_Mo_runAlone_122 : decode b_Mo_runAlone 122 = .ok (.aload_n 0, 1) := by decide +kernel
theorem d_Mo_runAlone_123 : decode b_Mo_runAlone 123 = .ok (.bipush (97), 2) := by decide +kernel
theorem d_Mo_runAlone_125 : decode b_Mo_runAlone 125 = .ok (.invokevirtual 311, 3) := by decide +kernel
theorem d_Mo_runAlone_128 : decode b_Mo_runAlone 128 = .ok (.aload_n 0, 1) := by decide +kernel
theorem d_Mo_runAlone_129 : decode b_Mo_runAlone 129 = .ok (.getfield 216, 3) := by decide +kernel
theorem d_Mo_runAlone_132 : decode b_Mo_runAlone 132 = .ok (.ireturn, 1) := by decide +kernel
theorem d_Mo_expected_0 : decode b_Mo_expected 0 = .ok (.aload_n 0, 1) := by decide +kernel
theorem d_Mo_expected_1 : decode b_Mo_expected 1 = .ok (.iconst (0), 1) := by decide +kernel
theorem d_Mo_expected_2 : decode b_Mo_expected 2 = .ok (.putfield 142, 3) := by decide +kernel
theorem d_Mo_expected_5 : decode b_Mo_expected 5 = .ok (.aload_n 0, 1) := by decide +kernel
theorem d_Mo_expected_6 : decode b_Mo_expected 6 = .ok (.iload_n 1, 1) := by decide +kernel
theorem d_Mo_expected_7 : decode b_Mo_expected 7 = .ok (.invokevirtual 314, 3) := by decide +kernel
theorem d_Mo_expected_10 : decode b_Mo_expected 10 = .ok (.ifCond .eq (10), 3) := by decide +kernel
theorem d_Mo_expected_13 : decode b_Mo_expected 13 = .ok (.aload_n 0, 1) := by decide +kernel
theorem d_Mo_expected_14 : decode b_Mo_expected 14 = .ok (.getfield 205, 3) := by decide +kernel
theorem d_Mo_expected_17 : decode b_Mo_expected 17 = .ok (.goto (4), 3) := by decide +kernel
theorem d_Mo_expected_20 : decode b_Mo_expected 20 = .ok (.iconst (-1), 1) := by decide +kernel
theorem d_Mo_expected_21 : decode b_Mo_expected 21 = .ok (.ireturn, 1) := by decide +kernel
theorem d_Mo_expectedOutput_0 : decode b_Mo_expectedOutput 0 = .ok (.aload_n 0, 1) := by decide +kernel
theorem d_Mo_expectedOutput_1 : decode b_Mo_expectedOutput 1 = .ok (.iconst (0), 1) := by decide +kernel
theorem d_Mo_expectedOutput_2 : decode b_Mo_expectedOutput 2 = .ok (.putfield 142, 3) := by decide +kernel
theorem d_Mo_expectedOutput_5 : decode b_Mo_expectedOutput 5 = .ok (.aload_n 0, 1) := by decide +kernel
theorem d_Mo_expectedOutput_6 : decode b_Mo_expectedOutput 6 = .ok (.iload_n 1, 1) := by decide +kernel
theorem d_Mo_expectedOutput_7 : decode b_Mo_expectedOutput 7 = .ok (.invokevirtual 314, 3) := by decide +kernel
theorem d_Mo_expectedOutput_10 : decode b_Mo_expectedOutput 10 = .ok (.ifCond .eq (27), 3) := by decide +kernel
theorem d_Mo_expectedOutput_13 : decode b_Mo_expectedOutput 13 = .ok (.iload_n 2, 1) := by decide +kernel
theorem d_Mo_expectedOutput_14 : decode b_Mo_expectedOutput 14 = .ok (.iconst (0), 1) := by decide +kernel
theorem d_Mo_expectedOutput_15 : decode b_Mo_expectedOutput 15 = .ok (.aload_n 0, 1) := by decide +kernel
theorem d_Mo_expectedOutput_16 : decode b_Mo_expectedOutput 16 = .ok (.getfield 205, 3) := by decide +kernel
theorem d_Mo_expectedOutput_19 : decode b_Mo_expectedOutput 19 = .ok (.iconst (1), 1) := by decide +kernel
theorem d_Mo_expectedOutput_20 : decode b_Mo_expectedOutput 20 = .ok (.isub, 1) := by decide +kernel
theorem d_Mo_expectedOutput_21 : decode b_Mo_expectedOutput 21 = .ok (.invokestatic 171, 3) := by decide +kernel
theorem d_Mo_expectedOutput_24 : decode b_Mo_expectedOutput 24 = .ok (.ifCond .eq (13), 3) := by decide +kernel
theorem d_Mo_expectedOutput_27 : decode b_Mo_expectedOutput 27 = .ok (.aload_n 0, 1) := by decide +kernel
theorem d_Mo_expectedOutput_28 : decode b_Mo_expectedOutput 28 = .ok (.getfield 135, 3) := by decide +kernel
theorem d_Mo_expectedOutput_31 : decode b_Mo_expectedOutput 31 = .ok (.iload_n 2, 1) := by decide +kernel
theorem d_Mo_expectedOutput_32 : decode b_Mo_expectedOutput 32 = .ok (.iaload, 1) := by decide +kernel
theorem d_Mo_expectedOutput_33 : decode b_Mo_expectedOutput 33 = .ok (.i2l, 1) := by decide +kernel
theorem d_Mo_expectedOutput_34 : decode b_Mo_expectedOutput 34 = .ok (.goto (6), 3) := by decide +kernel
theorem d_Mo_expectedOutput_37 : decode b_Mo_expectedOutput 37 = .ok (.ldc2_w 150, 3) := by decide +kernel
theorem d_Mo_expectedOutput_40 : decode b_Mo_expectedOutput 40 = .ok (.lreturn, 1) := by decide +kernel
