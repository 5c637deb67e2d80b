theorem d_Mo_init_0 : decode b_Mo_init 0 = .ok (.aload_n 0, 1) := by decide +kernel
theorem d_Mo_init_1 : decode b_Mo_init 1 = .ok (.invokespecial 1, 3) := by decide +kernel
theorem d_Mo_init_4 : decode b_Mo_init 4 = .ok (.aload_n 0, 1) := by decide +kernel
theorem d_Mo_init_5 : decode b_Mo_init 5 = .ok (.sipush (192), 3) := by decide +kernel
theorem d_Mo_init_8 : decode b_Mo_init 8 = .ok (.newarray .int, 2) := by decide +kernel
theorem d_Mo_init_10 : decode b_Mo_init 10 = .ok (.putfield 7, 3) := by decide +kernel
theorem d_Mo_init_13 : decode b_Mo_init 13 = .ok (.aload_n 0, 1) := by decide +kernel
theorem d_Mo_init_14 : decode b_Mo_init 14 = .ok (.iconst (4), 1) := by decide +kernel
theorem d_Mo_init_15 : decode b_Mo_init 15 = .ok (.newarray .int, 2) := by decide +kernel
theorem d_Mo_init_17 : decode b_Mo_init 17 = .ok (.putfield 13, 3) := by decide +kernel
theorem d_Mo_init_20 : decode b_Mo_init 20 = .ok (.aload_n 0, 1) := by decide +kernel
theorem d_Mo_init_21 : decode b_Mo_init 21 = .ok (.bipush (32), 2) := by decide +kernel
theorem d_Mo_init_23 : decode b_Mo_init 23 = .ok (.newarray .int, 2) := by decide +kernel
theorem d_Mo_init_25 : decode b_Mo_init 25 = .ok (.putfield 16, 3) := by decide +kernel
theorem d_Mo_init_28 : decode b_Mo_init 28 = .ok (.aload_n 0, 1) := by decide +kernel
theorem d_Mo_init_29 : decode b_Mo_init 29 = .ok (.iconst (4), 1) := by decide +kernel
theorem d_Mo_init_30 : decode b_Mo_init 30 = .ok (.newarray .int, 2) := by decide +kernel
theorem d_Mo_init_32 : decode b_Mo_init 32 = .ok (.putfield 19, 3) := by decide +kernel
theorem d_Mo_init_35 : decode b_Mo_init 35 = .ok (.aload_n 0, 1) := by decide +kernel
theorem d_Mo_init_36 : decode b_Mo_init 36 = .ok (.iconst (4), 1) := by decide +kernel
theorem d_Mo_init_37 : decode b_Mo_init 37 = .ok (.newarray .int, 2) := by decide +kernel
theorem d_Mo_init_39 : decode b_Mo_init 39 = .ok (.putfield 22, 3) := by decide +kernel
theorem d_Mo_init_42 : decode b_Mo_init 42 = .ok (.aload_n 0, 1) := by decide +kernel
theorem d_Mo_init_43 : decode b_Mo_init 43 = .ok (.iconst (4), 1) := by decide +kernel
theorem d_Mo_init_44 : decode b_Mo_init 44 = .ok (.newarray .int, 2) := by decide +kernel
theorem d_Mo_init_46 : decode b_Mo_init 46 = .ok (.putfield 25, 3) := by decide +kernel
theorem d_Mo_init_49 : decode b_Mo_init 49 = .ok (.aload_n 0, 1) := by decide +kernel
theorem d_Mo_init_50 : decode b_Mo_init 50 = .ok (.bipush (8), 2) := by decide +kernel
theorem d_Mo_init_52 : decode b_Mo_init 52 = .ok (.newarray .int, 2) := by decide +kernel
theorem d_Mo_init_54 : decode b_Mo_init 54 = .ok (.putfield 28, 3) := by decide +kernel
theorem d_Mo_init_57 : decode b_Mo_init 57 = .ok (.aload_n 0, 1) := by decide +kernel
theorem d_Mo_init_58 : decode b_Mo_init 58 = .ok (.sipush (128), 3) := by decide +kernel
theorem d_Mo_init_61 : decode b_Mo_init 61 = .ok (.newarray .int, 2) := by decide +kernel
theorem d_Mo_init_63 : decode b_Mo_init 63 = .ok (.putfield 31, 3) := by decide +kernel
theorem d_Mo_init_66 : decode b_Mo_init 66 = .ok (.aload_n 0, 1) := by decide +kernel
theorem d_Mo_init_67 : decode b_Mo_init 67 = .ok (.iconst (4), 1) := by decide +kernel
theorem d_Mo_init_68 : decode b_Mo_init 68 = .ok (.newarray .boolean, 2) := by decide +kernel
theorem d_Mo_init_70 : decode b_Mo_init 70 = .ok (.putfield 34, 3) := by decide +kernel
theorem d_Mo_init_73 : decode b_Mo_init 73 = .ok (.aload_n 0, 1) := by decide +kernel
theorem d_Mo_init_74 : decode b_Mo_init 74 = .ok (.iconst (4), 1) := by decide +kernel
theorem d_Mo_init_75 : decode b_Mo_init 75 = .ok (.newarray .int, 2) := by decide +kernel
theorem d_Mo_init_77 : decode b_Mo_init 77 = .ok (.putfield 38, 3) := by decide +kernel
theorem d_Mo_init_80 : decode b_Mo_init 80 = .ok (.aload_n 0, 1) := by decide +kernel
theorem d_Mo_init_81 : decode b_Mo_init 81 = .ok (.bipush (96), 2) := by decide +kernel
theorem d_Mo_init_83 : decode b_Mo_init 83 = .ok (.newarray .int, 2) := by decide +kernel
theorem d_Mo_init_85 : decode b_Mo_init 85 = .ok (.putfield 41, 3) := by decide +kernel
theorem d_Mo_init_88 : decode b_Mo_init 88 = .ok (.aload_n 0, 1) := by decide +kernel
theorem d_Mo_init_89 : decode b_Mo_init 89 = .ok (.bipush (96), 2) := by decide +kernel
theorem d_Mo_init_91 : decode b_Mo_init 91 = .ok (.newarray .int, 2) := by decide +kernel
theorem d_Mo_init_93 : decode b_Mo_init 93 = .ok (.putfield 44, 3) := by decide +kernel
theorem d_Mo_init_96 : decode b_Mo_init 96 = .ok (.aload_n 0, 1) := by decide +kernel
theorem d_Mo_init_97 : decode b_Mo_init 97 = .ok (.bipush (96), 2) := by decide +kernel
theorem d_Mo_init_99 : decode b_Mo_init 99 = .ok (.newarray .int, 2) := by decide +kernel
theorem d_Mo_init_101 : decode b_Mo_init 101 = .ok (.putfield 47, 3) := by decide +kernel
theorem d_Mo_init_104 : decode b_Mo_init 104 = .ok (.aload_n 0, 1) := by decide +kernel
theorem d_Mo_init_105 : decode b_Mo_init 105 = .ok (.bipush (96), 2) := by decide +kernel
theorem d_Mo_init_107 : decode b_Mo_init 107 = .ok (.newarray .int, 2) := by decide +kernel
theorem d_Mo_init_109 : decode b_Mo_init 109 = .ok (.putfield 50, 3) := by decide +kernel
theorem d_Mo_init_112 : decode b_Mo_init 112 = .ok (.aload_n 0, 1) := by decide +kernel
theorem d_Mo_init_113 : decode b_Mo_init 113 = .ok (.bipush (96), 2) := by decide +kernel
theorem d_Mo_init_115 : decode b_Mo_init 115 = .ok (.newarray .int, 2) := by decide +kernel
theorem d_Mo_init_117 : decode b_Mo_init 117 = .ok (.putfield 53, 3) := by decide +kernel
theorem d_Mo_init_120 : decode b_Mo_init 120 = .ok (.aload_n 0, 1) := by decide +kernel
theorem d_Mo_init_121 : decode b_Mo_init 121 = .ok (.bipush (96), 2) := by decide +kernel
theorem d_Mo_init_123 : decode b_Mo_init 123 = .ok (.newarray .int, 2) := by decide +kernel
theorem d_Mo_init_125 : decode b_Mo_init 125 = .ok (.putfield 56, 3) := by decide +kernel
theorem d_Mo_init_128 : decode b_Mo_init 128 = .ok (.aload_n 0, 1) := by decide +kernel
theorem d_Mo_init_129 : decode b_Mo_init 129 = .ok (.sipush (1536), 3) := by decide +kernel
theorem d_Mo_init_132 : decode b_Mo_init 132 = .ok (.newarray .int, 2) := by decide +kernel
theorem d_Mo_init_134 : decode b_Mo_init 134 = .ok (.putfield 59, 3) := by decide +kernel
theorem d_Mo_init_137 : decode b_Mo_init 137 = .ok (.aload_n 0, 1) := by decide +kernel
theorem d_Mo_init_138 : decode b_Mo_init 138 = .ok (.bipush (8), 2) := by decide +kernel
theorem d_Mo_init_140 : decode b_Mo_init 140 = .ok (.newarray .boolean, 2) := by decide +kernel
theorem d_Mo_init_142 : decode b_Mo_init 142 = .ok (.putfield 62, 3) := by decide +kernel
theorem d_Mo_init_145 : decode b_Mo_init 145 = .ok (.aload_n 0, 1) := by decide +kernel
theorem d_Mo_init_146 : decode b_Mo_init 146 = .ok (.bipush (98), 2) := by decide +kernel
theorem d_Mo_init_148 : decode b_Mo_init 148 = .ok (.newarray .int, 2) := by decide +kernel
theorem d_Mo_init_150 : decode b_Mo_init 150 = .ok (.putfield 65, 3) := by decide +kernel
theorem d_Mo_init_153 : decode b_Mo_init 153 = .ok (.aload_n 0, 1) := by decide +kernel
theorem d_Mo_init_154 : decode b_Mo_init 154 = .ok (.bipush (98), 2) := by decide +kernel
theorem d_Mo_init_156 : decode b_Mo_init 156 = .ok (.newarray .int, 2) := by decide +kernel
theorem d_Mo_init_158 : decode b_Mo_init 158 = .ok (.putfield 68, 3) := by decide +kernel
theorem d_Mo_init_161 : decode b_Mo_init 161 = .ok (.aload_n 0, 1) := by decide +kernel
theorem d_Mo_init_162 : decode b_Mo_init 162 = .ok (.bipush (98), 2) := by decide +kernel
theorem d_Mo_init_164 : decode b_Mo_init 164 = .ok (.newarray .int, 2) := by decide +kernel
theorem d_Mo_init_166 : decode b_Mo_init 166 = .ok (.putfield 71, 3) := by decide +kernel
theorem d_Mo_init_169 : decode b_Mo_init 169 = .ok (.aload_n 0, 1) := by decide +kernel
theorem d_Mo_init_170 : decode b_Mo_init 170 = .ok (.bipush (98), 2) := by decide +kernel
theorem d_Mo_init_172 : decode b_Mo_init 172 = .ok (.newarray .int, 2) := by decide +kernel
theorem d_Mo_init_174 : decode b_Mo_init 174 = .ok (.putfield 74, 3) := by decide +kernel
theorem d_Mo_init_177 : decode b_Mo_init 177 = .ok (.aload_n 0, 1) := by decide +kernel
theorem d_Mo_init_178 : decode b_Mo_init 178 = .ok (.bipush (98), 2) := by decide +kernel
theorem d_Mo_init_180 : decode b_Mo_init 180 = .ok (.newarray .int, 2) := by decide +kernel
theorem d_Mo_init_182 : decode b_Mo_init 182 = .ok (.putfield 77, 3) := by decide +kernel
theorem d_Mo_init_185 : decode b_Mo_init 185 = .ok (.aload_n 0, 1) := by decide +kernel
theorem d_Mo_init_186 : decode b_Mo_init 186 = .ok (.bipush (98), 2) := by decide +kernel
theorem d_Mo_init_188 : decode b_Mo_init 188 = .ok (.newarray .int, 2) := by decide +kernel
theorem d_Mo_init_190 : decode b_Mo_init 190 = .ok (.putfield 80, 3) := by decide +kernel
theorem d_Mo_init_193 : decode b_Mo_init 193 = .ok (.aload_n 0, 1) := by decide +kernel
theorem d_Mo_init_194 : decode b_Mo_init 194 = .ok (.bipush (98), 2) := by decide +kernel
theorem d_Mo_init_196 : decode b_Mo_init 196 = .ok (.newarray .boolean, 2) := by decide +kernel
theorem d_Mo_init_198 : decode b_Mo_init 198 = .ok (.putfield 83, 3) := by decide +kernel
theorem d_Mo_init_201 : decode b_Mo_init 201 = .ok (.aload_n 0, 1) := by decide +kernel
theorem d_Mo_init_202 : decode b_Mo_init 202 = .ok (.bipush (98), 2) := by decide +kernel
theorem d_Mo_init_204 : decode b_Mo_init 204 = .ok (.newarray .int, 2) := by decide +kernel
theorem d_Mo_init_206 : decode b_Mo_init 206 = .ok (.putfield 86, 3) := by decide +kernel
theorem d_Mo_init_209 : decode b_Mo_init 209 = .ok (.aload_n 0, 1) := by decide +kernel
theorem d_Mo_init_210 : decode b_Mo_init 210 = .ok (.sipush (588), 3) := by decide +kernel
theorem d_Mo_init_213 : decode b_Mo_init 213 = .ok (.newarray .long, 2) := by decide +kernel
theorem d_Mo_init_215 : decode b_Mo_init 215 = .ok (.putfield 89, 3) := by decide +kernel
theorem d_Mo_init_218 : decode b_Mo_init 218 = .ok (.aload_n 0, 1) := by decide +kernel
theorem d_Mo_init_219 : decode b_Mo_init 219 = .ok (.bipush (98), 2) := by decide +kernel
theorem d_Mo_init_221 : decode b_Mo_init 221 = .ok (.newarray .int, 2) := by decide +kernel
theorem d_Mo_init_223 : decode b_Mo_init 223 = .ok (.putfield 93, 3) := by decide +kernel
theorem d_Mo_init_226 : decode b_Mo_init 226 = .ok (.aload_n 0, 1) := by decide +kernel
theorem d_Mo_init_227 : decode b_Mo_init 227 = .ok (.sipush (882), 3) := by decide +kernel
theorem d_Mo_init_230 : decode b_Mo_init 230 = .ok (.newarray .long, 2) := by decide +kernel
theorem d_Mo_init_232 : decode b_Mo_init 232 = .ok (.putfield 96, 3) := by decide +kernel
theorem d_Mo_init_235 : decode b_Mo_init 235 = .ok (.aload_n 0, 1) := by decide +kernel
theorem d_Mo_init_236 : decode b_Mo_init 236 = .ok (.sipush (882), 3) := by decide +kernel
theorem d_Mo_init_239 : decode b_Mo_init 239 = .ok (.newarray .long, 2) := by decide +kernel
theorem d_Mo_init_241 : decode b_Mo_init 241 = .ok (.putfield 99, 3) := by decide +kernel
theorem d_Mo_init_244 : decode b_Mo_init 244 = .ok (.aload_n 0, 1) := by decide +kernel
theorem d_Mo_init_245 : decode b_Mo_init 245 = .ok (.bipush (9), 2) := by decide +kernel
theorem d_Mo_init_247 : decode b_Mo_init 247 = .ok (.newarray .int, 2) := by decide +kernel
theorem d_Mo_init_249 : decode b_Mo_init 249 = .ok (.putfield 102, 3) := by decide +kernel
theorem d_Mo_init_252 : decode b_Mo_init 252 = .ok (.aload_n 0, 1) := by decide +kernel
theorem d_Mo_init_253 : decode b_Mo_init 253 = .ok (.bipush (9), 2) := by decide +kernel
theorem d_Mo_init_255 : decode b_Mo_init 255 = .ok (.newarray .int, 2) := by decide +kernel
theorem d_Mo_init_257 : decode b_Mo_init 257 = .ok (.putfield 105, 3) := by decide +kernel
theorem d_Mo_init_260 : decode b_Mo_init 260 = .ok (.aload_n 0, 1) := by decide +kernel
theorem d_Mo_init_261 : decode b_Mo_init 261 = .ok (.bipush (9), 2) := by decide +kernel
theorem d_Mo_init_263 : decode b_Mo_init 263 = .ok (.newarray .long, 2) := by decide +kernel
theorem d_Mo_init_265 : decode b_Mo_init 265 = .ok (.putfield 108, 3) := by decide +kernel
theorem d_Mo_init_268 : decode b_Mo_init 268 = .ok (.aload_n 0, 1) := by decide +kernel
theorem d_Mo_init_269 : decode b_Mo_init 269 = .ok (.bipush (9), 2) := by decide +kernel
theorem d_Mo_init_271 : decode b_Mo_init 271 = .ok (.newarray .long, 2) := by decide +kernel
theorem d_Mo_init_273 : decode b_Mo_init 273 = .ok (.putfield 111, 3) := by decide +kernel
theorem d_Mo_init_276 : decode b_Mo_init 276 = .ok (.aload_n 0, 1) := by decide +kernel
theorem d_Mo_init_277 : decode b_Mo_init 277 = .ok (.bipush (21), 2) := by decide +kernel
theorem d_Mo_init_279 : decode b_Mo_init 279 = .ok (.newarray .boolean, 2) := by decide +kernel
theorem d_Mo_init_281 : decode b_Mo_init 281 = .ok (.putfield 114, 3) := by decide +kernel
theorem d_Mo_init_284 : decode b_Mo_init 284 = .ok (.aload_n 0, 1) := by decide +kernel
theorem d_Mo_init_285 : decode b_Mo_init 285 = .ok (.bipush (21), 2) := by decide +kernel
theorem d_Mo_init_287 : decode b_Mo_init 287 = .ok (.newarray .int, 2) := by decide +kernel
theorem d_Mo_init_289 : decode b_Mo_init 289 = .ok (.putfield 117, 3) := by decide +kernel
theorem d_Mo_init_292 : decode b_Mo_init 292 = .ok (.aload_n 0, 1) := by decide +kernel
theorem d_Mo_init_293 : decode b_Mo_init 293 = .ok (.bipush (21), 2) := by decide +kernel
theorem d_Mo_init_295 : decode b_Mo_init 295 = .ok (.newarray .int, 2) := by decide +kernel
theorem d_Mo_init_297 : decode b_Mo_init 297 = .ok (.putfield 120, 3) := by decide +kernel
theorem d_Mo_init_300 : decode b_Mo_init 300 = .ok (.aload_n 0, 1) := by decide +kernel
theorem d_Mo_init_301 : decode b_Mo_init 301 = .ok (.bipush (21), 2) := by decide +kernel
theorem d_Mo_init_303 : decode b_Mo_init 303 = .ok (.newarray .int, 2) := by decide +kernel
theorem d_Mo_init_305 : decode b_Mo_init 305 = .ok (.putfield 123, 3) := by decide +kernel
theorem d_Mo_init_308 : decode b_Mo_init 308 = .ok (.aload_n 0, 1) := by decide +kernel
theorem d_Mo_init_309 : decode b_Mo_init 309 = .ok (.bipush (21), 2) := by decide +kernel
theorem d_Mo_init_311 : decode b_Mo_init 311 = .ok (.newarray .int, 2) := by decide +kernel
theorem d_Mo_init_313 : decode b_Mo_init 313 = .ok (.putfield 126, 3) := by decide +kernel
theorem d_Mo_init_316 : decode b_Mo_init 316 = .ok (.aload_n 0, 1) := by decide +kernel
theorem d_Mo_init_317 : decode b_Mo_init 317 = .ok (.bipush (21), 2) := by decide +kernel
theorem d_Mo_init_319 : decode b_Mo_init 319 = .ok (.newarray .int, 2) := by decide +kernel
theorem d_Mo_init_321 : decode b_Mo_init 321 = .ok (.putfield 129, 3) := by decide +kernel
theorem d_Mo_init_324 : decode b_Mo_init 324 = .ok (.aload_n 0, 1) := by decide +kernel
theorem d_Mo_init_325 : decode b_Mo_init 325 = .ok (.sipush (2688), 3) := by decide +kernel
theorem d_Mo_init_328 : decode b_Mo_init 328 = .ok (.newarray .int, 2) := by decide +kernel
theorem d_Mo_init_330 : decode b_Mo_init 330 = .ok (.putfield 132, 3) := by decide +kernel
theorem d_Mo_init_333 : decode b_Mo_init 333 = .ok (.aload_n 0, 1) := by decide +kernel
theorem d_Mo_init_334 : decode b_Mo_init 334 = .ok (.bipush (16), 2) := by decide +kernel
theorem d_Mo_init_336 : decode b_Mo_init 336 = .ok (.newarray .int, 2) := by decide +kernel
theorem d_Mo_init_338 : decode b_Mo_init 338 = .ok (.putfield 135, 3) := by decide +kernel
theorem d_Mo_init_341 : decode b_Mo_init 341 = .ok (.iconst (0), 1) := by decide +kernel
theorem d_Mo_init_342 : decode b_Mo_init 342 = .ok (.istore_n 1, 1) := by decide +kernel
theorem d_Mo_init_343 : decode b_Mo_init 343 = .ok (.iload_n 1, 1) := by decide +kernel
theorem d_Mo_init_344 : decode b_Mo_init 344 = .ok (.iconst (4), 1) := by decide +kernel
theorem d_Mo_init_345 : decode b_Mo_init 345 = .ok (.if_icmp .ge (16), 3) := by decide +kernel
theorem d_Mo_init_348 : decode b_Mo_init 348 = .ok (.aload_n 0, 1) := by decide +kernel
theorem d_Mo_init_349 : decode b_Mo_init 349 = .ok (.getfield 34, 3) := by decide +kernel
theorem d_Mo_init_352 : decode b_Mo_init 352 = .ok (.iload_n 1, 1) := by decide +kernel
theorem d_Mo_init_353 : decode b_Mo_init 353 = .ok (.iconst (1), 1) := by decide +kernel
theorem d_Mo_init_354 : decode b_Mo_init 354 = .ok (.bastore, 1) := by decide +kernel
theorem d_Mo_init_355 : decode b_Mo_init 355 = .ok (.iinc 1 (1), 3) := by decide +kernel
theorem d_Mo_init_358 : decode b_Mo_init 358 = .ok (.goto (-15), 3) := by decide +kernel
theorem d_Mo_init_361 : decode b_Mo_init 361 = .ok (.iconst (0), 1) := by decide +kernel
theorem d_Mo_init_362 : decode b_Mo_init 362 = .ok (.istore_n 1, 1) := by decide +kernel
theorem d_Mo_init_363 : decode b_Mo_init 363 = .ok (.iload_n 1, 1) := by decide +kernel
theorem d_Mo_init_364 : decode b_Mo_init 364 = .ok (.bipush (12), 2) := by decide +kernel
theorem d_Mo_init_366 : decode b_Mo_init 366 = .ok (.if_icmp .ge (14), 3) := by decide +kernel
theorem d_Mo_init_369 : decode b_Mo_init 369 = .ok (.aload_n 0, 1) := by decide +kernel
theorem d_Mo_init_370 : decode b_Mo_init 370 = .ok (.iload_n 1, 1) := by decide +kernel
theorem d_Mo_init_371 : decode b_Mo_init 371 = .ok (.invokevirtual 138, 3) := by decide +kernel
theorem d_Mo_init_374 : decode b_Mo_init 374 = .ok (.iinc 1 (1), 3) := by decide +kernel
theorem d_Mo_init_377 : decode b_Mo_init 377 = .ok (.goto (-14), 3) := by decide +kernel
theorem d_Mo_init_380 : decode b_Mo_init 380 = .ok (.return_, 1) := by decide +kernel
theorem d_Mo_thrown_0 : decode b_Mo_thrown 0 = .ok (.aload_n 0, 1) := by decide +kernel
theorem d_Mo_thrown_1 : decode b_Mo_thrown 1 = .ok (.getfield 142, 3) := by decide +kernel
theorem d_Mo_thrown_4 : decode b_Mo_thrown 4 = .ok (.ireturn, 1) := by decide +kernel
theorem d_Mo_refuse_0 : decode b_Mo_refuse 0 = .ok (.aload_n 0, 1) := by decide +kernel
theorem d_Mo_refuse_1 : decode b_Mo_refuse 1 = .ok (.iload_n 1, 1) := by decide +kernel
theorem d_Mo_refuse_2 : decode b_Mo_refuse 2 = .ok (.putfield 142, 3) := by decide +kernel
theorem d_Mo_refuse_5 : decode b_Mo_refuse 5 = .ok (.iconst (0), 1) := by decide +kernel
theorem d_Mo_refuse_6 : decode b_Mo_refuse 6 = .ok (.ireturn, 1) := by decide +kernel
theorem d_Mo_within_0 : decode b_Mo_within 0 = .ok (.iload_n 0, 1) := by decide +kernel
theorem d_Mo_within_1 : decode b_Mo_within 1 = .ok (.iload_n 1, 1) := by decide +kernel
theorem d_Mo_within_2 : decode b_Mo_within 2 = .ok (.if_icmp .lt (12), 3) := by decide +kernel
theorem d_Mo_within_5 : decode b_Mo_within 5 = .ok (.iload_n 0, 1) := by decide +kernel
theorem d_Mo_within_6 : decode b_Mo_within 6 = .ok (.iload_n 2, 1) := by decide +kernel
theorem d_Mo_within_7 : decode b_Mo_within 7 = .ok (.if_icmp .gt (7), 3) := by decide +kernel
theorem d_Mo_within_10 : decode b_Mo_within 10 = .ok (.iconst (1), 1) := by decide +kernel
theorem d_Mo_within_11 : decode b_Mo_within 11 = .ok (.goto (4), 3) := by decide +kernel
theorem d_Mo_within_14 : decode b_Mo_within 14 = .ok (.iconst (0), 1) := by decide +kernel
theorem d_Mo_within_15 : decode b_Mo_within 15 = .ok (.ireturn, 1) := by decide +kernel
theorem d_Mo_forget_0 : decode b_Mo_forget 0 = .ok (.bipush (8), 2) := by decide +kernel
theorem d_Mo_forget_2 : decode b_Mo_forget 2 = .ok (.iload_n 1, 1) := by decide +kernel
theorem d_Mo_forget_3 : decode b_Mo_forget 3 = .ok (.imul, 1) := by decide +kernel
theorem d_Mo_forget_4 : decode b_Mo_forget 4 = .ok (.istore_n 2, 1) := by decide +kernel
theorem d_Mo_forget_5 : decode b_Mo_forget 5 = .ok (.iload_n 2, 1) := by decide +kernel
theorem d_Mo_forget_6 : decode b_Mo_forget 6 = .ok (.bipush (8), 2) := by decide +kernel
theorem d_Mo_forget_8 : decode b_Mo_forget 8 = .ok (.iload_n 1, 1) := by decide +kernel
theorem d_Mo_forget_9 : decode b_Mo_forget 9 = .ok (.imul, 1) := by decide +kernel
theorem d_Mo_forget_10 : decode b_Mo_forget 10 = .ok (.bipush (8), 2) := by decide +kernel
theorem d_Mo_forget_12 : decode b_Mo_forget 12 = .ok (.iadd, 1) := by decide +kernel
theorem d_Mo_forget_13 : decode b_Mo_forget 13 = .ok (.if_icmp .ge (44), 3) := by decide +kernel
theorem d_Mo_forget_16 : decode b_Mo_forget 16 = .ok (.aload_n 0, 1) := by decide +kernel
theorem d_Mo_forget_17 : decode b_Mo_forget 17 = .ok (.getfield 41, 3) := by decide +kernel
theorem d_Mo_forget_20 : decode b_Mo_forget 20 = .ok (.iload_n 2, 1) := by decide +kernel
theorem d_Mo_forget_21 : decode b_Mo_forget 21 = .ok (.iconst (0), 1) := by decide +kernel
theorem d_Mo_forget_22 : decode b_Mo_forget 22 = .ok (.iastore, 1) := by decide +kernel
theorem d_Mo_forget_23 : decode b_Mo_forget 23 = .ok (.aload_n 0, 1) := by decide +kernel
theorem d_Mo_forget_24 : decode b_Mo_forget 24 = .ok (.getfield 47, 3) := by decide +kernel
theorem d_Mo_forget_27 : decode b_Mo_forget 27 = .ok (.iload_n 2, 1) := by decide +kernel
theorem d_Mo_forget_28 : decode b_Mo_forget 28 = .ok (.iconst (-1), 1) := by decide +kernel
theorem d_Mo_forget_29 : decode b_Mo_forget 29 = .ok (.iastore, 1) := by decide +kernel
theorem d_Mo_forget_30 : decode b_Mo_forget 30 = .ok (.aload_n 0, 1) := by decide +kernel
theorem d_Mo_forget_31 : decode b_Mo_forget 31 = .ok (.getfield 50, 3) := by decide +kernel
theorem d_Mo_forget_34 : decode b_Mo_forget 34 = .ok (.iload_n 2, 1) := by decide +kernel
theorem d_Mo_forget_35 : decode b_Mo_forget 35 = .ok (.iconst (-1), 1) := by decide +kernel
theorem d_Mo_forget_36 : decode b_Mo_forget 36 = .ok (.iastore, 1) := by decide +kernel
theorem d_Mo_forget_37 : decode b_Mo_forget 37 = .ok (.aload_n 0, 1) := by decide +kernel
theorem d_Mo_forget_38 : decode b_Mo_forget 38 = .ok (.getfield 53, 3) := by decide +kernel
theorem d_Mo_forget_41 : decode b_Mo_forget 41 = .ok (.iload_n 2, 1) := by decide +kernel
theorem d_Mo_forget_42 : decode b_Mo_forget 42 = .ok (.iconst (-1), 1) := by decide +kernel
theorem d_Mo_forget_43 : decode b_Mo_forget 43 = .ok (.iastore, 1) := by decide +kernel
theorem d_Mo_forget_44 : decode b_Mo_forget 44 = .ok (.aload_n 0, 1) := by decide +kernel
theorem d_Mo_forget_45 : decode b_Mo_forget 45 = .ok (.getfield 56, 3) := by decide +kernel
theorem d_Mo_forget_48 : decode b_Mo_forget 48 = .ok (.iload_n 2, 1) := by decide +kernel
theorem d_Mo_forget_49 : decode b_Mo_forget 49 = .ok (.iconst (0), 1) := by decide +kernel
theorem d_Mo_forget_50 : decode b_Mo_forget 50 = .ok (.iastore, 1) := by decide +kernel
theorem d_Mo_forget_51 : decode b_Mo_forget 51 = .ok (.iinc 2 (1), 3) := by decide +kernel
theorem d_Mo_forget_54 : decode b_Mo_forget 54 = .ok (.goto (-49), 3) := by decide +kernel
theorem d_Mo_forget_57 : decode b_Mo_forget 57 = .ok (.return_, 1) := by decide +kernel
theorem d_Mo_moveAgent_0 : decode b_Mo_moveAgent 0 = .ok (.aload_n 0, 1) := by decide +kernel
theorem d_Mo_moveAgent_1 : decode b_Mo_moveAgent 1 = .ok (.getfield 65, 3) := by decide +kernel
theorem d_Mo_moveAgent_4 : decode b_Mo_moveAgent 4 = .ok (.iload_n 2, 1) := by decide +kernel
theorem d_Mo_moveAgent_5 : decode b_Mo_moveAgent 5 = .ok (.aload_n 0, 1) := by decide +kernel
theorem d_Mo_moveAgent_6 : decode b_Mo_moveAgent 6 = .ok (.getfield 65, 3) := by decide +kernel
theorem d_Mo_moveAgent_9 : decode b_Mo_moveAgent 9 = .ok (.iload_n 1, 1) := by decide +kernel
theorem d_Mo_moveAgent_10 : decode b_Mo_moveAgent 10 = .ok (.iaload, 1) := by decide +kernel
theorem d_Mo_moveAgent_11 : decode b_Mo_moveAgent 11 = .ok (.iastore, 1) := by decide +kernel
theorem d_Mo_moveAgent_12 : decode b_Mo_moveAgent 12 = .ok (.aload_n 0, 1) := by decide +kernel
theorem d_Mo_moveAgent_13 : decode b_Mo_moveAgent 13 = .ok (.getfield 68, 3) := by decide +kernel
theorem d_Mo_moveAgent_16 : decode b_Mo_moveAgent 16 = .ok (.iload_n 2, 1) := by decide +kernel
theorem d_Mo_moveAgent_17 : decode b_Mo_moveAgent 17 = .ok (.aload_n 0, 1) := by decide +kernel
theorem d_Mo_moveAgent_18 : decode b_Mo_moveAgent 18 = .ok (.getfield 68, 3) := by decide +kernel
theorem d_Mo_moveAgent_21 : decode b_Mo_moveAgent 21 = .ok (.iload_n 1, 1) := by decide +kernel
theorem d_Mo_moveAgent_22 : decode b_Mo_moveAgent 22 = .ok (.iaload, 1) := by decide +kernel
theorem d_Mo_moveAgent_23 : decode b_Mo_moveAgent 23 = .ok (.iastore, 1) := by decide +kernel
theorem d_Mo_moveAgent_24 : decode b_Mo_moveAgent 24 = .ok (.aload_n 0, 1) := by decide +kernel
theorem d_Mo_moveAgent_25 : decode b_Mo_moveAgent 25 = .ok (.getfield 71, 3) := by decide +kernel
theorem d_Mo_moveAgent_28 : decode b_Mo_moveAgent 28 = .ok (.iload_n 2, 1) := by decide +kernel
theorem d_Mo_moveAgent_29 : decode b_Mo_moveAgent 29 = .ok (.aload_n 0, 1) := by decide +kernel
theorem d_Mo_moveAgent_30 : decode b_Mo_moveAgent 30 = .ok (.getfield 71, 3) := by decide +kernel
theorem d_Mo_moveAgent_33 : decode b_Mo_moveAgent 33 = .ok (.iload_n 1, 1) := by decide +kernel
theorem d_Mo_moveAgent_34 : decode b_Mo_moveAgent 34 = .ok (.iaload, 1) := by decide +kernel
theorem d_Mo_moveAgent_35 : decode b_Mo_moveAgent 35 = .ok (.iastore, 1) := by decide +kernel
theorem d_Mo_moveAgent_36 : decode b_Mo_moveAgent 36 = .ok (.aload_n 0, 1) := by decide +kernel
theorem d_Mo_moveAgent_37 : decode b_Mo_moveAgent 37 = .ok (.getfield 74, 3) := by decide +kernel
theorem d_Mo_moveAgent_40 : decode b_Mo_moveAgent 40 = .ok (.iload_n 2, 1) := by decide +kernel
theorem d_Mo_moveAgent_41 : decode b_Mo_moveAgent 41 = .ok (.aload_n 0, 1) := by decide +kernel
theorem d_Mo_moveAgent_42 : decode b_Mo_moveAgent 42 = .ok (.getfield 74, 3) := by decide +kernel
theorem d_Mo_moveAgent_45 : decode b_Mo_moveAgent 45 = .ok (.iload_n 1, 1) := by decide +kernel
theorem d_Mo_moveAgent_46 : decode b_Mo_moveAgent 46 = .ok (.iaload, 1) := by decide +kernel
theorem d_Mo_moveAgent_47 : decode b_Mo_moveAgent 47 = .ok (.iastore, 1) := by decide +kernel
theorem d_Mo_moveAgent_48 : decode b_Mo_moveAgent 48 = .ok (.aload_n 0, 1) := by decide +kernel
theorem d_Mo_moveAgent_49 : decode b_Mo_moveAgent 49 = .ok (.getfield 77, 3) := by decide +kernel
theorem d_Mo_moveAgent_52 : decode b_Mo_moveAgent 52 = .ok (.iload_n 2, 1) := by decide +kernel
theorem d_Mo_moveAgent_53 : decode b_Mo_moveAgent 53 = .ok (.aload_n 0, 1) := by decide +kernel
theorem d_Mo_moveAgent_54 : decode b_Mo_moveAgent 54 = .ok (.getfield 77, 3) := by decide +kernel
theorem d_Mo_moveAgent_57 : decode b_Mo_moveAgent 57 = .ok (.iload_n 1, 1) := by decide +kernel
theorem d_Mo_moveAgent_58 : decode b_Mo_moveAgent 58 = .ok (.iaload, 1) := by decide +kernel
theorem d_Mo_moveAgent_59 : decode b_Mo_moveAgent 59 = .ok (.iastore, 1) := by decide +kernel
theorem d_Mo_moveAgent_60 : decode b_Mo_moveAgent 60 = .ok (.aload_n 0, 1) := by decide +kernel
theorem d_Mo_moveAgent_61 : decode b_Mo_moveAgent 61 = .ok (.getfield 80, 3) := by decide +kernel
theorem d_Mo_moveAgent_64 : decode b_Mo_moveAgent 64 = .ok (.iload_n 2, 1) := by decide +kernel
theorem d_Mo_moveAgent_65 : decode b_Mo_moveAgent 65 = .ok (.aload_n 0, 1) := by decide +kernel
theorem d_Mo_moveAgent_66 : decode b_Mo_moveAgent 66 = .ok (.getfield 80, 3) := by decide +kernel
theorem d_Mo_moveAgent_69 : decode b_Mo_moveAgent 69 = .ok (.iload_n 1, 1) := by decide +kernel
theorem d_Mo_moveAgent_70 : decode b_Mo_moveAgent 70 = .ok (.iaload, 1) := by decide +kernel
theorem d_Mo_moveAgent_71 : decode b_Mo_moveAgent 71 = .ok (.iastore, 1) := by decide +kernel
theorem d_Mo_moveAgent_72 : decode b_Mo_moveAgent 72 = .ok (.aload_n 0, 1) := by decide +kernel
theorem d_Mo_moveAgent_73 : decode b_Mo_moveAgent 73 = .ok (.getfield 83, 3) := by decide +kernel
theorem d_Mo_moveAgent_76 : decode b_Mo_moveAgent 76 = .ok (.iload_n 2, 1) := by decide +kernel
theorem d_Mo_moveAgent_77 : decode b_Mo_moveAgent 77 = .ok (.aload_n 0, 1) := by decide +kernel
theorem d_Mo_moveAgent_78 : decode b_Mo_moveAgent 78 = .ok (.getfield 83, 3) := by decide +kernel
theorem d_Mo_moveAgent_81 : decode b_Mo_moveAgent 81 = .ok (.iload_n 1, 1) := by decide +kernel
theorem d_Mo_moveAgent_82 : decode b_Mo_moveAgent 82 = .ok (.baload, 1) := by decide +kernel
theorem d_Mo_moveAgent_83 : decode b_Mo_moveAgent 83 = .ok (.bastore, 1) := by decide +kernel
theorem d_Mo_moveAgent_84 : decode b_Mo_moveAgent 84 = .ok (.aload_n 0, 1) := by decide +kernel
theorem d_Mo_moveAgent_85 : decode b_Mo_moveAgent 85 = .ok (.getfield 86, 3) := by decide +kernel
theorem d_Mo_moveAgent_88 : decode b_Mo_moveAgent 88 = .ok (.iload_n 2, 1) := by decide +kernel
theorem d_Mo_moveAgent_89 : decode b_Mo_moveAgent 89 = .ok (.aload_n 0, 1) := by decide +kernel
theorem d_Mo_moveAgent_90 : decode b_Mo_moveAgent 90 = .ok (.getfield 86, 3) := by decide +kernel
theorem d_Mo_moveAgent_93 : decode b_Mo_moveAgent 93 = .ok (.iload_n 1, 1) := by decide +kernel
theorem d_Mo_moveAgent_94 : decode b_Mo_moveAgent 94 = .ok (.iaload, 1) := by decide +kernel
theorem d_Mo_moveAgent_95 : decode b_Mo_moveAgent 95 = .ok (.iastore, 1) := by decide +kernel
theorem d_Mo_moveAgent_96 : decode b_Mo_moveAgent 96 = .ok (.aload_n 0, 1) := by decide +kernel
theorem d_Mo_moveAgent_97 : decode b_Mo_moveAgent 97 = .ok (.getfield 93, 3) := by decide +kernel
theorem d_Mo_moveAgent_100 : decode b_Mo_moveAgent 100 = .ok (.iload_n 2, 1) := by decide +kernel
theorem d_Mo_moveAgent_101 : decode b_Mo_moveAgent 101 = .ok (.aload_n 0, 1) := by decide +kernel
theorem d_Mo_moveAgent_102 : decode b_Mo_moveAgent 102 = .ok (.getfield 93, 3) := by decide +kernel
theorem d_Mo_moveAgent_105 : decode b_Mo_moveAgent 105 = .ok (.iload_n 1, 1) := by decide +kernel
theorem d_Mo_moveAgent_106 : decode b_Mo_moveAgent 106 = .ok (.iaload, 1) := by decide +kernel
theorem d_Mo_moveAgent_107 : decode b_Mo_moveAgent 107 = .ok (.iastore, 1) := by decide +kernel
theorem d_Mo_moveAgent_108 : decode b_Mo_moveAgent 108 = .ok (.iconst (0), 1) := by decide +kernel
theorem d_Mo_moveAgent_109 : decode b_Mo_moveAgent 109 = .ok (.istore_n 3, 1) := by decide +kernel
theorem d_Mo_moveAgent_110 : decode b_Mo_moveAgent 110 = .ok (.iload_n 3, 1) := by decide +kernel
theorem d_Mo_moveAgent_111 : decode b_Mo_moveAgent 111 = .ok (.bipush (6), 2) := by decide +kernel
theorem d_Mo_moveAgent_113 : decode b_Mo_moveAgent 113 = .ok (.if_icmp .ge (31), 3) := by decide +kernel
theorem d_Mo_moveAgent_116 : decode b_Mo_moveAgent 116 = .ok (.aload_n 0, 1) := by decide +kernel
theorem d_Mo_moveAgent_117 : decode b_Mo_moveAgent 117 = .ok (.getfield 89, 3) := by decide +kernel
theorem d_Mo_moveAgent_120 : decode b_Mo_moveAgent 120 = .ok (.bipush (6), 2) := by decide +kernel
theorem d_Mo_moveAgent_122 : decode b_Mo_moveAgent 122 = .ok (.iload_n 2, 1) := by decide +kernel
theorem d_Mo_moveAgent_123 : decode b_Mo_moveAgent 123 = .ok (.imul, 1) := by decide +kernel
theorem d_Mo_moveAgent_124 : decode b_Mo_moveAgent 124 = .ok (.iload_n 3, 1) := by decide +kernel
theorem d_Mo_moveAgent_125 : decode b_Mo_moveAgent 125 = .ok (.iadd, 1) := by decide +kernel
theorem d_Mo_moveAgent_126 : decode b_Mo_moveAgent 126 = .ok (.aload_n 0, 1) := by decide +kernel
theorem d_Mo_moveAgent_127 : decode b_Mo_moveAgent 127 = .ok (.getfield 89, 3) := by decide +kernel
theorem d_Mo_moveAgent_130 : decode b_Mo_moveAgent 130 = .ok (.bipush (6), 2) := by decide +kernel
theorem d_Mo_moveAgent_132 : decode b_Mo_moveAgent 132 = .ok (.iload_n 1, 1) := by decide +kernel
theorem d_Mo_moveAgent_133 : decode b_Mo_moveAgent 133 = .ok (.imul, 1) := by decide +kernel
theorem d_Mo_moveAgent_134 : decode b_Mo_moveAgent 134 = .ok (.iload_n 3, 1) := by decide +kernel
theorem d_Mo_moveAgent_135 : decode b_Mo_moveAgent 135 = .ok (.iadd, 1) := by decide +kernel
theorem d_Mo_moveAgent_136 : decode b_Mo_moveAgent 136 = .ok (.laload, 1) := by decide +kernel
theorem d_Mo_moveAgent_137 : decode b_Mo_moveAgent 137 = .ok (.lastore, 1) := by decide +kernel
theorem d_Mo_moveAgent_138 : decode b_Mo_moveAgent 138 = .ok (.iinc 3 (1), 3) := by decide +kernel
theorem d_Mo_moveAgent_141 : decode b_Mo_moveAgent 141 = .ok (.goto (-31), 3) := by decide +kernel
theorem d_Mo_moveAgent_144 : decode b_Mo_moveAgent 144 = .ok (.iconst (0), 1) := by decide +kernel
theorem d_Mo_moveAgent_145 : decode b_Mo_moveAgent 145 = .ok (.istore_n 3, 1) := by decide +kernel
theorem d_Mo_moveAgent_146 : decode b_Mo_moveAgent 146 = .ok (.iload_n 3, 1) := by decide +kernel
theorem d_Mo_moveAgent_147 : decode b_Mo_moveAgent 147 = .ok (.bipush (9), 2) := by decide +kernel
theorem d_Mo_moveAgent_149 : decode b_Mo_moveAgent 149 = .ok (.if_icmp .ge (53), 3) := by decide +kernel
theorem d_Mo_moveAgent_152 : decode b_Mo_moveAgent 152 = .ok (.aload_n 0, 1) := by decide +kernel
theorem d_Mo_moveAgent_153 : decode b_Mo_moveAgent 153 = .ok (.getfield 96, 3) := by decide +kernel
theorem d_Mo_moveAgent_156 : decode b_Mo_moveAgent 156 = .ok (.bipush (9), 2) := by decide +kernel
theorem d_Mo_moveAgent_158 : decode b_Mo_moveAgent 158 = .ok (.iload_n 2, 1) := by decide +kernel
theorem d_Mo_moveAgent_159 : decode b_Mo_moveAgent 159 = .ok (.imul, 1) := by decide +kernel
theorem d_Mo_moveAgent_160 : decode b_Mo_moveAgent 160 = .ok (.iload_n 3, 1) := by decide +kernel
theorem d_Mo_moveAgent_161 : decode b_Mo_moveAgent 161 = .ok (.iadd, 1) := by decide +kernel
theorem d_Mo_moveAgent_162 : decode b_Mo_moveAgent 162 = .ok (.aload_n 0, 1) := by decide +kernel
theorem d_Mo_moveAgent_163 : decode b_Mo_moveAgent 163 = .ok (.getfield 96, 3) := by decide +kernel
theorem d_Mo_moveAgent_166 : decode b_Mo_moveAgent 166 = .ok (.bipush (9), 2) := by decide +kernel
theorem d_Mo_moveAgent_168 : decode b_Mo_moveAgent 168 = .ok (.iload_n 1, 1) := by decide +kernel
theorem d_Mo_moveAgent_169 : decode b_Mo_moveAgent 169 = .ok (.imul, 1) := by decide +kernel
theorem d_Mo_moveAgent_170 : decode b_Mo_moveAgent 170 = .ok (.iload_n 3, 1) := by decide +kernel
theorem d_Mo_moveAgent_171 : decode b_Mo_moveAgent 171 = .ok (.iadd, 1) := by decide +kernel
theorem d_Mo_moveAgent_172 : decode b_Mo_moveAgent 172 = .ok (.laload, 1) := by decide +kernel
theorem d_Mo_moveAgent_173 : decode b_Mo_moveAgent 173 = .ok (.lastore, 1) := by decide +kernel
theorem d_Mo_moveAgent_174 : decode b_Mo_moveAgent 174 = .ok (.aload_n 0, 1) := by decide +kernel
theorem d_Mo_moveAgent_175 : decode b_Mo_moveAgent 175 = .ok (.getfield 99, 3) := by decide +kernel
theorem d_Mo_moveAgent_178 : decode b_Mo_moveAgent 178 = .ok (.bipush (9), 2) := by decide +kernel
theorem d_Mo_moveAgent_180 : decode b_Mo_moveAgent 180 = .ok (.iload_n 2, 1) := by decide +kernel
theorem d_Mo_moveAgent_181 : decode b_Mo_moveAgent 181 = .ok (.imul, 1) := by decide +kernel
theorem d_Mo_moveAgent_182 : decode b_Mo_moveAgent 182 = .ok (.iload_n 3, 1) := by decide +kernel
theorem d_Mo_moveAgent_183 : decode b_Mo_moveAgent 183 = .ok (.iadd, 1) := by decide +kernel
theorem d_Mo_moveAgent_184 : decode b_Mo_moveAgent 184 = .ok (.aload_n 0, 1) := by decide +kernel
theorem d_Mo_moveAgent_185 : decode b_Mo_moveAgent 185 = .ok (.getfield 99, 3) := by decide +kernel
theorem d_Mo_moveAgent_188 : decode b_Mo_moveAgent 188 = .ok (.bipush (9), 2) := by decide +kernel
theorem d_Mo_moveAgent_190 : decode b_Mo_moveAgent 190 = .ok (.iload_n 1, 1) := by decide +kernel
theorem d_Mo_moveAgent_191 : decode b_Mo_moveAgent 191 = .ok (.imul, 1) := by decide +kernel
theorem d_Mo_moveAgent_192 : decode b_Mo_moveAgent 192 = .ok (.iload_n 3, 1) := by decide +kernel
theorem d_Mo_moveAgent_193 : decode b_Mo_moveAgent 193 = .ok (.iadd, 1) := by decide +kernel
theorem d_Mo_moveAgent_194 : decode b_Mo_moveAgent 194 = .ok (.laload, 1) := by decide +kernel
theorem d_Mo_moveAgent_195 : decode b_Mo_moveAgent 195 = .ok (.lastore, 1) := by decide +kernel
theorem d_Mo_moveAgent_196 : decode b_Mo_moveAgent 196 = .ok (.iinc 3 (1), 3) := by decide +kernel
theorem d_Mo_moveAgent_199 : decode b_Mo_moveAgent 199 = .ok (.goto (-53), 3) := by decide +kernel
theorem d_Mo_moveAgent_202 : decode b_Mo_moveAgent 202 = .ok (.return_, 1) := by decide +kernel
theorem d_Mo_moveMemory_0 : decode b_Mo_moveMemory 0 = .ok (.iconst (0), 1) := by decide +kernel
theorem d_Mo_moveMemory_1 : decode b_Mo_moveMemory 1 = .ok (.istore_n 3, 1) := by decide +kernel
theorem d_Mo_moveMemory_2 : decode b_Mo_moveMemory 2 = .ok (.iload_n 3, 1) := by decide +kernel
theorem d_Mo_moveMemory_3 : decode b_Mo_moveMemory 3 = .ok (.bipush (8), 2) := by decide +kernel
theorem d_Mo_moveMemory_5 : decode b_Mo_moveMemory 5 = .ok (.if_icmp .ge (159), 3) := by decide +kernel
theorem d_Mo_moveMemory_8 : decode b_Mo_moveMemory 8 = .ok (.bipush (8), 2) := by decide +kernel
theorem d_Mo_moveMemory_10 : decode b_Mo_moveMemory 10 = .ok (.iload_n 1, 1) := by decide +kernel
theorem d_Mo_moveMemory_11 : decode b_Mo_moveMemory 11 = .ok (.imul, 1) := by decide +kernel
theorem d_Mo_moveMemory_12 : decode b_Mo_moveMemory 12 = .ok (.iload_n 3, 1) := by decide +kernel
theorem d_Mo_moveMemory_13 : decode b_Mo_moveMemory 13 = .ok (.iadd, 1) := by decide +kernel
theorem d_Mo_moveMemory_14 : decode b_Mo_moveMemory 14 = .ok (.istore 4, 2) := by decide +kernel
theorem d_Mo_moveMemory_16 : decode b_Mo_moveMemory 16 = .ok (.bipush (8), 2) := by decide +kernel
theorem d_Mo_moveMemory_18 : decode b_Mo_moveMemory 18 = .ok (.iload_n 2, 1) := by decide +kernel
theorem d_Mo_moveMemory_19 : decode b_Mo_moveMemory 19 = .ok (.imul, 1) := by decide +kernel
theorem d_Mo_moveMemory_20 : decode b_Mo_moveMemory 20 = .ok (.iload_n 3, 1) := by decide +kernel
theorem d_Mo_moveMemory_21 : decode b_Mo_moveMemory 21 = .ok (.iadd, 1) := by decide +kernel
theorem d_Mo_moveMemory_22 : decode b_Mo_moveMemory 22 = .ok (.istore 5, 2) := by decide +kernel
theorem d_Mo_moveMemory_24 : decode b_Mo_moveMemory 24 = .ok (.aload_n 0, 1) := by decide +kernel
theorem d_Mo_moveMemory_25 : decode b_Mo_moveMemory 25 = .ok (.iload 4, 2) := by decide +kernel
theorem d_Mo_moveMemory_27 : decode b_Mo_moveMemory 27 = .ok (.iload 5, 2) := by decide +kernel
theorem d_Mo_moveMemory_29 : decode b_Mo_moveMemory 29 = .ok (.invokevirtual 146, 3) := by decide +kernel
theorem d_Mo_moveMemory_32 : decode b_Mo_moveMemory 32 = .ok (.aload_n 0, 1) := by decide +kernel
theorem d_Mo_moveMemory_33 : decode b_Mo_moveMemory 33 = .ok (.getfield 41, 3) := by decide +kernel
theorem d_Mo_moveMemory_36 : decode b_Mo_moveMemory 36 = .ok (.iload 5, 2) := by decide +kernel
theorem d_Mo_moveMemory_38 : decode b_Mo_moveMemory 38 = .ok (.aload_n 0, 1) := by decide +kernel
theorem d_Mo_moveMemory_39 : decode b_Mo_moveMemory 39 = .ok (.getfield 41, 3) := by decide +kernel
theorem d_Mo_moveMemory_42 : decode b_Mo_moveMemory 42 = .ok (.iload 4, 2) := by decide +kernel
theorem d_Mo_moveMemory_44 : decode b_Mo_moveMemory 44 = .ok (.iaload, 1) := by decide +kernel
theorem d_Mo_moveMemory_45 : decode b_Mo_moveMemory 45 = .ok (.iastore, 1) := by decide +kernel
theorem d_Mo_moveMemory_46 : decode b_Mo_moveMemory 46 = .ok (.aload_n 0, 1) := by decide +kernel
theorem d_Mo_moveMemory_47 : decode b_Mo_moveMemory 47 = .ok (.getfield 44, 3) := by decide +kernel
theorem d_Mo_moveMemory_50 : decode b_Mo_moveMemory 50 = .ok (.iload 5, 2) := by decide +kernel
theorem d_Mo_moveMemory_52 : decode b_Mo_moveMemory 52 = .ok (.aload_n 0, 1) := by decide +kernel
theorem d_Mo_moveMemory_53 : decode b_Mo_moveMemory 53 = .ok (.getfield 44, 3) := by decide +kernel
theorem d_Mo_moveMemory_56 : decode b_Mo_moveMemory 56 = .ok (.iload 4, 2) := by decide +kernel
theorem d_Mo_moveMemory_58 : decode b_Mo_moveMemory 58 = .ok (.iaload, 1) := by decide +kernel
theorem d_Mo_moveMemory_59 : decode b_Mo_moveMemory 59 = .ok (.iastore, 1) := by decide +kernel
theorem d_Mo_moveMemory_60 : decode b_Mo_moveMemory 60 = .ok (.aload_n 0, 1) := by decide +kernel
theorem d_Mo_moveMemory_61 : decode b_Mo_moveMemory 61 = .ok (.getfield 47, 3) := by decide +kernel
theorem d_Mo_moveMemory_64 : decode b_Mo_moveMemory 64 = .ok (.iload 5, 2) := by decide +kernel
theorem d_Mo_moveMemory_66 : decode b_Mo_moveMemory 66 = .ok (.aload_n 0, 1) := by decide +kernel
theorem d_Mo_moveMemory_67 : decode b_Mo_moveMemory 67 = .ok (.getfield 47, 3) := by decide +kernel
theorem d_Mo_moveMemory_70 : decode b_Mo_moveMemory 70 = .ok (.iload 4, 2) := by decide +kernel
theorem d_Mo_moveMemory_72 : decode b_Mo_moveMemory 72 = .ok (.iaload, 1) := by decide +kernel
theorem d_Mo_moveMemory_73 : decode b_Mo_moveMemory 73 = .ok (.iastore, 1) := by decide +kernel
theorem d_Mo_moveMemory_74 : decode b_Mo_moveMemory 74 = .ok (.aload_n 0, 1) := by decide +kernel
theorem d_Mo_moveMemory_75 : decode b_Mo_moveMemory 75 = .ok (.getfield 50, 3) := by decide +kernel
theorem d_Mo_moveMemory_78 : decode b_Mo_moveMemory 78 = .ok (.iload 5, 2) := by decide +kernel
theorem d_Mo_moveMemory_80 : decode b_Mo_moveMemory 80 = .ok (.aload_n 0, 1) := by decide +kernel
theorem d_Mo_moveMemory_81 : decode b_Mo_moveMemory 81 = .ok (.getfield 50, 3) := by decide +kernel
theorem d_Mo_moveMemory_84 : decode b_Mo_moveMemory 84 = .ok (.iload 4, 2) := by decide +kernel
theorem d_Mo_moveMemory_86 : decode b_Mo_moveMemory 86 = .ok (.iaload, 1) := by decide +kernel
theorem d_Mo_moveMemory_87 : decode b_Mo_moveMemory 87 = .ok (.iastore, 1) := by decide +kernel
theorem d_Mo_moveMemory_88 : decode b_Mo_moveMemory 88 = .ok (.aload_n 0, 1) := by decide +kernel
theorem d_Mo_moveMemory_89 : decode b_Mo_moveMemory 89 = .ok (.getfield 53, 3) := by decide +kernel
theorem d_Mo_moveMemory_92 : decode b_Mo_moveMemory 92 = .ok (.iload 5, 2) := by decide +kernel
theorem d_Mo_moveMemory_94 : decode b_Mo_moveMemory 94 = .ok (.aload_n 0, 1) := by decide +kernel
theorem d_Mo_moveMemory_95 : decode b_Mo_moveMemory 95 = .ok (.getfield 53, 3) := by decide +kernel
theorem d_Mo_moveMemory_98 : decode b_Mo_moveMemory 98 = .ok (.iload 4, 2) := by decide +kernel
theorem d_Mo_moveMemory_100 : decode b_Mo_moveMemory 100 = .ok (.iaload, 1) := by decide +kernel
theorem d_Mo_moveMemory_101 : decode b_Mo_moveMemory 101 = .ok (.iastore, 1) := by decide +kernel
theorem d_Mo_moveMemory_102 : decode b_Mo_moveMemory 102 = .ok (.aload_n 0, 1) := by decide +kernel
theorem d_Mo_moveMemory_103 : decode b_Mo_moveMemory 103 = .ok (.getfield 56, 3) := by decide +kernel
theorem d_Mo_moveMemory_106 : decode b_Mo_moveMemory 106 = .ok (.iload 5, 2) := by decide +kernel
theorem d_Mo_moveMemory_108 : decode b_Mo_moveMemory 108 = .ok (.aload_n 0, 1) := by decide +kernel
theorem d_Mo_moveMemory_109 : decode b_Mo_moveMemory 109 = .ok (.getfield 56, 3) := by decide +kernel
theorem d_Mo_moveMemory_112 : decode b_Mo_moveMemory 112 = .ok (.iload 4, 2) := by decide +kernel
theorem d_Mo_moveMemory_114 : decode b_Mo_moveMemory 114 = .ok (.iaload, 1) := by decide +kernel
theorem d_Mo_moveMemory_115 : decode b_Mo_moveMemory 115 = .ok (.iastore, 1) := by decide +kernel
theorem d_Mo_moveMemory_116 : decode b_Mo_moveMemory 116 = .ok (.iconst (0), 1) := by decide +kernel
theorem d_Mo_moveMemory_117 : decode b_Mo_moveMemory 117 = .ok (.istore 6, 2) := by decide +kernel
theorem d_Mo_moveMemory_119 : decode b_Mo_moveMemory 119 = .ok (.iload 6, 2) := by decide +kernel
theorem d_Mo_moveMemory_121 : decode b_Mo_moveMemory 121 = .ok (.bipush (16), 2) := by decide +kernel
theorem d_Mo_moveMemory_123 : decode b_Mo_moveMemory 123 = .ok (.if_icmp .ge (35), 3) := by decide +kernel
theorem d_Mo_moveMemory_126 : decode b_Mo_moveMemory 126 = .ok (.aload_n 0, 1) := by decide +kernel
theorem d_Mo_moveMemory_127 : decode b_Mo_moveMemory 127 = .ok (.getfield 59, 3) := by decide +kernel
theorem d_Mo_moveMemory_130 : decode b_Mo_moveMemory 130 = .ok (.bipush (16), 2) := by decide +kernel
theorem d_Mo_moveMemory_132 : decode b_Mo_moveMemory 132 = .ok (.iload 5, 2) := by decide +kernel
theorem d_Mo_moveMemory_134 : decode b_Mo_moveMemory 134 = .ok (.imul, 1) := by decide +kernel
theorem d_Mo_moveMemory_135 : decode b_Mo_moveMemory 135 = .ok (.iload 6, 2) := by decide +kernel
theorem d_Mo_moveMemory_137 : decode b_Mo_moveMemory 137 = .ok (.iadd, 1) := by decide +kernel
theorem d_Mo_moveMemory_138 : decode b_Mo_moveMemory 138 = .ok (.aload_n 0, 1) := by decide +kernel
theorem d_Mo_moveMemory_139 : decode b_Mo_moveMemory 139 = .ok (.getfield 59, 3) := by decide +kernel
theorem d_Mo_moveMemory_142 : decode b_Mo_moveMemory 142 = .ok (.bipush (16), 2) := by decide +kernel
theorem d_Mo_moveMemory_144 : decode b_Mo_moveMemory 144 = .ok (.iload 4, 2) := by decide +kernel
theorem d_Mo_moveMemory_146 : decode b_Mo_moveMemory 146 = .ok (.imul, 1) := by decide +kernel
theorem d_Mo_moveMemory_147 : decode b_Mo_moveMemory 147 = .ok (.iload 6, 2) := by decide +kernel
theorem d_Mo_moveMemory_149 : decode b_Mo_moveMemory 149 = .ok (.iadd, 1) := by decide +kernel
theorem d_Mo_moveMemory_150 : decode b_Mo_moveMemory 150 = .ok (.iaload, 1) := by decide +kernel
theorem d_Mo_moveMemory_151 : decode b_Mo_moveMemory 151 = .ok (.iastore, 1) := by decide +kernel
theorem d_Mo_moveMemory_152 : decode b_Mo_moveMemory 152 = .ok (.iinc 6 (1), 3) := by decide +kernel
theorem d_Mo_moveMemory_155 : decode b_Mo_moveMemory 155 = .ok (.goto (-36), 3) := by decide +kernel
theorem d_Mo_moveMemory_158 : decode b_Mo_moveMemory 158 = .ok (.iinc 3 (1), 3) := by decide +kernel
theorem d_Mo_moveMemory_161 : decode b_Mo_moveMemory 161 = .ok (.goto (-159), 3) := by decide +kernel
theorem d_Mo_moveMemory_164 : decode b_Mo_moveMemory 164 = .ok (.return_, 1) := by decide +kernel
theorem d_Mo_arriveAt_0 : decode b_Mo_arriveAt 0 = .ok (.aload_n 0, 1) := by decide +kernel
theorem d_Mo_arriveAt_1 : decode b_Mo_arriveAt 1 = .ok (.getfield 41, 3) := by decide +kernel
theorem d_Mo_arriveAt_4 : decode b_Mo_arriveAt 4 = .ok (.iload_n 1, 1) := by decide +kernel
theorem d_Mo_arriveAt_5 : decode b_Mo_arriveAt 5 = .ok (.iconst (1), 1) := by decide +kernel
theorem d_Mo_arriveAt_6 : decode b_Mo_arriveAt 6 = .ok (.iastore, 1) := by decide +kernel
theorem d_Mo_arriveAt_7 : decode b_Mo_arriveAt 7 = .ok (.aload_n 0, 1) := by decide +kernel
theorem d_Mo_arriveAt_8 : decode b_Mo_arriveAt 8 = .ok (.getfield 47, 3) := by decide +kernel
theorem d_Mo_arriveAt_11 : decode b_Mo_arriveAt 11 = .ok (.iload_n 1, 1) := by decide +kernel
theorem d_Mo_arriveAt_12 : decode b_Mo_arriveAt 12 = .ok (.iload_n 2, 1) := by decide +kernel
theorem d_Mo_arriveAt_13 : decode b_Mo_arriveAt 13 = .ok (.iastore, 1) := by decide +kernel
theorem d_Mo_arriveAt_14 : decode b_Mo_arriveAt 14 = .ok (.aload_n 0, 1) := by decide +kernel
theorem d_Mo_arriveAt_15 : decode b_Mo_arriveAt 15 = .ok (.getfield 50, 3) := by decide +kernel
theorem d_Mo_arriveAt_18 : decode b_Mo_arriveAt 18 = .ok (.iload_n 1, 1) := by decide +kernel
theorem d_Mo_arriveAt_19 : decode b_Mo_arriveAt 19 = .ok (.iload_n 3, 1) := by decide +kernel
theorem d_Mo_arriveAt_20 : decode b_Mo_arriveAt 20 = .ok (.iastore, 1) := by decide +kernel
theorem d_Mo_arriveAt_21 : decode b_Mo_arriveAt 21 = .ok (.return_, 1) := by decide +kernel
theorem d_Mo_pairOf_0 : decode b_Mo_pairOf 0 = .ok (.lload_n 0, 1) := by decide +kernel
theorem d_Mo_pairOf_1 : decode b_Mo_pairOf 1 = .ok (.ldc2_w 150, 3) := by decide +kernel
theorem d_Mo_pairOf_4 : decode b_Mo_pairOf 4 = .ok (.lsub, 1) := by decide +kernel
theorem d_Mo_pairOf_5 : decode b_Mo_pairOf 5 = .ok (.l2i, 1) := by decide +kernel
theorem d_Mo_pairOf_6 : decode b_Mo_pairOf 6 = .ok (.ireturn, 1) := by decide +kernel
theorem d_Mo_push_0 : decode b_Mo_push 0 = .ok (.aload_n 0, 1) := by decide +kernel
theorem d_Mo_push_1 : decode b_Mo_push 1 = .ok (.getfield 89, 3) := by decide +kernel
theorem d_Mo_push_4 : decode b_Mo_push 4 = .ok (.bipush (6), 2) := by decide +kernel
theorem d_Mo_push_6 : decode b_Mo_push 6 = .ok (.iload_n 1, 1) := by decide +kernel
theorem d_Mo_push_7 : decode b_Mo_push 7 = .ok (.imul, 1) := by decide +kernel
theorem d_Mo_push_8 : decode b_Mo_push 8 = .ok (.aload_n 0, 1) := by decide +kernel
theorem d_Mo_push_9 : decode b_Mo_push 9 = .ok (.getfield 86, 3) := by decide +kernel
theorem d_Mo_push_12 : decode b_Mo_push 12 = .ok (.iload_n 1, 1) := by decide +kernel
theorem d_Mo_push_13 : decode b_Mo_push 13 = .ok (.iaload, 1) := by decide +kernel
theorem d_Mo_push_14 : decode b_Mo_push 14 = .ok (.iadd, 1) := by decide +kernel
theorem d_Mo_push_15 : decode b_Mo_push 15 = .ok (.lload_n 2, 1) := by decide +kernel
theorem d_Mo_push_16 : decode b_Mo_push 16 = .ok (.lastore, 1) := by decide +kernel
theorem d_Mo_push_17 : decode b_Mo_push 17 = .ok (.aload_n 0, 1) := by decide +kernel
theorem d_Mo_push_18 : decode b_Mo_push 18 = .ok (.getfield 86, 3) := by decide +kernel
theorem d_Mo_push_21 : decode b_Mo_push 21 = .ok (.iload_n 1, 1) := by decide +kernel
theorem d_Mo_push_22 : decode b_Mo_push 22 = .ok (.dup2, 1) := by decide +kernel
theorem d_Mo_push_23 : decode b_Mo_push 23 = .ok (.iaload, 1) := by decide +kernel
theorem d_Mo_push_24 : decode b_Mo_push 24 = .ok (.iconst (1), 1) := by decide +kernel
theorem d_Mo_push_25 : decode b_Mo_push 25 = .ok (.iadd, 1) := by decide +kernel
theorem d_Mo_push_26 : decode b_Mo_push 26 = .ok (.iastore, 1) := by decide +kernel
theorem d_Mo_push_27 : decode b_Mo_push 27 = .ok (.return_, 1) := by decide +kernel
theorem d_Mo_pop_0 : decode b_Mo_pop 0 = .ok (.aload_n 0, 1) := by decide +kernel
theorem d_Mo_pop_1 : decode b_Mo_pop 1 = .ok (.getfield 86, 3) := by decide +kernel
theorem d_Mo_pop_4 : decode b_Mo_pop 4 = .ok (.iload_n 1, 1) := by decide +kernel
theorem d_Mo_pop_5 : decode b_Mo_pop 5 = .ok (.dup2, 1) := by decide +kernel
theorem d_Mo_pop_6 : decode b_Mo_pop 6 = .ok (.iaload, 1) := by decide +kernel
theorem d_Mo_pop_7 : decode b_Mo_pop 7 = .ok (.iconst (1), 1) := by decide +kernel
theorem d_Mo_pop_8 : decode b_Mo_pop 8 = .ok (.isub, 1) := by decide +kernel
theorem d_Mo_pop_9 : decode b_Mo_pop 9 = .ok (.iastore, 1) := by decide +kernel
theorem d_Mo_pop_10 : decode b_Mo_pop 10 = .ok (.aload_n 0, 1) := by decide +kernel
theorem d_Mo_pop_11 : decode b_Mo_pop 11 = .ok (.getfield 89, 3) := by decide +kernel
theorem d_Mo_pop_14 : decode b_Mo_pop 14 = .ok (.bipush (6), 2) := by decide +kernel
theorem d_Mo_pop_16 : decode b_Mo_pop 16 = .ok (.iload_n 1, 1) := by decide +kernel
theorem d_Mo_pop_17 : decode b_Mo_pop 17 = .ok (.imul, 1) := by decide +kernel
theorem d_Mo_pop_18 : decode b_Mo_pop 18 = .ok (.aload_n 0, 1) := by decide +kernel
theorem d_Mo_pop_19 : decode b_Mo_pop 19 = .ok (.getfield 86, 3) := by decide +kernel
theorem d_Mo_pop_22 : decode b_Mo_pop 22 = .ok (.iload_n 1, 1) := by decide +kernel
theorem d_Mo_pop_23 : decode b_Mo_pop 23 = .ok (.iaload, 1) := by decide +kernel
theorem d_Mo_pop_24 : decode b_Mo_pop 24 = .ok (.iadd, 1) := by decide +kernel
theorem d_Mo_pop_25 : decode b_Mo_pop 25 = .ok (.laload, 1) := by decide +kernel
theorem d_Mo_pop_26 : decode b_Mo_pop 26 = .ok (.lreturn, 1) := by decide +kernel
theorem d_Mo_top_0 : decode b_Mo_top 0 = .ok (.aload_n 0, 1) := by decide +kernel
theorem d_Mo_top_1 : decode b_Mo_top 1 = .ok (.getfield 89, 3) := by decide +kernel
theorem d_Mo_top_4 : decode b_Mo_top 4 = .ok (.bipush (6), 2) := by decide +kernel
theorem d_Mo_top_6 : decode b_Mo_top 6 = .ok (.iload_n 1, 1) := by decide +kernel
theorem d_Mo_top_7 : decode b_Mo_top 7 = .ok (.imul, 1) := by decide +kernel
theorem d_Mo_top_8 : decode b_Mo_top 8 = .ok (.aload_n 0, 1) := by decide +kernel
theorem d_Mo_top_9 : decode b_Mo_top 9 = .ok (.getfield 86, 3) := by decide +kernel
theorem d_Mo_top_12 : decode b_Mo_top 12 = .ok (.iload_n 1, 1) := by decide +kernel
theorem d_Mo_top_13 : decode b_Mo_top 13 = .ok (.iaload, 1) := by decide +kernel
theorem d_Mo_top_14 : decode b_Mo_top 14 = .ok (.iadd, 1) := by decide +kernel
theorem d_Mo_top_15 : decode b_Mo_top 15 = .ok (.iconst (1), 1) := by decide +kernel
theorem d_Mo_top_16 : decode b_Mo_top 16 = .ok (.isub, 1) := by decide +kernel
theorem d_Mo_top_17 : decode b_Mo_top 17 = .ok (.iload_n 2, 1) := by decide +kernel
theorem d_Mo_top_18 : decode b_Mo_top 18 = .ok (.isub, 1) := by decide +kernel
theorem d_Mo_top_19 : decode b_Mo_top 19 = .ok (.laload, 1) := by decide +kernel
theorem d_Mo_top_20 : decode b_Mo_top 20 = .ok (.lreturn, 1) := by decide +kernel
theorem d_Mo_meet_0 : decode b_Mo_meet 0 = .ok (.lload_n 1, 1) := by decide +kernel
theorem d_Mo_meet_1 : decode b_Mo_meet 1 = .ok (.ldc2_w 150, 3) := by decide +kernel
theorem d_Mo_meet_4 : decode b_Mo_meet 4 = .ok (.lcmp, 1) := by decide +kernel
theorem d_Mo_meet_5 : decode b_Mo_meet 5 = .ok (.ifCond .lt (51), 3) := by decide +kernel
theorem d_Mo_meet_8 : decode b_Mo_meet 8 = .ok (.aload_n 0, 1) := by decide +kernel
theorem d_Mo_meet_9 : decode b_Mo_meet 9 = .ok (.getfield 105, 3) := by decide +kernel
theorem d_Mo_meet_12 : decode b_Mo_meet 12 = .ok (.lload_n 1, 1) := by decide +kernel
theorem d_Mo_meet_13 : decode b_Mo_meet 13 = .ok (.invokestatic 152, 3) := by decide +kernel
theorem d_Mo_meet_16 : decode b_Mo_meet 16 = .ok (.iaload, 1) := by decide +kernel
theorem d_Mo_meet_17 : decode b_Mo_meet 17 = .ok (.ifCond .ge (39), 3) := by decide +kernel
theorem d_Mo_meet_20 : decode b_Mo_meet 20 = .ok (.aload_n 0, 1) := by decide +kernel
theorem d_Mo_meet_21 : decode b_Mo_meet 21 = .ok (.getfield 105, 3) := by decide +kernel
theorem d_Mo_meet_24 : decode b_Mo_meet 24 = .ok (.lload_n 1, 1) := by decide +kernel
theorem d_Mo_meet_25 : decode b_Mo_meet 25 = .ok (.invokestatic 152, 3) := by decide +kernel
theorem d_Mo_meet_28 : decode b_Mo_meet 28 = .ok (.aload_n 0, 1) := by decide +kernel
theorem d_Mo_meet_29 : decode b_Mo_meet 29 = .ok (.getfield 156, 3) := by decide +kernel
theorem d_Mo_meet_32 : decode b_Mo_meet 32 = .ok (.iastore, 1) := by decide +kernel
theorem d_Mo_meet_33 : decode b_Mo_meet 33 = .ok (.aload_n 0, 1) := by decide +kernel
theorem d_Mo_meet_34 : decode b_Mo_meet 34 = .ok (.getfield 102, 3) := by decide +kernel
theorem d_Mo_meet_37 : decode b_Mo_meet 37 = .ok (.aload_n 0, 1) := by decide +kernel
theorem d_Mo_meet_38 : decode b_Mo_meet 38 = .ok (.getfield 156, 3) := by decide +kernel
theorem d_Mo_meet_41 : decode b_Mo_meet 41 = .ok (.lload_n 1, 1) := by decide +kernel
theorem d_Mo_meet_42 : decode b_Mo_meet 42 = .ok (.invokestatic 152, 3) := by decide +kernel
theorem d_Mo_meet_45 : decode b_Mo_meet 45 = .ok (.iastore, 1) := by decide +kernel
theorem d_Mo_meet_46 : decode b_Mo_meet 46 = .ok (.aload_n 0, 1) := by decide +kernel
theorem d_Mo_meet_47 : decode b_Mo_meet 47 = .ok (.dup, 1) := by decide +kernel
theorem d_Mo_meet_48 : decode b_Mo_meet 48 = .ok (.getfield 156, 3) := by decide +kernel
theorem d_Mo_meet_51 : decode b_Mo_meet 51 = .ok (.iconst (1), 1) := by decide +kernel
theorem d_Mo_meet_52 : decode b_Mo_meet 52 = .ok (.iadd, 1) := by decide +kernel
theorem d_Mo_meet_53 : decode b_Mo_meet 53 = .ok (.putfield 156, 3) := by decide +kernel
theorem d_Mo_meet_56 : decode b_Mo_meet 56 = .ok (.return_, 1) := by decide +kernel
theorem d_Mo_reach_0 : decode b_Mo_reach 0 = .ok (.aload_n 0, 1) := by decide +kernel
theorem d_Mo_reach_1 : decode b_Mo_reach 1 = .ok (.iconst (0), 1) := by decide +kernel
theorem d_Mo_reach_2 : decode b_Mo_reach 2 = .ok (.putfield 156, 3) := by decide +kernel
theorem d_Mo_reach_5 : decode b_Mo_reach 5 = .ok (.iconst (0), 1) := by decide +kernel
theorem d_Mo_reach_6 : decode b_Mo_reach 6 = .ok (.istore_n 2, 1) := by decide +kernel
theorem d_Mo_reach_7 : decode b_Mo_reach 7 = .ok (.iload_n 2, 1) := by decide +kernel
theorem d_Mo_reach_8 : decode b_Mo_reach 8 = .ok (.bipush (9), 2) := by decide +kernel
theorem d_Mo_reach_10 : decode b_Mo_reach 10 = .ok (.if_icmp .ge (16), 3) := by decide +kernel
theorem d_Mo_reach_13 : decode b_Mo_reach 13 = .ok (.aload_n 0, 1) := by decide +kernel
theorem d_Mo_reach_14 : decode b_Mo_reach 14 = .ok (.getfield 105, 3) := by decide +kernel
theorem d_Mo_reach_17 : decode b_Mo_reach 17 = .ok (.iload_n 2, 1) := by decide +kernel
theorem d_Mo_reach_18 : decode b_Mo_reach 18 = .ok (.iconst (-1), 1) := by decide +kernel
theorem d_Mo_reach_19 : decode b_Mo_reach 19 = .ok (.iastore, 1) := by decide +kernel
theorem d_Mo_reach_20 : decode b_Mo_reach 20 = .ok (.iinc 2 (1), 3) := by decide +kernel
theorem d_Mo_reach_23 : decode b_Mo_reach 23 = .ok (.goto (-16), 3) := by decide +kernel
theorem d_Mo_reach_26 : decode b_Mo_reach 26 = .ok (.iconst (0), 1) := by decide +kernel
theorem d_Mo_reach_27 : decode b_Mo_reach 27 = .ok (.istore_n 2, 1) := by decide +kernel
theorem d_Mo_reach_28 : decode b_Mo_reach 28 = .ok (.iload_n 2, 1) := by decide +kernel
theorem d_Mo_reach_29 : decode b_Mo_reach 29 = .ok (.aload_n 0, 1) := by decide +kernel
theorem d_Mo_reach_30 : decode b_Mo_reach 30 = .ok (.getfield 86, 3) := by decide +kernel
theorem d_Mo_reach_33 : decode b_Mo_reach 33 = .ok (.iload_n 1, 1) := by decide +kernel
theorem d_Mo_reach_34 : decode b_Mo_reach 34 = .ok (.iaload, 1) := by decide +kernel
theorem d_Mo_reach_35 : decode b_Mo_reach 35 = .ok (.if_icmp .ge (24), 3) := by decide +kernel
theorem d_Mo_reach_38 : decode b_Mo_reach 38 = .ok (.aload_n 0, 1) := by decide +kernel
theorem d_Mo_reach_39 : decode b_Mo_reach 39 = .ok (.aload_n 0, 1) := by decide +kernel
theorem d_Mo_reach_40 : decode b_Mo_reach 40 = .ok (.getfield 89, 3) := by decide +kernel
theorem d_Mo_reach_43 : decode b_Mo_reach 43 = .ok (.bipush (6), 2) := by decide +kernel
theorem d_Mo_reach_45 : decode b_Mo_reach 45 = .ok (.iload_n 1, 1) := by decide +kernel
theorem d_Mo_reach_46 : decode b_Mo_reach 46 = .ok (.imul, 1) := by decide +kernel
theorem d_Mo_reach_47 : decode b_Mo_reach 47 = .ok (.iload_n 2, 1) := by decide +kernel
theorem d_Mo_reach_48 : decode b_Mo_reach 48 = .ok (.iadd, 1) := by decide +kernel
theorem d_Mo_reach_49 : decode b_Mo_reach 49 = .ok (.laload, 1) := by decide +kernel
theorem d_Mo_reach_50 : decode b_Mo_reach 50 = .ok (.invokevirtual 159, 3) := by decide +kernel
theorem d_Mo_reach_53 : decode b_Mo_reach 53 = .ok (.iinc 2 (1), 3) := by decide +kernel
theorem d_Mo_reach_56 : decode b_Mo_reach 56 = .ok (.goto (-28), 3) := by decide +kernel
theorem d_Mo_reach_59 : decode b_Mo_reach 59 = .ok (.iconst (0), 1) := by decide +kernel
theorem d_Mo_reach_60 : decode b_Mo_reach 60 = .ok (.istore_n 2, 1) := by decide +kernel
theorem d_Mo_reach_61 : decode b_Mo_reach 61 = .ok (.iload_n 2, 1) := by decide +kernel
theorem d_Mo_reach_62 : decode b_Mo_reach 62 = .ok (.aload_n 0, 1) := by decide +kernel
theorem d_Mo_reach_63 : decode b_Mo_reach 63 = .ok (.getfield 156, 3) := by decide +kernel
theorem d_Mo_reach_66 : decode b_Mo_reach 66 = .ok (.if_icmp .ge (49), 3) := by decide +kernel
theorem d_Mo_reach_69 : decode b_Mo_reach 69 = .ok (.aload_n 0, 1) := by decide +kernel
theorem d_Mo_reach_70 : decode b_Mo_reach 70 = .ok (.aload_n 0, 1) := by decide +kernel
theorem d_Mo_reach_71 : decode b_Mo_reach 71 = .ok (.getfield 96, 3) := by decide +kernel
theorem d_Mo_reach_74 : decode b_Mo_reach 74 = .ok (.bipush (9), 2) := by decide +kernel
theorem d_Mo_reach_76 : decode b_Mo_reach 76 = .ok (.iload_n 1, 1) := by decide +kernel
theorem d_Mo_reach_77 : decode b_Mo_reach 77 = .ok (.imul, 1) := by decide +kernel
theorem d_Mo_reach_78 : decode b_Mo_reach 78 = .ok (.aload_n 0, 1) := by decide +kernel
theorem d_Mo_reach_79 : decode b_Mo_reach 79 = .ok (.getfield 102, 3) := by decide +kernel
theorem d_Mo_reach_82 : decode b_Mo_reach 82 = .ok (.iload_n 2, 1) := by decide +kernel
theorem d_Mo_reach_83 : decode b_Mo_reach 83 = .ok (.iaload, 1) := by decide +kernel
theorem d_Mo_reach_84 : decode b_Mo_reach 84 = .ok (.iadd, 1) := by decide +kernel
theorem d_Mo_reach_85 : decode b_Mo_reach 85 = .ok (.laload, 1) := by decide +kernel
theorem d_Mo_reach_86 : decode b_Mo_reach 86 = .ok (.invokevirtual 159, 3) := by decide +kernel
theorem d_Mo_reach_89 : decode b_Mo_reach 89 = .ok (.aload_n 0, 1) := by decide +kernel
theorem d_Mo_reach_90 : decode b_Mo_reach 90 = .ok (.aload_n 0, 1) := by decide +kernel
theorem d_Mo_reach_91 : decode b_Mo_reach 91 = .ok (.getfield 99, 3) := by decide +kernel
theorem d_Mo_reach_94 : decode b_Mo_reach 94 = .ok (.bipush (9), 2) := by decide +kernel
theorem d_Mo_reach_96 : decode b_Mo_reach 96 = .ok (.iload_n 1, 1) := by decide +kernel
theorem d_Mo_reach_97 : decode b_Mo_reach 97 = .ok (.imul, 1) := by decide +kernel
theorem d_Mo_reach_98 : decode b_Mo_reach 98 = .ok (.aload_n 0, 1) := by decide +kernel
theorem d_Mo_reach_99 : decode b_Mo_reach 99 = .ok (.getfield 102, 3) := by decide +kernel
theorem d_Mo_reach_102 : decode b_Mo_reach 102 = .ok (.iload_n 2, 1) := by decide +kernel
theorem d_Mo_reach_103 : decode b_Mo_reach 103 = .ok (.iaload, 1) := by decide +kernel
theorem d_Mo_reach_104 : decode b_Mo_reach 104 = .ok (.iadd, 1) := by decide +kernel
theorem d_Mo_reach_105 : decode b_Mo_reach 105 = .ok (.laload, 1) := by decide +kernel
theorem d_Mo_reach_106 : decode b_Mo_reach 106 = .ok (.invokevirtual 159, 3) := by decide +kernel
theorem d_Mo_reach_109 : decode b_Mo_reach 109 = .ok (.iinc 2 (1), 3) := by decide +kernel
theorem d_Mo_reach_112 : decode b_Mo_reach 112 = .ok (.goto (-51), 3) := by decide +kernel
theorem d_Mo_reach_115 : decode b_Mo_reach 115 = .ok (.aload_n 0, 1) := by decide +kernel
theorem d_Mo_reach_116 : decode b_Mo_reach 116 = .ok (.getfield 156, 3) := by decide +kernel
theorem d_Mo_reach_119 : decode b_Mo_reach 119 = .ok (.ireturn, 1) := by decide +kernel
theorem d_Mo_renamed_0 : decode b_Mo_renamed 0 = .ok (.lload_n 1, 1) := by decide +kernel
theorem d_Mo_renamed_1 : decode b_Mo_renamed 1 = .ok (.ldc2_w 150, 3) := by decide +kernel
theorem d_Mo_renamed_4 : decode b_Mo_renamed 4 = .ok (.lcmp, 1) := by decide +kernel
theorem d_Mo_renamed_5 : decode b_Mo_renamed 5 = .ok (.ifCond .ge (7), 3) := by decide +kernel
theorem d_Mo_renamed_8 : decode b_Mo_renamed 8 = .ok (.lload_n 1, 1) := by decide +kernel
theorem d_Mo_renamed_9 : decode b_Mo_renamed 9 = .ok (.goto (17), 3) := by decide +kernel
theorem d_Mo_renamed_12 : decode b_Mo_renamed 12 = .ok (.ldc2_w 150, 3) := by decide +kernel
theorem d_Mo_renamed_15 : decode b_Mo_renamed 15 = .ok (.aload_n 0, 1) := by decide +kernel
theorem d_Mo_renamed_16 : decode b_Mo_renamed 16 = .ok (.getfield 105, 3) := by decide +kernel
theorem d_Mo_renamed_19 : decode b_Mo_renamed 19 = .ok (.lload_n 1, 1) := by decide +kernel
theorem d_Mo_renamed_20 : decode b_Mo_renamed 20 = .ok (.invokestatic 152, 3) := by decide +kernel
theorem d_Mo_renamed_23 : decode b_Mo_renamed 23 = .ok (.iaload, 1) := by decide +kernel
theorem d_Mo_renamed_24 : decode b_Mo_renamed 24 = .ok (.i2l, 1) := by decide +kernel
theorem d_Mo_renamed_25 : decode b_Mo_renamed 25 = .ok (.ladd, 1) := by decide +kernel
theorem d_Mo_renamed_26 : decode b_Mo_renamed 26 = .ok (.lreturn, 1) := by decide +kernel
theorem d_Mo_tidy_0 : decode b_Mo_tidy 0 = .ok (.aload_n 0, 1) := by decide +kernel
theorem d_Mo_tidy_1 : decode b_Mo_tidy 1 = .ok (.iload_n 1, 1) := by decide +kernel
theorem d_Mo_tidy_2 : decode b_Mo_tidy 2 = .ok (.invokevirtual 163, 3) := by decide +kernel
theorem d_Mo_tidy_5 : decode b_Mo_tidy 5 = .ok (.istore_n 2, 1) := by decide +kernel
theorem d_Mo_tidy_6 : decode b_Mo_tidy 6 = .ok (.iconst (0), 1) := by decide +kernel
theorem d_Mo_tidy_7 : decode b_Mo_tidy 7 = .ok (.istore_n 3, 1) := by decide +kernel
theorem d_Mo_tidy_8 : decode b_Mo_tidy 8 = .ok (.iload_n 3, 1) := by decide +kernel
theorem d_Mo_tidy_9 : decode b_Mo_tidy 9 = .ok (.iload_n 2, 1) := by decide +kernel
theorem d_Mo_tidy_10 : decode b_Mo_tidy 10 = .ok (.if_icmp .ge (61), 3) := by decide +kernel
theorem d_Mo_tidy_13 : decode b_Mo_tidy 13 = .ok (.aload_n 0, 1) := by decide +kernel
theorem d_Mo_tidy_14 : decode b_Mo_tidy 14 = .ok (.getfield 108, 3) := by decide +kernel
theorem d_Mo_tidy_17 : decode b_Mo_tidy 17 = .ok (.iload_n 3, 1) := by decide +kernel
theorem d_Mo_tidy_18 : decode b_Mo_tidy 18 = .ok (.aload_n 0, 1) := by decide +kernel
theorem d_Mo_tidy_19 : decode b_Mo_tidy 19 = .ok (.aload_n 0, 1) := by decide +kernel
theorem d_Mo_tidy_20 : decode b_Mo_tidy 20 = .ok (.getfield 96, 3) := by decide +kernel
theorem d_Mo_tidy_23 : decode b_Mo_tidy 23 = .ok (.bipush (9), 2) := by decide +kernel
theorem d_Mo_tidy_25 : decode b_Mo_tidy 25 = .ok (.iload_n 1, 1) := by decide +kernel
theorem d_Mo_tidy_26 : decode b_Mo_tidy 26 = .ok (.imul, 1) := by decide +kernel
theorem d_Mo_tidy_27 : decode b_Mo_tidy 27 = .ok (.aload_n 0, 1) := by decide +kernel
theorem d_Mo_tidy_28 : decode b_Mo_tidy 28 = .ok (.getfield 102, 3) := by decide +kernel
theorem d_Mo_tidy_31 : decode b_Mo_tidy 31 = .ok (.iload_n 3, 1) := by decide +kernel
theorem d_Mo_tidy_32 : decode b_Mo_tidy 32 = .ok (.iaload, 1) := by decide +kernel
theorem d_Mo_tidy_33 : decode b_Mo_tidy 33 = .ok (.iadd, 1) := by decide +kernel
theorem d_Mo_tidy_34 : decode b_Mo_tidy 34 = .ok (.laload, 1) := by decide +kernel
theorem d_Mo_tidy_35 : decode b_Mo_tidy 35 = .ok (.invokevirtual 167, 3) := by decide +kernel
theorem d_Mo_tidy_38 : decode b_Mo_tidy 38 = .ok (.lastore, 1) := by decide +kernel
theorem d_Mo_tidy_39 : decode b_Mo_tidy 39 = .ok (.aload_n 0, 1) := by decide +kernel
theorem d_Mo_tidy_40 : decode b_Mo_tidy 40 = .ok (.getfield 111, 3) := by decide +kernel
theorem d_Mo_tidy_43 : decode b_Mo_tidy 43 = .ok (.iload_n 3, 1) := by decide +kernel
theorem d_Mo_tidy_44 : decode b_Mo_tidy 44 = .ok (.aload_n 0, 1) := by decide +kernel
theorem d_Mo_tidy_45 : decode b_Mo_tidy 45 = .ok (.aload_n 0, 1) := by decide +kernel
theorem d_Mo_tidy_46 : decode b_Mo_tidy 46 = .ok (.getfield 99, 3) := by decide +kernel
theorem d_Mo_tidy_49 : decode b_Mo_tidy 49 = .ok (.bipush (9), 2) := by decide +kernel
theorem d_Mo_tidy_51 : decode b_Mo_tidy 51 = .ok (.iload_n 1, 1) := by decide +kernel
theorem d_Mo_tidy_52 : decode b_Mo_tidy 52 = .ok (.imul, 1) := by decide +kernel
theorem d_Mo_tidy_53 : decode b_Mo_tidy 53 = .ok (.aload_n 0, 1) := by decide +kernel
theorem d_Mo_tidy_54 : decode b_Mo_tidy 54 = .ok (.getfield 102, 3) := by decide +kernel
theorem d_Mo_tidy_57 : decode b_Mo_tidy 57 = .ok (.iload_n 3, 1) := by decide +kernel
theorem d_Mo_tidy_58 : decode b_Mo_tidy 58 = .ok (.iaload, 1) := by decide +kernel
theorem d_Mo_tidy_59 : decode b_Mo_tidy 59 = .ok (.iadd, 1) := by decide +kernel
theorem d_Mo_tidy_60 : decode b_Mo_tidy 60 = .ok (.laload, 1) := by decide +kernel
theorem d_Mo_tidy_61 : decode b_Mo_tidy 61 = .ok (.invokevirtual 167, 3) := by decide +kernel
theorem d_Mo_tidy_64 : decode b_Mo_tidy 64 = .ok (.lastore, 1) := by decide +kernel
theorem d_Mo_tidy_65 : decode b_Mo_tidy 65 = .ok (.iinc 3 (1), 3) := by decide +kernel
theorem d_Mo_tidy_68 : decode b_Mo_tidy 68 = .ok (.goto (-60), 3) := by decide +kernel
theorem d_Mo_tidy_71 : decode b_Mo_tidy 71 = .ok (.iconst (0), 1) := by decide +kernel
theorem d_Mo_tidy_72 : decode b_Mo_tidy 72 = .ok (.istore_n 3, 1) := by decide +kernel
theorem d_Mo_tidy_73 : decode b_Mo_tidy 73 = .ok (.iload_n 3, 1) := by decide +kernel
theorem d_Mo_tidy_74 : decode b_Mo_tidy 74 = .ok (.iload_n 2, 1) := by decide +kernel
theorem d_Mo_tidy_75 : decode b_Mo_tidy 75 = .ok (.if_icmp .ge (43), 3) := by decide +kernel
theorem d_Mo_tidy_78 : decode b_Mo_tidy 78 = .ok (.aload_n 0, 1) := by decide +kernel
theorem d_Mo_tidy_79 : decode b_Mo_tidy 79 = .ok (.getfield 96, 3) := by decide +kernel
theorem d_Mo_tidy_82 : decode b_Mo_tidy 82 = .ok (.bipush (9), 2) := by decide +kernel
theorem d_Mo_tidy_84 : decode b_Mo_tidy 84 = .ok (.iload_n 1, 1) := by decide +kernel
theorem d_Mo_tidy_85 : decode b_Mo_tidy 85 = .ok (.imul, 1) := by decide +kernel
theorem d_Mo_tidy_86 : decode b_Mo_tidy 86 = .ok (.iload_n 3, 1) := by decide +kernel
theorem d_Mo_tidy_87 : decode b_Mo_tidy 87 = .ok (.iadd, 1) := by decide +kernel
theorem d_Mo_tidy_88 : decode b_Mo_tidy 88 = .ok (.aload_n 0, 1) := by decide +kernel
theorem d_Mo_tidy_89 : decode b_Mo_tidy 89 = .ok (.getfield 108, 3) := by decide +kernel
theorem d_Mo_tidy_92 : decode b_Mo_tidy 92 = .ok (.iload_n 3, 1) := by decide +kernel
theorem d_Mo_tidy_93 : decode b_Mo_tidy 93 = .ok (.laload, 1) := by decide +kernel
theorem d_Mo_tidy_94 : decode b_Mo_tidy 94 = .ok (.lastore, 1) := by decide +kernel
theorem d_Mo_tidy_95 : decode b_Mo_tidy 95 = .ok (.aload_n 0, 1) := by decide +kernel
theorem d_Mo_tidy_96 : decode b_Mo_tidy 96 = .ok (.getfield 99, 3) := by decide +kernel
theorem d_Mo_tidy_99 : decode b_Mo_tidy 99 = .ok (.bipush (9), 2) := by decide +kernel
theorem d_Mo_tidy_101 : decode b_Mo_tidy 101 = .ok (.iload_n 1, 1) := by decide +kernel
theorem d_Mo_tidy_102 : decode b_Mo_tidy 102 = .ok (.imul, 1) := by decide +kernel
theorem d_Mo_tidy_103 : decode b_Mo_tidy 103 = .ok (.iload_n 3, 1) := by decide +kernel
theorem d_Mo_tidy_104 : decode b_Mo_tidy 104 = .ok (.iadd, 1) := by decide +kernel
theorem d_Mo_tidy_105 : decode b_Mo_tidy 105 = .ok (.aload_n 0, 1) := by decide +kernel
theorem d_Mo_tidy_106 : decode b_Mo_tidy 106 = .ok (.getfield 111, 3) := by decide +kernel
theorem d_Mo_tidy_109 : decode b_Mo_tidy 109 = .ok (.iload_n 3, 1) := by decide +kernel
theorem d_Mo_tidy_110 : decode b_Mo_tidy 110 = .ok (.laload, 1) := by decide +kernel
theorem d_Mo_tidy_111 : decode b_Mo_tidy 111 = .ok (.lastore, 1) := by decide +kernel
theorem d_Mo_tidy_112 : decode b_Mo_tidy 112 = .ok (.iinc 3 (1), 3) := by decide +kernel
theorem d_Mo_tidy_115 : decode b_Mo_tidy 115 = .ok (.goto (-42), 3) := by decide +kernel
theorem d_Mo_tidy_118 : decode b_Mo_tidy 118 = .ok (.iconst (0), 1) := by decide +kernel
theorem d_Mo_tidy_119 : decode b_Mo_tidy 119 = .ok (.istore_n 3, 1) := by decide +kernel
theorem d_Mo_tidy_120 : decode b_Mo_tidy 120 = .ok (.iload_n 3, 1) := by decide +kernel
theorem d_Mo_tidy_121 : decode b_Mo_tidy 121 = .ok (.aload_n 0, 1) := by decide +kernel
theorem d_Mo_tidy_122 : decode b_Mo_tidy 122 = .ok (.getfield 86, 3) := by decide +kernel
theorem d_Mo_tidy_125 : decode b_Mo_tidy 125 = .ok (.iload_n 1, 1) := by decide +kernel
theorem d_Mo_tidy_126 : decode b_Mo_tidy 126 = .ok (.iaload, 1) := by decide +kernel
theorem d_Mo_tidy_127 : decode b_Mo_tidy 127 = .ok (.if_icmp .ge (35), 3) := by decide +kernel
theorem d_Mo_tidy_130 : decode b_Mo_tidy 130 = .ok (.aload_n 0, 1) := by decide +kernel
theorem d_Mo_tidy_131 : decode b_Mo_tidy 131 = .ok (.getfield 89, 3) := by decide +kernel
theorem d_Mo_tidy_134 : decode b_Mo_tidy 134 = .ok (.bipush (6), 2) := by decide +kernel
theorem d_Mo_tidy_136 : decode b_Mo_tidy 136 = .ok (.iload_n 1, 1) := by decide +kernel
theorem d_Mo_tidy_137 : decode b_Mo_tidy 137 = .ok (.imul, 1) := by decide +kernel
theorem d_Mo_tidy_138 : decode b_Mo_tidy 138 = .ok (.iload_n 3, 1) := by decide +kernel
theorem d_Mo_tidy_139 : decode b_Mo_tidy 139 = .ok (.iadd, 1) := by decide +kernel
theorem d_Mo_tidy_140 : decode b_Mo_tidy 140 = .ok (.aload_n 0, 1) := by decide +kernel
theorem d_Mo_tidy_141 : decode b_Mo_tidy 141 = .ok (.aload_n 0, 1) := by decide +kernel
theorem d_Mo_tidy_142 : decode b_Mo_tidy 142 = .ok (.getfield 89, 3) := by decide +kernel
theorem d_Mo_tidy_145 : decode b_Mo_tidy 145 = .ok (.bipush (6), 2) := by decide +kernel
theorem d_Mo_tidy_147 : decode b_Mo_tidy 147 = .ok (.iload_n 1, 1) := by decide +kernel
theorem d_Mo_tidy_148 : decode b_Mo_tidy 148 = .ok (.imul, 1) := by decide +kernel
theorem d_Mo_tidy_149 : decode b_Mo_tidy 149 = .ok (.iload_n 3, 1) := by decide +kernel
theorem d_Mo_tidy_150 : decode b_Mo_tidy 150 = .ok (.iadd, 1) := by decide +kernel
theorem d_Mo_tidy_151 : decode b_Mo_tidy 151 = .ok (.laload, 1) := by decide +kernel
theorem d_Mo_tidy_152 : decode b_Mo_tidy 152 = .ok (.invokevirtual 167, 3) := by decide +kernel
theorem d_Mo_tidy_155 : decode b_Mo_tidy 155 = .ok (.lastore, 1) := by decide +kernel
theorem d_Mo_tidy_156 : decode b_Mo_tidy 156 = .ok (.iinc 3 (1), 3) := by decide +kernel
theorem d_Mo_tidy_159 : decode b_Mo_tidy 159 = .ok (.goto (-39), 3) := by decide +kernel
theorem d_Mo_tidy_162 : decode b_Mo_tidy 162 = .ok (.aload_n 0, 1) := by decide +kernel
theorem d_Mo_tidy_163 : decode b_Mo_tidy 163 = .ok (.getfield 93, 3) := by decide +kernel
theorem d_Mo_tidy_166 : decode b_Mo_tidy 166 = .ok (.iload_n 1, 1) := by decide +kernel
theorem d_Mo_tidy_167 : decode b_Mo_tidy 167 = .ok (.iload_n 2, 1) := by decide +kernel
theorem d_Mo_tidy_168 : decode b_Mo_tidy 168 = .ok (.iastore, 1) := by decide +kernel
theorem d_Mo_tidy_169 : decode b_Mo_tidy 169 = .ok (.return_, 1) := by decide +kernel
theorem d_Mo_program_0 : decode b_Mo_program 0 = .ok (.aload_n 0, 1) := by decide +kernel
theorem d_Mo_program_1 : decode b_Mo_program 1 = .ok (.iconst (0), 1) := by decide +kernel
theorem d_Mo_program_2 : decode b_Mo_program 2 = .ok (.putfield 142, 3) := by decide +kernel
theorem d_Mo_program_5 : decode b_Mo_program 5 = .ok (.iload_n 1, 1) := by decide +kernel
theorem d_Mo_program_6 : decode b_Mo_program 6 = .ok (.iconst (0), 1) := by decide +kernel
theorem d_Mo_program_7 : decode b_Mo_program 7 = .ok (.iconst (3), 1) := by decide +kernel
theorem d_Mo_program_8 : decode b_Mo_program 8 = .ok (.invokestatic 171, 3) := by decide +kernel
theorem d_Mo_program_11 : decode b_Mo_program 11 = .ok (.ifCond .eq (35), 3) := by decide +kernel
theorem d_Mo_program_14 : decode b_Mo_program 14 = .ok (.iload 4, 2) := by decide +kernel
theorem d_Mo_program_16 : decode b_Mo_program 16 = .ok (.iconst (1), 1) := by decide +kernel
theorem d_Mo_program_17 : decode b_Mo_program 17 = .ok (.bipush (8), 2) := by decide +kernel
theorem d_Mo_program_19 : decode b_Mo_program 19 = .ok (.invokestatic 171, 3) := by decide +kernel
theorem d_Mo_program_22 : decode b_Mo_program 22 = .ok (.ifCond .eq (24), 3) := by decide +kernel
theorem d_Mo_program_25 : decode b_Mo_program 25 = .ok (.aload_n 0, 1) := by decide +kernel
theorem d_Mo_program_26 : decode b_Mo_program 26 = .ok (.getfield 175, 3) := by decide +kernel
theorem d_Mo_program_29 : decode b_Mo_program 29 = .ok (.ifCond .gt (17), 3) := by decide +kernel
theorem d_Mo_program_32 : decode b_Mo_program 32 = .ok (.aload_n 0, 1) := by decide +kernel
theorem d_Mo_program_33 : decode b_Mo_program 33 = .ok (.getfield 13, 3) := by decide +kernel
theorem d_Mo_program_36 : decode b_Mo_program 36 = .ok (.iload_n 1, 1) := by decide +kernel
theorem d_Mo_program_37 : decode b_Mo_program 37 = .ok (.iaload, 1) := by decide +kernel
theorem d_Mo_program_38 : decode b_Mo_program 38 = .ok (.iload 4, 2) := by decide +kernel
theorem d_Mo_program_40 : decode b_Mo_program 40 = .ok (.iadd, 1) := by decide +kernel
theorem d_Mo_program_41 : decode b_Mo_program 41 = .ok (.bipush (48), 2) := by decide +kernel
theorem d_Mo_program_43 : decode b_Mo_program 43 = .ok (.if_icmp .le (5), 3) := by decide +kernel
theorem d_Mo_program_46 : decode b_Mo_program 46 = .ok (.iconst (-1), 1) := by decide +kernel
theorem d_Mo_program_47 : decode b_Mo_program 47 = .ok (.ireturn, 1) := by decide +kernel
theorem d_Mo_program_48 : decode b_Mo_program 48 = .ok (.iload 4, 2) := by decide +kernel
theorem d_Mo_program_50 : decode b_Mo_program 50 = .ok (.iconst (1), 1) := by decide +kernel
theorem d_Mo_program_51 : decode b_Mo_program 51 = .ok (.isub, 1) := by decide +kernel
theorem d_Mo_program_52 : decode b_Mo_program 52 = .ok (.istore 5, 2) := by decide +kernel
theorem d_Mo_program_54 : decode b_Mo_program 54 = .ok (.iload 5, 2) := by decide +kernel
theorem d_Mo_program_56 : decode b_Mo_program 56 = .ok (.ifCond .lt (47), 3) := by decide +kernel
theorem d_Mo_program_59 : decode b_Mo_program 59 = .ok (.aload_n 0, 1) := by decide +kernel
theorem d_Mo_program_60 : decode b_Mo_program 60 = .ok (.getfield 7, 3) := by decide +kernel
theorem d_Mo_program_63 : decode b_Mo_program 63 = .ok (.bipush (48), 2) := by decide +kernel
theorem d_Mo_program_65 : decode b_Mo_program 65 = .ok (.iload_n 1, 1) := by decide +kernel
theorem d_Mo_program_66 : decode b_Mo_program 66 = .ok (.imul, 1) := by decide +kernel
theorem d_Mo_program_67 : decode b_Mo_program 67 = .ok (.aload_n 0, 1) := by decide +kernel
theorem d_Mo_program_68 : decode b_Mo_program 68 = .ok (.getfield 13, 3) := by decide +kernel
theorem d_Mo_program_71 : decode b_Mo_program 71 = .ok (.iload_n 1, 1) := by decide +kernel
theorem d_Mo_program_72 : decode b_Mo_program 72 = .ok (.iaload, 1) := by decide +kernel
theorem d_Mo_program_73 : decode b_Mo_program 73 = .ok (.iadd, 1) := by decide +kernel
theorem d_Mo_program_74 : decode b_Mo_program 74 = .ok (.lload_n 2, 1) := by decide +kernel
theorem d_Mo_program_75 : decode b_Mo_program 75 = .ok (.bipush (8), 2) := by decide +kernel
theorem d_Mo_program_77 : decode b_Mo_program 77 = .ok (.iload 5, 2) := by decide +kernel
theorem d_Mo_program_79 : decode b_Mo_program 79 = .ok (.imul, 1) := by decide +kernel
theorem d_Mo_program_80 : decode b_Mo_program 80 = .ok (.lshr, 1) := by decide +kernel
theorem d_Mo_program_81 : decode b_Mo_program 81 = .ok (.ldc2_w 178, 3) := by decide +kernel
theorem d_Mo_program_84 : decode b_Mo_program 84 = .ok (.land, 1) := by decide +kernel
theorem d_Mo_program_85 : decode b_Mo_program 85 = .ok (.l2i, 1) := by decide +kernel
theorem d_Mo_program_86 : decode b_Mo_program 86 = .ok (.iastore, 1) := by decide +kernel
theorem d_Mo_program_87 : decode b_Mo_program 87 = .ok (.aload_n 0, 1) := by decide +kernel
theorem d_Mo_program_88 : decode b_Mo_program 88 = .ok (.getfield 13, 3) := by decide +kernel
theorem d_Mo_program_91 : decode b_Mo_program 91 = .ok (.iload_n 1, 1) := by decide +kernel
theorem d_Mo_program_92 : decode b_Mo_program 92 = .ok (.dup2, 1) := by decide +kernel
theorem d_Mo_program_93 : decode b_Mo_program 93 = .ok (.iaload, 1) := by decide +kernel
theorem d_Mo_program_94 : decode b_Mo_program 94 = .ok (.iconst (1), 1) := by decide +kernel
theorem d_Mo_program_95 : decode b_Mo_program 95 = .ok (.iadd, 1) := by decide +kernel
theorem d_Mo_program_96 : decode b_Mo_program 96 = .ok (.iastore, 1) := by decide +kernel
theorem d_Mo_program_97 : decode b_Mo_program 97 = .ok (.iinc 5 (-1), 3) := by decide +kernel
theorem d_Mo_program_100 : decode b_Mo_program 100 = .ok (.goto (-46), 3) := by decide +kernel
theorem d_Mo_program_103 : decode b_Mo_program 103 = .ok (.aload_n 0, 1) := by decide +kernel
theorem d_Mo_program_104 : decode b_Mo_program 104 = .ok (.getfield 13, 3) := by decide +kernel
theorem d_Mo_program_107 : decode b_Mo_program 107 = .ok (.iload_n 1, 1) := by decide +kernel
theorem d_Mo_program_108 : decode b_Mo_program 108 = .ok (.iaload, 1) := by decide +kernel
theorem d_Mo_program_109 : decode b_Mo_program 109 = .ok (.ireturn, 1) := by decide +kernel
theorem d_Mo_table_0 : decode b_Mo_table 0 = .ok (.aload_n 0, 1) := by decide +kernel
theorem d_Mo_table_1 : decode b_Mo_table 1 = .ok (.iconst (0), 1) := by decide +kernel
theorem d_Mo_table_2 : decode b_Mo_table 2 = .ok (.putfield 142, 3) := by decide +kernel
theorem d_Mo_table_5 : decode b_Mo_table 5 = .ok (.iload_n 1, 1) := by decide +kernel
theorem d_Mo_table_6 : decode b_Mo_table 6 = .ok (.iconst (0), 1) := by decide +kernel
theorem d_Mo_table_7 : decode b_Mo_table 7 = .ok (.iconst (3), 1) := by decide +kernel
theorem d_Mo_table_8 : decode b_Mo_table 8 = .ok (.invokestatic 171, 3) := by decide +kernel
theorem d_Mo_table_11 : decode b_Mo_table 11 = .ok (.ifCond .eq (20), 3) := by decide +kernel
theorem d_Mo_table_14 : decode b_Mo_table 14 = .ok (.iload_n 2, 1) := by decide +kernel
theorem d_Mo_table_15 : decode b_Mo_table 15 = .ok (.iconst (0), 1) := by decide +kernel
theorem d_Mo_table_16 : decode b_Mo_table 16 = .ok (.bipush (7), 2) := by decide +kernel
theorem d_Mo_table_18 : decode b_Mo_table 18 = .ok (.invokestatic 171, 3) := by decide +kernel
theorem d_Mo_table_21 : decode b_Mo_table 21 = .ok (.ifCond .eq (10), 3) := by decide +kernel
theorem d_Mo_table_24 : decode b_Mo_table 24 = .ok (.aload_n 0, 1) := by decide +kernel
theorem d_Mo_table_25 : decode b_Mo_table 25 = .ok (.getfield 175, 3) := by decide +kernel
theorem d_Mo_table_28 : decode b_Mo_table 28 = .ok (.ifCond .le (5), 3) := by decide +kernel
theorem d_Mo_table_31 : decode b_Mo_table 31 = .ok (.iconst (0), 1) := by decide +kernel
theorem d_Mo_table_32 : decode b_Mo_table 32 = .ok (.ireturn, 1) := by decide +kernel
theorem d_Mo_table_33 : decode b_Mo_table 33 = .ok (.aload_n 0, 1) := by decide +kernel
theorem d_Mo_table_34 : decode b_Mo_table 34 = .ok (.getfield 16, 3) := by decide +kernel
theorem d_Mo_table_37 : decode b_Mo_table 37 = .ok (.bipush (8), 2) := by decide +kernel
theorem d_Mo_table_39 : decode b_Mo_table 39 = .ok (.iload_n 1, 1) := by decide +kernel
theorem d_Mo_table_40 : decode b_Mo_table 40 = .ok (.imul, 1) := by decide +kernel
theorem d_Mo_table_41 : decode b_Mo_table 41 = .ok (.iload_n 2, 1) := by decide +kernel
theorem d_Mo_table_42 : decode b_Mo_table 42 = .ok (.iadd, 1) := by decide +kernel
theorem d_Mo_table_43 : decode b_Mo_table 43 = .ok (.iload_n 3, 1) := by decide +kernel
theorem d_Mo_table_44 : decode b_Mo_table 44 = .ok (.iastore, 1) := by decide +kernel
theorem d_Mo_table_45 : decode b_Mo_table 45 = .ok (.iconst (1), 1) := by decide +kernel
theorem d_Mo_table_46 : decode b_Mo_table 46 = .ok (.ireturn, 1) := by decide +kernel
theorem d_Mo_fresh_0 : decode b_Mo_fresh 0 = .ok (.aload_n 0, 1) := by decide +kernel
theorem d_Mo_fresh_1 : decode b_Mo_fresh 1 = .ok (.getfield 65, 3) := by decide +kernel
theorem d_Mo_fresh_4 : decode b_Mo_fresh 4 = .ok (.iload_n 1, 1) := by decide +kernel
theorem d_Mo_fresh_5 : decode b_Mo_fresh 5 = .ok (.aload_n 0, 1) := by decide +kernel
theorem d_Mo_fresh_6 : decode b_Mo_fresh 6 = .ok (.getfield 22, 3) := by decide +kernel
theorem d_Mo_fresh_9 : decode b_Mo_fresh 9 = .ok (.iload_n 2, 1) := by decide +kernel
theorem d_Mo_fresh_10 : decode b_Mo_fresh 10 = .ok (.iaload, 1) := by decide +kernel
theorem d_Mo_fresh_11 : decode b_Mo_fresh 11 = .ok (.iastore, 1) := by decide +kernel
theorem d_Mo_fresh_12 : decode b_Mo_fresh 12 = .ok (.aload_n 0, 1) := by decide +kernel
theorem d_Mo_fresh_13 : decode b_Mo_fresh 13 = .ok (.getfield 71, 3) := by decide +kernel
theorem d_Mo_fresh_16 : decode b_Mo_fresh 16 = .ok (.iload_n 1, 1) := by decide +kernel
theorem d_Mo_fresh_17 : decode b_Mo_fresh 17 = .ok (.aload_n 0, 1) := by decide +kernel
theorem d_Mo_fresh_18 : decode b_Mo_fresh 18 = .ok (.getfield 25, 3) := by decide +kernel
theorem d_Mo_fresh_21 : decode b_Mo_fresh 21 = .ok (.iload_n 2, 1) := by decide +kernel
theorem d_Mo_fresh_22 : decode b_Mo_fresh 22 = .ok (.iaload, 1) := by decide +kernel
theorem d_Mo_fresh_23 : decode b_Mo_fresh 23 = .ok (.iastore, 1) := by decide +kernel
theorem d_Mo_fresh_24 : decode b_Mo_fresh 24 = .ok (.aload_n 0, 1) := by decide +kernel
theorem d_Mo_fresh_25 : decode b_Mo_fresh 25 = .ok (.getfield 68, 3) := by decide +kernel
theorem d_Mo_fresh_28 : decode b_Mo_fresh 28 = .ok (.iload_n 1, 1) := by decide +kernel
theorem d_Mo_fresh_29 : decode b_Mo_fresh 29 = .ok (.iconst (0), 1) := by decide +kernel
theorem d_Mo_fresh_30 : decode b_Mo_fresh 30 = .ok (.iastore, 1) := by decide +kernel
theorem d_Mo_fresh_31 : decode b_Mo_fresh 31 = .ok (.aload_n 0, 1) := by decide +kernel
theorem d_Mo_fresh_32 : decode b_Mo_fresh 32 = .ok (.getfield 74, 3) := by decide +kernel
theorem d_Mo_fresh_35 : decode b_Mo_fresh 35 = .ok (.iload_n 1, 1) := by decide +kernel
theorem d_Mo_fresh_36 : decode b_Mo_fresh 36 = .ok (.iconst (0), 1) := by decide +kernel
theorem d_Mo_fresh_37 : decode b_Mo_fresh 37 = .ok (.iastore, 1) := by decide +kernel
theorem d_Mo_fresh_38 : decode b_Mo_fresh 38 = .ok (.aload_n 0, 1) := by decide +kernel
theorem d_Mo_fresh_39 : decode b_Mo_fresh 39 = .ok (.getfield 77, 3) := by decide +kernel
theorem d_Mo_fresh_42 : decode b_Mo_fresh 42 = .ok (.iload_n 1, 1) := by decide +kernel
theorem d_Mo_fresh_43 : decode b_Mo_fresh 43 = .ok (.iconst (0), 1) := by decide +kernel
theorem d_Mo_fresh_44 : decode b_Mo_fresh 44 = .ok (.iastore, 1) := by decide +kernel
theorem d_Mo_fresh_45 : decode b_Mo_fresh 45 = .ok (.aload_n 0, 1) := by decide +kernel
theorem d_Mo_fresh_46 : decode b_Mo_fresh 46 = .ok (.getfield 80, 3) := by decide +kernel
theorem d_Mo_fresh_49 : decode b_Mo_fresh 49 = .ok (.iload_n 1, 1) := by decide +kernel
theorem d_Mo_fresh_50 : decode b_Mo_fresh 50 = .ok (.iconst (0), 1) := by decide +kernel
theorem d_Mo_fresh_51 : decode b_Mo_fresh 51 = .ok (.iastore, 1) := by decide +kernel
theorem d_Mo_fresh_52 : decode b_Mo_fresh 52 = .ok (.aload_n 0, 1) := by decide +kernel
theorem d_Mo_fresh_53 : decode b_Mo_fresh 53 = .ok (.getfield 83, 3) := by decide +kernel
theorem d_Mo_fresh_56 : decode b_Mo_fresh 56 = .ok (.iload_n 1, 1) := by decide +kernel
theorem d_Mo_fresh_57 : decode b_Mo_fresh 57 = .ok (.iconst (0), 1) := by decide +kernel
theorem d_Mo_fresh_58 : decode b_Mo_fresh 58 = .ok (.bastore, 1) := by decide +kernel
theorem d_Mo_fresh_59 : decode b_Mo_fresh 59 = .ok (.aload_n 0, 1) := by decide +kernel
theorem d_Mo_fresh_60 : decode b_Mo_fresh 60 = .ok (.getfield 86, 3) := by decide +kernel
theorem d_Mo_fresh_63 : decode b_Mo_fresh 63 = .ok (.iload_n 1, 1) := by decide +kernel
theorem d_Mo_fresh_64 : decode b_Mo_fresh 64 = .ok (.iconst (0), 1) := by decide +kernel
theorem d_Mo_fresh_65 : decode b_Mo_fresh 65 = .ok (.iastore, 1) := by decide +kernel
theorem d_Mo_fresh_66 : decode b_Mo_fresh 66 = .ok (.aload_n 0, 1) := by decide +kernel
theorem d_Mo_fresh_67 : decode b_Mo_fresh 67 = .ok (.getfield 93, 3) := by decide +kernel
theorem d_Mo_fresh_70 : decode b_Mo_fresh 70 = .ok (.iload_n 1, 1) := by decide +kernel
theorem d_Mo_fresh_71 : decode b_Mo_fresh 71 = .ok (.iconst (0), 1) := by decide +kernel
theorem d_Mo_fresh_72 : decode b_Mo_fresh 72 = .ok (.iastore, 1) := by decide +kernel
theorem d_Mo_fresh_73 : decode b_Mo_fresh 73 = .ok (.return_, 1) := by decide +kernel
