theorem dX7_advance_9 : decode cX7_advance 9 = .ok (.getfield 248, 3) := by decide +kernel
theorem dX7_advance_12 : decode cX7_advance 12 = .ok (.aload_n 0, 1) := by decide +kernel
theorem dX7_advance_13 : decode cX7_advance 13 = .ok (.getfield 29, 3) := by decide +kernel
theorem dX7_advance_16 : decode cX7_advance 16 = .ok (.if_icmp .ge 44, 3) := by decide +kernel
theorem dX7_advance_19 : decode cX7_advance 19 = .ok (.aload_n 0, 1) := by decide +kernel
theorem dX7_advance_20 : decode cX7_advance 20 = .ok (.getfield 9, 3) := by decide +kernel
theorem dX7_advance_23 : decode cX7_advance 23 = .ok (.aload_n 0, 1) := by decide +kernel
theorem dX7_advance_24 : decode cX7_advance 24 = .ok (.getfield 248, 3) := by decide +kernel
theorem dX7_advance_27 : decode cX7_advance 27 = .ok (.caload, 1) := by decide +kernel
theorem dX7_advance_28 : decode cX7_advance 28 = .ok (.bipush 10, 2) := by decide +kernel
theorem dX7_advance_30 : decode cX7_advance 30 = .ok (.if_icmp .eq 17, 3) := by decide +kernel
theorem dX7_advance_33 : decode cX7_advance 33 = .ok (.aload_n 0, 1) := by decide +kernel
theorem dX7_advance_34 : decode cX7_advance 34 = .ok (.getfield 9, 3) := by decide +kernel
theorem dX7_advance_37 : decode cX7_advance 37 = .ok (.aload_n 0, 1) := by decide +kernel
theorem dX7_advance_38 : decode cX7_advance 38 = .ok (.getfield 248, 3) := by decide +kernel
theorem dX7_advance_41 : decode cX7_advance 41 = .ok (.caload, 1) := by decide +kernel
theorem dX7_advance_42 : decode cX7_advance 42 = .ok (.bipush 32, 2) := by decide +kernel
theorem dX7_advance_44 : decode cX7_advance 44 = .ok (.if_icmp .ne 16, 3) := by decide +kernel
theorem dX7_advance_47 : decode cX7_advance 47 = .ok (.aload_n 0, 1) := by decide +kernel
theorem dX7_advance_48 : decode cX7_advance 48 = .ok (.dup, 1) := by decide +kernel
theorem dX7_advance_49 : decode cX7_advance 49 = .ok (.getfield 248, 3) := by decide +kernel
theorem dX7_advance_52 : decode cX7_advance 52 = .ok (.iconst 1, 1) := by decide +kernel
theorem dX7_advance_53 : decode cX7_advance 53 = .ok (.iadd, 1) := by decide +kernel
theorem dX7_advance_54 : decode cX7_advance 54 = .ok (.putfield 248, 3) := by decide +kernel
theorem dX7_advance_57 : decode cX7_advance 57 = .ok (.goto (-49), 3) := by decide +kernel
theorem dX7_advance_60 : decode cX7_advance 60 = .ok (.aload_n 0, 1) := by decide +kernel
theorem dX7_advance_61 : decode cX7_advance 61 = .ok (.aload_n 0, 1) := by decide +kernel
theorem dX7_advance_62 : decode cX7_advance 62 = .ok (.getfield 248, 3) := by decide +kernel
theorem dX7_advance_65 : decode cX7_advance 65 = .ok (.putfield 32, 3) := by decide +kernel
theorem dX7_advance_68 : decode cX7_advance 68 = .ok (.aload_n 0, 1) := by decide +kernel
theorem dX7_advance_69 : decode cX7_advance 69 = .ok (.getfield 32, 3) := by decide +kernel
theorem dX7_advance_72 : decode cX7_advance 72 = .ok (.aload_n 0, 1) := by decide +kernel
theorem dX7_advance_73 : decode cX7_advance 73 = .ok (.getfield 29, 3) := by decide +kernel
theorem dX7_advance_76 : decode cX7_advance 76 = .ok (.if_icmp .ge 44, 3) := by decide +kernel
theorem dX7_advance_79 : decode cX7_advance 79 = .ok (.aload_n 0, 1) := by decide +kernel
theorem dX7_advance_80 : decode cX7_advance 80 = .ok (.getfield 9, 3) := by decide +kernel
theorem dX7_advance_83 : decode cX7_advance 83 = .ok (.aload_n 0, 1) := by decide +kernel
theorem dX7_advance_84 : decode cX7_advance 84 = .ok (.getfield 32, 3) := by decide +kernel
theorem dX7_advance_87 : decode cX7_advance 87 = .ok (.caload, 1) := by decide +kernel
theorem dX7_advance_88 : decode cX7_advance 88 = .ok (.bipush 97, 2) := by decide +kernel
theorem dX7_advance_90 : decode cX7_advance 90 = .ok (.if_icmp .lt 30, 3) := by decide +kernel
theorem dX7_advance_93 : decode cX7_advance 93 = .ok (.aload_n 0, 1) := by decide +kernel
theorem dX7_advance_94 : decode cX7_advance 94 = .ok (.getfield 9, 3) := by decide +kernel
theorem dX7_advance_97 : decode cX7_advance 97 = .ok (.aload_n 0, 1) := by decide +kernel
theorem dX7_advance_98 : decode cX7_advance 98 = .ok (.getfield 32, 3) := by decide +kernel
theorem dX7_advance_101 : decode cX7_advance 101 = .ok (.caload, 1) := by decide +kernel
theorem dX7_advance_102 : decode cX7_advance 102 = .ok (.bipush 122, 2) := by decide +kernel
theorem dX7_advance_104 : decode cX7_advance 104 = .ok (.if_icmp .gt 16, 3) := by decide +kernel
theorem dX7_advance_107 : decode cX7_advance 107 = .ok (.aload_n 0, 1) := by decide +kernel
theorem dX7_advance_108 : decode cX7_advance 108 = .ok (.dup, 1) := by decide +kernel
theorem dX7_advance_109 : decode cX7_advance 109 = .ok (.getfield 32, 3) := by decide +kernel
theorem dX7_advance_112 : decode cX7_advance 112 = .ok (.iconst 1, 1) := by decide +kernel
theorem dX7_advance_113 : decode cX7_advance 113 = .ok (.iadd, 1) := by decide +kernel
theorem dX7_advance_114 : decode cX7_advance 114 = .ok (.putfield 32, 3) := by decide +kernel
theorem dX7_advance_117 : decode cX7_advance 117 = .ok (.goto (-49), 3) := by decide +kernel
theorem dX7_advance_120 : decode cX7_advance 120 = .ok (.aload_n 0, 1) := by decide +kernel
theorem dX7_advance_121 : decode cX7_advance 121 = .ok (.getfield 32, 3) := by decide +kernel
theorem dX7_advance_124 : decode cX7_advance 124 = .ok (.aload_n 0, 1) := by decide +kernel
theorem dX7_advance_125 : decode cX7_advance 125 = .ok (.getfield 248, 3) := by decide +kernel
theorem dX7_advance_128 : decode cX7_advance 128 = .ok (.if_icmp .le 9, 3) := by decide +kernel
theorem dX7_advance_131 : decode cX7_advance 131 = .ok (.aload_n 0, 1) := by decide +kernel
theorem dX7_advance_132 : decode cX7_advance 132 = .ok (.iconst 1, 1) := by decide +kernel
theorem dX7_advance_133 : decode cX7_advance 133 = .ok (.putfield 48, 3) := by decide +kernel
theorem dX7_advance_136 : decode cX7_advance 136 = .ok (.return_, 1) := by decide +kernel
theorem dX7_advance_137 : decode cX7_advance 137 = .ok (.aload_n 0, 1) := by decide +kernel
theorem dX7_advance_138 : decode cX7_advance 138 = .ok (.iconst 0, 1) := by decide +kernel
theorem dX7_advance_139 : decode cX7_advance 139 = .ok (.putfield 236, 3) := by decide +kernel
theorem dX7_advance_142 : decode cX7_advance 142 = .ok (.aload_n 0, 1) := by decide +kernel
theorem dX7_advance_143 : decode cX7_advance 143 = .ok (.getfield 32, 3) := by decide +kernel
theorem dX7_advance_146 : decode cX7_advance 146 = .ok (.aload_n 0, 1) := by decide +kernel
theorem dX7_advance_147 : decode cX7_advance 147 = .ok (.getfield 29, 3) := by decide +kernel
theorem dX7_advance_150 : decode cX7_advance 150 = .ok (.if_icmp .ge 81, 3) := by decide +kernel
theorem dX7_advance_153 : decode cX7_advance 153 = .ok (.aload_n 0, 1) := by decide +kernel
theorem dX7_advance_154 : decode cX7_advance 154 = .ok (.getfield 9, 3) := by decide +kernel
theorem dX7_advance_157 : decode cX7_advance 157 = .ok (.aload_n 0, 1) := by decide +kernel
theorem dX7_advance_158 : decode cX7_advance 158 = .ok (.getfield 32, 3) := by decide +kernel
theorem dX7_advance_161 : decode cX7_advance 161 = .ok (.caload, 1) := by decide +kernel
theorem dX7_advance_162 : decode cX7_advance 162 = .ok (.bipush 48, 2) := by decide +kernel
theorem dX7_advance_164 : decode cX7_advance 164 = .ok (.if_icmp .lt 67, 3) := by decide +kernel
theorem dX7_advance_167 : decode cX7_advance 167 = .ok (.aload_n 0, 1) := by decide +kernel
theorem dX7_advance_168 : decode cX7_advance 168 = .ok (.getfield 9, 3) := by decide +kernel
theorem dX7_advance_171 : decode cX7_advance 171 = .ok (.aload_n 0, 1) := by decide +kernel
theorem dX7_advance_172 : decode cX7_advance 172 = .ok (.getfield 32, 3) := by decide +kernel
theorem dX7_advance_175 : decode cX7_advance 175 = .ok (.caload, 1) := by decide +kernel
theorem dX7_advance_176 : decode cX7_advance 176 = .ok (.bipush 57, 2) := by decide +kernel
theorem dX7_advance_178 : decode cX7_advance 178 = .ok (.if_icmp .gt 53, 3) := by decide +kernel
theorem dX7_advance_181 : decode cX7_advance 181 = .ok (.aload_n 0, 1) := by decide +kernel
theorem dX7_advance_182 : decode cX7_advance 182 = .ok (.getfield 32, 3) := by decide +kernel
theorem dX7_advance_185 : decode cX7_advance 185 = .ok (.aload_n 0, 1) := by decide +kernel
theorem dX7_advance_186 : decode cX7_advance 186 = .ok (.getfield 248, 3) := by decide +kernel
theorem dX7_advance_189 : decode cX7_advance 189 = .ok (.isub, 1) := by decide +kernel
theorem dX7_advance_190 : decode cX7_advance 190 = .ok (.iconst 3, 1) := by decide +kernel
theorem dX7_advance_191 : decode cX7_advance 191 = .ok (.if_icmp .ge 27, 3) := by decide +kernel
theorem dX7_advance_194 : decode cX7_advance 194 = .ok (.aload_n 0, 1) := by decide +kernel
theorem dX7_advance_195 : decode cX7_advance 195 = .ok (.bipush 10, 2) := by decide +kernel
theorem dX7_advance_197 : decode cX7_advance 197 = .ok (.aload_n 0, 1) := by decide +kernel
theorem dX7_advance_198 : decode cX7_advance 198 = .ok (.getfield 236, 3) := by decide +kernel
theorem dX7_advance_201 : decode cX7_advance 201 = .ok (.imul, 1) := by decide +kernel
theorem dX7_advance_202 : decode cX7_advance 202 = .ok (.aload_n 0, 1) := by decide +kernel
theorem dX7_advance_203 : decode cX7_advance 203 = .ok (.getfield 9, 3) := by decide +kernel
theorem dX7_advance_206 : decode cX7_advance 206 = .ok (.aload_n 0, 1) := by decide +kernel
theorem dX7_advance_207 : decode cX7_advance 207 = .ok (.getfield 32, 3) := by decide +kernel
theorem dX7_advance_210 : decode cX7_advance 210 = .ok (.caload, 1) := by decide +kernel
theorem dX7_advance_211 : decode cX7_advance 211 = .ok (.iadd, 1) := by decide +kernel
theorem dX7_advance_212 : decode cX7_advance 212 = .ok (.bipush 48, 2) := by decide +kernel
theorem dX7_advance_214 : decode cX7_advance 214 = .ok (.isub, 1) := by decide +kernel
theorem dX7_advance_215 : decode cX7_advance 215 = .ok (.putfield 236, 3) := by decide +kernel
theorem dX7_advance_218 : decode cX7_advance 218 = .ok (.aload_n 0, 1) := by decide +kernel
theorem dX7_advance_219 : decode cX7_advance 219 = .ok (.dup, 1) := by decide +kernel
theorem dX7_advance_220 : decode cX7_advance 220 = .ok (.getfield 32, 3) := by decide +kernel
theorem dX7_advance_223 : decode cX7_advance 223 = .ok (.iconst 1, 1) := by decide +kernel
theorem dX7_advance_224 : decode cX7_advance 224 = .ok (.iadd, 1) := by decide +kernel
theorem dX7_advance_225 : decode cX7_advance 225 = .ok (.putfield 32, 3) := by decide +kernel
theorem dX7_advance_228 : decode cX7_advance 228 = .ok (.goto (-86), 3) := by decide +kernel
theorem dX7_advance_231 : decode cX7_advance 231 = .ok (.aload_n 0, 1) := by decide +kernel
theorem dX7_advance_232 : decode cX7_advance 232 = .ok (.getfield 32, 3) := by decide +kernel
theorem dX7_advance_235 : decode cX7_advance 235 = .ok (.aload_n 0, 1) := by decide +kernel
theorem dX7_advance_236 : decode cX7_advance 236 = .ok (.getfield 248, 3) := by decide +kernel
theorem dX7_advance_239 : decode cX7_advance 239 = .ok (.if_icmp .le 28, 3) := by decide +kernel
theorem dX7_advance_242 : decode cX7_advance 242 = .ok (.aload_n 0, 1) := by decide +kernel
theorem dX7_advance_243 : decode cX7_advance 243 = .ok (.aload_n 0, 1) := by decide +kernel
theorem dX7_advance_244 : decode cX7_advance 244 = .ok (.getfield 32, 3) := by decide +kernel
theorem dX7_advance_247 : decode cX7_advance 247 = .ok (.aload_n 0, 1) := by decide +kernel
theorem dX7_advance_248 : decode cX7_advance 248 = .ok (.getfield 248, 3) := by decide +kernel
theorem dX7_advance_251 : decode cX7_advance 251 = .ok (.isub, 1) := by decide +kernel
theorem dX7_advance_252 : decode cX7_advance 252 = .ok (.iconst 3, 1) := by decide +kernel
theorem dX7_advance_253 : decode cX7_advance 253 = .ok (.if_icmp .le 7, 3) := by decide +kernel
theorem dX7_advance_256 : decode cX7_advance 256 = .ok (.iconst 4, 1) := by decide +kernel
theorem dX7_advance_257 : decode cX7_advance 257 = .ok (.goto 4, 3) := by decide +kernel
theorem dX7_advance_260 : decode cX7_advance 260 = .ok (.iconst 2, 1) := by decide +kernel
theorem dX7_advance_261 : decode cX7_advance 261 = .ok (.putfield 48, 3) := by decide +kernel
theorem dX7_advance_264 : decode cX7_advance 264 = .ok (.goto 59, 3) := by decide +kernel
theorem dX7_advance_267 : decode cX7_advance 267 = .ok (.aload_n 0, 1) := by decide +kernel
theorem dX7_advance_268 : decode cX7_advance 268 = .ok (.getfield 248, 3) := by decide +kernel
theorem dX7_advance_271 : decode cX7_advance 271 = .ok (.aload_n 0, 1) := by decide +kernel
theorem dX7_advance_272 : decode cX7_advance 272 = .ok (.getfield 29, 3) := by decide +kernel
theorem dX7_advance_275 : decode cX7_advance 275 = .ok (.if_icmp .lt 11, 3) := by decide +kernel
theorem dX7_advance_278 : decode cX7_advance 278 = .ok (.aload_n 0, 1) := by decide +kernel
theorem dX7_advance_279 : decode cX7_advance 279 = .ok (.iconst 0, 1) := by decide +kernel
theorem dX7_advance_280 : decode cX7_advance 280 = .ok (.putfield 48, 3) := by decide +kernel
theorem dX7_advance_283 : decode cX7_advance 283 = .ok (.goto 40, 3) := by decide +kernel
theorem dX7_advance_286 : decode cX7_advance 286 = .ok (.aload_n 0, 1) := by decide +kernel
theorem dX7_advance_287 : decode cX7_advance 287 = .ok (.ldc_w 259, 3) := by decide +kernel
theorem dX7_advance_290 : decode cX7_advance 290 = .ok (.aload_n 0, 1) := by decide +kernel
theorem dX7_advance_291 : decode cX7_advance 291 = .ok (.getfield 9, 3) := by decide +kernel
theorem dX7_advance_294 : decode cX7_advance 294 = .ok (.aload_n 0, 1) := by decide +kernel
theorem dX7_advance_295 : decode cX7_advance 295 = .ok (.getfield 248, 3) := by decide +kernel
theorem dX7_advance_298 : decode cX7_advance 298 = .ok (.caload, 1) := by decide +kernel
theorem dX7_advance_299 : decode cX7_advance 299 = .ok (.invokevirtual 261, 3) := by decide +kernel
theorem dX7_advance_302 : decode cX7_advance 302 = .ok (.ifCond .lt 7, 3) := by decide +kernel
theorem dX7_advance_305 : decode cX7_advance 305 = .ok (.iconst 3, 1) := by decide +kernel
theorem dX7_advance_306 : decode cX7_advance 306 = .ok (.goto 4, 3) := by decide +kernel
theorem dX7_advance_309 : decode cX7_advance 309 = .ok (.iconst 4, 1) := by decide +kernel
theorem dX7_advance_310 : decode cX7_advance 310 = .ok (.putfield 48, 3) := by decide +kernel
theorem dX7_advance_313 : decode cX7_advance 313 = .ok (.aload_n 0, 1) := by decide +kernel
theorem dX7_advance_314 : decode cX7_advance 314 = .ok (.aload_n 0, 1) := by decide +kernel
theorem dX7_advance_315 : decode cX7_advance 315 = .ok (.getfield 248, 3) := by decide +kernel
theorem dX7_advance_318 : decode cX7_advance 318 = .ok (.iconst 1, 1) := by decide +kernel
theorem dX7_advance_319 : decode cX7_advance 319 = .ok (.iadd, 1) := by decide +kernel
theorem dX7_advance_320 : decode cX7_advance 320 = .ok (.putfield 32, 3) := by decide +kernel
theorem dX7_advance_323 : decode cX7_advance 323 = .ok (.return_, 1) := by decide +kernel
theorem dX8_init_0 : decode cX8_init 0 = .ok (.aload_n 0, 1) := by decide +kernel
theorem dX8_init_1 : decode cX8_init 1 = .ok (.invokespecial 3, 3) := by decide +kernel
theorem dX8_init_4 : decode cX8_init 4 = .ok (.aload_n 0, 1) := by decide +kernel
theorem dX8_init_5 : decode cX8_init 5 = .ok (.bipush 54, 2) := by decide +kernel
theorem dX8_init_7 : decode cX8_init 7 = .ok (.newarray .long, 2) := by decide +kernel
theorem dX8_init_9 : decode cX8_init 9 = .ok (.putfield 9, 3) := by decide +kernel
theorem dX8_init_12 : decode cX8_init 12 = .ok (.aload_n 0, 1) := by decide +kernel
theorem dX8_init_13 : decode cX8_init 13 = .ok (.bipush 11, 2) := by decide +kernel
theorem dX8_init_15 : decode cX8_init 15 = .ok (.newarray .int, 2) := by decide +kernel
theorem dX8_init_17 : decode cX8_init 17 = .ok (.putfield 15, 3) := by decide +kernel
theorem dX8_init_20 : decode cX8_init 20 = .ok (.aload_n 0, 1) := by decide +kernel
theorem dX8_init_21 : decode cX8_init 21 = .ok (.bipush 8, 2) := by decide +kernel
theorem dX8_init_23 : decode cX8_init 23 = .ok (.newarray .long, 2) := by decide +kernel
theorem dX8_init_25 : decode cX8_init 25 = .ok (.putfield 19, 3) := by decide +kernel
theorem dX8_init_28 : decode cX8_init 28 = .ok (.aload_n 0, 1) := by decide +kernel
theorem dX8_init_29 : decode cX8_init 29 = .ok (.aload_n 1, 1) := by decide +kernel
theorem dX8_init_30 : decode cX8_init 30 = .ok (.putfield 22, 3) := by decide +kernel
theorem dX8_init_33 : decode cX8_init 33 = .ok (.aload_n 0, 1) := by decide +kernel
theorem dX8_init_34 : decode cX8_init 34 = .ok (.aload_n 1, 1) := by decide +kernel
theorem dX8_init_35 : decode cX8_init 35 = .ok (.getfield 26, 3) := by decide +kernel
theorem dX8_init_38 : decode cX8_init 38 = .ok (.putfield 32, 3) := by decide +kernel
theorem dX8_init_41 : decode cX8_init 41 = .ok (.return_, 1) := by decide +kernel
theorem dX8_learn_0 : decode cX8_learn 0 = .ok (.aload_n 1, 1) := by decide +kernel
theorem dX8_learn_1 : decode cX8_learn 1 = .ok (.getfield 33, 3) := by decide +kernel
theorem dX8_learn_4 : decode cX8_learn 4 = .ok (.bipush 8, 2) := by decide +kernel
theorem dX8_learn_6 : decode cX8_learn 6 = .ok (.invokestatic 39, 3) := by decide +kernel
theorem dX8_learn_9 : decode cX8_learn 9 = .ok (.istore_n 3, 1) := by decide +kernel
theorem dX8_learn_10 : decode cX8_learn 10 = .ok (.aload_n 1, 1) := by decide +kernel
theorem dX8_learn_11 : decode cX8_learn 11 = .ok (.getfield 45, 3) := by decide +kernel
theorem dX8_learn_14 : decode cX8_learn 14 = .ok (.iconst 0, 1) := by decide +kernel
theorem dX8_learn_15 : decode cX8_learn 15 = .ok (.aload_n 0, 1) := by decide +kernel
theorem dX8_learn_16 : decode cX8_learn 16 = .ok (.getfield 19, 3) := by decide +kernel
theorem dX8_learn_19 : decode cX8_learn 19 = .ok (.iconst 0, 1) := by decide +kernel
theorem dX8_learn_20 : decode cX8_learn 20 = .ok (.iload_n 3, 1) := by decide +kernel
theorem dX8_learn_21 : decode cX8_learn 21 = .ok (.invokestatic 48, 3) := by decide +kernel
theorem dX8_learn_24 : decode cX8_learn 24 = .ok (.aload_n 0, 1) := by decide +kernel
theorem dX8_learn_25 : decode cX8_learn 25 = .ok (.getfield 22, 3) := by decide +kernel
theorem dX8_learn_28 : decode cX8_learn 28 = .ok (.iload_n 2, 1) := by decide +kernel
theorem dX8_learn_29 : decode cX8_learn 29 = .ok (.iconst 1, 1) := by decide +kernel
theorem dX8_learn_30 : decode cX8_learn 30 = .ok (.invokevirtual 54, 3) := by decide +kernel
theorem dX8_learn_33 : decode cX8_learn 33 = .ok (.iconst 0, 1) := by decide +kernel
theorem dX8_learn_34 : decode cX8_learn 34 = .ok (.istore 4, 2) := by decide +kernel
theorem dX8_learn_36 : decode cX8_learn 36 = .ok (.iload 4, 2) := by decide +kernel
theorem dX8_learn_38 : decode cX8_learn 38 = .ok (.aload_n 0, 1) := by decide +kernel
theorem dX8_learn_39 : decode cX8_learn 39 = .ok (.getfield 22, 3) := by decide +kernel
theorem dX8_learn_42 : decode cX8_learn 42 = .ok (.invokevirtual 58, 3) := by decide +kernel
theorem dX8_learn_45 : decode cX8_learn 45 = .ok (.if_icmp .ge 22, 3) := by decide +kernel
theorem dX8_learn_48 : decode cX8_learn 48 = .ok (.aload_n 0, 1) := by decide +kernel
theorem dX8_learn_49 : decode cX8_learn 49 = .ok (.getfield 9, 3) := by decide +kernel
theorem dX8_learn_52 : decode cX8_learn 52 = .ok (.iload_n 3, 1) := by decide +kernel
theorem dX8_learn_53 : decode cX8_learn 53 = .ok (.bipush 6, 2) := by decide +kernel
theorem dX8_learn_55 : decode cX8_learn 55 = .ok (.imul, 1) := by decide +kernel
theorem dX8_learn_56 : decode cX8_learn 56 = .ok (.iload 4, 2) := by decide +kernel
theorem dX8_learn_58 : decode cX8_learn 58 = .ok (.iadd, 1) := by decide +kernel
theorem dX8_learn_59 : decode cX8_learn 59 = .ok (.lconst 1, 1) := by decide +kernel
theorem dX8_learn_60 : decode cX8_learn 60 = .ok (.lastore, 1) := by decide +kernel
theorem dX8_learn_61 : decode cX8_learn 61 = .ok (.iinc 4 1, 3) := by decide +kernel
theorem dX8_learn_64 : decode cX8_learn 64 = .ok (.goto (-28), 3) := by decide +kernel
theorem dX8_learn_67 : decode cX8_learn 67 = .ok (.iload_n 3, 1) := by decide +kernel
theorem dX8_learn_68 : decode cX8_learn 68 = .ok (.iconst 1, 1) := by decide +kernel
theorem dX8_learn_69 : decode cX8_learn 69 = .ok (.isub, 1) := by decide +kernel
theorem dX8_learn_70 : decode cX8_learn 70 = .ok (.istore 4, 2) := by decide +kernel
theorem dX8_learn_72 : decode cX8_learn 72 = .ok (.iload 4, 2) := by decide +kernel
theorem dX8_learn_74 : decode cX8_learn 74 = .ok (.ifCond .lt 51, 3) := by decide +kernel
theorem dX8_learn_77 : decode cX8_learn 77 = .ok (.iconst 0, 1) := by decide +kernel
theorem dX8_learn_78 : decode cX8_learn 78 = .ok (.istore 5, 2) := by decide +kernel
theorem dX8_learn_80 : decode cX8_learn 80 = .ok (.iload 5, 2) := by decide +kernel
theorem dX8_learn_82 : decode cX8_learn 82 = .ok (.aload_n 0, 1) := by decide +kernel
theorem dX8_learn_83 : decode cX8_learn 83 = .ok (.getfield 22, 3) := by decide +kernel
theorem dX8_learn_86 : decode cX8_learn 86 = .ok (.invokevirtual 58, 3) := by decide +kernel
theorem dX8_learn_89 : decode cX8_learn 89 = .ok (.if_icmp .ge 30, 3) := by decide +kernel
theorem dX8_learn_92 : decode cX8_learn 92 = .ok (.aload_n 0, 1) := by decide +kernel
theorem dX8_learn_93 : decode cX8_learn 93 = .ok (.getfield 9, 3) := by decide +kernel
theorem dX8_learn_96 : decode cX8_learn 96 = .ok (.iload 4, 2) := by decide +kernel
theorem dX8_learn_98 : decode cX8_learn 98 = .ok (.bipush 6, 2) := by decide +kernel
theorem dX8_learn_100 : decode cX8_learn 100 = .ok (.imul, 1) := by decide +kernel
theorem dX8_learn_101 : decode cX8_learn 101 = .ok (.iload 5, 2) := by decide +kernel
theorem dX8_learn_103 : decode cX8_learn 103 = .ok (.iadd, 1) := by decide +kernel
theorem dX8_learn_104 : decode cX8_learn 104 = .ok (.aload_n 0, 1) := by decide +kernel
theorem dX8_learn_105 : decode cX8_learn 105 = .ok (.iload 4, 2) := by decide +kernel
theorem dX8_learn_107 : decode cX8_learn 107 = .ok (.iload 5, 2) := by decide +kernel
theorem dX8_learn_109 : decode cX8_learn 109 = .ok (.invokevirtual 62, 3) := by decide +kernel
theorem dX8_learn_112 : decode cX8_learn 112 = .ok (.lastore, 1) := by decide +kernel
theorem dX8_learn_113 : decode cX8_learn 113 = .ok (.iinc 5 1, 3) := by decide +kernel
theorem dX8_learn_116 : decode cX8_learn 116 = .ok (.goto (-36), 3) := by decide +kernel
theorem dX8_learn_119 : decode cX8_learn 119 = .ok (.iinc 4 (-1), 3) := by decide +kernel
theorem dX8_learn_122 : decode cX8_learn 122 = .ok (.goto (-50), 3) := by decide +kernel
theorem dX8_learn_125 : decode cX8_learn 125 = .ok (.return_, 1) := by decide +kernel
theorem dX8_rowsOnFrom_0 : decode cX8_rowsOnFrom 0 = .ok (.lconst 0, 1) := by decide +kernel
theorem dX8_rowsOnFrom_1 : decode cX8_rowsOnFrom 1 = .ok (.lstore_n 3, 1) := by decide +kernel
theorem dX8_rowsOnFrom_2 : decode cX8_rowsOnFrom 2 = .ok (.iconst 0, 1) := by decide +kernel
theorem dX8_rowsOnFrom_3 : decode cX8_rowsOnFrom 3 = .ok (.istore 5, 2) := by decide +kernel
theorem dX8_rowsOnFrom_5 : decode cX8_rowsOnFrom 5 = .ok (.iload 5, 2) := by decide +kernel
theorem dX8_rowsOnFrom_7 : decode cX8_rowsOnFrom 7 = .ok (.aload_n 0, 1) := by decide +kernel
theorem dX8_rowsOnFrom_8 : decode cX8_rowsOnFrom 8 = .ok (.getfield 22, 3) := by decide +kernel
theorem dX8_rowsOnFrom_11 : decode cX8_rowsOnFrom 11 = .ok (.invokevirtual 58, 3) := by decide +kernel
theorem dX8_rowsOnFrom_14 : decode cX8_rowsOnFrom 14 = .ok (.if_icmp .ge 57, 3) := by decide +kernel
theorem dX8_rowsOnFrom_17 : decode cX8_rowsOnFrom 17 = .ok (.iconst 0, 1) := by decide +kernel
theorem dX8_rowsOnFrom_18 : decode cX8_rowsOnFrom 18 = .ok (.istore 6, 2) := by decide +kernel
theorem dX8_rowsOnFrom_20 : decode cX8_rowsOnFrom 20 = .ok (.iload 6, 2) := by decide +kernel
theorem dX8_rowsOnFrom_22 : decode cX8_rowsOnFrom 22 = .ok (.bipush 28, 2) := by decide +kernel
theorem dX8_rowsOnFrom_24 : decode cX8_rowsOnFrom 24 = .ok (.if_icmp .ge 41, 3) := by decide +kernel
theorem dX8_rowsOnFrom_27 : decode cX8_rowsOnFrom 27 = .ok (.aload_n 0, 1) := by decide +kernel
theorem dX8_rowsOnFrom_28 : decode cX8_rowsOnFrom 28 = .ok (.iload_n 1, 1) := by decide +kernel
theorem dX8_rowsOnFrom_29 : decode cX8_rowsOnFrom 29 = .ok (.aload_n 0, 1) := by decide +kernel
theorem dX8_rowsOnFrom_30 : decode cX8_rowsOnFrom 30 = .ok (.getfield 22, 3) := by decide +kernel
theorem dX8_rowsOnFrom_33 : decode cX8_rowsOnFrom 33 = .ok (.iload_n 2, 1) := by decide +kernel
theorem dX8_rowsOnFrom_34 : decode cX8_rowsOnFrom 34 = .ok (.iload 5, 2) := by decide +kernel
theorem dX8_rowsOnFrom_36 : decode cX8_rowsOnFrom 36 = .ok (.iload 6, 2) := by decide +kernel
theorem dX8_rowsOnFrom_38 : decode cX8_rowsOnFrom 38 = .ok (.invokevirtual 66, 3) := by decide +kernel
theorem dX8_rowsOnFrom_41 : decode cX8_rowsOnFrom 41 = .ok (.invokevirtual 70, 3) := by decide +kernel
theorem dX8_rowsOnFrom_44 : decode cX8_rowsOnFrom 44 = .ok (.ifCond .eq 15, 3) := by decide +kernel
theorem dX8_rowsOnFrom_47 : decode cX8_rowsOnFrom 47 = .ok (.lload_n 3, 1) := by decide +kernel
theorem dX8_rowsOnFrom_48 : decode cX8_rowsOnFrom 48 = .ok (.aload_n 0, 1) := by decide +kernel
theorem dX8_rowsOnFrom_49 : decode cX8_rowsOnFrom 49 = .ok (.iload_n 1, 1) := by decide +kernel
theorem dX8_rowsOnFrom_50 : decode cX8_rowsOnFrom 50 = .ok (.iconst 1, 1) := by decide +kernel
theorem dX8_rowsOnFrom_51 : decode cX8_rowsOnFrom 51 = .ok (.iadd, 1) := by decide +kernel
theorem dX8_rowsOnFrom_52 : decode cX8_rowsOnFrom 52 = .ok (.iload 5, 2) := by decide +kernel
theorem dX8_rowsOnFrom_54 : decode cX8_rowsOnFrom 54 = .ok (.invokevirtual 74, 3) := by decide +kernel
theorem dX8_rowsOnFrom_57 : decode cX8_rowsOnFrom 57 = .ok (.ladd, 1) := by decide +kernel
theorem dX8_rowsOnFrom_58 : decode cX8_rowsOnFrom 58 = .ok (.lstore_n 3, 1) := by decide +kernel
theorem dX8_rowsOnFrom_59 : decode cX8_rowsOnFrom 59 = .ok (.iinc 6 1, 3) := by decide +kernel
theorem dX8_rowsOnFrom_62 : decode cX8_rowsOnFrom 62 = .ok (.goto (-42), 3) := by decide +kernel
theorem dX8_rowsOnFrom_65 : decode cX8_rowsOnFrom 65 = .ok (.iinc 5 1, 3) := by decide +kernel
theorem dX8_rowsOnFrom_68 : decode cX8_rowsOnFrom 68 = .ok (.goto (-63), 3) := by decide +kernel
theorem dX8_rowsOnFrom_71 : decode cX8_rowsOnFrom 71 = .ok (.lload_n 3, 1) := by decide +kernel
theorem dX8_rowsOnFrom_72 : decode cX8_rowsOnFrom 72 = .ok (.lreturn, 1) := by decide +kernel
theorem dX8_fits_0 : decode cX8_fits 0 = .ok (.iload_n 2, 1) := by decide +kernel
theorem dX8_fits_1 : decode cX8_fits 1 = .ok (.iconst (-1), 1) := by decide +kernel
theorem dX8_fits_2 : decode cX8_fits 2 = .ok (.if_icmp .eq 32, 3) := by decide +kernel
theorem dX8_fits_5 : decode cX8_fits 5 = .ok (.aload_n 0, 1) := by decide +kernel
theorem dX8_fits_6 : decode cX8_fits 6 = .ok (.getfield 19, 3) := by decide +kernel
theorem dX8_fits_9 : decode cX8_fits 9 = .ok (.iload_n 1, 1) := by decide +kernel
theorem dX8_fits_10 : decode cX8_fits 10 = .ok (.laload, 1) := by decide +kernel
theorem dX8_fits_11 : decode cX8_fits 11 = .ok (.ldc2_w 77, 3) := by decide +kernel
theorem dX8_fits_14 : decode cX8_fits 14 = .ok (.lcmp, 1) := by decide +kernel
theorem dX8_fits_15 : decode cX8_fits 15 = .ok (.ifCond .eq 15, 3) := by decide +kernel
theorem dX8_fits_18 : decode cX8_fits 18 = .ok (.aload_n 0, 1) := by decide +kernel
theorem dX8_fits_19 : decode cX8_fits 19 = .ok (.getfield 19, 3) := by decide +kernel
theorem dX8_fits_22 : decode cX8_fits 22 = .ok (.iload_n 1, 1) := by decide +kernel
theorem dX8_fits_23 : decode cX8_fits 23 = .ok (.laload, 1) := by decide +kernel
theorem dX8_fits_24 : decode cX8_fits 24 = .ok (.iload_n 2, 1) := by decide +kernel
theorem dX8_fits_25 : decode cX8_fits 25 = .ok (.i2l, 1) := by decide +kernel
theorem dX8_fits_26 : decode cX8_fits 26 = .ok (.lcmp, 1) := by decide +kernel
theorem dX8_fits_27 : decode cX8_fits 27 = .ok (.ifCond .ne 7, 3) := by decide +kernel
theorem dX8_fits_30 : decode cX8_fits 30 = .ok (.iconst 1, 1) := by decide +kernel
theorem dX8_fits_31 : decode cX8_fits 31 = .ok (.goto 4, 3) := by decide +kernel
theorem dX8_fits_34 : decode cX8_fits 34 = .ok (.iconst 0, 1) := by decide +kernel
theorem dX8_fits_35 : decode cX8_fits 35 = .ok (.ireturn, 1) := by decide +kernel
theorem dX8_rowsFrom_0 : decode cX8_rowsFrom 0 = .ok (.aload_n 0, 1) := by decide +kernel
theorem dX8_rowsFrom_1 : decode cX8_rowsFrom 1 = .ok (.getfield 9, 3) := by decide +kernel
theorem dX8_rowsFrom_4 : decode cX8_rowsFrom 4 = .ok (.iload_n 1, 1) := by decide +kernel
theorem dX8_rowsFrom_5 : decode cX8_rowsFrom 5 = .ok (.bipush 6, 2) := by decide +kernel
theorem dX8_rowsFrom_7 : decode cX8_rowsFrom 7 = .ok (.imul, 1) := by decide +kernel
theorem dX8_rowsFrom_8 : decode cX8_rowsFrom 8 = .ok (.iload_n 2, 1) := by decide +kernel
theorem dX8_rowsFrom_9 : decode cX8_rowsFrom 9 = .ok (.iadd, 1) := by decide +kernel
theorem dX8_rowsFrom_10 : decode cX8_rowsFrom 10 = .ok (.laload, 1) := by decide +kernel
theorem dX8_rowsFrom_11 : decode cX8_rowsFrom 11 = .ok (.lreturn, 1) := by decide +kernel
theorem dX8_firstRowsDeed_0 : decode cX8_firstRowsDeed 0 = .ok (.aload_n 0, 1) := by decide +kernel
theorem dX8_firstRowsDeed_1 : decode cX8_firstRowsDeed 1 = .ok (.iconst 0, 1) := by decide +kernel
theorem dX8_firstRowsDeed_2 : decode cX8_firstRowsDeed 2 = .ok (.iload_n 2, 1) := by decide +kernel
theorem dX8_firstRowsDeed_3 : decode cX8_firstRowsDeed 3 = .ok (.invokevirtual 74, 3) := by decide +kernel
theorem dX8_firstRowsDeed_6 : decode cX8_firstRowsDeed 6 = .ok (.lconst 0, 1) := by decide +kernel
theorem dX8_firstRowsDeed_7 : decode cX8_firstRowsDeed 7 = .ok (.lcmp, 1) := by decide +kernel
theorem dX8_firstRowsDeed_8 : decode cX8_firstRowsDeed 8 = .ok (.ifCond .ne 5, 3) := by decide +kernel
theorem dX8_firstRowsDeed_11 : decode cX8_firstRowsDeed 11 = .ok (.iconst (-1), 1) := by decide +kernel
theorem dX8_firstRowsDeed_12 : decode cX8_firstRowsDeed 12 = .ok (.ireturn, 1) := by decide +kernel
theorem dX8_firstRowsDeed_13 : decode cX8_firstRowsDeed 13 = .ok (.aload_n 0, 1) := by decide +kernel
theorem dX8_firstRowsDeed_14 : decode cX8_firstRowsDeed 14 = .ok (.iconst 0, 1) := by decide +kernel
theorem dX8_firstRowsDeed_15 : decode cX8_firstRowsDeed 15 = .ok (.iload_n 1, 1) := by decide +kernel
theorem dX8_firstRowsDeed_16 : decode cX8_firstRowsDeed 16 = .ok (.iload_n 2, 1) := by decide +kernel
theorem dX8_firstRowsDeed_17 : decode cX8_firstRowsDeed 17 = .ok (.invokevirtual 79, 3) := by decide +kernel
theorem dX8_firstRowsDeed_20 : decode cX8_firstRowsDeed 20 = .ok (.istore 4, 2) := by decide +kernel
theorem dX8_firstRowsDeed_22 : decode cX8_firstRowsDeed 22 = .ok (.iconst 1, 1) := by decide +kernel
theorem dX8_firstRowsDeed_23 : decode cX8_firstRowsDeed 23 = .ok (.istore 5, 2) := by decide +kernel
theorem dX8_firstRowsDeed_25 : decode cX8_firstRowsDeed 25 = .ok (.iload 5, 2) := by decide +kernel
theorem dX8_firstRowsDeed_27 : decode cX8_firstRowsDeed 27 = .ok (.iload_n 3, 1) := by decide +kernel
theorem dX8_firstRowsDeed_28 : decode cX8_firstRowsDeed 28 = .ok (.if_icmp .gt 30, 3) := by decide +kernel
theorem dX8_firstRowsDeed_31 : decode cX8_firstRowsDeed 31 = .ok (.iload 5, 2) := by decide +kernel
theorem dX8_firstRowsDeed_33 : decode cX8_firstRowsDeed 33 = .ok (.bipush 8, 2) := by decide +kernel
theorem dX8_firstRowsDeed_35 : decode cX8_firstRowsDeed 35 = .ok (.if_icmp .ge 23, 3) := by decide +kernel
theorem dX8_firstRowsDeed_38 : decode cX8_firstRowsDeed 38 = .ok (.aload_n 0, 1) := by decide +kernel
theorem dX8_firstRowsDeed_39 : decode cX8_firstRowsDeed 39 = .ok (.iload 5, 2) := by decide +kernel
theorem dX8_firstRowsDeed_41 : decode cX8_firstRowsDeed 41 = .ok (.iload_n 1, 1) := by decide +kernel
theorem dX8_firstRowsDeed_42 : decode cX8_firstRowsDeed 42 = .ok (.iload 4, 2) := by decide +kernel
theorem dX8_firstRowsDeed_44 : decode cX8_firstRowsDeed 44 = .ok (.bipush 10, 2) := by decide +kernel
theorem dX8_firstRowsDeed_46 : decode cX8_firstRowsDeed 46 = .ok (.irem, 1) := by decide +kernel
theorem dX8_firstRowsDeed_47 : decode cX8_firstRowsDeed 47 = .ok (.invokevirtual 79, 3) := by decide +kernel
theorem dX8_firstRowsDeed_50 : decode cX8_firstRowsDeed 50 = .ok (.istore 4, 2) := by decide +kernel
theorem dX8_firstRowsDeed_52 : decode cX8_firstRowsDeed 52 = .ok (.iinc 5 1, 3) := by decide +kernel
theorem dX8_firstRowsDeed_55 : decode cX8_firstRowsDeed 55 = .ok (.goto (-30), 3) := by decide +kernel
theorem dX8_firstRowsDeed_58 : decode cX8_firstRowsDeed 58 = .ok (.iload 4, 2) := by decide +kernel
theorem dX8_firstRowsDeed_60 : decode cX8_firstRowsDeed 60 = .ok (.ireturn, 1) := by decide +kernel
theorem dX8_firstFitting_0 : decode cX8_firstFitting 0 = .ok (.iconst 0, 1) := by decide +kernel
theorem dX8_firstFitting_1 : decode cX8_firstFitting 1 = .ok (.istore 4, 2) := by decide +kernel
theorem dX8_firstFitting_3 : decode cX8_firstFitting 3 = .ok (.iload 4, 2) := by decide +kernel
theorem dX8_firstFitting_5 : decode cX8_firstFitting 5 = .ok (.bipush 28, 2) := by decide +kernel
theorem dX8_firstFitting_7 : decode cX8_firstFitting 7 = .ok (.if_icmp .ge 83, 3) := by decide +kernel
theorem dX8_firstFitting_10 : decode cX8_firstFitting 10 = .ok (.iconst 0, 1) := by decide +kernel
theorem dX8_firstFitting_11 : decode cX8_firstFitting 11 = .ok (.istore 5, 2) := by decide +kernel
theorem dX8_firstFitting_13 : decode cX8_firstFitting 13 = .ok (.iload 5, 2) := by decide +kernel
theorem dX8_firstFitting_15 : decode cX8_firstFitting 15 = .ok (.aload_n 0, 1) := by decide +kernel
theorem dX8_firstFitting_16 : decode cX8_firstFitting 16 = .ok (.getfield 22, 3) := by decide +kernel
theorem dX8_firstFitting_19 : decode cX8_firstFitting 19 = .ok (.invokevirtual 58, 3) := by decide +kernel
theorem dX8_firstFitting_22 : decode cX8_firstFitting 22 = .ok (.if_icmp .ge 62, 3) := by decide +kernel
theorem dX8_firstFitting_25 : decode cX8_firstFitting 25 = .ok (.aload_n 0, 1) := by decide +kernel
theorem dX8_firstFitting_26 : decode cX8_firstFitting 26 = .ok (.iload_n 1, 1) := by decide +kernel
theorem dX8_firstFitting_27 : decode cX8_firstFitting 27 = .ok (.aload_n 0, 1) := by decide +kernel
theorem dX8_firstFitting_28 : decode cX8_firstFitting 28 = .ok (.getfield 22, 3) := by decide +kernel
theorem dX8_firstFitting_31 : decode cX8_firstFitting 31 = .ok (.iload_n 3, 1) := by decide +kernel
theorem dX8_firstFitting_32 : decode cX8_firstFitting 32 = .ok (.iload 5, 2) := by decide +kernel
theorem dX8_firstFitting_34 : decode cX8_firstFitting 34 = .ok (.iload 4, 2) := by decide +kernel
theorem dX8_firstFitting_36 : decode cX8_firstFitting 36 = .ok (.invokevirtual 66, 3) := by decide +kernel
theorem dX8_firstFitting_39 : decode cX8_firstFitting 39 = .ok (.invokevirtual 70, 3) := by decide +kernel
theorem dX8_firstFitting_42 : decode cX8_firstFitting 42 = .ok (.ifCond .eq 36, 3) := by decide +kernel
theorem dX8_firstFitting_45 : decode cX8_firstFitting 45 = .ok (.aload_n 0, 1) := by decide +kernel
theorem dX8_firstFitting_46 : decode cX8_firstFitting 46 = .ok (.iload_n 1, 1) := by decide +kernel
theorem dX8_firstFitting_47 : decode cX8_firstFitting 47 = .ok (.iconst 1, 1) := by decide +kernel
theorem dX8_firstFitting_48 : decode cX8_firstFitting 48 = .ok (.iadd, 1) := by decide +kernel
theorem dX8_firstFitting_49 : decode cX8_firstFitting 49 = .ok (.iload 5, 2) := by decide +kernel
theorem dX8_firstFitting_51 : decode cX8_firstFitting 51 = .ok (.invokevirtual 74, 3) := by decide +kernel
theorem dX8_firstFitting_54 : decode cX8_firstFitting 54 = .ok (.lconst 0, 1) := by decide +kernel
theorem dX8_firstFitting_55 : decode cX8_firstFitting 55 = .ok (.lcmp, 1) := by decide +kernel
theorem dX8_firstFitting_56 : decode cX8_firstFitting 56 = .ok (.ifCond .le 22, 3) := by decide +kernel
theorem dX8_firstFitting_59 : decode cX8_firstFitting 59 = .ok (.getstatic 82, 3) := by decide +kernel
theorem dX8_firstFitting_62 : decode cX8_firstFitting 62 = .ok (.iload 4, 2) := by decide +kernel
theorem dX8_firstFitting_64 : decode cX8_firstFitting 64 = .ok (.iaload, 1) := by decide +kernel
theorem dX8_firstFitting_65 : decode cX8_firstFitting 65 = .ok (.getstatic 85, 3) := by decide +kernel
theorem dX8_firstFitting_68 : decode cX8_firstFitting 68 = .ok (.iload 4, 2) := by decide +kernel
theorem dX8_firstFitting_70 : decode cX8_firstFitting 70 = .ok (.iaload, 1) := by decide +kernel
theorem dX8_firstFitting_71 : decode cX8_firstFitting 71 = .ok (.iload_n 2, 1) := by decide +kernel
theorem dX8_firstFitting_72 : decode cX8_firstFitting 72 = .ok (.iload 5, 2) := by decide +kernel
theorem dX8_firstFitting_74 : decode cX8_firstFitting 74 = .ok (.invokestatic 88, 3) := by decide +kernel
theorem dX8_firstFitting_77 : decode cX8_firstFitting 77 = .ok (.ireturn, 1) := by decide +kernel
theorem dX8_firstFitting_78 : decode cX8_firstFitting 78 = .ok (.iinc 5 1, 3) := by decide +kernel
theorem dX8_firstFitting_81 : decode cX8_firstFitting 81 = .ok (.goto (-68), 3) := by decide +kernel
theorem dX8_firstFitting_84 : decode cX8_firstFitting 84 = .ok (.iinc 4 1, 3) := by decide +kernel
theorem dX8_firstFitting_87 : decode cX8_firstFitting 87 = .ok (.goto (-84), 3) := by decide +kernel
theorem dX8_firstFitting_90 : decode cX8_firstFitting 90 = .ok (.sipush 10000, 3) := by decide +kernel
theorem dX8_firstFitting_93 : decode cX8_firstFitting 93 = .ok (.iload_n 3, 1) := by decide +kernel
theorem dX8_firstFitting_94 : decode cX8_firstFitting 94 = .ok (.iadd, 1) := by decide +kernel
theorem dX8_firstFitting_95 : decode cX8_firstFitting 95 = .ok (.ireturn, 1) := by decide +kernel
theorem dX8_peopleAt_0 : decode cX8_peopleAt 0 = .ok (.iconst 1, 1) := by decide +kernel
theorem dX8_peopleAt_1 : decode cX8_peopleAt 1 = .ok (.iload_n 2, 1) := by decide +kernel
theorem dX8_peopleAt_2 : decode cX8_peopleAt 2 = .ok (.ishl, 1) := by decide +kernel
theorem dX8_peopleAt_3 : decode cX8_peopleAt 3 = .ok (.istore_n 3, 1) := by decide +kernel
theorem dX8_peopleAt_4 : decode cX8_peopleAt 4 = .ok (.iconst 0, 1) := by decide +kernel
theorem dX8_peopleAt_5 : decode cX8_peopleAt 5 = .ok (.istore 4, 2) := by decide +kernel
theorem dX8_peopleAt_7 : decode cX8_peopleAt 7 = .ok (.iload 4, 2) := by decide +kernel
theorem dX8_peopleAt_9 : decode cX8_peopleAt 9 = .ok (.iload_n 1, 1) := by decide +kernel
theorem dX8_peopleAt_10 : decode cX8_peopleAt 10 = .ok (.if_icmp .ge 24, 3) := by decide +kernel
theorem dX8_peopleAt_13 : decode cX8_peopleAt 13 = .ok (.iload 4, 2) := by decide +kernel
theorem dX8_peopleAt_15 : decode cX8_peopleAt 15 = .ok (.bipush 8, 2) := by decide +kernel
theorem dX8_peopleAt_17 : decode cX8_peopleAt 17 = .ok (.if_icmp .ge 17, 3) := by decide +kernel
theorem dX8_peopleAt_20 : decode cX8_peopleAt 20 = .ok (.aload_n 0, 1) := by decide +kernel
theorem dX8_peopleAt_21 : decode cX8_peopleAt 21 = .ok (.iload 4, 2) := by decide +kernel
theorem dX8_peopleAt_23 : decode cX8_peopleAt 23 = .ok (.iload_n 3, 1) := by decide +kernel
theorem dX8_peopleAt_24 : decode cX8_peopleAt 24 = .ok (.invokevirtual 92, 3) := by decide +kernel
theorem dX8_peopleAt_27 : decode cX8_peopleAt 27 = .ok (.istore_n 3, 1) := by decide +kernel
theorem dX8_peopleAt_28 : decode cX8_peopleAt 28 = .ok (.iinc 4 1, 3) := by decide +kernel
theorem dX8_peopleAt_31 : decode cX8_peopleAt 31 = .ok (.goto (-24), 3) := by decide +kernel
theorem dX8_peopleAt_34 : decode cX8_peopleAt 34 = .ok (.iconst 0, 1) := by decide +kernel
theorem dX8_peopleAt_35 : decode cX8_peopleAt 35 = .ok (.istore 4, 2) := by decide +kernel
theorem dX8_peopleAt_37 : decode cX8_peopleAt 37 = .ok (.iconst 0, 1) := by decide +kernel
theorem dX8_peopleAt_38 : decode cX8_peopleAt 38 = .ok (.istore 5, 2) := by decide +kernel
theorem dX8_peopleAt_40 : decode cX8_peopleAt 40 = .ok (.iload 5, 2) := by decide +kernel
theorem dX8_peopleAt_42 : decode cX8_peopleAt 42 = .ok (.bipush 28, 2) := by decide +kernel
theorem dX8_peopleAt_44 : decode cX8_peopleAt 44 = .ok (.if_icmp .ge 42, 3) := by decide +kernel
theorem dX8_peopleAt_47 : decode cX8_peopleAt 47 = .ok (.aload_n 0, 1) := by decide +kernel
theorem dX8_peopleAt_48 : decode cX8_peopleAt 48 = .ok (.iload_n 1, 1) := by decide +kernel
theorem dX8_peopleAt_49 : decode cX8_peopleAt 49 = .ok (.iload 5, 2) := by decide +kernel
theorem dX8_peopleAt_51 : decode cX8_peopleAt 51 = .ok (.iload_n 3, 1) := by decide +kernel
theorem dX8_peopleAt_52 : decode cX8_peopleAt 52 = .ok (.invokevirtual 95, 3) := by decide +kernel
theorem dX8_peopleAt_55 : decode cX8_peopleAt 55 = .ok (.ifCond .eq 25, 3) := by decide +kernel
theorem dX8_peopleAt_58 : decode cX8_peopleAt 58 = .ok (.iload 4, 2) := by decide +kernel
theorem dX8_peopleAt_60 : decode cX8_peopleAt 60 = .ok (.iconst 1, 1) := by decide +kernel
theorem dX8_peopleAt_61 : decode cX8_peopleAt 61 = .ok (.getstatic 82, 3) := by decide +kernel
theorem dX8_peopleAt_64 : decode cX8_peopleAt 64 = .ok (.iload 5, 2) := by decide +kernel
theorem dX8_peopleAt_66 : decode cX8_peopleAt 66 = .ok (.iaload, 1) := by decide +kernel
theorem dX8_peopleAt_67 : decode cX8_peopleAt 67 = .ok (.ishl, 1) := by decide +kernel
theorem dX8_peopleAt_68 : decode cX8_peopleAt 68 = .ok (.iconst 1, 1) := by decide +kernel
theorem dX8_peopleAt_69 : decode cX8_peopleAt 69 = .ok (.getstatic 85, 3) := by decide +kernel
theorem dX8_peopleAt_72 : decode cX8_peopleAt 72 = .ok (.iload 5, 2) := by decide +kernel
theorem dX8_peopleAt_74 : decode cX8_peopleAt 74 = .ok (.iaload, 1) := by decide +kernel
theorem dX8_peopleAt_75 : decode cX8_peopleAt 75 = .ok (.ishl, 1) := by decide +kernel
theorem dX8_peopleAt_76 : decode cX8_peopleAt 76 = .ok (.ior, 1) := by decide +kernel
theorem dX8_peopleAt_77 : decode cX8_peopleAt 77 = .ok (.ior, 1) := by decide +kernel
theorem dX8_peopleAt_78 : decode cX8_peopleAt 78 = .ok (.istore 4, 2) := by decide +kernel
theorem dX8_peopleAt_80 : decode cX8_peopleAt 80 = .ok (.iinc 5 1, 3) := by decide +kernel
theorem dX8_peopleAt_83 : decode cX8_peopleAt 83 = .ok (.goto (-43), 3) := by decide +kernel
theorem dX8_peopleAt_86 : decode cX8_peopleAt 86 = .ok (.iload 4, 2) := by decide +kernel
theorem dX8_peopleAt_88 : decode cX8_peopleAt 88 = .ok (.ireturn, 1) := by decide +kernel
theorem dX8_placesBehind_0 : decode cX8_placesBehind 0 = .ok (.iconst 0, 1) := by decide +kernel
theorem dX8_placesBehind_1 : decode cX8_placesBehind 1 = .ok (.istore_n 3, 1) := by decide +kernel
theorem dX8_placesBehind_2 : decode cX8_placesBehind 2 = .ok (.iconst 0, 1) := by decide +kernel
theorem dX8_placesBehind_3 : decode cX8_placesBehind 3 = .ok (.istore 4, 2) := by decide +kernel
theorem dX8_placesBehind_5 : decode cX8_placesBehind 5 = .ok (.iload 4, 2) := by decide +kernel
theorem dX8_placesBehind_7 : decode cX8_placesBehind 7 = .ok (.aload_n 0, 1) := by decide +kernel
theorem dX8_placesBehind_8 : decode cX8_placesBehind 8 = .ok (.getfield 22, 3) := by decide +kernel
theorem dX8_placesBehind_11 : decode cX8_placesBehind 11 = .ok (.invokevirtual 58, 3) := by decide +kernel
theorem dX8_placesBehind_14 : decode cX8_placesBehind 14 = .ok (.if_icmp .ge 83, 3) := by decide +kernel
theorem dX8_placesBehind_17 : decode cX8_placesBehind 17 = .ok (.iconst 0, 1) := by decide +kernel
theorem dX8_placesBehind_18 : decode cX8_placesBehind 18 = .ok (.istore 5, 2) := by decide +kernel
theorem dX8_placesBehind_20 : decode cX8_placesBehind 20 = .ok (.iload 5, 2) := by decide +kernel
theorem dX8_placesBehind_22 : decode cX8_placesBehind 22 = .ok (.aload_n 0, 1) := by decide +kernel
theorem dX8_placesBehind_23 : decode cX8_placesBehind 23 = .ok (.getfield 22, 3) := by decide +kernel
theorem dX8_placesBehind_26 : decode cX8_placesBehind 26 = .ok (.invokevirtual 58, 3) := by decide +kernel
theorem dX8_placesBehind_29 : decode cX8_placesBehind 29 = .ok (.if_icmp .ge 62, 3) := by decide +kernel
theorem dX8_placesBehind_32 : decode cX8_placesBehind 32 = .ok (.iload_n 2, 1) := by decide +kernel
theorem dX8_placesBehind_33 : decode cX8_placesBehind 33 = .ok (.iload 4, 2) := by decide +kernel
theorem dX8_placesBehind_35 : decode cX8_placesBehind 35 = .ok (.invokestatic 99, 3) := by decide +kernel
theorem dX8_placesBehind_38 : decode cX8_placesBehind 38 = .ok (.ifCond .eq 53, 3) := by decide +kernel
theorem dX8_placesBehind_41 : decode cX8_placesBehind 41 = .ok (.iconst 0, 1) := by decide +kernel
theorem dX8_placesBehind_42 : decode cX8_placesBehind 42 = .ok (.istore 6, 2) := by decide +kernel
theorem dX8_placesBehind_44 : decode cX8_placesBehind 44 = .ok (.iload 6, 2) := by decide +kernel
theorem dX8_placesBehind_46 : decode cX8_placesBehind 46 = .ok (.bipush 28, 2) := by decide +kernel
theorem dX8_placesBehind_48 : decode cX8_placesBehind 48 = .ok (.if_icmp .ge 37, 3) := by decide +kernel
theorem dX8_placesBehind_51 : decode cX8_placesBehind 51 = .ok (.aload_n 0, 1) := by decide +kernel
theorem dX8_placesBehind_52 : decode cX8_placesBehind 52 = .ok (.iload_n 1, 1) := by decide +kernel
theorem dX8_placesBehind_53 : decode cX8_placesBehind 53 = .ok (.aload_n 0, 1) := by decide +kernel
theorem dX8_placesBehind_54 : decode cX8_placesBehind 54 = .ok (.getfield 22, 3) := by decide +kernel
theorem dX8_placesBehind_57 : decode cX8_placesBehind 57 = .ok (.iload 4, 2) := by decide +kernel
theorem dX8_placesBehind_59 : decode cX8_placesBehind 59 = .ok (.iload 5, 2) := by decide +kernel
theorem dX8_placesBehind_61 : decode cX8_placesBehind 61 = .ok (.iload 6, 2) := by decide +kernel
theorem dX8_placesBehind_63 : decode cX8_placesBehind 63 = .ok (.invokevirtual 66, 3) := by decide +kernel
theorem dX8_placesBehind_66 : decode cX8_placesBehind 66 = .ok (.invokevirtual 70, 3) := by decide +kernel
theorem dX8_placesBehind_69 : decode cX8_placesBehind 69 = .ok (.ifCond .eq 10, 3) := by decide +kernel
theorem dX8_placesBehind_72 : decode cX8_placesBehind 72 = .ok (.iload_n 3, 1) := by decide +kernel
theorem dX8_placesBehind_73 : decode cX8_placesBehind 73 = .ok (.iconst 1, 1) := by decide +kernel
theorem dX8_placesBehind_74 : decode cX8_placesBehind 74 = .ok (.iload 5, 2) := by decide +kernel
theorem dX8_placesBehind_76 : decode cX8_placesBehind 76 = .ok (.ishl, 1) := by decide +kernel
theorem dX8_placesBehind_77 : decode cX8_placesBehind 77 = .ok (.ior, 1) := by decide +kernel
theorem dX8_placesBehind_78 : decode cX8_placesBehind 78 = .ok (.istore_n 3, 1) := by decide +kernel
theorem dX8_placesBehind_79 : decode cX8_placesBehind 79 = .ok (.iinc 6 1, 3) := by decide +kernel
theorem dX8_placesBehind_82 : decode cX8_placesBehind 82 = .ok (.goto (-38), 3) := by decide +kernel
theorem dX8_placesBehind_85 : decode cX8_placesBehind 85 = .ok (.iinc 5 1, 3) := by decide +kernel
theorem dX8_placesBehind_88 : decode cX8_placesBehind 88 = .ok (.goto (-68), 3) := by decide +kernel
theorem dX8_placesBehind_91 : decode cX8_placesBehind 91 = .ok (.iinc 4 1, 3) := by decide +kernel
theorem dX8_placesBehind_94 : decode cX8_placesBehind 94 = .ok (.goto (-89), 3) := by decide +kernel
theorem dX8_placesBehind_97 : decode cX8_placesBehind 97 = .ok (.iload_n 3, 1) := by decide +kernel
theorem dX8_placesBehind_98 : decode cX8_placesBehind 98 = .ok (.ireturn, 1) := by decide +kernel
theorem dX8_canHaveBeen_0 : decode cX8_canHaveBeen 0 = .ok (.iconst 0, 1) := by decide +kernel
theorem dX8_canHaveBeen_1 : decode cX8_canHaveBeen 1 = .ok (.istore 4, 2) := by decide +kernel
theorem dX8_canHaveBeen_3 : decode cX8_canHaveBeen 3 = .ok (.iload 4, 2) := by decide +kernel
theorem dX8_canHaveBeen_5 : decode cX8_canHaveBeen 5 = .ok (.aload_n 0, 1) := by decide +kernel
theorem dX8_canHaveBeen_6 : decode cX8_canHaveBeen 6 = .ok (.getfield 22, 3) := by decide +kernel
theorem dX8_canHaveBeen_9 : decode cX8_canHaveBeen 9 = .ok (.invokevirtual 58, 3) := by decide +kernel
theorem dX8_canHaveBeen_12 : decode cX8_canHaveBeen 12 = .ok (.if_icmp .ge 75, 3) := by decide +kernel
theorem dX8_canHaveBeen_15 : decode cX8_canHaveBeen 15 = .ok (.iconst 0, 1) := by decide +kernel
theorem dX8_canHaveBeen_16 : decode cX8_canHaveBeen 16 = .ok (.istore 5, 2) := by decide +kernel
theorem dX8_canHaveBeen_18 : decode cX8_canHaveBeen 18 = .ok (.iload 5, 2) := by decide +kernel
theorem dX8_canHaveBeen_20 : decode cX8_canHaveBeen 20 = .ok (.aload_n 0, 1) := by decide +kernel
theorem dX8_canHaveBeen_21 : decode cX8_canHaveBeen 21 = .ok (.getfield 22, 3) := by decide +kernel
theorem dX8_canHaveBeen_24 : decode cX8_canHaveBeen 24 = .ok (.invokevirtual 58, 3) := by decide +kernel
theorem dX8_canHaveBeen_27 : decode cX8_canHaveBeen 27 = .ok (.if_icmp .ge 54, 3) := by decide +kernel
theorem dX8_canHaveBeen_30 : decode cX8_canHaveBeen 30 = .ok (.iload_n 3, 1) := by decide +kernel
theorem dX8_canHaveBeen_31 : decode cX8_canHaveBeen 31 = .ok (.iload 4, 2) := by decide +kernel
theorem dX8_canHaveBeen_33 : decode cX8_canHaveBeen 33 = .ok (.invokestatic 99, 3) := by decide +kernel
theorem dX8_canHaveBeen_36 : decode cX8_canHaveBeen 36 = .ok (.ifCond .eq 45, 3) := by decide +kernel
theorem dX8_canHaveBeen_39 : decode cX8_canHaveBeen 39 = .ok (.aload_n 0, 1) := by decide +kernel
theorem dX8_canHaveBeen_40 : decode cX8_canHaveBeen 40 = .ok (.iload_n 1, 1) := by decide +kernel
theorem dX8_canHaveBeen_41 : decode cX8_canHaveBeen 41 = .ok (.aload_n 0, 1) := by decide +kernel
theorem dX8_canHaveBeen_42 : decode cX8_canHaveBeen 42 = .ok (.getfield 22, 3) := by decide +kernel
theorem dX8_canHaveBeen_45 : decode cX8_canHaveBeen 45 = .ok (.iload 4, 2) := by decide +kernel
theorem dX8_canHaveBeen_47 : decode cX8_canHaveBeen 47 = .ok (.iload 5, 2) := by decide +kernel
theorem dX8_canHaveBeen_49 : decode cX8_canHaveBeen 49 = .ok (.iload_n 2, 1) := by decide +kernel
theorem dX8_canHaveBeen_50 : decode cX8_canHaveBeen 50 = .ok (.invokevirtual 66, 3) := by decide +kernel
theorem dX8_canHaveBeen_53 : decode cX8_canHaveBeen 53 = .ok (.invokevirtual 70, 3) := by decide +kernel
theorem dX8_canHaveBeen_56 : decode cX8_canHaveBeen 56 = .ok (.ifCond .eq 19, 3) := by decide +kernel
theorem dX8_canHaveBeen_59 : decode cX8_canHaveBeen 59 = .ok (.aload_n 0, 1) := by decide +kernel
theorem dX8_canHaveBeen_60 : decode cX8_canHaveBeen 60 = .ok (.iload_n 1, 1) := by decide +kernel
theorem dX8_canHaveBeen_61 : decode cX8_canHaveBeen 61 = .ok (.iconst 1, 1) := by decide +kernel
theorem dX8_canHaveBeen_62 : decode cX8_canHaveBeen 62 = .ok (.iadd, 1) := by decide +kernel
theorem dX8_canHaveBeen_63 : decode cX8_canHaveBeen 63 = .ok (.iload 5, 2) := by decide +kernel
theorem dX8_canHaveBeen_65 : decode cX8_canHaveBeen 65 = .ok (.invokevirtual 74, 3) := by decide +kernel
theorem dX8_canHaveBeen_68 : decode cX8_canHaveBeen 68 = .ok (.lconst 0, 1) := by decide +kernel
theorem dX8_canHaveBeen_69 : decode cX8_canHaveBeen 69 = .ok (.lcmp, 1) := by decide +kernel
theorem dX8_canHaveBeen_70 : decode cX8_canHaveBeen 70 = .ok (.ifCond .le 5, 3) := by decide +kernel
theorem dX8_canHaveBeen_73 : decode cX8_canHaveBeen 73 = .ok (.iconst 1, 1) := by decide +kernel
theorem dX8_canHaveBeen_74 : decode cX8_canHaveBeen 74 = .ok (.ireturn, 1) := by decide +kernel
theorem dX8_canHaveBeen_75 : decode cX8_canHaveBeen 75 = .ok (.iinc 5 1, 3) := by decide +kernel
theorem dX8_canHaveBeen_78 : decode cX8_canHaveBeen 78 = .ok (.goto (-60), 3) := by decide +kernel
theorem dX8_canHaveBeen_81 : decode cX8_canHaveBeen 81 = .ok (.iinc 4 1, 3) := by decide +kernel
theorem dX8_canHaveBeen_84 : decode cX8_canHaveBeen 84 = .ok (.goto (-81), 3) := by decide +kernel
theorem dX8_canHaveBeen_87 : decode cX8_canHaveBeen 87 = .ok (.iconst 0, 1) := by decide +kernel
theorem dX8_canHaveBeen_88 : decode cX8_canHaveBeen 88 = .ok (.ireturn, 1) := by decide +kernel
theorem dX8_tellingPair_0 : decode cX8_tellingPair 0 = .ok (.iconst (-1), 1) := by decide +kernel
theorem dX8_tellingPair_1 : decode cX8_tellingPair 1 = .ok (.istore 4, 2) := by decide +kernel
theorem dX8_tellingPair_3 : decode cX8_tellingPair 3 = .ok (.bipush 11, 2) := by decide +kernel
theorem dX8_tellingPair_5 : decode cX8_tellingPair 5 = .ok (.istore 5, 2) := by decide +kernel
theorem dX8_tellingPair_7 : decode cX8_tellingPair 7 = .ok (.iconst 0, 1) := by decide +kernel
theorem dX8_tellingPair_8 : decode cX8_tellingPair 8 = .ok (.istore 6, 2) := by decide +kernel
theorem dX8_tellingPair_10 : decode cX8_tellingPair 10 = .ok (.iload 6, 2) := by decide +kernel
theorem dX8_tellingPair_12 : decode cX8_tellingPair 12 = .ok (.bipush 28, 2) := by decide +kernel
theorem dX8_tellingPair_14 : decode cX8_tellingPair 14 = .ok (.if_icmp .ge 68, 3) := by decide +kernel
theorem dX8_tellingPair_17 : decode cX8_tellingPair 17 = .ok (.aload_n 0, 1) := by decide +kernel
theorem dX8_tellingPair_18 : decode cX8_tellingPair 18 = .ok (.getfield 32, 3) := by decide +kernel
theorem dX8_tellingPair_21 : decode cX8_tellingPair 21 = .ok (.getfield 102, 3) := by decide +kernel
theorem dX8_tellingPair_24 : decode cX8_tellingPair 24 = .ok (.getstatic 85, 3) := by decide +kernel
theorem dX8_tellingPair_27 : decode cX8_tellingPair 27 = .ok (.iload 6, 2) := by decide +kernel
theorem dX8_tellingPair_29 : decode cX8_tellingPair 29 = .ok (.iaload, 1) := by decide +kernel
theorem dX8_tellingPair_30 : decode cX8_tellingPair 30 = .ok (.invokevirtual 108, 3) := by decide +kernel
theorem dX8_tellingPair_33 : decode cX8_tellingPair 33 = .ok (.ifCond .eq 43, 3) := by decide +kernel
theorem dX8_tellingPair_36 : decode cX8_tellingPair 36 = .ok (.aload_n 0, 1) := by decide +kernel
theorem dX8_tellingPair_37 : decode cX8_tellingPair 37 = .ok (.iload_n 1, 1) := by decide +kernel
theorem dX8_tellingPair_38 : decode cX8_tellingPair 38 = .ok (.iload 6, 2) := by decide +kernel
theorem dX8_tellingPair_40 : decode cX8_tellingPair 40 = .ok (.iload_n 2, 1) := by decide +kernel
theorem dX8_tellingPair_41 : decode cX8_tellingPair 41 = .ok (.iload_n 3, 1) := by decide +kernel
theorem dX8_tellingPair_42 : decode cX8_tellingPair 42 = .ok (.invokevirtual 114, 3) := by decide +kernel
theorem dX8_tellingPair_45 : decode cX8_tellingPair 45 = .ok (.istore 7, 2) := by decide +kernel
theorem dX8_tellingPair_47 : decode cX8_tellingPair 47 = .ok (.iload 7, 2) := by decide +kernel
theorem dX8_tellingPair_49 : decode cX8_tellingPair 49 = .ok (.iload 5, 2) := by decide +kernel
theorem dX8_tellingPair_51 : decode cX8_tellingPair 51 = .ok (.if_icmp .ge 25, 3) := by decide +kernel
theorem dX8_tellingPair_54 : decode cX8_tellingPair 54 = .ok (.iload 7, 2) := by decide +kernel
theorem dX8_tellingPair_56 : decode cX8_tellingPair 56 = .ok (.istore 5, 2) := by decide +kernel
theorem dX8_tellingPair_58 : decode cX8_tellingPair 58 = .ok (.bipush 10, 2) := by decide +kernel
theorem dX8_tellingPair_60 : decode cX8_tellingPair 60 = .ok (.getstatic 82, 3) := by decide +kernel
theorem dX8_tellingPair_63 : decode cX8_tellingPair 63 = .ok (.iload 6, 2) := by decide +kernel
theorem dX8_tellingPair_65 : decode cX8_tellingPair 65 = .ok (.iaload, 1) := by decide +kernel
theorem dX8_tellingPair_66 : decode cX8_tellingPair 66 = .ok (.imul, 1) := by decide +kernel
theorem dX8_tellingPair_67 : decode cX8_tellingPair 67 = .ok (.getstatic 85, 3) := by decide +kernel
theorem dX8_tellingPair_70 : decode cX8_tellingPair 70 = .ok (.iload 6, 2) := by decide +kernel
theorem dX8_tellingPair_72 : decode cX8_tellingPair 72 = .ok (.iaload, 1) := by decide +kernel
theorem dX8_tellingPair_73 : decode cX8_tellingPair 73 = .ok (.iadd, 1) := by decide +kernel
theorem dX8_tellingPair_74 : decode cX8_tellingPair 74 = .ok (.istore 4, 2) := by decide +kernel
theorem dX8_tellingPair_76 : decode cX8_tellingPair 76 = .ok (.iinc 6 1, 3) := by decide +kernel
theorem dX8_tellingPair_79 : decode cX8_tellingPair 79 = .ok (.goto (-69), 3) := by decide +kernel
theorem dX8_tellingPair_82 : decode cX8_tellingPair 82 = .ok (.iload 4, 2) := by decide +kernel
theorem dX8_tellingPair_84 : decode cX8_tellingPair 84 = .ok (.ireturn, 1) := by decide +kernel
theorem dX8_mostAlike_0 : decode cX8_mostAlike 0 = .ok (.aload_n 0, 1) := by decide +kernel
theorem dX8_mostAlike_1 : decode cX8_mostAlike 1 = .ok (.getfield 15, 3) := by decide +kernel
theorem dX8_mostAlike_4 : decode cX8_mostAlike 4 = .ok (.iconst 0, 1) := by decide +kernel
theorem dX8_mostAlike_5 : decode cX8_mostAlike 5 = .ok (.invokestatic 117, 3) := by decide +kernel
theorem dX8_mostAlike_8 : decode cX8_mostAlike 8 = .ok (.iconst 0, 1) := by decide +kernel
theorem dX8_mostAlike_9 : decode cX8_mostAlike 9 = .ok (.istore 5, 2) := by decide +kernel
theorem dX8_mostAlike_11 : decode cX8_mostAlike 11 = .ok (.iconst 0, 1) := by decide +kernel
theorem dX8_mostAlike_12 : decode cX8_mostAlike 12 = .ok (.istore 6, 2) := by decide +kernel
theorem dX8_mostAlike_14 : decode cX8_mostAlike 14 = .ok (.iload 6, 2) := by decide +kernel
theorem dX8_mostAlike_16 : decode cX8_mostAlike 16 = .ok (.bipush 10, 2) := by decide +kernel
theorem dX8_mostAlike_18 : decode cX8_mostAlike 18 = .ok (.if_icmp .ge 77, 3) := by decide +kernel
theorem dX8_mostAlike_21 : decode cX8_mostAlike 21 = .ok (.iload_n 1, 1) := by decide +kernel
theorem dX8_mostAlike_22 : decode cX8_mostAlike 22 = .ok (.iload 6, 2) := by decide +kernel
theorem dX8_mostAlike_24 : decode cX8_mostAlike 24 = .ok (.invokestatic 99, 3) := by decide +kernel
theorem dX8_mostAlike_27 : decode cX8_mostAlike 27 = .ok (.ifCond .eq 62, 3) := by decide +kernel
theorem dX8_mostAlike_30 : decode cX8_mostAlike 30 = .ok (.aload_n 0, 1) := by decide +kernel
theorem dX8_mostAlike_31 : decode cX8_mostAlike 31 = .ok (.getfield 32, 3) := by decide +kernel
theorem dX8_mostAlike_34 : decode cX8_mostAlike 34 = .ok (.getstatic 82, 3) := by decide +kernel
theorem dX8_mostAlike_37 : decode cX8_mostAlike 37 = .ok (.iload_n 2, 1) := by decide +kernel
theorem dX8_mostAlike_38 : decode cX8_mostAlike 38 = .ok (.iaload, 1) := by decide +kernel
theorem dX8_mostAlike_39 : decode cX8_mostAlike 39 = .ok (.getstatic 85, 3) := by decide +kernel
theorem dX8_mostAlike_42 : decode cX8_mostAlike 42 = .ok (.iload_n 2, 1) := by decide +kernel
theorem dX8_mostAlike_43 : decode cX8_mostAlike 43 = .ok (.iaload, 1) := by decide +kernel
theorem dX8_mostAlike_44 : decode cX8_mostAlike 44 = .ok (.iload_n 3, 1) := by decide +kernel
theorem dX8_mostAlike_45 : decode cX8_mostAlike 45 = .ok (.iload 4, 2) := by decide +kernel
theorem dX8_mostAlike_47 : decode cX8_mostAlike 47 = .ok (.iload 6, 2) := by decide +kernel
theorem dX8_mostAlike_49 : decode cX8_mostAlike 49 = .ok (.invokevirtual 123, 3) := by decide +kernel
theorem dX8_mostAlike_52 : decode cX8_mostAlike 52 = .ok (.istore 7, 2) := by decide +kernel
theorem dX8_mostAlike_54 : decode cX8_mostAlike 54 = .ok (.iconst 1, 1) := by decide +kernel
theorem dX8_mostAlike_55 : decode cX8_mostAlike 55 = .ok (.iconst (-1), 1) := by decide +kernel
theorem dX8_mostAlike_56 : decode cX8_mostAlike 56 = .ok (.iload 7, 2) := by decide +kernel
theorem dX8_mostAlike_58 : decode cX8_mostAlike 58 = .ok (.invokestatic 127, 3) := by decide +kernel
theorem dX8_mostAlike_61 : decode cX8_mostAlike 61 = .ok (.iadd, 1) := by decide +kernel
theorem dX8_mostAlike_62 : decode cX8_mostAlike 62 = .ok (.istore 8, 2) := by decide +kernel
theorem dX8_mostAlike_64 : decode cX8_mostAlike 64 = .ok (.aload_n 0, 1) := by decide +kernel
theorem dX8_mostAlike_65 : decode cX8_mostAlike 65 = .ok (.getfield 15, 3) := by decide +kernel
theorem dX8_mostAlike_68 : decode cX8_mostAlike 68 = .ok (.iload 8, 2) := by decide +kernel
theorem dX8_mostAlike_70 : decode cX8_mostAlike 70 = .ok (.dup2, 1) := by decide +kernel
theorem dX8_mostAlike_71 : decode cX8_mostAlike 71 = .ok (.iaload, 1) := by decide +kernel
theorem dX8_mostAlike_72 : decode cX8_mostAlike 72 = .ok (.iconst 1, 1) := by decide +kernel
theorem dX8_mostAlike_73 : decode cX8_mostAlike 73 = .ok (.iadd, 1) := by decide +kernel
theorem dX8_mostAlike_74 : decode cX8_mostAlike 74 = .ok (.iastore, 1) := by decide +kernel
theorem dX8_mostAlike_75 : decode cX8_mostAlike 75 = .ok (.iload 5, 2) := by decide +kernel
theorem dX8_mostAlike_77 : decode cX8_mostAlike 77 = .ok (.aload_n 0, 1) := by decide +kernel
theorem dX8_mostAlike_78 : decode cX8_mostAlike 78 = .ok (.getfield 15, 3) := by decide +kernel
theorem dX8_mostAlike_81 : decode cX8_mostAlike 81 = .ok (.iload 8, 2) := by decide +kernel
theorem dX8_mostAlike_83 : decode cX8_mostAlike 83 = .ok (.iaload, 1) := by decide +kernel
theorem dX8_mostAlike_84 : decode cX8_mostAlike 84 = .ok (.invokestatic 127, 3) := by decide +kernel
theorem dX8_mostAlike_87 : decode cX8_mostAlike 87 = .ok (.istore 5, 2) := by decide +kernel
theorem dX8_mostAlike_89 : decode cX8_mostAlike 89 = .ok (.iinc 6 1, 3) := by decide +kernel
theorem dX8_mostAlike_92 : decode cX8_mostAlike 92 = .ok (.goto (-78), 3) := by decide +kernel
theorem dX8_mostAlike_95 : decode cX8_mostAlike 95 = .ok (.iload 5, 2) := by decide +kernel
theorem dX8_mostAlike_97 : decode cX8_mostAlike 97 = .ok (.ireturn, 1) := by decide +kernel
theorem dX9_init_0 : decode cX9_init 0 = .ok (.aload_n 0, 1) := by decide +kernel
theorem dX9_init_1 : decode cX9_init 1 = .ok (.invokespecial 3, 3) := by decide +kernel
theorem dX9_init_4 : decode cX9_init 4 = .ok (.aload_n 0, 1) := by decide +kernel
theorem dX9_init_5 : decode cX9_init 5 = .ok (.bipush 40, 2) := by decide +kernel
theorem dX9_init_7 : decode cX9_init 7 = .ok (.newarray .long, 2) := by decide +kernel
theorem dX9_init_9 : decode cX9_init 9 = .ok (.putfield 9, 3) := by decide +kernel
theorem dX9_init_12 : decode cX9_init 12 = .ok (.aload_n 0, 1) := by decide +kernel
theorem dX9_init_13 : decode cX9_init 13 = .ok (.iconst (-1), 1) := by decide +kernel
theorem dX9_init_14 : decode cX9_init 14 = .ok (.putfield 15, 3) := by decide +kernel
theorem dX9_init_17 : decode cX9_init 17 = .ok (.return_, 1) := by decide +kernel
theorem dX9_isMissing_0 : decode cX9_isMissing 0 = .ok (.aload_n 0, 1) := by decide +kernel
theorem dX9_isMissing_1 : decode cX9_isMissing 1 = .ok (.getfield 15, 3) := by decide +kernel
theorem dX9_isMissing_4 : decode cX9_isMissing 4 = .ok (.iconst (-1), 1) := by decide +kernel
theorem dX9_isMissing_5 : decode cX9_isMissing 5 = .ok (.if_icmp .ne 7, 3) := by decide +kernel
theorem dX9_isMissing_8 : decode cX9_isMissing 8 = .ok (.iconst 1, 1) := by decide +kernel
theorem dX9_isMissing_9 : decode cX9_isMissing 9 = .ok (.goto 4, 3) := by decide +kernel
theorem dX9_isMissing_12 : decode cX9_isMissing 12 = .ok (.iconst 0, 1) := by decide +kernel
theorem dX9_isMissing_13 : decode cX9_isMissing 13 = .ok (.ireturn, 1) := by decide +kernel
theorem dX9_renew_0 : decode cX9_renew 0 = .ok (.aload_n 0, 1) := by decide +kernel
theorem dX9_renew_1 : decode cX9_renew 1 = .ok (.iload_n 1, 1) := by decide +kernel
theorem dX9_renew_2 : decode cX9_renew 2 = .ok (.putfield 15, 3) := by decide +kernel
theorem dX9_renew_5 : decode cX9_renew 5 = .ok (.aload_n 0, 1) := by decide +kernel
theorem dX9_renew_6 : decode cX9_renew 6 = .ok (.iload_n 2, 1) := by decide +kernel
theorem dX9_renew_7 : decode cX9_renew 7 = .ok (.putfield 19, 3) := by decide +kernel
theorem dX9_renew_10 : decode cX9_renew 10 = .ok (.aload_n 0, 1) := by decide +kernel
theorem dX9_renew_11 : decode cX9_renew 11 = .ok (.getfield 9, 3) := by decide +kernel
theorem dX9_renew_14 : decode cX9_renew 14 = .ok (.lconst 0, 1) := by decide +kernel
theorem dX9_renew_15 : decode cX9_renew 15 = .ok (.invokestatic 22, 3) := by decide +kernel
theorem dX9_renew_18 : decode cX9_renew 18 = .ok (.return_, 1) := by decide +kernel
theorem dX9_put_0 : decode cX9_put 0 = .ok (.aload_n 0, 1) := by decide +kernel
theorem dX9_put_1 : decode cX9_put 1 = .ok (.getfield 9, 3) := by decide +kernel
theorem dX9_put_4 : decode cX9_put 4 = .ok (.iload_n 1, 1) := by decide +kernel
theorem dX9_put_5 : decode cX9_put 5 = .ok (.aload_n 0, 1) := by decide +kernel
theorem dX9_put_6 : decode cX9_put 6 = .ok (.lload_n 2, 1) := by decide +kernel
theorem dX9_put_7 : decode cX9_put 7 = .ok (.invokevirtual 28, 3) := by decide +kernel
theorem dX9_put_10 : decode cX9_put 10 = .ok (.lastore, 1) := by decide +kernel
theorem dX9_put_11 : decode cX9_put 11 = .ok (.aload_n 0, 1) := by decide +kernel
theorem dX9_put_12 : decode cX9_put 12 = .ok (.getfield 9, 3) := by decide +kernel
theorem dX9_put_15 : decode cX9_put 15 = .ok (.iload_n 1, 1) := by decide +kernel
theorem dX9_put_16 : decode cX9_put 16 = .ok (.laload, 1) := by decide +kernel
theorem dX9_put_17 : decode cX9_put 17 = .ok (.lreturn, 1) := by decide +kernel
theorem dX9_cut_0 : decode cX9_cut 0 = .ok (.aload_n 0, 1) := by decide +kernel
theorem dX9_cut_1 : decode cX9_cut 1 = .ok (.getfield 15, 3) := by decide +kernel
theorem dX9_cut_4 : decode cX9_cut 4 = .ok (.tableswitch 42 0 2 #[28, 33, 38], 28) := by decide +kernel
theorem dX9_cut_32 : decode cX9_cut 32 = .ok (.lload_n 1, 1) := by decide +kernel
theorem dX9_cut_33 : decode cX9_cut 33 = .ok (.l2i, 1) := by decide +kernel
theorem dX9_cut_34 : decode cX9_cut 34 = .ok (.i2b, 1) := by decide +kernel
theorem dX9_cut_35 : decode cX9_cut 35 = .ok (.i2l, 1) := by decide +kernel
theorem dX9_cut_36 : decode cX9_cut 36 = .ok (.lreturn, 1) := by decide +kernel
theorem dX9_cut_37 : decode cX9_cut 37 = .ok (.lload_n 1, 1) := by decide +kernel
theorem dX9_cut_38 : decode cX9_cut 38 = .ok (.l2i, 1) := by decide +kernel
theorem dX9_cut_39 : decode cX9_cut 39 = .ok (.i2s, 1) := by decide +kernel
theorem dX9_cut_40 : decode cX9_cut 40 = .ok (.i2l, 1) := by decide +kernel
theorem dX9_cut_41 : decode cX9_cut 41 = .ok (.lreturn, 1) := by decide +kernel
theorem dX9_cut_42 : decode cX9_cut 42 = .ok (.lload_n 1, 1) := by decide +kernel
theorem dX9_cut_43 : decode cX9_cut 43 = .ok (.l2i, 1) := by decide +kernel
theorem dX9_cut_44 : decode cX9_cut 44 = .ok (.i2l, 1) := by decide +kernel
theorem dX9_cut_45 : decode cX9_cut 45 = .ok (.lreturn, 1) := by decide +kernel
theorem dX9_cut_46 : decode cX9_cut 46 = .ok (.lload_n 1, 1) := by decide +kernel
theorem dX9_cut_47 : decode cX9_cut 47 = .ok (.lreturn, 1) := by decide +kernel
theorem dX9_rowCode_0 : decode cX9_rowCode 0 = .ok (.aload_n 0, 1) := by decide +kernel
theorem dX9_rowCode_1 : decode cX9_rowCode 1 = .ok (.invokevirtual 32, 3) := by decide +kernel
theorem dX9_rowCode_4 : decode cX9_rowCode 4 = .ok (.ifCond .eq 6, 3) := by decide +kernel
theorem dX9_rowCode_7 : decode cX9_rowCode 7 = .ok (.bipush (-6), 2) := by decide +kernel
theorem dX9_rowCode_9 : decode cX9_rowCode 9 = .ok (.ireturn, 1) := by decide +kernel
theorem dX9_rowCode_10 : decode cX9_rowCode 10 = .ok (.aload_n 0, 1) := by decide +kernel
theorem dX9_rowCode_11 : decode cX9_rowCode 11 = .ok (.getfield 19, 3) := by decide +kernel
theorem dX9_rowCode_14 : decode cX9_rowCode 14 = .ok (.iconst 1, 1) := by decide +kernel
theorem dX9_rowCode_15 : decode cX9_rowCode 15 = .ok (.if_icmp .lt 12, 3) := by decide +kernel
theorem dX9_rowCode_18 : decode cX9_rowCode 18 = .ok (.aload_n 0, 1) := by decide +kernel
theorem dX9_rowCode_19 : decode cX9_rowCode 19 = .ok (.getfield 19, 3) := by decide +kernel
theorem dX9_rowCode_22 : decode cX9_rowCode 22 = .ok (.bipush 8, 2) := by decide +kernel
theorem dX9_rowCode_24 : decode cX9_rowCode 24 = .ok (.if_icmp .le 8, 3) := by decide +kernel
theorem dX9_rowCode_27 : decode cX9_rowCode 27 = .ok (.bipush (-4), 2) := by decide +kernel
theorem dX9_rowCode_29 : decode cX9_rowCode 29 = .ok (.goto 4, 3) := by decide +kernel
theorem dX9_rowCode_32 : decode cX9_rowCode 32 = .ok (.iconst 0, 1) := by decide +kernel
theorem dX9_rowCode_33 : decode cX9_rowCode 33 = .ok (.ireturn, 1) := by decide +kernel
theorem dX9_allBetween_0 : decode cX9_allBetween 0 = .ok (.iconst 0, 1) := by decide +kernel
theorem dX9_allBetween_1 : decode cX9_allBetween 1 = .ok (.istore_n 3, 1) := by decide +kernel
theorem dX9_allBetween_2 : decode cX9_allBetween 2 = .ok (.iload_n 3, 1) := by decide +kernel
theorem dX9_allBetween_3 : decode cX9_allBetween 3 = .ok (.aload_n 0, 1) := by decide +kernel
theorem dX9_allBetween_4 : decode cX9_allBetween 4 = .ok (.getfield 19, 3) := by decide +kernel
theorem dX9_allBetween_7 : decode cX9_allBetween 7 = .ok (.if_icmp .ge 35, 3) := by decide +kernel
theorem dX9_allBetween_10 : decode cX9_allBetween 10 = .ok (.aload_n 0, 1) := by decide +kernel
theorem dX9_allBetween_11 : decode cX9_allBetween 11 = .ok (.getfield 9, 3) := by decide +kernel
theorem dX9_allBetween_14 : decode cX9_allBetween 14 = .ok (.iload_n 3, 1) := by decide +kernel
theorem dX9_allBetween_15 : decode cX9_allBetween 15 = .ok (.laload, 1) := by decide +kernel
theorem dX9_allBetween_16 : decode cX9_allBetween 16 = .ok (.iload_n 1, 1) := by decide +kernel
theorem dX9_allBetween_17 : decode cX9_allBetween 17 = .ok (.i2l, 1) := by decide +kernel
theorem dX9_allBetween_18 : decode cX9_allBetween 18 = .ok (.lcmp, 1) := by decide +kernel
theorem dX9_allBetween_19 : decode cX9_allBetween 19 = .ok (.ifCond .lt 15, 3) := by decide +kernel
theorem dX9_allBetween_22 : decode cX9_allBetween 22 = .ok (.aload_n 0, 1) := by decide +kernel
theorem dX9_allBetween_23 : decode cX9_allBetween 23 = .ok (.getfield 9, 3) := by decide +kernel
theorem dX9_allBetween_26 : decode cX9_allBetween 26 = .ok (.iload_n 3, 1) := by decide +kernel
theorem dX9_allBetween_27 : decode cX9_allBetween 27 = .ok (.laload, 1) := by decide +kernel
theorem dX9_allBetween_28 : decode cX9_allBetween 28 = .ok (.iload_n 2, 1) := by decide +kernel
theorem dX9_allBetween_29 : decode cX9_allBetween 29 = .ok (.i2l, 1) := by decide +kernel
theorem dX9_allBetween_30 : decode cX9_allBetween 30 = .ok (.lcmp, 1) := by decide +kernel
theorem dX9_allBetween_31 : decode cX9_allBetween 31 = .ok (.ifCond .le 5, 3) := by decide +kernel
theorem dX9_allBetween_34 : decode cX9_allBetween 34 = .ok (.iconst 0, 1) := by decide +kernel
theorem dX9_allBetween_35 : decode cX9_allBetween 35 = .ok (.ireturn, 1) := by decide +kernel
theorem dX9_allBetween_36 : decode cX9_allBetween 36 = .ok (.iinc 3 1, 3) := by decide +kernel
theorem dX9_allBetween_39 : decode cX9_allBetween 39 = .ok (.goto (-37), 3) := by decide +kernel
theorem dX9_allBetween_42 : decode cX9_allBetween 42 = .ok (.iconst 1, 1) := by decide +kernel
theorem dX9_allBetween_43 : decode cX9_allBetween 43 = .ok (.ireturn, 1) := by decide +kernel
theorem dX10_init_0 : decode cX10_init 0 = .ok (.aload_n 0, 1) := by decide +kernel
theorem dX10_init_1 : decode cX10_init 1 = .ok (.invokespecial 3, 3) := by decide +kernel
theorem dX10_init_4 : decode cX10_init 4 = .ok (.aload_n 0, 1) := by decide +kernel
theorem dX10_init_5 : decode cX10_init 5 = .ok (.iconst 1, 1) := by decide +kernel
theorem dX10_init_6 : decode cX10_init 6 = .ok (.putfield 9, 3) := by decide +kernel
theorem dX10_init_9 : decode cX10_init 9 = .ok (.aload_n 0, 1) := by decide +kernel
theorem dX10_init_10 : decode cX10_init 10 = .ok (.bipush 9, 2) := by decide +kernel
theorem dX10_init_12 : decode cX10_init 12 = .ok (.newarray .int, 2) := by decide +kernel
theorem dX10_init_14 : decode cX10_init 14 = .ok (.putfield 15, 3) := by decide +kernel
theorem dX10_init_17 : decode cX10_init 17 = .ok (.aload_n 0, 1) := by decide +kernel
theorem dX10_init_18 : decode cX10_init 18 = .ok (.bipush 9, 2) := by decide +kernel
theorem dX10_init_20 : decode cX10_init 20 = .ok (.newarray .int, 2) := by decide +kernel
theorem dX10_init_22 : decode cX10_init 22 = .ok (.putfield 19, 3) := by decide +kernel
theorem dX10_init_25 : decode cX10_init 25 = .ok (.aload_n 0, 1) := by decide +kernel
theorem dX10_init_26 : decode cX10_init 26 = .ok (.bipush 9, 2) := by decide +kernel
theorem dX10_init_28 : decode cX10_init 28 = .ok (.newarray .int, 2) := by decide +kernel
theorem dX10_init_30 : decode cX10_init 30 = .ok (.putfield 22, 3) := by decide +kernel
theorem dX10_init_33 : decode cX10_init 33 = .ok (.aload_n 0, 1) := by decide +kernel
theorem dX10_init_34 : decode cX10_init 34 = .ok (.bipush 8, 2) := by decide +kernel
theorem dX10_init_36 : decode cX10_init 36 = .ok (.newarray .int, 2) := by decide +kernel
theorem dX10_init_38 : decode cX10_init 38 = .ok (.putfield 25, 3) := by decide +kernel
theorem dX10_init_41 : decode cX10_init 41 = .ok (.aload_n 0, 1) := by decide +kernel
theorem dX10_init_42 : decode cX10_init 42 = .ok (.bipush 8, 2) := by decide +kernel
theorem dX10_init_44 : decode cX10_init 44 = .ok (.newarray .int, 2) := by decide +kernel
theorem dX10_init_46 : decode cX10_init 46 = .ok (.putfield 28, 3) := by decide +kernel
theorem dX10_init_49 : decode cX10_init 49 = .ok (.aload_n 0, 1) := by decide +kernel
theorem dX10_init_50 : decode cX10_init 50 = .ok (.bipush 8, 2) := by decide +kernel
theorem dX10_init_52 : decode cX10_init 52 = .ok (.newarray .int, 2) := by decide +kernel
theorem dX10_init_54 : decode cX10_init 54 = .ok (.putfield 31, 3) := by decide +kernel
theorem dX10_init_57 : decode cX10_init 57 = .ok (.aload_n 0, 1) := by decide +kernel
theorem dX10_init_58 : decode cX10_init 58 = .ok (.iconst 4, 1) := by decide +kernel
theorem dX10_init_59 : decode cX10_init 59 = .ok (.newarray .int, 2) := by decide +kernel
theorem dX10_init_61 : decode cX10_init 61 = .ok (.putfield 34, 3) := by decide +kernel
theorem dX10_init_64 : decode cX10_init 64 = .ok (.aload_n 0, 1) := by decide +kernel
theorem dX10_init_65 : decode cX10_init 65 = .ok (.iconst 4, 1) := by decide +kernel
theorem dX10_init_66 : decode cX10_init 66 = .ok (.newarray .int, 2) := by decide +kernel
theorem dX10_init_68 : decode cX10_init 68 = .ok (.putfield 37, 3) := by decide +kernel
theorem dX10_init_71 : decode cX10_init 71 = .ok (.aload_n 0, 1) := by decide +kernel
theorem dX10_init_72 : decode cX10_init 72 = .ok (.iconst 4, 1) := by decide +kernel
theorem dX10_init_73 : decode cX10_init 73 = .ok (.newarray .int, 2) := by decide +kernel
theorem dX10_init_75 : decode cX10_init 75 = .ok (.putfield 40, 3) := by decide +kernel
theorem dX10_init_78 : decode cX10_init 78 = .ok (.aload_n 0, 1) := by decide +kernel
theorem dX10_init_79 : decode cX10_init 79 = .ok (.bipush 36, 2) := by decide +kernel
theorem dX10_init_81 : decode cX10_init 81 = .ok (.newarray .int, 2) := by decide +kernel
theorem dX10_init_83 : decode cX10_init 83 = .ok (.putfield 43, 3) := by decide +kernel
theorem dX10_init_86 : decode cX10_init 86 = .ok (.aload_n 0, 1) := by decide +kernel
theorem dX10_init_87 : decode cX10_init 87 = .ok (.new 46, 3) := by decide +kernel
theorem dX10_init_90 : decode cX10_init 90 = .ok (.dup, 1) := by decide +kernel
theorem dX10_init_91 : decode cX10_init 91 = .ok (.invokespecial 48, 3) := by decide +kernel
theorem dX10_init_94 : decode cX10_init 94 = .ok (.putfield 49, 3) := by decide +kernel
theorem dX10_init_97 : decode cX10_init 97 = .ok (.return_, 1) := by decide +kernel
theorem dX10_clear_0 : decode cX10_clear 0 = .ok (.aload_n 0, 1) := by decide +kernel
theorem dX10_clear_1 : decode cX10_clear 1 = .ok (.iconst 1, 1) := by decide +kernel
theorem dX10_clear_2 : decode cX10_clear 2 = .ok (.putfield 9, 3) := by decide +kernel
theorem dX10_clear_5 : decode cX10_clear 5 = .ok (.aload_n 0, 1) := by decide +kernel
theorem dX10_clear_6 : decode cX10_clear 6 = .ok (.iconst 0, 1) := by decide +kernel
theorem dX10_clear_7 : decode cX10_clear 7 = .ok (.putfield 53, 3) := by decide +kernel
theorem dX10_clear_10 : decode cX10_clear 10 = .ok (.aload_n 0, 1) := by decide +kernel
theorem dX10_clear_11 : decode cX10_clear 11 = .ok (.iconst 0, 1) := by decide +kernel
theorem dX10_clear_12 : decode cX10_clear 12 = .ok (.putfield 56, 3) := by decide +kernel
theorem dX10_clear_15 : decode cX10_clear 15 = .ok (.aload_n 0, 1) := by decide +kernel
theorem dX10_clear_16 : decode cX10_clear 16 = .ok (.iconst 0, 1) := by decide +kernel
theorem dX10_clear_17 : decode cX10_clear 17 = .ok (.putfield 59, 3) := by decide +kernel
theorem dX10_clear_20 : decode cX10_clear 20 = .ok (.aload_n 0, 1) := by decide +kernel
theorem dX10_clear_21 : decode cX10_clear 21 = .ok (.iconst 0, 1) := by decide +kernel
theorem dX10_clear_22 : decode cX10_clear 22 = .ok (.putfield 62, 3) := by decide +kernel
theorem dX10_clear_25 : decode cX10_clear 25 = .ok (.aload_n 0, 1) := by decide +kernel
theorem dX10_clear_26 : decode cX10_clear 26 = .ok (.iconst 0, 1) := by decide +kernel
theorem dX10_clear_27 : decode cX10_clear 27 = .ok (.putfield 65, 3) := by decide +kernel
theorem dX10_clear_30 : decode cX10_clear 30 = .ok (.aload_n 0, 1) := by decide +kernel
theorem dX10_clear_31 : decode cX10_clear 31 = .ok (.getfield 31, 3) := by decide +kernel
theorem dX10_clear_34 : decode cX10_clear 34 = .ok (.iconst 0, 1) := by decide +kernel
theorem dX10_clear_35 : decode cX10_clear 35 = .ok (.invokestatic 68, 3) := by decide +kernel
theorem dX10_clear_38 : decode cX10_clear 38 = .ok (.aload_n 0, 1) := by decide +kernel
theorem dX10_clear_39 : decode cX10_clear 39 = .ok (.getfield 34, 3) := by decide +kernel
theorem dX10_clear_42 : decode cX10_clear 42 = .ok (.iconst 0, 1) := by decide +kernel
theorem dX10_clear_43 : decode cX10_clear 43 = .ok (.invokestatic 68, 3) := by decide +kernel
theorem dX10_clear_46 : decode cX10_clear 46 = .ok (.aload_n 0, 1) := by decide +kernel
theorem dX10_clear_47 : decode cX10_clear 47 = .ok (.getfield 49, 3) := by decide +kernel
theorem dX10_clear_50 : decode cX10_clear 50 = .ok (.invokevirtual 74, 3) := by decide +kernel
theorem dX10_clear_53 : decode cX10_clear 53 = .ok (.return_, 1) := by decide +kernel
theorem dX10_copyFrom_0 : decode cX10_copyFrom 0 = .ok (.aload_n 0, 1) := by decide +kernel
theorem dX10_copyFrom_1 : decode cX10_copyFrom 1 = .ok (.aload_n 1, 1) := by decide +kernel
theorem dX10_copyFrom_2 : decode cX10_copyFrom 2 = .ok (.getfield 9, 3) := by decide +kernel
theorem dX10_copyFrom_5 : decode cX10_copyFrom 5 = .ok (.putfield 9, 3) := by decide +kernel
theorem dX10_copyFrom_8 : decode cX10_copyFrom 8 = .ok (.aload_n 0, 1) := by decide +kernel
theorem dX10_copyFrom_9 : decode cX10_copyFrom 9 = .ok (.aload_n 1, 1) := by decide +kernel
theorem dX10_copyFrom_10 : decode cX10_copyFrom 10 = .ok (.getfield 53, 3) := by decide +kernel
theorem dX10_copyFrom_13 : decode cX10_copyFrom 13 = .ok (.putfield 53, 3) := by decide +kernel
theorem dX10_copyFrom_16 : decode cX10_copyFrom 16 = .ok (.aload_n 0, 1) := by decide +kernel
theorem dX10_copyFrom_17 : decode cX10_copyFrom 17 = .ok (.aload_n 1, 1) := by decide +kernel
theorem dX10_copyFrom_18 : decode cX10_copyFrom 18 = .ok (.getfield 56, 3) := by decide +kernel
theorem dX10_copyFrom_21 : decode cX10_copyFrom 21 = .ok (.putfield 56, 3) := by decide +kernel
theorem dX10_copyFrom_24 : decode cX10_copyFrom 24 = .ok (.aload_n 0, 1) := by decide +kernel
theorem dX10_copyFrom_25 : decode cX10_copyFrom 25 = .ok (.aload_n 1, 1) := by decide +kernel
theorem dX10_copyFrom_26 : decode cX10_copyFrom 26 = .ok (.getfield 59, 3) := by decide +kernel
theorem dX10_copyFrom_29 : decode cX10_copyFrom 29 = .ok (.putfield 59, 3) := by decide +kernel
theorem dX10_copyFrom_32 : decode cX10_copyFrom 32 = .ok (.aload_n 0, 1) := by decide +kernel
theorem dX10_copyFrom_33 : decode cX10_copyFrom 33 = .ok (.aload_n 1, 1) := by decide +kernel
theorem dX10_copyFrom_34 : decode cX10_copyFrom 34 = .ok (.getfield 62, 3) := by decide +kernel
theorem dX10_copyFrom_37 : decode cX10_copyFrom 37 = .ok (.putfield 62, 3) := by decide +kernel
theorem dX10_copyFrom_40 : decode cX10_copyFrom 40 = .ok (.aload_n 0, 1) := by decide +kernel
theorem dX10_copyFrom_41 : decode cX10_copyFrom 41 = .ok (.aload_n 1, 1) := by decide +kernel
theorem dX10_copyFrom_42 : decode cX10_copyFrom 42 = .ok (.getfield 65, 3) := by decide +kernel
theorem dX10_copyFrom_45 : decode cX10_copyFrom 45 = .ok (.putfield 65, 3) := by decide +kernel
theorem dX10_copyFrom_48 : decode cX10_copyFrom 48 = .ok (.aload_n 1, 1) := by decide +kernel
theorem dX10_copyFrom_49 : decode cX10_copyFrom 49 = .ok (.getfield 15, 3) := by decide +kernel
theorem dX10_copyFrom_52 : decode cX10_copyFrom 52 = .ok (.iconst 0, 1) := by decide +kernel
theorem dX10_copyFrom_53 : decode cX10_copyFrom 53 = .ok (.aload_n 0, 1) := by decide +kernel
theorem dX10_copyFrom_54 : decode cX10_copyFrom 54 = .ok (.getfield 15, 3) := by decide +kernel
theorem dX10_copyFrom_57 : decode cX10_copyFrom 57 = .ok (.iconst 0, 1) := by decide +kernel
theorem dX10_copyFrom_58 : decode cX10_copyFrom 58 = .ok (.bipush 9, 2) := by decide +kernel
theorem dX10_copyFrom_60 : decode cX10_copyFrom 60 = .ok (.invokestatic 77, 3) := by decide +kernel
theorem dX10_copyFrom_63 : decode cX10_copyFrom 63 = .ok (.aload_n 1, 1) := by decide +kernel
theorem dX10_copyFrom_64 : decode cX10_copyFrom 64 = .ok (.getfield 19, 3) := by decide +kernel
theorem dX10_copyFrom_67 : decode cX10_copyFrom 67 = .ok (.iconst 0, 1) := by decide +kernel
theorem dX10_copyFrom_68 : decode cX10_copyFrom 68 = .ok (.aload_n 0, 1) := by decide +kernel
theorem dX10_copyFrom_69 : decode cX10_copyFrom 69 = .ok (.getfield 19, 3) := by decide +kernel
theorem dX10_copyFrom_72 : decode cX10_copyFrom 72 = .ok (.iconst 0, 1) := by decide +kernel
theorem dX10_copyFrom_73 : decode cX10_copyFrom 73 = .ok (.bipush 9, 2) := by decide +kernel
theorem dX10_copyFrom_75 : decode cX10_copyFrom 75 = .ok (.invokestatic 77, 3) := by decide +kernel
theorem dX10_copyFrom_78 : decode cX10_copyFrom 78 = .ok (.aload_n 1, 1) := by decide +kernel
theorem dX10_copyFrom_79 : decode cX10_copyFrom 79 = .ok (.getfield 22, 3) := by decide +kernel
theorem dX10_copyFrom_82 : decode cX10_copyFrom 82 = .ok (.iconst 0, 1) := by decide +kernel
theorem dX10_copyFrom_83 : decode cX10_copyFrom 83 = .ok (.aload_n 0, 1) := by decide +kernel
theorem dX10_copyFrom_84 : decode cX10_copyFrom 84 = .ok (.getfield 22, 3) := by decide +kernel
theorem dX10_copyFrom_87 : decode cX10_copyFrom 87 = .ok (.iconst 0, 1) := by decide +kernel
theorem dX10_copyFrom_88 : decode cX10_copyFrom 88 = .ok (.bipush 9, 2) := by decide +kernel
theorem dX10_copyFrom_90 : decode cX10_copyFrom 90 = .ok (.invokestatic 77, 3) := by decide +kernel
theorem dX10_copyFrom_93 : decode cX10_copyFrom 93 = .ok (.aload_n 1, 1) := by decide +kernel
theorem dX10_copyFrom_94 : decode cX10_copyFrom 94 = .ok (.getfield 25, 3) := by decide +kernel
theorem dX10_copyFrom_97 : decode cX10_copyFrom 97 = .ok (.iconst 0, 1) := by decide +kernel
theorem dX10_copyFrom_98 : decode cX10_copyFrom 98 = .ok (.aload_n 0, 1) := by decide +kernel
theorem dX10_copyFrom_99 : decode cX10_copyFrom 99 = .ok (.getfield 25, 3) := by decide +kernel
theorem dX10_copyFrom_102 : decode cX10_copyFrom 102 = .ok (.iconst 0, 1) := by decide +kernel
theorem dX10_copyFrom_103 : decode cX10_copyFrom 103 = .ok (.bipush 8, 2) := by decide +kernel
theorem dX10_copyFrom_105 : decode cX10_copyFrom 105 = .ok (.invokestatic 77, 3) := by decide +kernel
theorem dX10_copyFrom_108 : decode cX10_copyFrom 108 = .ok (.aload_n 1, 1) := by decide +kernel
theorem dX10_copyFrom_109 : decode cX10_copyFrom 109 = .ok (.getfield 28, 3) := by decide +kernel
theorem dX10_copyFrom_112 : decode cX10_copyFrom 112 = .ok (.iconst 0, 1) := by decide +kernel
theorem dX10_copyFrom_113 : decode cX10_copyFrom 113 = .ok (.aload_n 0, 1) := by decide +kernel
theorem dX10_copyFrom_114 : decode cX10_copyFrom 114 = .ok (.getfield 28, 3) := by decide +kernel
theorem dX10_copyFrom_117 : decode cX10_copyFrom 117 = .ok (.iconst 0, 1) := by decide +kernel
theorem dX10_copyFrom_118 : decode cX10_copyFrom 118 = .ok (.bipush 8, 2) := by decide +kernel
theorem dX10_copyFrom_120 : decode cX10_copyFrom 120 = .ok (.invokestatic 77, 3) := by decide +kernel
theorem dX10_copyFrom_123 : decode cX10_copyFrom 123 = .ok (.aload_n 1, 1) := by decide +kernel
theorem dX10_copyFrom_124 : decode cX10_copyFrom 124 = .ok (.getfield 31, 3) := by decide +kernel
theorem dX10_copyFrom_127 : decode cX10_copyFrom 127 = .ok (.iconst 0, 1) := by decide +kernel
theorem dX10_copyFrom_128 : decode cX10_copyFrom 128 = .ok (.aload_n 0, 1) := by decide +kernel
theorem dX10_copyFrom_129 : decode cX10_copyFrom 129 = .ok (.getfield 31, 3) := by decide +kernel
theorem dX10_copyFrom_132 : decode cX10_copyFrom 132 = .ok (.iconst 0, 1) := by decide +kernel
theorem dX10_copyFrom_133 : decode cX10_copyFrom 133 = .ok (.bipush 8, 2) := by decide +kernel
theorem dX10_copyFrom_135 : decode cX10_copyFrom 135 = .ok (.invokestatic 77, 3) := by decide +kernel
theorem dX10_copyFrom_138 : decode cX10_copyFrom 138 = .ok (.aload_n 1, 1) := by decide +kernel
theorem dX10_copyFrom_139 : decode cX10_copyFrom 139 = .ok (.getfield 34, 3) := by decide +kernel
theorem dX10_copyFrom_142 : decode cX10_copyFrom 142 = .ok (.iconst 0, 1) := by decide +kernel
theorem dX10_copyFrom_143 : decode cX10_copyFrom 143 = .ok (.aload_n 0, 1) := by decide +kernel
theorem dX10_copyFrom_144 : decode cX10_copyFrom 144 = .ok (.getfield 34, 3) := by decide +kernel
theorem dX10_copyFrom_147 : decode cX10_copyFrom 147 = .ok (.iconst 0, 1) := by decide +kernel
theorem dX10_copyFrom_148 : decode cX10_copyFrom 148 = .ok (.iconst 4, 1) := by decide +kernel
theorem dX10_copyFrom_149 : decode cX10_copyFrom 149 = .ok (.invokestatic 77, 3) := by decide +kernel
theorem dX10_copyFrom_152 : decode cX10_copyFrom 152 = .ok (.aload_n 1, 1) := by decide +kernel
theorem dX10_copyFrom_153 : decode cX10_copyFrom 153 = .ok (.getfield 37, 3) := by decide +kernel
theorem dX10_copyFrom_156 : decode cX10_copyFrom 156 = .ok (.iconst 0, 1) := by decide +kernel
theorem dX10_copyFrom_157 : decode cX10_copyFrom 157 = .ok (.aload_n 0, 1) := by decide +kernel
theorem dX10_copyFrom_158 : decode cX10_copyFrom 158 = .ok (.getfield 37, 3) := by decide +kernel
theorem dX10_copyFrom_161 : decode cX10_copyFrom 161 = .ok (.iconst 0, 1) := by decide +kernel
theorem dX10_copyFrom_162 : decode cX10_copyFrom 162 = .ok (.iconst 4, 1) := by decide +kernel
theorem dX10_copyFrom_163 : decode cX10_copyFrom 163 = .ok (.invokestatic 77, 3) := by decide +kernel
theorem dX10_copyFrom_166 : decode cX10_copyFrom 166 = .ok (.aload_n 1, 1) := by decide +kernel
theorem dX10_copyFrom_167 : decode cX10_copyFrom 167 = .ok (.getfield 40, 3) := by decide +kernel
theorem dX10_copyFrom_170 : decode cX10_copyFrom 170 = .ok (.iconst 0, 1) := by decide +kernel
theorem dX10_copyFrom_171 : decode cX10_copyFrom 171 = .ok (.aload_n 0, 1) := by decide +kernel
theorem dX10_copyFrom_172 : decode cX10_copyFrom 172 = .ok (.getfield 40, 3) := by decide +kernel
theorem dX10_copyFrom_175 : decode cX10_copyFrom 175 = .ok (.iconst 0, 1) := by decide +kernel
theorem dX10_copyFrom_176 : decode cX10_copyFrom 176 = .ok (.iconst 4, 1) := by decide +kernel
theorem dX10_copyFrom_177 : decode cX10_copyFrom 177 = .ok (.invokestatic 77, 3) := by decide +kernel
theorem dX10_copyFrom_180 : decode cX10_copyFrom 180 = .ok (.aload_n 1, 1) := by decide +kernel
theorem dX10_copyFrom_181 : decode cX10_copyFrom 181 = .ok (.getfield 43, 3) := by decide +kernel
theorem dX10_copyFrom_184 : decode cX10_copyFrom 184 = .ok (.iconst 0, 1) := by decide +kernel
theorem dX10_copyFrom_185 : decode cX10_copyFrom 185 = .ok (.aload_n 0, 1) := by decide +kernel
theorem dX10_copyFrom_186 : decode cX10_copyFrom 186 = .ok (.getfield 43, 3) := by decide +kernel
theorem dX10_copyFrom_189 : decode cX10_copyFrom 189 = .ok (.iconst 0, 1) := by decide +kernel
theorem dX10_copyFrom_190 : decode cX10_copyFrom 190 = .ok (.bipush 36, 2) := by decide +kernel
theorem dX10_copyFrom_192 : decode cX10_copyFrom 192 = .ok (.invokestatic 77, 3) := by decide +kernel
theorem dX10_copyFrom_195 : decode cX10_copyFrom 195 = .ok (.aload_n 0, 1) := by decide +kernel
theorem dX10_copyFrom_196 : decode cX10_copyFrom 196 = .ok (.getfield 49, 3) := by decide +kernel
theorem dX10_copyFrom_199 : decode cX10_copyFrom 199 = .ok (.aload_n 1, 1) := by decide +kernel
theorem dX10_copyFrom_200 : decode cX10_copyFrom 200 = .ok (.getfield 49, 3) := by decide +kernel
theorem dX10_copyFrom_203 : decode cX10_copyFrom 203 = .ok (.invokevirtual 83, 3) := by decide +kernel
theorem dX10_copyFrom_206 : decode cX10_copyFrom 206 = .ok (.return_, 1) := by decide +kernel
theorem dX10_hasPlace_0 : decode cX10_hasPlace 0 = .ok (.iload_n 1, 1) := by decide +kernel
theorem dX10_hasPlace_1 : decode cX10_hasPlace 1 = .ok (.ifCond .lt 15, 3) := by decide +kernel
theorem dX10_hasPlace_4 : decode cX10_hasPlace 4 = .ok (.iload_n 1, 1) := by decide +kernel
theorem dX10_hasPlace_5 : decode cX10_hasPlace 5 = .ok (.aload_n 0, 1) := by decide +kernel
theorem dX10_hasPlace_6 : decode cX10_hasPlace 6 = .ok (.getfield 9, 3) := by decide +kernel
theorem dX10_hasPlace_9 : decode cX10_hasPlace 9 = .ok (.if_icmp .ge 7, 3) := by decide +kernel
theorem dX10_hasPlace_12 : decode cX10_hasPlace 12 = .ok (.iconst 1, 1) := by decide +kernel
theorem dX10_hasPlace_13 : decode cX10_hasPlace 13 = .ok (.goto 4, 3) := by decide +kernel
theorem dX10_hasPlace_16 : decode cX10_hasPlace 16 = .ok (.iconst 0, 1) := by decide +kernel
theorem dX10_hasPlace_17 : decode cX10_hasPlace 17 = .ok (.ireturn, 1) := by decide +kernel
theorem dX10_hasPerson_0 : decode cX10_hasPerson 0 = .ok (.iload_n 1, 1) := by decide +kernel
theorem dX10_hasPerson_1 : decode cX10_hasPerson 1 = .ok (.ifCond .lt 15, 3) := by decide +kernel
theorem dX10_hasPerson_4 : decode cX10_hasPerson 4 = .ok (.iload_n 1, 1) := by decide +kernel
theorem dX10_hasPerson_5 : decode cX10_hasPerson 5 = .ok (.aload_n 0, 1) := by decide +kernel
theorem dX10_hasPerson_6 : decode cX10_hasPerson 6 = .ok (.getfield 62, 3) := by decide +kernel
theorem dX10_hasPerson_9 : decode cX10_hasPerson 9 = .ok (.if_icmp .ge 7, 3) := by decide +kernel
theorem dX10_hasPerson_12 : decode cX10_hasPerson 12 = .ok (.iconst 1, 1) := by decide +kernel
theorem dX10_hasPerson_13 : decode cX10_hasPerson 13 = .ok (.goto 4, 3) := by decide +kernel
theorem dX10_hasPerson_16 : decode cX10_hasPerson 16 = .ok (.iconst 0, 1) := by decide +kernel
theorem dX10_hasPerson_17 : decode cX10_hasPerson 17 = .ok (.ireturn, 1) := by decide +kernel
theorem dX10_hasCoin_0 : decode cX10_hasCoin 0 = .ok (.iload_n 1, 1) := by decide +kernel
theorem dX10_hasCoin_1 : decode cX10_hasCoin 1 = .ok (.ifCond .lt 15, 3) := by decide +kernel
theorem dX10_hasCoin_4 : decode cX10_hasCoin 4 = .ok (.iload_n 1, 1) := by decide +kernel
theorem dX10_hasCoin_5 : decode cX10_hasCoin 5 = .ok (.aload_n 0, 1) := by decide +kernel
theorem dX10_hasCoin_6 : decode cX10_hasCoin 6 = .ok (.getfield 65, 3) := by decide +kernel
theorem dX10_hasCoin_9 : decode cX10_hasCoin 9 = .ok (.if_icmp .ge 7, 3) := by decide +kernel
theorem dX10_hasCoin_12 : decode cX10_hasCoin 12 = .ok (.iconst 1, 1) := by decide +kernel
theorem dX10_hasCoin_13 : decode cX10_hasCoin 13 = .ok (.goto 4, 3) := by decide +kernel
theorem dX10_hasCoin_16 : decode cX10_hasCoin 16 = .ok (.iconst 0, 1) := by decide +kernel
theorem dX10_hasCoin_17 : decode cX10_hasCoin 17 = .ok (.ireturn, 1) := by decide +kernel
theorem dX10_joins_0 : decode cX10_joins 0 = .ok (.aload_n 0, 1) := by decide +kernel
theorem dX10_joins_1 : decode cX10_joins 1 = .ok (.getfield 15, 3) := by decide +kernel
theorem dX10_joins_4 : decode cX10_joins 4 = .ok (.iload_n 1, 1) := by decide +kernel
theorem dX10_joins_5 : decode cX10_joins 5 = .ok (.iaload, 1) := by decide +kernel
theorem dX10_joins_6 : decode cX10_joins 6 = .ok (.iload_n 2, 1) := by decide +kernel
theorem dX10_joins_7 : decode cX10_joins 7 = .ok (.if_icmp .ne 13, 3) := by decide +kernel
theorem dX10_joins_10 : decode cX10_joins 10 = .ok (.aload_n 0, 1) := by decide +kernel
theorem dX10_joins_11 : decode cX10_joins 11 = .ok (.getfield 19, 3) := by decide +kernel
theorem dX10_joins_14 : decode cX10_joins 14 = .ok (.iload_n 1, 1) := by decide +kernel
theorem dX10_joins_15 : decode cX10_joins 15 = .ok (.iaload, 1) := by decide +kernel
theorem dX10_joins_16 : decode cX10_joins 16 = .ok (.iload_n 3, 1) := by decide +kernel
theorem dX10_joins_17 : decode cX10_joins 17 = .ok (.if_icmp .eq 23, 3) := by decide +kernel
theorem dX10_joins_20 : decode cX10_joins 20 = .ok (.aload_n 0, 1) := by decide +kernel
theorem dX10_joins_21 : decode cX10_joins 21 = .ok (.getfield 15, 3) := by decide +kernel
theorem dX10_joins_24 : decode cX10_joins 24 = .ok (.iload_n 1, 1) := by decide +kernel
theorem dX10_joins_25 : decode cX10_joins 25 = .ok (.iaload, 1) := by decide +kernel
theorem dX10_joins_26 : decode cX10_joins 26 = .ok (.iload_n 3, 1) := by decide +kernel
theorem dX10_joins_27 : decode cX10_joins 27 = .ok (.if_icmp .ne 17, 3) := by decide +kernel
theorem dX10_joins_30 : decode cX10_joins 30 = .ok (.aload_n 0, 1) := by decide +kernel
theorem dX10_joins_31 : decode cX10_joins 31 = .ok (.getfield 19, 3) := by decide +kernel
theorem dX10_joins_34 : decode cX10_joins 34 = .ok (.iload_n 1, 1) := by decide +kernel
theorem dX10_joins_35 : decode cX10_joins 35 = .ok (.iaload, 1) := by decide +kernel
theorem dX10_joins_36 : decode cX10_joins 36 = .ok (.iload_n 2, 1) := by decide +kernel
theorem dX10_joins_37 : decode cX10_joins 37 = .ok (.if_icmp .ne 7, 3) := by decide +kernel
theorem dX10_joins_40 : decode cX10_joins 40 = .ok (.iconst 1, 1) := by decide +kernel
theorem dX10_joins_41 : decode cX10_joins 41 = .ok (.goto 4, 3) := by decide +kernel
theorem dX10_joins_44 : decode cX10_joins 44 = .ok (.iconst 0, 1) := by decide +kernel
theorem dX10_joins_45 : decode cX10_joins 45 = .ok (.ireturn, 1) := by decide +kernel
theorem dX10_joined_0 : decode cX10_joined 0 = .ok (.iconst 0, 1) := by decide +kernel
theorem dX10_joined_1 : decode cX10_joined 1 = .ok (.istore_n 3, 1) := by decide +kernel
theorem dX10_joined_2 : decode cX10_joined 2 = .ok (.iload_n 3, 1) := by decide +kernel
theorem dX10_joined_3 : decode cX10_joined 3 = .ok (.aload_n 0, 1) := by decide +kernel
theorem dX10_joined_4 : decode cX10_joined 4 = .ok (.getfield 59, 3) := by decide +kernel
theorem dX10_joined_7 : decode cX10_joined 7 = .ok (.if_icmp .ge 21, 3) := by decide +kernel
theorem dX10_joined_10 : decode cX10_joined 10 = .ok (.aload_n 0, 1) := by decide +kernel
theorem dX10_joined_11 : decode cX10_joined 11 = .ok (.iload_n 3, 1) := by decide +kernel
theorem dX10_joined_12 : decode cX10_joined 12 = .ok (.iload_n 1, 1) := by decide +kernel
theorem dX10_joined_13 : decode cX10_joined 13 = .ok (.iload_n 2, 1) := by decide +kernel
theorem dX10_joined_14 : decode cX10_joined 14 = .ok (.invokevirtual 87, 3) := by decide +kernel
theorem dX10_joined_17 : decode cX10_joined 17 = .ok (.ifCond .eq 5, 3) := by decide +kernel
theorem dX10_joined_20 : decode cX10_joined 20 = .ok (.iconst 1, 1) := by decide +kernel
theorem dX10_joined_21 : decode cX10_joined 21 = .ok (.ireturn, 1) := by decide +kernel
theorem dX10_joined_22 : decode cX10_joined 22 = .ok (.iinc 3 1, 3) := by decide +kernel
theorem dX10_joined_25 : decode cX10_joined 25 = .ok (.goto (-23), 3) := by decide +kernel
theorem dX10_joined_28 : decode cX10_joined 28 = .ok (.iconst 0, 1) := by decide +kernel
theorem dX10_joined_29 : decode cX10_joined 29 = .ok (.ireturn, 1) := by decide +kernel
theorem dX10_distance_0 : decode cX10_distance 0 = .ok (.aload_n 0, 1) := by decide +kernel
theorem dX10_distance_1 : decode cX10_distance 1 = .ok (.getfield 43, 3) := by decide +kernel
theorem dX10_distance_4 : decode cX10_distance 4 = .ok (.iload_n 1, 1) := by decide +kernel
theorem dX10_distance_5 : decode cX10_distance 5 = .ok (.bipush 6, 2) := by decide +kernel
theorem dX10_distance_7 : decode cX10_distance 7 = .ok (.imul, 1) := by decide +kernel
theorem dX10_distance_8 : decode cX10_distance 8 = .ok (.iload_n 2, 1) := by decide +kernel
theorem dX10_distance_9 : decode cX10_distance 9 = .ok (.iadd, 1) := by decide +kernel
theorem dX10_distance_10 : decode cX10_distance 10 = .ok (.iaload, 1) := by decide +kernel
theorem dX10_distance_11 : decode cX10_distance 11 = .ok (.ireturn, 1) := by decide +kernel
theorem dX10_measureDistances_0 : decode cX10_measureDistances 0 = .ok (.aload_n 0, 1) := by decide +kernel
theorem dX10_measureDistances_1 : decode cX10_measureDistances 1 = .ok (.getfield 43, 3) := by decide +kernel
theorem dX10_measureDistances_4 : decode cX10_measureDistances 4 = .ok (.bipush 99, 2) := by decide +kernel
theorem dX10_measureDistances_6 : decode cX10_measureDistances 6 = .ok (.invokestatic 68, 3) := by decide +kernel
theorem dX10_measureDistances_9 : decode cX10_measureDistances 9 = .ok (.iconst 0, 1) := by decide +kernel
theorem dX10_measureDistances_10 : decode cX10_measureDistances 10 = .ok (.istore_n 1, 1) := by decide +kernel
theorem dX10_measureDistances_11 : decode cX10_measureDistances 11 = .ok (.iload_n 1, 1) := by decide +kernel
theorem dX10_measureDistances_12 : decode cX10_measureDistances 12 = .ok (.bipush 6, 2) := by decide +kernel
theorem dX10_measureDistances_14 : decode cX10_measureDistances 14 = .ok (.if_icmp .ge 21, 3) := by decide +kernel
theorem dX10_measureDistances_17 : decode cX10_measureDistances 17 = .ok (.aload_n 0, 1) := by decide +kernel
theorem dX10_measureDistances_18 : decode cX10_measureDistances 18 = .ok (.getfield 43, 3) := by decide +kernel
theorem dX10_measureDistances_21 : decode cX10_measureDistances 21 = .ok (.iload_n 1, 1) := by decide +kernel
theorem dX10_measureDistances_22 : decode cX10_measureDistances 22 = .ok (.bipush 6, 2) := by decide +kernel
theorem dX10_measureDistances_24 : decode cX10_measureDistances 24 = .ok (.imul, 1) := by decide +kernel
theorem dX10_measureDistances_25 : decode cX10_measureDistances 25 = .ok (.iload_n 1, 1) := by decide +kernel
theorem dX10_measureDistances_26 : decode cX10_measureDistances 26 = .ok (.iadd, 1) := by decide +kernel
theorem dX10_measureDistances_27 : decode cX10_measureDistances 27 = .ok (.iconst 0, 1) := by decide +kernel
theorem dX10_measureDistances_28 : decode cX10_measureDistances 28 = .ok (.iastore, 1) := by decide +kernel
theorem dX10_measureDistances_29 : decode cX10_measureDistances 29 = .ok (.iinc 1 1, 3) := by decide +kernel
theorem dX10_measureDistances_32 : decode cX10_measureDistances 32 = .ok (.goto (-21), 3) := by decide +kernel
theorem dX10_measureDistances_35 : decode cX10_measureDistances 35 = .ok (.iconst 0, 1) := by decide +kernel
theorem dX10_measureDistances_36 : decode cX10_measureDistances 36 = .ok (.istore_n 1, 1) := by decide +kernel
theorem dX10_measureDistances_37 : decode cX10_measureDistances 37 = .ok (.iload_n 1, 1) := by decide +kernel
theorem dX10_measureDistances_38 : decode cX10_measureDistances 38 = .ok (.aload_n 0, 1) := by decide +kernel
theorem dX10_measureDistances_39 : decode cX10_measureDistances 39 = .ok (.getfield 59, 3) := by decide +kernel
theorem dX10_measureDistances_42 : decode cX10_measureDistances 42 = .ok (.if_icmp .ge 53, 3) := by decide +kernel
theorem dX10_measureDistances_45 : decode cX10_measureDistances 45 = .ok (.aload_n 0, 1) := by decide +kernel
theorem dX10_measureDistances_46 : decode cX10_measureDistances 46 = .ok (.aload_n 0, 1) := by decide +kernel
theorem dX10_measureDistances_47 : decode cX10_measureDistances 47 = .ok (.getfield 15, 3) := by decide +kernel
theorem dX10_measureDistances_50 : decode cX10_measureDistances 50 = .ok (.iload_n 1, 1) := by decide +kernel
theorem dX10_measureDistances_51 : decode cX10_measureDistances 51 = .ok (.iaload, 1) := by decide +kernel
theorem dX10_measureDistances_52 : decode cX10_measureDistances 52 = .ok (.aload_n 0, 1) := by decide +kernel
theorem dX10_measureDistances_53 : decode cX10_measureDistances 53 = .ok (.getfield 19, 3) := by decide +kernel
theorem dX10_measureDistances_56 : decode cX10_measureDistances 56 = .ok (.iload_n 1, 1) := by decide +kernel
theorem dX10_measureDistances_57 : decode cX10_measureDistances 57 = .ok (.iaload, 1) := by decide +kernel
theorem dX10_measureDistances_58 : decode cX10_measureDistances 58 = .ok (.aload_n 0, 1) := by decide +kernel
theorem dX10_measureDistances_59 : decode cX10_measureDistances 59 = .ok (.getfield 22, 3) := by decide +kernel
theorem dX10_measureDistances_62 : decode cX10_measureDistances 62 = .ok (.iload_n 1, 1) := by decide +kernel
theorem dX10_measureDistances_63 : decode cX10_measureDistances 63 = .ok (.iaload, 1) := by decide +kernel
theorem dX10_measureDistances_64 : decode cX10_measureDistances 64 = .ok (.invokevirtual 91, 3) := by decide +kernel
theorem dX10_measureDistances_67 : decode cX10_measureDistances 67 = .ok (.aload_n 0, 1) := by decide +kernel
theorem dX10_measureDistances_68 : decode cX10_measureDistances 68 = .ok (.aload_n 0, 1) := by decide +kernel
theorem dX10_measureDistances_69 : decode cX10_measureDistances 69 = .ok (.getfield 19, 3) := by decide +kernel
theorem dX10_measureDistances_72 : decode cX10_measureDistances 72 = .ok (.iload_n 1, 1) := by decide +kernel
theorem dX10_measureDistances_73 : decode cX10_measureDistances 73 = .ok (.iaload, 1) := by decide +kernel
theorem dX10_measureDistances_74 : decode cX10_measureDistances 74 = .ok (.aload_n 0, 1) := by decide +kernel
theorem dX10_measureDistances_75 : decode cX10_measureDistances 75 = .ok (.getfield 15, 3) := by decide +kernel
theorem dX10_measureDistances_78 : decode cX10_measureDistances 78 = .ok (.iload_n 1, 1) := by decide +kernel
theorem dX10_measureDistances_79 : decode cX10_measureDistances 79 = .ok (.iaload, 1) := by decide +kernel
theorem dX10_measureDistances_80 : decode cX10_measureDistances 80 = .ok (.aload_n 0, 1) := by decide +kernel
theorem dX10_measureDistances_81 : decode cX10_measureDistances 81 = .ok (.getfield 22, 3) := by decide +kernel
theorem dX10_measureDistances_84 : decode cX10_measureDistances 84 = .ok (.iload_n 1, 1) := by decide +kernel
theorem dX10_measureDistances_85 : decode cX10_measureDistances 85 = .ok (.iaload, 1) := by decide +kernel
theorem dX10_measureDistances_86 : decode cX10_measureDistances 86 = .ok (.invokevirtual 91, 3) := by decide +kernel
theorem dX10_measureDistances_89 : decode cX10_measureDistances 89 = .ok (.iinc 1 1, 3) := by decide +kernel
theorem dX10_measureDistances_92 : decode cX10_measureDistances 92 = .ok (.goto (-55), 3) := by decide +kernel
theorem dX10_measureDistances_95 : decode cX10_measureDistances 95 = .ok (.iconst 0, 1) := by decide +kernel
theorem dX10_measureDistances_96 : decode cX10_measureDistances 96 = .ok (.istore_n 1, 1) := by decide +kernel
theorem dX10_measureDistances_97 : decode cX10_measureDistances 97 = .ok (.iload_n 1, 1) := by decide +kernel
theorem dX10_measureDistances_98 : decode cX10_measureDistances 98 = .ok (.aload_n 0, 1) := by decide +kernel
theorem dX10_measureDistances_99 : decode cX10_measureDistances 99 = .ok (.getfield 9, 3) := by decide +kernel
theorem dX10_measureDistances_102 : decode cX10_measureDistances 102 = .ok (.if_icmp .ge 60, 3) := by decide +kernel
theorem dX10_measureDistances_105 : decode cX10_measureDistances 105 = .ok (.iconst 0, 1) := by decide +kernel
theorem dX10_measureDistances_106 : decode cX10_measureDistances 106 = .ok (.istore_n 2, 1) := by decide +kernel
theorem dX10_measureDistances_107 : decode cX10_measureDistances 107 = .ok (.iload_n 2, 1) := by decide +kernel
theorem dX10_measureDistances_108 : decode cX10_measureDistances 108 = .ok (.aload_n 0, 1) := by decide +kernel
theorem dX10_measureDistances_109 : decode cX10_measureDistances 109 = .ok (.getfield 9, 3) := by decide +kernel
theorem dX10_measureDistances_112 : decode cX10_measureDistances 112 = .ok (.if_icmp .ge 44, 3) := by decide +kernel
theorem dX10_measureDistances_115 : decode cX10_measureDistances 115 = .ok (.iconst 0, 1) := by decide +kernel
theorem dX10_measureDistances_116 : decode cX10_measureDistances 116 = .ok (.istore_n 3, 1) := by decide +kernel
theorem dX10_measureDistances_117 : decode cX10_measureDistances 117 = .ok (.iload_n 3, 1) := by decide +kernel
theorem dX10_measureDistances_118 : decode cX10_measureDistances 118 = .ok (.aload_n 0, 1) := by decide +kernel
theorem dX10_measureDistances_119 : decode cX10_measureDistances 119 = .ok (.getfield 9, 3) := by decide +kernel
theorem dX10_measureDistances_122 : decode cX10_measureDistances 122 = .ok (.if_icmp .ge 28, 3) := by decide +kernel
theorem dX10_measureDistances_125 : decode cX10_measureDistances 125 = .ok (.aload_n 0, 1) := by decide +kernel
theorem dX10_measureDistances_126 : decode cX10_measureDistances 126 = .ok (.iload_n 2, 1) := by decide +kernel
theorem dX10_measureDistances_127 : decode cX10_measureDistances 127 = .ok (.iload_n 3, 1) := by decide +kernel
theorem dX10_measureDistances_128 : decode cX10_measureDistances 128 = .ok (.aload_n 0, 1) := by decide +kernel
theorem dX10_measureDistances_129 : decode cX10_measureDistances 129 = .ok (.iload_n 2, 1) := by decide +kernel
theorem dX10_measureDistances_130 : decode cX10_measureDistances 130 = .ok (.iload_n 1, 1) := by decide +kernel
theorem dX10_measureDistances_131 : decode cX10_measureDistances 131 = .ok (.invokevirtual 95, 3) := by decide +kernel
theorem dX10_measureDistances_134 : decode cX10_measureDistances 134 = .ok (.aload_n 0, 1) := by decide +kernel
theorem dX10_measureDistances_135 : decode cX10_measureDistances 135 = .ok (.iload_n 1, 1) := by decide +kernel
theorem dX10_measureDistances_136 : decode cX10_measureDistances 136 = .ok (.iload_n 3, 1) := by decide +kernel
theorem dX10_measureDistances_137 : decode cX10_measureDistances 137 = .ok (.invokevirtual 95, 3) := by decide +kernel
theorem dX10_measureDistances_140 : decode cX10_measureDistances 140 = .ok (.iadd, 1) := by decide +kernel
theorem dX10_measureDistances_141 : decode cX10_measureDistances 141 = .ok (.invokevirtual 91, 3) := by decide +kernel
theorem dX10_measureDistances_144 : decode cX10_measureDistances 144 = .ok (.iinc 3 1, 3) := by decide +kernel
theorem dX10_measureDistances_147 : decode cX10_measureDistances 147 = .ok (.goto (-30), 3) := by decide +kernel
theorem dX10_measureDistances_150 : decode cX10_measureDistances 150 = .ok (.iinc 2 1, 3) := by decide +kernel
theorem dX10_measureDistances_153 : decode cX10_measureDistances 153 = .ok (.goto (-46), 3) := by decide +kernel
theorem dX10_measureDistances_156 : decode cX10_measureDistances 156 = .ok (.iinc 1 1, 3) := by decide +kernel
theorem dX10_measureDistances_159 : decode cX10_measureDistances 159 = .ok (.goto (-62), 3) := by decide +kernel
theorem dX10_measureDistances_162 : decode cX10_measureDistances 162 = .ok (.return_, 1) := by decide +kernel
theorem dX10_shorten_0 : decode cX10_shorten 0 = .ok (.iload_n 3, 1) := by decide +kernel
theorem dX10_shorten_1 : decode cX10_shorten 1 = .ok (.aload_n 0, 1) := by decide +kernel
theorem dX10_shorten_2 : decode cX10_shorten 2 = .ok (.iload_n 1, 1) := by decide +kernel
theorem dX10_shorten_3 : decode cX10_shorten 3 = .ok (.iload_n 2, 1) := by decide +kernel
theorem dX10_shorten_4 : decode cX10_shorten 4 = .ok (.invokevirtual 95, 3) := by decide +kernel
theorem dX10_shorten_7 : decode cX10_shorten 7 = .ok (.if_icmp .ge 15, 3) := by decide +kernel
theorem dX10_shorten_10 : decode cX10_shorten 10 = .ok (.aload_n 0, 1) := by decide +kernel
theorem dX10_shorten_11 : decode cX10_shorten 11 = .ok (.getfield 43, 3) := by decide +kernel
theorem dX10_shorten_14 : decode cX10_shorten 14 = .ok (.iload_n 1, 1) := by decide +kernel
theorem dX10_shorten_15 : decode cX10_shorten 15 = .ok (.bipush 6, 2) := by decide +kernel
theorem dX10_shorten_17 : decode cX10_shorten 17 = .ok (.imul, 1) := by decide +kernel
theorem dX10_shorten_18 : decode cX10_shorten 18 = .ok (.iload_n 2, 1) := by decide +kernel
theorem dX10_shorten_19 : decode cX10_shorten 19 = .ok (.iadd, 1) := by decide +kernel
theorem dX10_shorten_20 : decode cX10_shorten 20 = .ok (.iload_n 3, 1) := by decide +kernel
theorem dX10_shorten_21 : decode cX10_shorten 21 = .ok (.iastore, 1) := by decide +kernel
theorem dX10_shorten_22 : decode cX10_shorten 22 = .ok (.return_, 1) := by decide +kernel
theorem dX11_init_0 : decode cX11_init 0 = .ok (.aload_n 0, 1) := by decide +kernel
theorem dX11_init_1 : decode cX11_init 1 = .ok (.invokespecial 1, 3) := by decide +kernel
theorem dX11_init_4 : decode cX11_init 4 = .ok (.aload_n 0, 1) := by decide +kernel
theorem dX11_init_5 : decode cX11_init 5 = .ok (.new 7, 3) := by decide +kernel
theorem dX11_init_8 : decode cX11_init 8 = .ok (.dup, 1) := by decide +kernel
theorem dX11_init_9 : decode cX11_init 9 = .ok (.invokespecial 9, 3) := by decide +kernel
theorem dX11_init_12 : decode cX11_init 12 = .ok (.putfield 10, 3) := by decide +kernel
theorem dX11_init_15 : decode cX11_init 15 = .ok (.aload_n 0, 1) := by decide +kernel
theorem dX11_init_16 : decode cX11_init 16 = .ok (.new 16, 3) := by decide +kernel
theorem dX11_init_19 : decode cX11_init 19 = .ok (.dup, 1) := by decide +kernel
theorem dX11_init_20 : decode cX11_init 20 = .ok (.invokespecial 18, 3) := by decide +kernel
theorem dX11_init_23 : decode cX11_init 23 = .ok (.putfield 19, 3) := by decide +kernel
theorem dX11_init_26 : decode cX11_init 26 = .ok (.aload_n 0, 1) := by decide +kernel
theorem dX11_init_27 : decode cX11_init 27 = .ok (.new 16, 3) := by decide +kernel
theorem dX11_init_30 : decode cX11_init 30 = .ok (.dup, 1) := by decide +kernel
theorem dX11_init_31 : decode cX11_init 31 = .ok (.invokespecial 18, 3) := by decide +kernel
theorem dX11_init_34 : decode cX11_init 34 = .ok (.putfield 23, 3) := by decide +kernel
theorem dX11_init_37 : decode cX11_init 37 = .ok (.aload_n 0, 1) := by decide +kernel
theorem dX11_init_38 : decode cX11_init 38 = .ok (.new 26, 3) := by decide +kernel
theorem dX11_init_41 : decode cX11_init 41 = .ok (.dup, 1) := by decide +kernel
theorem dX11_init_42 : decode cX11_init 42 = .ok (.invokespecial 28, 3) := by decide +kernel
theorem dX11_init_45 : decode cX11_init 45 = .ok (.putfield 29, 3) := by decide +kernel
theorem dX11_init_48 : decode cX11_init 48 = .ok (.aload_n 0, 1) := by decide +kernel
theorem dX11_init_49 : decode cX11_init 49 = .ok (.new 33, 3) := by decide +kernel
theorem dX11_init_52 : decode cX11_init 52 = .ok (.dup, 1) := by decide +kernel
theorem dX11_init_53 : decode cX11_init 53 = .ok (.invokespecial 35, 3) := by decide +kernel
theorem dX11_init_56 : decode cX11_init 56 = .ok (.putfield 36, 3) := by decide +kernel
theorem dX11_init_59 : decode cX11_init 59 = .ok (.aload_n 0, 1) := by decide +kernel
theorem dX11_init_60 : decode cX11_init 60 = .ok (.new 40, 3) := by decide +kernel
theorem dX11_init_63 : decode cX11_init 63 = .ok (.dup, 1) := by decide +kernel
theorem dX11_init_64 : decode cX11_init 64 = .ok (.aload_n 0, 1) := by decide +kernel
theorem dX11_init_65 : decode cX11_init 65 = .ok (.getfield 10, 3) := by decide +kernel
theorem dX11_init_68 : decode cX11_init 68 = .ok (.aload_n 0, 1) := by decide +kernel
theorem dX11_init_69 : decode cX11_init 69 = .ok (.getfield 19, 3) := by decide +kernel
theorem dX11_init_72 : decode cX11_init 72 = .ok (.invokespecial 42, 3) := by decide +kernel
theorem dX11_init_75 : decode cX11_init 75 = .ok (.putfield 45, 3) := by decide +kernel
theorem dX11_init_78 : decode cX11_init 78 = .ok (.aload_n 0, 1) := by decide +kernel
theorem dX11_init_79 : decode cX11_init 79 = .ok (.new 49, 3) := by decide +kernel
theorem dX11_init_82 : decode cX11_init 82 = .ok (.dup, 1) := by decide +kernel
theorem dX11_init_83 : decode cX11_init 83 = .ok (.aload_n 0, 1) := by decide +kernel
theorem dX11_init_84 : decode cX11_init 84 = .ok (.getfield 45, 3) := by decide +kernel
theorem dX11_init_87 : decode cX11_init 87 = .ok (.invokespecial 51, 3) := by decide +kernel
theorem dX11_init_90 : decode cX11_init 90 = .ok (.putfield 54, 3) := by decide +kernel
theorem dX11_init_93 : decode cX11_init 93 = .ok (.aload_n 0, 1) := by decide +kernel
theorem dX11_init_94 : decode cX11_init 94 = .ok (.new 58, 3) := by decide +kernel
theorem dX11_init_97 : decode cX11_init 97 = .ok (.dup, 1) := by decide +kernel
theorem dX11_init_98 : decode cX11_init 98 = .ok (.aload_n 0, 1) := by decide +kernel
theorem dX11_init_99 : decode cX11_init 99 = .ok (.getfield 10, 3) := by decide +kernel
theorem dX11_init_102 : decode cX11_init 102 = .ok (.aload_n 0, 1) := by decide +kernel
theorem dX11_init_103 : decode cX11_init 103 = .ok (.getfield 19, 3) := by decide +kernel
theorem dX11_init_106 : decode cX11_init 106 = .ok (.invokespecial 60, 3) := by decide +kernel
theorem dX11_init_109 : decode cX11_init 109 = .ok (.putfield 61, 3) := by decide +kernel
theorem dX11_init_112 : decode cX11_init 112 = .ok (.aload_n 0, 1) := by decide +kernel
theorem dX11_init_113 : decode cX11_init 113 = .ok (.new 65, 3) := by decide +kernel
theorem dX11_init_116 : decode cX11_init 116 = .ok (.dup, 1) := by decide +kernel
theorem dX11_init_117 : decode cX11_init 117 = .ok (.aload_n 0, 1) := by decide +kernel
theorem dX11_init_118 : decode cX11_init 118 = .ok (.getfield 54, 3) := by decide +kernel
theorem dX11_init_121 : decode cX11_init 121 = .ok (.invokespecial 67, 3) := by decide +kernel
theorem dX11_init_124 : decode cX11_init 124 = .ok (.putfield 70, 3) := by decide +kernel
theorem dX11_init_127 : decode cX11_init 127 = .ok (.aload_n 0, 1) := by decide +kernel
theorem dX11_init_128 : decode cX11_init 128 = .ok (.new 74, 3) := by decide +kernel
theorem dX11_init_131 : decode cX11_init 131 = .ok (.dup, 1) := by decide +kernel
theorem dX11_init_132 : decode cX11_init 132 = .ok (.aload_n 0, 1) := by decide +kernel
theorem dX11_init_133 : decode cX11_init 133 = .ok (.getfield 54, 3) := by decide +kernel
theorem dX11_init_136 : decode cX11_init 136 = .ok (.invokespecial 76, 3) := by decide +kernel
theorem dX11_init_139 : decode cX11_init 139 = .ok (.putfield 77, 3) := by decide +kernel
theorem dX11_init_142 : decode cX11_init 142 = .ok (.aload_n 0, 1) := by decide +kernel
theorem dX11_init_143 : decode cX11_init 143 = .ok (.iconst 4, 1) := by decide +kernel
theorem dX11_init_144 : decode cX11_init 144 = .ok (.anewarray 81, 3) := by decide +kernel
theorem dX11_init_147 : decode cX11_init 147 = .ok (.putfield 83, 3) := by decide +kernel
theorem dX11_init_150 : decode cX11_init 150 = .ok (.aload_n 0, 1) := by decide +kernel
theorem dX11_init_151 : decode cX11_init 151 = .ok (.iconst 2, 1) := by decide +kernel
theorem dX11_init_152 : decode cX11_init 152 = .ok (.anewarray 7, 3) := by decide +kernel
theorem dX11_init_155 : decode cX11_init 155 = .ok (.putfield 87, 3) := by decide +kernel
theorem dX11_init_158 : decode cX11_init 158 = .ok (.aload_n 0, 1) := by decide +kernel
theorem dX11_init_159 : decode cX11_init 159 = .ok (.iconst 2, 1) := by decide +kernel
theorem dX11_init_160 : decode cX11_init 160 = .ok (.anewarray 16, 3) := by decide +kernel
theorem dX11_init_163 : decode cX11_init 163 = .ok (.putfield 91, 3) := by decide +kernel
theorem dX11_init_166 : decode cX11_init 166 = .ok (.aload_n 0, 1) := by decide +kernel
theorem dX11_init_167 : decode cX11_init 167 = .ok (.iconst 2, 1) := by decide +kernel
theorem dX11_init_168 : decode cX11_init 168 = .ok (.newarray .boolean, 2) := by decide +kernel
theorem dX11_init_170 : decode cX11_init 170 = .ok (.putfield 95, 3) := by decide +kernel
theorem dX11_init_173 : decode cX11_init 173 = .ok (.iconst 0, 1) := by decide +kernel
theorem dX11_init_174 : decode cX11_init 174 = .ok (.istore_n 1, 1) := by decide +kernel
theorem dX11_init_175 : decode cX11_init 175 = .ok (.iload_n 1, 1) := by decide +kernel
theorem dX11_init_176 : decode cX11_init 176 = .ok (.iconst 4, 1) := by decide +kernel
theorem dX11_init_177 : decode cX11_init 177 = .ok (.if_icmp .ge 22, 3) := by decide +kernel
theorem dX11_init_180 : decode cX11_init 180 = .ok (.aload_n 0, 1) := by decide +kernel
theorem dX11_init_181 : decode cX11_init 181 = .ok (.getfield 83, 3) := by decide +kernel
theorem dX11_init_184 : decode cX11_init 184 = .ok (.iload_n 1, 1) := by decide +kernel
theorem dX11_init_185 : decode cX11_init 185 = .ok (.new 81, 3) := by decide +kernel
theorem dX11_init_188 : decode cX11_init 188 = .ok (.dup, 1) := by decide +kernel
theorem dX11_init_189 : decode cX11_init 189 = .ok (.invokespecial 99, 3) := by decide +kernel
theorem dX11_init_192 : decode cX11_init 192 = .ok (.aastore, 1) := by decide +kernel
theorem dX11_init_193 : decode cX11_init 193 = .ok (.iinc 1 1, 3) := by decide +kernel
theorem dX11_init_196 : decode cX11_init 196 = .ok (.goto (-21), 3) := by decide +kernel
theorem dX11_init_199 : decode cX11_init 199 = .ok (.iconst 0, 1) := by decide +kernel
theorem dX11_init_200 : decode cX11_init 200 = .ok (.istore_n 1, 1) := by decide +kernel
theorem dX11_init_201 : decode cX11_init 201 = .ok (.iload_n 1, 1) := by decide +kernel
theorem dX11_init_202 : decode cX11_init 202 = .ok (.iconst 2, 1) := by decide +kernel
theorem dX11_init_203 : decode cX11_init 203 = .ok (.if_icmp .ge 35, 3) := by decide +kernel
theorem dX11_init_206 : decode cX11_init 206 = .ok (.aload_n 0, 1) := by decide +kernel
theorem dX11_init_207 : decode cX11_init 207 = .ok (.getfield 87, 3) := by decide +kernel
theorem dX11_init_210 : decode cX11_init 210 = .ok (.iload_n 1, 1) := by decide +kernel
theorem dX11_init_211 : decode cX11_init 211 = .ok (.new 7, 3) := by decide +kernel
theorem dX11_init_214 : decode cX11_init 214 = .ok (.dup, 1) := by decide +kernel
theorem dX11_init_215 : decode cX11_init 215 = .ok (.invokespecial 9, 3) := by decide +kernel
theorem dX11_init_218 : decode cX11_init 218 = .ok (.aastore, 1) := by decide +kernel
theorem dX11_init_219 : decode cX11_init 219 = .ok (.aload_n 0, 1) := by decide +kernel
theorem dX11_init_220 : decode cX11_init 220 = .ok (.getfield 91, 3) := by decide +kernel
theorem dX11_init_223 : decode cX11_init 223 = .ok (.iload_n 1, 1) := by decide +kernel
theorem dX11_init_224 : decode cX11_init 224 = .ok (.new 16, 3) := by decide +kernel
theorem dX11_init_227 : decode cX11_init 227 = .ok (.dup, 1) := by decide +kernel
theorem dX11_init_228 : decode cX11_init 228 = .ok (.invokespecial 18, 3) := by decide +kernel
theorem dX11_init_231 : decode cX11_init 231 = .ok (.aastore, 1) := by decide +kernel
theorem dX11_init_232 : decode cX11_init 232 = .ok (.iinc 1 1, 3) := by decide +kernel
theorem dX11_init_235 : decode cX11_init 235 = .ok (.goto (-34), 3) := by decide +kernel
theorem dX11_init_238 : decode cX11_init 238 = .ok (.return_, 1) := by decide +kernel
theorem dX11_feed_0 : decode cX11_feed 0 = .ok (.aload_n 0, 1) := by decide +kernel
theorem dX11_feed_1 : decode cX11_feed 1 = .ok (.getfield 36, 3) := by decide +kernel
theorem dX11_feed_4 : decode cX11_feed 4 = .ok (.getfield 100, 3) := by decide +kernel
theorem dX11_feed_7 : decode cX11_feed 7 = .ok (.bipush 20, 2) := by decide +kernel
theorem dX11_feed_9 : decode cX11_feed 9 = .ok (.iadd, 1) := by decide +kernel
theorem dX11_feed_10 : decode cX11_feed 10 = .ok (.sipush 900, 3) := by decide +kernel
theorem dX11_feed_13 : decode cX11_feed 13 = .ok (.if_icmp .le 6, 3) := by decide +kernel
theorem dX11_feed_16 : decode cX11_feed 16 = .ok (.bipush (-5), 2) := by decide +kernel
theorem dX11_feed_18 : decode cX11_feed 18 = .ok (.ireturn, 1) := by decide +kernel
theorem dX11_feed_19 : decode cX11_feed 19 = .ok (.aload_n 0, 1) := by decide +kernel
theorem dX11_feed_20 : decode cX11_feed 20 = .ok (.getfield 36, 3) := by decide +kernel
theorem dX11_feed_23 : decode cX11_feed 23 = .ok (.iload_n 1, 1) := by decide +kernel
theorem dX11_feed_24 : decode cX11_feed 24 = .ok (.invokevirtual 104, 3) := by decide +kernel
theorem dX11_feed_27 : decode cX11_feed 27 = .ok (.aload_n 0, 1) := by decide +kernel
theorem dX11_feed_28 : decode cX11_feed 28 = .ok (.getfield 36, 3) := by decide +kernel
theorem dX11_feed_31 : decode cX11_feed 31 = .ok (.iload_n 2, 1) := by decide +kernel
theorem dX11_feed_32 : decode cX11_feed 32 = .ok (.invokevirtual 104, 3) := by decide +kernel
theorem dX11_feed_35 : decode cX11_feed 35 = .ok (.aload_n 0, 1) := by decide +kernel
theorem dX11_feed_36 : decode cX11_feed 36 = .ok (.getfield 36, 3) := by decide +kernel
theorem dX11_feed_39 : decode cX11_feed 39 = .ok (.iload_n 3, 1) := by decide +kernel
theorem dX11_feed_40 : decode cX11_feed 40 = .ok (.invokevirtual 104, 3) := by decide +kernel
theorem dX11_feed_43 : decode cX11_feed 43 = .ok (.aload_n 0, 1) := by decide +kernel
theorem dX11_feed_44 : decode cX11_feed 44 = .ok (.getfield 36, 3) := by decide +kernel
theorem dX11_feed_47 : decode cX11_feed 47 = .ok (.iload 4, 2) := by decide +kernel
theorem dX11_feed_49 : decode cX11_feed 49 = .ok (.invokevirtual 104, 3) := by decide +kernel
theorem dX11_feed_52 : decode cX11_feed 52 = .ok (.aload_n 0, 1) := by decide +kernel
theorem dX11_feed_53 : decode cX11_feed 53 = .ok (.getfield 36, 3) := by decide +kernel
theorem dX11_feed_56 : decode cX11_feed 56 = .ok (.iload 5, 2) := by decide +kernel
theorem dX11_feed_58 : decode cX11_feed 58 = .ok (.invokevirtual 104, 3) := by decide +kernel
theorem dX11_feed_61 : decode cX11_feed 61 = .ok (.aload_n 0, 1) := by decide +kernel
theorem dX11_feed_62 : decode cX11_feed 62 = .ok (.getfield 36, 3) := by decide +kernel
theorem dX11_feed_65 : decode cX11_feed 65 = .ok (.getfield 100, 3) := by decide +kernel
theorem dX11_feed_68 : decode cX11_feed 68 = .ok (.ireturn, 1) := by decide +kernel
theorem dX11_valley_0 : decode cX11_valley 0 = .ok (.iload_n 1, 1) := by decide +kernel
theorem dX11_valley_1 : decode cX11_valley 1 = .ok (.ifCond .lt 14, 3) := by decide +kernel
theorem dX11_valley_4 : decode cX11_valley 4 = .ok (.iload_n 1, 1) := by decide +kernel
theorem dX11_valley_5 : decode cX11_valley 5 = .ok (.aload_n 0, 1) := by decide +kernel
theorem dX11_valley_6 : decode cX11_valley 6 = .ok (.getfield 36, 3) := by decide +kernel
theorem dX11_valley_9 : decode cX11_valley 9 = .ok (.getfield 100, 3) := by decide +kernel
theorem dX11_valley_12 : decode cX11_valley 12 = .ok (.if_icmp .le 6, 3) := by decide +kernel
theorem dX11_valley_15 : decode cX11_valley 15 = .ok (.bipush (-3), 2) := by decide +kernel
theorem dX11_valley_17 : decode cX11_valley 17 = .ok (.ireturn, 1) := by decide +kernel
theorem dX11_valley_18 : decode cX11_valley 18 = .ok (.aload_n 0, 1) := by decide +kernel
theorem dX11_valley_19 : decode cX11_valley 19 = .ok (.getfield 36, 3) := by decide +kernel
theorem dX11_valley_22 : decode cX11_valley 22 = .ok (.iload_n 1, 1) := by decide +kernel
theorem dX11_valley_23 : decode cX11_valley 23 = .ok (.invokevirtual 108, 3) := by decide +kernel
theorem dX11_valley_26 : decode cX11_valley 26 = .ok (.ifCond .ne 14, 3) := by decide +kernel
theorem dX11_valley_29 : decode cX11_valley 29 = .ok (.bipush (-30), 2) := by decide +kernel
theorem dX11_valley_31 : decode cX11_valley 31 = .ok (.aload_n 0, 1) := by decide +kernel
theorem dX11_valley_32 : decode cX11_valley 32 = .ok (.getfield 36, 3) := by decide +kernel
theorem dX11_valley_35 : decode cX11_valley 35 = .ok (.getfield 112, 3) := by decide +kernel
theorem dX11_valley_38 : decode cX11_valley 38 = .ok (.isub, 1) := by decide +kernel
theorem dX11_valley_39 : decode cX11_valley 39 = .ok (.ireturn, 1) := by decide +kernel
theorem dX11_valley_40 : decode cX11_valley 40 = .ok (.aload_n 0, 1) := by decide +kernel
theorem dX11_valley_41 : decode cX11_valley 41 = .ok (.getfield 10, 3) := by decide +kernel
theorem dX11_valley_44 : decode cX11_valley 44 = .ok (.aload_n 0, 1) := by decide +kernel
theorem dX11_valley_45 : decode cX11_valley 45 = .ok (.getfield 36, 3) := by decide +kernel
theorem dX11_valley_48 : decode cX11_valley 48 = .ok (.getfield 115, 3) := by decide +kernel
theorem dX11_valley_51 : decode cX11_valley 51 = .ok (.invokevirtual 118, 3) := by decide +kernel
theorem dX11_valley_54 : decode cX11_valley 54 = .ok (.aload_n 0, 1) := by decide +kernel
theorem dX11_valley_55 : decode cX11_valley 55 = .ok (.getfield 19, 3) := by decide +kernel
theorem dX11_valley_58 : decode cX11_valley 58 = .ok (.aload_n 0, 1) := by decide +kernel
theorem dX11_valley_59 : decode cX11_valley 59 = .ok (.getfield 10, 3) := by decide +kernel
theorem dX11_valley_62 : decode cX11_valley 62 = .ok (.invokevirtual 122, 3) := by decide +kernel
theorem dX11_valley_65 : decode cX11_valley 65 = .ok (.aload_n 0, 1) := by decide +kernel
theorem dX11_valley_66 : decode cX11_valley 66 = .ok (.getfield 29, 3) := by decide +kernel
theorem dX11_valley_69 : decode cX11_valley 69 = .ok (.invokevirtual 125, 3) := by decide +kernel
theorem dX11_valley_72 : decode cX11_valley 72 = .ok (.aload_n 0, 1) := by decide +kernel
theorem dX11_valley_73 : decode cX11_valley 73 = .ok (.getfield 10, 3) := by decide +kernel
theorem dX11_valley_76 : decode cX11_valley 76 = .ok (.getfield 128, 3) := by decide +kernel
theorem dX11_valley_79 : decode cX11_valley 79 = .ok (.ireturn, 1) := by decide +kernel
theorem dX11_fault_0 : decode cX11_fault 0 = .ok (.iload_n 1, 1) := by decide +kernel
theorem dX11_fault_1 : decode cX11_fault 1 = .ok (.ifCond .ne 11, 3) := by decide +kernel
theorem dX11_fault_4 : decode cX11_fault 4 = .ok (.aload_n 0, 1) := by decide +kernel
theorem dX11_fault_5 : decode cX11_fault 5 = .ok (.getfield 36, 3) := by decide +kernel
theorem dX11_fault_8 : decode cX11_fault 8 = .ok (.getfield 112, 3) := by decide +kernel
theorem dX11_fault_11 : decode cX11_fault 11 = .ok (.ireturn, 1) := by decide +kernel
theorem dX11_fault_12 : decode cX11_fault 12 = .ok (.iload_n 1, 1) := by decide +kernel
theorem dX11_fault_13 : decode cX11_fault 13 = .ok (.iconst 1, 1) := by decide +kernel
theorem dX11_fault_14 : decode cX11_fault 14 = .ok (.if_icmp .ne 13, 3) := by decide +kernel
theorem dX11_fault_17 : decode cX11_fault 17 = .ok (.aload_n 0, 1) := by decide +kernel
theorem dX11_fault_18 : decode cX11_fault 18 = .ok (.getfield 36, 3) := by decide +kernel
theorem dX11_fault_21 : decode cX11_fault 21 = .ok (.getfield 131, 3) := by decide +kernel
theorem dX11_fault_24 : decode cX11_fault 24 = .ok (.goto 4, 3) := by decide +kernel
theorem dX11_fault_27 : decode cX11_fault 27 = .ok (.iconst (-1), 1) := by decide +kernel
theorem dX11_fault_28 : decode cX11_fault 28 = .ok (.ireturn, 1) := by decide +kernel
theorem dX11_person_0 : decode cX11_person 0 = .ok (.aload_n 0, 1) := by decide +kernel
theorem dX11_person_1 : decode cX11_person 1 = .ok (.getfield 10, 3) := by decide +kernel
theorem dX11_person_4 : decode cX11_person 4 = .ok (.iload_n 1, 1) := by decide +kernel
theorem dX11_person_5 : decode cX11_person 5 = .ok (.invokevirtual 134, 3) := by decide +kernel
theorem dX11_person_8 : decode cX11_person 8 = .ok (.ifCond .ne 6, 3) := by decide +kernel
theorem dX11_person_11 : decode cX11_person 11 = .ok (.bipush (-2), 2) := by decide +kernel
theorem dX11_person_13 : decode cX11_person 13 = .ok (.ireturn, 1) := by decide +kernel
theorem dX11_person_14 : decode cX11_person 14 = .ok (.iload_n 2, 1) := by decide +kernel
theorem dX11_person_15 : decode cX11_person 15 = .ok (.tableswitch 55 0 2 #[25, 35, 45], 25) := by decide +kernel
theorem dX11_person_40 : decode cX11_person 40 = .ok (.aload_n 0, 1) := by decide +kernel
theorem dX11_person_41 : decode cX11_person 41 = .ok (.getfield 10, 3) := by decide +kernel
theorem dX11_person_44 : decode cX11_person 44 = .ok (.getfield 137, 3) := by decide +kernel
theorem dX11_person_47 : decode cX11_person 47 = .ok (.iload_n 1, 1) := by decide +kernel
theorem dX11_person_48 : decode cX11_person 48 = .ok (.iaload, 1) := by decide +kernel
theorem dX11_person_49 : decode cX11_person 49 = .ok (.ireturn, 1) := by decide +kernel
theorem dX11_person_50 : decode cX11_person 50 = .ok (.aload_n 0, 1) := by decide +kernel
theorem dX11_person_51 : decode cX11_person 51 = .ok (.getfield 10, 3) := by decide +kernel
theorem dX11_person_54 : decode cX11_person 54 = .ok (.getfield 141, 3) := by decide +kernel
theorem dX11_person_57 : decode cX11_person 57 = .ok (.iload_n 1, 1) := by decide +kernel
theorem dX11_person_58 : decode cX11_person 58 = .ok (.iaload, 1) := by decide +kernel
theorem dX11_person_59 : decode cX11_person 59 = .ok (.ireturn, 1) := by decide +kernel
theorem dX11_person_60 : decode cX11_person 60 = .ok (.aload_n 0, 1) := by decide +kernel
theorem dX11_person_61 : decode cX11_person 61 = .ok (.getfield 19, 3) := by decide +kernel
theorem dX11_person_64 : decode cX11_person 64 = .ok (.getfield 144, 3) := by decide +kernel
theorem dX11_person_67 : decode cX11_person 67 = .ok (.iload_n 1, 1) := by decide +kernel
theorem dX11_person_68 : decode cX11_person 68 = .ok (.iaload, 1) := by decide +kernel
theorem dX11_person_69 : decode cX11_person 69 = .ok (.ireturn, 1) := by decide +kernel
theorem dX11_person_70 : decode cX11_person 70 = .ok (.bipush (-2), 2) := by decide +kernel
theorem dX11_person_72 : decode cX11_person 72 = .ok (.ireturn, 1) := by decide +kernel
theorem dX11_coin_0 : decode cX11_coin 0 = .ok (.aload_n 0, 1) := by decide +kernel
theorem dX11_coin_1 : decode cX11_coin 1 = .ok (.getfield 10, 3) := by decide +kernel
theorem dX11_coin_4 : decode cX11_coin 4 = .ok (.iload_n 1, 1) := by decide +kernel
theorem dX11_coin_5 : decode cX11_coin 5 = .ok (.invokevirtual 147, 3) := by decide +kernel
theorem dX11_coin_8 : decode cX11_coin 8 = .ok (.ifCond .ne 6, 3) := by decide +kernel
theorem dX11_coin_11 : decode cX11_coin 11 = .ok (.bipush (-2), 2) := by decide +kernel
theorem dX11_coin_13 : decode cX11_coin 13 = .ok (.ireturn, 1) := by decide +kernel
theorem dX11_coin_14 : decode cX11_coin 14 = .ok (.iload_n 2, 1) := by decide +kernel
theorem dX11_coin_15 : decode cX11_coin 15 = .ok (.tableswitch 69 0 3 #[29, 39, 49, 59], 29) := by decide +kernel
theorem dX11_coin_44 : decode cX11_coin 44 = .ok (.aload_n 0, 1) := by decide +kernel
theorem dX11_coin_45 : decode cX11_coin 45 = .ok (.getfield 19, 3) := by decide +kernel
theorem dX11_coin_48 : decode cX11_coin 48 = .ok (.getfield 150, 3) := by decide +kernel
theorem dX11_coin_51 : decode cX11_coin 51 = .ok (.iload_n 1, 1) := by decide +kernel
theorem dX11_coin_52 : decode cX11_coin 52 = .ok (.iaload, 1) := by decide +kernel
theorem dX11_coin_53 : decode cX11_coin 53 = .ok (.ireturn, 1) := by decide +kernel
theorem dX11_coin_54 : decode cX11_coin 54 = .ok (.aload_n 0, 1) := by decide +kernel
theorem dX11_coin_55 : decode cX11_coin 55 = .ok (.getfield 10, 3) := by decide +kernel
theorem dX11_coin_58 : decode cX11_coin 58 = .ok (.getfield 153, 3) := by decide +kernel
theorem dX11_coin_61 : decode cX11_coin 61 = .ok (.iload_n 1, 1) := by decide +kernel
theorem dX11_coin_62 : decode cX11_coin 62 = .ok (.iaload, 1) := by decide +kernel
theorem dX11_coin_63 : decode cX11_coin 63 = .ok (.ireturn, 1) := by decide +kernel
theorem dX11_coin_64 : decode cX11_coin 64 = .ok (.aload_n 0, 1) := by decide +kernel
theorem dX11_coin_65 : decode cX11_coin 65 = .ok (.getfield 10, 3) := by decide +kernel
theorem dX11_coin_68 : decode cX11_coin 68 = .ok (.getfield 156, 3) := by decide +kernel
theorem dX11_coin_71 : decode cX11_coin 71 = .ok (.iload_n 1, 1) := by decide +kernel
theorem dX11_coin_72 : decode cX11_coin 72 = .ok (.iaload, 1) := by decide +kernel
theorem dX11_coin_73 : decode cX11_coin 73 = .ok (.ireturn, 1) := by decide +kernel
theorem dX11_coin_74 : decode cX11_coin 74 = .ok (.aload_n 0, 1) := by decide +kernel
theorem dX11_coin_75 : decode cX11_coin 75 = .ok (.getfield 19, 3) := by decide +kernel
theorem dX11_coin_78 : decode cX11_coin 78 = .ok (.getfield 159, 3) := by decide +kernel
theorem dX11_coin_81 : decode cX11_coin 81 = .ok (.iload_n 1, 1) := by decide +kernel
theorem dX11_coin_82 : decode cX11_coin 82 = .ok (.iaload, 1) := by decide +kernel
theorem dX11_coin_83 : decode cX11_coin 83 = .ok (.ireturn, 1) := by decide +kernel
theorem dX11_coin_84 : decode cX11_coin 84 = .ok (.bipush (-2), 2) := by decide +kernel
theorem dX11_coin_86 : decode cX11_coin 86 = .ok (.ireturn, 1) := by decide +kernel
theorem dX11_road_0 : decode cX11_road 0 = .ok (.iload_n 1, 1) := by decide +kernel
theorem dX11_road_1 : decode cX11_road 1 = .ok (.ifCond .lt 14, 3) := by decide +kernel
theorem dX11_road_4 : decode cX11_road 4 = .ok (.iload_n 1, 1) := by decide +kernel
theorem dX11_road_5 : decode cX11_road 5 = .ok (.aload_n 0, 1) := by decide +kernel
theorem dX11_road_6 : decode cX11_road 6 = .ok (.getfield 10, 3) := by decide +kernel
theorem dX11_road_9 : decode cX11_road 9 = .ok (.getfield 162, 3) := by decide +kernel
theorem dX11_road_12 : decode cX11_road 12 = .ok (.if_icmp .lt 6, 3) := by decide +kernel
theorem dX11_road_15 : decode cX11_road 15 = .ok (.bipush (-2), 2) := by decide +kernel
theorem dX11_road_17 : decode cX11_road 17 = .ok (.ireturn, 1) := by decide +kernel
theorem dX11_road_18 : decode cX11_road 18 = .ok (.iload_n 2, 1) := by decide +kernel
theorem dX11_road_19 : decode cX11_road 19 = .ok (.tableswitch 55 0 2 #[25, 35, 45], 25) := by decide +kernel
theorem dX11_road_44 : decode cX11_road 44 = .ok (.aload_n 0, 1) := by decide +kernel
theorem dX11_road_45 : decode cX11_road 45 = .ok (.getfield 10, 3) := by decide +kernel
theorem dX11_road_48 : decode cX11_road 48 = .ok (.getfield 165, 3) := by decide +kernel
theorem dX11_road_51 : decode cX11_road 51 = .ok (.iload_n 1, 1) := by decide +kernel
theorem dX11_road_52 : decode cX11_road 52 = .ok (.iaload, 1) := by decide +kernel
theorem dX11_road_53 : decode cX11_road 53 = .ok (.ireturn, 1) := by decide +kernel
theorem dX11_road_54 : decode cX11_road 54 = .ok (.aload_n 0, 1) := by decide +kernel
theorem dX11_road_55 : decode cX11_road 55 = .ok (.getfield 10, 3) := by decide +kernel
theorem dX11_road_58 : decode cX11_road 58 = .ok (.getfield 168, 3) := by decide +kernel
theorem dX11_road_61 : decode cX11_road 61 = .ok (.iload_n 1, 1) := by decide +kernel
theorem dX11_road_62 : decode cX11_road 62 = .ok (.iaload, 1) := by decide +kernel
theorem dX11_road_63 : decode cX11_road 63 = .ok (.ireturn, 1) := by decide +kernel
theorem dX11_road_64 : decode cX11_road 64 = .ok (.aload_n 0, 1) := by decide +kernel
theorem dX11_road_65 : decode cX11_road 65 = .ok (.getfield 10, 3) := by decide +kernel
theorem dX11_road_68 : decode cX11_road 68 = .ok (.getfield 171, 3) := by decide +kernel
theorem dX11_road_71 : decode cX11_road 71 = .ok (.iload_n 1, 1) := by decide +kernel
theorem dX11_road_72 : decode cX11_road 72 = .ok (.iaload, 1) := by decide +kernel
theorem dX11_road_73 : decode cX11_road 73 = .ok (.ireturn, 1) := by decide +kernel
theorem dX11_road_74 : decode cX11_road 74 = .ok (.bipush (-2), 2) := by decide +kernel
theorem dX11_road_76 : decode cX11_road 76 = .ok (.ireturn, 1) := by decide +kernel
theorem dX11_far_0 : decode cX11_far 0 = .ok (.aload_n 0, 1) := by decide +kernel
theorem dX11_far_1 : decode cX11_far 1 = .ok (.getfield 10, 3) := by decide +kernel
theorem dX11_far_4 : decode cX11_far 4 = .ok (.iload_n 1, 1) := by decide +kernel
theorem dX11_far_5 : decode cX11_far 5 = .ok (.invokevirtual 174, 3) := by decide +kernel
theorem dX11_far_8 : decode cX11_far 8 = .ok (.ifCond .eq 14, 3) := by decide +kernel
theorem dX11_far_11 : decode cX11_far 11 = .ok (.aload_n 0, 1) := by decide +kernel
theorem dX11_far_12 : decode cX11_far 12 = .ok (.getfield 10, 3) := by decide +kernel
theorem dX11_far_15 : decode cX11_far 15 = .ok (.iload_n 2, 1) := by decide +kernel
theorem dX11_far_16 : decode cX11_far 16 = .ok (.invokevirtual 174, 3) := by decide +kernel
theorem dX11_far_19 : decode cX11_far 19 = .ok (.ifCond .ne 6, 3) := by decide +kernel
theorem dX11_far_22 : decode cX11_far 22 = .ok (.bipush (-2), 2) := by decide +kernel
theorem dX11_far_24 : decode cX11_far 24 = .ok (.ireturn, 1) := by decide +kernel
theorem dX11_far_25 : decode cX11_far 25 = .ok (.aload_n 0, 1) := by decide +kernel
theorem dX11_far_26 : decode cX11_far 26 = .ok (.getfield 10, 3) := by decide +kernel
theorem dX11_far_29 : decode cX11_far 29 = .ok (.iload_n 1, 1) := by decide +kernel
theorem dX11_far_30 : decode cX11_far 30 = .ok (.iload_n 2, 1) := by decide +kernel
theorem dX11_far_31 : decode cX11_far 31 = .ok (.invokevirtual 177, 3) := by decide +kernel
theorem dX11_far_34 : decode cX11_far 34 = .ok (.ireturn, 1) := by decide +kernel
theorem dX11_why_0 : decode cX11_why 0 = .ok (.aload_n 0, 1) := by decide +kernel
theorem dX11_why_1 : decode cX11_why 1 = .ok (.getfield 45, 3) := by decide +kernel
theorem dX11_why_4 : decode cX11_why 4 = .ok (.iload_n 1, 1) := by decide +kernel
theorem dX11_why_5 : decode cX11_why 5 = .ok (.iload_n 2, 1) := by decide +kernel
theorem dX11_why_6 : decode cX11_why 6 = .ok (.iload_n 3, 1) := by decide +kernel
theorem dX11_why_7 : decode cX11_why 7 = .ok (.iload 4, 2) := by decide +kernel
theorem dX11_why_9 : decode cX11_why 9 = .ok (.aload_n 0, 1) := by decide +kernel
theorem dX11_why_10 : decode cX11_why 10 = .ok (.getfield 19, 3) := by decide +kernel
theorem dX11_why_13 : decode cX11_why 13 = .ok (.getfield 181, 3) := by decide +kernel
theorem dX11_why_16 : decode cX11_why 16 = .ok (.invokevirtual 184, 3) := by decide +kernel
theorem dX11_why_19 : decode cX11_why 19 = .ok (.istore 5, 2) := by decide +kernel
theorem dX11_why_21 : decode cX11_why 21 = .ok (.iload 5, 2) := by decide +kernel
theorem dX11_why_23 : decode cX11_why 23 = .ok (.ifCond .ge 9, 3) := by decide +kernel
theorem dX11_why_26 : decode cX11_why 26 = .ok (.iload 5, 2) := by decide +kernel
theorem dX11_why_28 : decode cX11_why 28 = .ok (.ineg, 1) := by decide +kernel
theorem dX11_why_29 : decode cX11_why 29 = .ok (.goto 4, 3) := by decide +kernel
theorem dX11_why_32 : decode cX11_why 32 = .ok (.iconst 0, 1) := by decide +kernel
theorem dX11_why_33 : decode cX11_why 33 = .ok (.ireturn, 1) := by decide +kernel
theorem dX11_worn_0 : decode cX11_worn 0 = .ok (.aload_n 0, 1) := by decide +kernel
theorem dX11_worn_1 : decode cX11_worn 1 = .ok (.getfield 45, 3) := by decide +kernel
theorem dX11_worn_4 : decode cX11_worn 4 = .ok (.iload_n 1, 1) := by decide +kernel
theorem dX11_worn_5 : decode cX11_worn 5 = .ok (.iload_n 2, 1) := by decide +kernel
theorem dX11_worn_6 : decode cX11_worn 6 = .ok (.iload_n 3, 1) := by decide +kernel
theorem dX11_worn_7 : decode cX11_worn 7 = .ok (.iload 4, 2) := by decide +kernel
theorem dX11_worn_9 : decode cX11_worn 9 = .ok (.aload_n 0, 1) := by decide +kernel
theorem dX11_worn_10 : decode cX11_worn 10 = .ok (.getfield 19, 3) := by decide +kernel
theorem dX11_worn_13 : decode cX11_worn 13 = .ok (.getfield 181, 3) := by decide +kernel
theorem dX11_worn_16 : decode cX11_worn 16 = .ok (.invokevirtual 184, 3) := by decide +kernel
theorem dX11_worn_19 : decode cX11_worn 19 = .ok (.istore 5, 2) := by decide +kernel
theorem dX11_worn_21 : decode cX11_worn 21 = .ok (.iload 5, 2) := by decide +kernel
theorem dX11_worn_23 : decode cX11_worn 23 = .ok (.iconst (-1), 1) := by decide +kernel
theorem dX11_worn_24 : decode cX11_worn 24 = .ok (.if_icmp .ne 6, 3) := by decide +kernel
theorem dX11_worn_27 : decode cX11_worn 27 = .ok (.bipush (-2), 2) := by decide +kernel
theorem dX11_worn_29 : decode cX11_worn 29 = .ok (.ireturn, 1) := by decide +kernel
theorem dX11_worn_30 : decode cX11_worn 30 = .ok (.iload 5, 2) := by decide +kernel
theorem dX11_worn_32 : decode cX11_worn 32 = .ok (.ifCond .ge 8, 3) := by decide +kernel
theorem dX11_worn_35 : decode cX11_worn 35 = .ok (.bipush (-5), 2) := by decide +kernel
theorem dX11_worn_37 : decode cX11_worn 37 = .ok (.goto 5, 3) := by decide +kernel
theorem dX11_worn_40 : decode cX11_worn 40 = .ok (.iload 5, 2) := by decide +kernel
theorem dX11_worn_42 : decode cX11_worn 42 = .ok (.ireturn, 1) := by decide +kernel
theorem dX11_bearers_0 : decode cX11_bearers 0 = .ok (.aload_n 0, 1) := by decide +kernel
theorem dX11_bearers_1 : decode cX11_bearers 1 = .ok (.iload_n 1, 1) := by decide +kernel
theorem dX11_bearers_2 : decode cX11_bearers 2 = .ok (.iload_n 2, 1) := by decide +kernel
theorem dX11_bearers_3 : decode cX11_bearers 3 = .ok (.invokevirtual 188, 3) := by decide +kernel
theorem dX11_bearers_6 : decode cX11_bearers 6 = .ok (.ifCond .ne 6, 3) := by decide +kernel
theorem dX11_bearers_9 : decode cX11_bearers 9 = .ok (.bipush (-2), 2) := by decide +kernel
theorem dX11_bearers_11 : decode cX11_bearers 11 = .ok (.ireturn, 1) := by decide +kernel
theorem dX11_bearers_12 : decode cX11_bearers 12 = .ok (.iconst 0, 1) := by decide +kernel
theorem dX11_bearers_13 : decode cX11_bearers 13 = .ok (.istore_n 3, 1) := by decide +kernel
theorem dX11_bearers_14 : decode cX11_bearers 14 = .ok (.iconst 0, 1) := by decide +kernel
theorem dX11_bearers_15 : decode cX11_bearers 15 = .ok (.istore 4, 2) := by decide +kernel
theorem dX11_bearers_17 : decode cX11_bearers 17 = .ok (.iload 4, 2) := by decide +kernel
theorem dX11_bearers_19 : decode cX11_bearers 19 = .ok (.bipush 28, 2) := by decide +kernel
theorem dX11_bearers_21 : decode cX11_bearers 21 = .ok (.if_icmp .ge 43, 3) := by decide +kernel
theorem dX11_bearers_24 : decode cX11_bearers 24 = .ok (.aload_n 0, 1) := by decide +kernel
theorem dX11_bearers_25 : decode cX11_bearers 25 = .ok (.getfield 45, 3) := by decide +kernel
theorem dX11_bearers_28 : decode cX11_bearers 28 = .ok (.getstatic 192, 3) := by decide +kernel
theorem dX11_bearers_31 : decode cX11_bearers 31 = .ok (.iload 4, 2) := by decide +kernel
theorem dX11_bearers_33 : decode cX11_bearers 33 = .ok (.iaload, 1) := by decide +kernel
theorem dX11_bearers_34 : decode cX11_bearers 34 = .ok (.getstatic 195, 3) := by decide +kernel
theorem dX11_bearers_37 : decode cX11_bearers 37 = .ok (.iload 4, 2) := by decide +kernel
theorem dX11_bearers_39 : decode cX11_bearers 39 = .ok (.iaload, 1) := by decide +kernel
theorem dX11_bearers_40 : decode cX11_bearers 40 = .ok (.iload_n 1, 1) := by decide +kernel
theorem dX11_bearers_41 : decode cX11_bearers 41 = .ok (.iload_n 2, 1) := by decide +kernel
theorem dX11_bearers_42 : decode cX11_bearers 42 = .ok (.aload_n 0, 1) := by decide +kernel
theorem dX11_bearers_43 : decode cX11_bearers 43 = .ok (.getfield 19, 3) := by decide +kernel
theorem dX11_bearers_46 : decode cX11_bearers 46 = .ok (.getfield 181, 3) := by decide +kernel
theorem dX11_bearers_49 : decode cX11_bearers 49 = .ok (.invokevirtual 184, 3) := by decide +kernel
theorem dX11_bearers_52 : decode cX11_bearers 52 = .ok (.ifCond .lt 6, 3) := by decide +kernel
theorem dX11_bearers_55 : decode cX11_bearers 55 = .ok (.iinc 3 1, 3) := by decide +kernel
theorem dX11_bearers_58 : decode cX11_bearers 58 = .ok (.iinc 4 1, 3) := by decide +kernel
theorem dX11_bearers_61 : decode cX11_bearers 61 = .ok (.goto (-44), 3) := by decide +kernel
theorem dX11_bearers_64 : decode cX11_bearers 64 = .ok (.iload_n 3, 1) := by decide +kernel
theorem dX11_bearers_65 : decode cX11_bearers 65 = .ok (.ireturn, 1) := by decide +kernel
theorem dX11_carry_0 : decode cX11_carry 0 = .ok (.aload_n 0, 1) := by decide +kernel
theorem dX11_carry_1 : decode cX11_carry 1 = .ok (.getfield 45, 3) := by decide +kernel
theorem dX11_carry_4 : decode cX11_carry 4 = .ok (.iload_n 1, 1) := by decide +kernel
theorem dX11_carry_5 : decode cX11_carry 5 = .ok (.iload_n 2, 1) := by decide +kernel
theorem dX11_carry_6 : decode cX11_carry 6 = .ok (.iload_n 3, 1) := by decide +kernel
theorem dX11_carry_7 : decode cX11_carry 7 = .ok (.iload 4, 2) := by decide +kernel
theorem dX11_carry_9 : decode cX11_carry 9 = .ok (.aload_n 0, 1) := by decide +kernel
theorem dX11_carry_10 : decode cX11_carry 10 = .ok (.getfield 19, 3) := by decide +kernel
theorem dX11_carry_13 : decode cX11_carry 13 = .ok (.getfield 181, 3) := by decide +kernel
theorem dX11_carry_16 : decode cX11_carry 16 = .ok (.invokevirtual 184, 3) := by decide +kernel
theorem dX11_carry_19 : decode cX11_carry 19 = .ok (.istore 5, 2) := by decide +kernel
theorem dX11_carry_21 : decode cX11_carry 21 = .ok (.iload 5, 2) := by decide +kernel
theorem dX11_carry_23 : decode cX11_carry 23 = .ok (.ifCond .ge 9, 3) := by decide +kernel
theorem dX11_carry_26 : decode cX11_carry 26 = .ok (.bipush (-10), 2) := by decide +kernel
theorem dX11_carry_28 : decode cX11_carry 28 = .ok (.iload 5, 2) := by decide +kernel
theorem dX11_carry_30 : decode cX11_carry 30 = .ok (.iadd, 1) := by decide +kernel
theorem dX11_carry_31 : decode cX11_carry 31 = .ok (.ireturn, 1) := by decide +kernel
theorem dX11_carry_32 : decode cX11_carry 32 = .ok (.aload_n 0, 1) := by decide +kernel
theorem dX11_carry_33 : decode cX11_carry 33 = .ok (.getfield 29, 3) := by decide +kernel
theorem dX11_carry_36 : decode cX11_carry 36 = .ok (.aload_n 0, 1) := by decide +kernel
theorem dX11_carry_37 : decode cX11_carry 37 = .ok (.getfield 19, 3) := by decide +kernel
theorem dX11_carry_40 : decode cX11_carry 40 = .ok (.invokevirtual 198, 3) := by decide +kernel
theorem dX11_carry_43 : decode cX11_carry 43 = .ok (.aload_n 0, 1) := by decide +kernel
theorem dX11_carry_44 : decode cX11_carry 44 = .ok (.getfield 19, 3) := by decide +kernel
theorem dX11_carry_47 : decode cX11_carry 47 = .ok (.iload_n 3, 1) := by decide +kernel
theorem dX11_carry_48 : decode cX11_carry 48 = .ok (.iload 4, 2) := by decide +kernel
theorem dX11_carry_50 : decode cX11_carry 50 = .ok (.iload 5, 2) := by decide +kernel
theorem dX11_carry_52 : decode cX11_carry 52 = .ok (.invokevirtual 202, 3) := by decide +kernel
theorem dX11_carry_55 : decode cX11_carry 55 = .ok (.iload 5, 2) := by decide +kernel
theorem dX11_carry_57 : decode cX11_carry 57 = .ok (.ireturn, 1) := by decide +kernel
theorem dX11_quarrel_0 : decode cX11_quarrel 0 = .ok (.aload_n 0, 1) := by decide +kernel
theorem dX11_quarrel_1 : decode cX11_quarrel 1 = .ok (.getfield 23, 3) := by decide +kernel
theorem dX11_quarrel_4 : decode cX11_quarrel 4 = .ok (.aload_n 0, 1) := by decide +kernel
theorem dX11_quarrel_5 : decode cX11_quarrel 5 = .ok (.getfield 19, 3) := by decide +kernel
theorem dX11_quarrel_8 : decode cX11_quarrel 8 = .ok (.invokevirtual 206, 3) := by decide +kernel
theorem dX11_quarrel_11 : decode cX11_quarrel 11 = .ok (.aload_n 0, 1) := by decide +kernel
theorem dX11_quarrel_12 : decode cX11_quarrel 12 = .ok (.getfield 45, 3) := by decide +kernel
theorem dX11_quarrel_15 : decode cX11_quarrel 15 = .ok (.iload_n 1, 1) := by decide +kernel
theorem dX11_quarrel_16 : decode cX11_quarrel 16 = .ok (.iload_n 2, 1) := by decide +kernel
theorem dX11_quarrel_17 : decode cX11_quarrel 17 = .ok (.invokevirtual 208, 3) := by decide +kernel
theorem dX11_quarrel_20 : decode cX11_quarrel 20 = .ok (.istore_n 3, 1) := by decide +kernel
theorem dX11_quarrel_21 : decode cX11_quarrel 21 = .ok (.iload_n 3, 1) := by decide +kernel
theorem dX11_quarrel_22 : decode cX11_quarrel 22 = .ok (.ifCond .eq 8, 3) := by decide +kernel
theorem dX11_quarrel_25 : decode cX11_quarrel 25 = .ok (.bipush (-10), 2) := by decide +kernel
theorem dX11_quarrel_27 : decode cX11_quarrel 27 = .ok (.iload_n 3, 1) := by decide +kernel
theorem dX11_quarrel_28 : decode cX11_quarrel 28 = .ok (.isub, 1) := by decide +kernel
theorem dX11_quarrel_29 : decode cX11_quarrel 29 = .ok (.ireturn, 1) := by decide +kernel
theorem dX11_quarrel_30 : decode cX11_quarrel 30 = .ok (.aload_n 0, 1) := by decide +kernel
theorem dX11_quarrel_31 : decode cX11_quarrel 31 = .ok (.getfield 29, 3) := by decide +kernel
theorem dX11_quarrel_34 : decode cX11_quarrel 34 = .ok (.aload_n 0, 1) := by decide +kernel
theorem dX11_quarrel_35 : decode cX11_quarrel 35 = .ok (.getfield 23, 3) := by decide +kernel
theorem dX11_quarrel_38 : decode cX11_quarrel 38 = .ok (.invokevirtual 198, 3) := by decide +kernel
theorem dX11_quarrel_41 : decode cX11_quarrel 41 = .ok (.aload_n 0, 1) := by decide +kernel
theorem dX11_quarrel_42 : decode cX11_quarrel 42 = .ok (.getfield 19, 3) := by decide +kernel
theorem dX11_quarrel_45 : decode cX11_quarrel 45 = .ok (.iload_n 1, 1) := by decide +kernel
theorem dX11_quarrel_46 : decode cX11_quarrel 46 = .ok (.iload_n 2, 1) := by decide +kernel
theorem dX11_quarrel_47 : decode cX11_quarrel 47 = .ok (.invokevirtual 211, 3) := by decide +kernel
theorem dX11_quarrel_50 : decode cX11_quarrel 50 = .ok (.ifCond .eq 7, 3) := by decide +kernel
theorem dX11_quarrel_53 : decode cX11_quarrel 53 = .ok (.iconst 1, 1) := by decide +kernel
theorem dX11_quarrel_54 : decode cX11_quarrel 54 = .ok (.goto 4, 3) := by decide +kernel
theorem dX11_quarrel_57 : decode cX11_quarrel 57 = .ok (.iconst 0, 1) := by decide +kernel
theorem dX11_quarrel_58 : decode cX11_quarrel 58 = .ok (.ireturn, 1) := by decide +kernel
theorem dX11_hour_0 : decode cX11_hour 0 = .ok (.aload_n 0, 1) := by decide +kernel
theorem dX11_hour_1 : decode cX11_hour 1 = .ok (.getfield 23, 3) := by decide +kernel
theorem dX11_hour_4 : decode cX11_hour 4 = .ok (.aload_n 0, 1) := by decide +kernel
theorem dX11_hour_5 : decode cX11_hour 5 = .ok (.getfield 19, 3) := by decide +kernel
theorem dX11_hour_8 : decode cX11_hour 8 = .ok (.invokevirtual 206, 3) := by decide +kernel
theorem dX11_hour_11 : decode cX11_hour 11 = .ok (.aload_n 0, 1) := by decide +kernel
theorem dX11_hour_12 : decode cX11_hour 12 = .ok (.getfield 45, 3) := by decide +kernel
theorem dX11_hour_15 : decode cX11_hour 15 = .ok (.iload_n 1, 1) := by decide +kernel
theorem dX11_hour_16 : decode cX11_hour 16 = .ok (.invokevirtual 214, 3) := by decide +kernel
theorem dX11_hour_19 : decode cX11_hour 19 = .ok (.istore_n 2, 1) := by decide +kernel
theorem dX11_hour_20 : decode cX11_hour 20 = .ok (.iload_n 2, 1) := by decide +kernel
theorem dX11_hour_21 : decode cX11_hour 21 = .ok (.ifCond .eq 8, 3) := by decide +kernel
theorem dX11_hour_24 : decode cX11_hour 24 = .ok (.bipush (-10), 2) := by decide +kernel
theorem dX11_hour_26 : decode cX11_hour 26 = .ok (.iload_n 2, 1) := by decide +kernel
theorem dX11_hour_27 : decode cX11_hour 27 = .ok (.isub, 1) := by decide +kernel
theorem dX11_hour_28 : decode cX11_hour 28 = .ok (.ireturn, 1) := by decide +kernel
theorem dX11_hour_29 : decode cX11_hour 29 = .ok (.aload_n 0, 1) := by decide +kernel
theorem dX11_hour_30 : decode cX11_hour 30 = .ok (.getfield 29, 3) := by decide +kernel
theorem dX11_hour_33 : decode cX11_hour 33 = .ok (.aload_n 0, 1) := by decide +kernel
theorem dX11_hour_34 : decode cX11_hour 34 = .ok (.getfield 23, 3) := by decide +kernel
theorem dX11_hour_37 : decode cX11_hour 37 = .ok (.invokevirtual 198, 3) := by decide +kernel
theorem dX11_hour_40 : decode cX11_hour 40 = .ok (.aload_n 0, 1) := by decide +kernel
theorem dX11_hour_41 : decode cX11_hour 41 = .ok (.getfield 23, 3) := by decide +kernel
theorem dX11_hour_44 : decode cX11_hour 44 = .ok (.getfield 181, 3) := by decide +kernel
theorem dX11_hour_47 : decode cX11_hour 47 = .ok (.ireturn, 1) := by decide +kernel
theorem dX11_undo_0 : decode cX11_undo 0 = .ok (.iload_n 1, 1) := by decide +kernel
theorem dX11_undo_1 : decode cX11_undo 1 = .ok (.iconst 1, 1) := by decide +kernel
theorem dX11_undo_2 : decode cX11_undo 2 = .ok (.if_icmp .lt 14, 3) := by decide +kernel
theorem dX11_undo_5 : decode cX11_undo 5 = .ok (.iload_n 1, 1) := by decide +kernel
theorem dX11_undo_6 : decode cX11_undo 6 = .ok (.aload_n 0, 1) := by decide +kernel
theorem dX11_undo_7 : decode cX11_undo 7 = .ok (.getfield 29, 3) := by decide +kernel
theorem dX11_undo_10 : decode cX11_undo 10 = .ok (.getfield 218, 3) := by decide +kernel
theorem dX11_undo_13 : decode cX11_undo 13 = .ok (.if_icmp .le 6, 3) := by decide +kernel
theorem dX11_undo_16 : decode cX11_undo 16 = .ok (.bipush (-3), 2) := by decide +kernel
theorem dX11_undo_18 : decode cX11_undo 18 = .ok (.ireturn, 1) := by decide +kernel
theorem dX11_undo_19 : decode cX11_undo 19 = .ok (.aload_n 0, 1) := by decide +kernel
theorem dX11_undo_20 : decode cX11_undo 20 = .ok (.getfield 29, 3) := by decide +kernel
theorem dX11_undo_23 : decode cX11_undo 23 = .ok (.aload_n 0, 1) := by decide +kernel
theorem dX11_undo_24 : decode cX11_undo 24 = .ok (.getfield 19, 3) := by decide +kernel
theorem dX11_undo_27 : decode cX11_undo 27 = .ok (.iload_n 1, 1) := by decide +kernel
theorem dX11_undo_28 : decode cX11_undo 28 = .ok (.invokevirtual 221, 3) := by decide +kernel
theorem dX11_undo_31 : decode cX11_undo 31 = .ok (.aload_n 0, 1) := by decide +kernel
theorem dX11_undo_32 : decode cX11_undo 32 = .ok (.getfield 29, 3) := by decide +kernel
theorem dX11_undo_35 : decode cX11_undo 35 = .ok (.getfield 218, 3) := by decide +kernel
theorem dX11_undo_38 : decode cX11_undo 38 = .ok (.ireturn, 1) := by decide +kernel
theorem dX11_judge_0 : decode cX11_judge 0 = .ok (.aload_n 0, 1) := by decide +kernel
theorem dX11_judge_1 : decode cX11_judge 1 = .ok (.iload_n 1, 1) := by decide +kernel
theorem dX11_judge_2 : decode cX11_judge 2 = .ok (.invokevirtual 225, 3) := by decide +kernel
theorem dX11_judge_5 : decode cX11_judge 5 = .ok (.ifCond .eq 12, 3) := by decide +kernel
theorem dX11_judge_8 : decode cX11_judge 8 = .ok (.iload_n 2, 1) := by decide +kernel
theorem dX11_judge_9 : decode cX11_judge 9 = .ok (.ifCond .lt 8, 3) := by decide +kernel
theorem dX11_judge_12 : decode cX11_judge 12 = .ok (.iload_n 2, 1) := by decide +kernel
theorem dX11_judge_13 : decode cX11_judge 13 = .ok (.iconst 3, 1) := by decide +kernel
theorem dX11_judge_14 : decode cX11_judge 14 = .ok (.if_icmp .le 6, 3) := by decide +kernel
theorem dX11_judge_17 : decode cX11_judge 17 = .ok (.bipush (-2), 2) := by decide +kernel
theorem dX11_judge_19 : decode cX11_judge 19 = .ok (.ireturn, 1) := by decide +kernel
theorem dX11_judge_20 : decode cX11_judge 20 = .ok (.aload_n 0, 1) := by decide +kernel
theorem dX11_judge_21 : decode cX11_judge 21 = .ok (.getfield 83, 3) := by decide +kernel
theorem dX11_judge_24 : decode cX11_judge 24 = .ok (.iload_n 1, 1) := by decide +kernel
theorem dX11_judge_25 : decode cX11_judge 25 = .ok (.aaload, 1) := by decide +kernel
theorem dX11_judge_26 : decode cX11_judge 26 = .ok (.invokevirtual 228, 3) := by decide +kernel
theorem dX11_judge_29 : decode cX11_judge 29 = .ok (.ifCond .eq 6, 3) := by decide +kernel
theorem dX11_judge_32 : decode cX11_judge 32 = .ok (.bipush (-6), 2) := by decide +kernel
theorem dX11_judge_34 : decode cX11_judge 34 = .ok (.ireturn, 1) := by decide +kernel
theorem dX11_judge_35 : decode cX11_judge 35 = .ok (.aload_n 0, 1) := by decide +kernel
theorem dX11_judge_36 : decode cX11_judge 36 = .ok (.getfield 23, 3) := by decide +kernel
theorem dX11_judge_39 : decode cX11_judge 39 = .ok (.aload_n 0, 1) := by decide +kernel
theorem dX11_judge_40 : decode cX11_judge 40 = .ok (.getfield 19, 3) := by decide +kernel
theorem dX11_judge_43 : decode cX11_judge 43 = .ok (.invokevirtual 206, 3) := by decide +kernel
theorem dX11_judge_46 : decode cX11_judge 46 = .ok (.aload_n 0, 1) := by decide +kernel
theorem dX11_judge_47 : decode cX11_judge 47 = .ok (.aload_n 0, 1) := by decide +kernel
theorem dX11_judge_48 : decode cX11_judge 48 = .ok (.getfield 83, 3) := by decide +kernel
theorem dX11_judge_51 : decode cX11_judge 51 = .ok (.iload_n 1, 1) := by decide +kernel
theorem dX11_judge_52 : decode cX11_judge 52 = .ok (.aaload, 1) := by decide +kernel
theorem dX11_judge_53 : decode cX11_judge 53 = .ok (.invokevirtual 232, 3) := by decide +kernel
theorem dX11_judge_56 : decode cX11_judge 56 = .ok (.istore_n 3, 1) := by decide +kernel
theorem dX11_judge_57 : decode cX11_judge 57 = .ok (.iload_n 3, 1) := by decide +kernel
theorem dX11_judge_58 : decode cX11_judge 58 = .ok (.aload_n 0, 1) := by decide +kernel
theorem dX11_judge_59 : decode cX11_judge 59 = .ok (.getfield 83, 3) := by decide +kernel
theorem dX11_judge_62 : decode cX11_judge 62 = .ok (.iload_n 1, 1) := by decide +kernel
theorem dX11_judge_63 : decode cX11_judge 63 = .ok (.aaload, 1) := by decide +kernel
theorem dX11_judge_64 : decode cX11_judge 64 = .ok (.getfield 236, 3) := by decide +kernel
theorem dX11_judge_67 : decode cX11_judge 67 = .ok (.if_icmp .ne 7, 3) := by decide +kernel
theorem dX11_judge_70 : decode cX11_judge 70 = .ok (.iconst 1, 1) := by decide +kernel
theorem dX11_judge_71 : decode cX11_judge 71 = .ok (.goto 4, 3) := by decide +kernel
theorem dX11_judge_74 : decode cX11_judge 74 = .ok (.iconst 0, 1) := by decide +kernel
theorem dX11_judge_75 : decode cX11_judge 75 = .ok (.istore 4, 2) := by decide +kernel
theorem dX11_judge_77 : decode cX11_judge 77 = .ok (.iload_n 2, 1) := by decide +kernel
theorem dX11_judge_78 : decode cX11_judge 78 = .ok (.ifCond .ne 18, 3) := by decide +kernel
theorem dX11_judge_81 : decode cX11_judge 81 = .ok (.iload 4, 2) := by decide +kernel
theorem dX11_judge_83 : decode cX11_judge 83 = .ok (.ifCond .eq 7, 3) := by decide +kernel
theorem dX11_judge_86 : decode cX11_judge 86 = .ok (.iconst (-1), 1) := by decide +kernel
theorem dX11_judge_87 : decode cX11_judge 87 = .ok (.goto 4, 3) := by decide +kernel
theorem dX11_judge_90 : decode cX11_judge 90 = .ok (.iload_n 3, 1) := by decide +kernel
theorem dX11_judge_91 : decode cX11_judge 91 = .ok (.istore 5, 2) := by decide +kernel
theorem dX11_judge_93 : decode cX11_judge 93 = .ok (.goto 64, 3) := by decide +kernel
theorem dX11_judge_96 : decode cX11_judge 96 = .ok (.iload_n 2, 1) := by decide +kernel
theorem dX11_judge_97 : decode cX11_judge 97 = .ok (.iconst 1, 1) := by decide +kernel
theorem dX11_judge_98 : decode cX11_judge 98 = .ok (.if_icmp .ne 35, 3) := by decide +kernel
theorem dX11_judge_101 : decode cX11_judge 101 = .ok (.iload 4, 2) := by decide +kernel
theorem dX11_judge_103 : decode cX11_judge 103 = .ok (.ifCond .eq 7, 3) := by decide +kernel
theorem dX11_judge_106 : decode cX11_judge 106 = .ok (.iconst 0, 1) := by decide +kernel
theorem dX11_judge_107 : decode cX11_judge 107 = .ok (.goto 21, 3) := by decide +kernel
theorem dX11_judge_110 : decode cX11_judge 110 = .ok (.aload_n 0, 1) := by decide +kernel
theorem dX11_judge_111 : decode cX11_judge 111 = .ok (.getfield 45, 3) := by decide +kernel
theorem dX11_judge_114 : decode cX11_judge 114 = .ok (.aload_n 0, 1) := by decide +kernel
theorem dX11_judge_115 : decode cX11_judge 115 = .ok (.getfield 83, 3) := by decide +kernel
theorem dX11_judge_118 : decode cX11_judge 118 = .ok (.iload_n 1, 1) := by decide +kernel
theorem dX11_judge_119 : decode cX11_judge 119 = .ok (.aaload, 1) := by decide +kernel
theorem dX11_judge_120 : decode cX11_judge 120 = .ok (.getfield 237, 3) := by decide +kernel
theorem dX11_judge_123 : decode cX11_judge 123 = .ok (.iload_n 3, 1) := by decide +kernel
theorem dX11_judge_124 : decode cX11_judge 124 = .ok (.laload, 1) := by decide +kernel
theorem dX11_judge_125 : decode cX11_judge 125 = .ok (.invokevirtual 241, 3) := by decide +kernel
theorem dX11_judge_128 : decode cX11_judge 128 = .ok (.istore 5, 2) := by decide +kernel
theorem dX11_judge_130 : decode cX11_judge 130 = .ok (.goto 27, 3) := by decide +kernel
theorem dX11_judge_133 : decode cX11_judge 133 = .ok (.iload_n 2, 1) := by decide +kernel
theorem dX11_judge_134 : decode cX11_judge 134 = .ok (.iconst 2, 1) := by decide +kernel
theorem dX11_judge_135 : decode cX11_judge 135 = .ok (.if_icmp .ne 13, 3) := by decide +kernel
theorem dX11_judge_138 : decode cX11_judge 138 = .ok (.aload_n 0, 1) := by decide +kernel
theorem dX11_judge_139 : decode cX11_judge 139 = .ok (.getfield 19, 3) := by decide +kernel
theorem dX11_judge_142 : decode cX11_judge 142 = .ok (.invokevirtual 245, 3) := by decide +kernel
theorem dX11_judge_145 : decode cX11_judge 145 = .ok (.goto 10, 3) := by decide +kernel
theorem dX11_judge_148 : decode cX11_judge 148 = .ok (.aload_n 0, 1) := by decide +kernel
theorem dX11_judge_149 : decode cX11_judge 149 = .ok (.getfield 19, 3) := by decide +kernel
theorem dX11_judge_152 : decode cX11_judge 152 = .ok (.invokevirtual 249, 3) := by decide +kernel
theorem dX11_judge_155 : decode cX11_judge 155 = .ok (.istore 5, 2) := by decide +kernel
theorem dX11_judge_157 : decode cX11_judge 157 = .ok (.aload_n 0, 1) := by decide +kernel
theorem dX11_judge_158 : decode cX11_judge 158 = .ok (.getfield 19, 3) := by decide +kernel
theorem dX11_judge_161 : decode cX11_judge 161 = .ok (.aload_n 0, 1) := by decide +kernel
theorem dX11_judge_162 : decode cX11_judge 162 = .ok (.getfield 23, 3) := by decide +kernel
theorem dX11_judge_165 : decode cX11_judge 165 = .ok (.invokevirtual 206, 3) := by decide +kernel
theorem dX11_judge_168 : decode cX11_judge 168 = .ok (.iload 5, 2) := by decide +kernel
theorem dX11_judge_170 : decode cX11_judge 170 = .ok (.ireturn, 1) := by decide +kernel
theorem dX11_perform_0 : decode cX11_perform 0 = .ok (.aload_n 0, 1) := by decide +kernel
theorem dX11_perform_1 : decode cX11_perform 1 = .ok (.iload_n 1, 1) := by decide +kernel
theorem dX11_perform_2 : decode cX11_perform 2 = .ok (.invokevirtual 225, 3) := by decide +kernel
theorem dX11_perform_5 : decode cX11_perform 5 = .ok (.ifCond .ne 6, 3) := by decide +kernel
theorem dX11_perform_8 : decode cX11_perform 8 = .ok (.bipush (-2), 2) := by decide +kernel
theorem dX11_perform_10 : decode cX11_perform 10 = .ok (.ireturn, 1) := by decide +kernel
theorem dX11_perform_11 : decode cX11_perform 11 = .ok (.aload_n 0, 1) := by decide +kernel
theorem dX11_perform_12 : decode cX11_perform 12 = .ok (.getfield 83, 3) := by decide +kernel
theorem dX11_perform_15 : decode cX11_perform 15 = .ok (.iload_n 1, 1) := by decide +kernel
theorem dX11_perform_16 : decode cX11_perform 16 = .ok (.aaload, 1) := by decide +kernel
theorem dX11_perform_17 : decode cX11_perform 17 = .ok (.invokevirtual 228, 3) := by decide +kernel
theorem dX11_perform_20 : decode cX11_perform 20 = .ok (.ifCond .eq 6, 3) := by decide +kernel
theorem dX11_perform_23 : decode cX11_perform 23 = .ok (.bipush (-6), 2) := by decide +kernel
theorem dX11_perform_25 : decode cX11_perform 25 = .ok (.ireturn, 1) := by decide +kernel
theorem dX11_perform_26 : decode cX11_perform 26 = .ok (.aload_n 0, 1) := by decide +kernel
theorem dX11_perform_27 : decode cX11_perform 27 = .ok (.getfield 23, 3) := by decide +kernel
theorem dX11_perform_30 : decode cX11_perform 30 = .ok (.aload_n 0, 1) := by decide +kernel
theorem dX11_perform_31 : decode cX11_perform 31 = .ok (.getfield 19, 3) := by decide +kernel
theorem dX11_perform_34 : decode cX11_perform 34 = .ok (.invokevirtual 206, 3) := by decide +kernel
theorem dX11_perform_37 : decode cX11_perform 37 = .ok (.aload_n 0, 1) := by decide +kernel
theorem dX11_perform_38 : decode cX11_perform 38 = .ok (.aload_n 0, 1) := by decide +kernel
theorem dX11_perform_39 : decode cX11_perform 39 = .ok (.getfield 83, 3) := by decide +kernel
theorem dX11_perform_42 : decode cX11_perform 42 = .ok (.iload_n 1, 1) := by decide +kernel
theorem dX11_perform_43 : decode cX11_perform 43 = .ok (.aaload, 1) := by decide +kernel
theorem dX11_perform_44 : decode cX11_perform 44 = .ok (.invokevirtual 232, 3) := by decide +kernel
theorem dX11_perform_47 : decode cX11_perform 47 = .ok (.istore_n 2, 1) := by decide +kernel
theorem dX11_perform_48 : decode cX11_perform 48 = .ok (.iload_n 2, 1) := by decide +kernel
theorem dX11_perform_49 : decode cX11_perform 49 = .ok (.ifCond .le 14, 3) := by decide +kernel
theorem dX11_perform_52 : decode cX11_perform 52 = .ok (.aload_n 0, 1) := by decide +kernel
theorem dX11_perform_53 : decode cX11_perform 53 = .ok (.getfield 29, 3) := by decide +kernel
theorem dX11_perform_56 : decode cX11_perform 56 = .ok (.aload_n 0, 1) := by decide +kernel
theorem dX11_perform_57 : decode cX11_perform 57 = .ok (.getfield 23, 3) := by decide +kernel
theorem dX11_perform_60 : decode cX11_perform 60 = .ok (.invokevirtual 198, 3) := by decide +kernel
theorem dX11_perform_63 : decode cX11_perform 63 = .ok (.iload_n 2, 1) := by decide +kernel
theorem dX11_perform_64 : decode cX11_perform 64 = .ok (.ireturn, 1) := by decide +kernel
theorem dX11_year_0 : decode cX11_year 0 = .ok (.iload_n 2, 1) := by decide +kernel
theorem dX11_year_1 : decode cX11_year 1 = .ok (.iconst 1, 1) := by decide +kernel
theorem dX11_year_2 : decode cX11_year 2 = .ok (.if_icmp .lt 9, 3) := by decide +kernel
theorem dX11_year_5 : decode cX11_year 5 = .ok (.iload_n 2, 1) := by decide +kernel
theorem dX11_year_6 : decode cX11_year 6 = .ok (.bipush 40, 2) := by decide +kernel
theorem dX11_year_8 : decode cX11_year 8 = .ok (.if_icmp .le 6, 3) := by decide +kernel
theorem dX11_year_11 : decode cX11_year 11 = .ok (.bipush (-3), 2) := by decide +kernel
theorem dX11_year_13 : decode cX11_year 13 = .ok (.ireturn, 1) := by decide +kernel
theorem dX11_year_14 : decode cX11_year 14 = .ok (.aload_n 0, 1) := by decide +kernel
theorem dX11_year_15 : decode cX11_year 15 = .ok (.getfield 23, 3) := by decide +kernel
theorem dX11_year_18 : decode cX11_year 18 = .ok (.aload_n 0, 1) := by decide +kernel
theorem dX11_year_19 : decode cX11_year 19 = .ok (.getfield 19, 3) := by decide +kernel
theorem dX11_year_22 : decode cX11_year 22 = .ok (.invokevirtual 206, 3) := by decide +kernel
theorem dX11_year_25 : decode cX11_year 25 = .ok (.aload_n 0, 1) := by decide +kernel
theorem dX11_year_26 : decode cX11_year 26 = .ok (.iload_n 1, 1) := by decide +kernel
theorem dX11_year_27 : decode cX11_year 27 = .ok (.putfield 252, 3) := by decide +kernel
theorem dX11_year_30 : decode cX11_year 30 = .ok (.iconst 0, 1) := by decide +kernel
theorem dX11_year_31 : decode cX11_year 31 = .ok (.istore_n 3, 1) := by decide +kernel
theorem dX11_year_32 : decode cX11_year 32 = .ok (.iconst 0, 1) := by decide +kernel
theorem dX11_year_33 : decode cX11_year 33 = .ok (.istore 4, 2) := by decide +kernel
theorem dX11_year_35 : decode cX11_year 35 = .ok (.iload 4, 2) := by decide +kernel
theorem dX11_year_37 : decode cX11_year 37 = .ok (.iload_n 2, 1) := by decide +kernel
theorem dX11_year_38 : decode cX11_year 38 = .ok (.if_icmp .ge 27, 3) := by decide +kernel
theorem dX11_year_41 : decode cX11_year 41 = .ok (.aload_n 0, 1) := by decide +kernel
theorem dX11_year_42 : decode cX11_year 42 = .ok (.getfield 45, 3) := by decide +kernel
theorem dX11_year_45 : decode cX11_year 45 = .ok (.aload_n 0, 1) := by decide +kernel
theorem dX11_year_46 : decode cX11_year 46 = .ok (.invokevirtual 255, 3) := by decide +kernel
theorem dX11_year_49 : decode cX11_year 49 = .ok (.i2l, 1) := by decide +kernel
theorem dX11_year_50 : decode cX11_year 50 = .ok (.invokevirtual 241, 3) := by decide +kernel
theorem dX11_year_53 : decode cX11_year 53 = .ok (.ifCond .ne 6, 3) := by decide +kernel
theorem dX11_year_56 : decode cX11_year 56 = .ok (.iinc 3 1, 3) := by decide +kernel
theorem dX11_year_59 : decode cX11_year 59 = .ok (.iinc 4 1, 3) := by decide +kernel
theorem dX11_year_62 : decode cX11_year 62 = .ok (.goto (-27), 3) := by decide +kernel
theorem dX11_year_65 : decode cX11_year 65 = .ok (.iload_n 3, 1) := by decide +kernel
theorem dX11_year_66 : decode cX11_year 66 = .ok (.ifCond .le 14, 3) := by decide +kernel
theorem dX11_year_69 : decode cX11_year 69 = .ok (.aload_n 0, 1) := by decide +kernel
theorem dX11_year_70 : decode cX11_year 70 = .ok (.getfield 29, 3) := by decide +kernel
theorem dX11_year_73 : decode cX11_year 73 = .ok (.aload_n 0, 1) := by decide +kernel
theorem dX11_year_74 : decode cX11_year 74 = .ok (.getfield 23, 3) := by decide +kernel
theorem dX11_year_77 : decode cX11_year 77 = .ok (.invokevirtual 198, 3) := by decide +kernel
theorem dX11_year_80 : decode cX11_year 80 = .ok (.iload_n 3, 1) := by decide +kernel
theorem dX11_year_81 : decode cX11_year 81 = .ok (.ireturn, 1) := by decide +kernel
theorem dX11_doAll_0 : decode cX11_doAll 0 = .ok (.iconst 0, 1) := by decide +kernel
theorem dX11_doAll_1 : decode cX11_doAll 1 = .ok (.istore_n 2, 1) := by decide +kernel
theorem dX11_doAll_2 : decode cX11_doAll 2 = .ok (.iload_n 2, 1) := by decide +kernel
theorem dX11_doAll_3 : decode cX11_doAll 3 = .ok (.aload_n 1, 1) := by decide +kernel
theorem dX11_doAll_4 : decode cX11_doAll 4 = .ok (.getfield 236, 3) := by decide +kernel
theorem dX11_doAll_7 : decode cX11_doAll 7 = .ok (.if_icmp .ge 27, 3) := by decide +kernel
theorem dX11_doAll_10 : decode cX11_doAll 10 = .ok (.aload_n 0, 1) := by decide +kernel
theorem dX11_doAll_11 : decode cX11_doAll 11 = .ok (.getfield 45, 3) := by decide +kernel
theorem dX11_doAll_14 : decode cX11_doAll 14 = .ok (.aload_n 1, 1) := by decide +kernel
theorem dX11_doAll_15 : decode cX11_doAll 15 = .ok (.getfield 237, 3) := by decide +kernel
theorem dX11_doAll_18 : decode cX11_doAll 18 = .ok (.iload_n 2, 1) := by decide +kernel
theorem dX11_doAll_19 : decode cX11_doAll 19 = .ok (.laload, 1) := by decide +kernel
theorem dX11_doAll_20 : decode cX11_doAll 20 = .ok (.invokevirtual 241, 3) := by decide +kernel
theorem dX11_doAll_23 : decode cX11_doAll 23 = .ok (.ifCond .eq 5, 3) := by decide +kernel
theorem dX11_doAll_26 : decode cX11_doAll 26 = .ok (.iload_n 2, 1) := by decide +kernel
theorem dX11_doAll_27 : decode cX11_doAll 27 = .ok (.ireturn, 1) := by decide +kernel
theorem dX11_doAll_28 : decode cX11_doAll 28 = .ok (.iinc 2 1, 3) := by decide +kernel
theorem dX11_doAll_31 : decode cX11_doAll 31 = .ok (.goto (-29), 3) := by decide +kernel
theorem dX11_doAll_34 : decode cX11_doAll 34 = .ok (.aload_n 1, 1) := by decide +kernel
theorem dX11_doAll_35 : decode cX11_doAll 35 = .ok (.getfield 236, 3) := by decide +kernel
theorem dX11_doAll_38 : decode cX11_doAll 38 = .ok (.ireturn, 1) := by decide +kernel
theorem dX11_drawDeed_0 : decode cX11_drawDeed 0 = .ok (.aload_n 0, 1) := by decide +kernel
theorem dX11_drawDeed_1 : decode cX11_drawDeed 1 = .ok (.invokevirtual 258, 3) := by decide +kernel
theorem dX11_drawDeed_4 : decode cX11_drawDeed 4 = .ok (.bipush 6, 2) := by decide +kernel
theorem dX11_drawDeed_6 : decode cX11_drawDeed 6 = .ok (.irem, 1) := by decide +kernel
theorem dX11_drawDeed_7 : decode cX11_drawDeed 7 = .ok (.istore_n 1, 1) := by decide +kernel
theorem dX11_drawDeed_8 : decode cX11_drawDeed 8 = .ok (.iload_n 1, 1) := by decide +kernel
theorem dX11_drawDeed_9 : decode cX11_drawDeed 9 = .ok (.ifCond .ne 14, 3) := by decide +kernel
theorem dX11_drawDeed_12 : decode cX11_drawDeed 12 = .ok (.bipush 10, 2) := by decide +kernel
theorem dX11_drawDeed_14 : decode cX11_drawDeed 14 = .ok (.aload_n 0, 1) := by decide +kernel
theorem dX11_drawDeed_15 : decode cX11_drawDeed 15 = .ok (.invokevirtual 258, 3) := by decide +kernel
theorem dX11_drawDeed_18 : decode cX11_drawDeed 18 = .ok (.bipush 10, 2) := by decide +kernel
theorem dX11_drawDeed_20 : decode cX11_drawDeed 20 = .ok (.irem, 1) := by decide +kernel
theorem dX11_drawDeed_21 : decode cX11_drawDeed 21 = .ok (.iadd, 1) := by decide +kernel
theorem dX11_drawDeed_22 : decode cX11_drawDeed 22 = .ok (.ireturn, 1) := by decide +kernel
theorem dX11_drawDeed_23 : decode cX11_drawDeed 23 = .ok (.iload_n 1, 1) := by decide +kernel
theorem dX11_drawDeed_24 : decode cX11_drawDeed 24 = .ok (.iconst 1, 1) := by decide +kernel
theorem dX11_drawDeed_25 : decode cX11_drawDeed 25 = .ok (.if_icmp .ne 27, 3) := by decide +kernel
theorem dX11_drawDeed_28 : decode cX11_drawDeed 28 = .ok (.aload_n 0, 1) := by decide +kernel
theorem dX11_drawDeed_29 : decode cX11_drawDeed 29 = .ok (.invokevirtual 258, 3) := by decide +kernel
theorem dX11_drawDeed_32 : decode cX11_drawDeed 32 = .ok (.bipush 8, 2) := by decide +kernel
theorem dX11_drawDeed_34 : decode cX11_drawDeed 34 = .ok (.irem, 1) := by decide +kernel
theorem dX11_drawDeed_35 : decode cX11_drawDeed 35 = .ok (.istore_n 2, 1) := by decide +kernel
theorem dX11_drawDeed_36 : decode cX11_drawDeed 36 = .ok (.bipush 100, 2) := by decide +kernel
theorem dX11_drawDeed_38 : decode cX11_drawDeed 38 = .ok (.bipush 10, 2) := by decide +kernel
theorem dX11_drawDeed_40 : decode cX11_drawDeed 40 = .ok (.iload_n 2, 1) := by decide +kernel
theorem dX11_drawDeed_41 : decode cX11_drawDeed 41 = .ok (.imul, 1) := by decide +kernel
theorem dX11_drawDeed_42 : decode cX11_drawDeed 42 = .ok (.iadd, 1) := by decide +kernel
theorem dX11_drawDeed_43 : decode cX11_drawDeed 43 = .ok (.aload_n 0, 1) := by decide +kernel
theorem dX11_drawDeed_44 : decode cX11_drawDeed 44 = .ok (.invokevirtual 258, 3) := by decide +kernel
theorem dX11_drawDeed_47 : decode cX11_drawDeed 47 = .ok (.bipush 8, 2) := by decide +kernel
theorem dX11_drawDeed_49 : decode cX11_drawDeed 49 = .ok (.irem, 1) := by decide +kernel
theorem dX11_drawDeed_50 : decode cX11_drawDeed 50 = .ok (.iadd, 1) := by decide +kernel
theorem dX11_drawDeed_51 : decode cX11_drawDeed 51 = .ok (.ireturn, 1) := by decide +kernel
theorem dX11_drawDeed_52 : decode cX11_drawDeed 52 = .ok (.aload_n 0, 1) := by decide +kernel
theorem dX11_drawDeed_53 : decode cX11_drawDeed 53 = .ok (.invokevirtual 258, 3) := by decide +kernel
theorem dX11_drawDeed_56 : decode cX11_drawDeed 56 = .ok (.bipush 8, 2) := by decide +kernel
theorem dX11_drawDeed_58 : decode cX11_drawDeed 58 = .ok (.irem, 1) := by decide +kernel
theorem dX11_drawDeed_59 : decode cX11_drawDeed 59 = .ok (.istore_n 2, 1) := by decide +kernel
theorem dX11_drawDeed_60 : decode cX11_drawDeed 60 = .ok (.aload_n 0, 1) := by decide +kernel
theorem dX11_drawDeed_61 : decode cX11_drawDeed 61 = .ok (.invokevirtual 258, 3) := by decide +kernel
theorem dX11_drawDeed_64 : decode cX11_drawDeed 64 = .ok (.bipush 8, 2) := by decide +kernel
theorem dX11_drawDeed_66 : decode cX11_drawDeed 66 = .ok (.irem, 1) := by decide +kernel
theorem dX11_drawDeed_67 : decode cX11_drawDeed 67 = .ok (.istore_n 3, 1) := by decide +kernel
theorem dX11_drawDeed_68 : decode cX11_drawDeed 68 = .ok (.aload_n 0, 1) := by decide +kernel
theorem dX11_drawDeed_69 : decode cX11_drawDeed 69 = .ok (.invokevirtual 258, 3) := by decide +kernel
theorem dX11_drawDeed_72 : decode cX11_drawDeed 72 = .ok (.iconst 4, 1) := by decide +kernel
theorem dX11_drawDeed_73 : decode cX11_drawDeed 73 = .ok (.irem, 1) := by decide +kernel
theorem dX11_drawDeed_74 : decode cX11_drawDeed 74 = .ok (.istore 4, 2) := by decide +kernel
theorem dX11_drawDeed_76 : decode cX11_drawDeed 76 = .ok (.iload_n 2, 1) := by decide +kernel
theorem dX11_drawDeed_77 : decode cX11_drawDeed 77 = .ok (.iload_n 3, 1) := by decide +kernel
theorem dX11_drawDeed_78 : decode cX11_drawDeed 78 = .ok (.iload 4, 2) := by decide +kernel
theorem dX11_drawDeed_80 : decode cX11_drawDeed 80 = .ok (.aload_n 0, 1) := by decide +kernel
theorem dX11_drawDeed_81 : decode cX11_drawDeed 81 = .ok (.invokevirtual 258, 3) := by decide +kernel
theorem dX11_drawDeed_84 : decode cX11_drawDeed 84 = .ok (.bipush 6, 2) := by decide +kernel
theorem dX11_drawDeed_86 : decode cX11_drawDeed 86 = .ok (.irem, 1) := by decide +kernel
theorem dX11_drawDeed_87 : decode cX11_drawDeed 87 = .ok (.invokestatic 261, 3) := by decide +kernel
theorem dX11_drawDeed_90 : decode cX11_drawDeed 90 = .ok (.ireturn, 1) := by decide +kernel
theorem dX11_draw_0 : decode cX11_draw 0 = .ok (.aload_n 0, 1) := by decide +kernel
theorem dX11_draw_1 : decode cX11_draw 1 = .ok (.ldc_w 265, 3) := by decide +kernel
theorem dX11_draw_4 : decode cX11_draw 4 = .ok (.aload_n 0, 1) := by decide +kernel
theorem dX11_draw_5 : decode cX11_draw 5 = .ok (.getfield 252, 3) := by decide +kernel
theorem dX11_draw_8 : decode cX11_draw 8 = .ok (.imul, 1) := by decide +kernel
theorem dX11_draw_9 : decode cX11_draw 9 = .ok (.sipush 12345, 3) := by decide +kernel
theorem dX11_draw_12 : decode cX11_draw 12 = .ok (.iadd, 1) := by decide +kernel
theorem dX11_draw_13 : decode cX11_draw 13 = .ok (.putfield 252, 3) := by decide +kernel
theorem dX11_draw_16 : decode cX11_draw 16 = .ok (.aload_n 0, 1) := by decide +kernel
theorem dX11_draw_17 : decode cX11_draw 17 = .ok (.getfield 252, 3) := by decide +kernel
theorem dX11_draw_20 : decode cX11_draw 20 = .ok (.bipush 16, 2) := by decide +kernel
theorem dX11_draw_22 : decode cX11_draw 22 = .ok (.iushr, 1) := by decide +kernel
theorem dX11_draw_23 : decode cX11_draw 23 = .ok (.ireturn, 1) := by decide +kernel
theorem dX11_soonest_0 : decode cX11_soonest 0 = .ok (.aload_n 0, 1) := by decide +kernel
theorem dX11_soonest_1 : decode cX11_soonest 1 = .ok (.iload_n 1, 1) := by decide +kernel
theorem dX11_soonest_2 : decode cX11_soonest 2 = .ok (.iload_n 2, 1) := by decide +kernel
theorem dX11_soonest_3 : decode cX11_soonest 3 = .ok (.invokevirtual 188, 3) := by decide +kernel
theorem dX11_soonest_6 : decode cX11_soonest 6 = .ok (.ifCond .ne 6, 3) := by decide +kernel
theorem dX11_soonest_9 : decode cX11_soonest 9 = .ok (.bipush (-2), 2) := by decide +kernel
theorem dX11_soonest_11 : decode cX11_soonest 11 = .ok (.ireturn, 1) := by decide +kernel
theorem dX11_soonest_12 : decode cX11_soonest 12 = .ok (.aload_n 0, 1) := by decide +kernel
theorem dX11_soonest_13 : decode cX11_soonest 13 = .ok (.getfield 54, 3) := by decide +kernel
theorem dX11_soonest_16 : decode cX11_soonest 16 = .ok (.iload_n 1, 1) := by decide +kernel
theorem dX11_soonest_17 : decode cX11_soonest 17 = .ok (.iconst 0, 1) := by decide +kernel
theorem dX11_soonest_18 : decode cX11_soonest 18 = .ok (.invokevirtual 266, 3) := by decide +kernel
theorem dX11_soonest_21 : decode cX11_soonest 21 = .ok (.aload_n 0, 1) := by decide +kernel
theorem dX11_soonest_22 : decode cX11_soonest 22 = .ok (.getfield 54, 3) := by decide +kernel
theorem dX11_soonest_25 : decode cX11_soonest 25 = .ok (.iload_n 2, 1) := by decide +kernel
theorem dX11_soonest_26 : decode cX11_soonest 26 = .ok (.invokevirtual 270, 3) := by decide +kernel
theorem dX11_soonest_29 : decode cX11_soonest 29 = .ok (.aload_n 0, 1) := by decide +kernel
theorem dX11_soonest_30 : decode cX11_soonest 30 = .ok (.getfield 54, 3) := by decide +kernel
theorem dX11_soonest_33 : decode cX11_soonest 33 = .ok (.getfield 273, 3) := by decide +kernel
theorem dX11_soonest_36 : decode cX11_soonest 36 = .ok (.aload_n 0, 1) := by decide +kernel
theorem dX11_soonest_37 : decode cX11_soonest 37 = .ok (.getfield 19, 3) := by decide +kernel
theorem dX11_soonest_40 : decode cX11_soonest 40 = .ok (.getfield 150, 3) := by decide +kernel
theorem dX11_soonest_43 : decode cX11_soonest 43 = .ok (.iload_n 1, 1) := by decide +kernel
theorem dX11_soonest_44 : decode cX11_soonest 44 = .ok (.iaload, 1) := by decide +kernel
theorem dX11_soonest_45 : decode cX11_soonest 45 = .ok (.iaload, 1) := by decide +kernel
theorem dX11_soonest_46 : decode cX11_soonest 46 = .ok (.ireturn, 1) := by decide +kernel
theorem dX11_way_0 : decode cX11_way 0 = .ok (.aload_n 0, 1) := by decide +kernel
theorem dX11_way_1 : decode cX11_way 1 = .ok (.iload_n 1, 1) := by decide +kernel
theorem dX11_way_2 : decode cX11_way 2 = .ok (.iload_n 2, 1) := by decide +kernel
theorem dX11_way_3 : decode cX11_way 3 = .ok (.invokevirtual 188, 3) := by decide +kernel
theorem dX11_way_6 : decode cX11_way 6 = .ok (.ifCond .ne 6, 3) := by decide +kernel
theorem dX11_way_9 : decode cX11_way 9 = .ok (.bipush (-2), 2) := by decide +kernel
theorem dX11_way_11 : decode cX11_way 11 = .ok (.ireturn, 1) := by decide +kernel
theorem dX11_way_12 : decode cX11_way 12 = .ok (.iload_n 3, 1) := by decide +kernel
theorem dX11_way_13 : decode cX11_way 13 = .ok (.ifCond .ge 6, 3) := by decide +kernel
theorem dX11_way_16 : decode cX11_way 16 = .ok (.bipush (-3), 2) := by decide +kernel
theorem dX11_way_18 : decode cX11_way 18 = .ok (.ireturn, 1) := by decide +kernel
theorem dX11_way_19 : decode cX11_way 19 = .ok (.aload_n 0, 1) := by decide +kernel
theorem dX11_way_20 : decode cX11_way 20 = .ok (.getfield 54, 3) := by decide +kernel
theorem dX11_way_23 : decode cX11_way 23 = .ok (.iload_n 1, 1) := by decide +kernel
theorem dX11_way_24 : decode cX11_way 24 = .ok (.iconst 0, 1) := by decide +kernel
theorem dX11_way_25 : decode cX11_way 25 = .ok (.invokevirtual 266, 3) := by decide +kernel
theorem dX11_way_28 : decode cX11_way 28 = .ok (.aload_n 0, 1) := by decide +kernel
theorem dX11_way_29 : decode cX11_way 29 = .ok (.getfield 54, 3) := by decide +kernel
theorem dX11_way_32 : decode cX11_way 32 = .ok (.iload_n 2, 1) := by decide +kernel
theorem dX11_way_33 : decode cX11_way 33 = .ok (.invokevirtual 270, 3) := by decide +kernel
theorem dX11_way_36 : decode cX11_way 36 = .ok (.aload_n 0, 1) := by decide +kernel
theorem dX11_way_37 : decode cX11_way 37 = .ok (.getfield 19, 3) := by decide +kernel
theorem dX11_way_40 : decode cX11_way 40 = .ok (.getfield 150, 3) := by decide +kernel
theorem dX11_way_43 : decode cX11_way 43 = .ok (.iload_n 1, 1) := by decide +kernel
theorem dX11_way_44 : decode cX11_way 44 = .ok (.iaload, 1) := by decide +kernel
theorem dX11_way_45 : decode cX11_way 45 = .ok (.istore 4, 2) := by decide +kernel
theorem dX11_way_47 : decode cX11_way 47 = .ok (.iload_n 3, 1) := by decide +kernel
theorem dX11_way_48 : decode cX11_way 48 = .ok (.aload_n 0, 1) := by decide +kernel
theorem dX11_way_49 : decode cX11_way 49 = .ok (.getfield 54, 3) := by decide +kernel
theorem dX11_way_52 : decode cX11_way 52 = .ok (.getfield 273, 3) := by decide +kernel
theorem dX11_way_55 : decode cX11_way 55 = .ok (.iload 4, 2) := by decide +kernel
theorem dX11_way_57 : decode cX11_way 57 = .ok (.iaload, 1) := by decide +kernel
theorem dX11_way_58 : decode cX11_way 58 = .ok (.if_icmp .lt 5, 3) := by decide +kernel
theorem dX11_way_61 : decode cX11_way 61 = .ok (.iconst (-1), 1) := by decide +kernel
theorem dX11_way_62 : decode cX11_way 62 = .ok (.ireturn, 1) := by decide +kernel
theorem dX11_way_63 : decode cX11_way 63 = .ok (.aload_n 0, 1) := by decide +kernel
theorem dX11_way_64 : decode cX11_way 64 = .ok (.getfield 54, 3) := by decide +kernel
theorem dX11_way_67 : decode cX11_way 67 = .ok (.iload_n 1, 1) := by decide +kernel
theorem dX11_way_68 : decode cX11_way 68 = .ok (.iload 4, 2) := by decide +kernel
theorem dX11_way_70 : decode cX11_way 70 = .ok (.invokevirtual 276, 3) := by decide +kernel
theorem dX11_way_73 : decode cX11_way 73 = .ok (.istore 5, 2) := by decide +kernel
theorem dX11_way_75 : decode cX11_way 75 = .ok (.iconst 0, 1) := by decide +kernel
theorem dX11_way_76 : decode cX11_way 76 = .ok (.istore 6, 2) := by decide +kernel
theorem dX11_way_78 : decode cX11_way 78 = .ok (.iload 6, 2) := by decide +kernel
theorem dX11_way_80 : decode cX11_way 80 = .ok (.iload_n 3, 1) := by decide +kernel
theorem dX11_way_81 : decode cX11_way 81 = .ok (.if_icmp .ge 31, 3) := by decide +kernel
theorem dX11_way_84 : decode cX11_way 84 = .ok (.iload 6, 2) := by decide +kernel
theorem dX11_way_86 : decode cX11_way 86 = .ok (.bipush 6, 2) := by decide +kernel
theorem dX11_way_88 : decode cX11_way 88 = .ok (.if_icmp .ge 24, 3) := by decide +kernel
theorem dX11_way_91 : decode cX11_way 91 = .ok (.aload_n 0, 1) := by decide +kernel
theorem dX11_way_92 : decode cX11_way 92 = .ok (.getfield 54, 3) := by decide +kernel
theorem dX11_way_95 : decode cX11_way 95 = .ok (.iload_n 1, 1) := by decide +kernel
theorem dX11_way_96 : decode cX11_way 96 = .ok (.iload 5, 2) := by decide +kernel
theorem dX11_way_98 : decode cX11_way 98 = .ok (.bipush 10, 2) := by decide +kernel
theorem dX11_way_100 : decode cX11_way 100 = .ok (.irem, 1) := by decide +kernel
theorem dX11_way_101 : decode cX11_way 101 = .ok (.invokevirtual 276, 3) := by decide +kernel
theorem dX11_way_104 : decode cX11_way 104 = .ok (.istore 5, 2) := by decide +kernel
theorem dX11_way_106 : decode cX11_way 106 = .ok (.iinc 6 1, 3) := by decide +kernel
theorem dX11_way_109 : decode cX11_way 109 = .ok (.goto (-31), 3) := by decide +kernel
theorem dX11_way_112 : decode cX11_way 112 = .ok (.iload 5, 2) := by decide +kernel
theorem dX11_way_114 : decode cX11_way 114 = .ok (.ireturn, 1) := by decide +kernel
theorem dX11_rows_0 : decode cX11_rows 0 = .ok (.aload_n 0, 1) := by decide +kernel
theorem dX11_rows_1 : decode cX11_rows 1 = .ok (.iload_n 1, 1) := by decide +kernel
theorem dX11_rows_2 : decode cX11_rows 2 = .ok (.iload_n 2, 1) := by decide +kernel
theorem dX11_rows_3 : decode cX11_rows 3 = .ok (.invokevirtual 188, 3) := by decide +kernel
theorem dX11_rows_6 : decode cX11_rows 6 = .ok (.ifCond .ne 7, 3) := by decide +kernel
theorem dX11_rows_9 : decode cX11_rows 9 = .ok (.ldc2_w 279, 3) := by decide +kernel
theorem dX11_rows_12 : decode cX11_rows 12 = .ok (.lreturn, 1) := by decide +kernel
theorem dX11_rows_13 : decode cX11_rows 13 = .ok (.iload_n 3, 1) := by decide +kernel
theorem dX11_rows_14 : decode cX11_rows 14 = .ok (.ifCond .lt 9, 3) := by decide +kernel
theorem dX11_rows_17 : decode cX11_rows 17 = .ok (.iload_n 3, 1) := by decide +kernel
theorem dX11_rows_18 : decode cX11_rows 18 = .ok (.bipush 8, 2) := by decide +kernel
theorem dX11_rows_20 : decode cX11_rows 20 = .ok (.if_icmp .le 7, 3) := by decide +kernel
theorem dX11_rows_23 : decode cX11_rows 23 = .ok (.ldc2_w 281, 3) := by decide +kernel
theorem dX11_rows_26 : decode cX11_rows 26 = .ok (.lreturn, 1) := by decide +kernel
theorem dX11_rows_27 : decode cX11_rows 27 = .ok (.aload_n 0, 1) := by decide +kernel
theorem dX11_rows_28 : decode cX11_rows 28 = .ok (.getfield 54, 3) := by decide +kernel
theorem dX11_rows_31 : decode cX11_rows 31 = .ok (.iload_n 1, 1) := by decide +kernel
theorem dX11_rows_32 : decode cX11_rows 32 = .ok (.iconst 0, 1) := by decide +kernel
theorem dX11_rows_33 : decode cX11_rows 33 = .ok (.invokevirtual 266, 3) := by decide +kernel
theorem dX11_rows_36 : decode cX11_rows 36 = .ok (.aload_n 0, 1) := by decide +kernel
theorem dX11_rows_37 : decode cX11_rows 37 = .ok (.getfield 54, 3) := by decide +kernel
theorem dX11_rows_40 : decode cX11_rows 40 = .ok (.aload_n 0, 1) := by decide +kernel
theorem dX11_rows_41 : decode cX11_rows 41 = .ok (.getfield 19, 3) := by decide +kernel
theorem dX11_rows_44 : decode cX11_rows 44 = .ok (.getfield 150, 3) := by decide +kernel
theorem dX11_rows_47 : decode cX11_rows 47 = .ok (.iload_n 1, 1) := by decide +kernel
theorem dX11_rows_48 : decode cX11_rows 48 = .ok (.iaload, 1) := by decide +kernel
theorem dX11_rows_49 : decode cX11_rows 49 = .ok (.iload_n 2, 1) := by decide +kernel
theorem dX11_rows_50 : decode cX11_rows 50 = .ok (.iload_n 3, 1) := by decide +kernel
theorem dX11_rows_51 : decode cX11_rows 51 = .ok (.invokevirtual 283, 3) := by decide +kernel
theorem dX11_rows_54 : decode cX11_rows 54 = .ok (.lreturn, 1) := by decide +kernel
theorem dX11_reach_0 : decode cX11_reach 0 = .ok (.aload_n 0, 1) := by decide +kernel
theorem dX11_reach_1 : decode cX11_reach 1 = .ok (.getfield 10, 3) := by decide +kernel
theorem dX11_reach_4 : decode cX11_reach 4 = .ok (.iload_n 1, 1) := by decide +kernel
theorem dX11_reach_5 : decode cX11_reach 5 = .ok (.invokevirtual 147, 3) := by decide +kernel
theorem dX11_reach_8 : decode cX11_reach 8 = .ok (.ifCond .ne 6, 3) := by decide +kernel
theorem dX11_reach_11 : decode cX11_reach 11 = .ok (.bipush (-2), 2) := by decide +kernel
theorem dX11_reach_13 : decode cX11_reach 13 = .ok (.ireturn, 1) := by decide +kernel
theorem dX11_reach_14 : decode cX11_reach 14 = .ok (.aload_n 0, 1) := by decide +kernel
theorem dX11_reach_15 : decode cX11_reach 15 = .ok (.getfield 54, 3) := by decide +kernel
theorem dX11_reach_18 : decode cX11_reach 18 = .ok (.iload_n 1, 1) := by decide +kernel
theorem dX11_reach_19 : decode cX11_reach 19 = .ok (.iconst 0, 1) := by decide +kernel
theorem dX11_reach_20 : decode cX11_reach 20 = .ok (.invokevirtual 266, 3) := by decide +kernel
theorem dX11_reach_23 : decode cX11_reach 23 = .ok (.aload_n 0, 1) := by decide +kernel
theorem dX11_reach_24 : decode cX11_reach 24 = .ok (.getfield 54, 3) := by decide +kernel
theorem dX11_reach_27 : decode cX11_reach 27 = .ok (.aload_n 0, 1) := by decide +kernel
theorem dX11_reach_28 : decode cX11_reach 28 = .ok (.getfield 19, 3) := by decide +kernel
theorem dX11_reach_31 : decode cX11_reach 31 = .ok (.getfield 150, 3) := by decide +kernel
theorem dX11_reach_34 : decode cX11_reach 34 = .ok (.iload_n 1, 1) := by decide +kernel
theorem dX11_reach_35 : decode cX11_reach 35 = .ok (.iaload, 1) := by decide +kernel
theorem dX11_reach_36 : decode cX11_reach 36 = .ok (.invokevirtual 287, 3) := by decide +kernel
theorem dX11_reach_39 : decode cX11_reach 39 = .ok (.ireturn, 1) := by decide +kernel
theorem dX11_pays_0 : decode cX11_pays 0 = .ok (.aload_n 0, 1) := by decide +kernel
theorem dX11_pays_1 : decode cX11_pays 1 = .ok (.getfield 10, 3) := by decide +kernel
theorem dX11_pays_4 : decode cX11_pays 4 = .ok (.iload_n 1, 1) := by decide +kernel
theorem dX11_pays_5 : decode cX11_pays 5 = .ok (.invokevirtual 174, 3) := by decide +kernel
theorem dX11_pays_8 : decode cX11_pays 8 = .ok (.ifCond .eq 12, 3) := by decide +kernel
theorem dX11_pays_11 : decode cX11_pays 11 = .ok (.iload_n 3, 1) := by decide +kernel
theorem dX11_pays_12 : decode cX11_pays 12 = .ok (.ifCond .lt 8, 3) := by decide +kernel
theorem dX11_pays_15 : decode cX11_pays 15 = .ok (.iload_n 3, 1) := by decide +kernel
theorem dX11_pays_16 : decode cX11_pays 16 = .ok (.iconst 3, 1) := by decide +kernel
theorem dX11_pays_17 : decode cX11_pays 17 = .ok (.if_icmp .le 6, 3) := by decide +kernel
theorem dX11_pays_20 : decode cX11_pays 20 = .ok (.bipush (-2), 2) := by decide +kernel
theorem dX11_pays_22 : decode cX11_pays 22 = .ok (.ireturn, 1) := by decide +kernel
theorem dX11_pays_23 : decode cX11_pays 23 = .ok (.iload_n 2, 1) := by decide +kernel
theorem dX11_pays_24 : decode cX11_pays 24 = .ok (.ifCond .lt 10, 3) := by decide +kernel
theorem dX11_pays_27 : decode cX11_pays 27 = .ok (.iload_n 2, 1) := by decide +kernel
theorem dX11_pays_28 : decode cX11_pays 28 = .ok (.sipush 999, 3) := by decide +kernel
theorem dX11_pays_31 : decode cX11_pays 31 = .ok (.if_icmp .le 6, 3) := by decide +kernel
theorem dX11_pays_34 : decode cX11_pays 34 = .ok (.bipush (-3), 2) := by decide +kernel
theorem dX11_pays_36 : decode cX11_pays 36 = .ok (.ireturn, 1) := by decide +kernel
theorem dX11_pays_37 : decode cX11_pays 37 = .ok (.aload_n 0, 1) := by decide +kernel
theorem dX11_pays_38 : decode cX11_pays 38 = .ok (.getfield 54, 3) := by decide +kernel
theorem dX11_pays_41 : decode cX11_pays 41 = .ok (.iload_n 1, 1) := by decide +kernel
theorem dX11_pays_42 : decode cX11_pays 42 = .ok (.invokevirtual 290, 3) := by decide +kernel
theorem dX11_pays_45 : decode cX11_pays 45 = .ok (.aload_n 0, 1) := by decide +kernel
theorem dX11_pays_46 : decode cX11_pays 46 = .ok (.getfield 54, 3) := by decide +kernel
theorem dX11_pays_49 : decode cX11_pays 49 = .ok (.iload_n 2, 1) := by decide +kernel
theorem dX11_pays_50 : decode cX11_pays 50 = .ok (.iload_n 3, 1) := by decide +kernel
theorem dX11_pays_51 : decode cX11_pays 51 = .ok (.iconst 2, 1) := by decide +kernel
theorem dX11_pays_52 : decode cX11_pays 52 = .ok (.if_icmp .lt 7, 3) := by decide +kernel
theorem dX11_pays_55 : decode cX11_pays 55 = .ok (.iconst 1, 1) := by decide +kernel
theorem dX11_pays_56 : decode cX11_pays 56 = .ok (.goto 4, 3) := by decide +kernel
theorem dX11_pays_59 : decode cX11_pays 59 = .ok (.iconst 0, 1) := by decide +kernel
theorem dX11_pays_60 : decode cX11_pays 60 = .ok (.invokevirtual 293, 3) := by decide +kernel
theorem dX11_pays_63 : decode cX11_pays 63 = .ok (.istore 4, 2) := by decide +kernel
theorem dX11_pays_65 : decode cX11_pays 65 = .ok (.iload 4, 2) := by decide +kernel
theorem dX11_pays_67 : decode cX11_pays 67 = .ok (.iconst (-1), 1) := by decide +kernel
theorem dX11_pays_68 : decode cX11_pays 68 = .ok (.if_icmp .ne 5, 3) := by decide +kernel
theorem dX11_pays_71 : decode cX11_pays 71 = .ok (.iconst (-1), 1) := by decide +kernel
theorem dX11_pays_72 : decode cX11_pays 72 = .ok (.ireturn, 1) := by decide +kernel
theorem dX11_pays_73 : decode cX11_pays 73 = .ok (.iload_n 3, 1) := by decide +kernel
theorem dX11_pays_74 : decode cX11_pays 74 = .ok (.iconst 2, 1) := by decide +kernel
theorem dX11_pays_75 : decode cX11_pays 75 = .ok (.irem, 1) := by decide +kernel
theorem dX11_pays_76 : decode cX11_pays 76 = .ok (.ifCond .ne 15, 3) := by decide +kernel
theorem dX11_pays_79 : decode cX11_pays 79 = .ok (.aload_n 0, 1) := by decide +kernel
theorem dX11_pays_80 : decode cX11_pays 80 = .ok (.getfield 54, 3) := by decide +kernel
theorem dX11_pays_83 : decode cX11_pays 83 = .ok (.iload 4, 2) := by decide +kernel
theorem dX11_pays_85 : decode cX11_pays 85 = .ok (.invokevirtual 297, 3) := by decide +kernel
theorem dX11_pays_88 : decode cX11_pays 88 = .ok (.goto 5, 3) := by decide +kernel
theorem dX11_pays_91 : decode cX11_pays 91 = .ok (.iload 4, 2) := by decide +kernel
theorem dX11_pays_93 : decode cX11_pays 93 = .ok (.ireturn, 1) := by decide +kernel
theorem dX11_pairs_0 : decode cX11_pairs 0 = .ok (.iload_n 1, 1) := by decide +kernel
theorem dX11_pairs_1 : decode cX11_pairs 1 = .ok (.invokestatic 300, 3) := by decide +kernel
theorem dX11_pairs_4 : decode cX11_pairs 4 = .ok (.ifCond .ne 6, 3) := by decide +kernel
theorem dX11_pairs_7 : decode cX11_pairs 7 = .ok (.bipush (-3), 2) := by decide +kernel
theorem dX11_pairs_9 : decode cX11_pairs 9 = .ok (.ireturn, 1) := by decide +kernel
theorem dX11_pairs_10 : decode cX11_pairs 10 = .ok (.aload_n 0, 1) := by decide +kernel
theorem dX11_pairs_11 : decode cX11_pairs 11 = .ok (.getfield 61, 3) := by decide +kernel
theorem dX11_pairs_14 : decode cX11_pairs 14 = .ok (.iload_n 1, 1) := by decide +kernel
theorem dX11_pairs_15 : decode cX11_pairs 15 = .ok (.invokevirtual 303, 3) := by decide +kernel
theorem dX11_pairs_18 : decode cX11_pairs 18 = .ok (.aload_n 0, 1) := by decide +kernel
theorem dX11_pairs_19 : decode cX11_pairs 19 = .ok (.getfield 61, 3) := by decide +kernel
theorem dX11_pairs_22 : decode cX11_pairs 22 = .ok (.getfield 306, 3) := by decide +kernel
theorem dX11_pairs_25 : decode cX11_pairs 25 = .ok (.aload_n 0, 1) := by decide +kernel
theorem dX11_pairs_26 : decode cX11_pairs 26 = .ok (.getfield 61, 3) := by decide +kernel
theorem dX11_pairs_29 : decode cX11_pairs 29 = .ok (.invokevirtual 309, 3) := by decide +kernel
theorem dX11_pairs_32 : decode cX11_pairs 32 = .ok (.iaload, 1) := by decide +kernel
theorem dX11_pairs_33 : decode cX11_pairs 33 = .ok (.ireturn, 1) := by decide +kernel
theorem dX11_with_0 : decode cX11_with 0 = .ok (.aload_n 0, 1) := by decide +kernel
theorem dX11_with_1 : decode cX11_with 1 = .ok (.getfield 10, 3) := by decide +kernel
theorem dX11_with_4 : decode cX11_with 4 = .ok (.iload_n 2, 1) := by decide +kernel
theorem dX11_with_5 : decode cX11_with 5 = .ok (.invokevirtual 134, 3) := by decide +kernel
theorem dX11_with_8 : decode cX11_with 8 = .ok (.ifCond .ne 6, 3) := by decide +kernel
theorem dX11_with_11 : decode cX11_with 11 = .ok (.bipush (-2), 2) := by decide +kernel
theorem dX11_with_13 : decode cX11_with 13 = .ok (.ireturn, 1) := by decide +kernel
theorem dX11_with_14 : decode cX11_with 14 = .ok (.iload_n 1, 1) := by decide +kernel
theorem dX11_with_15 : decode cX11_with 15 = .ok (.invokestatic 300, 3) := by decide +kernel
theorem dX11_with_18 : decode cX11_with 18 = .ok (.ifCond .ne 6, 3) := by decide +kernel
theorem dX11_with_21 : decode cX11_with 21 = .ok (.bipush (-3), 2) := by decide +kernel
theorem dX11_with_23 : decode cX11_with 23 = .ok (.ireturn, 1) := by decide +kernel
theorem dX11_with_24 : decode cX11_with 24 = .ok (.aload_n 0, 1) := by decide +kernel
theorem dX11_with_25 : decode cX11_with 25 = .ok (.getfield 61, 3) := by decide +kernel
theorem dX11_with_28 : decode cX11_with 28 = .ok (.iload_n 1, 1) := by decide +kernel
theorem dX11_with_29 : decode cX11_with 29 = .ok (.invokevirtual 303, 3) := by decide +kernel
theorem dX11_with_32 : decode cX11_with 32 = .ok (.aload_n 0, 1) := by decide +kernel
theorem dX11_with_33 : decode cX11_with 33 = .ok (.getfield 61, 3) := by decide +kernel
theorem dX11_with_36 : decode cX11_with 36 = .ok (.getfield 312, 3) := by decide +kernel
theorem dX11_with_39 : decode cX11_with 39 = .ok (.iload_n 2, 1) := by decide +kernel
theorem dX11_with_40 : decode cX11_with 40 = .ok (.iaload, 1) := by decide +kernel
theorem dX11_with_41 : decode cX11_with 41 = .ok (.ireturn, 1) := by decide +kernel
theorem dX11_lifters_0 : decode cX11_lifters 0 = .ok (.iload_n 2, 1) := by decide +kernel
theorem dX11_lifters_1 : decode cX11_lifters 1 = .ok (.ifCond .eq 11, 3) := by decide +kernel
theorem dX11_lifters_4 : decode cX11_lifters 4 = .ok (.iload_n 2, 1) := by decide +kernel
theorem dX11_lifters_5 : decode cX11_lifters 5 = .ok (.iconst 1, 1) := by decide +kernel
theorem dX11_lifters_6 : decode cX11_lifters 6 = .ok (.if_icmp .eq 6, 3) := by decide +kernel
theorem dX11_lifters_9 : decode cX11_lifters 9 = .ok (.bipush (-2), 2) := by decide +kernel
theorem dX11_lifters_11 : decode cX11_lifters 11 = .ok (.ireturn, 1) := by decide +kernel
theorem dX11_lifters_12 : decode cX11_lifters 12 = .ok (.iload_n 1, 1) := by decide +kernel
theorem dX11_lifters_13 : decode cX11_lifters 13 = .ok (.invokestatic 300, 3) := by decide +kernel
theorem dX11_lifters_16 : decode cX11_lifters 16 = .ok (.ifCond .ne 6, 3) := by decide +kernel
theorem dX11_lifters_19 : decode cX11_lifters 19 = .ok (.bipush (-3), 2) := by decide +kernel
theorem dX11_lifters_21 : decode cX11_lifters 21 = .ok (.ireturn, 1) := by decide +kernel
theorem dX11_lifters_22 : decode cX11_lifters 22 = .ok (.aload_n 0, 1) := by decide +kernel
theorem dX11_lifters_23 : decode cX11_lifters 23 = .ok (.getfield 61, 3) := by decide +kernel
theorem dX11_lifters_26 : decode cX11_lifters 26 = .ok (.iload_n 1, 1) := by decide +kernel
theorem dX11_lifters_27 : decode cX11_lifters 27 = .ok (.invokevirtual 315, 3) := by decide +kernel
theorem dX11_lifters_30 : decode cX11_lifters 30 = .ok (.iload_n 2, 1) := by decide +kernel
theorem dX11_lifters_31 : decode cX11_lifters 31 = .ok (.invokestatic 318, 3) := by decide +kernel
theorem dX11_lifters_34 : decode cX11_lifters 34 = .ok (.ireturn, 1) := by decide +kernel
theorem dX11_guards_0 : decode cX11_guards 0 = .ok (.aload_n 0, 1) := by decide +kernel
theorem dX11_guards_1 : decode cX11_guards 1 = .ok (.getfield 10, 3) := by decide +kernel
theorem dX11_guards_4 : decode cX11_guards 4 = .ok (.iload_n 1, 1) := by decide +kernel
theorem dX11_guards_5 : decode cX11_guards 5 = .ok (.invokevirtual 174, 3) := by decide +kernel
theorem dX11_guards_8 : decode cX11_guards 8 = .ok (.ifCond .eq 23, 3) := by decide +kernel
theorem dX11_guards_11 : decode cX11_guards 11 = .ok (.aload_n 0, 1) := by decide +kernel
theorem dX11_guards_12 : decode cX11_guards 12 = .ok (.getfield 10, 3) := by decide +kernel
theorem dX11_guards_15 : decode cX11_guards 15 = .ok (.iload_n 2, 1) := by decide +kernel
theorem dX11_guards_16 : decode cX11_guards 16 = .ok (.invokevirtual 174, 3) := by decide +kernel
theorem dX11_guards_19 : decode cX11_guards 19 = .ok (.ifCond .eq 12, 3) := by decide +kernel
theorem dX11_guards_22 : decode cX11_guards 22 = .ok (.iload_n 3, 1) := by decide +kernel
theorem dX11_guards_23 : decode cX11_guards 23 = .ok (.ifCond .eq 11, 3) := by decide +kernel
theorem dX11_guards_26 : decode cX11_guards 26 = .ok (.iload_n 3, 1) := by decide +kernel
theorem dX11_guards_27 : decode cX11_guards 27 = .ok (.iconst 1, 1) := by decide +kernel
theorem dX11_guards_28 : decode cX11_guards 28 = .ok (.if_icmp .eq 6, 3) := by decide +kernel
theorem dX11_guards_31 : decode cX11_guards 31 = .ok (.bipush (-2), 2) := by decide +kernel
theorem dX11_guards_33 : decode cX11_guards 33 = .ok (.ireturn, 1) := by decide +kernel
theorem dX11_guards_34 : decode cX11_guards 34 = .ok (.aload_n 0, 1) := by decide +kernel
theorem dX11_guards_35 : decode cX11_guards 35 = .ok (.getfield 61, 3) := by decide +kernel
theorem dX11_guards_38 : decode cX11_guards 38 = .ok (.iload_n 1, 1) := by decide +kernel
theorem dX11_guards_39 : decode cX11_guards 39 = .ok (.iload_n 2, 1) := by decide +kernel
theorem dX11_guards_40 : decode cX11_guards 40 = .ok (.invokevirtual 321, 3) := by decide +kernel
theorem dX11_guards_43 : decode cX11_guards 43 = .ok (.iload_n 3, 1) := by decide +kernel
theorem dX11_guards_44 : decode cX11_guards 44 = .ok (.invokestatic 318, 3) := by decide +kernel
theorem dX11_guards_47 : decode cX11_guards 47 = .ok (.ireturn, 1) := by decide +kernel
theorem dX11_rests_0 : decode cX11_rests 0 = .ok (.iload_n 2, 1) := by decide +kernel
theorem dX11_rests_1 : decode cX11_rests 1 = .ok (.ifCond .lt 8, 3) := by decide +kernel
theorem dX11_rests_4 : decode cX11_rests 4 = .ok (.iload_n 2, 1) := by decide +kernel
theorem dX11_rests_5 : decode cX11_rests 5 = .ok (.iconst 2, 1) := by decide +kernel
theorem dX11_rests_6 : decode cX11_rests 6 = .ok (.if_icmp .le 6, 3) := by decide +kernel
theorem dX11_rests_9 : decode cX11_rests 9 = .ok (.bipush (-2), 2) := by decide +kernel
theorem dX11_rests_11 : decode cX11_rests 11 = .ok (.ireturn, 1) := by decide +kernel
theorem dX11_rests_12 : decode cX11_rests 12 = .ok (.iload_n 1, 1) := by decide +kernel
theorem dX11_rests_13 : decode cX11_rests 13 = .ok (.ifCond .lt 9, 3) := by decide +kernel
theorem dX11_rests_16 : decode cX11_rests 16 = .ok (.iload_n 1, 1) := by decide +kernel
theorem dX11_rests_17 : decode cX11_rests 17 = .ok (.bipush 8, 2) := by decide +kernel
theorem dX11_rests_19 : decode cX11_rests 19 = .ok (.if_icmp .le 6, 3) := by decide +kernel
theorem dX11_rests_22 : decode cX11_rests 22 = .ok (.bipush (-3), 2) := by decide +kernel
theorem dX11_rests_24 : decode cX11_rests 24 = .ok (.ireturn, 1) := by decide +kernel
theorem dX11_rests_25 : decode cX11_rests 25 = .ok (.aload_n 0, 1) := by decide +kernel
theorem dX11_rests_26 : decode cX11_rests 26 = .ok (.getfield 61, 3) := by decide +kernel
theorem dX11_rests_29 : decode cX11_rests 29 = .ok (.iload_n 1, 1) := by decide +kernel
theorem dX11_rests_30 : decode cX11_rests 30 = .ok (.invokevirtual 324, 3) := by decide +kernel
theorem dX11_rests_33 : decode cX11_rests 33 = .ok (.iload_n 2, 1) := by decide +kernel
theorem dX11_rests_34 : decode cX11_rests 34 = .ok (.ifCond .ne 11, 3) := by decide +kernel
theorem dX11_rests_37 : decode cX11_rests 37 = .ok (.aload_n 0, 1) := by decide +kernel
theorem dX11_rests_38 : decode cX11_rests 38 = .ok (.getfield 61, 3) := by decide +kernel
theorem dX11_rests_41 : decode cX11_rests 41 = .ok (.getfield 327, 3) := by decide +kernel
theorem dX11_rests_44 : decode cX11_rests 44 = .ok (.ireturn, 1) := by decide +kernel
theorem dX11_rests_45 : decode cX11_rests 45 = .ok (.iload_n 2, 1) := by decide +kernel
theorem dX11_rests_46 : decode cX11_rests 46 = .ok (.iconst 1, 1) := by decide +kernel
theorem dX11_rests_47 : decode cX11_rests 47 = .ok (.if_icmp .ne 13, 3) := by decide +kernel
theorem dX11_rests_50 : decode cX11_rests 50 = .ok (.aload_n 0, 1) := by decide +kernel
theorem dX11_rests_51 : decode cX11_rests 51 = .ok (.getfield 61, 3) := by decide +kernel
theorem dX11_rests_54 : decode cX11_rests 54 = .ok (.getfield 330, 3) := by decide +kernel
theorem dX11_rests_57 : decode cX11_rests 57 = .ok (.goto 10, 3) := by decide +kernel
theorem dX11_rests_60 : decode cX11_rests 60 = .ok (.aload_n 0, 1) := by decide +kernel
theorem dX11_rests_61 : decode cX11_rests 61 = .ok (.getfield 61, 3) := by decide +kernel
theorem dX11_rests_64 : decode cX11_rests 64 = .ok (.getfield 333, 3) := by decide +kernel
theorem dX11_rests_67 : decode cX11_rests 67 = .ok (.ireturn, 1) := by decide +kernel
theorem dX11_lifting_0 : decode cX11_lifting 0 = .ok (.iload_n 1, 1) := by decide +kernel
theorem dX11_lifting_1 : decode cX11_lifting 1 = .ok (.ifCond .lt 14, 3) := by decide +kernel
theorem dX11_lifting_4 : decode cX11_lifting 4 = .ok (.iload_n 1, 1) := by decide +kernel
theorem dX11_lifting_5 : decode cX11_lifting 5 = .ok (.aload_n 0, 1) := by decide +kernel
theorem dX11_lifting_6 : decode cX11_lifting 6 = .ok (.getfield 61, 3) := by decide +kernel
theorem dX11_lifting_9 : decode cX11_lifting 9 = .ok (.invokevirtual 309, 3) := by decide +kernel
theorem dX11_lifting_12 : decode cX11_lifting 12 = .ok (.if_icmp .le 6, 3) := by decide +kernel
theorem dX11_lifting_15 : decode cX11_lifting 15 = .ok (.bipush (-2), 2) := by decide +kernel
theorem dX11_lifting_17 : decode cX11_lifting 17 = .ok (.ireturn, 1) := by decide +kernel
theorem dX11_lifting_18 : decode cX11_lifting 18 = .ok (.iload_n 2, 1) := by decide +kernel
theorem dX11_lifting_19 : decode cX11_lifting 19 = .ok (.ifCond .lt 20, 3) := by decide +kernel
theorem dX11_lifting_22 : decode cX11_lifting 22 = .ok (.iload_n 2, 1) := by decide +kernel
theorem dX11_lifting_23 : decode cX11_lifting 23 = .ok (.bipush 8, 2) := by decide +kernel
theorem dX11_lifting_25 : decode cX11_lifting 25 = .ok (.if_icmp .gt 14, 3) := by decide +kernel
theorem dX11_lifting_28 : decode cX11_lifting 28 = .ok (.iload_n 3, 1) := by decide +kernel
theorem dX11_lifting_29 : decode cX11_lifting 29 = .ok (.ifCond .lt 10, 3) := by decide +kernel
theorem dX11_lifting_32 : decode cX11_lifting 32 = .ok (.iload_n 3, 1) := by decide +kernel
theorem dX11_lifting_33 : decode cX11_lifting 33 = .ok (.sipush 999, 3) := by decide +kernel
theorem dX11_lifting_36 : decode cX11_lifting 36 = .ok (.if_icmp .le 6, 3) := by decide +kernel
theorem dX11_lifting_39 : decode cX11_lifting 39 = .ok (.bipush (-3), 2) := by decide +kernel
theorem dX11_lifting_41 : decode cX11_lifting 41 = .ok (.ireturn, 1) := by decide +kernel
theorem dX11_lifting_42 : decode cX11_lifting 42 = .ok (.iload_n 1, 1) := by decide +kernel
theorem dX11_lifting_43 : decode cX11_lifting 43 = .ok (.istore 4, 2) := by decide +kernel
theorem dX11_lifting_45 : decode cX11_lifting 45 = .ok (.iconst 0, 1) := by decide +kernel
theorem dX11_lifting_46 : decode cX11_lifting 46 = .ok (.istore 5, 2) := by decide +kernel
theorem dX11_lifting_48 : decode cX11_lifting 48 = .ok (.iload 5, 2) := by decide +kernel
theorem dX11_lifting_50 : decode cX11_lifting 50 = .ok (.iload_n 3, 1) := by decide +kernel
theorem dX11_lifting_51 : decode cX11_lifting 51 = .ok (.if_icmp .ge 21, 3) := by decide +kernel
theorem dX11_lifting_54 : decode cX11_lifting 54 = .ok (.aload_n 0, 1) := by decide +kernel
theorem dX11_lifting_55 : decode cX11_lifting 55 = .ok (.getfield 61, 3) := by decide +kernel
theorem dX11_lifting_58 : decode cX11_lifting 58 = .ok (.iload 4, 2) := by decide +kernel
theorem dX11_lifting_60 : decode cX11_lifting 60 = .ok (.iload_n 2, 1) := by decide +kernel
theorem dX11_lifting_61 : decode cX11_lifting 61 = .ok (.invokevirtual 336, 3) := by decide +kernel
theorem dX11_lifting_64 : decode cX11_lifting 64 = .ok (.istore 4, 2) := by decide +kernel
theorem dX11_lifting_66 : decode cX11_lifting 66 = .ok (.iinc 5 1, 3) := by decide +kernel
theorem dX11_lifting_69 : decode cX11_lifting 69 = .ok (.goto (-21), 3) := by decide +kernel
theorem dX11_lifting_72 : decode cX11_lifting 72 = .ok (.iload 4, 2) := by decide +kernel
theorem dX11_lifting_74 : decode cX11_lifting 74 = .ok (.ireturn, 1) := by decide +kernel
theorem dX11_talk_0 : decode cX11_talk 0 = .ok (.aload_n 0, 1) := by decide +kernel
theorem dX11_talk_1 : decode cX11_talk 1 = .ok (.getfield 10, 3) := by decide +kernel
theorem dX11_talk_4 : decode cX11_talk 4 = .ok (.iload_n 1, 1) := by decide +kernel
theorem dX11_talk_5 : decode cX11_talk 5 = .ok (.invokevirtual 134, 3) := by decide +kernel
theorem dX11_talk_8 : decode cX11_talk 8 = .ok (.ifCond .ne 6, 3) := by decide +kernel
theorem dX11_talk_11 : decode cX11_talk 11 = .ok (.bipush (-2), 2) := by decide +kernel
theorem dX11_talk_13 : decode cX11_talk 13 = .ok (.ireturn, 1) := by decide +kernel
theorem dX11_talk_14 : decode cX11_talk 14 = .ok (.iload_n 2, 1) := by decide +kernel
theorem dX11_talk_15 : decode cX11_talk 15 = .ok (.ifCond .lt 9, 3) := by decide +kernel
theorem dX11_talk_18 : decode cX11_talk 18 = .ok (.iload_n 2, 1) := by decide +kernel
theorem dX11_talk_19 : decode cX11_talk 19 = .ok (.bipush 8, 2) := by decide +kernel
theorem dX11_talk_21 : decode cX11_talk 21 = .ok (.if_icmp .le 6, 3) := by decide +kernel
theorem dX11_talk_24 : decode cX11_talk 24 = .ok (.bipush (-3), 2) := by decide +kernel
theorem dX11_talk_26 : decode cX11_talk 26 = .ok (.ireturn, 1) := by decide +kernel
theorem dX11_talk_27 : decode cX11_talk 27 = .ok (.aload_n 0, 1) := by decide +kernel
theorem dX11_talk_28 : decode cX11_talk 28 = .ok (.getfield 61, 3) := by decide +kernel
theorem dX11_talk_31 : decode cX11_talk 31 = .ok (.iload_n 1, 1) := by decide +kernel
theorem dX11_talk_32 : decode cX11_talk 32 = .ok (.iload_n 2, 1) := by decide +kernel
theorem dX11_talk_33 : decode cX11_talk 33 = .ok (.invokevirtual 339, 3) := by decide +kernel
theorem dX11_talk_36 : decode cX11_talk 36 = .ok (.ireturn, 1) := by decide +kernel
theorem dX11_told_0 : decode cX11_told 0 = .ok (.aload_n 0, 1) := by decide +kernel
theorem dX11_told_1 : decode cX11_told 1 = .ok (.getfield 10, 3) := by decide +kernel
theorem dX11_told_4 : decode cX11_told 4 = .ok (.iload_n 1, 1) := by decide +kernel
theorem dX11_told_5 : decode cX11_told 5 = .ok (.invokevirtual 134, 3) := by decide +kernel
theorem dX11_told_8 : decode cX11_told 8 = .ok (.ifCond .ne 6, 3) := by decide +kernel
theorem dX11_told_11 : decode cX11_told 11 = .ok (.bipush (-2), 2) := by decide +kernel
theorem dX11_told_13 : decode cX11_told 13 = .ok (.ireturn, 1) := by decide +kernel
theorem dX11_told_14 : decode cX11_told 14 = .ok (.iconst 0, 1) := by decide +kernel
theorem dX11_told_15 : decode cX11_told 15 = .ok (.istore_n 2, 1) := by decide +kernel
theorem dX11_told_16 : decode cX11_told 16 = .ok (.iload_n 2, 1) := by decide +kernel
theorem dX11_told_17 : decode cX11_told 17 = .ok (.bipush 8, 2) := by decide +kernel
theorem dX11_told_19 : decode cX11_told 19 = .ok (.if_icmp .gt 30, 3) := by decide +kernel
theorem dX11_told_22 : decode cX11_told 22 = .ok (.aload_n 0, 1) := by decide +kernel
theorem dX11_told_23 : decode cX11_told 23 = .ok (.getfield 61, 3) := by decide +kernel
theorem dX11_told_26 : decode cX11_told 26 = .ok (.iload_n 1, 1) := by decide +kernel
theorem dX11_told_27 : decode cX11_told 27 = .ok (.iload_n 2, 1) := by decide +kernel
theorem dX11_told_28 : decode cX11_told 28 = .ok (.invokevirtual 339, 3) := by decide +kernel
theorem dX11_told_31 : decode cX11_told 31 = .ok (.aload_n 0, 1) := by decide +kernel
theorem dX11_told_32 : decode cX11_told 32 = .ok (.getfield 61, 3) := by decide +kernel
theorem dX11_told_35 : decode cX11_told 35 = .ok (.invokevirtual 309, 3) := by decide +kernel
theorem dX11_told_38 : decode cX11_told 38 = .ok (.if_icmp .ne 5, 3) := by decide +kernel
theorem dX11_told_41 : decode cX11_told 41 = .ok (.iload_n 2, 1) := by decide +kernel
theorem dX11_told_42 : decode cX11_told 42 = .ok (.ireturn, 1) := by decide +kernel
theorem dX11_told_43 : decode cX11_told 43 = .ok (.iinc 2 1, 3) := by decide +kernel
theorem dX11_told_46 : decode cX11_told 46 = .ok (.goto (-30), 3) := by decide +kernel
theorem dX11_told_49 : decode cX11_told 49 = .ok (.iconst (-1), 1) := by decide +kernel
theorem dX11_told_50 : decode cX11_told 50 = .ok (.ireturn, 1) := by decide +kernel
theorem dX11_camps_0 : decode cX11_camps 0 = .ok (.iload_n 1, 1) := by decide +kernel
theorem dX11_camps_1 : decode cX11_camps 1 = .ok (.ifCond .eq 11, 3) := by decide +kernel
theorem dX11_camps_4 : decode cX11_camps 4 = .ok (.iload_n 1, 1) := by decide +kernel
theorem dX11_camps_5 : decode cX11_camps 5 = .ok (.iconst 1, 1) := by decide +kernel
theorem dX11_camps_6 : decode cX11_camps 6 = .ok (.if_icmp .eq 6, 3) := by decide +kernel
theorem dX11_camps_9 : decode cX11_camps 9 = .ok (.bipush (-2), 2) := by decide +kernel
theorem dX11_camps_11 : decode cX11_camps 11 = .ok (.ireturn, 1) := by decide +kernel
theorem dX11_camps_12 : decode cX11_camps 12 = .ok (.aload_n 0, 1) := by decide +kernel
theorem dX11_camps_13 : decode cX11_camps 13 = .ok (.getfield 61, 3) := by decide +kernel
theorem dX11_camps_16 : decode cX11_camps 16 = .ok (.invokevirtual 342, 3) := by decide +kernel
theorem dX11_camps_19 : decode cX11_camps 19 = .ok (.istore_n 2, 1) := by decide +kernel
theorem dX11_camps_20 : decode cX11_camps 20 = .ok (.iload_n 1, 1) := by decide +kernel
theorem dX11_camps_21 : decode cX11_camps 21 = .ok (.ifCond .ne 14, 3) := by decide +kernel
theorem dX11_camps_24 : decode cX11_camps 24 = .ok (.aload_n 0, 1) := by decide +kernel
theorem dX11_camps_25 : decode cX11_camps 25 = .ok (.getfield 61, 3) := by decide +kernel
theorem dX11_camps_28 : decode cX11_camps 28 = .ok (.iload_n 2, 1) := by decide +kernel
theorem dX11_camps_29 : decode cX11_camps 29 = .ok (.invokevirtual 345, 3) := by decide +kernel
theorem dX11_camps_32 : decode cX11_camps 32 = .ok (.goto 4, 3) := by decide +kernel
theorem dX11_camps_35 : decode cX11_camps 35 = .ok (.iload_n 2, 1) := by decide +kernel
theorem dX11_camps_36 : decode cX11_camps 36 = .ok (.ireturn, 1) := by decide +kernel
theorem dX11_peace_0 : decode cX11_peace 0 = .ok (.aload_n 0, 1) := by decide +kernel
theorem dX11_peace_1 : decode cX11_peace 1 = .ok (.getfield 61, 3) := by decide +kernel
theorem dX11_peace_4 : decode cX11_peace 4 = .ok (.invokevirtual 348, 3) := by decide +kernel
theorem dX11_peace_7 : decode cX11_peace 7 = .ok (.ireturn, 1) := by decide +kernel
theorem dX11_wornBy_0 : decode cX11_wornBy 0 = .ok (.aload_n 0, 1) := by decide +kernel
theorem dX11_wornBy_1 : decode cX11_wornBy 1 = .ok (.iload_n 1, 1) := by decide +kernel
theorem dX11_wornBy_2 : decode cX11_wornBy 2 = .ok (.iload_n 2, 1) := by decide +kernel
theorem dX11_wornBy_3 : decode cX11_wornBy 3 = .ok (.iconst 0, 1) := by decide +kernel
theorem dX11_wornBy_4 : decode cX11_wornBy 4 = .ok (.invokevirtual 351, 3) := by decide +kernel
theorem dX11_wornBy_7 : decode cX11_wornBy 7 = .ok (.istore_n 3, 1) := by decide +kernel
theorem dX11_wornBy_8 : decode cX11_wornBy 8 = .ok (.iload_n 3, 1) := by decide +kernel
theorem dX11_wornBy_9 : decode cX11_wornBy 9 = .ok (.ifCond .eq 6, 3) := by decide +kernel
theorem dX11_wornBy_12 : decode cX11_wornBy 12 = .ok (.iload_n 3, 1) := by decide +kernel
theorem dX11_wornBy_13 : decode cX11_wornBy 13 = .ok (.i2l, 1) := by decide +kernel
theorem dX11_wornBy_14 : decode cX11_wornBy 14 = .ok (.lreturn, 1) := by decide +kernel
theorem dX11_wornBy_15 : decode cX11_wornBy 15 = .ok (.aload_n 0, 1) := by decide +kernel
theorem dX11_wornBy_16 : decode cX11_wornBy 16 = .ok (.getfield 70, 3) := by decide +kernel
theorem dX11_wornBy_19 : decode cX11_wornBy 19 = .ok (.aload_n 0, 1) := by decide +kernel
theorem dX11_wornBy_20 : decode cX11_wornBy 20 = .ok (.getfield 83, 3) := by decide +kernel
theorem dX11_wornBy_23 : decode cX11_wornBy 23 = .ok (.iload_n 1, 1) := by decide +kernel
theorem dX11_wornBy_24 : decode cX11_wornBy 24 = .ok (.aaload, 1) := by decide +kernel
theorem dX11_wornBy_25 : decode cX11_wornBy 25 = .ok (.iload_n 2, 1) := by decide +kernel
theorem dX11_wornBy_26 : decode cX11_wornBy 26 = .ok (.invokevirtual 355, 3) := by decide +kernel
theorem dX11_wornBy_29 : decode cX11_wornBy 29 = .ok (.aload_n 0, 1) := by decide +kernel
theorem dX11_wornBy_30 : decode cX11_wornBy 30 = .ok (.getfield 70, 3) := by decide +kernel
theorem dX11_wornBy_33 : decode cX11_wornBy 33 = .ok (.iconst 0, 1) := by decide +kernel
theorem dX11_wornBy_34 : decode cX11_wornBy 34 = .ok (.aload_n 0, 1) := by decide +kernel
theorem dX11_wornBy_35 : decode cX11_wornBy 35 = .ok (.getfield 19, 3) := by decide +kernel
theorem dX11_wornBy_38 : decode cX11_wornBy 38 = .ok (.getfield 150, 3) := by decide +kernel
theorem dX11_wornBy_41 : decode cX11_wornBy 41 = .ok (.iload_n 2, 1) := by decide +kernel
theorem dX11_wornBy_42 : decode cX11_wornBy 42 = .ok (.iaload, 1) := by decide +kernel
theorem dX11_wornBy_43 : decode cX11_wornBy 43 = .ok (.invokevirtual 358, 3) := by decide +kernel
theorem dX11_wornBy_46 : decode cX11_wornBy 46 = .ok (.lreturn, 1) := by decide +kernel
theorem dX11_wornFirst_0 : decode cX11_wornFirst 0 = .ok (.aload_n 0, 1) := by decide +kernel
theorem dX11_wornFirst_1 : decode cX11_wornFirst 1 = .ok (.iload_n 1, 1) := by decide +kernel
theorem dX11_wornFirst_2 : decode cX11_wornFirst 2 = .ok (.iload_n 2, 1) := by decide +kernel
theorem dX11_wornFirst_3 : decode cX11_wornFirst 3 = .ok (.iload_n 3, 1) := by decide +kernel
theorem dX11_wornFirst_4 : decode cX11_wornFirst 4 = .ok (.invokevirtual 351, 3) := by decide +kernel
theorem dX11_wornFirst_7 : decode cX11_wornFirst 7 = .ok (.istore 4, 2) := by decide +kernel
theorem dX11_wornFirst_9 : decode cX11_wornFirst 9 = .ok (.iload 4, 2) := by decide +kernel
theorem dX11_wornFirst_11 : decode cX11_wornFirst 11 = .ok (.ifCond .eq 6, 3) := by decide +kernel
theorem dX11_wornFirst_14 : decode cX11_wornFirst 14 = .ok (.iload 4, 2) := by decide +kernel
theorem dX11_wornFirst_16 : decode cX11_wornFirst 16 = .ok (.ireturn, 1) := by decide +kernel
theorem dX11_wornFirst_17 : decode cX11_wornFirst 17 = .ok (.iload_n 3, 1) := by decide +kernel
theorem dX11_wornFirst_18 : decode cX11_wornFirst 18 = .ok (.aload_n 0, 1) := by decide +kernel
theorem dX11_wornFirst_19 : decode cX11_wornFirst 19 = .ok (.getfield 83, 3) := by decide +kernel
theorem dX11_wornFirst_22 : decode cX11_wornFirst 22 = .ok (.iload_n 1, 1) := by decide +kernel
theorem dX11_wornFirst_23 : decode cX11_wornFirst 23 = .ok (.aaload, 1) := by decide +kernel
theorem dX11_wornFirst_24 : decode cX11_wornFirst 24 = .ok (.getfield 236, 3) := by decide +kernel
theorem dX11_wornFirst_27 : decode cX11_wornFirst 27 = .ok (.if_icmp .lt 5, 3) := by decide +kernel
theorem dX11_wornFirst_30 : decode cX11_wornFirst 30 = .ok (.iconst (-1), 1) := by decide +kernel
theorem dX11_wornFirst_31 : decode cX11_wornFirst 31 = .ok (.ireturn, 1) := by decide +kernel
theorem dX11_wornFirst_32 : decode cX11_wornFirst 32 = .ok (.aload_n 0, 1) := by decide +kernel
theorem dX11_wornFirst_33 : decode cX11_wornFirst 33 = .ok (.getfield 70, 3) := by decide +kernel
theorem dX11_wornFirst_36 : decode cX11_wornFirst 36 = .ok (.aload_n 0, 1) := by decide +kernel
theorem dX11_wornFirst_37 : decode cX11_wornFirst 37 = .ok (.getfield 83, 3) := by decide +kernel
theorem dX11_wornFirst_40 : decode cX11_wornFirst 40 = .ok (.iload_n 1, 1) := by decide +kernel
theorem dX11_wornFirst_41 : decode cX11_wornFirst 41 = .ok (.aaload, 1) := by decide +kernel
theorem dX11_wornFirst_42 : decode cX11_wornFirst 42 = .ok (.iload_n 2, 1) := by decide +kernel
theorem dX11_wornFirst_43 : decode cX11_wornFirst 43 = .ok (.invokevirtual 355, 3) := by decide +kernel
theorem dX11_wornFirst_46 : decode cX11_wornFirst 46 = .ok (.aload_n 0, 1) := by decide +kernel
theorem dX11_wornFirst_47 : decode cX11_wornFirst 47 = .ok (.getfield 70, 3) := by decide +kernel
theorem dX11_wornFirst_50 : decode cX11_wornFirst 50 = .ok (.iload_n 2, 1) := by decide +kernel
theorem dX11_wornFirst_51 : decode cX11_wornFirst 51 = .ok (.aload_n 0, 1) := by decide +kernel
theorem dX11_wornFirst_52 : decode cX11_wornFirst 52 = .ok (.getfield 19, 3) := by decide +kernel
theorem dX11_wornFirst_55 : decode cX11_wornFirst 55 = .ok (.getfield 150, 3) := by decide +kernel
theorem dX11_wornFirst_58 : decode cX11_wornFirst 58 = .ok (.iload_n 2, 1) := by decide +kernel
theorem dX11_wornFirst_59 : decode cX11_wornFirst 59 = .ok (.iaload, 1) := by decide +kernel
theorem dX11_wornFirst_60 : decode cX11_wornFirst 60 = .ok (.iload_n 3, 1) := by decide +kernel
theorem dX11_wornFirst_61 : decode cX11_wornFirst 61 = .ok (.invokevirtual 362, 3) := by decide +kernel
theorem dX11_wornFirst_64 : decode cX11_wornFirst 64 = .ok (.ireturn, 1) := by decide +kernel
theorem dX11_who_0 : decode cX11_who 0 = .ok (.aload_n 0, 1) := by decide +kernel
theorem dX11_who_1 : decode cX11_who 1 = .ok (.iload_n 1, 1) := by decide +kernel
theorem dX11_who_2 : decode cX11_who 2 = .ok (.iload_n 2, 1) := by decide +kernel
theorem dX11_who_3 : decode cX11_who 3 = .ok (.iload_n 3, 1) := by decide +kernel
theorem dX11_who_4 : decode cX11_who 4 = .ok (.invokevirtual 351, 3) := by decide +kernel
theorem dX11_who_7 : decode cX11_who 7 = .ok (.istore 4, 2) := by decide +kernel
theorem dX11_who_9 : decode cX11_who 9 = .ok (.iload 4, 2) := by decide +kernel
theorem dX11_who_11 : decode cX11_who 11 = .ok (.ifCond .eq 6, 3) := by decide +kernel
theorem dX11_who_14 : decode cX11_who 14 = .ok (.iload 4, 2) := by decide +kernel
theorem dX11_who_16 : decode cX11_who 16 = .ok (.ireturn, 1) := by decide +kernel
theorem dX11_who_17 : decode cX11_who 17 = .ok (.iload_n 3, 1) := by decide +kernel
theorem dX11_who_18 : decode cX11_who 18 = .ok (.aload_n 0, 1) := by decide +kernel
theorem dX11_who_19 : decode cX11_who 19 = .ok (.getfield 83, 3) := by decide +kernel
theorem dX11_who_22 : decode cX11_who 22 = .ok (.iload_n 1, 1) := by decide +kernel
theorem dX11_who_23 : decode cX11_who 23 = .ok (.aaload, 1) := by decide +kernel
theorem dX11_who_24 : decode cX11_who 24 = .ok (.getfield 236, 3) := by decide +kernel
theorem dX11_who_27 : decode cX11_who 27 = .ok (.if_icmp .lt 6, 3) := by decide +kernel
theorem dX11_who_30 : decode cX11_who 30 = .ok (.bipush (-7), 2) := by decide +kernel
theorem dX11_who_32 : decode cX11_who 32 = .ok (.ireturn, 1) := by decide +kernel
theorem dX11_who_33 : decode cX11_who 33 = .ok (.aload_n 0, 1) := by decide +kernel
theorem dX11_who_34 : decode cX11_who 34 = .ok (.getfield 70, 3) := by decide +kernel
theorem dX11_who_37 : decode cX11_who 37 = .ok (.aload_n 0, 1) := by decide +kernel
theorem dX11_who_38 : decode cX11_who 38 = .ok (.getfield 83, 3) := by decide +kernel
theorem dX11_who_41 : decode cX11_who 41 = .ok (.iload_n 1, 1) := by decide +kernel
theorem dX11_who_42 : decode cX11_who 42 = .ok (.aaload, 1) := by decide +kernel
theorem dX11_who_43 : decode cX11_who 43 = .ok (.iload_n 2, 1) := by decide +kernel
theorem dX11_who_44 : decode cX11_who 44 = .ok (.invokevirtual 355, 3) := by decide +kernel
theorem dX11_who_47 : decode cX11_who 47 = .ok (.aload_n 0, 1) := by decide +kernel
theorem dX11_who_48 : decode cX11_who 48 = .ok (.getfield 70, 3) := by decide +kernel
theorem dX11_who_51 : decode cX11_who 51 = .ok (.iload_n 3, 1) := by decide +kernel
theorem dX11_who_52 : decode cX11_who 52 = .ok (.aload_n 0, 1) := by decide +kernel
theorem dX11_who_53 : decode cX11_who 53 = .ok (.getfield 19, 3) := by decide +kernel
theorem dX11_who_56 : decode cX11_who 56 = .ok (.getfield 150, 3) := by decide +kernel
theorem dX11_who_59 : decode cX11_who 59 = .ok (.iload_n 2, 1) := by decide +kernel
theorem dX11_who_60 : decode cX11_who 60 = .ok (.iaload, 1) := by decide +kernel
theorem dX11_who_61 : decode cX11_who 61 = .ok (.invokevirtual 365, 3) := by decide +kernel
theorem dX11_who_64 : decode cX11_who 64 = .ok (.ireturn, 1) := by decide +kernel
theorem dX11_hours_0 : decode cX11_hours 0 = .ok (.aload_n 0, 1) := by decide +kernel
theorem dX11_hours_1 : decode cX11_hours 1 = .ok (.iload_n 1, 1) := by decide +kernel
theorem dX11_hours_2 : decode cX11_hours 2 = .ok (.invokevirtual 225, 3) := by decide +kernel
theorem dX11_hours_5 : decode cX11_hours 5 = .ok (.ifCond .ne 6, 3) := by decide +kernel
theorem dX11_hours_8 : decode cX11_hours 8 = .ok (.bipush (-2), 2) := by decide +kernel
theorem dX11_hours_10 : decode cX11_hours 10 = .ok (.ireturn, 1) := by decide +kernel
theorem dX11_hours_11 : decode cX11_hours 11 = .ok (.aload_n 0, 1) := by decide +kernel
theorem dX11_hours_12 : decode cX11_hours 12 = .ok (.aload_n 0, 1) := by decide +kernel
theorem dX11_hours_13 : decode cX11_hours 13 = .ok (.getfield 83, 3) := by decide +kernel
theorem dX11_hours_16 : decode cX11_hours 16 = .ok (.iload_n 1, 1) := by decide +kernel
theorem dX11_hours_17 : decode cX11_hours 17 = .ok (.aaload, 1) := by decide +kernel
theorem dX11_hours_18 : decode cX11_hours 18 = .ok (.invokevirtual 368, 3) := by decide +kernel
theorem dX11_hours_21 : decode cX11_hours 21 = .ok (.istore_n 2, 1) := by decide +kernel
theorem dX11_hours_22 : decode cX11_hours 22 = .ok (.iload_n 2, 1) := by decide +kernel
theorem dX11_hours_23 : decode cX11_hours 23 = .ok (.ifCond .eq 7, 3) := by decide +kernel
theorem dX11_hours_26 : decode cX11_hours 26 = .ok (.iload_n 2, 1) := by decide +kernel
theorem dX11_hours_27 : decode cX11_hours 27 = .ok (.goto 16, 3) := by decide +kernel
theorem dX11_hours_30 : decode cX11_hours 30 = .ok (.aload_n 0, 1) := by decide +kernel
theorem dX11_hours_31 : decode cX11_hours 31 = .ok (.getfield 45, 3) := by decide +kernel
theorem dX11_hours_34 : decode cX11_hours 34 = .ok (.aload_n 0, 1) := by decide +kernel
theorem dX11_hours_35 : decode cX11_hours 35 = .ok (.getfield 83, 3) := by decide +kernel
theorem dX11_hours_38 : decode cX11_hours 38 = .ok (.iload_n 1, 1) := by decide +kernel
theorem dX11_hours_39 : decode cX11_hours 39 = .ok (.aaload, 1) := by decide +kernel
theorem dX11_hours_40 : decode cX11_hours 40 = .ok (.invokevirtual 371, 3) := by decide +kernel
theorem dX11_hours_43 : decode cX11_hours 43 = .ok (.ireturn, 1) := by decide +kernel
theorem dX11_attempt_0 : decode cX11_attempt 0 = .ok (.aload_n 0, 1) := by decide +kernel
theorem dX11_attempt_1 : decode cX11_attempt 1 = .ok (.iload_n 1, 1) := by decide +kernel
theorem dX11_attempt_2 : decode cX11_attempt 2 = .ok (.invokevirtual 225, 3) := by decide +kernel
theorem dX11_attempt_5 : decode cX11_attempt 5 = .ok (.ifCond .eq 12, 3) := by decide +kernel
theorem dX11_attempt_8 : decode cX11_attempt 8 = .ok (.aload_n 0, 1) := by decide +kernel
theorem dX11_attempt_9 : decode cX11_attempt 9 = .ok (.iload_n 2, 1) := by decide +kernel
theorem dX11_attempt_10 : decode cX11_attempt 10 = .ok (.iload_n 3, 1) := by decide +kernel
theorem dX11_attempt_11 : decode cX11_attempt 11 = .ok (.invokevirtual 188, 3) := by decide +kernel
theorem dX11_attempt_14 : decode cX11_attempt 14 = .ok (.ifCond .ne 6, 3) := by decide +kernel
theorem dX11_attempt_17 : decode cX11_attempt 17 = .ok (.bipush (-2), 2) := by decide +kernel
theorem dX11_attempt_19 : decode cX11_attempt 19 = .ok (.ireturn, 1) := by decide +kernel
theorem dX11_attempt_20 : decode cX11_attempt 20 = .ok (.aload_n 0, 1) := by decide +kernel
theorem dX11_attempt_21 : decode cX11_attempt 21 = .ok (.aload_n 0, 1) := by decide +kernel
theorem dX11_attempt_22 : decode cX11_attempt 22 = .ok (.getfield 83, 3) := by decide +kernel
theorem dX11_attempt_25 : decode cX11_attempt 25 = .ok (.iload_n 1, 1) := by decide +kernel
theorem dX11_attempt_26 : decode cX11_attempt 26 = .ok (.aaload, 1) := by decide +kernel
theorem dX11_attempt_27 : decode cX11_attempt 27 = .ok (.invokevirtual 368, 3) := by decide +kernel
theorem dX11_attempt_30 : decode cX11_attempt 30 = .ok (.istore 4, 2) := by decide +kernel
theorem dX11_attempt_32 : decode cX11_attempt 32 = .ok (.iload 4, 2) := by decide +kernel
theorem dX11_attempt_34 : decode cX11_attempt 34 = .ok (.ifCond .eq 6, 3) := by decide +kernel
theorem dX11_attempt_37 : decode cX11_attempt 37 = .ok (.iload 4, 2) := by decide +kernel
theorem dX11_attempt_39 : decode cX11_attempt 39 = .ok (.ireturn, 1) := by decide +kernel
theorem dX11_attempt_40 : decode cX11_attempt 40 = .ok (.aload_n 0, 1) := by decide +kernel
theorem dX11_attempt_41 : decode cX11_attempt 41 = .ok (.getfield 45, 3) := by decide +kernel
theorem dX11_attempt_44 : decode cX11_attempt 44 = .ok (.aload_n 0, 1) := by decide +kernel
theorem dX11_attempt_45 : decode cX11_attempt 45 = .ok (.getfield 83, 3) := by decide +kernel
theorem dX11_attempt_48 : decode cX11_attempt 48 = .ok (.iload_n 1, 1) := by decide +kernel
theorem dX11_attempt_49 : decode cX11_attempt 49 = .ok (.aaload, 1) := by decide +kernel
theorem dX11_attempt_50 : decode cX11_attempt 50 = .ok (.invokevirtual 371, 3) := by decide +kernel
theorem dX11_attempt_53 : decode cX11_attempt 53 = .ok (.istore 5, 2) := by decide +kernel
theorem dX11_attempt_55 : decode cX11_attempt 55 = .ok (.iload 5, 2) := by decide +kernel
theorem dX11_attempt_57 : decode cX11_attempt 57 = .ok (.ifCond .ne 7, 3) := by decide +kernel
theorem dX11_attempt_60 : decode cX11_attempt 60 = .ok (.iconst (-1), 1) := by decide +kernel
theorem dX11_attempt_61 : decode cX11_attempt 61 = .ok (.goto 14, 3) := by decide +kernel
theorem dX11_attempt_64 : decode cX11_attempt 64 = .ok (.aload_n 0, 1) := by decide +kernel
theorem dX11_attempt_65 : decode cX11_attempt 65 = .ok (.getfield 70, 3) := by decide +kernel
theorem dX11_attempt_68 : decode cX11_attempt 68 = .ok (.iload 5, 2) := by decide +kernel
theorem dX11_attempt_70 : decode cX11_attempt 70 = .ok (.iload_n 2, 1) := by decide +kernel
theorem dX11_attempt_71 : decode cX11_attempt 71 = .ok (.iload_n 3, 1) := by decide +kernel
theorem dX11_attempt_72 : decode cX11_attempt 72 = .ok (.invokevirtual 374, 3) := by decide +kernel
theorem dX11_attempt_75 : decode cX11_attempt 75 = .ok (.ireturn, 1) := by decide +kernel
theorem dX11_rimCode_0 : decode cX11_rimCode 0 = .ok (.aload_n 0, 1) := by decide +kernel
theorem dX11_rimCode_1 : decode cX11_rimCode 1 = .ok (.iload_n 1, 1) := by decide +kernel
theorem dX11_rimCode_2 : decode cX11_rimCode 2 = .ok (.invokevirtual 225, 3) := by decide +kernel
theorem dX11_rimCode_5 : decode cX11_rimCode 5 = .ok (.ifCond .eq 14, 3) := by decide +kernel
theorem dX11_rimCode_8 : decode cX11_rimCode 8 = .ok (.aload_n 0, 1) := by decide +kernel
theorem dX11_rimCode_9 : decode cX11_rimCode 9 = .ok (.getfield 10, 3) := by decide +kernel
theorem dX11_rimCode_12 : decode cX11_rimCode 12 = .ok (.iload_n 2, 1) := by decide +kernel
theorem dX11_rimCode_13 : decode cX11_rimCode 13 = .ok (.invokevirtual 147, 3) := by decide +kernel
theorem dX11_rimCode_16 : decode cX11_rimCode 16 = .ok (.ifCond .ne 6, 3) := by decide +kernel
theorem dX11_rimCode_19 : decode cX11_rimCode 19 = .ok (.bipush (-2), 2) := by decide +kernel
theorem dX11_rimCode_21 : decode cX11_rimCode 21 = .ok (.ireturn, 1) := by decide +kernel
theorem dX11_rimCode_22 : decode cX11_rimCode 22 = .ok (.aload_n 0, 1) := by decide +kernel
theorem dX11_rimCode_23 : decode cX11_rimCode 23 = .ok (.getfield 83, 3) := by decide +kernel
theorem dX11_rimCode_26 : decode cX11_rimCode 26 = .ok (.iload_n 1, 1) := by decide +kernel
theorem dX11_rimCode_27 : decode cX11_rimCode 27 = .ok (.aaload, 1) := by decide +kernel
theorem dX11_rimCode_28 : decode cX11_rimCode 28 = .ok (.invokevirtual 377, 3) := by decide +kernel
theorem dX11_rimCode_31 : decode cX11_rimCode 31 = .ok (.istore 4, 2) := by decide +kernel
theorem dX11_rimCode_33 : decode cX11_rimCode 33 = .ok (.iload 4, 2) := by decide +kernel
theorem dX11_rimCode_35 : decode cX11_rimCode 35 = .ok (.ifCond .eq 6, 3) := by decide +kernel
theorem dX11_rimCode_38 : decode cX11_rimCode 38 = .ok (.iload 4, 2) := by decide +kernel
theorem dX11_rimCode_40 : decode cX11_rimCode 40 = .ok (.ireturn, 1) := by decide +kernel
theorem dX11_rimCode_41 : decode cX11_rimCode 41 = .ok (.iload_n 3, 1) := by decide +kernel
theorem dX11_rimCode_42 : decode cX11_rimCode 42 = .ok (.ifCond .lt 18, 3) := by decide +kernel
theorem dX11_rimCode_45 : decode cX11_rimCode 45 = .ok (.aload_n 0, 1) := by decide +kernel
theorem dX11_rimCode_46 : decode cX11_rimCode 46 = .ok (.getfield 83, 3) := by decide +kernel
theorem dX11_rimCode_49 : decode cX11_rimCode 49 = .ok (.iload_n 1, 1) := by decide +kernel
theorem dX11_rimCode_50 : decode cX11_rimCode 50 = .ok (.aaload, 1) := by decide +kernel
theorem dX11_rimCode_51 : decode cX11_rimCode 51 = .ok (.iconst (-1), 1) := by decide +kernel
theorem dX11_rimCode_52 : decode cX11_rimCode 52 = .ok (.bipush 9, 2) := by decide +kernel
theorem dX11_rimCode_54 : decode cX11_rimCode 54 = .ok (.invokevirtual 380, 3) := by decide +kernel
theorem dX11_rimCode_57 : decode cX11_rimCode 57 = .ok (.ifCond .ne 8, 3) := by decide +kernel
theorem dX11_rimCode_60 : decode cX11_rimCode 60 = .ok (.bipush (-3), 2) := by decide +kernel
theorem dX11_rimCode_62 : decode cX11_rimCode 62 = .ok (.goto 4, 3) := by decide +kernel
theorem dX11_rimCode_65 : decode cX11_rimCode 65 = .ok (.iconst 0, 1) := by decide +kernel
theorem dX11_rimCode_66 : decode cX11_rimCode 66 = .ok (.ireturn, 1) := by decide +kernel
theorem dX11_toldCode_0 : decode cX11_toldCode 0 = .ok (.aload_n 1, 1) := by decide +kernel
theorem dX11_toldCode_1 : decode cX11_toldCode 1 = .ok (.invokevirtual 377, 3) := by decide +kernel
theorem dX11_toldCode_4 : decode cX11_toldCode 4 = .ok (.istore_n 2, 1) := by decide +kernel
theorem dX11_toldCode_5 : decode cX11_toldCode 5 = .ok (.iload_n 2, 1) := by decide +kernel
theorem dX11_toldCode_6 : decode cX11_toldCode 6 = .ok (.ifCond .eq 5, 3) := by decide +kernel
theorem dX11_toldCode_9 : decode cX11_toldCode 9 = .ok (.iload_n 2, 1) := by decide +kernel
theorem dX11_toldCode_10 : decode cX11_toldCode 10 = .ok (.ireturn, 1) := by decide +kernel
theorem dX11_toldCode_11 : decode cX11_toldCode 11 = .ok (.aload_n 1, 1) := by decide +kernel
theorem dX11_toldCode_12 : decode cX11_toldCode 12 = .ok (.iconst 0, 1) := by decide +kernel
theorem dX11_toldCode_13 : decode cX11_toldCode 13 = .ok (.ldc_w 383, 3) := by decide +kernel
theorem dX11_toldCode_16 : decode cX11_toldCode 16 = .ok (.invokevirtual 380, 3) := by decide +kernel
theorem dX11_toldCode_19 : decode cX11_toldCode 19 = .ok (.ifCond .eq 7, 3) := by decide +kernel
theorem dX11_toldCode_22 : decode cX11_toldCode 22 = .ok (.iconst 0, 1) := by decide +kernel
theorem dX11_toldCode_23 : decode cX11_toldCode 23 = .ok (.goto 5, 3) := by decide +kernel
theorem dX11_toldCode_26 : decode cX11_toldCode 26 = .ok (.bipush (-3), 2) := by decide +kernel
theorem dX11_toldCode_28 : decode cX11_toldCode 28 = .ok (.ireturn, 1) := by decide +kernel
theorem dX11_forces_0 : decode cX11_forces 0 = .ok (.aload_n 0, 1) := by decide +kernel
theorem dX11_forces_1 : decode cX11_forces 1 = .ok (.iload_n 1, 1) := by decide +kernel
theorem dX11_forces_2 : decode cX11_forces 2 = .ok (.iload_n 2, 1) := by decide +kernel
theorem dX11_forces_3 : decode cX11_forces 3 = .ok (.invokevirtual 188, 3) := by decide +kernel
theorem dX11_forces_6 : decode cX11_forces 6 = .ok (.ifCond .ne 6, 3) := by decide +kernel
theorem dX11_forces_9 : decode cX11_forces 9 = .ok (.bipush (-2), 2) := by decide +kernel
theorem dX11_forces_11 : decode cX11_forces 11 = .ok (.ireturn, 1) := by decide +kernel
theorem dX11_forces_12 : decode cX11_forces 12 = .ok (.aload_n 0, 1) := by decide +kernel
theorem dX11_forces_13 : decode cX11_forces 13 = .ok (.getfield 54, 3) := by decide +kernel
theorem dX11_forces_16 : decode cX11_forces 16 = .ok (.iload_n 1, 1) := by decide +kernel
theorem dX11_forces_17 : decode cX11_forces 17 = .ok (.iconst 0, 1) := by decide +kernel
theorem dX11_forces_18 : decode cX11_forces 18 = .ok (.invokevirtual 266, 3) := by decide +kernel
theorem dX11_forces_21 : decode cX11_forces 21 = .ok (.aload_n 0, 1) := by decide +kernel
theorem dX11_forces_22 : decode cX11_forces 22 = .ok (.getfield 77, 3) := by decide +kernel
theorem dX11_forces_25 : decode cX11_forces 25 = .ok (.aload_n 0, 1) := by decide +kernel
theorem dX11_forces_26 : decode cX11_forces 26 = .ok (.getfield 19, 3) := by decide +kernel
theorem dX11_forces_29 : decode cX11_forces 29 = .ok (.getfield 150, 3) := by decide +kernel
theorem dX11_forces_32 : decode cX11_forces 32 = .ok (.iload_n 1, 1) := by decide +kernel
theorem dX11_forces_33 : decode cX11_forces 33 = .ok (.iaload, 1) := by decide +kernel
theorem dX11_forces_34 : decode cX11_forces 34 = .ok (.iload_n 2, 1) := by decide +kernel
theorem dX11_forces_35 : decode cX11_forces 35 = .ok (.invokevirtual 384, 3) := by decide +kernel
theorem dX11_forces_38 : decode cX11_forces 38 = .ok (.ireturn, 1) := by decide +kernel
theorem dX11_best_0 : decode cX11_best 0 = .ok (.aload_n 0, 1) := by decide +kernel
theorem dX11_best_1 : decode cX11_best 1 = .ok (.iload_n 1, 1) := by decide +kernel
theorem dX11_best_2 : decode cX11_best 2 = .ok (.iload_n 2, 1) := by decide +kernel
theorem dX11_best_3 : decode cX11_best 3 = .ok (.invokevirtual 188, 3) := by decide +kernel
theorem dX11_best_6 : decode cX11_best 6 = .ok (.ifCond .ne 6, 3) := by decide +kernel
theorem dX11_best_9 : decode cX11_best 9 = .ok (.bipush (-2), 2) := by decide +kernel
theorem dX11_best_11 : decode cX11_best 11 = .ok (.ireturn, 1) := by decide +kernel
theorem dX11_best_12 : decode cX11_best 12 = .ok (.aload_n 0, 1) := by decide +kernel
theorem dX11_best_13 : decode cX11_best 13 = .ok (.getfield 54, 3) := by decide +kernel
theorem dX11_best_16 : decode cX11_best 16 = .ok (.iload_n 1, 1) := by decide +kernel
theorem dX11_best_17 : decode cX11_best 17 = .ok (.iconst 0, 1) := by decide +kernel
theorem dX11_best_18 : decode cX11_best 18 = .ok (.invokevirtual 266, 3) := by decide +kernel
theorem dX11_best_21 : decode cX11_best 21 = .ok (.aload_n 0, 1) := by decide +kernel
theorem dX11_best_22 : decode cX11_best 22 = .ok (.getfield 77, 3) := by decide +kernel
theorem dX11_best_25 : decode cX11_best 25 = .ok (.aload_n 0, 1) := by decide +kernel
theorem dX11_best_26 : decode cX11_best 26 = .ok (.getfield 19, 3) := by decide +kernel
theorem dX11_best_29 : decode cX11_best 29 = .ok (.getfield 150, 3) := by decide +kernel
theorem dX11_best_32 : decode cX11_best 32 = .ok (.iload_n 1, 1) := by decide +kernel
theorem dX11_best_33 : decode cX11_best 33 = .ok (.iaload, 1) := by decide +kernel
theorem dX11_best_34 : decode cX11_best 34 = .ok (.iload_n 2, 1) := by decide +kernel
theorem dX11_best_35 : decode cX11_best 35 = .ok (.invokevirtual 384, 3) := by decide +kernel
theorem dX11_best_38 : decode cX11_best 38 = .ok (.istore_n 3, 1) := by decide +kernel
theorem dX11_best_39 : decode cX11_best 39 = .ok (.iload_n 3, 1) := by decide +kernel
theorem dX11_best_40 : decode cX11_best 40 = .ok (.ifCond .gt 7, 3) := by decide +kernel
theorem dX11_best_43 : decode cX11_best 43 = .ok (.iconst (-1), 1) := by decide +kernel
theorem dX11_best_44 : decode cX11_best 44 = .ok (.goto 19, 3) := by decide +kernel
theorem dX11_best_47 : decode cX11_best 47 = .ok (.aload_n 0, 1) := by decide +kernel
theorem dX11_best_48 : decode cX11_best 48 = .ok (.getfield 77, 3) := by decide +kernel
theorem dX11_best_51 : decode cX11_best 51 = .ok (.aload_n 0, 1) := by decide +kernel
theorem dX11_best_52 : decode cX11_best 52 = .ok (.getfield 19, 3) := by decide +kernel
theorem dX11_best_55 : decode cX11_best 55 = .ok (.getfield 150, 3) := by decide +kernel
theorem dX11_best_58 : decode cX11_best 58 = .ok (.iload_n 1, 1) := by decide +kernel
theorem dX11_best_59 : decode cX11_best 59 = .ok (.iaload, 1) := by decide +kernel
theorem dX11_best_60 : decode cX11_best 60 = .ok (.invokevirtual 387, 3) := by decide +kernel
theorem dX11_best_63 : decode cX11_best 63 = .ok (.ireturn, 1) := by decide +kernel
theorem dX11_chance_0 : decode cX11_chance 0 = .ok (.aload_n 0, 1) := by decide +kernel
theorem dX11_chance_1 : decode cX11_chance 1 = .ok (.iload_n 1, 1) := by decide +kernel
theorem dX11_chance_2 : decode cX11_chance 2 = .ok (.iload_n 2, 1) := by decide +kernel
theorem dX11_chance_3 : decode cX11_chance 3 = .ok (.invokevirtual 188, 3) := by decide +kernel
theorem dX11_chance_6 : decode cX11_chance 6 = .ok (.ifCond .eq 12, 3) := by decide +kernel
theorem dX11_chance_9 : decode cX11_chance 9 = .ok (.iload_n 3, 1) := by decide +kernel
theorem dX11_chance_10 : decode cX11_chance 10 = .ok (.ifCond .eq 11, 3) := by decide +kernel
theorem dX11_chance_13 : decode cX11_chance 13 = .ok (.iload_n 3, 1) := by decide +kernel
theorem dX11_chance_14 : decode cX11_chance 14 = .ok (.iconst 1, 1) := by decide +kernel
theorem dX11_chance_15 : decode cX11_chance 15 = .ok (.if_icmp .eq 6, 3) := by decide +kernel
theorem dX11_chance_18 : decode cX11_chance 18 = .ok (.bipush (-2), 2) := by decide +kernel
theorem dX11_chance_20 : decode cX11_chance 20 = .ok (.ireturn, 1) := by decide +kernel
theorem dX11_chance_21 : decode cX11_chance 21 = .ok (.aload_n 0, 1) := by decide +kernel
theorem dX11_chance_22 : decode cX11_chance 22 = .ok (.getfield 77, 3) := by decide +kernel
theorem dX11_chance_25 : decode cX11_chance 25 = .ok (.iload_n 1, 1) := by decide +kernel
theorem dX11_chance_26 : decode cX11_chance 26 = .ok (.aload_n 0, 1) := by decide +kernel
theorem dX11_chance_27 : decode cX11_chance 27 = .ok (.getfield 19, 3) := by decide +kernel
theorem dX11_chance_30 : decode cX11_chance 30 = .ok (.getfield 150, 3) := by decide +kernel
theorem dX11_chance_33 : decode cX11_chance 33 = .ok (.iload_n 1, 1) := by decide +kernel
theorem dX11_chance_34 : decode cX11_chance 34 = .ok (.iaload, 1) := by decide +kernel
theorem dX11_chance_35 : decode cX11_chance 35 = .ok (.invokevirtual 390, 3) := by decide +kernel
theorem dX11_chance_38 : decode cX11_chance 38 = .ok (.aload_n 0, 1) := by decide +kernel
theorem dX11_chance_39 : decode cX11_chance 39 = .ok (.getfield 77, 3) := by decide +kernel
theorem dX11_chance_42 : decode cX11_chance 42 = .ok (.aload_n 0, 1) := by decide +kernel
theorem dX11_chance_43 : decode cX11_chance 43 = .ok (.getfield 77, 3) := by decide +kernel
theorem dX11_chance_46 : decode cX11_chance 46 = .ok (.iload_n 2, 1) := by decide +kernel
theorem dX11_chance_47 : decode cX11_chance 47 = .ok (.invokevirtual 394, 3) := by decide +kernel
theorem dX11_chance_50 : decode cX11_chance 50 = .ok (.iload_n 3, 1) := by decide +kernel
theorem dX11_chance_51 : decode cX11_chance 51 = .ok (.invokevirtual 397, 3) := by decide +kernel
theorem dX11_chance_54 : decode cX11_chance 54 = .ok (.ireturn, 1) := by decide +kernel
theorem dX11_by_0 : decode cX11_by 0 = .ok (.aload_n 0, 1) := by decide +kernel
theorem dX11_by_1 : decode cX11_by 1 = .ok (.iload_n 1, 1) := by decide +kernel
theorem dX11_by_2 : decode cX11_by 2 = .ok (.iload_n 2, 1) := by decide +kernel
theorem dX11_by_3 : decode cX11_by 3 = .ok (.invokevirtual 188, 3) := by decide +kernel
theorem dX11_by_6 : decode cX11_by 6 = .ok (.ifCond .ne 6, 3) := by decide +kernel
theorem dX11_by_9 : decode cX11_by 9 = .ok (.bipush (-2), 2) := by decide +kernel
theorem dX11_by_11 : decode cX11_by 11 = .ok (.ireturn, 1) := by decide +kernel
theorem dX11_by_12 : decode cX11_by 12 = .ok (.aload_n 0, 1) := by decide +kernel
theorem dX11_by_13 : decode cX11_by 13 = .ok (.getfield 77, 3) := by decide +kernel
theorem dX11_by_16 : decode cX11_by 16 = .ok (.iload_n 1, 1) := by decide +kernel
theorem dX11_by_17 : decode cX11_by 17 = .ok (.aload_n 0, 1) := by decide +kernel
theorem dX11_by_18 : decode cX11_by 18 = .ok (.getfield 19, 3) := by decide +kernel
theorem dX11_by_21 : decode cX11_by 21 = .ok (.getfield 150, 3) := by decide +kernel
theorem dX11_by_24 : decode cX11_by 24 = .ok (.iload_n 1, 1) := by decide +kernel
theorem dX11_by_25 : decode cX11_by 25 = .ok (.iaload, 1) := by decide +kernel
theorem dX11_by_26 : decode cX11_by 26 = .ok (.invokevirtual 390, 3) := by decide +kernel
theorem dX11_by_29 : decode cX11_by 29 = .ok (.aload_n 0, 1) := by decide +kernel
theorem dX11_by_30 : decode cX11_by 30 = .ok (.getfield 77, 3) := by decide +kernel
theorem dX11_by_33 : decode cX11_by 33 = .ok (.iload_n 2, 1) := by decide +kernel
theorem dX11_by_34 : decode cX11_by 34 = .ok (.invokevirtual 400, 3) := by decide +kernel
theorem dX11_by_37 : decode cX11_by 37 = .ok (.ireturn, 1) := by decide +kernel
theorem dX11_numbers_0 : decode cX11_numbers 0 = .ok (.aload_n 0, 1) := by decide +kernel
theorem dX11_numbers_1 : decode cX11_numbers 1 = .ok (.iload_n 1, 1) := by decide +kernel
theorem dX11_numbers_2 : decode cX11_numbers 2 = .ok (.invokevirtual 225, 3) := by decide +kernel
theorem dX11_numbers_5 : decode cX11_numbers 5 = .ok (.ifCond .eq 12, 3) := by decide +kernel
theorem dX11_numbers_8 : decode cX11_numbers 8 = .ok (.iload_n 2, 1) := by decide +kernel
theorem dX11_numbers_9 : decode cX11_numbers 9 = .ok (.ifCond .lt 8, 3) := by decide +kernel
theorem dX11_numbers_12 : decode cX11_numbers 12 = .ok (.iload_n 2, 1) := by decide +kernel
theorem dX11_numbers_13 : decode cX11_numbers 13 = .ok (.iconst 4, 1) := by decide +kernel
theorem dX11_numbers_14 : decode cX11_numbers 14 = .ok (.if_icmp .lt 6, 3) := by decide +kernel
theorem dX11_numbers_17 : decode cX11_numbers 17 = .ok (.bipush (-2), 2) := by decide +kernel
theorem dX11_numbers_19 : decode cX11_numbers 19 = .ok (.ireturn, 1) := by decide +kernel
theorem dX11_numbers_20 : decode cX11_numbers 20 = .ok (.iload_n 3, 1) := by decide +kernel
theorem dX11_numbers_21 : decode cX11_numbers 21 = .ok (.ifCond .lt 9, 3) := by decide +kernel
theorem dX11_numbers_24 : decode cX11_numbers 24 = .ok (.iload_n 3, 1) := by decide +kernel
theorem dX11_numbers_25 : decode cX11_numbers 25 = .ok (.bipush 40, 2) := by decide +kernel
theorem dX11_numbers_27 : decode cX11_numbers 27 = .ok (.if_icmp .le 6, 3) := by decide +kernel
theorem dX11_numbers_30 : decode cX11_numbers 30 = .ok (.bipush (-3), 2) := by decide +kernel
theorem dX11_numbers_32 : decode cX11_numbers 32 = .ok (.ireturn, 1) := by decide +kernel
theorem dX11_numbers_33 : decode cX11_numbers 33 = .ok (.aload_n 0, 1) := by decide +kernel
theorem dX11_numbers_34 : decode cX11_numbers 34 = .ok (.getfield 83, 3) := by decide +kernel
theorem dX11_numbers_37 : decode cX11_numbers 37 = .ok (.iload_n 1, 1) := by decide +kernel
theorem dX11_numbers_38 : decode cX11_numbers 38 = .ok (.aaload, 1) := by decide +kernel
theorem dX11_numbers_39 : decode cX11_numbers 39 = .ok (.iload_n 2, 1) := by decide +kernel
theorem dX11_numbers_40 : decode cX11_numbers 40 = .ok (.iload_n 3, 1) := by decide +kernel
theorem dX11_numbers_41 : decode cX11_numbers 41 = .ok (.invokevirtual 403, 3) := by decide +kernel
theorem dX11_numbers_44 : decode cX11_numbers 44 = .ok (.iconst 0, 1) := by decide +kernel
theorem dX11_numbers_45 : decode cX11_numbers 45 = .ok (.ireturn, 1) := by decide +kernel
theorem dX11_write_0 : decode cX11_write 0 = .ok (.aload_n 0, 1) := by decide +kernel
theorem dX11_write_1 : decode cX11_write 1 = .ok (.iload_n 1, 1) := by decide +kernel
theorem dX11_write_2 : decode cX11_write 2 = .ok (.invokevirtual 225, 3) := by decide +kernel
theorem dX11_write_5 : decode cX11_write 5 = .ok (.ifCond .ne 7, 3) := by decide +kernel
theorem dX11_write_8 : decode cX11_write 8 = .ok (.ldc2_w 279, 3) := by decide +kernel
theorem dX11_write_11 : decode cX11_write 11 = .ok (.lreturn, 1) := by decide +kernel
theorem dX11_write_12 : decode cX11_write 12 = .ok (.aload_n 0, 1) := by decide +kernel
theorem dX11_write_13 : decode cX11_write 13 = .ok (.getfield 83, 3) := by decide +kernel
theorem dX11_write_16 : decode cX11_write 16 = .ok (.iload_n 1, 1) := by decide +kernel
theorem dX11_write_17 : decode cX11_write 17 = .ok (.aaload, 1) := by decide +kernel
theorem dX11_write_18 : decode cX11_write 18 = .ok (.invokevirtual 228, 3) := by decide +kernel
theorem dX11_write_21 : decode cX11_write 21 = .ok (.ifCond .eq 7, 3) := by decide +kernel
theorem dX11_write_24 : decode cX11_write 24 = .ok (.ldc2_w 406, 3) := by decide +kernel
theorem dX11_write_27 : decode cX11_write 27 = .ok (.lreturn, 1) := by decide +kernel
theorem dX11_write_28 : decode cX11_write 28 = .ok (.iload_n 2, 1) := by decide +kernel
theorem dX11_write_29 : decode cX11_write 29 = .ok (.ifCond .lt 16, 3) := by decide +kernel
theorem dX11_write_32 : decode cX11_write 32 = .ok (.iload_n 2, 1) := by decide +kernel
theorem dX11_write_33 : decode cX11_write 33 = .ok (.aload_n 0, 1) := by decide +kernel
theorem dX11_write_34 : decode cX11_write 34 = .ok (.getfield 83, 3) := by decide +kernel
theorem dX11_write_37 : decode cX11_write 37 = .ok (.iload_n 1, 1) := by decide +kernel
theorem dX11_write_38 : decode cX11_write 38 = .ok (.aaload, 1) := by decide +kernel
theorem dX11_write_39 : decode cX11_write 39 = .ok (.getfield 236, 3) := by decide +kernel
theorem dX11_write_42 : decode cX11_write 42 = .ok (.if_icmp .lt 7, 3) := by decide +kernel
theorem dX11_write_45 : decode cX11_write 45 = .ok (.ldc2_w 408, 3) := by decide +kernel
theorem dX11_write_48 : decode cX11_write 48 = .ok (.lreturn, 1) := by decide +kernel
theorem dX11_write_49 : decode cX11_write 49 = .ok (.aload_n 0, 1) := by decide +kernel
theorem dX11_write_50 : decode cX11_write 50 = .ok (.getfield 83, 3) := by decide +kernel
theorem dX11_write_53 : decode cX11_write 53 = .ok (.iload_n 1, 1) := by decide +kernel
theorem dX11_write_54 : decode cX11_write 54 = .ok (.aaload, 1) := by decide +kernel
theorem dX11_write_55 : decode cX11_write 55 = .ok (.iload_n 2, 1) := by decide +kernel
theorem dX11_write_56 : decode cX11_write 56 = .ok (.lload_n 3, 1) := by decide +kernel
theorem dX11_write_57 : decode cX11_write 57 = .ok (.invokevirtual 410, 3) := by decide +kernel
theorem dX11_write_60 : decode cX11_write 60 = .ok (.lreturn, 1) := by decide +kernel
theorem dX11_lists_0 : decode cX11_lists 0 = .ok (.aload_n 0, 1) := by decide +kernel
theorem dX11_lists_1 : decode cX11_lists 1 = .ok (.iload_n 1, 1) := by decide +kernel
theorem dX11_lists_2 : decode cX11_lists 2 = .ok (.invokevirtual 225, 3) := by decide +kernel
theorem dX11_lists_5 : decode cX11_lists 5 = .ok (.ifCond .eq 12, 3) := by decide +kernel
theorem dX11_lists_8 : decode cX11_lists 8 = .ok (.aload_n 0, 1) := by decide +kernel
theorem dX11_lists_9 : decode cX11_lists 9 = .ok (.iload_n 2, 1) := by decide +kernel
theorem dX11_lists_10 : decode cX11_lists 10 = .ok (.iload_n 3, 1) := by decide +kernel
theorem dX11_lists_11 : decode cX11_lists 11 = .ok (.invokevirtual 188, 3) := by decide +kernel
theorem dX11_lists_14 : decode cX11_lists 14 = .ok (.ifCond .ne 6, 3) := by decide +kernel
theorem dX11_lists_17 : decode cX11_lists 17 = .ok (.bipush (-2), 2) := by decide +kernel
theorem dX11_lists_19 : decode cX11_lists 19 = .ok (.ireturn, 1) := by decide +kernel
theorem dX11_lists_20 : decode cX11_lists 20 = .ok (.aload_n 0, 1) := by decide +kernel
theorem dX11_lists_21 : decode cX11_lists 21 = .ok (.getfield 83, 3) := by decide +kernel
theorem dX11_lists_24 : decode cX11_lists 24 = .ok (.iload_n 1, 1) := by decide +kernel
theorem dX11_lists_25 : decode cX11_lists 25 = .ok (.aaload, 1) := by decide +kernel
theorem dX11_lists_26 : decode cX11_lists 26 = .ok (.invokevirtual 228, 3) := by decide +kernel
theorem dX11_lists_29 : decode cX11_lists 29 = .ok (.ifCond .eq 6, 3) := by decide +kernel
theorem dX11_lists_32 : decode cX11_lists 32 = .ok (.bipush (-6), 2) := by decide +kernel
theorem dX11_lists_34 : decode cX11_lists 34 = .ok (.ireturn, 1) := by decide +kernel
theorem dX11_lists_35 : decode cX11_lists 35 = .ok (.aload_n 0, 1) := by decide +kernel
theorem dX11_lists_36 : decode cX11_lists 36 = .ok (.getfield 54, 3) := by decide +kernel
theorem dX11_lists_39 : decode cX11_lists 39 = .ok (.iload_n 2, 1) := by decide +kernel
theorem dX11_lists_40 : decode cX11_lists 40 = .ok (.iconst 0, 1) := by decide +kernel
theorem dX11_lists_41 : decode cX11_lists 41 = .ok (.invokevirtual 266, 3) := by decide +kernel
theorem dX11_lists_44 : decode cX11_lists 44 = .ok (.aload_n 0, 1) := by decide +kernel
theorem dX11_lists_45 : decode cX11_lists 45 = .ok (.getfield 54, 3) := by decide +kernel
theorem dX11_lists_48 : decode cX11_lists 48 = .ok (.iload_n 3, 1) := by decide +kernel
theorem dX11_lists_49 : decode cX11_lists 49 = .ok (.invokevirtual 270, 3) := by decide +kernel
theorem dX11_lists_52 : decode cX11_lists 52 = .ok (.aload_n 0, 1) := by decide +kernel
theorem dX11_lists_53 : decode cX11_lists 53 = .ok (.getfield 19, 3) := by decide +kernel
theorem dX11_lists_56 : decode cX11_lists 56 = .ok (.getfield 150, 3) := by decide +kernel
theorem dX11_lists_59 : decode cX11_lists 59 = .ok (.iload_n 2, 1) := by decide +kernel
theorem dX11_lists_60 : decode cX11_lists 60 = .ok (.iaload, 1) := by decide +kernel
theorem dX11_lists_61 : decode cX11_lists 61 = .ok (.istore 4, 2) := by decide +kernel
theorem dX11_lists_63 : decode cX11_lists 63 = .ok (.aload_n 0, 1) := by decide +kernel
theorem dX11_lists_64 : decode cX11_lists 64 = .ok (.getfield 54, 3) := by decide +kernel
theorem dX11_lists_67 : decode cX11_lists 67 = .ok (.getfield 273, 3) := by decide +kernel
theorem dX11_lists_70 : decode cX11_lists 70 = .ok (.iload 4, 2) := by decide +kernel
theorem dX11_lists_72 : decode cX11_lists 72 = .ok (.iaload, 1) := by decide +kernel
theorem dX11_lists_73 : decode cX11_lists 73 = .ok (.iconst (-1), 1) := by decide +kernel
theorem dX11_lists_74 : decode cX11_lists 74 = .ok (.if_icmp .ne 6, 3) := by decide +kernel
theorem dX11_lists_77 : decode cX11_lists 77 = .ok (.bipush (-5), 2) := by decide +kernel
theorem dX11_lists_79 : decode cX11_lists 79 = .ok (.ireturn, 1) := by decide +kernel
theorem dX11_lists_80 : decode cX11_lists 80 = .ok (.aload_n 0, 1) := by decide +kernel
theorem dX11_lists_81 : decode cX11_lists 81 = .ok (.getfield 54, 3) := by decide +kernel
theorem dX11_lists_84 : decode cX11_lists 84 = .ok (.getfield 273, 3) := by decide +kernel
theorem dX11_lists_87 : decode cX11_lists 87 = .ok (.iload 4, 2) := by decide +kernel
theorem dX11_lists_89 : decode cX11_lists 89 = .ok (.iaload, 1) := by decide +kernel
theorem dX11_lists_90 : decode cX11_lists 90 = .ok (.aload_n 0, 1) := by decide +kernel
theorem dX11_lists_91 : decode cX11_lists 91 = .ok (.getfield 83, 3) := by decide +kernel
theorem dX11_lists_94 : decode cX11_lists 94 = .ok (.iload_n 1, 1) := by decide +kernel
theorem dX11_lists_95 : decode cX11_lists 95 = .ok (.aaload, 1) := by decide +kernel
theorem dX11_lists_96 : decode cX11_lists 96 = .ok (.getfield 236, 3) := by decide +kernel
theorem dX11_lists_99 : decode cX11_lists 99 = .ok (.invokestatic 414, 3) := by decide +kernel
theorem dX11_lists_102 : decode cX11_lists 102 = .ok (.istore 5, 2) := by decide +kernel
theorem dX11_lists_104 : decode cX11_lists 104 = .ok (.iconst 0, 1) := by decide +kernel
theorem dX11_lists_105 : decode cX11_lists 105 = .ok (.istore 6, 2) := by decide +kernel
theorem dX11_lists_107 : decode cX11_lists 107 = .ok (.iload 6, 2) := by decide +kernel
theorem dX11_lists_109 : decode cX11_lists 109 = .ok (.iload 5, 2) := by decide +kernel
theorem dX11_lists_111 : decode cX11_lists 111 = .ok (.if_icmp .ge 43, 3) := by decide +kernel
theorem dX11_lists_114 : decode cX11_lists 114 = .ok (.aload_n 0, 1) := by decide +kernel
theorem dX11_lists_115 : decode cX11_lists 115 = .ok (.getfield 54, 3) := by decide +kernel
theorem dX11_lists_118 : decode cX11_lists 118 = .ok (.iload_n 2, 1) := by decide +kernel
theorem dX11_lists_119 : decode cX11_lists 119 = .ok (.iload 4, 2) := by decide +kernel
theorem dX11_lists_121 : decode cX11_lists 121 = .ok (.invokevirtual 276, 3) := by decide +kernel
theorem dX11_lists_124 : decode cX11_lists 124 = .ok (.istore 7, 2) := by decide +kernel
theorem dX11_lists_126 : decode cX11_lists 126 = .ok (.aload_n 0, 1) := by decide +kernel
theorem dX11_lists_127 : decode cX11_lists 127 = .ok (.getfield 83, 3) := by decide +kernel
theorem dX11_lists_130 : decode cX11_lists 130 = .ok (.iload_n 1, 1) := by decide +kernel
theorem dX11_lists_131 : decode cX11_lists 131 = .ok (.aaload, 1) := by decide +kernel
theorem dX11_lists_132 : decode cX11_lists 132 = .ok (.iload 6, 2) := by decide +kernel
theorem dX11_lists_134 : decode cX11_lists 134 = .ok (.iload 7, 2) := by decide +kernel
theorem dX11_lists_136 : decode cX11_lists 136 = .ok (.i2l, 1) := by decide +kernel
theorem dX11_lists_137 : decode cX11_lists 137 = .ok (.invokevirtual 410, 3) := by decide +kernel
theorem dX11_lists_140 : decode cX11_lists 140 = .ok (.pop2, 1) := by decide +kernel
theorem dX11_lists_141 : decode cX11_lists 141 = .ok (.iload 7, 2) := by decide +kernel
theorem dX11_lists_143 : decode cX11_lists 143 = .ok (.bipush 10, 2) := by decide +kernel
theorem dX11_lists_145 : decode cX11_lists 145 = .ok (.irem, 1) := by decide +kernel
theorem dX11_lists_146 : decode cX11_lists 146 = .ok (.istore 4, 2) := by decide +kernel
theorem dX11_lists_148 : decode cX11_lists 148 = .ok (.iinc 6 1, 3) := by decide +kernel
theorem dX11_lists_151 : decode cX11_lists 151 = .ok (.goto (-44), 3) := by decide +kernel
theorem dX11_lists_154 : decode cX11_lists 154 = .ok (.iload 5, 2) := by decide +kernel
theorem dX11_lists_156 : decode cX11_lists 156 = .ok (.ireturn, 1) := by decide +kernel
theorem dX11_image_0 : decode cX11_image 0 = .ok (.iload_n 1, 1) := by decide +kernel
theorem dX11_image_1 : decode cX11_image 1 = .ok (.ifCond .lt 8, 3) := by decide +kernel
theorem dX11_image_4 : decode cX11_image 4 = .ok (.iload_n 1, 1) := by decide +kernel
theorem dX11_image_5 : decode cX11_image 5 = .ok (.iconst 2, 1) := by decide +kernel
theorem dX11_image_6 : decode cX11_image 6 = .ok (.if_icmp .lt 6, 3) := by decide +kernel
theorem dX11_image_9 : decode cX11_image 9 = .ok (.bipush (-2), 2) := by decide +kernel
theorem dX11_image_11 : decode cX11_image 11 = .ok (.ireturn, 1) := by decide +kernel
theorem dX11_image_12 : decode cX11_image 12 = .ok (.aload_n 0, 1) := by decide +kernel
theorem dX11_image_13 : decode cX11_image 13 = .ok (.getfield 87, 3) := by decide +kernel
theorem dX11_image_16 : decode cX11_image 16 = .ok (.iload_n 1, 1) := by decide +kernel
theorem dX11_image_17 : decode cX11_image 17 = .ok (.aaload, 1) := by decide +kernel
theorem dX11_image_18 : decode cX11_image 18 = .ok (.aload_n 0, 1) := by decide +kernel
theorem dX11_image_19 : decode cX11_image 19 = .ok (.getfield 10, 3) := by decide +kernel
theorem dX11_image_22 : decode cX11_image 22 = .ok (.invokevirtual 118, 3) := by decide +kernel
theorem dX11_image_25 : decode cX11_image 25 = .ok (.aload_n 0, 1) := by decide +kernel
theorem dX11_image_26 : decode cX11_image 26 = .ok (.getfield 91, 3) := by decide +kernel
theorem dX11_image_29 : decode cX11_image 29 = .ok (.iload_n 1, 1) := by decide +kernel
theorem dX11_image_30 : decode cX11_image 30 = .ok (.aaload, 1) := by decide +kernel
theorem dX11_image_31 : decode cX11_image 31 = .ok (.aload_n 0, 1) := by decide +kernel
theorem dX11_image_32 : decode cX11_image 32 = .ok (.getfield 19, 3) := by decide +kernel
theorem dX11_image_35 : decode cX11_image 35 = .ok (.invokevirtual 206, 3) := by decide +kernel
theorem dX11_image_38 : decode cX11_image 38 = .ok (.aload_n 0, 1) := by decide +kernel
theorem dX11_image_39 : decode cX11_image 39 = .ok (.getfield 95, 3) := by decide +kernel
theorem dX11_image_42 : decode cX11_image 42 = .ok (.iload_n 1, 1) := by decide +kernel
theorem dX11_image_43 : decode cX11_image 43 = .ok (.iconst 1, 1) := by decide +kernel
theorem dX11_image_44 : decode cX11_image 44 = .ok (.bastore, 1) := by decide +kernel
theorem dX11_image_45 : decode cX11_image 45 = .ok (.iconst 0, 1) := by decide +kernel
theorem dX11_image_46 : decode cX11_image 46 = .ok (.ireturn, 1) := by decide +kernel
theorem dX11_restore_0 : decode cX11_restore 0 = .ok (.iload_n 1, 1) := by decide +kernel
theorem dX11_restore_1 : decode cX11_restore 1 = .ok (.ifCond .lt 8, 3) := by decide +kernel
theorem dX11_restore_4 : decode cX11_restore 4 = .ok (.iload_n 1, 1) := by decide +kernel
theorem dX11_restore_5 : decode cX11_restore 5 = .ok (.iconst 2, 1) := by decide +kernel
theorem dX11_restore_6 : decode cX11_restore 6 = .ok (.if_icmp .lt 6, 3) := by decide +kernel
theorem dX11_restore_9 : decode cX11_restore 9 = .ok (.bipush (-2), 2) := by decide +kernel
theorem dX11_restore_11 : decode cX11_restore 11 = .ok (.ireturn, 1) := by decide +kernel
theorem dX11_restore_12 : decode cX11_restore 12 = .ok (.aload_n 0, 1) := by decide +kernel
theorem dX11_restore_13 : decode cX11_restore 13 = .ok (.getfield 95, 3) := by decide +kernel
theorem dX11_restore_16 : decode cX11_restore 16 = .ok (.iload_n 1, 1) := by decide +kernel
theorem dX11_restore_17 : decode cX11_restore 17 = .ok (.baload, 1) := by decide +kernel
theorem dX11_restore_18 : decode cX11_restore 18 = .ok (.ifCond .ne 6, 3) := by decide +kernel
theorem dX11_restore_21 : decode cX11_restore 21 = .ok (.bipush (-5), 2) := by decide +kernel
theorem dX11_restore_23 : decode cX11_restore 23 = .ok (.ireturn, 1) := by decide +kernel
theorem dX11_restore_24 : decode cX11_restore 24 = .ok (.aload_n 0, 1) := by decide +kernel
theorem dX11_restore_25 : decode cX11_restore 25 = .ok (.getfield 10, 3) := by decide +kernel
theorem dX11_restore_28 : decode cX11_restore 28 = .ok (.aload_n 0, 1) := by decide +kernel
theorem dX11_restore_29 : decode cX11_restore 29 = .ok (.getfield 87, 3) := by decide +kernel
theorem dX11_restore_32 : decode cX11_restore 32 = .ok (.iload_n 1, 1) := by decide +kernel
theorem dX11_restore_33 : decode cX11_restore 33 = .ok (.aaload, 1) := by decide +kernel
theorem dX11_restore_34 : decode cX11_restore 34 = .ok (.invokevirtual 118, 3) := by decide +kernel
theorem dX11_restore_37 : decode cX11_restore 37 = .ok (.aload_n 0, 1) := by decide +kernel
theorem dX11_restore_38 : decode cX11_restore 38 = .ok (.getfield 19, 3) := by decide +kernel
theorem dX11_restore_41 : decode cX11_restore 41 = .ok (.aload_n 0, 1) := by decide +kernel
theorem dX11_restore_42 : decode cX11_restore 42 = .ok (.getfield 91, 3) := by decide +kernel
theorem dX11_restore_45 : decode cX11_restore 45 = .ok (.iload_n 1, 1) := by decide +kernel
theorem dX11_restore_46 : decode cX11_restore 46 = .ok (.aaload, 1) := by decide +kernel
theorem dX11_restore_47 : decode cX11_restore 47 = .ok (.invokevirtual 206, 3) := by decide +kernel
theorem dX11_restore_50 : decode cX11_restore 50 = .ok (.aload_n 0, 1) := by decide +kernel
theorem dX11_restore_51 : decode cX11_restore 51 = .ok (.getfield 29, 3) := by decide +kernel
theorem dX11_restore_54 : decode cX11_restore 54 = .ok (.invokevirtual 125, 3) := by decide +kernel
theorem dX11_restore_57 : decode cX11_restore 57 = .ok (.iconst 0, 1) := by decide +kernel
theorem dX11_restore_58 : decode cX11_restore 58 = .ok (.ireturn, 1) := by decide +kernel
theorem dX11_count_0 : decode cX11_count 0 = .ok (.iload_n 1, 1) := by decide +kernel
theorem dX11_count_1 : decode cX11_count 1 = .ok (.tableswitch 147 0 10 #[59, 67, 75, 83, 91, 99, 107, 115, 123, 131, 139], 59) := by decide +kernel
theorem dX11_count_60 : decode cX11_count 60 = .ok (.aload_n 0, 1) := by decide +kernel
theorem dX11_count_61 : decode cX11_count 61 = .ok (.getfield 10, 3) := by decide +kernel
theorem dX11_count_64 : decode cX11_count 64 = .ok (.getfield 419, 3) := by decide +kernel
theorem dX11_count_67 : decode cX11_count 67 = .ok (.ireturn, 1) := by decide +kernel
theorem dX11_count_68 : decode cX11_count 68 = .ok (.aload_n 0, 1) := by decide +kernel
theorem dX11_count_69 : decode cX11_count 69 = .ok (.getfield 10, 3) := by decide +kernel
theorem dX11_count_72 : decode cX11_count 72 = .ok (.getfield 162, 3) := by decide +kernel
theorem dX11_count_75 : decode cX11_count 75 = .ok (.ireturn, 1) := by decide +kernel
theorem dX11_count_76 : decode cX11_count 76 = .ok (.aload_n 0, 1) := by decide +kernel
theorem dX11_count_77 : decode cX11_count 77 = .ok (.getfield 10, 3) := by decide +kernel
theorem dX11_count_80 : decode cX11_count 80 = .ok (.getfield 422, 3) := by decide +kernel
theorem dX11_count_83 : decode cX11_count 83 = .ok (.ireturn, 1) := by decide +kernel
theorem dX11_count_84 : decode cX11_count 84 = .ok (.aload_n 0, 1) := by decide +kernel
theorem dX11_count_85 : decode cX11_count 85 = .ok (.getfield 10, 3) := by decide +kernel
theorem dX11_count_88 : decode cX11_count 88 = .ok (.getfield 425, 3) := by decide +kernel
theorem dX11_count_91 : decode cX11_count 91 = .ok (.ireturn, 1) := by decide +kernel
theorem dX11_count_92 : decode cX11_count 92 = .ok (.aload_n 0, 1) := by decide +kernel
theorem dX11_count_93 : decode cX11_count 93 = .ok (.getfield 19, 3) := by decide +kernel
theorem dX11_count_96 : decode cX11_count 96 = .ok (.getfield 181, 3) := by decide +kernel
theorem dX11_count_99 : decode cX11_count 99 = .ok (.ireturn, 1) := by decide +kernel
theorem dX11_count_100 : decode cX11_count 100 = .ok (.aload_n 0, 1) := by decide +kernel
theorem dX11_count_101 : decode cX11_count 101 = .ok (.getfield 19, 3) := by decide +kernel
theorem dX11_count_104 : decode cX11_count 104 = .ok (.invokevirtual 428, 3) := by decide +kernel
theorem dX11_count_107 : decode cX11_count 107 = .ok (.ireturn, 1) := by decide +kernel
theorem dX11_count_108 : decode cX11_count 108 = .ok (.aload_n 0, 1) := by decide +kernel
theorem dX11_count_109 : decode cX11_count 109 = .ok (.getfield 19, 3) := by decide +kernel
theorem dX11_count_112 : decode cX11_count 112 = .ok (.getfield 431, 3) := by decide +kernel
theorem dX11_count_115 : decode cX11_count 115 = .ok (.ireturn, 1) := by decide +kernel
theorem dX11_count_116 : decode cX11_count 116 = .ok (.aload_n 0, 1) := by decide +kernel
theorem dX11_count_117 : decode cX11_count 117 = .ok (.getfield 19, 3) := by decide +kernel
theorem dX11_count_120 : decode cX11_count 120 = .ok (.invokevirtual 249, 3) := by decide +kernel
theorem dX11_count_123 : decode cX11_count 123 = .ok (.ireturn, 1) := by decide +kernel
theorem dX11_count_124 : decode cX11_count 124 = .ok (.aload_n 0, 1) := by decide +kernel
theorem dX11_count_125 : decode cX11_count 125 = .ok (.getfield 29, 3) := by decide +kernel
theorem dX11_count_128 : decode cX11_count 128 = .ok (.getfield 218, 3) := by decide +kernel
theorem dX11_count_131 : decode cX11_count 131 = .ok (.ireturn, 1) := by decide +kernel
theorem dX11_count_132 : decode cX11_count 132 = .ok (.aload_n 0, 1) := by decide +kernel
theorem dX11_count_133 : decode cX11_count 133 = .ok (.getfield 36, 3) := by decide +kernel
theorem dX11_count_136 : decode cX11_count 136 = .ok (.getfield 100, 3) := by decide +kernel
theorem dX11_count_139 : decode cX11_count 139 = .ok (.ireturn, 1) := by decide +kernel
theorem dX11_count_140 : decode cX11_count 140 = .ok (.aload_n 0, 1) := by decide +kernel
theorem dX11_count_141 : decode cX11_count 141 = .ok (.getfield 10, 3) := by decide +kernel
theorem dX11_count_144 : decode cX11_count 144 = .ok (.getfield 128, 3) := by decide +kernel
theorem dX11_count_147 : decode cX11_count 147 = .ok (.ireturn, 1) := by decide +kernel
theorem dX11_count_148 : decode cX11_count 148 = .ok (.iconst (-1), 1) := by decide +kernel
theorem dX11_count_149 : decode cX11_count 149 = .ok (.ireturn, 1) := by decide +kernel
theorem dX11_hasTray_0 : decode cX11_hasTray 0 = .ok (.iload_n 1, 1) := by decide +kernel
theorem dX11_hasTray_1 : decode cX11_hasTray 1 = .ok (.ifCond .lt 12, 3) := by decide +kernel
theorem dX11_hasTray_4 : decode cX11_hasTray 4 = .ok (.iload_n 1, 1) := by decide +kernel
theorem dX11_hasTray_5 : decode cX11_hasTray 5 = .ok (.iconst 4, 1) := by decide +kernel
theorem dX11_hasTray_6 : decode cX11_hasTray 6 = .ok (.if_icmp .ge 7, 3) := by decide +kernel
theorem dX11_hasTray_9 : decode cX11_hasTray 9 = .ok (.iconst 1, 1) := by decide +kernel
theorem dX11_hasTray_10 : decode cX11_hasTray 10 = .ok (.goto 4, 3) := by decide +kernel
theorem dX11_hasTray_13 : decode cX11_hasTray 13 = .ok (.iconst 0, 1) := by decide +kernel
theorem dX11_hasTray_14 : decode cX11_hasTray 14 = .ok (.ireturn, 1) := by decide +kernel
theorem dX11_coinAndPlace_0 : decode cX11_coinAndPlace 0 = .ok (.aload_n 0, 1) := by decide +kernel
theorem dX11_coinAndPlace_1 : decode cX11_coinAndPlace 1 = .ok (.getfield 10, 3) := by decide +kernel
theorem dX11_coinAndPlace_4 : decode cX11_coinAndPlace 4 = .ok (.iload_n 1, 1) := by decide +kernel
theorem dX11_coinAndPlace_5 : decode cX11_coinAndPlace 5 = .ok (.invokevirtual 147, 3) := by decide +kernel
theorem dX11_coinAndPlace_8 : decode cX11_coinAndPlace 8 = .ok (.ifCond .eq 18, 3) := by decide +kernel
theorem dX11_coinAndPlace_11 : decode cX11_coinAndPlace 11 = .ok (.aload_n 0, 1) := by decide +kernel
theorem dX11_coinAndPlace_12 : decode cX11_coinAndPlace 12 = .ok (.getfield 10, 3) := by decide +kernel
theorem dX11_coinAndPlace_15 : decode cX11_coinAndPlace 15 = .ok (.iload_n 2, 1) := by decide +kernel
theorem dX11_coinAndPlace_16 : decode cX11_coinAndPlace 16 = .ok (.invokevirtual 174, 3) := by decide +kernel
theorem dX11_coinAndPlace_19 : decode cX11_coinAndPlace 19 = .ok (.ifCond .eq 7, 3) := by decide +kernel
theorem dX11_coinAndPlace_22 : decode cX11_coinAndPlace 22 = .ok (.iconst 1, 1) := by decide +kernel
theorem dX11_coinAndPlace_23 : decode cX11_coinAndPlace 23 = .ok (.goto 4, 3) := by decide +kernel
theorem dX11_coinAndPlace_26 : decode cX11_coinAndPlace 26 = .ok (.iconst 0, 1) := by decide +kernel
theorem dX11_coinAndPlace_27 : decode cX11_coinAndPlace 27 = .ok (.ireturn, 1) := by decide +kernel
theorem dX11_isWeight_0 : decode cX11_isWeight 0 = .ok (.iload_n 0, 1) := by decide +kernel
theorem dX11_isWeight_1 : decode cX11_isWeight 1 = .ok (.ifCond .lt 13, 3) := by decide +kernel
theorem dX11_isWeight_4 : decode cX11_isWeight 4 = .ok (.iload_n 0, 1) := by decide +kernel
theorem dX11_isWeight_5 : decode cX11_isWeight 5 = .ok (.bipush 99, 2) := by decide +kernel
theorem dX11_isWeight_7 : decode cX11_isWeight 7 = .ok (.if_icmp .gt 7, 3) := by decide +kernel
theorem dX11_isWeight_10 : decode cX11_isWeight 10 = .ok (.iconst 1, 1) := by decide +kernel
theorem dX11_isWeight_11 : decode cX11_isWeight 11 = .ok (.goto 4, 3) := by decide +kernel
theorem dX11_isWeight_14 : decode cX11_isWeight 14 = .ok (.iconst 0, 1) := by decide +kernel
theorem dX11_isWeight_15 : decode cX11_isWeight 15 = .ok (.ireturn, 1) := by decide +kernel
theorem dX11_sizeOrSet_0 : decode cX11_sizeOrSet 0 = .ok (.iload_n 0, 1) := by decide +kernel
theorem dX11_sizeOrSet_1 : decode cX11_sizeOrSet 1 = .ok (.iconst (-1), 1) := by decide +kernel
theorem dX11_sizeOrSet_2 : decode cX11_sizeOrSet 2 = .ok (.if_icmp .ne 5, 3) := by decide +kernel
theorem dX11_sizeOrSet_5 : decode cX11_sizeOrSet 5 = .ok (.iconst (-1), 1) := by decide +kernel
theorem dX11_sizeOrSet_6 : decode cX11_sizeOrSet 6 = .ok (.ireturn, 1) := by decide +kernel
theorem dX11_sizeOrSet_7 : decode cX11_sizeOrSet 7 = .ok (.iload_n 1, 1) := by decide +kernel
theorem dX11_sizeOrSet_8 : decode cX11_sizeOrSet 8 = .ok (.ifCond .ne 10, 3) := by decide +kernel
theorem dX11_sizeOrSet_11 : decode cX11_sizeOrSet 11 = .ok (.iload_n 0, 1) := by decide +kernel
theorem dX11_sizeOrSet_12 : decode cX11_sizeOrSet 12 = .ok (.invokestatic 434, 3) := by decide +kernel
theorem dX11_sizeOrSet_15 : decode cX11_sizeOrSet 15 = .ok (.goto 4, 3) := by decide +kernel
theorem dX11_sizeOrSet_18 : decode cX11_sizeOrSet 18 = .ok (.iload_n 0, 1) := by decide +kernel
theorem dX11_sizeOrSet_19 : decode cX11_sizeOrSet 19 = .ok (.ireturn, 1) := by decide +kernel
theorem dX11_isIn_0 : decode cX11_isIn 0 = .ok (.iload_n 0, 1) := by decide +kernel
theorem dX11_isIn_1 : decode cX11_isIn 1 = .ok (.iload_n 1, 1) := by decide +kernel
theorem dX11_isIn_2 : decode cX11_isIn 2 = .ok (.ishr, 1) := by decide +kernel
theorem dX11_isIn_3 : decode cX11_isIn 3 = .ok (.iconst 1, 1) := by decide +kernel
theorem dX11_isIn_4 : decode cX11_isIn 4 = .ok (.iand, 1) := by decide +kernel
theorem dX11_isIn_5 : decode cX11_isIn 5 = .ok (.ifCond .eq 7, 3) := by decide +kernel
theorem dX11_isIn_8 : decode cX11_isIn 8 = .ok (.iconst 1, 1) := by decide +kernel
theorem dX11_isIn_9 : decode cX11_isIn 9 = .ok (.goto 4, 3) := by decide +kernel
theorem dX11_isIn_12 : decode cX11_isIn 12 = .ok (.iconst 0, 1) := by decide +kernel
theorem dX11_isIn_13 : decode cX11_isIn 13 = .ok (.ireturn, 1) := by decide +kernel
theorem dX11_deedOf_0 : decode cX11_deedOf 0 = .ok (.sipush 10000, 3) := by decide +kernel
theorem dX11_deedOf_3 : decode cX11_deedOf 3 = .ok (.sipush 1000, 3) := by decide +kernel
theorem dX11_deedOf_6 : decode cX11_deedOf 6 = .ok (.iload_n 0, 1) := by decide +kernel
theorem dX11_deedOf_7 : decode cX11_deedOf 7 = .ok (.imul, 1) := by decide +kernel
theorem dX11_deedOf_8 : decode cX11_deedOf 8 = .ok (.iadd, 1) := by decide +kernel
theorem dX11_deedOf_9 : decode cX11_deedOf 9 = .ok (.bipush 100, 2) := by decide +kernel
theorem dX11_deedOf_11 : decode cX11_deedOf 11 = .ok (.iload_n 1, 1) := by decide +kernel
theorem dX11_deedOf_12 : decode cX11_deedOf 12 = .ok (.imul, 1) := by decide +kernel
theorem dX11_deedOf_13 : decode cX11_deedOf 13 = .ok (.iadd, 1) := by decide +kernel
theorem dX11_deedOf_14 : decode cX11_deedOf 14 = .ok (.bipush 10, 2) := by decide +kernel
theorem dX11_deedOf_16 : decode cX11_deedOf 16 = .ok (.iload_n 2, 1) := by decide +kernel
theorem dX11_deedOf_17 : decode cX11_deedOf 17 = .ok (.imul, 1) := by decide +kernel
theorem dX11_deedOf_18 : decode cX11_deedOf 18 = .ok (.iadd, 1) := by decide +kernel
theorem dX11_deedOf_19 : decode cX11_deedOf 19 = .ok (.iload_n 3, 1) := by decide +kernel
theorem dX11_deedOf_20 : decode cX11_deedOf 20 = .ok (.iadd, 1) := by decide +kernel
theorem dX11_deedOf_21 : decode cX11_deedOf 21 = .ok (.ireturn, 1) := by decide +kernel
theorem dX12_within_0 : decode cX12_within 0 = .ok (.lload_n 0, 1) := by decide +kernel
theorem dX12_within_1 : decode cX12_within 1 = .ok (.lload_n 2, 1) := by decide +kernel
theorem dX12_within_2 : decode cX12_within 2 = .ok (.lcmp, 1) := by decide +kernel
theorem dX12_within_3 : decode cX12_within 3 = .ok (.ifCond .lt 14, 3) := by decide +kernel
theorem dX12_within_6 : decode cX12_within 6 = .ok (.lload_n 0, 1) := by decide +kernel
theorem dX12_within_7 : decode cX12_within 7 = .ok (.lload 4, 2) := by decide +kernel
theorem dX12_within_9 : decode cX12_within 9 = .ok (.lcmp, 1) := by decide +kernel
theorem dX12_within_10 : decode cX12_within 10 = .ok (.ifCond .gt 7, 3) := by decide +kernel
theorem dX12_within_13 : decode cX12_within 13 = .ok (.iconst 1, 1) := by decide +kernel
theorem dX12_within_14 : decode cX12_within 14 = .ok (.goto 4, 3) := by decide +kernel
theorem dX12_within_17 : decode cX12_within 17 = .ok (.iconst 0, 1) := by decide +kernel
theorem dX12_within_18 : decode cX12_within 18 = .ok (.ireturn, 1) := by decide +kernel
theorem dX12_init_0 : decode cX12_init 0 = .ok (.aload_n 0, 1) := by decide +kernel
theorem dX12_init_1 : decode cX12_init 1 = .ok (.invokespecial 7, 3) := by decide +kernel
theorem dX12_init_4 : decode cX12_init 4 = .ok (.aload_n 0, 1) := by decide +kernel
theorem dX12_init_5 : decode cX12_init 5 = .ok (.sipush 3486, 3) := by decide +kernel
theorem dX12_init_8 : decode cX12_init 8 = .ok (.newarray .int, 2) := by decide +kernel
theorem dX12_init_10 : decode cX12_init 10 = .ok (.putfield 13, 3) := by decide +kernel
theorem dX12_init_13 : decode cX12_init 13 = .ok (.aload_n 0, 1) := by decide +kernel
theorem dX12_init_14 : decode cX12_init 14 = .ok (.iconst 2, 1) := by decide +kernel
theorem dX12_init_15 : decode cX12_init 15 = .ok (.newarray .boolean, 2) := by decide +kernel
theorem dX12_init_17 : decode cX12_init 17 = .ok (.putfield 17, 3) := by decide +kernel
theorem dX12_init_20 : decode cX12_init 20 = .ok (.aload_n 0, 1) := by decide +kernel
theorem dX12_init_21 : decode cX12_init 21 = .ok (.sipush 900, 3) := by decide +kernel
theorem dX12_init_24 : decode cX12_init 24 = .ok (.newarray .int, 2) := by decide +kernel
theorem dX12_init_26 : decode cX12_init 26 = .ok (.putfield 21, 3) := by decide +kernel
theorem dX12_init_29 : decode cX12_init 29 = .ok (.aload_n 0, 1) := by decide +kernel
theorem dX12_init_30 : decode cX12_init 30 = .ok (.sipush 1162, 3) := by decide +kernel
theorem dX12_init_33 : decode cX12_init 33 = .ok (.newarray .int, 2) := by decide +kernel
theorem dX12_init_35 : decode cX12_init 35 = .ok (.putfield 24, 3) := by decide +kernel
theorem dX12_init_38 : decode cX12_init 38 = .ok (.aload_n 0, 1) := by decide +kernel
theorem dX12_init_39 : decode cX12_init 39 = .ok (.iconst (-1), 1) := by decide +kernel
theorem dX12_init_40 : decode cX12_init 40 = .ok (.putfield 27, 3) := by decide +kernel
theorem dX12_init_43 : decode cX12_init 43 = .ok (.aload_n 0, 1) := by decide +kernel
theorem dX12_init_44 : decode cX12_init 44 = .ok (.bipush 36, 2) := by decide +kernel
theorem dX12_init_46 : decode cX12_init 46 = .ok (.newarray .int, 2) := by decide +kernel
theorem dX12_init_48 : decode cX12_init 48 = .ok (.putfield 30, 3) := by decide +kernel
theorem dX12_init_51 : decode cX12_init 51 = .ok (.aload_n 0, 1) := by decide +kernel
theorem dX12_init_52 : decode cX12_init 52 = .ok (.sipush 900, 3) := by decide +kernel
theorem dX12_init_55 : decode cX12_init 55 = .ok (.newarray .int, 2) := by decide +kernel
theorem dX12_init_57 : decode cX12_init 57 = .ok (.putfield 33, 3) := by decide +kernel
theorem dX12_init_60 : decode cX12_init 60 = .ok (.aload_n 0, 1) := by decide +kernel
theorem dX12_init_61 : decode cX12_init 61 = .ok (.bipush 6, 2) := by decide +kernel
theorem dX12_init_63 : decode cX12_init 63 = .ok (.newarray .int, 2) := by decide +kernel
theorem dX12_init_65 : decode cX12_init 65 = .ok (.putfield 36, 3) := by decide +kernel
theorem dX12_init_68 : decode cX12_init 68 = .ok (.aload_n 0, 1) := by decide +kernel
theorem dX12_init_69 : decode cX12_init 69 = .ok (.bipush 18, 2) := by decide +kernel
theorem dX12_init_71 : decode cX12_init 71 = .ok (.newarray .int, 2) := by decide +kernel
theorem dX12_init_73 : decode cX12_init 73 = .ok (.putfield 39, 3) := by decide +kernel
theorem dX12_init_76 : decode cX12_init 76 = .ok (.aload_n 0, 1) := by decide +kernel
theorem dX12_init_77 : decode cX12_init 77 = .ok (.bipush 36, 2) := by decide +kernel
theorem dX12_init_79 : decode cX12_init 79 = .ok (.newarray .int, 2) := by decide +kernel
theorem dX12_init_81 : decode cX12_init 81 = .ok (.putfield 42, 3) := by decide +kernel
theorem dX12_init_84 : decode cX12_init 84 = .ok (.aload_n 0, 1) := by decide +kernel
theorem dX12_init_85 : decode cX12_init 85 = .ok (.bipush 6, 2) := by decide +kernel
theorem dX12_init_87 : decode cX12_init 87 = .ok (.newarray .int, 2) := by decide +kernel
theorem dX12_init_89 : decode cX12_init 89 = .ok (.putfield 45, 3) := by decide +kernel
theorem dX12_init_92 : decode cX12_init 92 = .ok (.aload_n 0, 1) := by decide +kernel
theorem dX12_init_93 : decode cX12_init 93 = .ok (.bipush 6, 2) := by decide +kernel
theorem dX12_init_95 : decode cX12_init 95 = .ok (.newarray .int, 2) := by decide +kernel
theorem dX12_init_97 : decode cX12_init 97 = .ok (.putfield 48, 3) := by decide +kernel
theorem dX12_init_100 : decode cX12_init 100 = .ok (.aload_n 0, 1) := by decide +kernel
theorem dX12_init_101 : decode cX12_init 101 = .ok (.bipush 6, 2) := by decide +kernel
theorem dX12_init_103 : decode cX12_init 103 = .ok (.newarray .long, 2) := by decide +kernel
theorem dX12_init_105 : decode cX12_init 105 = .ok (.putfield 51, 3) := by decide +kernel
theorem dX12_init_108 : decode cX12_init 108 = .ok (.aload_n 0, 1) := by decide +kernel
theorem dX12_init_109 : decode cX12_init 109 = .ok (.bipush 6, 2) := by decide +kernel
theorem dX12_init_111 : decode cX12_init 111 = .ok (.newarray .long, 2) := by decide +kernel
theorem dX12_init_113 : decode cX12_init 113 = .ok (.putfield 55, 3) := by decide +kernel
theorem dX12_init_116 : decode cX12_init 116 = .ok (.aload_n 0, 1) := by decide +kernel
theorem dX12_init_117 : decode cX12_init 117 = .ok (.iconst 4, 1) := by decide +kernel
theorem dX12_init_118 : decode cX12_init 118 = .ok (.newarray .int, 2) := by decide +kernel
theorem dX12_init_120 : decode cX12_init 120 = .ok (.putfield 58, 3) := by decide +kernel
theorem dX12_init_123 : decode cX12_init 123 = .ok (.aload_n 0, 1) := by decide +kernel
theorem dX12_init_124 : decode cX12_init 124 = .ok (.iconst 4, 1) := by decide +kernel
theorem dX12_init_125 : decode cX12_init 125 = .ok (.newarray .int, 2) := by decide +kernel
theorem dX12_init_127 : decode cX12_init 127 = .ok (.putfield 61, 3) := by decide +kernel
theorem dX12_init_130 : decode cX12_init 130 = .ok (.aload_n 0, 1) := by decide +kernel
theorem dX12_init_131 : decode cX12_init 131 = .ok (.sipush 256, 3) := by decide +kernel
theorem dX12_init_134 : decode cX12_init 134 = .ok (.newarray .int, 2) := by decide +kernel
theorem dX12_init_136 : decode cX12_init 136 = .ok (.putfield 64, 3) := by decide +kernel
theorem dX12_init_139 : decode cX12_init 139 = .ok (.aload_n 0, 1) := by decide +kernel
theorem dX12_init_140 : decode cX12_init 140 = .ok (.bipush 54, 2) := by decide +kernel
theorem dX12_init_142 : decode cX12_init 142 = .ok (.newarray .long, 2) := by decide +kernel
theorem dX12_init_144 : decode cX12_init 144 = .ok (.putfield 67, 3) := by decide +kernel
theorem dX12_init_147 : decode cX12_init 147 = .ok (.aload_n 0, 1) := by decide +kernel
theorem dX12_init_148 : decode cX12_init 148 = .ok (.sipush 168, 3) := by decide +kernel
theorem dX12_init_151 : decode cX12_init 151 = .ok (.newarray .int, 2) := by decide +kernel
theorem dX12_init_153 : decode cX12_init 153 = .ok (.putfield 70, 3) := by decide +kernel
theorem dX12_init_156 : decode cX12_init 156 = .ok (.aload_n 0, 1) := by decide +kernel
theorem dX12_init_157 : decode cX12_init 157 = .ok (.bipush 11, 2) := by decide +kernel
theorem dX12_init_159 : decode cX12_init 159 = .ok (.newarray .int, 2) := by decide +kernel
theorem dX12_init_161 : decode cX12_init 161 = .ok (.putfield 73, 3) := by decide +kernel
theorem dX12_init_164 : decode cX12_init 164 = .ok (.aload_n 0, 1) := by decide +kernel
theorem dX12_init_165 : decode cX12_init 165 = .ok (.bipush 36, 2) := by decide +kernel
theorem dX12_init_167 : decode cX12_init 167 = .ok (.newarray .long, 2) := by decide +kernel
theorem dX12_init_169 : decode cX12_init 169 = .ok (.putfield 76, 3) := by decide +kernel
theorem dX12_init_172 : decode cX12_init 172 = .ok (.aload_n 0, 1) := by decide +kernel
theorem dX12_init_173 : decode cX12_init 173 = .ok (.iconst 4, 1) := by decide +kernel
theorem dX12_init_174 : decode cX12_init 174 = .ok (.newarray .int, 2) := by decide +kernel
theorem dX12_init_176 : decode cX12_init 176 = .ok (.dup, 1) := by decide +kernel
theorem dX12_init_177 : decode cX12_init 177 = .ok (.iconst 0, 1) := by decide +kernel
theorem dX12_init_178 : decode cX12_init 178 = .ok (.iconst (-1), 1) := by decide +kernel
theorem dX12_init_179 : decode cX12_init 179 = .ok (.iastore, 1) := by decide +kernel
theorem dX12_init_180 : decode cX12_init 180 = .ok (.dup, 1) := by decide +kernel
theorem dX12_init_181 : decode cX12_init 181 = .ok (.iconst 1, 1) := by decide +kernel
theorem dX12_init_182 : decode cX12_init 182 = .ok (.iconst (-1), 1) := by decide +kernel
theorem dX12_init_183 : decode cX12_init 183 = .ok (.iastore, 1) := by decide +kernel
theorem dX12_init_184 : decode cX12_init 184 = .ok (.dup, 1) := by decide +kernel
theorem dX12_init_185 : decode cX12_init 185 = .ok (.iconst 2, 1) := by decide +kernel
theorem dX12_init_186 : decode cX12_init 186 = .ok (.iconst (-1), 1) := by decide +kernel
theorem dX12_init_187 : decode cX12_init 187 = .ok (.iastore, 1) := by decide +kernel
theorem dX12_init_188 : decode cX12_init 188 = .ok (.dup, 1) := by decide +kernel
theorem dX12_init_189 : decode cX12_init 189 = .ok (.iconst 3, 1) := by decide +kernel
theorem dX12_init_190 : decode cX12_init 190 = .ok (.iconst (-1), 1) := by decide +kernel
theorem dX12_init_191 : decode cX12_init 191 = .ok (.iastore, 1) := by decide +kernel
theorem dX12_init_192 : decode cX12_init 192 = .ok (.putfield 79, 3) := by decide +kernel
theorem dX12_init_195 : decode cX12_init 195 = .ok (.aload_n 0, 1) := by decide +kernel
theorem dX12_init_196 : decode cX12_init 196 = .ok (.iconst 4, 1) := by decide +kernel
theorem dX12_init_197 : decode cX12_init 197 = .ok (.newarray .int, 2) := by decide +kernel
theorem dX12_init_199 : decode cX12_init 199 = .ok (.putfield 82, 3) := by decide +kernel
theorem dX12_init_202 : decode cX12_init 202 = .ok (.aload_n 0, 1) := by decide +kernel
theorem dX12_init_203 : decode cX12_init 203 = .ok (.sipush 160, 3) := by decide +kernel
theorem dX12_init_206 : decode cX12_init 206 = .ok (.newarray .long, 2) := by decide +kernel
theorem dX12_init_208 : decode cX12_init 208 = .ok (.putfield 85, 3) := by decide +kernel
theorem dX12_init_211 : decode cX12_init 211 = .ok (.aload_n 0, 1) := by decide +kernel
theorem dX12_init_212 : decode cX12_init 212 = .ok (.getfield 13, 3) := by decide +kernel
theorem dX12_init_215 : decode cX12_init 215 = .ok (.invokestatic 88, 3) := by decide +kernel
theorem dX12_init_218 : decode cX12_init 218 = .ok (.return_, 1) := by decide +kernel
theorem dX12_plain_0 : decode cX12_plain 0 = .ok (.iconst 0, 1) := by decide +kernel
theorem dX12_plain_1 : decode cX12_plain 1 = .ok (.istore_n 1, 1) := by decide +kernel
theorem dX12_plain_2 : decode cX12_plain 2 = .ok (.iload_n 1, 1) := by decide +kernel
theorem dX12_plain_3 : decode cX12_plain 3 = .ok (.sipush 1162, 3) := by decide +kernel
theorem dX12_plain_6 : decode cX12_plain 6 = .ok (.if_icmp .ge 13, 3) := by decide +kernel
theorem dX12_plain_9 : decode cX12_plain 9 = .ok (.aload_n 0, 1) := by decide +kernel
theorem dX12_plain_10 : decode cX12_plain 10 = .ok (.iload_n 1, 1) := by decide +kernel
theorem dX12_plain_11 : decode cX12_plain 11 = .ok (.iconst 0, 1) := by decide +kernel
theorem dX12_plain_12 : decode cX12_plain 12 = .ok (.iastore, 1) := by decide +kernel
theorem dX12_plain_13 : decode cX12_plain 13 = .ok (.iinc 1 1, 3) := by decide +kernel
theorem dX12_plain_16 : decode cX12_plain 16 = .ok (.goto (-14), 3) := by decide +kernel
theorem dX12_plain_19 : decode cX12_plain 19 = .ok (.aload_n 0, 1) := by decide +kernel
theorem dX12_plain_20 : decode cX12_plain 20 = .ok (.iconst 1, 1) := by decide +kernel
theorem dX12_plain_21 : decode cX12_plain 21 = .ok (.iconst 1, 1) := by decide +kernel
theorem dX12_plain_22 : decode cX12_plain 22 = .ok (.iastore, 1) := by decide +kernel
theorem dX12_plain_23 : decode cX12_plain 23 = .ok (.return_, 1) := by decide +kernel
theorem dX12_feed_0 : decode cX12_feed 0 = .ok (.aload_n 0, 1) := by decide +kernel
theorem dX12_feed_1 : decode cX12_feed 1 = .ok (.iconst 0, 1) := by decide +kernel
theorem dX12_feed_2 : decode cX12_feed 2 = .ok (.putfield 1, 3) := by decide +kernel
theorem dX12_feed_5 : decode cX12_feed 5 = .ok (.aload_n 0, 1) := by decide +kernel
theorem dX12_feed_6 : decode cX12_feed 6 = .ok (.getfield 92, 3) := by decide +kernel
theorem dX12_feed_9 : decode cX12_feed 9 = .ok (.bipush 20, 2) := by decide +kernel
theorem dX12_feed_11 : decode cX12_feed 11 = .ok (.iadd, 1) := by decide +kernel
theorem dX12_feed_12 : decode cX12_feed 12 = .ok (.sipush 900, 3) := by decide +kernel
theorem dX12_feed_15 : decode cX12_feed 15 = .ok (.if_icmp .le 6, 3) := by decide +kernel
theorem dX12_feed_18 : decode cX12_feed 18 = .ok (.bipush (-5), 2) := by decide +kernel
theorem dX12_feed_20 : decode cX12_feed 20 = .ok (.ireturn, 1) := by decide +kernel
theorem dX12_feed_21 : decode cX12_feed 21 = .ok (.iconst 0, 1) := by decide +kernel
theorem dX12_feed_22 : decode cX12_feed 22 = .ok (.istore 6, 2) := by decide +kernel
theorem dX12_feed_24 : decode cX12_feed 24 = .ok (.iload 6, 2) := by decide +kernel
theorem dX12_feed_26 : decode cX12_feed 26 = .ok (.bipush 20, 2) := by decide +kernel
theorem dX12_feed_28 : decode cX12_feed 28 = .ok (.if_icmp .ge 93, 3) := by decide +kernel
theorem dX12_feed_31 : decode cX12_feed 31 = .ok (.iload 6, 2) := by decide +kernel
theorem dX12_feed_33 : decode cX12_feed 33 = .ok (.iconst 4, 1) := by decide +kernel
theorem dX12_feed_34 : decode cX12_feed 34 = .ok (.if_icmp .ge 7, 3) := by decide +kernel
theorem dX12_feed_37 : decode cX12_feed 37 = .ok (.iload_n 1, 1) := by decide +kernel
theorem dX12_feed_38 : decode cX12_feed 38 = .ok (.goto 39, 3) := by decide +kernel
theorem dX12_feed_41 : decode cX12_feed 41 = .ok (.iload 6, 2) := by decide +kernel
theorem dX12_feed_43 : decode cX12_feed 43 = .ok (.bipush 8, 2) := by decide +kernel
theorem dX12_feed_45 : decode cX12_feed 45 = .ok (.if_icmp .ge 7, 3) := by decide +kernel
theorem dX12_feed_48 : decode cX12_feed 48 = .ok (.iload_n 2, 1) := by decide +kernel
theorem dX12_feed_49 : decode cX12_feed 49 = .ok (.goto 28, 3) := by decide +kernel
theorem dX12_feed_52 : decode cX12_feed 52 = .ok (.iload 6, 2) := by decide +kernel
theorem dX12_feed_54 : decode cX12_feed 54 = .ok (.bipush 12, 2) := by decide +kernel
theorem dX12_feed_56 : decode cX12_feed 56 = .ok (.if_icmp .ge 7, 3) := by decide +kernel
theorem dX12_feed_59 : decode cX12_feed 59 = .ok (.iload_n 3, 1) := by decide +kernel
theorem dX12_feed_60 : decode cX12_feed 60 = .ok (.goto 17, 3) := by decide +kernel
theorem dX12_feed_63 : decode cX12_feed 63 = .ok (.iload 6, 2) := by decide +kernel
theorem dX12_feed_65 : decode cX12_feed 65 = .ok (.bipush 16, 2) := by decide +kernel
theorem dX12_feed_67 : decode cX12_feed 67 = .ok (.if_icmp .ge 8, 3) := by decide +kernel
theorem dX12_feed_70 : decode cX12_feed 70 = .ok (.iload 4, 2) := by decide +kernel
theorem dX12_feed_72 : decode cX12_feed 72 = .ok (.goto 5, 3) := by decide +kernel
theorem dX12_feed_75 : decode cX12_feed 75 = .ok (.iload 5, 2) := by decide +kernel
theorem dX12_feed_77 : decode cX12_feed 77 = .ok (.istore 7, 2) := by decide +kernel
theorem dX12_feed_79 : decode cX12_feed 79 = .ok (.aload_n 0, 1) := by decide +kernel
theorem dX12_feed_80 : decode cX12_feed 80 = .ok (.getfield 21, 3) := by decide +kernel
theorem dX12_feed_83 : decode cX12_feed 83 = .ok (.aload_n 0, 1) := by decide +kernel
theorem dX12_feed_84 : decode cX12_feed 84 = .ok (.getfield 92, 3) := by decide +kernel
theorem dX12_feed_87 : decode cX12_feed 87 = .ok (.iload 7, 2) := by decide +kernel
theorem dX12_feed_89 : decode cX12_feed 89 = .ok (.bipush 24, 2) := by decide +kernel
theorem dX12_feed_91 : decode cX12_feed 91 = .ok (.bipush 8, 2) := by decide +kernel
theorem dX12_feed_93 : decode cX12_feed 93 = .ok (.iload 6, 2) := by decide +kernel
theorem dX12_feed_95 : decode cX12_feed 95 = .ok (.iconst 4, 1) := by decide +kernel
theorem dX12_feed_96 : decode cX12_feed 96 = .ok (.irem, 1) := by decide +kernel
theorem dX12_feed_97 : decode cX12_feed 97 = .ok (.imul, 1) := by decide +kernel
theorem dX12_feed_98 : decode cX12_feed 98 = .ok (.isub, 1) := by decide +kernel
theorem dX12_feed_99 : decode cX12_feed 99 = .ok (.ishr, 1) := by decide +kernel
theorem dX12_feed_100 : decode cX12_feed 100 = .ok (.sipush 255, 3) := by decide +kernel
theorem dX12_feed_103 : decode cX12_feed 103 = .ok (.iand, 1) := by decide +kernel
theorem dX12_feed_104 : decode cX12_feed 104 = .ok (.iastore, 1) := by decide +kernel
theorem dX12_feed_105 : decode cX12_feed 105 = .ok (.aload_n 0, 1) := by decide +kernel
theorem dX12_feed_106 : decode cX12_feed 106 = .ok (.dup, 1) := by decide +kernel
theorem dX12_feed_107 : decode cX12_feed 107 = .ok (.getfield 92, 3) := by decide +kernel
theorem dX12_feed_110 : decode cX12_feed 110 = .ok (.iconst 1, 1) := by decide +kernel
theorem dX12_feed_111 : decode cX12_feed 111 = .ok (.iadd, 1) := by decide +kernel
theorem dX12_feed_112 : decode cX12_feed 112 = .ok (.putfield 92, 3) := by decide +kernel
theorem dX12_feed_115 : decode cX12_feed 115 = .ok (.iinc 6 1, 3) := by decide +kernel
theorem dX12_feed_118 : decode cX12_feed 118 = .ok (.goto (-94), 3) := by decide +kernel
theorem dX12_feed_121 : decode cX12_feed 121 = .ok (.aload_n 0, 1) := by decide +kernel
theorem dX12_feed_122 : decode cX12_feed 122 = .ok (.getfield 92, 3) := by decide +kernel
theorem dX12_feed_125 : decode cX12_feed 125 = .ok (.ireturn, 1) := by decide +kernel
theorem dX12_see_0 : decode cX12_see 0 = .ok (.iload_n 1, 1) := by decide +kernel
theorem dX12_see_1 : decode cX12_see 1 = .ok (.aload_n 0, 1) := by decide +kernel
theorem dX12_see_2 : decode cX12_see 2 = .ok (.getfield 95, 3) := by decide +kernel
theorem dX12_see_5 : decode cX12_see 5 = .ok (.if_icmp .ge 12, 3) := by decide +kernel
theorem dX12_see_8 : decode cX12_see 8 = .ok (.aload_n 0, 1) := by decide +kernel
theorem dX12_see_9 : decode cX12_see 9 = .ok (.getfield 21, 3) := by decide +kernel
theorem dX12_see_12 : decode cX12_see 12 = .ok (.iload_n 1, 1) := by decide +kernel
theorem dX12_see_13 : decode cX12_see 13 = .ok (.iaload, 1) := by decide +kernel
theorem dX12_see_14 : decode cX12_see 14 = .ok (.goto 4, 3) := by decide +kernel
theorem dX12_see_17 : decode cX12_see 17 = .ok (.iconst (-1), 1) := by decide +kernel
theorem dX12_see_18 : decode cX12_see 18 = .ok (.ireturn, 1) := by decide +kernel
theorem dX12_isSmall_0 : decode cX12_isSmall 0 = .ok (.iload_n 0, 1) := by decide +kernel
theorem dX12_isSmall_1 : decode cX12_isSmall 1 = .ok (.bipush 97, 2) := by decide +kernel
theorem dX12_isSmall_3 : decode cX12_isSmall 3 = .ok (.if_icmp .lt 13, 3) := by decide +kernel
theorem dX12_isSmall_6 : decode cX12_isSmall 6 = .ok (.iload_n 0, 1) := by decide +kernel
theorem dX12_isSmall_7 : decode cX12_isSmall 7 = .ok (.bipush 122, 2) := by decide +kernel
theorem dX12_isSmall_9 : decode cX12_isSmall 9 = .ok (.if_icmp .gt 7, 3) := by decide +kernel
theorem dX12_isSmall_12 : decode cX12_isSmall 12 = .ok (.iconst 1, 1) := by decide +kernel
theorem dX12_isSmall_13 : decode cX12_isSmall 13 = .ok (.goto 4, 3) := by decide +kernel
theorem dX12_isSmall_16 : decode cX12_isSmall 16 = .ok (.iconst 0, 1) := by decide +kernel
theorem dX12_isSmall_17 : decode cX12_isSmall 17 = .ok (.ireturn, 1) := by decide +kernel
theorem dX12_isDigit_0 : decode cX12_isDigit 0 = .ok (.iload_n 0, 1) := by decide +kernel
theorem dX12_isDigit_1 : decode cX12_isDigit 1 = .ok (.bipush 48, 2) := by decide +kernel
theorem dX12_isDigit_3 : decode cX12_isDigit 3 = .ok (.if_icmp .lt 13, 3) := by decide +kernel
theorem dX12_isDigit_6 : decode cX12_isDigit 6 = .ok (.iload_n 0, 1) := by decide +kernel
theorem dX12_isDigit_7 : decode cX12_isDigit 7 = .ok (.bipush 57, 2) := by decide +kernel
theorem dX12_isDigit_9 : decode cX12_isDigit 9 = .ok (.if_icmp .gt 7, 3) := by decide +kernel
theorem dX12_isDigit_12 : decode cX12_isDigit 12 = .ok (.iconst 1, 1) := by decide +kernel
theorem dX12_isDigit_13 : decode cX12_isDigit 13 = .ok (.goto 4, 3) := by decide +kernel
theorem dX12_isDigit_16 : decode cX12_isDigit 16 = .ok (.iconst 0, 1) := by decide +kernel
theorem dX12_isDigit_17 : decode cX12_isDigit 17 = .ok (.ireturn, 1) := by decide +kernel
theorem dX12_keyAt_0 : decode cX12_keyAt 0 = .ok (.iconst 0, 1) := by decide +kernel
theorem dX12_keyAt_1 : decode cX12_keyAt 1 = .ok (.istore_n 1, 1) := by decide +kernel
theorem dX12_keyAt_2 : decode cX12_keyAt 2 = .ok (.iconst 1, 1) := by decide +kernel
theorem dX12_keyAt_3 : decode cX12_keyAt 3 = .ok (.istore_n 2, 1) := by decide +kernel
theorem dX12_keyAt_4 : decode cX12_keyAt 4 = .ok (.iload_n 2, 1) := by decide +kernel
theorem dX12_keyAt_5 : decode cX12_keyAt 5 = .ok (.ldc 98, 2) := by decide +kernel
theorem dX12_keyAt_7 : decode cX12_keyAt 7 = .ok (.invokevirtual 100, 3) := by decide +kernel
theorem dX12_keyAt_10 : decode cX12_keyAt 10 = .ok (.if_icmp .ge 113, 3) := by decide +kernel
theorem dX12_keyAt_13 : decode cX12_keyAt 13 = .ok (.iconst 0, 1) := by decide +kernel
theorem dX12_keyAt_14 : decode cX12_keyAt 14 = .ok (.istore_n 3, 1) := by decide +kernel
theorem dX12_keyAt_15 : decode cX12_keyAt 15 = .ok (.ldc 98, 2) := by decide +kernel
theorem dX12_keyAt_17 : decode cX12_keyAt 17 = .ok (.iload_n 2, 1) := by decide +kernel
theorem dX12_keyAt_18 : decode cX12_keyAt 18 = .ok (.iload_n 3, 1) := by decide +kernel
theorem dX12_keyAt_19 : decode cX12_keyAt 19 = .ok (.iadd, 1) := by decide +kernel
theorem dX12_keyAt_20 : decode cX12_keyAt 20 = .ok (.invokevirtual 106, 3) := by decide +kernel
theorem dX12_keyAt_23 : decode cX12_keyAt 23 = .ok (.bipush 32, 2) := by decide +kernel
theorem dX12_keyAt_25 : decode cX12_keyAt 25 = .ok (.if_icmp .eq 44, 3) := by decide +kernel
theorem dX12_keyAt_28 : decode cX12_keyAt 28 = .ok (.aload_n 0, 1) := by decide +kernel
theorem dX12_keyAt_29 : decode cX12_keyAt 29 = .ok (.getfield 110, 3) := by decide +kernel
theorem dX12_keyAt_32 : decode cX12_keyAt 32 = .ok (.iload_n 3, 1) := by decide +kernel
theorem dX12_keyAt_33 : decode cX12_keyAt 33 = .ok (.iadd, 1) := by decide +kernel
theorem dX12_keyAt_34 : decode cX12_keyAt 34 = .ok (.aload_n 0, 1) := by decide +kernel
theorem dX12_keyAt_35 : decode cX12_keyAt 35 = .ok (.getfield 113, 3) := by decide +kernel
theorem dX12_keyAt_38 : decode cX12_keyAt 38 = .ok (.if_icmp .ge 31, 3) := by decide +kernel
theorem dX12_keyAt_41 : decode cX12_keyAt 41 = .ok (.aload_n 0, 1) := by decide +kernel
theorem dX12_keyAt_42 : decode cX12_keyAt 42 = .ok (.getfield 21, 3) := by decide +kernel
theorem dX12_keyAt_45 : decode cX12_keyAt 45 = .ok (.aload_n 0, 1) := by decide +kernel
theorem dX12_keyAt_46 : decode cX12_keyAt 46 = .ok (.getfield 110, 3) := by decide +kernel
theorem dX12_keyAt_49 : decode cX12_keyAt 49 = .ok (.iload_n 3, 1) := by decide +kernel
theorem dX12_keyAt_50 : decode cX12_keyAt 50 = .ok (.iadd, 1) := by decide +kernel
theorem dX12_keyAt_51 : decode cX12_keyAt 51 = .ok (.iaload, 1) := by decide +kernel
theorem dX12_keyAt_52 : decode cX12_keyAt 52 = .ok (.ldc 98, 2) := by decide +kernel
theorem dX12_keyAt_54 : decode cX12_keyAt 54 = .ok (.iload_n 2, 1) := by decide +kernel
theorem dX12_keyAt_55 : decode cX12_keyAt 55 = .ok (.iload_n 3, 1) := by decide +kernel
theorem dX12_keyAt_56 : decode cX12_keyAt 56 = .ok (.iadd, 1) := by decide +kernel
theorem dX12_keyAt_57 : decode cX12_keyAt 57 = .ok (.invokevirtual 106, 3) := by decide +kernel
theorem dX12_keyAt_60 : decode cX12_keyAt 60 = .ok (.if_icmp .ne 9, 3) := by decide +kernel
theorem dX12_keyAt_63 : decode cX12_keyAt 63 = .ok (.iinc 3 1, 3) := by decide +kernel
theorem dX12_keyAt_66 : decode cX12_keyAt 66 = .ok (.goto (-51), 3) := by decide +kernel
theorem dX12_keyAt_69 : decode cX12_keyAt 69 = .ok (.ldc 98, 2) := by decide +kernel
theorem dX12_keyAt_71 : decode cX12_keyAt 71 = .ok (.iload_n 2, 1) := by decide +kernel
theorem dX12_keyAt_72 : decode cX12_keyAt 72 = .ok (.iload_n 3, 1) := by decide +kernel
theorem dX12_keyAt_73 : decode cX12_keyAt 73 = .ok (.iadd, 1) := by decide +kernel
theorem dX12_keyAt_74 : decode cX12_keyAt 74 = .ok (.invokevirtual 106, 3) := by decide +kernel
theorem dX12_keyAt_77 : decode cX12_keyAt 77 = .ok (.bipush 32, 2) := by decide +kernel
theorem dX12_keyAt_79 : decode cX12_keyAt 79 = .ok (.if_icmp .ne 18, 3) := by decide +kernel
theorem dX12_keyAt_82 : decode cX12_keyAt 82 = .ok (.aload_n 0, 1) := by decide +kernel
theorem dX12_keyAt_83 : decode cX12_keyAt 83 = .ok (.getfield 110, 3) := by decide +kernel
theorem dX12_keyAt_86 : decode cX12_keyAt 86 = .ok (.iload_n 3, 1) := by decide +kernel
theorem dX12_keyAt_87 : decode cX12_keyAt 87 = .ok (.iadd, 1) := by decide +kernel
theorem dX12_keyAt_88 : decode cX12_keyAt 88 = .ok (.aload_n 0, 1) := by decide +kernel
theorem dX12_keyAt_89 : decode cX12_keyAt 89 = .ok (.getfield 113, 3) := by decide +kernel
theorem dX12_keyAt_92 : decode cX12_keyAt 92 = .ok (.if_icmp .ne 5, 3) := by decide +kernel
theorem dX12_keyAt_95 : decode cX12_keyAt 95 = .ok (.iload_n 1, 1) := by decide +kernel
theorem dX12_keyAt_96 : decode cX12_keyAt 96 = .ok (.ireturn, 1) := by decide +kernel
theorem dX12_keyAt_97 : decode cX12_keyAt 97 = .ok (.ldc 98, 2) := by decide +kernel
theorem dX12_keyAt_99 : decode cX12_keyAt 99 = .ok (.iload_n 2, 1) := by decide +kernel
theorem dX12_keyAt_100 : decode cX12_keyAt 100 = .ok (.invokevirtual 106, 3) := by decide +kernel
theorem dX12_keyAt_103 : decode cX12_keyAt 103 = .ok (.bipush 32, 2) := by decide +kernel
theorem dX12_keyAt_105 : decode cX12_keyAt 105 = .ok (.if_icmp .eq 9, 3) := by decide +kernel
theorem dX12_keyAt_108 : decode cX12_keyAt 108 = .ok (.iinc 2 1, 3) := by decide +kernel
theorem dX12_keyAt_111 : decode cX12_keyAt 111 = .ok (.goto (-14), 3) := by decide +kernel
theorem dX12_keyAt_114 : decode cX12_keyAt 114 = .ok (.iinc 2 1, 3) := by decide +kernel
theorem dX12_keyAt_117 : decode cX12_keyAt 117 = .ok (.iinc 1 1, 3) := by decide +kernel
theorem dX12_keyAt_120 : decode cX12_keyAt 120 = .ok (.goto (-116), 3) := by decide +kernel
theorem dX12_keyAt_123 : decode cX12_keyAt 123 = .ok (.bipush 24, 2) := by decide +kernel
theorem dX12_keyAt_125 : decode cX12_keyAt 125 = .ok (.ireturn, 1) := by decide +kernel
theorem dX12_next_0 : decode cX12_next 0 = .ok (.aload_n 0, 1) := by decide +kernel
theorem dX12_next_1 : decode cX12_next 1 = .ok (.aload_n 0, 1) := by decide +kernel
theorem dX12_next_2 : decode cX12_next 2 = .ok (.getfield 113, 3) := by decide +kernel
theorem dX12_next_5 : decode cX12_next 5 = .ok (.putfield 110, 3) := by decide +kernel
theorem dX12_next_8 : decode cX12_next 8 = .ok (.aload_n 0, 1) := by decide +kernel
theorem dX12_next_9 : decode cX12_next 9 = .ok (.aload_n 0, 1) := by decide +kernel
theorem dX12_next_10 : decode cX12_next 10 = .ok (.getfield 110, 3) := by decide +kernel
theorem dX12_next_13 : decode cX12_next 13 = .ok (.invokevirtual 116, 3) := by decide +kernel
theorem dX12_next_16 : decode cX12_next 16 = .ok (.bipush 10, 2) := by decide +kernel
theorem dX12_next_18 : decode cX12_next 18 = .ok (.if_icmp .eq 16, 3) := by decide +kernel
theorem dX12_next_21 : decode cX12_next 21 = .ok (.aload_n 0, 1) := by decide +kernel
theorem dX12_next_22 : decode cX12_next 22 = .ok (.aload_n 0, 1) := by decide +kernel
theorem dX12_next_23 : decode cX12_next 23 = .ok (.getfield 110, 3) := by decide +kernel
theorem dX12_next_26 : decode cX12_next 26 = .ok (.invokevirtual 116, 3) := by decide +kernel
theorem dX12_next_29 : decode cX12_next 29 = .ok (.bipush 32, 2) := by decide +kernel
theorem dX12_next_31 : decode cX12_next 31 = .ok (.if_icmp .ne 16, 3) := by decide +kernel
theorem dX12_next_34 : decode cX12_next 34 = .ok (.aload_n 0, 1) := by decide +kernel
theorem dX12_next_35 : decode cX12_next 35 = .ok (.dup, 1) := by decide +kernel
theorem dX12_next_36 : decode cX12_next 36 = .ok (.getfield 110, 3) := by decide +kernel
theorem dX12_next_39 : decode cX12_next 39 = .ok (.iconst 1, 1) := by decide +kernel
theorem dX12_next_40 : decode cX12_next 40 = .ok (.iadd, 1) := by decide +kernel
theorem dX12_next_41 : decode cX12_next 41 = .ok (.putfield 110, 3) := by decide +kernel
theorem dX12_next_44 : decode cX12_next 44 = .ok (.goto (-36), 3) := by decide +kernel
theorem dX12_next_47 : decode cX12_next 47 = .ok (.aload_n 0, 1) := by decide +kernel
theorem dX12_next_48 : decode cX12_next 48 = .ok (.aload_n 0, 1) := by decide +kernel
theorem dX12_next_49 : decode cX12_next 49 = .ok (.getfield 110, 3) := by decide +kernel
theorem dX12_next_52 : decode cX12_next 52 = .ok (.putfield 113, 3) := by decide +kernel
theorem dX12_next_55 : decode cX12_next 55 = .ok (.aload_n 0, 1) := by decide +kernel
theorem dX12_next_56 : decode cX12_next 56 = .ok (.getfield 110, 3) := by decide +kernel
theorem dX12_next_59 : decode cX12_next 59 = .ok (.aload_n 0, 1) := by decide +kernel
theorem dX12_next_60 : decode cX12_next 60 = .ok (.getfield 95, 3) := by decide +kernel
theorem dX12_next_63 : decode cX12_next 63 = .ok (.if_icmp .lt 12, 3) := by decide +kernel
theorem dX12_next_66 : decode cX12_next 66 = .ok (.aload_n 0, 1) := by decide +kernel
theorem dX12_next_67 : decode cX12_next 67 = .ok (.bipush 26, 2) := by decide +kernel
theorem dX12_next_69 : decode cX12_next 69 = .ok (.putfield 120, 3) := by decide +kernel
theorem dX12_next_72 : decode cX12_next 72 = .ok (.goto 222, 3) := by decide +kernel
theorem dX12_next_75 : decode cX12_next 75 = .ok (.aload_n 0, 1) := by decide +kernel
theorem dX12_next_76 : decode cX12_next 76 = .ok (.aload_n 0, 1) := by decide +kernel
theorem dX12_next_77 : decode cX12_next 77 = .ok (.getfield 110, 3) := by decide +kernel
theorem dX12_next_80 : decode cX12_next 80 = .ok (.invokevirtual 116, 3) := by decide +kernel
theorem dX12_next_83 : decode cX12_next 83 = .ok (.invokestatic 123, 3) := by decide +kernel
theorem dX12_next_86 : decode cX12_next 86 = .ok (.ifCond .eq 41, 3) := by decide +kernel
theorem dX12_next_89 : decode cX12_next 89 = .ok (.aload_n 0, 1) := by decide +kernel
theorem dX12_next_90 : decode cX12_next 90 = .ok (.aload_n 0, 1) := by decide +kernel
theorem dX12_next_91 : decode cX12_next 91 = .ok (.getfield 113, 3) := by decide +kernel
theorem dX12_next_94 : decode cX12_next 94 = .ok (.invokevirtual 116, 3) := by decide +kernel
theorem dX12_next_97 : decode cX12_next 97 = .ok (.invokestatic 123, 3) := by decide +kernel
theorem dX12_next_100 : decode cX12_next 100 = .ok (.ifCond .eq 16, 3) := by decide +kernel
theorem dX12_next_103 : decode cX12_next 103 = .ok (.aload_n 0, 1) := by decide +kernel
theorem dX12_next_104 : decode cX12_next 104 = .ok (.dup, 1) := by decide +kernel
theorem dX12_next_105 : decode cX12_next 105 = .ok (.getfield 113, 3) := by decide +kernel
theorem dX12_next_108 : decode cX12_next 108 = .ok (.iconst 1, 1) := by decide +kernel
theorem dX12_next_109 : decode cX12_next 109 = .ok (.iadd, 1) := by decide +kernel
theorem dX12_next_110 : decode cX12_next 110 = .ok (.putfield 113, 3) := by decide +kernel
theorem dX12_next_113 : decode cX12_next 113 = .ok (.goto (-24), 3) := by decide +kernel
theorem dX12_next_116 : decode cX12_next 116 = .ok (.aload_n 0, 1) := by decide +kernel
theorem dX12_next_117 : decode cX12_next 117 = .ok (.aload_n 0, 1) := by decide +kernel
theorem dX12_next_118 : decode cX12_next 118 = .ok (.invokevirtual 127, 3) := by decide +kernel
theorem dX12_next_121 : decode cX12_next 121 = .ok (.putfield 120, 3) := by decide +kernel
theorem dX12_next_124 : decode cX12_next 124 = .ok (.goto 170, 3) := by decide +kernel
theorem dX12_next_127 : decode cX12_next 127 = .ok (.aload_n 0, 1) := by decide +kernel
theorem dX12_next_128 : decode cX12_next 128 = .ok (.aload_n 0, 1) := by decide +kernel
theorem dX12_next_129 : decode cX12_next 129 = .ok (.getfield 110, 3) := by decide +kernel
theorem dX12_next_132 : decode cX12_next 132 = .ok (.invokevirtual 116, 3) := by decide +kernel
theorem dX12_next_135 : decode cX12_next 135 = .ok (.invokestatic 130, 3) := by decide +kernel
theorem dX12_next_138 : decode cX12_next 138 = .ok (.ifCond .eq 98, 3) := by decide +kernel
theorem dX12_next_141 : decode cX12_next 141 = .ok (.aload_n 0, 1) := by decide +kernel
theorem dX12_next_142 : decode cX12_next 142 = .ok (.iconst 0, 1) := by decide +kernel
theorem dX12_next_143 : decode cX12_next 143 = .ok (.putfield 133, 3) := by decide +kernel
theorem dX12_next_146 : decode cX12_next 146 = .ok (.aload_n 0, 1) := by decide +kernel
theorem dX12_next_147 : decode cX12_next 147 = .ok (.aload_n 0, 1) := by decide +kernel
theorem dX12_next_148 : decode cX12_next 148 = .ok (.getfield 113, 3) := by decide +kernel
theorem dX12_next_151 : decode cX12_next 151 = .ok (.invokevirtual 116, 3) := by decide +kernel
theorem dX12_next_154 : decode cX12_next 154 = .ok (.invokestatic 130, 3) := by decide +kernel
theorem dX12_next_157 : decode cX12_next 157 = .ok (.ifCond .eq 52, 3) := by decide +kernel
theorem dX12_next_160 : decode cX12_next 160 = .ok (.aload_n 0, 1) := by decide +kernel
theorem dX12_next_161 : decode cX12_next 161 = .ok (.getfield 113, 3) := by decide +kernel
theorem dX12_next_164 : decode cX12_next 164 = .ok (.aload_n 0, 1) := by decide +kernel
theorem dX12_next_165 : decode cX12_next 165 = .ok (.getfield 110, 3) := by decide +kernel
theorem dX12_next_168 : decode cX12_next 168 = .ok (.isub, 1) := by decide +kernel
theorem dX12_next_169 : decode cX12_next 169 = .ok (.iconst 3, 1) := by decide +kernel
theorem dX12_next_170 : decode cX12_next 170 = .ok (.if_icmp .ge 26, 3) := by decide +kernel
theorem dX12_next_173 : decode cX12_next 173 = .ok (.aload_n 0, 1) := by decide +kernel
theorem dX12_next_174 : decode cX12_next 174 = .ok (.bipush 10, 2) := by decide +kernel
theorem dX12_next_176 : decode cX12_next 176 = .ok (.aload_n 0, 1) := by decide +kernel
theorem dX12_next_177 : decode cX12_next 177 = .ok (.getfield 133, 3) := by decide +kernel
theorem dX12_next_180 : decode cX12_next 180 = .ok (.imul, 1) := by decide +kernel
theorem dX12_next_181 : decode cX12_next 181 = .ok (.aload_n 0, 1) := by decide +kernel
theorem dX12_next_182 : decode cX12_next 182 = .ok (.aload_n 0, 1) := by decide +kernel
theorem dX12_next_183 : decode cX12_next 183 = .ok (.getfield 113, 3) := by decide +kernel
theorem dX12_next_186 : decode cX12_next 186 = .ok (.invokevirtual 116, 3) := by decide +kernel
theorem dX12_next_189 : decode cX12_next 189 = .ok (.iadd, 1) := by decide +kernel
theorem dX12_next_190 : decode cX12_next 190 = .ok (.bipush 48, 2) := by decide +kernel
theorem dX12_next_192 : decode cX12_next 192 = .ok (.isub, 1) := by decide +kernel
theorem dX12_next_193 : decode cX12_next 193 = .ok (.putfield 133, 3) := by decide +kernel
theorem dX12_next_196 : decode cX12_next 196 = .ok (.aload_n 0, 1) := by decide +kernel
theorem dX12_next_197 : decode cX12_next 197 = .ok (.dup, 1) := by decide +kernel
theorem dX12_next_198 : decode cX12_next 198 = .ok (.getfield 113, 3) := by decide +kernel
theorem dX12_next_201 : decode cX12_next 201 = .ok (.iconst 1, 1) := by decide +kernel
theorem dX12_next_202 : decode cX12_next 202 = .ok (.iadd, 1) := by decide +kernel
theorem dX12_next_203 : decode cX12_next 203 = .ok (.putfield 113, 3) := by decide +kernel
theorem dX12_next_206 : decode cX12_next 206 = .ok (.goto (-60), 3) := by decide +kernel
theorem dX12_next_209 : decode cX12_next 209 = .ok (.aload_n 0, 1) := by decide +kernel
theorem dX12_next_210 : decode cX12_next 210 = .ok (.aload_n 0, 1) := by decide +kernel
theorem dX12_next_211 : decode cX12_next 211 = .ok (.getfield 113, 3) := by decide +kernel
theorem dX12_next_214 : decode cX12_next 214 = .ok (.aload_n 0, 1) := by decide +kernel
theorem dX12_next_215 : decode cX12_next 215 = .ok (.getfield 110, 3) := by decide +kernel
theorem dX12_next_218 : decode cX12_next 218 = .ok (.isub, 1) := by decide +kernel
theorem dX12_next_219 : decode cX12_next 219 = .ok (.iconst 3, 1) := by decide +kernel
theorem dX12_next_220 : decode cX12_next 220 = .ok (.if_icmp .le 8, 3) := by decide +kernel
theorem dX12_next_223 : decode cX12_next 223 = .ok (.bipush 27, 2) := by decide +kernel
theorem dX12_next_225 : decode cX12_next 225 = .ok (.goto 5, 3) := by decide +kernel
theorem dX12_next_228 : decode cX12_next 228 = .ok (.bipush 25, 2) := by decide +kernel
theorem dX12_next_230 : decode cX12_next 230 = .ok (.putfield 120, 3) := by decide +kernel
theorem dX12_next_233 : decode cX12_next 233 = .ok (.goto 61, 3) := by decide +kernel
theorem dX12_next_236 : decode cX12_next 236 = .ok (.aload_n 0, 1) := by decide +kernel
theorem dX12_next_237 : decode cX12_next 237 = .ok (.dup, 1) := by decide +kernel
theorem dX12_next_238 : decode cX12_next 238 = .ok (.getfield 113, 3) := by decide +kernel
theorem dX12_next_241 : decode cX12_next 241 = .ok (.iconst 1, 1) := by decide +kernel
theorem dX12_next_242 : decode cX12_next 242 = .ok (.iadd, 1) := by decide +kernel
theorem dX12_next_243 : decode cX12_next 243 = .ok (.putfield 113, 3) := by decide +kernel
theorem dX12_next_246 : decode cX12_next 246 = .ok (.aload_n 0, 1) := by decide +kernel
theorem dX12_next_247 : decode cX12_next 247 = .ok (.bipush 27, 2) := by decide +kernel
theorem dX12_next_249 : decode cX12_next 249 = .ok (.putfield 120, 3) := by decide +kernel
theorem dX12_next_252 : decode cX12_next 252 = .ok (.iconst 0, 1) := by decide +kernel
theorem dX12_next_253 : decode cX12_next 253 = .ok (.istore_n 1, 1) := by decide +kernel
theorem dX12_next_254 : decode cX12_next 254 = .ok (.iload_n 1, 1) := by decide +kernel
theorem dX12_next_255 : decode cX12_next 255 = .ok (.ldc 136, 2) := by decide +kernel
theorem dX12_next_257 : decode cX12_next 257 = .ok (.invokevirtual 100, 3) := by decide +kernel
theorem dX12_next_260 : decode cX12_next 260 = .ok (.if_icmp .ge 34, 3) := by decide +kernel
theorem dX12_next_263 : decode cX12_next 263 = .ok (.aload_n 0, 1) := by decide +kernel
theorem dX12_next_264 : decode cX12_next 264 = .ok (.aload_n 0, 1) := by decide +kernel
theorem dX12_next_265 : decode cX12_next 265 = .ok (.getfield 110, 3) := by decide +kernel
theorem dX12_next_268 : decode cX12_next 268 = .ok (.invokevirtual 116, 3) := by decide +kernel
theorem dX12_next_271 : decode cX12_next 271 = .ok (.ldc 136, 2) := by decide +kernel
theorem dX12_next_273 : decode cX12_next 273 = .ok (.iload_n 1, 1) := by decide +kernel
theorem dX12_next_274 : decode cX12_next 274 = .ok (.invokevirtual 106, 3) := by decide +kernel
theorem dX12_next_277 : decode cX12_next 277 = .ok (.if_icmp .ne 11, 3) := by decide +kernel
theorem dX12_next_280 : decode cX12_next 280 = .ok (.aload_n 0, 1) := by decide +kernel
theorem dX12_next_281 : decode cX12_next 281 = .ok (.bipush 30, 2) := by decide +kernel
theorem dX12_next_283 : decode cX12_next 283 = .ok (.iload_n 1, 1) := by decide +kernel
theorem dX12_next_284 : decode cX12_next 284 = .ok (.iadd, 1) := by decide +kernel
theorem dX12_next_285 : decode cX12_next 285 = .ok (.putfield 120, 3) := by decide +kernel
theorem dX12_next_288 : decode cX12_next 288 = .ok (.iinc 1 1, 3) := by decide +kernel
theorem dX12_next_291 : decode cX12_next 291 = .ok (.goto (-37), 3) := by decide +kernel
theorem dX12_next_294 : decode cX12_next 294 = .ok (.return_, 1) := by decide +kernel
theorem dX12_fails_0 : decode cX12_fails 0 = .ok (.aload_n 0, 1) := by decide +kernel
theorem dX12_fails_1 : decode cX12_fails 1 = .ok (.getfield 138, 3) := by decide +kernel
theorem dX12_fails_4 : decode cX12_fails 4 = .ok (.ifCond .eq 4, 3) := by decide +kernel
theorem dX12_fails_7 : decode cX12_fails 7 = .ok (.return_, 1) := by decide +kernel
theorem dX12_fails_8 : decode cX12_fails 8 = .ok (.aload_n 0, 1) := by decide +kernel
theorem dX12_fails_9 : decode cX12_fails 9 = .ok (.aload_n 0, 1) := by decide +kernel
theorem dX12_fails_10 : decode cX12_fails 10 = .ok (.getfield 120, 3) := by decide +kernel
theorem dX12_fails_13 : decode cX12_fails 13 = .ok (.bipush 27, 2) := by decide +kernel
theorem dX12_fails_15 : decode cX12_fails 15 = .ok (.if_icmp .ne 7, 3) := by decide +kernel
theorem dX12_fails_18 : decode cX12_fails 18 = .ok (.iconst 1, 1) := by decide +kernel
theorem dX12_fails_19 : decode cX12_fails 19 = .ok (.goto 4, 3) := by decide +kernel
theorem dX12_fails_22 : decode cX12_fails 22 = .ok (.iload_n 1, 1) := by decide +kernel
theorem dX12_fails_23 : decode cX12_fails 23 = .ok (.putfield 138, 3) := by decide +kernel
theorem dX12_fails_26 : decode cX12_fails 26 = .ok (.aload_n 0, 1) := by decide +kernel
theorem dX12_fails_27 : decode cX12_fails 27 = .ok (.aload_n 0, 1) := by decide +kernel
theorem dX12_fails_28 : decode cX12_fails 28 = .ok (.getfield 110, 3) := by decide +kernel
theorem dX12_fails_31 : decode cX12_fails 31 = .ok (.putfield 141, 3) := by decide +kernel
theorem dX12_fails_34 : decode cX12_fails 34 = .ok (.return_, 1) := by decide +kernel
theorem dX12_is_0 : decode cX12_is 0 = .ok (.aload_n 0, 1) := by decide +kernel
theorem dX12_is_1 : decode cX12_is 1 = .ok (.getfield 138, 3) := by decide +kernel
theorem dX12_is_4 : decode cX12_is 4 = .ok (.ifCond .ne 15, 3) := by decide +kernel
theorem dX12_is_7 : decode cX12_is 7 = .ok (.aload_n 0, 1) := by decide +kernel
theorem dX12_is_8 : decode cX12_is 8 = .ok (.getfield 120, 3) := by decide +kernel
theorem dX12_is_11 : decode cX12_is 11 = .ok (.iload_n 1, 1) := by decide +kernel
theorem dX12_is_12 : decode cX12_is 12 = .ok (.if_icmp .ne 7, 3) := by decide +kernel
theorem dX12_is_15 : decode cX12_is 15 = .ok (.iconst 1, 1) := by decide +kernel
theorem dX12_is_16 : decode cX12_is 16 = .ok (.goto 4, 3) := by decide +kernel
theorem dX12_is_19 : decode cX12_is 19 = .ok (.iconst 0, 1) := by decide +kernel
theorem dX12_is_20 : decode cX12_is 20 = .ok (.ireturn, 1) := by decide +kernel
theorem dX12_eats_0 : decode cX12_eats 0 = .ok (.aload_n 0, 1) := by decide +kernel
theorem dX12_eats_1 : decode cX12_eats 1 = .ok (.iload_n 1, 1) := by decide +kernel
theorem dX12_eats_2 : decode cX12_eats 2 = .ok (.invokevirtual 144, 3) := by decide +kernel
theorem dX12_eats_5 : decode cX12_eats 5 = .ok (.ifCond .ne 5, 3) := by decide +kernel
theorem dX12_eats_8 : decode cX12_eats 8 = .ok (.iconst 0, 1) := by decide +kernel
theorem dX12_eats_9 : decode cX12_eats 9 = .ok (.ireturn, 1) := by decide +kernel
theorem dX12_eats_10 : decode cX12_eats 10 = .ok (.aload_n 0, 1) := by decide +kernel
theorem dX12_eats_11 : decode cX12_eats 11 = .ok (.invokevirtual 147, 3) := by decide +kernel
theorem dX12_eats_14 : decode cX12_eats 14 = .ok (.iconst 1, 1) := by decide +kernel
theorem dX12_eats_15 : decode cX12_eats 15 = .ok (.ireturn, 1) := by decide +kernel
theorem dX12_takes_0 : decode cX12_takes 0 = .ok (.aload_n 0, 1) := by decide +kernel
theorem dX12_takes_1 : decode cX12_takes 1 = .ok (.bipush 25, 2) := by decide +kernel
theorem dX12_takes_3 : decode cX12_takes 3 = .ok (.invokevirtual 144, 3) := by decide +kernel
theorem dX12_takes_6 : decode cX12_takes 6 = .ok (.ifCond .ne 11, 3) := by decide +kernel
theorem dX12_takes_9 : decode cX12_takes 9 = .ok (.aload_n 0, 1) := by decide +kernel
theorem dX12_takes_10 : decode cX12_takes 10 = .ok (.iconst 2, 1) := by decide +kernel
theorem dX12_takes_11 : decode cX12_takes 11 = .ok (.invokevirtual 150, 3) := by decide +kernel
theorem dX12_takes_14 : decode cX12_takes 14 = .ok (.goto 23, 3) := by decide +kernel
theorem dX12_takes_17 : decode cX12_takes 17 = .ok (.aload_n 0, 1) := by decide +kernel
theorem dX12_takes_18 : decode cX12_takes 18 = .ok (.getfield 133, 3) := by decide +kernel
theorem dX12_takes_21 : decode cX12_takes 21 = .ok (.i2l, 1) := by decide +kernel
theorem dX12_takes_22 : decode cX12_takes 22 = .ok (.iload_n 1, 1) := by decide +kernel
theorem dX12_takes_23 : decode cX12_takes 23 = .ok (.i2l, 1) := by decide +kernel
theorem dX12_takes_24 : decode cX12_takes 24 = .ok (.iload_n 2, 1) := by decide +kernel
theorem dX12_takes_25 : decode cX12_takes 25 = .ok (.i2l, 1) := by decide +kernel
theorem dX12_takes_26 : decode cX12_takes 26 = .ok (.invokestatic 154, 3) := by decide +kernel
theorem dX12_takes_29 : decode cX12_takes 29 = .ok (.ifCond .ne 8, 3) := by decide +kernel
theorem dX12_takes_32 : decode cX12_takes 32 = .ok (.aload_n 0, 1) := by decide +kernel
theorem dX12_takes_33 : decode cX12_takes 33 = .ok (.iconst 3, 1) := by decide +kernel
theorem dX12_takes_34 : decode cX12_takes 34 = .ok (.invokevirtual 150, 3) := by decide +kernel
theorem dX12_takes_37 : decode cX12_takes 37 = .ok (.aload_n 0, 1) := by decide +kernel
theorem dX12_takes_38 : decode cX12_takes 38 = .ok (.getfield 133, 3) := by decide +kernel
theorem dX12_takes_41 : decode cX12_takes 41 = .ok (.istore_n 3, 1) := by decide +kernel
theorem dX12_takes_42 : decode cX12_takes 42 = .ok (.aload_n 0, 1) := by decide +kernel
theorem dX12_takes_43 : decode cX12_takes 43 = .ok (.getfield 138, 3) := by decide +kernel
theorem dX12_takes_46 : decode cX12_takes 46 = .ok (.ifCond .ne 7, 3) := by decide +kernel
theorem dX12_takes_49 : decode cX12_takes 49 = .ok (.aload_n 0, 1) := by decide +kernel
theorem dX12_takes_50 : decode cX12_takes 50 = .ok (.invokevirtual 147, 3) := by decide +kernel
theorem dX12_takes_53 : decode cX12_takes 53 = .ok (.iload_n 3, 1) := by decide +kernel
theorem dX12_takes_54 : decode cX12_takes 54 = .ok (.ireturn, 1) := by decide +kernel
theorem dX12_isIn_0 : decode cX12_isIn 0 = .ok (.lload_n 0, 1) := by decide +kernel
theorem dX12_isIn_1 : decode cX12_isIn 1 = .ok (.iload_n 2, 1) := by decide +kernel
theorem dX12_isIn_2 : decode cX12_isIn 2 = .ok (.lshr, 1) := by decide +kernel
theorem dX12_isIn_3 : decode cX12_isIn 3 = .ok (.lconst 1, 1) := by decide +kernel
theorem dX12_isIn_4 : decode cX12_isIn 4 = .ok (.land, 1) := by decide +kernel
theorem dX12_isIn_5 : decode cX12_isIn 5 = .ok (.lconst 1, 1) := by decide +kernel
theorem dX12_isIn_6 : decode cX12_isIn 6 = .ok (.lcmp, 1) := by decide +kernel
theorem dX12_isIn_7 : decode cX12_isIn 7 = .ok (.ifCond .ne 7, 3) := by decide +kernel
theorem dX12_isIn_10 : decode cX12_isIn 10 = .ok (.iconst 1, 1) := by decide +kernel
theorem dX12_isIn_11 : decode cX12_isIn 11 = .ok (.goto 4, 3) := by decide +kernel
theorem dX12_isIn_14 : decode cX12_isIn 14 = .ok (.iconst 0, 1) := by decide +kernel
theorem dX12_isIn_15 : decode cX12_isIn 15 = .ok (.ireturn, 1) := by decide +kernel
theorem dX12_wordOf_0 : decode cX12_wordOf 0 = .ok (.iload_n 1, 1) := by decide +kernel
theorem dX12_wordOf_1 : decode cX12_wordOf 1 = .ok (.tableswitch 111 2 19 #[95, 111, 93, 111, 111, 87, 111, 111, 89, 111, 111, 111, 111, 111, 111, 111, 91, 97], 87) := by decide +kernel
theorem dX12_wordOf_88 : decode cX12_wordOf 88 = .ok (.iconst 0, 1) := by decide +kernel
theorem dX12_wordOf_89 : decode cX12_wordOf 89 = .ok (.ireturn, 1) := by decide +kernel
theorem dX12_wordOf_90 : decode cX12_wordOf 90 = .ok (.iconst 1, 1) := by decide +kernel
theorem dX12_wordOf_91 : decode cX12_wordOf 91 = .ok (.ireturn, 1) := by decide +kernel
theorem dX12_wordOf_92 : decode cX12_wordOf 92 = .ok (.iconst 2, 1) := by decide +kernel
theorem dX12_wordOf_93 : decode cX12_wordOf 93 = .ok (.ireturn, 1) := by decide +kernel
theorem dX12_wordOf_94 : decode cX12_wordOf 94 = .ok (.iconst 3, 1) := by decide +kernel
theorem dX12_wordOf_95 : decode cX12_wordOf 95 = .ok (.ireturn, 1) := by decide +kernel
theorem dX12_wordOf_96 : decode cX12_wordOf 96 = .ok (.iconst 4, 1) := by decide +kernel
theorem dX12_wordOf_97 : decode cX12_wordOf 97 = .ok (.ireturn, 1) := by decide +kernel
theorem dX12_wordOf_98 : decode cX12_wordOf 98 = .ok (.aload_n 0, 1) := by decide +kernel
theorem dX12_wordOf_99 : decode cX12_wordOf 99 = .ok (.getfield 158, 3) := by decide +kernel
theorem dX12_wordOf_102 : decode cX12_wordOf 102 = .ok (.iconst 1, 1) := by decide +kernel
theorem dX12_wordOf_103 : decode cX12_wordOf 103 = .ok (.if_icmp .ne 7, 3) := by decide +kernel
theorem dX12_wordOf_106 : decode cX12_wordOf 106 = .ok (.iconst 5, 1) := by decide +kernel
theorem dX12_wordOf_107 : decode cX12_wordOf 107 = .ok (.goto 4, 3) := by decide +kernel
theorem dX12_wordOf_110 : decode cX12_wordOf 110 = .ok (.iconst (-1), 1) := by decide +kernel
theorem dX12_wordOf_111 : decode cX12_wordOf 111 = .ok (.ireturn, 1) := by decide +kernel
theorem dX12_wordOf_112 : decode cX12_wordOf 112 = .ok (.iconst (-1), 1) := by decide +kernel
theorem dX12_wordOf_113 : decode cX12_wordOf 113 = .ok (.ireturn, 1) := by decide +kernel
theorem dX12_codes_0 : decode cX12_codes 0 = .ok (.aload_n 0, 1) := by decide +kernel
theorem dX12_codes_1 : decode cX12_codes 1 = .ok (.getfield 138, 3) := by decide +kernel
theorem dX12_codes_4 : decode cX12_codes 4 = .ok (.ifCond .eq 4, 3) := by decide +kernel
theorem dX12_codes_7 : decode cX12_codes 7 = .ok (.return_, 1) := by decide +kernel
theorem dX12_codes_8 : decode cX12_codes 8 = .ok (.aload_n 0, 1) := by decide +kernel
theorem dX12_codes_9 : decode cX12_codes 9 = .ok (.getfield 24, 3) := by decide +kernel
theorem dX12_codes_12 : decode cX12_codes 12 = .ok (.sipush 262, 3) := by decide +kernel
theorem dX12_codes_15 : decode cX12_codes 15 = .ok (.aload_n 0, 1) := by decide +kernel
theorem dX12_codes_16 : decode cX12_codes 16 = .ok (.getfield 24, 3) := by decide +kernel
theorem dX12_codes_19 : decode cX12_codes 19 = .ok (.sipush 261, 3) := by decide +kernel
theorem dX12_codes_22 : decode cX12_codes 22 = .ok (.iaload, 1) := by decide +kernel
theorem dX12_codes_23 : decode cX12_codes 23 = .ok (.iadd, 1) := by decide +kernel
theorem dX12_codes_24 : decode cX12_codes 24 = .ok (.iload_n 1, 1) := by decide +kernel
theorem dX12_codes_25 : decode cX12_codes 25 = .ok (.iastore, 1) := by decide +kernel
theorem dX12_codes_26 : decode cX12_codes 26 = .ok (.aload_n 0, 1) := by decide +kernel
theorem dX12_codes_27 : decode cX12_codes 27 = .ok (.getfield 24, 3) := by decide +kernel
theorem dX12_codes_30 : decode cX12_codes 30 = .ok (.sipush 261, 3) := by decide +kernel
theorem dX12_codes_33 : decode cX12_codes 33 = .ok (.dup2, 1) := by decide +kernel
theorem dX12_codes_34 : decode cX12_codes 34 = .ok (.iaload, 1) := by decide +kernel
theorem dX12_codes_35 : decode cX12_codes 35 = .ok (.iconst 1, 1) := by decide +kernel
theorem dX12_codes_36 : decode cX12_codes 36 = .ok (.iadd, 1) := by decide +kernel
theorem dX12_codes_37 : decode cX12_codes 37 = .ok (.iastore, 1) := by decide +kernel
theorem dX12_codes_38 : decode cX12_codes 38 = .ok (.return_, 1) := by decide +kernel
theorem dX12_goesIn_0 : decode cX12_goesIn 0 = .ok (.iload_n 1, 1) := by decide +kernel
theorem dX12_goesIn_1 : decode cX12_goesIn 1 = .ok (.bipush 6, 2) := by decide +kernel
theorem dX12_goesIn_3 : decode cX12_goesIn 3 = .ok (.if_icmp .ne 8, 3) := by decide +kernel
theorem dX12_goesIn_6 : decode cX12_goesIn 6 = .ok (.aload_n 0, 1) := by decide +kernel
theorem dX12_goesIn_7 : decode cX12_goesIn 7 = .ok (.iconst 4, 1) := by decide +kernel
theorem dX12_goesIn_8 : decode cX12_goesIn 8 = .ok (.invokevirtual 150, 3) := by decide +kernel
theorem dX12_goesIn_11 : decode cX12_goesIn 11 = .ok (.aload_n 0, 1) := by decide +kernel
theorem dX12_goesIn_12 : decode cX12_goesIn 12 = .ok (.getfield 138, 3) := by decide +kernel
theorem dX12_goesIn_15 : decode cX12_goesIn 15 = .ok (.ifCond .ne 7, 3) := by decide +kernel
theorem dX12_goesIn_18 : decode cX12_goesIn 18 = .ok (.aload_n 0, 1) := by decide +kernel
theorem dX12_goesIn_19 : decode cX12_goesIn 19 = .ok (.invokevirtual 147, 3) := by decide +kernel
theorem dX12_goesIn_22 : decode cX12_goesIn 22 = .ok (.aload_n 0, 1) := by decide +kernel
theorem dX12_goesIn_23 : decode cX12_goesIn 23 = .ok (.getfield 138, 3) := by decide +kernel
theorem dX12_goesIn_26 : decode cX12_goesIn 26 = .ok (.ifCond .ne 7, 3) := by decide +kernel
theorem dX12_goesIn_29 : decode cX12_goesIn 29 = .ok (.iconst 1, 1) := by decide +kernel
theorem dX12_goesIn_30 : decode cX12_goesIn 30 = .ok (.goto 4, 3) := by decide +kernel
theorem dX12_goesIn_33 : decode cX12_goesIn 33 = .ok (.iconst 0, 1) := by decide +kernel
theorem dX12_goesIn_34 : decode cX12_goesIn 34 = .ok (.ireturn, 1) := by decide +kernel
theorem dX12_readAtom_0 : decode cX12_readAtom 0 = .ok (.aload_n 0, 1) := by decide +kernel
theorem dX12_readAtom_1 : decode cX12_readAtom 1 = .ok (.bipush 25, 2) := by decide +kernel
theorem dX12_readAtom_3 : decode cX12_readAtom 3 = .ok (.invokevirtual 144, 3) := by decide +kernel
theorem dX12_readAtom_6 : decode cX12_readAtom 6 = .ok (.ifCond .eq 18, 3) := by decide +kernel
theorem dX12_readAtom_9 : decode cX12_readAtom 9 = .ok (.aload_n 0, 1) := by decide +kernel
theorem dX12_readAtom_10 : decode cX12_readAtom 10 = .ok (.aload_n 0, 1) := by decide +kernel
theorem dX12_readAtom_11 : decode cX12_readAtom 11 = .ok (.getfield 133, 3) := by decide +kernel
theorem dX12_readAtom_14 : decode cX12_readAtom 14 = .ok (.invokevirtual 161, 3) := by decide +kernel
theorem dX12_readAtom_17 : decode cX12_readAtom 17 = .ok (.aload_n 0, 1) := by decide +kernel
theorem dX12_readAtom_18 : decode cX12_readAtom 18 = .ok (.invokevirtual 147, 3) := by decide +kernel
theorem dX12_readAtom_21 : decode cX12_readAtom 21 = .ok (.goto 109, 3) := by decide +kernel
theorem dX12_readAtom_24 : decode cX12_readAtom 24 = .ok (.aload_n 0, 1) := by decide +kernel
theorem dX12_readAtom_25 : decode cX12_readAtom 25 = .ok (.getfield 138, 3) := by decide +kernel
theorem dX12_readAtom_28 : decode cX12_readAtom 28 = .ok (.ifCond .ne 38, 3) := by decide +kernel
theorem dX12_readAtom_31 : decode cX12_readAtom 31 = .ok (.aload_n 0, 1) := by decide +kernel
theorem dX12_readAtom_32 : decode cX12_readAtom 32 = .ok (.aload_n 0, 1) := by decide +kernel
theorem dX12_readAtom_33 : decode cX12_readAtom 33 = .ok (.getfield 120, 3) := by decide +kernel
theorem dX12_readAtom_36 : decode cX12_readAtom 36 = .ok (.invokevirtual 164, 3) := by decide +kernel
theorem dX12_readAtom_39 : decode cX12_readAtom 39 = .ok (.iconst (-1), 1) := by decide +kernel
theorem dX12_readAtom_40 : decode cX12_readAtom 40 = .ok (.if_icmp .eq 26, 3) := by decide +kernel
theorem dX12_readAtom_43 : decode cX12_readAtom 43 = .ok (.aload_n 0, 1) := by decide +kernel
theorem dX12_readAtom_44 : decode cX12_readAtom 44 = .ok (.sipush 1000, 3) := by decide +kernel
theorem dX12_readAtom_47 : decode cX12_readAtom 47 = .ok (.aload_n 0, 1) := by decide +kernel
theorem dX12_readAtom_48 : decode cX12_readAtom 48 = .ok (.aload_n 0, 1) := by decide +kernel
theorem dX12_readAtom_49 : decode cX12_readAtom 49 = .ok (.getfield 120, 3) := by decide +kernel
theorem dX12_readAtom_52 : decode cX12_readAtom 52 = .ok (.invokevirtual 164, 3) := by decide +kernel
theorem dX12_readAtom_55 : decode cX12_readAtom 55 = .ok (.iadd, 1) := by decide +kernel
theorem dX12_readAtom_56 : decode cX12_readAtom 56 = .ok (.invokevirtual 161, 3) := by decide +kernel
theorem dX12_readAtom_59 : decode cX12_readAtom 59 = .ok (.aload_n 0, 1) := by decide +kernel
theorem dX12_readAtom_60 : decode cX12_readAtom 60 = .ok (.invokevirtual 147, 3) := by decide +kernel
theorem dX12_readAtom_63 : decode cX12_readAtom 63 = .ok (.goto 67, 3) := by decide +kernel
theorem dX12_readAtom_66 : decode cX12_readAtom 66 = .ok (.aload_n 0, 1) := by decide +kernel
theorem dX12_readAtom_67 : decode cX12_readAtom 67 = .ok (.bipush 35, 2) := by decide +kernel
theorem dX12_readAtom_69 : decode cX12_readAtom 69 = .ok (.invokevirtual 144, 3) := by decide +kernel
theorem dX12_readAtom_72 : decode cX12_readAtom 72 = .ok (.ifCond .eq 36, 3) := by decide +kernel
theorem dX12_readAtom_75 : decode cX12_readAtom 75 = .ok (.aload_n 0, 1) := by decide +kernel
theorem dX12_readAtom_76 : decode cX12_readAtom 76 = .ok (.iload_n 1, 1) := by decide +kernel
theorem dX12_readAtom_77 : decode cX12_readAtom 77 = .ok (.invokevirtual 167, 3) := by decide +kernel
theorem dX12_readAtom_80 : decode cX12_readAtom 80 = .ok (.ifCond .ne 4, 3) := by decide +kernel
theorem dX12_readAtom_83 : decode cX12_readAtom 83 = .ok (.return_, 1) := by decide +kernel
theorem dX12_readAtom_84 : decode cX12_readAtom 84 = .ok (.aload_n 0, 1) := by decide +kernel
theorem dX12_readAtom_85 : decode cX12_readAtom 85 = .ok (.iload_n 1, 1) := by decide +kernel
theorem dX12_readAtom_86 : decode cX12_readAtom 86 = .ok (.iconst 1, 1) := by decide +kernel
theorem dX12_readAtom_87 : decode cX12_readAtom 87 = .ok (.iadd, 1) := by decide +kernel
theorem dX12_readAtom_88 : decode cX12_readAtom 88 = .ok (.invokevirtual 170, 3) := by decide +kernel
theorem dX12_readAtom_91 : decode cX12_readAtom 91 = .ok (.aload_n 0, 1) := by decide +kernel
theorem dX12_readAtom_92 : decode cX12_readAtom 92 = .ok (.bipush 36, 2) := by decide +kernel
theorem dX12_readAtom_94 : decode cX12_readAtom 94 = .ok (.invokevirtual 173, 3) := by decide +kernel
theorem dX12_readAtom_97 : decode cX12_readAtom 97 = .ok (.ifCond .ne 33, 3) := by decide +kernel
theorem dX12_readAtom_100 : decode cX12_readAtom 100 = .ok (.aload_n 0, 1) := by decide +kernel
theorem dX12_readAtom_101 : decode cX12_readAtom 101 = .ok (.iconst 2, 1) := by decide +kernel
theorem dX12_readAtom_102 : decode cX12_readAtom 102 = .ok (.invokevirtual 150, 3) := by decide +kernel
theorem dX12_readAtom_105 : decode cX12_readAtom 105 = .ok (.goto 25, 3) := by decide +kernel
theorem dX12_readAtom_108 : decode cX12_readAtom 108 = .ok (.aload_n 0, 1) := by decide +kernel
theorem dX12_readAtom_109 : decode cX12_readAtom 109 = .ok (.bipush 14, 2) := by decide +kernel
theorem dX12_readAtom_111 : decode cX12_readAtom 111 = .ok (.invokevirtual 144, 3) := by decide +kernel
theorem dX12_readAtom_114 : decode cX12_readAtom 114 = .ok (.ifCond .eq 11, 3) := by decide +kernel
theorem dX12_readAtom_117 : decode cX12_readAtom 117 = .ok (.aload_n 0, 1) := by decide +kernel
theorem dX12_readAtom_118 : decode cX12_readAtom 118 = .ok (.iload_n 1, 1) := by decide +kernel
theorem dX12_readAtom_119 : decode cX12_readAtom 119 = .ok (.invokevirtual 176, 3) := by decide +kernel
theorem dX12_readAtom_122 : decode cX12_readAtom 122 = .ok (.goto 8, 3) := by decide +kernel
theorem dX12_readAtom_125 : decode cX12_readAtom 125 = .ok (.aload_n 0, 1) := by decide +kernel
theorem dX12_readAtom_126 : decode cX12_readAtom 126 = .ok (.iconst 2, 1) := by decide +kernel
theorem dX12_readAtom_127 : decode cX12_readAtom 127 = .ok (.invokevirtual 150, 3) := by decide +kernel
theorem dX12_readAtom_130 : decode cX12_readAtom 130 = .ok (.return_, 1) := by decide +kernel
theorem dX12_readIf_0 : decode cX12_readIf 0 = .ok (.aload_n 0, 1) := by decide +kernel
theorem dX12_readIf_1 : decode cX12_readIf 1 = .ok (.iload_n 1, 1) := by decide +kernel
theorem dX12_readIf_2 : decode cX12_readIf 2 = .ok (.invokevirtual 167, 3) := by decide +kernel
theorem dX12_readIf_5 : decode cX12_readIf 5 = .ok (.ifCond .ne 4, 3) := by decide +kernel
theorem dX12_readIf_8 : decode cX12_readIf 8 = .ok (.return_, 1) := by decide +kernel
theorem dX12_readIf_9 : decode cX12_readIf 9 = .ok (.aload_n 0, 1) := by decide +kernel
theorem dX12_readIf_10 : decode cX12_readIf 10 = .ok (.iload_n 1, 1) := by decide +kernel
theorem dX12_readIf_11 : decode cX12_readIf 11 = .ok (.iconst 1, 1) := by decide +kernel
theorem dX12_readIf_12 : decode cX12_readIf 12 = .ok (.iadd, 1) := by decide +kernel
theorem dX12_readIf_13 : decode cX12_readIf 13 = .ok (.invokevirtual 179, 3) := by decide +kernel
theorem dX12_readIf_16 : decode cX12_readIf 16 = .ok (.aload_n 0, 1) := by decide +kernel
theorem dX12_readIf_17 : decode cX12_readIf 17 = .ok (.bipush 15, 2) := by decide +kernel
theorem dX12_readIf_19 : decode cX12_readIf 19 = .ok (.invokevirtual 173, 3) := by decide +kernel
theorem dX12_readIf_22 : decode cX12_readIf 22 = .ok (.ifCond .ne 8, 3) := by decide +kernel
theorem dX12_readIf_25 : decode cX12_readIf 25 = .ok (.aload_n 0, 1) := by decide +kernel
theorem dX12_readIf_26 : decode cX12_readIf 26 = .ok (.iconst 2, 1) := by decide +kernel
theorem dX12_readIf_27 : decode cX12_readIf 27 = .ok (.invokevirtual 150, 3) := by decide +kernel
theorem dX12_readIf_30 : decode cX12_readIf 30 = .ok (.aload_n 0, 1) := by decide +kernel
theorem dX12_readIf_31 : decode cX12_readIf 31 = .ok (.iload_n 1, 1) := by decide +kernel
theorem dX12_readIf_32 : decode cX12_readIf 32 = .ok (.iconst 1, 1) := by decide +kernel
theorem dX12_readIf_33 : decode cX12_readIf 33 = .ok (.iadd, 1) := by decide +kernel
theorem dX12_readIf_34 : decode cX12_readIf 34 = .ok (.invokevirtual 170, 3) := by decide +kernel
theorem dX12_readIf_37 : decode cX12_readIf 37 = .ok (.aload_n 0, 1) := by decide +kernel
theorem dX12_readIf_38 : decode cX12_readIf 38 = .ok (.bipush 16, 2) := by decide +kernel
theorem dX12_readIf_40 : decode cX12_readIf 40 = .ok (.invokevirtual 173, 3) := by decide +kernel
theorem dX12_readIf_43 : decode cX12_readIf 43 = .ok (.ifCond .ne 8, 3) := by decide +kernel
theorem dX12_readIf_46 : decode cX12_readIf 46 = .ok (.aload_n 0, 1) := by decide +kernel
theorem dX12_readIf_47 : decode cX12_readIf 47 = .ok (.iconst 2, 1) := by decide +kernel
theorem dX12_readIf_48 : decode cX12_readIf 48 = .ok (.invokevirtual 150, 3) := by decide +kernel
theorem dX12_readIf_51 : decode cX12_readIf 51 = .ok (.aload_n 0, 1) := by decide +kernel
theorem dX12_readIf_52 : decode cX12_readIf 52 = .ok (.iload_n 1, 1) := by decide +kernel
theorem dX12_readIf_53 : decode cX12_readIf 53 = .ok (.iconst 1, 1) := by decide +kernel
theorem dX12_readIf_54 : decode cX12_readIf 54 = .ok (.iadd, 1) := by decide +kernel
theorem dX12_readIf_55 : decode cX12_readIf 55 = .ok (.invokevirtual 170, 3) := by decide +kernel
theorem dX12_readIf_58 : decode cX12_readIf 58 = .ok (.aload_n 0, 1) := by decide +kernel
theorem dX12_readIf_59 : decode cX12_readIf 59 = .ok (.bipush 17, 2) := by decide +kernel
theorem dX12_readIf_61 : decode cX12_readIf 61 = .ok (.invokevirtual 173, 3) := by decide +kernel
theorem dX12_readIf_64 : decode cX12_readIf 64 = .ok (.ifCond .ne 8, 3) := by decide +kernel
theorem dX12_readIf_67 : decode cX12_readIf 67 = .ok (.aload_n 0, 1) := by decide +kernel
theorem dX12_readIf_68 : decode cX12_readIf 68 = .ok (.iconst 2, 1) := by decide +kernel
theorem dX12_readIf_69 : decode cX12_readIf 69 = .ok (.invokevirtual 150, 3) := by decide +kernel
theorem dX12_readIf_72 : decode cX12_readIf 72 = .ok (.aload_n 0, 1) := by decide +kernel
theorem dX12_readIf_73 : decode cX12_readIf 73 = .ok (.sipush 3009, 3) := by decide +kernel
theorem dX12_readIf_76 : decode cX12_readIf 76 = .ok (.invokevirtual 161, 3) := by decide +kernel
theorem dX12_readIf_79 : decode cX12_readIf 79 = .ok (.return_, 1) := by decide +kernel
theorem dX12_readTerm_0 : decode cX12_readTerm 0 = .ok (.aload_n 0, 1) := by decide +kernel
theorem dX12_readTerm_1 : decode cX12_readTerm 1 = .ok (.iload_n 1, 1) := by decide +kernel
theorem dX12_readTerm_2 : decode cX12_readTerm 2 = .ok (.invokevirtual 182, 3) := by decide +kernel
theorem dX12_readTerm_5 : decode cX12_readTerm 5 = .ok (.aload_n 0, 1) := by decide +kernel
theorem dX12_readTerm_6 : decode cX12_readTerm 6 = .ok (.bipush 34, 2) := by decide +kernel
theorem dX12_readTerm_8 : decode cX12_readTerm 8 = .ok (.invokevirtual 173, 3) := by decide +kernel
theorem dX12_readTerm_11 : decode cX12_readTerm 11 = .ok (.ifCond .eq 18, 3) := by decide +kernel
theorem dX12_readTerm_14 : decode cX12_readTerm 14 = .ok (.aload_n 0, 1) := by decide +kernel
theorem dX12_readTerm_15 : decode cX12_readTerm 15 = .ok (.iload_n 1, 1) := by decide +kernel
theorem dX12_readTerm_16 : decode cX12_readTerm 16 = .ok (.invokevirtual 182, 3) := by decide +kernel
theorem dX12_readTerm_19 : decode cX12_readTerm 19 = .ok (.aload_n 0, 1) := by decide +kernel
theorem dX12_readTerm_20 : decode cX12_readTerm 20 = .ok (.sipush 3002, 3) := by decide +kernel
theorem dX12_readTerm_23 : decode cX12_readTerm 23 = .ok (.invokevirtual 161, 3) := by decide +kernel
theorem dX12_readTerm_26 : decode cX12_readTerm 26 = .ok (.goto (-21), 3) := by decide +kernel
theorem dX12_readTerm_29 : decode cX12_readTerm 29 = .ok (.return_, 1) := by decide +kernel
theorem dX12_readSum_0 : decode cX12_readSum 0 = .ok (.aload_n 0, 1) := by decide +kernel
theorem dX12_readSum_1 : decode cX12_readSum 1 = .ok (.iload_n 1, 1) := by decide +kernel
theorem dX12_readSum_2 : decode cX12_readSum 2 = .ok (.invokevirtual 185, 3) := by decide +kernel
theorem dX12_readSum_5 : decode cX12_readSum 5 = .ok (.aload_n 0, 1) := by decide +kernel
theorem dX12_readSum_6 : decode cX12_readSum 6 = .ok (.bipush 32, 2) := by decide +kernel
theorem dX12_readSum_8 : decode cX12_readSum 8 = .ok (.invokevirtual 144, 3) := by decide +kernel
theorem dX12_readSum_11 : decode cX12_readSum 11 = .ok (.ifCond .ne 12, 3) := by decide +kernel
theorem dX12_readSum_14 : decode cX12_readSum 14 = .ok (.aload_n 0, 1) := by decide +kernel
theorem dX12_readSum_15 : decode cX12_readSum 15 = .ok (.bipush 33, 2) := by decide +kernel
theorem dX12_readSum_17 : decode cX12_readSum 17 = .ok (.invokevirtual 144, 3) := by decide +kernel
theorem dX12_readSum_20 : decode cX12_readSum 20 = .ok (.ifCond .eq 39, 3) := by decide +kernel
theorem dX12_readSum_23 : decode cX12_readSum 23 = .ok (.aload_n 0, 1) := by decide +kernel
theorem dX12_readSum_24 : decode cX12_readSum 24 = .ok (.getfield 120, 3) := by decide +kernel
theorem dX12_readSum_27 : decode cX12_readSum 27 = .ok (.bipush 32, 2) := by decide +kernel
theorem dX12_readSum_29 : decode cX12_readSum 29 = .ok (.if_icmp .ne 9, 3) := by decide +kernel
theorem dX12_readSum_32 : decode cX12_readSum 32 = .ok (.sipush 3000, 3) := by decide +kernel
theorem dX12_readSum_35 : decode cX12_readSum 35 = .ok (.goto 6, 3) := by decide +kernel
theorem dX12_readSum_38 : decode cX12_readSum 38 = .ok (.sipush 3001, 3) := by decide +kernel
theorem dX12_readSum_41 : decode cX12_readSum 41 = .ok (.istore_n 2, 1) := by decide +kernel
theorem dX12_readSum_42 : decode cX12_readSum 42 = .ok (.aload_n 0, 1) := by decide +kernel
theorem dX12_readSum_43 : decode cX12_readSum 43 = .ok (.invokevirtual 147, 3) := by decide +kernel
theorem dX12_readSum_46 : decode cX12_readSum 46 = .ok (.aload_n 0, 1) := by decide +kernel
theorem dX12_readSum_47 : decode cX12_readSum 47 = .ok (.iload_n 1, 1) := by decide +kernel
theorem dX12_readSum_48 : decode cX12_readSum 48 = .ok (.invokevirtual 185, 3) := by decide +kernel
theorem dX12_readSum_51 : decode cX12_readSum 51 = .ok (.aload_n 0, 1) := by decide +kernel
theorem dX12_readSum_52 : decode cX12_readSum 52 = .ok (.iload_n 2, 1) := by decide +kernel
theorem dX12_readSum_53 : decode cX12_readSum 53 = .ok (.invokevirtual 161, 3) := by decide +kernel
theorem dX12_readSum_56 : decode cX12_readSum 56 = .ok (.goto (-51), 3) := by decide +kernel
theorem dX12_readSum_59 : decode cX12_readSum 59 = .ok (.return_, 1) := by decide +kernel
theorem dX12_readUnit_0 : decode cX12_readUnit 0 = .ok (.aload_n 0, 1) := by decide +kernel
theorem dX12_readUnit_1 : decode cX12_readUnit 1 = .ok (.bipush 22, 2) := by decide +kernel
theorem dX12_readUnit_3 : decode cX12_readUnit 3 = .ok (.invokevirtual 144, 3) := by decide +kernel
theorem dX12_readUnit_6 : decode cX12_readUnit 6 = .ok (.ifCond .eq 27, 3) := by decide +kernel
theorem dX12_readUnit_9 : decode cX12_readUnit 9 = .ok (.aload_n 0, 1) := by decide +kernel
theorem dX12_readUnit_10 : decode cX12_readUnit 10 = .ok (.iload_n 1, 1) := by decide +kernel
theorem dX12_readUnit_11 : decode cX12_readUnit 11 = .ok (.invokevirtual 167, 3) := by decide +kernel
theorem dX12_readUnit_14 : decode cX12_readUnit 14 = .ok (.ifCond .ne 4, 3) := by decide +kernel
theorem dX12_readUnit_17 : decode cX12_readUnit 17 = .ok (.return_, 1) := by decide +kernel
theorem dX12_readUnit_18 : decode cX12_readUnit 18 = .ok (.aload_n 0, 1) := by decide +kernel
theorem dX12_readUnit_19 : decode cX12_readUnit 19 = .ok (.iload_n 1, 1) := by decide +kernel
theorem dX12_readUnit_20 : decode cX12_readUnit 20 = .ok (.iconst 1, 1) := by decide +kernel
theorem dX12_readUnit_21 : decode cX12_readUnit 21 = .ok (.iadd, 1) := by decide +kernel
theorem dX12_readUnit_22 : decode cX12_readUnit 22 = .ok (.invokevirtual 188, 3) := by decide +kernel
theorem dX12_readUnit_25 : decode cX12_readUnit 25 = .ok (.aload_n 0, 1) := by decide +kernel
theorem dX12_readUnit_26 : decode cX12_readUnit 26 = .ok (.sipush 3006, 3) := by decide +kernel
theorem dX12_readUnit_29 : decode cX12_readUnit 29 = .ok (.invokevirtual 161, 3) := by decide +kernel
theorem dX12_readUnit_32 : decode cX12_readUnit 32 = .ok (.return_, 1) := by decide +kernel
theorem dX12_readUnit_33 : decode cX12_readUnit 33 = .ok (.aload_n 0, 1) := by decide +kernel
theorem dX12_readUnit_34 : decode cX12_readUnit 34 = .ok (.bipush 37, 2) := by decide +kernel
theorem dX12_readUnit_36 : decode cX12_readUnit 36 = .ok (.invokevirtual 144, 3) := by decide +kernel
theorem dX12_readUnit_39 : decode cX12_readUnit 39 = .ok (.ifCond .eq 34, 3) := by decide +kernel
theorem dX12_readUnit_42 : decode cX12_readUnit 42 = .ok (.aload_n 0, 1) := by decide +kernel
theorem dX12_readUnit_43 : decode cX12_readUnit 43 = .ok (.iload_n 1, 1) := by decide +kernel
theorem dX12_readUnit_44 : decode cX12_readUnit 44 = .ok (.invokevirtual 167, 3) := by decide +kernel
theorem dX12_readUnit_47 : decode cX12_readUnit 47 = .ok (.ifCond .ne 4, 3) := by decide +kernel
theorem dX12_readUnit_50 : decode cX12_readUnit 50 = .ok (.return_, 1) := by decide +kernel
theorem dX12_readUnit_51 : decode cX12_readUnit 51 = .ok (.aload_n 0, 1) := by decide +kernel
theorem dX12_readUnit_52 : decode cX12_readUnit 52 = .ok (.iload_n 1, 1) := by decide +kernel
theorem dX12_readUnit_53 : decode cX12_readUnit 53 = .ok (.iconst 1, 1) := by decide +kernel
theorem dX12_readUnit_54 : decode cX12_readUnit 54 = .ok (.iadd, 1) := by decide +kernel
theorem dX12_readUnit_55 : decode cX12_readUnit 55 = .ok (.invokevirtual 179, 3) := by decide +kernel
theorem dX12_readUnit_58 : decode cX12_readUnit 58 = .ok (.aload_n 0, 1) := by decide +kernel
theorem dX12_readUnit_59 : decode cX12_readUnit 59 = .ok (.bipush 38, 2) := by decide +kernel
theorem dX12_readUnit_61 : decode cX12_readUnit 61 = .ok (.invokevirtual 173, 3) := by decide +kernel
theorem dX12_readUnit_64 : decode cX12_readUnit 64 = .ok (.ifCond .ne 8, 3) := by decide +kernel
theorem dX12_readUnit_67 : decode cX12_readUnit 67 = .ok (.aload_n 0, 1) := by decide +kernel
theorem dX12_readUnit_68 : decode cX12_readUnit 68 = .ok (.iconst 2, 1) := by decide +kernel
theorem dX12_readUnit_69 : decode cX12_readUnit 69 = .ok (.invokevirtual 150, 3) := by decide +kernel
theorem dX12_readUnit_72 : decode cX12_readUnit 72 = .ok (.return_, 1) := by decide +kernel
theorem dX12_readUnit_73 : decode cX12_readUnit 73 = .ok (.aload_n 0, 1) := by decide +kernel
